/-! FACTS, by program: methods, straight stretches, branches, links -/
def MX0_init : Ms := (yX0_init, cX0_init, 1, none, [])
set_option maxRecDepth 100000 in
theorem kX0_init : mkI MX0_init 0 := ⟨⟨List.mem_of_getElem? (i := 88) (by rfl), by decide +kernel⟩, by decide +kernel⟩
theorem sX0_init_0 : dsOk (MN MX0_init).cls (MB MX0_init) 0 [(.aload_n 0, 0, 0, 0)] 1 = true := by decide +kernel
theorem dX0_init_1 : decode (MB MX0_init) 1 = .ok (.invokespecial 3, 3) := by decide +kernel
theorem sX0_init_4 : dsOk (MN MX0_init).cls (MB MX0_init) 4 [(.aload_n 0, 0, 0, 0)] 5 = true := by decide +kernel
theorem dX0_init_5 : decode (MB MX0_init) 5 = .ok (.new 9, 3) := by decide +kernel
theorem sX0_init_8 : dsOk (MN MX0_init).cls (MB MX0_init) 8 [(.dup, 0, 0, 0)] 9 = true := by decide +kernel
theorem dX0_init_9 : decode (MB MX0_init) 9 = .ok (.invokespecial 11, 3) := by decide +kernel
theorem dX0_init_12 : decode (MB MX0_init) 12 = .ok (.putfield 12, 3) := by decide +kernel
theorem sX0_init_15 : dsOk (MN MX0_init).cls (MB MX0_init) 15 [(.aload_n 0, 0, 0, 0)] 16 = true := by decide +kernel
theorem dX0_init_16 : decode (MB MX0_init) 16 = .ok (.new 9, 3) := by decide +kernel
theorem sX0_init_19 : dsOk (MN MX0_init).cls (MB MX0_init) 19 [(.dup, 0, 0, 0)] 20 = true := by decide +kernel
theorem dX0_init_20 : decode (MB MX0_init) 20 = .ok (.invokespecial 11, 3) := by decide +kernel
theorem dX0_init_23 : decode (MB MX0_init) 23 = .ok (.putfield 18, 3) := by decide +kernel
theorem dX0_init_26 : decode (MB MX0_init) 26 = .ok (.return_, 1) := by decide +kernel
def MX0_begin : Ms := (yX0_begin, cX0_begin, 2, none, [])
set_option maxRecDepth 100000 in
theorem kX0_begin : mkV MX0_begin 1 := ⟨⟨List.mem_of_getElem? (i := 722) (by rfl), by decide +kernel⟩, by decide +kernel⟩
theorem sX0_begin_0 : dsOk (MN MX0_begin).cls (MB MX0_begin) 0 [(.aload_n 0, 0, 0, 0), (.iload_n 1, 0, 0, 0), (.putfield 21, 0, 0, 0), (.aload_n 0, 0, 0, 0), (.iconst 0, 0, 0, 0), (.putfield 25, 0, 1, 0), (.aload_n 0, 0, 0, 0), (.iconst 0, 0, 0, 0), (.putfield 28, 0, 2, 0), (.aload_n 0, 0, 0, 0), (.iconst 0, 0, 0, 0), (.putfield 31, 0, 3, 0), (.aload_n 0, 0, 0, 0), (.iconst 0, 0, 0, 0), (.putfield 34, 0, 4, 0), (.aload_n 0, 0, 0, 0), (.getfield 12, 0, 5, 0)] 29 = true := by decide +kernel
theorem dX0_begin_29 : decode (MB MX0_begin) 29 = .ok (.invokevirtual 37, 3) := by decide +kernel
theorem dX0_begin_32 : decode (MB MX0_begin) 32 = .ok (.return_, 1) := by decide +kernel
def MX0_hasLeaf : Ms := (yX0_hasLeaf, cX0_hasLeaf, 2, (some .boolean), [])
set_option maxRecDepth 100000 in
theorem kX0_hasLeaf : mkV MX0_hasLeaf 1 := ⟨⟨List.mem_of_getElem? (i := 665) (by rfl), by decide +kernel⟩, by decide +kernel⟩
theorem sX0_hasLeaf_0 : dsOk (MN MX0_hasLeaf).cls (MB MX0_hasLeaf) 0 [(.iload_n 1, 0, 0, 0)] 1 = true := by decide +kernel
theorem dX0_hasLeaf_1 : decode (MB MX0_hasLeaf) 1 = .ok (.ifCond .lt 15, 3) := by decide +kernel
theorem sX0_hasLeaf_4 : dsOk (MN MX0_hasLeaf).cls (MB MX0_hasLeaf) 4 [(.iload_n 1, 0, 0, 0), (.aload_n 0, 0, 0, 0), (.getfield 25, 0, 1, 0)] 9 = true := by decide +kernel
theorem dX0_hasLeaf_9 : decode (MB MX0_hasLeaf) 9 = .ok (.if_icmp .ge 7, 3) := by decide +kernel
theorem sX0_hasLeaf_12 : dsOk (MN MX0_hasLeaf).cls (MB MX0_hasLeaf) 12 [(.iconst 1, 0, 0, 0)] 13 = true := by decide +kernel
theorem dX0_hasLeaf_13 : decode (MB MX0_hasLeaf) 13 = .ok (.goto 4, 3) := by decide +kernel
theorem sX0_hasLeaf_16 : dsOk (MN MX0_hasLeaf).cls (MB MX0_hasLeaf) 16 [(.iconst 0, 0, 0, 0)] 17 = true := by decide +kernel
theorem dX0_hasLeaf_17 : decode (MB MX0_hasLeaf) 17 = .ok (.ireturn, 1) := by decide +kernel
def MX0_hasPage : Ms := (yX0_hasPage, cX0_hasPage, 2, (some .boolean), [])
set_option maxRecDepth 100000 in
theorem kX0_hasPage : mkV MX0_hasPage 1 := ⟨⟨List.mem_of_getElem? (i := 873) (by rfl), by decide +kernel⟩, by decide +kernel⟩
theorem sX0_hasPage_0 : dsOk (MN MX0_hasPage).cls (MB MX0_hasPage) 0 [(.iload_n 1, 0, 0, 0), (.iconst 1, 0, 0, 0)] 2 = true := by decide +kernel
theorem dX0_hasPage_2 : decode (MB MX0_hasPage) 2 = .ok (.if_icmp .lt 17, 3) := by decide +kernel
theorem sX0_hasPage_5 : dsOk (MN MX0_hasPage).cls (MB MX0_hasPage) 5 [(.iload_n 1, 0, 0, 0), (.iconst 2, 0, 0, 0), (.aload_n 0, 0, 0, 0), (.getfield 25, 0, 1, 0), (.imul, 0, 0, 0)] 12 = true := by decide +kernel
theorem dX0_hasPage_12 : decode (MB MX0_hasPage) 12 = .ok (.if_icmp .gt 7, 3) := by decide +kernel
theorem sX0_hasPage_15 : dsOk (MN MX0_hasPage).cls (MB MX0_hasPage) 15 [(.iconst 1, 0, 0, 0)] 16 = true := by decide +kernel
theorem dX0_hasPage_16 : decode (MB MX0_hasPage) 16 = .ok (.goto 4, 3) := by decide +kernel
theorem sX0_hasPage_19 : dsOk (MN MX0_hasPage).cls (MB MX0_hasPage) 19 [(.iconst 0, 0, 0, 0)] 20 = true := by decide +kernel
theorem dX0_hasPage_20 : decode (MB MX0_hasPage) 20 = .ok (.ireturn, 1) := by decide +kernel
def MX0_there : Ms := (yX0_there, cX0_there, 1, (some .int), [])
set_option maxRecDepth 100000 in
theorem kX0_there : mkV MX0_there 0 := ⟨⟨List.mem_of_getElem? (i := 1235) (by rfl), by decide +kernel⟩, by decide +kernel⟩
theorem sX0_there_0 : dsOk (MN MX0_there).cls (MB MX0_there) 0 [(.aload_n 0, 0, 0, 0), (.getfield 25, 0, 1, 0), (.aload_n 0, 0, 0, 0), (.getfield 12, 0, 5, 0)] 8 = true := by decide +kernel
theorem dX0_there_8 : decode (MB MX0_there) 8 = .ok (.invokevirtual 40, 3) := by decide +kernel
theorem sX0_there_11 : dsOk (MN MX0_there).cls (MB MX0_there) 11 [(.isub, 0, 0, 0)] 12 = true := by decide +kernel
theorem dX0_there_12 : decode (MB MX0_there) 12 = .ok (.ireturn, 1) := by decide +kernel
def MX0_thereAt : Ms := (yX0_thereAt, cX0_thereAt, 4, (some .int), [])
set_option maxRecDepth 100000 in
theorem kX0_thereAt : mkV MX0_thereAt 1 := ⟨⟨List.mem_of_getElem? (i := 1241) (by rfl), by decide +kernel⟩, by decide +kernel⟩
theorem sX0_thereAt_0 : dsOk (MN MX0_thereAt).cls (MB MX0_thereAt) 0 [(.iconst 0, 0, 0, 0), (.istore_n 2, 0, 0, 0), (.iconst 0, 0, 0, 0), (.istore_n 3, 0, 0, 0)] 4 = true := by decide +kernel
theorem sX0_thereAt_4 : dsOk (MN MX0_thereAt).cls (MB MX0_thereAt) 4 [(.iload_n 3, 0, 0, 0), (.aload_n 0, 0, 0, 0), (.getfield 25, 0, 1, 0)] 9 = true := by decide +kernel
theorem dX0_thereAt_9 : decode (MB MX0_thereAt) 9 = .ok (.if_icmp .ge 30, 3) := by decide +kernel
theorem sX0_thereAt_12 : dsOk (MN MX0_thereAt).cls (MB MX0_thereAt) 12 [(.aload_n 0, 0, 0, 0), (.getfield 12, 0, 5, 0), (.iload_n 3, 0, 0, 0)] 17 = true := by decide +kernel
theorem dX0_thereAt_17 : decode (MB MX0_thereAt) 17 = .ok (.invokevirtual 44, 3) := by decide +kernel
theorem dX0_thereAt_20 : decode (MB MX0_thereAt) 20 = .ok (.ifCond .ne 13, 3) := by decide +kernel
theorem sX0_thereAt_23 : dsOk (MN MX0_thereAt).cls (MB MX0_thereAt) 23 [(.iload_n 2, 0, 0, 0), (.iload_n 1, 0, 0, 0)] 25 = true := by decide +kernel
theorem dX0_thereAt_25 : decode (MB MX0_thereAt) 25 = .ok (.if_icmp .ne 5, 3) := by decide +kernel
theorem sX0_thereAt_28 : dsOk (MN MX0_thereAt).cls (MB MX0_thereAt) 28 [(.iload_n 3, 0, 0, 0)] 29 = true := by decide +kernel
theorem dX0_thereAt_29 : decode (MB MX0_thereAt) 29 = .ok (.ireturn, 1) := by decide +kernel
theorem sX0_thereAt_30 : dsOk (MN MX0_thereAt).cls (MB MX0_thereAt) 30 [(.iinc 2 1, 0, 0, 0)] 33 = true := by decide +kernel
theorem sX0_thereAt_33 : dsOk (MN MX0_thereAt).cls (MB MX0_thereAt) 33 [(.iinc 3 1, 0, 0, 0)] 36 = true := by decide +kernel
theorem dX0_thereAt_36 : decode (MB MX0_thereAt) 36 = .ok (.goto (-32), 3) := by decide +kernel
theorem sX0_thereAt_39 : dsOk (MN MX0_thereAt).cls (MB MX0_thereAt) 39 [(.iconst (-1), 0, 0, 0)] 40 = true := by decide +kernel
theorem dX0_thereAt_40 : decode (MB MX0_thereAt) 40 = .ok (.ireturn, 1) := by decide +kernel
def MX0_ownNumber : Ms := (yX0_ownNumber, cX0_ownNumber, 2, (some .int), [])
set_option maxRecDepth 100000 in
theorem kX0_ownNumber : mkV MX0_ownNumber 1 := ⟨⟨List.mem_of_getElem? (i := 882) (by rfl), by decide +kernel⟩, by decide +kernel⟩
theorem sX0_ownNumber_0 : dsOk (MN MX0_ownNumber).cls (MB MX0_ownNumber) 0 [(.aload_n 0, 0, 0, 0), (.getfield 21, 0, 0, 0)] 4 = true := by decide +kernel
theorem dX0_ownNumber_4 : decode (MB MX0_ownNumber) 4 = .ok (.tableswitch 72 2 5 #[32, 51, 57, 61], 32) := by decide +kernel
theorem sX0_ownNumber_36 : dsOk (MN MX0_ownNumber).cls (MB MX0_ownNumber) 36 [(.iload_n 1, 0, 0, 0), (.aload_n 0, 0, 0, 0), (.getfield 28, 0, 2, 0)] 41 = true := by decide +kernel
theorem dX0_ownNumber_41 : decode (MB MX0_ownNumber) 41 = .ok (.if_icmp .le 12, 3) := by decide +kernel
theorem sX0_ownNumber_44 : dsOk (MN MX0_ownNumber).cls (MB MX0_ownNumber) 44 [(.iload_n 1, 0, 0, 0), (.aload_n 0, 0, 0, 0), (.getfield 28, 0, 2, 0), (.isub, 0, 0, 0)] 50 = true := by decide +kernel
theorem dX0_ownNumber_50 : decode (MB MX0_ownNumber) 50 = .ok (.goto 4, 3) := by decide +kernel
theorem sX0_ownNumber_53 : dsOk (MN MX0_ownNumber).cls (MB MX0_ownNumber) 53 [(.iconst 0, 0, 0, 0)] 54 = true := by decide +kernel
theorem dX0_ownNumber_54 : decode (MB MX0_ownNumber) 54 = .ok (.ireturn, 1) := by decide +kernel
theorem sX0_ownNumber_55 : dsOk (MN MX0_ownNumber).cls (MB MX0_ownNumber) 55 [(.iconst 2, 0, 0, 0), (.iload_n 1, 0, 0, 0), (.imul, 0, 0, 0), (.iconst 1, 0, 0, 0), (.isub, 0, 0, 0)] 60 = true := by decide +kernel
theorem dX0_ownNumber_60 : decode (MB MX0_ownNumber) 60 = .ok (.ireturn, 1) := by decide +kernel
theorem sX0_ownNumber_61 : dsOk (MN MX0_ownNumber).cls (MB MX0_ownNumber) 61 [(.iconst 2, 0, 0, 0), (.iload_n 1, 0, 0, 0), (.imul, 0, 0, 0)] 64 = true := by decide +kernel
theorem dX0_ownNumber_64 : decode (MB MX0_ownNumber) 64 = .ok (.ireturn, 1) := by decide +kernel
theorem sX0_ownNumber_65 : dsOk (MN MX0_ownNumber).cls (MB MX0_ownNumber) 65 [(.aload_n 0, 0, 0, 0), (.getfield 28, 0, 2, 0), (.iload_n 1, 0, 0, 0), (.i2l, 0, 0, 0)] 71 = true := by decide +kernel
theorem dX0_ownNumber_71 : decode (MB MX0_ownNumber) 71 = .ok (.invokestatic 48, 3) := by decide +kernel
theorem sX0_ownNumber_74 : dsOk (MN MX0_ownNumber).cls (MB MX0_ownNumber) 74 [(.l2i, 0, 0, 0)] 75 = true := by decide +kernel
theorem dX0_ownNumber_75 : decode (MB MX0_ownNumber) 75 = .ok (.ireturn, 1) := by decide +kernel
theorem sX0_ownNumber_76 : dsOk (MN MX0_ownNumber).cls (MB MX0_ownNumber) 76 [(.iload_n 1, 0, 0, 0)] 77 = true := by decide +kernel
theorem dX0_ownNumber_77 : decode (MB MX0_ownNumber) 77 = .ok (.ireturn, 1) := by decide +kernel
def MX0_pageBearing : Ms := (yX0_pageBearing, cX0_pageBearing, 2, (some .long), [])
set_option maxRecDepth 100000 in
theorem kX0_pageBearing : mkV MX0_pageBearing 1 := ⟨⟨List.mem_of_getElem? (i := 925) (by rfl), by decide +kernel⟩, by decide +kernel⟩
theorem sX0_pageBearing_0 : dsOk (MN MX0_pageBearing).cls (MB MX0_pageBearing) 0 [(.aload_n 0, 0, 0, 0), (.getfield 21, 0, 0, 0)] 4 = true := by decide +kernel
theorem dX0_pageBearing_4 : decode (MB MX0_pageBearing) 4 = .ok (.tableswitch 89 2 5 #[32, 41, 62, 79], 32) := by decide +kernel
theorem sX0_pageBearing_36 : dsOk (MN MX0_pageBearing).cls (MB MX0_pageBearing) 36 [(.iload_n 1, 0, 0, 0), (.i2l, 0, 0, 0), (.aload_n 0, 0, 0, 0), (.getfield 28, 0, 2, 0), (.i2l, 0, 0, 0), (.ladd, 0, 0, 0)] 44 = true := by decide +kernel
theorem dX0_pageBearing_44 : decode (MB MX0_pageBearing) 44 = .ok (.lreturn, 1) := by decide +kernel
theorem sX0_pageBearing_45 : dsOk (MN MX0_pageBearing).cls (MB MX0_pageBearing) 45 [(.iload_n 1, 0, 0, 0), (.iconst 2, 0, 0, 0), (.irem, 0, 0, 0)] 48 = true := by decide +kernel
theorem dX0_pageBearing_48 : decode (MB MX0_pageBearing) 48 = .ok (.ifCond .eq 14, 3) := by decide +kernel
theorem sX0_pageBearing_51 : dsOk (MN MX0_pageBearing).cls (MB MX0_pageBearing) 51 [(.iload_n 1, 0, 0, 0), (.i2l, 0, 0, 0), (.lconst 1, 0, 0, 1), (.ladd, 0, 0, 0), (.ldc2_w 54, 0, 0, 2), (.ldiv, 0, 0, 0)] 59 = true := by decide +kernel
theorem dX0_pageBearing_59 : decode (MB MX0_pageBearing) 59 = .ok (.goto 6, 3) := by decide +kernel
theorem sX0_pageBearing_62 : dsOk (MN MX0_pageBearing).cls (MB MX0_pageBearing) 62 [(.ldc2_w 56, 0, 0, -1)] 65 = true := by decide +kernel
theorem dX0_pageBearing_65 : decode (MB MX0_pageBearing) 65 = .ok (.lreturn, 1) := by decide +kernel
theorem sX0_pageBearing_66 : dsOk (MN MX0_pageBearing).cls (MB MX0_pageBearing) 66 [(.iload_n 1, 0, 0, 0), (.iconst 2, 0, 0, 0), (.irem, 0, 0, 0)] 69 = true := by decide +kernel
theorem dX0_pageBearing_69 : decode (MB MX0_pageBearing) 69 = .ok (.ifCond .ne 10, 3) := by decide +kernel
theorem sX0_pageBearing_72 : dsOk (MN MX0_pageBearing).cls (MB MX0_pageBearing) 72 [(.iload_n 1, 0, 0, 0), (.iconst 2, 0, 0, 0), (.idiv, 0, 0, 0), (.i2l, 0, 0, 0)] 76 = true := by decide +kernel
theorem dX0_pageBearing_76 : decode (MB MX0_pageBearing) 76 = .ok (.goto 6, 3) := by decide +kernel
theorem sX0_pageBearing_79 : dsOk (MN MX0_pageBearing).cls (MB MX0_pageBearing) 79 [(.ldc2_w 56, 0, 0, -1)] 82 = true := by decide +kernel
theorem dX0_pageBearing_82 : decode (MB MX0_pageBearing) 82 = .ok (.lreturn, 1) := by decide +kernel
theorem sX0_pageBearing_83 : dsOk (MN MX0_pageBearing).cls (MB MX0_pageBearing) 83 [(.aload_n 0, 0, 0, 0), (.getfield 28, 0, 2, 0), (.iload_n 1, 0, 0, 0), (.i2l, 0, 0, 0)] 89 = true := by decide +kernel
theorem dX0_pageBearing_89 : decode (MB MX0_pageBearing) 89 = .ok (.invokestatic 58, 3) := by decide +kernel
theorem dX0_pageBearing_92 : decode (MB MX0_pageBearing) 92 = .ok (.lreturn, 1) := by decide +kernel
theorem sX0_pageBearing_93 : dsOk (MN MX0_pageBearing).cls (MB MX0_pageBearing) 93 [(.iload_n 1, 0, 0, 0), (.i2l, 0, 0, 0)] 95 = true := by decide +kernel
theorem dX0_pageBearing_95 : decode (MB MX0_pageBearing) 95 = .ok (.lreturn, 1) := by decide +kernel
def MX1_init : Ms := (yX1_init, cX1_init, 1, none, [])
set_option maxRecDepth 100000 in
theorem kX1_init : mkI MX1_init 0 := ⟨⟨List.mem_of_getElem? (i := 293) (by rfl), by decide +kernel⟩, by decide +kernel⟩
theorem sX1_init_0 : dsOk (MN MX1_init).cls (MB MX1_init) 0 [(.aload_n 0, 0, 0, 0)] 1 = true := by decide +kernel
theorem dX1_init_1 : decode (MB MX1_init) 1 = .ok (.invokespecial 3, 3) := by decide +kernel
theorem sX1_init_4 : dsOk (MN MX1_init).cls (MB MX1_init) 4 [(.aload_n 0, 0, 0, 0), (.bipush 30, 0, 0, 30)] 7 = true := by decide +kernel
theorem dX1_init_7 : decode (MB MX1_init) 7 = .ok (.newarray .int, 2) := by decide +kernel
theorem dX1_init_9 : decode (MB MX1_init) 9 = .ok (.putfield 9, 3) := by decide +kernel
theorem sX1_init_12 : dsOk (MN MX1_init).cls (MB MX1_init) 12 [(.aload_n 0, 0, 0, 0), (.bipush 30, 0, 0, 30)] 15 = true := by decide +kernel
theorem dX1_init_15 : decode (MB MX1_init) 15 = .ok (.newarray .int, 2) := by decide +kernel
theorem dX1_init_17 : decode (MB MX1_init) 17 = .ok (.putfield 15, 3) := by decide +kernel
theorem sX1_init_20 : dsOk (MN MX1_init).cls (MB MX1_init) 20 [(.aload_n 0, 0, 0, 0), (.iconst 4, 0, 0, 0)] 22 = true := by decide +kernel
theorem dX1_init_22 : decode (MB MX1_init) 22 = .ok (.newarray .int, 2) := by decide +kernel
theorem dX1_init_24 : decode (MB MX1_init) 24 = .ok (.putfield 18, 3) := by decide +kernel
theorem sX1_init_27 : dsOk (MN MX1_init).cls (MB MX1_init) 27 [(.aload_n 0, 0, 0, 0), (.iconst 4, 0, 0, 0)] 29 = true := by decide +kernel
theorem dX1_init_29 : decode (MB MX1_init) 29 = .ok (.newarray .int, 2) := by decide +kernel
theorem dX1_init_31 : decode (MB MX1_init) 31 = .ok (.putfield 21, 3) := by decide +kernel
theorem sX1_init_34 : dsOk (MN MX1_init).cls (MB MX1_init) 34 [(.aload_n 0, 0, 0, 0), (.iconst (-1), 0, 0, 0), (.putfield 24, 1, 5, 0)] 39 = true := by decide +kernel
theorem dX1_init_39 : decode (MB MX1_init) 39 = .ok (.return_, 1) := by decide +kernel
def MX1_forget : Ms := (yX1_forget, cX1_forget, 1, none, [])
set_option maxRecDepth 100000 in
theorem kX1_forget : mkV MX1_forget 0 := ⟨⟨List.mem_of_getElem? (i := 797) (by rfl), by decide +kernel⟩, by decide +kernel⟩
theorem sX1_forget_0 : dsOk (MN MX1_forget).cls (MB MX1_forget) 0 [(.aload_n 0, 0, 0, 0), (.iconst (-1), 0, 0, 0), (.putfield 24, 1, 5, 0)] 5 = true := by decide +kernel
theorem dX1_forget_5 : decode (MB MX1_forget) 5 = .ok (.return_, 1) := by decide +kernel
def MX1_hasKept : Ms := (yX1_hasKept, cX1_hasKept, 2, (some .boolean), [])
set_option maxRecDepth 100000 in
theorem kX1_hasKept : mkV MX1_hasKept 1 := ⟨⟨List.mem_of_getElem? (i := 1399) (by rfl), by decide +kernel⟩, by decide +kernel⟩
theorem sX1_hasKept_0 : dsOk (MN MX1_hasKept).cls (MB MX1_hasKept) 0 [(.iload_n 1, 0, 0, 0)] 1 = true := by decide +kernel
theorem dX1_hasKept_1 : decode (MB MX1_hasKept) 1 = .ok (.ifCond .lt 15, 3) := by decide +kernel
theorem sX1_hasKept_4 : dsOk (MN MX1_hasKept).cls (MB MX1_hasKept) 4 [(.iload_n 1, 0, 0, 0), (.aload_n 0, 0, 0, 0), (.getfield 24, 1, 5, 0)] 9 = true := by decide +kernel
theorem dX1_hasKept_9 : decode (MB MX1_hasKept) 9 = .ok (.if_icmp .ge 7, 3) := by decide +kernel
theorem sX1_hasKept_12 : dsOk (MN MX1_hasKept).cls (MB MX1_hasKept) 12 [(.iconst 1, 0, 0, 0)] 13 = true := by decide +kernel
theorem dX1_hasKept_13 : decode (MB MX1_hasKept) 13 = .ok (.goto 4, 3) := by decide +kernel
theorem sX1_hasKept_16 : dsOk (MN MX1_hasKept).cls (MB MX1_hasKept) 16 [(.iconst 0, 0, 0, 0)] 17 = true := by decide +kernel
theorem dX1_hasKept_17 : decode (MB MX1_hasKept) 17 = .ok (.ireturn, 1) := by decide +kernel
def MX1_keptLeaf : Ms := (yX1_keptLeaf, cX1_keptLeaf, 2, (some .int), [])
set_option maxRecDepth 100000 in
theorem kX1_keptLeaf : mkV MX1_keptLeaf 1 := ⟨⟨List.mem_of_getElem? (i := 1404) (by rfl), by decide +kernel⟩, by decide +kernel⟩
theorem sX1_keptLeaf_0 : dsOk (MN MX1_keptLeaf).cls (MB MX1_keptLeaf) 0 [(.aload_n 0, 0, 0, 0), (.getfield 21, 1, 4, 0), (.iload_n 1, 0, 0, 0)] 5 = true := by decide +kernel
theorem dX1_keptLeaf_5 : decode (MB MX1_keptLeaf) 5 = .ok (.invokestatic 28, 3) := by decide +kernel
theorem dX1_keptLeaf_8 : decode (MB MX1_keptLeaf) 8 = .ok (.ireturn, 1) := by decide +kernel
def MX1_open : Ms := (yX1_open, cX1_open, 1, none, [])
set_option maxRecDepth 100000 in
theorem kX1_open : mkV MX1_open 0 := ⟨⟨List.mem_of_getElem? (i := 1370) (by rfl), by decide +kernel⟩, by decide +kernel⟩
theorem sX1_open_0 : dsOk (MN MX1_open).cls (MB MX1_open) 0 [(.aload_n 0, 0, 0, 0), (.iconst 0, 0, 0, 0), (.putfield 32, 1, 2, 0)] 5 = true := by decide +kernel
theorem dX1_open_5 : decode (MB MX1_open) 5 = .ok (.return_, 1) := by decide +kernel
def MX1_offer : Ms := (yX1_offer, cX1_offer, 3, none, [])
set_option maxRecDepth 100000 in
theorem kX1_offer : mkV MX1_offer 2 := ⟨⟨List.mem_of_getElem? (i := 1374) (by rfl), by decide +kernel⟩, by decide +kernel⟩
theorem sX1_offer_0 : dsOk (MN MX1_offer).cls (MB MX1_offer) 0 [(.aload_n 0, 0, 0, 0), (.getfield 9, 1, 0, 0), (.aload_n 0, 0, 0, 0), (.getfield 32, 1, 2, 0), (.iload_n 1, 0, 0, 0)] 9 = true := by decide +kernel
theorem dX1_offer_9 : decode (MB MX1_offer) 9 = .ok (.invokestatic 35, 3) := by decide +kernel
theorem sX1_offer_12 : dsOk (MN MX1_offer).cls (MB MX1_offer) 12 [(.aload_n 0, 0, 0, 0), (.getfield 15, 1, 1, 0), (.aload_n 0, 0, 0, 0), (.getfield 32, 1, 2, 0), (.iload_n 2, 0, 0, 0)] 21 = true := by decide +kernel
theorem dX1_offer_21 : decode (MB MX1_offer) 21 = .ok (.invokestatic 35, 3) := by decide +kernel
theorem sX1_offer_24 : dsOk (MN MX1_offer).cls (MB MX1_offer) 24 [(.aload_n 0, 0, 0, 0), (.dup, 0, 0, 0), (.getfield 32, 1, 2, 0), (.iconst 1, 0, 0, 0), (.iadd, 0, 0, 0), (.putfield 32, 1, 2, 0)] 34 = true := by decide +kernel
theorem dX1_offer_34 : decode (MB MX1_offer) 34 = .ok (.return_, 1) := by decide +kernel
def MX1_choose : Ms := (yX1_choose, cX1_choose, 5, (some .int), [])
set_option maxRecDepth 100000 in
theorem kX1_choose : mkV MX1_choose 1 := ⟨⟨List.mem_of_getElem? (i := 1379) (by rfl), by decide +kernel⟩, by decide +kernel⟩
theorem sX1_choose_0 : dsOk (MN MX1_choose).cls (MB MX1_choose) 0 [(.iconst 0, 0, 0, 0), (.istore_n 3, 0, 0, 0)] 2 = true := by decide +kernel
theorem sX1_choose_2 : dsOk (MN MX1_choose).cls (MB MX1_choose) 2 [(.iload_n 3, 0, 0, 0), (.iconst 4, 0, 0, 0)] 4 = true := by decide +kernel
theorem dX1_choose_4 : decode (MB MX1_choose) 4 = .ok (.if_icmp .gt 67, 3) := by decide +kernel
theorem sX1_choose_7 : dsOk (MN MX1_choose).cls (MB MX1_choose) 7 [(.aload_n 0, 0, 0, 0), (.iload_n 3, 0, 0, 0), (.iconst 0, 0, 0, 0), (.iconst 0, 0, 0, 0), (.lload_n 1, 0, 0, 0)] 12 = true := by decide +kernel
theorem dX1_choose_12 : decode (MB MX1_choose) 12 = .ok (.invokevirtual 39, 3) := by decide +kernel
theorem dX1_choose_15 : decode (MB MX1_choose) 15 = .ok (.ifCond .eq 50, 3) := by decide +kernel
theorem sX1_choose_18 : dsOk (MN MX1_choose).cls (MB MX1_choose) 18 [(.aload_n 0, 0, 0, 0), (.iload_n 3, 0, 0, 0), (.putfield 24, 1, 5, 0), (.iconst 0, 0, 0, 0), (.istore 4, 0, 0, 0)] 26 = true := by decide +kernel
theorem sX1_choose_26 : dsOk (MN MX1_choose).cls (MB MX1_choose) 26 [(.iload 4, 0, 0, 0), (.iload_n 3, 0, 0, 0)] 29 = true := by decide +kernel
theorem dX1_choose_29 : decode (MB MX1_choose) 29 = .ok (.if_icmp .ge 34, 3) := by decide +kernel
theorem sX1_choose_32 : dsOk (MN MX1_choose).cls (MB MX1_choose) 32 [(.aload_n 0, 0, 0, 0), (.getfield 21, 1, 4, 0), (.iload 4, 0, 0, 0), (.aload_n 0, 0, 0, 0), (.getfield 9, 1, 0, 0), (.aload_n 0, 0, 0, 0), (.getfield 18, 1, 3, 0), (.iload 4, 0, 0, 0)] 48 = true := by decide +kernel
theorem dX1_choose_48 : decode (MB MX1_choose) 48 = .ok (.invokestatic 28, 3) := by decide +kernel
theorem dX1_choose_51 : decode (MB MX1_choose) 51 = .ok (.invokestatic 28, 3) := by decide +kernel
theorem dX1_choose_54 : decode (MB MX1_choose) 54 = .ok (.invokestatic 35, 3) := by decide +kernel
theorem sX1_choose_57 : dsOk (MN MX1_choose).cls (MB MX1_choose) 57 [(.iinc 4 1, 0, 0, 0)] 60 = true := by decide +kernel
theorem dX1_choose_60 : decode (MB MX1_choose) 60 = .ok (.goto (-34), 3) := by decide +kernel
theorem sX1_choose_63 : dsOk (MN MX1_choose).cls (MB MX1_choose) 63 [(.iload_n 3, 0, 0, 0)] 64 = true := by decide +kernel
theorem dX1_choose_64 : decode (MB MX1_choose) 64 = .ok (.ireturn, 1) := by decide +kernel
theorem sX1_choose_65 : dsOk (MN MX1_choose).cls (MB MX1_choose) 65 [(.iinc 3 1, 0, 0, 0)] 68 = true := by decide +kernel
theorem dX1_choose_68 : decode (MB MX1_choose) 68 = .ok (.goto (-66), 3) := by decide +kernel
theorem sX1_choose_71 : dsOk (MN MX1_choose).cls (MB MX1_choose) 71 [(.iconst (-1), 0, 0, 0)] 72 = true := by decide +kernel
theorem dX1_choose_72 : decode (MB MX1_choose) 72 = .ok (.ireturn, 1) := by decide +kernel
def MX1_pick : Ms := (yX1_pick, cX1_pick, 7, (some .boolean), [])
set_option maxRecDepth 100000 in
theorem kX1_pick : mkV MX1_pick 4 := ⟨⟨List.mem_of_getElem? (i := 1383) (by rfl), by decide +kernel⟩, by decide +kernel⟩
theorem sX1_pick_0 : dsOk (MN MX1_pick).cls (MB MX1_pick) 0 [(.iload_n 2, 0, 0, 0), (.iload_n 1, 0, 0, 0)] 2 = true := by decide +kernel
theorem dX1_pick_2 : decode (MB MX1_pick) 2 = .ok (.if_icmp .ge 8, 3) := by decide +kernel
theorem sX1_pick_5 : dsOk (MN MX1_pick).cls (MB MX1_pick) 5 [(.iload_n 2, 0, 0, 0), (.iconst 4, 0, 0, 0)] 7 = true := by decide +kernel
theorem dX1_pick_7 : decode (MB MX1_pick) 7 = .ok (.if_icmp .lt 16, 3) := by decide +kernel
theorem sX1_pick_10 : dsOk (MN MX1_pick).cls (MB MX1_pick) 10 [(.lload 4, 0, 0, 0), (.lconst 0, 0, 0, 0), (.lcmp, 0, 0, 0)] 14 = true := by decide +kernel
theorem dX1_pick_14 : decode (MB MX1_pick) 14 = .ok (.ifCond .ne 7, 3) := by decide +kernel
theorem sX1_pick_17 : dsOk (MN MX1_pick).cls (MB MX1_pick) 17 [(.iconst 1, 0, 0, 0)] 18 = true := by decide +kernel
theorem dX1_pick_18 : decode (MB MX1_pick) 18 = .ok (.goto 4, 3) := by decide +kernel
theorem sX1_pick_21 : dsOk (MN MX1_pick).cls (MB MX1_pick) 21 [(.iconst 0, 0, 0, 0)] 22 = true := by decide +kernel
theorem dX1_pick_22 : decode (MB MX1_pick) 22 = .ok (.ireturn, 1) := by decide +kernel
theorem sX1_pick_23 : dsOk (MN MX1_pick).cls (MB MX1_pick) 23 [(.iload_n 3, 0, 0, 0), (.istore 6, 0, 0, 0)] 26 = true := by decide +kernel
theorem sX1_pick_26 : dsOk (MN MX1_pick).cls (MB MX1_pick) 26 [(.iload 6, 0, 0, 0), (.aload_n 0, 0, 0, 0), (.getfield 32, 1, 2, 0)] 32 = true := by decide +kernel
theorem dX1_pick_32 : decode (MB MX1_pick) 32 = .ok (.if_icmp .ge 24, 3) := by decide +kernel
theorem sX1_pick_35 : dsOk (MN MX1_pick).cls (MB MX1_pick) 35 [(.aload_n 0, 0, 0, 0), (.iload 6, 0, 0, 0), (.iload_n 1, 0, 0, 0), (.iload_n 2, 0, 0, 0), (.lload 4, 0, 0, 0)] 42 = true := by decide +kernel
theorem dX1_pick_42 : decode (MB MX1_pick) 42 = .ok (.invokevirtual 43, 3) := by decide +kernel
theorem dX1_pick_45 : decode (MB MX1_pick) 45 = .ok (.ifCond .eq 5, 3) := by decide +kernel
theorem sX1_pick_48 : dsOk (MN MX1_pick).cls (MB MX1_pick) 48 [(.iconst 1, 0, 0, 0)] 49 = true := by decide +kernel
theorem dX1_pick_49 : decode (MB MX1_pick) 49 = .ok (.ireturn, 1) := by decide +kernel
theorem sX1_pick_50 : dsOk (MN MX1_pick).cls (MB MX1_pick) 50 [(.iinc 6 1, 0, 0, 0)] 53 = true := by decide +kernel
theorem dX1_pick_53 : decode (MB MX1_pick) 53 = .ok (.goto (-27), 3) := by decide +kernel
theorem sX1_pick_56 : dsOk (MN MX1_pick).cls (MB MX1_pick) 56 [(.iconst 0, 0, 0, 0)] 57 = true := by decide +kernel
theorem dX1_pick_57 : decode (MB MX1_pick) 57 = .ok (.ireturn, 1) := by decide +kernel
def MX1_pickWith : Ms := (yX1_pickWith, cX1_pickWith, 6, (some .boolean), [])
set_option maxRecDepth 100000 in
theorem kX1_pickWith : mkV MX1_pickWith 4 := ⟨⟨List.mem_of_getElem? (i := 1387) (by rfl), by decide +kernel⟩, by decide +kernel⟩
theorem sX1_pickWith_0 : dsOk (MN MX1_pickWith).cls (MB MX1_pickWith) 0 [(.aload_n 0, 0, 0, 0), (.getfield 18, 1, 3, 0), (.iload_n 3, 0, 0, 0), (.iload_n 1, 0, 0, 0)] 6 = true := by decide +kernel
theorem dX1_pickWith_6 : decode (MB MX1_pickWith) 6 = .ok (.invokestatic 35, 3) := by decide +kernel
theorem sX1_pickWith_9 : dsOk (MN MX1_pickWith).cls (MB MX1_pickWith) 9 [(.aload_n 0, 0, 0, 0), (.getfield 15, 1, 1, 0), (.iload_n 1, 0, 0, 0)] 14 = true := by decide +kernel
theorem dX1_pickWith_14 : decode (MB MX1_pickWith) 14 = .ok (.invokestatic 28, 3) := by decide +kernel
theorem sX1_pickWith_17 : dsOk (MN MX1_pickWith).cls (MB MX1_pickWith) 17 [(.i2l, 0, 0, 0), (.lload 4, 0, 0, 0), (.lcmp, 0, 0, 0)] 21 = true := by decide +kernel
theorem dX1_pickWith_21 : decode (MB MX1_pickWith) 21 = .ok (.ifCond .gt 33, 3) := by decide +kernel
theorem sX1_pickWith_24 : dsOk (MN MX1_pickWith).cls (MB MX1_pickWith) 24 [(.aload_n 0, 0, 0, 0), (.iload_n 2, 0, 0, 0), (.iload_n 3, 0, 0, 0), (.iconst 1, 0, 0, 0), (.iadd, 0, 0, 0), (.iload_n 1, 0, 0, 0), (.iconst 1, 0, 0, 0), (.iadd, 0, 0, 0), (.lload 4, 0, 0, 0), (.aload_n 0, 0, 0, 0), (.getfield 15, 1, 1, 0), (.iload_n 1, 0, 0, 0)] 39 = true := by decide +kernel
theorem dX1_pickWith_39 : decode (MB MX1_pickWith) 39 = .ok (.invokestatic 28, 3) := by decide +kernel
theorem sX1_pickWith_42 : dsOk (MN MX1_pickWith).cls (MB MX1_pickWith) 42 [(.i2l, 0, 0, 0), (.lsub, 0, 0, 0)] 44 = true := by decide +kernel
theorem dX1_pickWith_44 : decode (MB MX1_pickWith) 44 = .ok (.invokevirtual 39, 3) := by decide +kernel
theorem dX1_pickWith_47 : decode (MB MX1_pickWith) 47 = .ok (.ifCond .eq 7, 3) := by decide +kernel
theorem sX1_pickWith_50 : dsOk (MN MX1_pickWith).cls (MB MX1_pickWith) 50 [(.iconst 1, 0, 0, 0)] 51 = true := by decide +kernel
theorem dX1_pickWith_51 : decode (MB MX1_pickWith) 51 = .ok (.goto 4, 3) := by decide +kernel
theorem sX1_pickWith_54 : dsOk (MN MX1_pickWith).cls (MB MX1_pickWith) 54 [(.iconst 0, 0, 0, 0)] 55 = true := by decide +kernel
theorem dX1_pickWith_55 : decode (MB MX1_pickWith) 55 = .ok (.ireturn, 1) := by decide +kernel
def MX2_init : Ms := (yX2_init, cX2_init, 1, none, [])
set_option maxRecDepth 100000 in
theorem kX2_init : mkI MX2_init 0 := ⟨⟨List.mem_of_getElem? (i := 183) (by rfl), by decide +kernel⟩, by decide +kernel⟩
theorem sX2_init_0 : dsOk (MN MX2_init).cls (MB MX2_init) 0 [(.aload_n 0, 0, 0, 0)] 1 = true := by decide +kernel
theorem dX2_init_1 : decode (MB MX2_init) 1 = .ok (.invokespecial 3, 3) := by decide +kernel
theorem sX2_init_4 : dsOk (MN MX2_init).cls (MB MX2_init) 4 [(.aload_n 0, 0, 0, 0), (.sipush 360, 0, 0, 360)] 8 = true := by decide +kernel
theorem dX2_init_8 : decode (MB MX2_init) 8 = .ok (.newarray .int, 2) := by decide +kernel
theorem dX2_init_10 : decode (MB MX2_init) 10 = .ok (.putfield 9, 3) := by decide +kernel
theorem sX2_init_13 : dsOk (MN MX2_init).cls (MB MX2_init) 13 [(.aload_n 0, 0, 0, 0), (.sipush 360, 0, 0, 360)] 17 = true := by decide +kernel
theorem dX2_init_17 : decode (MB MX2_init) 17 = .ok (.newarray .int, 2) := by decide +kernel
theorem dX2_init_19 : decode (MB MX2_init) 19 = .ok (.putfield 15, 3) := by decide +kernel
theorem sX2_init_22 : dsOk (MN MX2_init).cls (MB MX2_init) 22 [(.aload_n 0, 0, 0, 0), (.sipush 360, 0, 0, 360)] 26 = true := by decide +kernel
theorem dX2_init_26 : decode (MB MX2_init) 26 = .ok (.newarray .int, 2) := by decide +kernel
theorem dX2_init_28 : decode (MB MX2_init) 28 = .ok (.putfield 18, 3) := by decide +kernel
theorem sX2_init_31 : dsOk (MN MX2_init).cls (MB MX2_init) 31 [(.aload_n 0, 0, 0, 0), (.iconst (-1), 0, 0, 0), (.putfield 21, 2, 6, 0), (.aload_n 0, 0, 0, 0), (.bipush 20, 0, 0, 20)] 39 = true := by decide +kernel
theorem dX2_init_39 : decode (MB MX2_init) 39 = .ok (.newarray .int, 2) := by decide +kernel
theorem dX2_init_41 : decode (MB MX2_init) 41 = .ok (.putfield 25, 3) := by decide +kernel
theorem sX2_init_44 : dsOk (MN MX2_init).cls (MB MX2_init) 44 [(.aload_n 0, 0, 0, 0), (.bipush 20, 0, 0, 20)] 47 = true := by decide +kernel
theorem dX2_init_47 : decode (MB MX2_init) 47 = .ok (.newarray .int, 2) := by decide +kernel
theorem dX2_init_49 : decode (MB MX2_init) 49 = .ok (.putfield 28, 3) := by decide +kernel
theorem sX2_init_52 : dsOk (MN MX2_init).cls (MB MX2_init) 52 [(.aload_n 0, 0, 0, 0), (.iconst 4, 0, 0, 0)] 54 = true := by decide +kernel
theorem dX2_init_54 : decode (MB MX2_init) 54 = .ok (.newarray .int, 2) := by decide +kernel
theorem dX2_init_56 : decode (MB MX2_init) 56 = .ok (.putfield 31, 3) := by decide +kernel
theorem dX2_init_59 : decode (MB MX2_init) 59 = .ok (.return_, 1) := by decide +kernel
def MX2_forget : Ms := (yX2_forget, cX2_forget, 1, none, [])
set_option maxRecDepth 100000 in
theorem kX2_forget : mkV MX2_forget 0 := ⟨⟨List.mem_of_getElem? (i := 788) (by rfl), by decide +kernel⟩, by decide +kernel⟩
theorem sX2_forget_0 : dsOk (MN MX2_forget).cls (MB MX2_forget) 0 [(.aload_n 0, 0, 0, 0), (.iconst 0, 0, 0, 0), (.putfield 34, 2, 3, 0), (.aload_n 0, 0, 0, 0), (.iconst 0, 0, 0, 0), (.putfield 37, 2, 9, 0), (.aload_n 0, 0, 0, 0)] 11 = true := by decide +kernel
theorem dX2_forget_11 : decode (MB MX2_forget) 11 = .ok (.invokevirtual 40, 3) := by decide +kernel
theorem dX2_forget_14 : decode (MB MX2_forget) 14 = .ok (.return_, 1) := by decide +kernel
def MX2_forgetAdded : Ms := (yX2_forgetAdded, cX2_forgetAdded, 1, none, [])
set_option maxRecDepth 100000 in
theorem kX2_forgetAdded : mkV MX2_forgetAdded 0 := ⟨⟨List.mem_of_getElem? (i := 397) (by rfl), by decide +kernel⟩, by decide +kernel⟩
theorem sX2_forgetAdded_0 : dsOk (MN MX2_forgetAdded).cls (MB MX2_forgetAdded) 0 [(.aload_n 0, 0, 0, 0), (.iconst 0, 0, 0, 0), (.putfield 43, 2, 5, 0), (.aload_n 0, 0, 0, 0), (.iconst (-1), 0, 0, 0), (.putfield 21, 2, 6, 0)] 10 = true := by decide +kernel
theorem dX2_forgetAdded_10 : decode (MB MX2_forgetAdded) 10 = .ok (.return_, 1) := by decide +kernel
def MX2_refuse : Ms := (yX2_refuse, cX2_refuse, 2, (some .int), [])
set_option maxRecDepth 100000 in
theorem kX2_refuse : mkV MX2_refuse 1 := ⟨⟨List.mem_of_getElem? (i := 780) (by rfl), by decide +kernel⟩, by decide +kernel⟩
theorem sX2_refuse_0 : dsOk (MN MX2_refuse).cls (MB MX2_refuse) 0 [(.aload_n 0, 0, 0, 0), (.getfield 31, 2, 10, 0), (.iload_n 1, 0, 0, 0), (.aload_n 0, 0, 0, 0), (.getfield 31, 2, 10, 0), (.iload_n 1, 0, 0, 0)] 10 = true := by decide +kernel
theorem dX2_refuse_10 : decode (MB MX2_refuse) 10 = .ok (.invokestatic 46, 3) := by decide +kernel
theorem sX2_refuse_13 : dsOk (MN MX2_refuse).cls (MB MX2_refuse) 13 [(.iconst 1, 0, 0, 0), (.iadd, 0, 0, 0)] 15 = true := by decide +kernel
theorem dX2_refuse_15 : decode (MB MX2_refuse) 15 = .ok (.invokestatic 50, 3) := by decide +kernel
theorem sX2_refuse_18 : dsOk (MN MX2_refuse).cls (MB MX2_refuse) 18 [(.iconst (-1), 0, 0, 0)] 19 = true := by decide +kernel
theorem dX2_refuse_19 : decode (MB MX2_refuse) 19 = .ok (.ireturn, 1) := by decide +kernel
def MX2_refusedSoFar : Ms := (yX2_refusedSoFar, cX2_refusedSoFar, 2, (some .int), [])
set_option maxRecDepth 100000 in
theorem kX2_refusedSoFar : mkV MX2_refusedSoFar 1 := ⟨⟨List.mem_of_getElem? (i := 814) (by rfl), by decide +kernel⟩, by decide +kernel⟩
theorem sX2_refusedSoFar_0 : dsOk (MN MX2_refusedSoFar).cls (MB MX2_refusedSoFar) 0 [(.aload_n 0, 0, 0, 0), (.getfield 31, 2, 10, 0), (.iload_n 1, 0, 0, 0)] 5 = true := by decide +kernel
theorem dX2_refusedSoFar_5 : decode (MB MX2_refusedSoFar) 5 = .ok (.invokestatic 46, 3) := by decide +kernel
theorem dX2_refusedSoFar_8 : decode (MB MX2_refusedSoFar) 8 = .ok (.ireturn, 1) := by decide +kernel
def MX2_noteTorn : Ms := (yX2_noteTorn, cX2_noteTorn, 4, none, [])
set_option maxRecDepth 100000 in
theorem kX2_noteTorn : mkV MX2_noteTorn 3 := ⟨⟨List.mem_of_getElem? (i := 978) (by rfl), by decide +kernel⟩, by decide +kernel⟩
theorem sX2_noteTorn_0 : dsOk (MN MX2_noteTorn).cls (MB MX2_noteTorn) 0 [(.aload_n 0, 0, 0, 0), (.getfield 9, 2, 0, 0), (.aload_n 0, 0, 0, 0), (.getfield 34, 2, 3, 0), (.iload_n 1, 0, 0, 0)] 9 = true := by decide +kernel
theorem dX2_noteTorn_9 : decode (MB MX2_noteTorn) 9 = .ok (.invokestatic 50, 3) := by decide +kernel
theorem sX2_noteTorn_12 : dsOk (MN MX2_noteTorn).cls (MB MX2_noteTorn) 12 [(.aload_n 0, 0, 0, 0), (.getfield 15, 2, 1, 0), (.aload_n 0, 0, 0, 0), (.getfield 34, 2, 3, 0), (.iload_n 2, 0, 0, 0)] 21 = true := by decide +kernel
theorem dX2_noteTorn_21 : decode (MB MX2_noteTorn) 21 = .ok (.invokestatic 50, 3) := by decide +kernel
theorem sX2_noteTorn_24 : dsOk (MN MX2_noteTorn).cls (MB MX2_noteTorn) 24 [(.aload_n 0, 0, 0, 0), (.getfield 18, 2, 2, 0), (.aload_n 0, 0, 0, 0), (.getfield 34, 2, 3, 0), (.iload_n 3, 0, 0, 0)] 33 = true := by decide +kernel
theorem dX2_noteTorn_33 : decode (MB MX2_noteTorn) 33 = .ok (.invokestatic 50, 3) := by decide +kernel
theorem sX2_noteTorn_36 : dsOk (MN MX2_noteTorn).cls (MB MX2_noteTorn) 36 [(.aload_n 0, 0, 0, 0), (.dup, 0, 0, 0), (.getfield 34, 2, 3, 0), (.iconst 1, 0, 0, 0), (.iadd, 0, 0, 0), (.putfield 34, 2, 3, 0)] 46 = true := by decide +kernel
theorem dX2_noteTorn_46 : decode (MB MX2_noteTorn) 46 = .ok (.return_, 1) := by decide +kernel
def MX2_noteAdded : Ms := (yX2_noteAdded, cX2_noteAdded, 3, none, [])
set_option maxRecDepth 100000 in
theorem kX2_noteAdded : mkV MX2_noteAdded 2 := ⟨⟨List.mem_of_getElem? (i := 1001) (by rfl), by decide +kernel⟩, by decide +kernel⟩
theorem sX2_noteAdded_0 : dsOk (MN MX2_noteAdded).cls (MB MX2_noteAdded) 0 [(.aload_n 0, 0, 0, 0), (.iload_n 1, 0, 0, 0), (.putfield 54, 2, 4, 0), (.iload_n 2, 0, 0, 0)] 6 = true := by decide +kernel
theorem dX2_noteAdded_6 : decode (MB MX2_noteAdded) 6 = .ok (.ifCond .ne 19, 3) := by decide +kernel
theorem sX2_noteAdded_9 : dsOk (MN MX2_noteAdded).cls (MB MX2_noteAdded) 9 [(.aload_n 0, 0, 0, 0), (.getfield 21, 2, 6, 0), (.iconst (-1), 0, 0, 0)] 14 = true := by decide +kernel
theorem dX2_noteAdded_14 : decode (MB MX2_noteAdded) 14 = .ok (.if_icmp .ne 11, 3) := by decide +kernel
theorem sX2_noteAdded_17 : dsOk (MN MX2_noteAdded).cls (MB MX2_noteAdded) 17 [(.aload_n 0, 0, 0, 0), (.aload_n 0, 0, 0, 0), (.getfield 43, 2, 5, 0), (.putfield 21, 2, 6, 0)] 25 = true := by decide +kernel
theorem sX2_noteAdded_25 : dsOk (MN MX2_noteAdded).cls (MB MX2_noteAdded) 25 [(.aload_n 0, 0, 0, 0), (.dup, 0, 0, 0), (.getfield 43, 2, 5, 0), (.iconst 1, 0, 0, 0), (.iadd, 0, 0, 0), (.putfield 43, 2, 5, 0)] 35 = true := by decide +kernel
theorem dX2_noteAdded_35 : decode (MB MX2_noteAdded) 35 = .ok (.return_, 1) := by decide +kernel
def MX2_noteStuck : Ms := (yX2_noteStuck, cX2_noteStuck, 3, (some .int), [])
set_option maxRecDepth 100000 in
theorem kX2_noteStuck : mkV MX2_noteStuck 2 := ⟨⟨List.mem_of_getElem? (i := 1278) (by rfl), by decide +kernel⟩, by decide +kernel⟩
theorem sX2_noteStuck_0 : dsOk (MN MX2_noteStuck).cls (MB MX2_noteStuck) 0 [(.aload_n 0, 0, 0, 0), (.getfield 25, 2, 7, 0), (.aload_n 0, 0, 0, 0), (.getfield 37, 2, 9, 0), (.iload_n 1, 0, 0, 0)] 9 = true := by decide +kernel
theorem dX2_noteStuck_9 : decode (MB MX2_noteStuck) 9 = .ok (.invokestatic 50, 3) := by decide +kernel
theorem sX2_noteStuck_12 : dsOk (MN MX2_noteStuck).cls (MB MX2_noteStuck) 12 [(.aload_n 0, 0, 0, 0), (.getfield 28, 2, 8, 0), (.aload_n 0, 0, 0, 0), (.getfield 37, 2, 9, 0), (.iload_n 2, 0, 0, 0)] 21 = true := by decide +kernel
theorem dX2_noteStuck_21 : decode (MB MX2_noteStuck) 21 = .ok (.invokestatic 50, 3) := by decide +kernel
theorem sX2_noteStuck_24 : dsOk (MN MX2_noteStuck).cls (MB MX2_noteStuck) 24 [(.aload_n 0, 0, 0, 0), (.dup, 0, 0, 0), (.getfield 37, 2, 9, 0), (.iconst 1, 0, 0, 0), (.iadd, 0, 0, 0), (.putfield 37, 2, 9, 0), (.aload_n 0, 0, 0, 0), (.getfield 37, 2, 9, 0)] 38 = true := by decide +kernel
theorem dX2_noteStuck_38 : decode (MB MX2_noteStuck) 38 = .ok (.ireturn, 1) := by decide +kernel
def MX2_isStuck : Ms := (yX2_isStuck, cX2_isStuck, 4, (some .boolean), [])
set_option maxRecDepth 100000 in
theorem kX2_isStuck : mkV MX2_isStuck 2 := ⟨⟨List.mem_of_getElem? (i := 1274) (by rfl), by decide +kernel⟩, by decide +kernel⟩
theorem sX2_isStuck_0 : dsOk (MN MX2_isStuck).cls (MB MX2_isStuck) 0 [(.iconst 0, 0, 0, 0), (.istore_n 3, 0, 0, 0)] 2 = true := by decide +kernel
theorem sX2_isStuck_2 : dsOk (MN MX2_isStuck).cls (MB MX2_isStuck) 2 [(.iload_n 3, 0, 0, 0), (.aload_n 0, 0, 0, 0), (.getfield 37, 2, 9, 0)] 7 = true := by decide +kernel
theorem dX2_isStuck_7 : decode (MB MX2_isStuck) 7 = .ok (.if_icmp .ge 35, 3) := by decide +kernel
theorem sX2_isStuck_10 : dsOk (MN MX2_isStuck).cls (MB MX2_isStuck) 10 [(.aload_n 0, 0, 0, 0), (.getfield 25, 2, 7, 0), (.iload_n 3, 0, 0, 0)] 15 = true := by decide +kernel
theorem dX2_isStuck_15 : decode (MB MX2_isStuck) 15 = .ok (.invokestatic 46, 3) := by decide +kernel
theorem sX2_isStuck_18 : dsOk (MN MX2_isStuck).cls (MB MX2_isStuck) 18 [(.iload_n 1, 0, 0, 0)] 19 = true := by decide +kernel
theorem dX2_isStuck_19 : decode (MB MX2_isStuck) 19 = .ok (.if_icmp .ne 17, 3) := by decide +kernel
theorem sX2_isStuck_22 : dsOk (MN MX2_isStuck).cls (MB MX2_isStuck) 22 [(.aload_n 0, 0, 0, 0), (.getfield 28, 2, 8, 0), (.iload_n 3, 0, 0, 0)] 27 = true := by decide +kernel
theorem dX2_isStuck_27 : decode (MB MX2_isStuck) 27 = .ok (.invokestatic 46, 3) := by decide +kernel
theorem sX2_isStuck_30 : dsOk (MN MX2_isStuck).cls (MB MX2_isStuck) 30 [(.iload_n 2, 0, 0, 0)] 31 = true := by decide +kernel
theorem dX2_isStuck_31 : decode (MB MX2_isStuck) 31 = .ok (.if_icmp .ne 5, 3) := by decide +kernel
theorem sX2_isStuck_34 : dsOk (MN MX2_isStuck).cls (MB MX2_isStuck) 34 [(.iconst 1, 0, 0, 0)] 35 = true := by decide +kernel
theorem dX2_isStuck_35 : decode (MB MX2_isStuck) 35 = .ok (.ireturn, 1) := by decide +kernel
theorem sX2_isStuck_36 : dsOk (MN MX2_isStuck).cls (MB MX2_isStuck) 36 [(.iinc 3 1, 0, 0, 0)] 39 = true := by decide +kernel
theorem dX2_isStuck_39 : decode (MB MX2_isStuck) 39 = .ok (.goto (-37), 3) := by decide +kernel
theorem sX2_isStuck_42 : dsOk (MN MX2_isStuck).cls (MB MX2_isStuck) 42 [(.iconst 0, 0, 0, 0)] 43 = true := by decide +kernel
theorem dX2_isStuck_43 : decode (MB MX2_isStuck) 43 = .ok (.ireturn, 1) := by decide +kernel
def MX2_takeFrom : Ms := (yX2_takeFrom, cX2_takeFrom, 3, none, [])
set_option maxRecDepth 100000 in
theorem kX2_takeFrom : mkV MX2_takeFrom 1 := ⟨⟨List.mem_of_getElem? (i := 409) (by rfl), by decide +kernel⟩, by decide +kernel⟩
theorem sX2_takeFrom_0 : dsOk (MN MX2_takeFrom).cls (MB MX2_takeFrom) 0 [(.aload_n 0, 0, 0, 0), (.aload_n 1, 0, 0, 0), (.getfield 34, 2, 3, 0), (.putfield 34, 2, 3, 0), (.iconst 0, 0, 0, 0), (.istore_n 2, 0, 0, 0)] 10 = true := by decide +kernel
theorem sX2_takeFrom_10 : dsOk (MN MX2_takeFrom).cls (MB MX2_takeFrom) 10 [(.iload_n 2, 0, 0, 0), (.aload_n 0, 0, 0, 0), (.getfield 34, 2, 3, 0)] 15 = true := by decide +kernel
theorem dX2_takeFrom_15 : decode (MB MX2_takeFrom) 15 = .ok (.if_icmp .ge 57, 3) := by decide +kernel
theorem sX2_takeFrom_18 : dsOk (MN MX2_takeFrom).cls (MB MX2_takeFrom) 18 [(.aload_n 0, 0, 0, 0), (.getfield 9, 2, 0, 0), (.iload_n 2, 0, 0, 0), (.aload_n 1, 0, 0, 0), (.getfield 9, 2, 0, 0), (.iload_n 2, 0, 0, 0)] 28 = true := by decide +kernel
theorem dX2_takeFrom_28 : decode (MB MX2_takeFrom) 28 = .ok (.invokestatic 46, 3) := by decide +kernel
theorem dX2_takeFrom_31 : decode (MB MX2_takeFrom) 31 = .ok (.invokestatic 50, 3) := by decide +kernel
theorem sX2_takeFrom_34 : dsOk (MN MX2_takeFrom).cls (MB MX2_takeFrom) 34 [(.aload_n 0, 0, 0, 0), (.getfield 15, 2, 1, 0), (.iload_n 2, 0, 0, 0), (.aload_n 1, 0, 0, 0), (.getfield 15, 2, 1, 0), (.iload_n 2, 0, 0, 0)] 44 = true := by decide +kernel
theorem dX2_takeFrom_44 : decode (MB MX2_takeFrom) 44 = .ok (.invokestatic 46, 3) := by decide +kernel
theorem dX2_takeFrom_47 : decode (MB MX2_takeFrom) 47 = .ok (.invokestatic 50, 3) := by decide +kernel
theorem sX2_takeFrom_50 : dsOk (MN MX2_takeFrom).cls (MB MX2_takeFrom) 50 [(.aload_n 0, 0, 0, 0), (.getfield 18, 2, 2, 0), (.iload_n 2, 0, 0, 0), (.aload_n 1, 0, 0, 0), (.getfield 18, 2, 2, 0), (.iload_n 2, 0, 0, 0)] 60 = true := by decide +kernel
theorem dX2_takeFrom_60 : decode (MB MX2_takeFrom) 60 = .ok (.invokestatic 46, 3) := by decide +kernel
theorem dX2_takeFrom_63 : decode (MB MX2_takeFrom) 63 = .ok (.invokestatic 50, 3) := by decide +kernel
theorem sX2_takeFrom_66 : dsOk (MN MX2_takeFrom).cls (MB MX2_takeFrom) 66 [(.iinc 2 1, 0, 0, 0)] 69 = true := by decide +kernel
theorem dX2_takeFrom_69 : decode (MB MX2_takeFrom) 69 = .ok (.goto (-59), 3) := by decide +kernel
theorem sX2_takeFrom_72 : dsOk (MN MX2_takeFrom).cls (MB MX2_takeFrom) 72 [(.aload_n 0, 0, 0, 0), (.aload_n 1, 0, 0, 0), (.getfield 54, 2, 4, 0), (.putfield 54, 2, 4, 0), (.aload_n 0, 0, 0, 0), (.aload_n 1, 0, 0, 0), (.getfield 43, 2, 5, 0), (.putfield 43, 2, 5, 0), (.aload_n 0, 0, 0, 0), (.aload_n 1, 0, 0, 0), (.getfield 21, 2, 6, 0), (.putfield 21, 2, 6, 0), (.aload_n 0, 0, 0, 0), (.aload_n 1, 0, 0, 0), (.getfield 37, 2, 9, 0), (.putfield 37, 2, 9, 0), (.iconst 0, 0, 0, 0), (.istore_n 2, 0, 0, 0)] 106 = true := by decide +kernel
theorem sX2_takeFrom_106 : dsOk (MN MX2_takeFrom).cls (MB MX2_takeFrom) 106 [(.iload_n 2, 0, 0, 0), (.aload_n 0, 0, 0, 0), (.getfield 37, 2, 9, 0)] 111 = true := by decide +kernel
theorem dX2_takeFrom_111 : decode (MB MX2_takeFrom) 111 = .ok (.if_icmp .ge 41, 3) := by decide +kernel
theorem sX2_takeFrom_114 : dsOk (MN MX2_takeFrom).cls (MB MX2_takeFrom) 114 [(.aload_n 0, 0, 0, 0), (.getfield 25, 2, 7, 0), (.iload_n 2, 0, 0, 0), (.aload_n 1, 0, 0, 0), (.getfield 25, 2, 7, 0), (.iload_n 2, 0, 0, 0)] 124 = true := by decide +kernel
theorem dX2_takeFrom_124 : decode (MB MX2_takeFrom) 124 = .ok (.invokestatic 46, 3) := by decide +kernel
theorem dX2_takeFrom_127 : decode (MB MX2_takeFrom) 127 = .ok (.invokestatic 50, 3) := by decide +kernel
theorem sX2_takeFrom_130 : dsOk (MN MX2_takeFrom).cls (MB MX2_takeFrom) 130 [(.aload_n 0, 0, 0, 0), (.getfield 28, 2, 8, 0), (.iload_n 2, 0, 0, 0), (.aload_n 1, 0, 0, 0), (.getfield 28, 2, 8, 0), (.iload_n 2, 0, 0, 0)] 140 = true := by decide +kernel
theorem dX2_takeFrom_140 : decode (MB MX2_takeFrom) 140 = .ok (.invokestatic 46, 3) := by decide +kernel
theorem dX2_takeFrom_143 : decode (MB MX2_takeFrom) 143 = .ok (.invokestatic 50, 3) := by decide +kernel
theorem sX2_takeFrom_146 : dsOk (MN MX2_takeFrom).cls (MB MX2_takeFrom) 146 [(.iinc 2 1, 0, 0, 0)] 149 = true := by decide +kernel
theorem dX2_takeFrom_149 : decode (MB MX2_takeFrom) 149 = .ok (.goto (-43), 3) := by decide +kernel
theorem sX2_takeFrom_152 : dsOk (MN MX2_takeFrom).cls (MB MX2_takeFrom) 152 [(.iconst 0, 0, 0, 0), (.istore_n 2, 0, 0, 0)] 154 = true := by decide +kernel
theorem sX2_takeFrom_154 : dsOk (MN MX2_takeFrom).cls (MB MX2_takeFrom) 154 [(.iload_n 2, 0, 0, 0), (.aload_n 0, 0, 0, 0), (.getfield 31, 2, 10, 0), (.arraylength, 0, 0, 0)] 160 = true := by decide +kernel
theorem dX2_takeFrom_160 : decode (MB MX2_takeFrom) 160 = .ok (.if_icmp .ge 23, 3) := by decide +kernel
theorem sX2_takeFrom_163 : dsOk (MN MX2_takeFrom).cls (MB MX2_takeFrom) 163 [(.aload_n 0, 0, 0, 0), (.getfield 31, 2, 10, 0), (.iload_n 2, 0, 0, 0), (.aload_n 1, 0, 0, 0), (.getfield 31, 2, 10, 0), (.iload_n 2, 0, 0, 0)] 173 = true := by decide +kernel
theorem dX2_takeFrom_173 : decode (MB MX2_takeFrom) 173 = .ok (.invokestatic 46, 3) := by decide +kernel
theorem sX2_takeFrom_176 : dsOk (MN MX2_takeFrom).cls (MB MX2_takeFrom) 176 [(.iastore, 0, 0, 0), (.iinc 2 1, 0, 0, 0)] 180 = true := by decide +kernel
theorem dX2_takeFrom_180 : decode (MB MX2_takeFrom) 180 = .ok (.goto (-26), 3) := by decide +kernel
theorem dX2_takeFrom_183 : decode (MB MX2_takeFrom) 183 = .ok (.return_, 1) := by decide +kernel
def MX3_isBuzz : Ms := (yX3_isBuzz, cX3_isBuzz, 2, (some .boolean), [])
set_option maxRecDepth 100000 in
theorem kX3_isBuzz : mkS MX3_isBuzz 2 := ⟨⟨List.mem_of_getElem? (i := 1298) (by rfl), by decide +kernel⟩, by decide +kernel⟩
theorem sX3_isBuzz_0 : dsOk (MN MX3_isBuzz).cls (MB MX3_isBuzz) 0 [(.iload_n 0, 0, 0, 0)] 1 = true := by decide +kernel
theorem dX3_isBuzz_1 : decode (MB MX3_isBuzz) 1 = .ok (.ifCond .le 22, 3) := by decide +kernel
theorem sX3_isBuzz_4 : dsOk (MN MX3_isBuzz).cls (MB MX3_isBuzz) 4 [(.iload_n 1, 0, 0, 0), (.iload_n 0, 0, 0, 0), (.irem, 0, 0, 0)] 7 = true := by decide +kernel
theorem dX3_isBuzz_7 : decode (MB MX3_isBuzz) 7 = .ok (.ifCond .eq 12, 3) := by decide +kernel
theorem sX3_isBuzz_10 : dsOk (MN MX3_isBuzz).cls (MB MX3_isBuzz) 10 [(.iload_n 0, 0, 0, 0), (.iload_n 1, 0, 0, 0), (.i2l, 0, 0, 0)] 13 = true := by decide +kernel
theorem dX3_isBuzz_13 : decode (MB MX3_isBuzz) 13 = .ok (.invokestatic 9, 3) := by decide +kernel
theorem dX3_isBuzz_16 : decode (MB MX3_isBuzz) 16 = .ok (.ifCond .le 7, 3) := by decide +kernel
theorem sX3_isBuzz_19 : dsOk (MN MX3_isBuzz).cls (MB MX3_isBuzz) 19 [(.iconst 1, 0, 0, 0)] 20 = true := by decide +kernel
theorem dX3_isBuzz_20 : decode (MB MX3_isBuzz) 20 = .ok (.goto 4, 3) := by decide +kernel
theorem sX3_isBuzz_23 : dsOk (MN MX3_isBuzz).cls (MB MX3_isBuzz) 23 [(.iconst 0, 0, 0, 0)] 24 = true := by decide +kernel
theorem dX3_isBuzz_24 : decode (MB MX3_isBuzz) 24 = .ok (.ireturn, 1) := by decide +kernel
def MX3_inNumber : Ms := (yX3_inNumber, cX3_inNumber, 7, (some .int), [])
set_option maxRecDepth 100000 in
theorem kX3_inNumber : mkS MX3_inNumber 2 := ⟨⟨List.mem_of_getElem? (i := 962) (by rfl), by decide +kernel⟩, by decide +kernel⟩
theorem sX3_inNumber_0 : dsOk (MN MX3_inNumber).cls (MB MX3_inNumber) 0 [(.iconst 0, 0, 0, 0), (.istore_n 3, 0, 0, 0), (.lload_n 1, 0, 0, 0), (.lstore 4, 0, 0, 0), (.iconst 0, 0, 0, 0), (.istore 6, 0, 0, 0)] 8 = true := by decide +kernel
theorem sX3_inNumber_8 : dsOk (MN MX3_inNumber).cls (MB MX3_inNumber) 8 [(.iload 6, 0, 0, 0), (.bipush 19, 0, 0, 19)] 12 = true := by decide +kernel
theorem dX3_inNumber_12 : decode (MB MX3_inNumber) 12 = .ok (.if_icmp .ge 45, 3) := by decide +kernel
theorem sX3_inNumber_15 : dsOk (MN MX3_inNumber).cls (MB MX3_inNumber) 15 [(.lload 4, 0, 0, 0), (.lconst 0, 0, 0, 0), (.lcmp, 0, 0, 0)] 19 = true := by decide +kernel
theorem dX3_inNumber_19 : decode (MB MX3_inNumber) 19 = .ok (.ifCond .le 38, 3) := by decide +kernel
theorem sX3_inNumber_22 : dsOk (MN MX3_inNumber).cls (MB MX3_inNumber) 22 [(.iload_n 0, 0, 0, 0), (.bipush 10, 0, 0, 10)] 25 = true := by decide +kernel
theorem dX3_inNumber_25 : decode (MB MX3_inNumber) 25 = .ok (.if_icmp .eq 15, 3) := by decide +kernel
theorem sX3_inNumber_28 : dsOk (MN MX3_inNumber).cls (MB MX3_inNumber) 28 [(.lload 4, 0, 0, 0), (.ldc2_w 15, 0, 0, 10), (.lrem, 0, 0, 0), (.iload_n 0, 0, 0, 0), (.i2l, 0, 0, 0), (.lcmp, 0, 0, 0)] 37 = true := by decide +kernel
theorem dX3_inNumber_37 : decode (MB MX3_inNumber) 37 = .ok (.ifCond .ne 6, 3) := by decide +kernel
theorem sX3_inNumber_40 : dsOk (MN MX3_inNumber).cls (MB MX3_inNumber) 40 [(.iinc 3 1, 0, 0, 0)] 43 = true := by decide +kernel
theorem sX3_inNumber_43 : dsOk (MN MX3_inNumber).cls (MB MX3_inNumber) 43 [(.lload 4, 0, 0, 0), (.ldc2_w 15, 0, 0, 10), (.ldiv, 0, 0, 0), (.lstore 4, 0, 0, 0), (.iinc 6 1, 0, 0, 0)] 54 = true := by decide +kernel
theorem dX3_inNumber_54 : decode (MB MX3_inNumber) 54 = .ok (.goto (-46), 3) := by decide +kernel
theorem sX3_inNumber_57 : dsOk (MN MX3_inNumber).cls (MB MX3_inNumber) 57 [(.iload_n 3, 0, 0, 0)] 58 = true := by decide +kernel
theorem dX3_inNumber_58 : decode (MB MX3_inNumber) 58 = .ok (.ireturn, 1) := by decide +kernel
def MX3_printed : Ms := (yX3_printed, cX3_printed, 8, (some .long), [])
set_option maxRecDepth 100000 in
theorem kX3_printed : mkS MX3_printed 2 := ⟨⟨List.mem_of_getElem? (i := 1129) (by rfl), by decide +kernel⟩, by decide +kernel⟩
theorem sX3_printed_0 : dsOk (MN MX3_printed).cls (MB MX3_printed) 0 [(.lconst 0, 0, 0, 0), (.lstore_n 3, 0, 0, 0), (.lconst 1, 0, 0, 1), (.lstore 5, 0, 0, 0), (.iconst 0, 0, 0, 0), (.istore 7, 0, 0, 0)] 8 = true := by decide +kernel
theorem sX3_printed_8 : dsOk (MN MX3_printed).cls (MB MX3_printed) 8 [(.iload 7, 0, 0, 0), (.bipush 18, 0, 0, 18)] 12 = true := by decide +kernel
theorem dX3_printed_12 : decode (MB MX3_printed) 12 = .ok (.if_icmp .ge 56, 3) := by decide +kernel
theorem sX3_printed_15 : dsOk (MN MX3_printed).cls (MB MX3_printed) 15 [(.lload 5, 0, 0, 0), (.lconst 0, 0, 0, 0), (.lcmp, 0, 0, 0)] 19 = true := by decide +kernel
theorem dX3_printed_19 : decode (MB MX3_printed) 19 = .ok (.ifCond .le 49, 3) := by decide +kernel
theorem sX3_printed_22 : dsOk (MN MX3_printed).cls (MB MX3_printed) 22 [(.lload 5, 0, 0, 0), (.lload_n 1, 0, 0, 0), (.lcmp, 0, 0, 0)] 26 = true := by decide +kernel
theorem dX3_printed_26 : decode (MB MX3_printed) 26 = .ok (.ifCond .gt 42, 3) := by decide +kernel
theorem sX3_printed_29 : dsOk (MN MX3_printed).cls (MB MX3_printed) 29 [(.lload_n 3, 0, 0, 0), (.iload_n 0, 0, 0, 0), (.bipush 10, 0, 0, 10)] 33 = true := by decide +kernel
theorem dX3_printed_33 : decode (MB MX3_printed) 33 = .ok (.if_icmp .ne 12, 3) := by decide +kernel
theorem sX3_printed_36 : dsOk (MN MX3_printed).cls (MB MX3_printed) 36 [(.lload_n 1, 0, 0, 0), (.lload 5, 0, 0, 0), (.lsub, 0, 0, 0), (.lconst 1, 0, 0, 1), (.ladd, 0, 0, 0)] 42 = true := by decide +kernel
theorem dX3_printed_42 : decode (MB MX3_printed) 42 = .ok (.goto 10, 3) := by decide +kernel
theorem sX3_printed_45 : dsOk (MN MX3_printed).cls (MB MX3_printed) 45 [(.iload_n 0, 0, 0, 0), (.lload_n 1, 0, 0, 0), (.lload 5, 0, 0, 0)] 49 = true := by decide +kernel
theorem dX3_printed_49 : decode (MB MX3_printed) 49 = .ok (.invokestatic 17, 3) := by decide +kernel
theorem sX3_printed_52 : dsOk (MN MX3_printed).cls (MB MX3_printed) 52 [(.ladd, 0, 0, 0), (.lstore_n 3, 0, 0, 0), (.lload 5, 0, 0, 0), (.ldc2_w 15, 0, 0, 10), (.lmul, 0, 0, 0), (.lstore 5, 0, 0, 0), (.iinc 7 1, 0, 0, 0)] 65 = true := by decide +kernel
theorem dX3_printed_65 : decode (MB MX3_printed) 65 = .ok (.goto (-57), 3) := by decide +kernel
theorem sX3_printed_68 : dsOk (MN MX3_printed).cls (MB MX3_printed) 68 [(.lload_n 3, 0, 0, 0)] 69 = true := by decide +kernel
theorem dX3_printed_69 : decode (MB MX3_printed) 69 = .ok (.lreturn, 1) := by decide +kernel
def MX3_printedAt : Ms := (yX3_printedAt, cX3_printedAt, 9, (some .long), [])
set_option maxRecDepth 100000 in
theorem kX3_printedAt : mkS MX3_printedAt 3 := ⟨⟨List.mem_of_getElem? (i := 1132) (by rfl), by decide +kernel⟩, by decide +kernel⟩
theorem sX3_printedAt_0 : dsOk (MN MX3_printedAt).cls (MB MX3_printedAt) 0 [(.lload_n 3, 0, 0, 0), (.lconst 1, 0, 0, 1), (.lcmp, 0, 0, 0)] 3 = true := by decide +kernel
theorem dX3_printedAt_3 : decode (MB MX3_printedAt) 3 = .ok (.ifCond .ge 5, 3) := by decide +kernel
theorem sX3_printedAt_6 : dsOk (MN MX3_printedAt).cls (MB MX3_printedAt) 6 [(.lconst 0, 0, 0, 0)] 7 = true := by decide +kernel
theorem dX3_printedAt_7 : decode (MB MX3_printedAt) 7 = .ok (.lreturn, 1) := by decide +kernel
theorem sX3_printedAt_8 : dsOk (MN MX3_printedAt).cls (MB MX3_printedAt) 8 [(.lload_n 1, 0, 0, 0), (.lload_n 3, 0, 0, 0), (.ldiv, 0, 0, 0), (.ldc2_w 15, 0, 0, 10), (.ldiv, 0, 0, 0), (.iload_n 0, 0, 0, 0)] 16 = true := by decide +kernel
theorem dX3_printedAt_16 : decode (MB MX3_printedAt) 16 = .ok (.ifCond .ne 7, 3) := by decide +kernel
theorem sX3_printedAt_19 : dsOk (MN MX3_printedAt).cls (MB MX3_printedAt) 19 [(.iconst 1, 0, 0, 0)] 20 = true := by decide +kernel
theorem dX3_printedAt_20 : decode (MB MX3_printedAt) 20 = .ok (.goto 4, 3) := by decide +kernel
theorem sX3_printedAt_23 : dsOk (MN MX3_printedAt).cls (MB MX3_printedAt) 23 [(.iconst 0, 0, 0, 0)] 24 = true := by decide +kernel
theorem sX3_printedAt_24 : dsOk (MN MX3_printedAt).cls (MB MX3_printedAt) 24 [(.i2l, 0, 0, 0), (.lsub, 0, 0, 0), (.lstore 5, 0, 0, 0), (.lload_n 1, 0, 0, 0), (.lload_n 3, 0, 0, 0), (.ldiv, 0, 0, 0), (.ldc2_w 15, 0, 0, 10), (.lrem, 0, 0, 0), (.lstore 7, 0, 0, 0), (.lload 7, 0, 0, 0), (.iload_n 0, 0, 0, 0), (.i2l, 0, 0, 0), (.lcmp, 0, 0, 0)] 42 = true := by decide +kernel
theorem dX3_printedAt_42 : decode (MB MX3_printedAt) 42 = .ok (.ifCond .le 10, 3) := by decide +kernel
theorem sX3_printedAt_45 : dsOk (MN MX3_printedAt).cls (MB MX3_printedAt) 45 [(.lload 5, 0, 0, 0), (.lconst 1, 0, 0, 1), (.ladd, 0, 0, 0), (.lload_n 3, 0, 0, 0), (.lmul, 0, 0, 0)] 51 = true := by decide +kernel
theorem dX3_printedAt_51 : decode (MB MX3_printedAt) 51 = .ok (.lreturn, 1) := by decide +kernel
theorem sX3_printedAt_52 : dsOk (MN MX3_printedAt).cls (MB MX3_printedAt) 52 [(.lload 7, 0, 0, 0), (.iload_n 0, 0, 0, 0), (.i2l, 0, 0, 0), (.lcmp, 0, 0, 0)] 57 = true := by decide +kernel
theorem dX3_printedAt_57 : decode (MB MX3_printedAt) 57 = .ok (.ifCond .ne 16, 3) := by decide +kernel
theorem sX3_printedAt_60 : dsOk (MN MX3_printedAt).cls (MB MX3_printedAt) 60 [(.lload 5, 0, 0, 0), (.lload_n 3, 0, 0, 0), (.lmul, 0, 0, 0), (.lload_n 1, 0, 0, 0), (.lload_n 3, 0, 0, 0), (.lrem, 0, 0, 0), (.ladd, 0, 0, 0), (.lconst 1, 0, 0, 1), (.ladd, 0, 0, 0)] 70 = true := by decide +kernel
theorem dX3_printedAt_70 : decode (MB MX3_printedAt) 70 = .ok (.goto 7, 3) := by decide +kernel
theorem sX3_printedAt_73 : dsOk (MN MX3_printedAt).cls (MB MX3_printedAt) 73 [(.lload 5, 0, 0, 0), (.lload_n 3, 0, 0, 0), (.lmul, 0, 0, 0)] 77 = true := by decide +kernel
theorem dX3_printedAt_77 : decode (MB MX3_printedAt) 77 = .ok (.lreturn, 1) := by decide +kernel
def MX3_standsWithout : Ms := (yX3_standsWithout, cX3_standsWithout, 12, (some .long), [])
set_option maxRecDepth 100000 in
theorem kX3_standsWithout : mkS MX3_standsWithout 2 := ⟨⟨List.mem_of_getElem? (i := 885) (by rfl), by decide +kernel⟩, by decide +kernel⟩
theorem sX3_standsWithout_0 : dsOk (MN MX3_standsWithout).cls (MB MX3_standsWithout) 0 [(.lconst 0, 0, 0, 0), (.lstore_n 3, 0, 0, 0), (.lconst 1, 0, 0, 1), (.lstore 5, 0, 0, 0), (.lload_n 1, 0, 0, 0), (.lstore 7, 0, 0, 0), (.iconst 0, 0, 0, 0), (.istore 9, 0, 0, 0)] 11 = true := by decide +kernel
theorem sX3_standsWithout_11 : dsOk (MN MX3_standsWithout).cls (MB MX3_standsWithout) 11 [(.iload 9, 0, 0, 0), (.bipush 18, 0, 0, 18)] 15 = true := by decide +kernel
theorem dX3_standsWithout_15 : decode (MB MX3_standsWithout) 15 = .ok (.if_icmp .ge 63, 3) := by decide +kernel
theorem sX3_standsWithout_18 : dsOk (MN MX3_standsWithout).cls (MB MX3_standsWithout) 18 [(.lload 7, 0, 0, 0), (.lconst 0, 0, 0, 0), (.lcmp, 0, 0, 0)] 22 = true := by decide +kernel
theorem dX3_standsWithout_22 : decode (MB MX3_standsWithout) 22 = .ok (.ifCond .le 56, 3) := by decide +kernel
theorem sX3_standsWithout_25 : dsOk (MN MX3_standsWithout).cls (MB MX3_standsWithout) 25 [(.lload 7, 0, 0, 0), (.ldc2_w 21, 0, 0, 9), (.lrem, 0, 0, 0), (.lstore 10, 0, 0, 0), (.lload_n 3, 0, 0, 0), (.lload 10, 0, 0, 0), (.iload_n 0, 0, 0, 0), (.i2l, 0, 0, 0), (.lcmp, 0, 0, 0)] 39 = true := by decide +kernel
theorem dX3_standsWithout_39 : decode (MB MX3_standsWithout) 39 = .ok (.ifCond .lt 10, 3) := by decide +kernel
theorem sX3_standsWithout_42 : dsOk (MN MX3_standsWithout).cls (MB MX3_standsWithout) 42 [(.lload 10, 0, 0, 0), (.lconst 1, 0, 0, 1), (.ladd, 0, 0, 0)] 46 = true := by decide +kernel
theorem dX3_standsWithout_46 : decode (MB MX3_standsWithout) 46 = .ok (.goto 5, 3) := by decide +kernel
theorem sX3_standsWithout_49 : dsOk (MN MX3_standsWithout).cls (MB MX3_standsWithout) 49 [(.lload 10, 0, 0, 0)] 51 = true := by decide +kernel
theorem sX3_standsWithout_51 : dsOk (MN MX3_standsWithout).cls (MB MX3_standsWithout) 51 [(.lload 5, 0, 0, 0), (.lmul, 0, 0, 0), (.ladd, 0, 0, 0), (.lstore_n 3, 0, 0, 0), (.lload 5, 0, 0, 0), (.ldc2_w 15, 0, 0, 10), (.lmul, 0, 0, 0), (.lstore 5, 0, 0, 0), (.lload 7, 0, 0, 0), (.ldc2_w 21, 0, 0, 9), (.ldiv, 0, 0, 0), (.lstore 7, 0, 0, 0), (.iinc 9 1, 0, 0, 0)] 75 = true := by decide +kernel
theorem dX3_standsWithout_75 : decode (MB MX3_standsWithout) 75 = .ok (.goto (-64), 3) := by decide +kernel
theorem sX3_standsWithout_78 : dsOk (MN MX3_standsWithout).cls (MB MX3_standsWithout) 78 [(.lload_n 3, 0, 0, 0)] 79 = true := by decide +kernel
theorem dX3_standsWithout_79 : decode (MB MX3_standsWithout) 79 = .ok (.lreturn, 1) := by decide +kernel
def MX3_placeWithout : Ms := (yX3_placeWithout, cX3_placeWithout, 12, (some .long), [])
set_option maxRecDepth 100000 in
theorem kX3_placeWithout : mkS MX3_placeWithout 2 := ⟨⟨List.mem_of_getElem? (i := 930) (by rfl), by decide +kernel⟩, by decide +kernel⟩
theorem sX3_placeWithout_0 : dsOk (MN MX3_placeWithout).cls (MB MX3_placeWithout) 0 [(.lconst 0, 0, 0, 0), (.lstore_n 3, 0, 0, 0), (.lconst 1, 0, 0, 1), (.lstore 5, 0, 0, 0), (.lload_n 1, 0, 0, 0), (.lstore 7, 0, 0, 0), (.iconst 0, 0, 0, 0), (.istore 9, 0, 0, 0)] 11 = true := by decide +kernel
theorem sX3_placeWithout_11 : dsOk (MN MX3_placeWithout).cls (MB MX3_placeWithout) 11 [(.iload 9, 0, 0, 0), (.bipush 18, 0, 0, 18)] 15 = true := by decide +kernel
theorem dX3_placeWithout_15 : decode (MB MX3_placeWithout) 15 = .ok (.if_icmp .ge 75, 3) := by decide +kernel
theorem sX3_placeWithout_18 : dsOk (MN MX3_placeWithout).cls (MB MX3_placeWithout) 18 [(.lload 7, 0, 0, 0), (.lconst 0, 0, 0, 0), (.lcmp, 0, 0, 0)] 22 = true := by decide +kernel
theorem dX3_placeWithout_22 : decode (MB MX3_placeWithout) 22 = .ok (.ifCond .le 68, 3) := by decide +kernel
theorem sX3_placeWithout_25 : dsOk (MN MX3_placeWithout).cls (MB MX3_placeWithout) 25 [(.lload 7, 0, 0, 0), (.ldc2_w 15, 0, 0, 10), (.lrem, 0, 0, 0), (.lstore 10, 0, 0, 0), (.lload 10, 0, 0, 0), (.iload_n 0, 0, 0, 0), (.i2l, 0, 0, 0), (.lcmp, 0, 0, 0)] 38 = true := by decide +kernel
theorem dX3_placeWithout_38 : decode (MB MX3_placeWithout) 38 = .ok (.ifCond .ne 7, 3) := by decide +kernel
theorem sX3_placeWithout_41 : dsOk (MN MX3_placeWithout).cls (MB MX3_placeWithout) 41 [(.ldc2_w 23, 0, 0, -1)] 44 = true := by decide +kernel
theorem dX3_placeWithout_44 : decode (MB MX3_placeWithout) 44 = .ok (.lreturn, 1) := by decide +kernel
theorem sX3_placeWithout_45 : dsOk (MN MX3_placeWithout).cls (MB MX3_placeWithout) 45 [(.lload_n 3, 0, 0, 0), (.lload 10, 0, 0, 0), (.iload_n 0, 0, 0, 0), (.i2l, 0, 0, 0), (.lcmp, 0, 0, 0)] 51 = true := by decide +kernel
theorem dX3_placeWithout_51 : decode (MB MX3_placeWithout) 51 = .ok (.ifCond .le 10, 3) := by decide +kernel
theorem sX3_placeWithout_54 : dsOk (MN MX3_placeWithout).cls (MB MX3_placeWithout) 54 [(.lload 10, 0, 0, 0), (.lconst 1, 0, 0, 1), (.lsub, 0, 0, 0)] 58 = true := by decide +kernel
theorem dX3_placeWithout_58 : decode (MB MX3_placeWithout) 58 = .ok (.goto 5, 3) := by decide +kernel
theorem sX3_placeWithout_61 : dsOk (MN MX3_placeWithout).cls (MB MX3_placeWithout) 61 [(.lload 10, 0, 0, 0)] 63 = true := by decide +kernel
theorem sX3_placeWithout_63 : dsOk (MN MX3_placeWithout).cls (MB MX3_placeWithout) 63 [(.lload 5, 0, 0, 0), (.lmul, 0, 0, 0), (.ladd, 0, 0, 0), (.lstore_n 3, 0, 0, 0), (.lload 5, 0, 0, 0), (.ldc2_w 21, 0, 0, 9), (.lmul, 0, 0, 0), (.lstore 5, 0, 0, 0), (.lload 7, 0, 0, 0), (.ldc2_w 15, 0, 0, 10), (.ldiv, 0, 0, 0), (.lstore 7, 0, 0, 0), (.iinc 9 1, 0, 0, 0)] 87 = true := by decide +kernel
theorem dX3_placeWithout_87 : decode (MB MX3_placeWithout) 87 = .ok (.goto (-76), 3) := by decide +kernel
theorem sX3_placeWithout_90 : dsOk (MN MX3_placeWithout).cls (MB MX3_placeWithout) 90 [(.lload_n 3, 0, 0, 0)] 91 = true := by decide +kernel
theorem dX3_placeWithout_91 : decode (MB MX3_placeWithout) 91 = .ok (.lreturn, 1) := by decide +kernel
def MX4_init : Ms := (yX4_init, cX4_init, 1, none, [])
set_option maxRecDepth 100000 in
theorem kX4_init : mkI MX4_init 0 := ⟨⟨List.mem_of_getElem? (i := 231) (by rfl), by decide +kernel⟩, by decide +kernel⟩
theorem sX4_init_0 : dsOk (MN MX4_init).cls (MB MX4_init) 0 [(.aload_n 0, 0, 0, 0)] 1 = true := by decide +kernel
theorem dX4_init_1 : decode (MB MX4_init) 1 = .ok (.invokespecial 3, 3) := by decide +kernel
theorem sX4_init_4 : dsOk (MN MX4_init).cls (MB MX4_init) 4 [(.aload_n 0, 0, 0, 0), (.iconst 4, 0, 0, 0)] 6 = true := by decide +kernel
theorem dX4_init_6 : decode (MB MX4_init) 6 = .ok (.newarray .long, 2) := by decide +kernel
theorem dX4_init_8 : decode (MB MX4_init) 8 = .ok (.putfield 9, 3) := by decide +kernel
theorem sX4_init_11 : dsOk (MN MX4_init).cls (MB MX4_init) 11 [(.aload_n 0, 0, 0, 0), (.iconst 4, 0, 0, 0)] 13 = true := by decide +kernel
theorem dX4_init_13 : decode (MB MX4_init) 13 = .ok (.newarray .long, 2) := by decide +kernel
theorem dX4_init_15 : decode (MB MX4_init) 15 = .ok (.putfield 15, 3) := by decide +kernel
theorem dX4_init_18 : decode (MB MX4_init) 18 = .ok (.return_, 1) := by decide +kernel
def MX4_find : Ms := (yX4_find, cX4_find, 5, none, [])
set_option maxRecDepth 100000 in
theorem kX4_find : mkV MX4_find 1 := ⟨⟨List.mem_of_getElem? (i := 1017) (by rfl), by decide +kernel⟩, by decide +kernel⟩
theorem sX4_find_0 : dsOk (MN MX4_find).cls (MB MX4_find) 0 [(.aload_n 0, 0, 0, 0), (.iconst 0, 0, 0, 0), (.putfield 18, 3, 2, 0), (.iconst 1, 0, 0, 0), (.iconst 1, 0, 0, 0), (.iconst 0, 0, 0, 0), (.ldc2_w 22, 0, 0, 2), (.lload_n 1, 0, 0, 0), (.lmul, 0, 0, 0)] 13 = true := by decide +kernel
theorem dX4_find_13 : decode (MB MX4_find) 13 = .ok (.invokestatic 24, 3) := by decide +kernel
theorem sX4_find_16 : dsOk (MN MX4_find).cls (MB MX4_find) 16 [(.lstore_n 3, 0, 0, 0), (.aload_n 0, 0, 0, 0), (.lload_n 1, 0, 0, 0), (.lload_n 3, 0, 0, 0), (.lconst 1, 0, 0, 1), (.ladd, 0, 0, 0)] 22 = true := by decide +kernel
theorem dX4_find_22 : decode (MB MX4_find) 22 = .ok (.invokevirtual 30, 3) := by decide +kernel
theorem sX4_find_25 : dsOk (MN MX4_find).cls (MB MX4_find) 25 [(.aload_n 0, 0, 0, 0), (.lload_n 1, 0, 0, 0), (.lload_n 3, 0, 0, 0), (.ldc2_w 22, 0, 0, 2), (.ladd, 0, 0, 0)] 32 = true := by decide +kernel
theorem dX4_find_32 : decode (MB MX4_find) 32 = .ok (.invokevirtual 30, 3) := by decide +kernel
theorem dX4_find_35 : decode (MB MX4_find) 35 = .ok (.return_, 1) := by decide +kernel
def MX4_findWith : Ms := (yX4_findWith, cX4_findWith, 7, none, [])
set_option maxRecDepth 100000 in
theorem kX4_findWith : mkV MX4_findWith 2 := ⟨⟨List.mem_of_getElem? (i := 1027) (by rfl), by decide +kernel⟩, by decide +kernel⟩
theorem sX4_findWith_0 : dsOk (MN MX4_findWith).cls (MB MX4_findWith) 0 [(.lload_n 3, 0, 0, 0), (.lload_n 3, 0, 0, 0), (.lconst 1, 0, 0, 1), (.ladd, 0, 0, 0), (.lmul, 0, 0, 0), (.ldc2_w 22, 0, 0, 2), (.ldiv, 0, 0, 0), (.lload_n 1, 0, 0, 0), (.lsub, 0, 0, 0), (.lstore 5, 0, 0, 0), (.lload 5, 0, 0, 0), (.ldc2_w 34, 0, 0, 3), (.lcmp, 0, 0, 0)] 19 = true := by decide +kernel
theorem dX4_findWith_19 : decode (MB MX4_findWith) 19 = .ok (.ifCond .lt 50, 3) := by decide +kernel
theorem sX4_findWith_22 : dsOk (MN MX4_findWith).cls (MB MX4_findWith) 22 [(.lload 5, 0, 0, 0), (.ldc2_w 36, 0, 0, 4), (.lrem, 0, 0, 0), (.ldc2_w 34, 0, 0, 3), (.lcmp, 0, 0, 0)] 32 = true := by decide +kernel
theorem dX4_findWith_32 : decode (MB MX4_findWith) 32 = .ok (.ifCond .ne 37, 3) := by decide +kernel
theorem sX4_findWith_35 : dsOk (MN MX4_findWith).cls (MB MX4_findWith) 35 [(.lload 5, 0, 0, 0), (.ldc2_w 34, 0, 0, 3), (.lsub, 0, 0, 0), (.ldc2_w 36, 0, 0, 4), (.ldiv, 0, 0, 0), (.lload_n 3, 0, 0, 0), (.ldc2_w 22, 0, 0, 2), (.ldiv, 0, 0, 0), (.lcmp, 0, 0, 0)] 51 = true := by decide +kernel
theorem dX4_findWith_51 : decode (MB MX4_findWith) 51 = .ok (.ifCond .ge 18, 3) := by decide +kernel
theorem sX4_findWith_54 : dsOk (MN MX4_findWith).cls (MB MX4_findWith) 54 [(.aload_n 0, 0, 0, 0), (.lload_n 3, 0, 0, 0), (.lload 5, 0, 0, 0), (.ldc2_w 34, 0, 0, 3), (.lsub, 0, 0, 0), (.ldc2_w 36, 0, 0, 4), (.ldiv, 0, 0, 0)] 66 = true := by decide +kernel
theorem dX4_findWith_66 : decode (MB MX4_findWith) 66 = .ok (.invokevirtual 38, 3) := by decide +kernel
theorem sX4_findWith_69 : dsOk (MN MX4_findWith).cls (MB MX4_findWith) 69 [(.lload_n 3, 0, 0, 0), (.ldc2_w 22, 0, 0, 2), (.lrem, 0, 0, 0), (.lconst 1, 0, 0, 1), (.lcmp, 0, 0, 0)] 76 = true := by decide +kernel
theorem dX4_findWith_76 : decode (MB MX4_findWith) 76 = .ok (.ifCond .ne 20, 3) := by decide +kernel
theorem sX4_findWith_79 : dsOk (MN MX4_findWith).cls (MB MX4_findWith) 79 [(.lload 5, 0, 0, 0), (.lload_n 3, 0, 0, 0), (.lcmp, 0, 0, 0)] 83 = true := by decide +kernel
theorem dX4_findWith_83 : decode (MB MX4_findWith) 83 = .ok (.ifCond .ne 13, 3) := by decide +kernel
theorem sX4_findWith_86 : dsOk (MN MX4_findWith).cls (MB MX4_findWith) 86 [(.aload_n 0, 0, 0, 0), (.lload_n 3, 0, 0, 0), (.lload_n 3, 0, 0, 0), (.ldc2_w 22, 0, 0, 2), (.ldiv, 0, 0, 0)] 93 = true := by decide +kernel
theorem dX4_findWith_93 : decode (MB MX4_findWith) 93 = .ok (.invokevirtual 38, 3) := by decide +kernel
theorem dX4_findWith_96 : decode (MB MX4_findWith) 96 = .ok (.return_, 1) := by decide +kernel
def MX4_keep : Ms := (yX4_keep, cX4_keep, 5, none, [])
set_option maxRecDepth 100000 in
theorem kX4_keep : mkV MX4_keep 2 := ⟨⟨List.mem_of_getElem? (i := 1033) (by rfl), by decide +kernel⟩, by decide +kernel⟩
theorem sX4_keep_0 : dsOk (MN MX4_keep).cls (MB MX4_keep) 0 [(.aload_n 0, 0, 0, 0), (.getfield 18, 3, 2, 0)] 4 = true := by decide +kernel
theorem dX4_keep_4 : decode (MB MX4_keep) 4 = .ok (.ifCond .lt 57, 3) := by decide +kernel
theorem sX4_keep_7 : dsOk (MN MX4_keep).cls (MB MX4_keep) 7 [(.aload_n 0, 0, 0, 0), (.getfield 18, 3, 2, 0), (.aload_n 0, 0, 0, 0), (.getfield 9, 3, 0, 0), (.arraylength, 0, 0, 0)] 16 = true := by decide +kernel
theorem dX4_keep_16 : decode (MB MX4_keep) 16 = .ok (.if_icmp .ge 45, 3) := by decide +kernel
theorem sX4_keep_19 : dsOk (MN MX4_keep).cls (MB MX4_keep) 19 [(.aload_n 0, 0, 0, 0), (.getfield 18, 3, 2, 0), (.aload_n 0, 0, 0, 0), (.getfield 15, 3, 1, 0), (.arraylength, 0, 0, 0)] 28 = true := by decide +kernel
theorem dX4_keep_28 : decode (MB MX4_keep) 28 = .ok (.if_icmp .ge 33, 3) := by decide +kernel
theorem sX4_keep_31 : dsOk (MN MX4_keep).cls (MB MX4_keep) 31 [(.aload_n 0, 0, 0, 0), (.getfield 9, 3, 0, 0), (.aload_n 0, 0, 0, 0), (.getfield 18, 3, 2, 0), (.lload_n 1, 0, 0, 0), (.lastore, 0, 0, 0), (.aload_n 0, 0, 0, 0), (.getfield 15, 3, 1, 0), (.aload_n 0, 0, 0, 0), (.getfield 18, 3, 2, 0), (.lload_n 3, 0, 0, 0), (.lastore, 0, 0, 0), (.aload_n 0, 0, 0, 0), (.dup, 0, 0, 0), (.getfield 18, 3, 2, 0), (.iconst 1, 0, 0, 0), (.iadd, 0, 0, 0), (.putfield 18, 3, 2, 0)] 61 = true := by decide +kernel
theorem dX4_keep_61 : decode (MB MX4_keep) 61 = .ok (.return_, 1) := by decide +kernel
def MX4_pagesAt : Ms := (yX4_pagesAt, cX4_pagesAt, 2, (some .long), [])
set_option maxRecDepth 100000 in
theorem kX4_pagesAt : mkV MX4_pagesAt 1 := ⟨⟨List.mem_of_getElem? (i := 1042) (by rfl), by decide +kernel⟩, by decide +kernel⟩
theorem sX4_pagesAt_0 : dsOk (MN MX4_pagesAt).cls (MB MX4_pagesAt) 0 [(.iload_n 1, 0, 0, 0)] 1 = true := by decide +kernel
theorem dX4_pagesAt_1 : decode (MB MX4_pagesAt) 1 = .ok (.ifCond .lt 21, 3) := by decide +kernel
theorem sX4_pagesAt_4 : dsOk (MN MX4_pagesAt).cls (MB MX4_pagesAt) 4 [(.iload_n 1, 0, 0, 0), (.aload_n 0, 0, 0, 0), (.getfield 9, 3, 0, 0), (.arraylength, 0, 0, 0)] 10 = true := by decide +kernel
theorem dX4_pagesAt_10 : decode (MB MX4_pagesAt) 10 = .ok (.if_icmp .ge 12, 3) := by decide +kernel
theorem sX4_pagesAt_13 : dsOk (MN MX4_pagesAt).cls (MB MX4_pagesAt) 13 [(.aload_n 0, 0, 0, 0), (.getfield 9, 3, 0, 0), (.iload_n 1, 0, 0, 0), (.laload, 0, 0, 0)] 19 = true := by decide +kernel
theorem dX4_pagesAt_19 : decode (MB MX4_pagesAt) 19 = .ok (.goto 4, 3) := by decide +kernel
theorem sX4_pagesAt_22 : dsOk (MN MX4_pagesAt).cls (MB MX4_pagesAt) 22 [(.lconst 0, 0, 0, 0)] 23 = true := by decide +kernel
theorem dX4_pagesAt_23 : decode (MB MX4_pagesAt) 23 = .ok (.lreturn, 1) := by decide +kernel
def MX4_leafAt : Ms := (yX4_leafAt, cX4_leafAt, 2, (some .long), [])
set_option maxRecDepth 100000 in
theorem kX4_leafAt : mkV MX4_leafAt 1 := ⟨⟨List.mem_of_getElem? (i := 1053) (by rfl), by decide +kernel⟩, by decide +kernel⟩
theorem sX4_leafAt_0 : dsOk (MN MX4_leafAt).cls (MB MX4_leafAt) 0 [(.iload_n 1, 0, 0, 0)] 1 = true := by decide +kernel
theorem dX4_leafAt_1 : decode (MB MX4_leafAt) 1 = .ok (.ifCond .lt 21, 3) := by decide +kernel
theorem sX4_leafAt_4 : dsOk (MN MX4_leafAt).cls (MB MX4_leafAt) 4 [(.iload_n 1, 0, 0, 0), (.aload_n 0, 0, 0, 0), (.getfield 15, 3, 1, 0), (.arraylength, 0, 0, 0)] 10 = true := by decide +kernel
theorem dX4_leafAt_10 : decode (MB MX4_leafAt) 10 = .ok (.if_icmp .ge 12, 3) := by decide +kernel
theorem sX4_leafAt_13 : dsOk (MN MX4_leafAt).cls (MB MX4_leafAt) 13 [(.aload_n 0, 0, 0, 0), (.getfield 15, 3, 1, 0), (.iload_n 1, 0, 0, 0), (.laload, 0, 0, 0)] 19 = true := by decide +kernel
theorem dX4_leafAt_19 : decode (MB MX4_leafAt) 19 = .ok (.goto 4, 3) := by decide +kernel
theorem sX4_leafAt_22 : dsOk (MN MX4_leafAt).cls (MB MX4_leafAt) 22 [(.lconst 0, 0, 0, 0)] 23 = true := by decide +kernel
theorem dX4_leafAt_23 : decode (MB MX4_leafAt) 23 = .ok (.lreturn, 1) := by decide +kernel
def MX4_saying : Ms := (yX4_saying, cX4_saying, 9, (some .long), [])
set_option maxRecDepth 100000 in
theorem kX4_saying : mkV MX4_saying 2 := ⟨⟨List.mem_of_getElem? (i := 1124) (by rfl), by decide +kernel⟩, by decide +kernel⟩
theorem sX4_saying_0 : dsOk (MN MX4_saying).cls (MB MX4_saying) 0 [(.aload_n 0, 0, 0, 0), (.iload_n 1, 0, 0, 0)] 2 = true := by decide +kernel
theorem dX4_saying_2 : decode (MB MX4_saying) 2 = .ok (.invokevirtual 41, 3) := by decide +kernel
theorem sX4_saying_5 : dsOk (MN MX4_saying).cls (MB MX4_saying) 5 [(.lstore_n 3, 0, 0, 0), (.iload_n 2, 0, 0, 0), (.bipush 11, 0, 0, 11)] 9 = true := by decide +kernel
theorem dX4_saying_9 : decode (MB MX4_saying) 9 = .ok (.if_icmp .ne 11, 3) := by decide +kernel
theorem sX4_saying_12 : dsOk (MN MX4_saying).cls (MB MX4_saying) 12 [(.lload_n 3, 0, 0, 0), (.lconst 1, 0, 0, 1), (.ladd, 0, 0, 0), (.ldc2_w 22, 0, 0, 2), (.ldiv, 0, 0, 0)] 19 = true := by decide +kernel
theorem dX4_saying_19 : decode (MB MX4_saying) 19 = .ok (.lreturn, 1) := by decide +kernel
theorem sX4_saying_20 : dsOk (MN MX4_saying).cls (MB MX4_saying) 20 [(.ldc2_w 22, 0, 0, 2), (.aload_n 0, 0, 0, 0), (.iload_n 1, 0, 0, 0)] 25 = true := by decide +kernel
theorem dX4_saying_25 : decode (MB MX4_saying) 25 = .ok (.invokevirtual 45, 3) := by decide +kernel
theorem sX4_saying_28 : dsOk (MN MX4_saying).cls (MB MX4_saying) 28 [(.lmul, 0, 0, 0), (.lconst 1, 0, 0, 1), (.ladd, 0, 0, 0), (.lstore 5, 0, 0, 0), (.iload_n 2, 0, 0, 0), (.lload_n 3, 0, 0, 0)] 35 = true := by decide +kernel
theorem dX4_saying_35 : decode (MB MX4_saying) 35 = .ok (.invokestatic 48, 3) := by decide +kernel
theorem sX4_saying_38 : dsOk (MN MX4_saying).cls (MB MX4_saying) 38 [(.iload_n 2, 0, 0, 0), (.lload 5, 0, 0, 0)] 41 = true := by decide +kernel
theorem dX4_saying_41 : decode (MB MX4_saying) 41 = .ok (.invokestatic 54, 3) := by decide +kernel
theorem sX4_saying_44 : dsOk (MN MX4_saying).cls (MB MX4_saying) 44 [(.i2l, 0, 0, 0), (.lsub, 0, 0, 0), (.lstore 7, 0, 0, 0), (.lload 5, 0, 0, 0), (.lload_n 3, 0, 0, 0), (.lcmp, 0, 0, 0)] 52 = true := by decide +kernel
theorem dX4_saying_52 : decode (MB MX4_saying) 52 = .ok (.ifCond .ge 18, 3) := by decide +kernel
theorem sX4_saying_55 : dsOk (MN MX4_saying).cls (MB MX4_saying) 55 [(.lload 7, 0, 0, 0), (.iload_n 2, 0, 0, 0), (.lload 5, 0, 0, 0), (.lconst 1, 0, 0, 1), (.ladd, 0, 0, 0)] 62 = true := by decide +kernel
theorem dX4_saying_62 : decode (MB MX4_saying) 62 = .ok (.invokestatic 54, 3) := by decide +kernel
theorem sX4_saying_65 : dsOk (MN MX4_saying).cls (MB MX4_saying) 65 [(.i2l, 0, 0, 0), (.lsub, 0, 0, 0)] 67 = true := by decide +kernel
theorem dX4_saying_67 : decode (MB MX4_saying) 67 = .ok (.goto 5, 3) := by decide +kernel
theorem sX4_saying_70 : dsOk (MN MX4_saying).cls (MB MX4_saying) 70 [(.lload 7, 0, 0, 0)] 72 = true := by decide +kernel
theorem dX4_saying_72 : decode (MB MX4_saying) 72 = .ok (.lreturn, 1) := by decide +kernel
def MX4_areUnlike : Ms := (yX4_areUnlike, cX4_areUnlike, 4, (some .boolean), [])
set_option maxRecDepth 100000 in
theorem kX4_areUnlike : mkV MX4_areUnlike 1 := ⟨⟨List.mem_of_getElem? (i := 1144) (by rfl), by decide +kernel⟩, by decide +kernel⟩
theorem sX4_areUnlike_0 : dsOk (MN MX4_areUnlike).cls (MB MX4_areUnlike) 0 [(.iconst 1, 0, 0, 0), (.istore_n 2, 0, 0, 0)] 2 = true := by decide +kernel
theorem sX4_areUnlike_2 : dsOk (MN MX4_areUnlike).cls (MB MX4_areUnlike) 2 [(.iload_n 2, 0, 0, 0), (.aload_n 0, 0, 0, 0), (.getfield 18, 3, 2, 0)] 7 = true := by decide +kernel
theorem dX4_areUnlike_7 : decode (MB MX4_areUnlike) 7 = .ok (.if_icmp .ge 40, 3) := by decide +kernel
theorem sX4_areUnlike_10 : dsOk (MN MX4_areUnlike).cls (MB MX4_areUnlike) 10 [(.iconst 0, 0, 0, 0), (.istore_n 3, 0, 0, 0)] 12 = true := by decide +kernel
theorem sX4_areUnlike_12 : dsOk (MN MX4_areUnlike).cls (MB MX4_areUnlike) 12 [(.iload_n 3, 0, 0, 0), (.iload_n 2, 0, 0, 0)] 14 = true := by decide +kernel
theorem dX4_areUnlike_14 : decode (MB MX4_areUnlike) 14 = .ok (.if_icmp .ge 27, 3) := by decide +kernel
theorem sX4_areUnlike_17 : dsOk (MN MX4_areUnlike).cls (MB MX4_areUnlike) 17 [(.aload_n 0, 0, 0, 0), (.iload_n 2, 0, 0, 0), (.iload_n 1, 0, 0, 0)] 20 = true := by decide +kernel
theorem dX4_areUnlike_20 : decode (MB MX4_areUnlike) 20 = .ok (.invokevirtual 58, 3) := by decide +kernel
theorem sX4_areUnlike_23 : dsOk (MN MX4_areUnlike).cls (MB MX4_areUnlike) 23 [(.aload_n 0, 0, 0, 0), (.iload_n 3, 0, 0, 0), (.iload_n 1, 0, 0, 0)] 26 = true := by decide +kernel
theorem dX4_areUnlike_26 : decode (MB MX4_areUnlike) 26 = .ok (.invokevirtual 58, 3) := by decide +kernel
theorem sX4_areUnlike_29 : dsOk (MN MX4_areUnlike).cls (MB MX4_areUnlike) 29 [(.lcmp, 0, 0, 0)] 30 = true := by decide +kernel
theorem dX4_areUnlike_30 : decode (MB MX4_areUnlike) 30 = .ok (.ifCond .ne 5, 3) := by decide +kernel
theorem sX4_areUnlike_33 : dsOk (MN MX4_areUnlike).cls (MB MX4_areUnlike) 33 [(.iconst 0, 0, 0, 0)] 34 = true := by decide +kernel
theorem dX4_areUnlike_34 : decode (MB MX4_areUnlike) 34 = .ok (.ireturn, 1) := by decide +kernel
theorem sX4_areUnlike_35 : dsOk (MN MX4_areUnlike).cls (MB MX4_areUnlike) 35 [(.iinc 3 1, 0, 0, 0)] 38 = true := by decide +kernel
theorem dX4_areUnlike_38 : decode (MB MX4_areUnlike) 38 = .ok (.goto (-26), 3) := by decide +kernel
theorem sX4_areUnlike_41 : dsOk (MN MX4_areUnlike).cls (MB MX4_areUnlike) 41 [(.iinc 2 1, 0, 0, 0)] 44 = true := by decide +kernel
theorem dX4_areUnlike_44 : decode (MB MX4_areUnlike) 44 = .ok (.goto (-42), 3) := by decide +kernel
theorem sX4_areUnlike_47 : dsOk (MN MX4_areUnlike).cls (MB MX4_areUnlike) 47 [(.iconst 1, 0, 0, 0)] 48 = true := by decide +kernel
theorem dX4_areUnlike_48 : decode (MB MX4_areUnlike) 48 = .ok (.ireturn, 1) := by decide +kernel
def MX5_init : Ms := (yX5_init, cX5_init, 1, none, [])
set_option maxRecDepth 100000 in
theorem kX5_init : mkI MX5_init 0 := ⟨⟨List.mem_of_getElem? (i := 94) (by rfl), by decide +kernel⟩, by decide +kernel⟩
theorem sX5_init_0 : dsOk (MN MX5_init).cls (MB MX5_init) 0 [(.aload_n 0, 0, 0, 0)] 1 = true := by decide +kernel
theorem dX5_init_1 : decode (MB MX5_init) 1 = .ok (.invokespecial 3, 3) := by decide +kernel
theorem sX5_init_4 : dsOk (MN MX5_init).cls (MB MX5_init) 4 [(.aload_n 0, 0, 0, 0), (.bipush 63, 0, 0, 63)] 7 = true := by decide +kernel
theorem dX5_init_7 : decode (MB MX5_init) 7 = .ok (.newarray .int, 2) := by decide +kernel
theorem dX5_init_9 : decode (MB MX5_init) 9 = .ok (.putfield 9, 3) := by decide +kernel
theorem dX5_init_12 : decode (MB MX5_init) 12 = .ok (.return_, 1) := by decide +kernel
def MX5_size : Ms := (yX5_size, cX5_size, 1, (some .int), [])
set_option maxRecDepth 100000 in
theorem kX5_size : mkV MX5_size 0 := ⟨⟨List.mem_of_getElem? (i := 661) (by rfl), by decide +kernel⟩, by decide +kernel⟩
theorem sX5_size_0 : dsOk (MN MX5_size).cls (MB MX5_size) 0 [(.aload_n 0, 0, 0, 0), (.getfield 15, 4, 1, 0)] 4 = true := by decide +kernel
theorem dX5_size_4 : decode (MB MX5_size) 4 = .ok (.ireturn, 1) := by decide +kernel
def MX5_has : Ms := (yX5_has, cX5_has, 3, (some .boolean), [])
set_option maxRecDepth 100000 in
theorem kX5_has : mkV MX5_has 1 := ⟨⟨List.mem_of_getElem? (i := 669) (by rfl), by decide +kernel⟩, by decide +kernel⟩
theorem sX5_has_0 : dsOk (MN MX5_has).cls (MB MX5_has) 0 [(.iload_n 1, 0, 0, 0), (.iconst 5, 0, 0, 0), (.ishr, 0, 0, 0), (.istore_n 2, 0, 0, 0), (.iload_n 2, 0, 0, 0)] 5 = true := by decide +kernel
theorem dX5_has_5 : decode (MB MX5_has) 5 = .ok (.ifCond .lt 32, 3) := by decide +kernel
theorem sX5_has_8 : dsOk (MN MX5_has).cls (MB MX5_has) 8 [(.iload_n 2, 0, 0, 0), (.aload_n 0, 0, 0, 0), (.getfield 9, 4, 0, 0), (.arraylength, 0, 0, 0)] 14 = true := by decide +kernel
theorem dX5_has_14 : decode (MB MX5_has) 14 = .ok (.if_icmp .ge 23, 3) := by decide +kernel
theorem sX5_has_17 : dsOk (MN MX5_has).cls (MB MX5_has) 17 [(.aload_n 0, 0, 0, 0), (.getfield 9, 4, 0, 0), (.iload_n 2, 0, 0, 0), (.iaload, 0, 0, 0), (.iload_n 1, 0, 0, 0), (.bipush 31, 0, 0, 31), (.iand, 0, 0, 0), (.iushr, 0, 0, 0), (.iconst 1, 0, 0, 0), (.iand, 0, 0, 0)] 30 = true := by decide +kernel
theorem dX5_has_30 : decode (MB MX5_has) 30 = .ok (.ifCond .eq 7, 3) := by decide +kernel
theorem sX5_has_33 : dsOk (MN MX5_has).cls (MB MX5_has) 33 [(.iconst 1, 0, 0, 0)] 34 = true := by decide +kernel
theorem dX5_has_34 : decode (MB MX5_has) 34 = .ok (.goto 4, 3) := by decide +kernel
theorem sX5_has_37 : dsOk (MN MX5_has).cls (MB MX5_has) 37 [(.iconst 0, 0, 0, 0)] 38 = true := by decide +kernel
theorem dX5_has_38 : decode (MB MX5_has) 38 = .ok (.ireturn, 1) := by decide +kernel
def MX5_take : Ms := (yX5_take, cX5_take, 4, none, [])
set_option maxRecDepth 100000 in
theorem kX5_take : mkV MX5_take 1 := ⟨⟨List.mem_of_getElem? (i := 673) (by rfl), by decide +kernel⟩, by decide +kernel⟩
theorem sX5_take_0 : dsOk (MN MX5_take).cls (MB MX5_take) 0 [(.iload_n 1, 0, 0, 0), (.iconst 5, 0, 0, 0), (.ishr, 0, 0, 0), (.istore_n 2, 0, 0, 0), (.iconst 1, 0, 0, 0), (.iload_n 1, 0, 0, 0), (.bipush 31, 0, 0, 31), (.iand, 0, 0, 0), (.ishl, 0, 0, 0), (.istore_n 3, 0, 0, 0), (.iload_n 2, 0, 0, 0)] 12 = true := by decide +kernel
theorem dX5_take_12 : decode (MB MX5_take) 12 = .ok (.ifCond .lt 43, 3) := by decide +kernel
theorem sX5_take_15 : dsOk (MN MX5_take).cls (MB MX5_take) 15 [(.iload_n 2, 0, 0, 0), (.aload_n 0, 0, 0, 0), (.getfield 9, 4, 0, 0), (.arraylength, 0, 0, 0)] 21 = true := by decide +kernel
theorem dX5_take_21 : decode (MB MX5_take) 21 = .ok (.if_icmp .ge 34, 3) := by decide +kernel
theorem sX5_take_24 : dsOk (MN MX5_take).cls (MB MX5_take) 24 [(.aload_n 0, 0, 0, 0), (.getfield 9, 4, 0, 0), (.iload_n 2, 0, 0, 0), (.iaload, 0, 0, 0), (.iload_n 3, 0, 0, 0), (.iand, 0, 0, 0)] 32 = true := by decide +kernel
theorem dX5_take_32 : decode (MB MX5_take) 32 = .ok (.ifCond .ne 23, 3) := by decide +kernel
theorem sX5_take_35 : dsOk (MN MX5_take).cls (MB MX5_take) 35 [(.aload_n 0, 0, 0, 0), (.getfield 9, 4, 0, 0), (.iload_n 2, 0, 0, 0), (.dup2, 0, 0, 0), (.iaload, 0, 0, 0), (.iload_n 3, 0, 0, 0), (.ior, 0, 0, 0), (.iastore, 0, 0, 0), (.aload_n 0, 0, 0, 0), (.dup, 0, 0, 0), (.getfield 15, 4, 1, 0), (.iconst 1, 0, 0, 0), (.iadd, 0, 0, 0), (.putfield 15, 4, 1, 0)] 55 = true := by decide +kernel
theorem dX5_take_55 : decode (MB MX5_take) 55 = .ok (.return_, 1) := by decide +kernel
def MX5_give : Ms := (yX5_give, cX5_give, 4, none, [])
set_option maxRecDepth 100000 in
theorem kX5_give : mkV MX5_give 1 := ⟨⟨List.mem_of_getElem? (i := 389) (by rfl), by decide +kernel⟩, by decide +kernel⟩
theorem sX5_give_0 : dsOk (MN MX5_give).cls (MB MX5_give) 0 [(.iload_n 1, 0, 0, 0), (.iconst 5, 0, 0, 0), (.ishr, 0, 0, 0), (.istore_n 2, 0, 0, 0), (.iconst 1, 0, 0, 0), (.iload_n 1, 0, 0, 0), (.bipush 31, 0, 0, 31), (.iand, 0, 0, 0), (.ishl, 0, 0, 0), (.istore_n 3, 0, 0, 0), (.iload_n 2, 0, 0, 0)] 12 = true := by decide +kernel
theorem dX5_give_12 : decode (MB MX5_give) 12 = .ok (.ifCond .lt 45, 3) := by decide +kernel
theorem sX5_give_15 : dsOk (MN MX5_give).cls (MB MX5_give) 15 [(.iload_n 2, 0, 0, 0), (.aload_n 0, 0, 0, 0), (.getfield 9, 4, 0, 0), (.arraylength, 0, 0, 0)] 21 = true := by decide +kernel
theorem dX5_give_21 : decode (MB MX5_give) 21 = .ok (.if_icmp .ge 36, 3) := by decide +kernel
theorem sX5_give_24 : dsOk (MN MX5_give).cls (MB MX5_give) 24 [(.aload_n 0, 0, 0, 0), (.getfield 9, 4, 0, 0), (.iload_n 2, 0, 0, 0), (.iaload, 0, 0, 0), (.iload_n 3, 0, 0, 0), (.iand, 0, 0, 0)] 32 = true := by decide +kernel
theorem dX5_give_32 : decode (MB MX5_give) 32 = .ok (.ifCond .eq 25, 3) := by decide +kernel
theorem sX5_give_35 : dsOk (MN MX5_give).cls (MB MX5_give) 35 [(.aload_n 0, 0, 0, 0), (.getfield 9, 4, 0, 0), (.iload_n 2, 0, 0, 0), (.dup2, 0, 0, 0), (.iaload, 0, 0, 0), (.iload_n 3, 0, 0, 0), (.iconst (-1), 0, 0, 0), (.ixor, 0, 0, 0), (.iand, 0, 0, 0), (.iastore, 0, 0, 0), (.aload_n 0, 0, 0, 0), (.dup, 0, 0, 0), (.getfield 15, 4, 1, 0), (.iconst 1, 0, 0, 0), (.isub, 0, 0, 0), (.putfield 15, 4, 1, 0)] 57 = true := by decide +kernel
theorem dX5_give_57 : decode (MB MX5_give) 57 = .ok (.return_, 1) := by decide +kernel
def MX5_empty : Ms := (yX5_empty, cX5_empty, 2, none, [])
set_option maxRecDepth 100000 in
theorem kX5_empty : mkV MX5_empty 0 := ⟨⟨List.mem_of_getElem? (i := 693) (by rfl), by decide +kernel⟩, by decide +kernel⟩
theorem sX5_empty_0 : dsOk (MN MX5_empty).cls (MB MX5_empty) 0 [(.iconst 0, 0, 0, 0), (.istore_n 1, 0, 0, 0)] 2 = true := by decide +kernel
theorem sX5_empty_2 : dsOk (MN MX5_empty).cls (MB MX5_empty) 2 [(.iload_n 1, 0, 0, 0), (.aload_n 0, 0, 0, 0), (.getfield 9, 4, 0, 0), (.arraylength, 0, 0, 0)] 8 = true := by decide +kernel
theorem dX5_empty_8 : decode (MB MX5_empty) 8 = .ok (.if_icmp .ge 16, 3) := by decide +kernel
theorem sX5_empty_11 : dsOk (MN MX5_empty).cls (MB MX5_empty) 11 [(.aload_n 0, 0, 0, 0), (.getfield 9, 4, 0, 0), (.iload_n 1, 0, 0, 0), (.iconst 0, 0, 0, 0), (.iastore, 0, 0, 0), (.iinc 1 1, 0, 0, 0)] 21 = true := by decide +kernel
theorem dX5_empty_21 : decode (MB MX5_empty) 21 = .ok (.goto (-19), 3) := by decide +kernel
theorem sX5_empty_24 : dsOk (MN MX5_empty).cls (MB MX5_empty) 24 [(.aload_n 0, 0, 0, 0), (.iconst 0, 0, 0, 0), (.putfield 15, 4, 1, 0)] 29 = true := by decide +kernel
theorem dX5_empty_29 : decode (MB MX5_empty) 29 = .ok (.return_, 1) := by decide +kernel
def MX5_takeFrom : Ms := (yX5_takeFrom, cX5_takeFrom, 3, none, [])
set_option maxRecDepth 100000 in
theorem kX5_takeFrom : mkV MX5_takeFrom 1 := ⟨⟨List.mem_of_getElem? (i := 420) (by rfl), by decide +kernel⟩, by decide +kernel⟩
theorem sX5_takeFrom_0 : dsOk (MN MX5_takeFrom).cls (MB MX5_takeFrom) 0 [(.iconst 0, 0, 0, 0), (.istore_n 2, 0, 0, 0)] 2 = true := by decide +kernel
theorem sX5_takeFrom_2 : dsOk (MN MX5_takeFrom).cls (MB MX5_takeFrom) 2 [(.iload_n 2, 0, 0, 0), (.aload_n 0, 0, 0, 0), (.getfield 9, 4, 0, 0), (.arraylength, 0, 0, 0)] 8 = true := by decide +kernel
theorem dX5_takeFrom_8 : decode (MB MX5_takeFrom) 8 = .ok (.if_icmp .ge 23, 3) := by decide +kernel
theorem sX5_takeFrom_11 : dsOk (MN MX5_takeFrom).cls (MB MX5_takeFrom) 11 [(.aload_n 0, 0, 0, 0), (.getfield 9, 4, 0, 0), (.iload_n 2, 0, 0, 0), (.aload_n 1, 0, 0, 0), (.getfield 9, 4, 0, 0), (.iload_n 2, 0, 0, 0)] 21 = true := by decide +kernel
theorem dX5_takeFrom_21 : decode (MB MX5_takeFrom) 21 = .ok (.invokestatic 19, 3) := by decide +kernel
theorem sX5_takeFrom_24 : dsOk (MN MX5_takeFrom).cls (MB MX5_takeFrom) 24 [(.iastore, 0, 0, 0), (.iinc 2 1, 0, 0, 0)] 28 = true := by decide +kernel
theorem dX5_takeFrom_28 : decode (MB MX5_takeFrom) 28 = .ok (.goto (-26), 3) := by decide +kernel
theorem sX5_takeFrom_31 : dsOk (MN MX5_takeFrom).cls (MB MX5_takeFrom) 31 [(.aload_n 0, 0, 0, 0), (.aload_n 1, 0, 0, 0), (.getfield 15, 4, 1, 0), (.putfield 15, 4, 1, 0)] 39 = true := by decide +kernel
theorem dX5_takeFrom_39 : decode (MB MX5_takeFrom) 39 = .ok (.return_, 1) := by decide +kernel
def MX6_init : Ms := (yX6_init, cX6_init, 1, none, [])
set_option maxRecDepth 100000 in
theorem kX6_init : mkI MX6_init 0 := ⟨⟨List.mem_of_getElem? (i := 259) (by rfl), by decide +kernel⟩, by decide +kernel⟩
theorem sX6_init_0 : dsOk (MN MX6_init).cls (MB MX6_init) 0 [(.aload_n 0, 0, 0, 0)] 1 = true := by decide +kernel
theorem dX6_init_1 : decode (MB MX6_init) 1 = .ok (.invokespecial 3, 3) := by decide +kernel
theorem sX6_init_4 : dsOk (MN MX6_init).cls (MB MX6_init) 4 [(.aload_n 0, 0, 0, 0), (.bipush 10, 0, 0, 10)] 7 = true := by decide +kernel
theorem dX6_init_7 : decode (MB MX6_init) 7 = .ok (.newarray .int, 2) := by decide +kernel
theorem dX6_init_9 : decode (MB MX6_init) 9 = .ok (.putfield 9, 3) := by decide +kernel
theorem sX6_init_12 : dsOk (MN MX6_init).cls (MB MX6_init) 12 [(.aload_n 0, 0, 0, 0), (.iconst 4, 0, 0, 0)] 14 = true := by decide +kernel
theorem dX6_init_14 : decode (MB MX6_init) 14 = .ok (.newarray .int, 2) := by decide +kernel
theorem dX6_init_16 : decode (MB MX6_init) 16 = .ok (.putfield 15, 3) := by decide +kernel
theorem sX6_init_19 : dsOk (MN MX6_init).cls (MB MX6_init) 19 [(.aload_n 0, 0, 0, 0), (.bipush 10, 0, 0, 10)] 22 = true := by decide +kernel
theorem dX6_init_22 : decode (MB MX6_init) 22 = .ok (.newarray .int, 2) := by decide +kernel
theorem dX6_init_24 : decode (MB MX6_init) 24 = .ok (.putfield 18, 3) := by decide +kernel
theorem sX6_init_27 : dsOk (MN MX6_init).cls (MB MX6_init) 27 [(.aload_n 0, 0, 0, 0), (.bipush 10, 0, 0, 10)] 30 = true := by decide +kernel
theorem dX6_init_30 : decode (MB MX6_init) 30 = .ok (.newarray .int, 2) := by decide +kernel
theorem dX6_init_32 : decode (MB MX6_init) 32 = .ok (.putfield 21, 3) := by decide +kernel
theorem sX6_init_35 : dsOk (MN MX6_init).cls (MB MX6_init) 35 [(.aload_n 0, 0, 0, 0), (.iconst (-1), 0, 0, 0), (.putfield 24, 5, 8, 0)] 40 = true := by decide +kernel
theorem dX6_init_40 : decode (MB MX6_init) 40 = .ok (.return_, 1) := by decide +kernel
def MX6_forget : Ms := (yX6_forget, cX6_forget, 1, none, [])
set_option maxRecDepth 100000 in
theorem kX6_forget : mkV MX6_forget 0 := ⟨⟨List.mem_of_getElem? (i := 793) (by rfl), by decide +kernel⟩, by decide +kernel⟩
theorem sX6_forget_0 : dsOk (MN MX6_forget).cls (MB MX6_forget) 0 [(.aload_n 0, 0, 0, 0), (.iconst (-1), 0, 0, 0), (.putfield 24, 5, 8, 0)] 5 = true := by decide +kernel
theorem dX6_forget_5 : decode (MB MX6_forget) 5 = .ok (.return_, 1) := by decide +kernel
def MX6_hasKept : Ms := (yX6_hasKept, cX6_hasKept, 2, (some .boolean), [])
set_option maxRecDepth 100000 in
theorem kX6_hasKept : mkV MX6_hasKept 1 := ⟨⟨List.mem_of_getElem? (i := 1354) (by rfl), by decide +kernel⟩, by decide +kernel⟩
theorem sX6_hasKept_0 : dsOk (MN MX6_hasKept).cls (MB MX6_hasKept) 0 [(.iload_n 1, 0, 0, 0)] 1 = true := by decide +kernel
theorem dX6_hasKept_1 : decode (MB MX6_hasKept) 1 = .ok (.ifCond .lt 15, 3) := by decide +kernel
theorem sX6_hasKept_4 : dsOk (MN MX6_hasKept).cls (MB MX6_hasKept) 4 [(.iload_n 1, 0, 0, 0), (.aload_n 0, 0, 0, 0), (.getfield 24, 5, 8, 0)] 9 = true := by decide +kernel
theorem dX6_hasKept_9 : decode (MB MX6_hasKept) 9 = .ok (.if_icmp .ge 7, 3) := by decide +kernel
theorem sX6_hasKept_12 : dsOk (MN MX6_hasKept).cls (MB MX6_hasKept) 12 [(.iconst 1, 0, 0, 0)] 13 = true := by decide +kernel
theorem dX6_hasKept_13 : decode (MB MX6_hasKept) 13 = .ok (.goto 4, 3) := by decide +kernel
theorem sX6_hasKept_16 : dsOk (MN MX6_hasKept).cls (MB MX6_hasKept) 16 [(.iconst 0, 0, 0, 0)] 17 = true := by decide +kernel
theorem dX6_hasKept_17 : decode (MB MX6_hasKept) 17 = .ok (.ireturn, 1) := by decide +kernel
def MX6_childOf : Ms := (yX6_childOf, cX6_childOf, 2, (some .int), [])
set_option maxRecDepth 100000 in
theorem kX6_childOf : mkV MX6_childOf 1 := ⟨⟨List.mem_of_getElem? (i := 1359) (by rfl), by decide +kernel⟩, by decide +kernel⟩
theorem sX6_childOf_0 : dsOk (MN MX6_childOf).cls (MB MX6_childOf) 0 [(.aload_n 0, 0, 0, 0), (.getfield 21, 5, 7, 0), (.iload_n 1, 0, 0, 0)] 5 = true := by decide +kernel
theorem dX6_childOf_5 : decode (MB MX6_childOf) 5 = .ok (.invokestatic 28, 3) := by decide +kernel
theorem dX6_childOf_8 : decode (MB MX6_childOf) 8 = .ok (.ireturn, 1) := by decide +kernel
def MX6_open : Ms := (yX6_open, cX6_open, 2, none, [])
set_option maxRecDepth 100000 in
theorem kX6_open : mkV MX6_open 1 := ⟨⟨List.mem_of_getElem? (i := 1312) (by rfl), by decide +kernel⟩, by decide +kernel⟩
theorem sX6_open_0 : dsOk (MN MX6_open).cls (MB MX6_open) 0 [(.aload_n 0, 0, 0, 0), (.iload_n 1, 0, 0, 0), (.putfield 32, 5, 2, 0), (.aload_n 0, 0, 0, 0), (.iconst 0, 0, 0, 0), (.putfield 35, 5, 1, 0), (.aload_n 0, 0, 0, 0), (.iconst 0, 0, 0, 0), (.putfield 38, 5, 3, 0)] 15 = true := by decide +kernel
theorem dX6_open_15 : decode (MB MX6_open) 15 = .ok (.return_, 1) := by decide +kernel
def MX6_offer : Ms := (yX6_offer, cX6_offer, 2, none, [])
set_option maxRecDepth 100000 in
theorem kX6_offer : mkV MX6_offer 1 := ⟨⟨List.mem_of_getElem? (i := 1316) (by rfl), by decide +kernel⟩, by decide +kernel⟩
theorem sX6_offer_0 : dsOk (MN MX6_offer).cls (MB MX6_offer) 0 [(.aload_n 0, 0, 0, 0), (.getfield 9, 5, 0, 0), (.aload_n 0, 0, 0, 0), (.getfield 35, 5, 1, 0), (.iload_n 1, 0, 0, 0)] 9 = true := by decide +kernel
theorem dX6_offer_9 : decode (MB MX6_offer) 9 = .ok (.invokestatic 41, 3) := by decide +kernel
theorem sX6_offer_12 : dsOk (MN MX6_offer).cls (MB MX6_offer) 12 [(.aload_n 0, 0, 0, 0), (.dup, 0, 0, 0), (.getfield 35, 5, 1, 0), (.iconst 1, 0, 0, 0), (.iadd, 0, 0, 0), (.putfield 35, 5, 1, 0), (.aload_n 0, 0, 0, 0), (.dup, 0, 0, 0), (.getfield 38, 5, 3, 0), (.iload_n 1, 0, 0, 0), (.iadd, 0, 0, 0), (.putfield 38, 5, 3, 0)] 32 = true := by decide +kernel
theorem dX6_offer_32 : decode (MB MX6_offer) 32 = .ok (.return_, 1) := by decide +kernel
def MX6_share : Ms := (yX6_share, cX6_share, 2, (some .int), [])
set_option maxRecDepth 100000 in
theorem kX6_share : mkV MX6_share 0 := ⟨⟨List.mem_of_getElem? (i := 1321) (by rfl), by decide +kernel⟩, by decide +kernel⟩
theorem sX6_share_0 : dsOk (MN MX6_share).cls (MB MX6_share) 0 [(.iconst 0, 0, 0, 0), (.istore_n 1, 0, 0, 0)] 2 = true := by decide +kernel
theorem sX6_share_2 : dsOk (MN MX6_share).cls (MB MX6_share) 2 [(.iload_n 1, 0, 0, 0), (.aload_n 0, 0, 0, 0), (.getfield 15, 5, 4, 0), (.arraylength, 0, 0, 0)] 8 = true := by decide +kernel
theorem dX6_share_8 : decode (MB MX6_share) 8 = .ok (.if_icmp .ge 16, 3) := by decide +kernel
theorem sX6_share_11 : dsOk (MN MX6_share).cls (MB MX6_share) 11 [(.aload_n 0, 0, 0, 0), (.getfield 15, 5, 4, 0), (.iload_n 1, 0, 0, 0), (.iconst 0, 0, 0, 0), (.iastore, 0, 0, 0), (.iinc 1 1, 0, 0, 0)] 21 = true := by decide +kernel
theorem dX6_share_21 : decode (MB MX6_share) 21 = .ok (.goto (-19), 3) := by decide +kernel
theorem sX6_share_24 : dsOk (MN MX6_share).cls (MB MX6_share) 24 [(.aload_n 0, 0, 0, 0), (.ldc 45, 0, 0, 1000000000), (.putfield 46, 5, 6, 0), (.aload_n 0, 0, 0, 0), (.iconst 0, 0, 0, 0), (.iconst 0, 0, 0, 0)] 33 = true := by decide +kernel
theorem dX6_share_33 : decode (MB MX6_share) 33 = .ok (.invokevirtual 49, 3) := by decide +kernel
theorem sX6_share_36 : dsOk (MN MX6_share).cls (MB MX6_share) 36 [(.aload_n 0, 0, 0, 0), (.aload_n 0, 0, 0, 0), (.getfield 35, 5, 1, 0), (.putfield 24, 5, 8, 0), (.aload_n 0, 0, 0, 0), (.getfield 46, 5, 6, 0)] 48 = true := by decide +kernel
theorem dX6_share_48 : decode (MB MX6_share) 48 = .ok (.ireturn, 1) := by decide +kernel
def MX6_deal : Ms := (yX6_deal, cX6_deal, 5, none, [])
set_option maxRecDepth 100000 in
theorem kX6_deal : mkV MX6_deal 2 := ⟨⟨List.mem_of_getElem? (i := 1326) (by rfl), by decide +kernel⟩, by decide +kernel⟩
theorem sX6_deal_0 : dsOk (MN MX6_deal).cls (MB MX6_deal) 0 [(.iload_n 1, 0, 0, 0), (.aload_n 0, 0, 0, 0), (.getfield 35, 5, 1, 0)] 5 = true := by decide +kernel
theorem dX6_deal_5 : decode (MB MX6_deal) 5 = .ok (.if_icmp .ge 9, 3) := by decide +kernel
theorem sX6_deal_8 : dsOk (MN MX6_deal).cls (MB MX6_deal) 8 [(.iload_n 1, 0, 0, 0), (.bipush 10, 0, 0, 10)] 11 = true := by decide +kernel
theorem dX6_deal_11 : decode (MB MX6_deal) 11 = .ok (.if_icmp .lt 8, 3) := by decide +kernel
theorem sX6_deal_14 : dsOk (MN MX6_deal).cls (MB MX6_deal) 14 [(.aload_n 0, 0, 0, 0)] 15 = true := by decide +kernel
theorem dX6_deal_15 : decode (MB MX6_deal) 15 = .ok (.invokevirtual 53, 3) := by decide +kernel
theorem dX6_deal_18 : decode (MB MX6_deal) 18 = .ok (.return_, 1) := by decide +kernel
theorem sX6_deal_19 : dsOk (MN MX6_deal).cls (MB MX6_deal) 19 [(.iload_n 2, 0, 0, 0), (.iconst 1, 0, 0, 0), (.iadd, 0, 0, 0), (.aload_n 0, 0, 0, 0), (.getfield 32, 5, 2, 0)] 26 = true := by decide +kernel
theorem dX6_deal_26 : decode (MB MX6_deal) 26 = .ok (.invokestatic 56, 3) := by decide +kernel
theorem sX6_deal_29 : dsOk (MN MX6_deal).cls (MB MX6_deal) 29 [(.istore_n 3, 0, 0, 0), (.iconst 0, 0, 0, 0), (.istore 4, 0, 0, 0)] 33 = true := by decide +kernel
theorem sX6_deal_33 : dsOk (MN MX6_deal).cls (MB MX6_deal) 33 [(.iload 4, 0, 0, 0), (.iload_n 3, 0, 0, 0)] 36 = true := by decide +kernel
theorem dX6_deal_36 : decode (MB MX6_deal) 36 = .ok (.if_icmp .ge 17, 3) := by decide +kernel
theorem sX6_deal_39 : dsOk (MN MX6_deal).cls (MB MX6_deal) 39 [(.aload_n 0, 0, 0, 0), (.iload 4, 0, 0, 0), (.iload_n 1, 0, 0, 0), (.iload_n 2, 0, 0, 0)] 44 = true := by decide +kernel
theorem dX6_deal_44 : decode (MB MX6_deal) 44 = .ok (.invokevirtual 62, 3) := by decide +kernel
theorem sX6_deal_47 : dsOk (MN MX6_deal).cls (MB MX6_deal) 47 [(.iinc 4 1, 0, 0, 0)] 50 = true := by decide +kernel
theorem dX6_deal_50 : decode (MB MX6_deal) 50 = .ok (.goto (-17), 3) := by decide +kernel
theorem dX6_deal_53 : decode (MB MX6_deal) 53 = .ok (.return_, 1) := by decide +kernel
def MX6_dealTo : Ms := (yX6_dealTo, cX6_dealTo, 6, none, [])
set_option maxRecDepth 100000 in
theorem kX6_dealTo : mkV MX6_dealTo 3 := ⟨⟨List.mem_of_getElem? (i := 1339) (by rfl), by decide +kernel⟩, by decide +kernel⟩
theorem sX6_dealTo_0 : dsOk (MN MX6_dealTo).cls (MB MX6_dealTo) 0 [(.aload_n 0, 0, 0, 0), (.getfield 15, 5, 4, 0), (.iload_n 1, 0, 0, 0)] 5 = true := by decide +kernel
theorem dX6_dealTo_5 : decode (MB MX6_dealTo) 5 = .ok (.invokestatic 28, 3) := by decide +kernel
theorem sX6_dealTo_8 : dsOk (MN MX6_dealTo).cls (MB MX6_dealTo) 8 [(.istore 4, 0, 0, 0), (.iload 4, 0, 0, 0), (.aload_n 0, 0, 0, 0), (.getfield 9, 5, 0, 0), (.iload_n 2, 0, 0, 0)] 17 = true := by decide +kernel
theorem dX6_dealTo_17 : decode (MB MX6_dealTo) 17 = .ok (.invokestatic 28, 3) := by decide +kernel
theorem sX6_dealTo_20 : dsOk (MN MX6_dealTo).cls (MB MX6_dealTo) 20 [(.iadd, 0, 0, 0), (.istore 5, 0, 0, 0), (.aload_n 0, 0, 0, 0), (.getfield 18, 5, 5, 0), (.iload_n 2, 0, 0, 0), (.iload_n 1, 0, 0, 0)] 29 = true := by decide +kernel
theorem dX6_dealTo_29 : decode (MB MX6_dealTo) 29 = .ok (.invokestatic 41, 3) := by decide +kernel
theorem sX6_dealTo_32 : dsOk (MN MX6_dealTo).cls (MB MX6_dealTo) 32 [(.aload_n 0, 0, 0, 0), (.getfield 15, 5, 4, 0), (.iload_n 1, 0, 0, 0), (.iload 5, 0, 0, 0)] 39 = true := by decide +kernel
theorem dX6_dealTo_39 : decode (MB MX6_dealTo) 39 = .ok (.invokestatic 41, 3) := by decide +kernel
theorem sX6_dealTo_42 : dsOk (MN MX6_dealTo).cls (MB MX6_dealTo) 42 [(.aload_n 0, 0, 0, 0), (.iload 5, 0, 0, 0)] 45 = true := by decide +kernel
theorem dX6_dealTo_45 : decode (MB MX6_dealTo) 45 = .ok (.invokevirtual 66, 3) := by decide +kernel
theorem dX6_dealTo_48 : decode (MB MX6_dealTo) 48 = .ok (.ifCond .eq 22, 3) := by decide +kernel
theorem sX6_dealTo_51 : dsOk (MN MX6_dealTo).cls (MB MX6_dealTo) 51 [(.aload_n 0, 0, 0, 0), (.iload_n 2, 0, 0, 0), (.iconst 1, 0, 0, 0), (.iadd, 0, 0, 0), (.iload_n 1, 0, 0, 0), (.iload_n 3, 0, 0, 0)] 57 = true := by decide +kernel
theorem dX6_dealTo_57 : decode (MB MX6_dealTo) 57 = .ok (.if_icmp .ne 9, 3) := by decide +kernel
theorem sX6_dealTo_60 : dsOk (MN MX6_dealTo).cls (MB MX6_dealTo) 60 [(.iload_n 3, 0, 0, 0), (.iconst 1, 0, 0, 0), (.iadd, 0, 0, 0)] 63 = true := by decide +kernel
theorem dX6_dealTo_63 : decode (MB MX6_dealTo) 63 = .ok (.goto 4, 3) := by decide +kernel
theorem sX6_dealTo_66 : dsOk (MN MX6_dealTo).cls (MB MX6_dealTo) 66 [(.iload_n 3, 0, 0, 0)] 67 = true := by decide +kernel
theorem dX6_dealTo_67 : decode (MB MX6_dealTo) 67 = .ok (.invokevirtual 49, 3) := by decide +kernel
theorem sX6_dealTo_70 : dsOk (MN MX6_dealTo).cls (MB MX6_dealTo) 70 [(.aload_n 0, 0, 0, 0), (.getfield 15, 5, 4, 0), (.iload_n 1, 0, 0, 0), (.iload 4, 0, 0, 0)] 77 = true := by decide +kernel
theorem dX6_dealTo_77 : decode (MB MX6_dealTo) 77 = .ok (.invokestatic 41, 3) := by decide +kernel
theorem dX6_dealTo_80 : decode (MB MX6_dealTo) 80 = .ok (.return_, 1) := by decide +kernel
def MX6_canBeBetter : Ms := (yX6_canBeBetter, cX6_canBeBetter, 2, (some .boolean), [])
set_option maxRecDepth 100000 in
theorem kX6_canBeBetter : mkV MX6_canBeBetter 1 := ⟨⟨List.mem_of_getElem? (i := 1343) (by rfl), by decide +kernel⟩, by decide +kernel⟩
theorem sX6_canBeBetter_0 : dsOk (MN MX6_canBeBetter).cls (MB MX6_canBeBetter) 0 [(.aload_n 0, 0, 0, 0), (.getfield 46, 5, 6, 0)] 4 = true := by decide +kernel
theorem dX6_canBeBetter_4 : decode (MB MX6_canBeBetter) 4 = .ok (.ifCond .le 37, 3) := by decide +kernel
theorem sX6_canBeBetter_7 : dsOk (MN MX6_canBeBetter).cls (MB MX6_canBeBetter) 7 [(.aload_n 0, 0, 0, 0), (.getfield 32, 5, 2, 0), (.iconst 1, 0, 0, 0)] 12 = true := by decide +kernel
theorem dX6_canBeBetter_12 : decode (MB MX6_canBeBetter) 12 = .ok (.if_icmp .le 29, 3) := by decide +kernel
theorem sX6_canBeBetter_15 : dsOk (MN MX6_canBeBetter).cls (MB MX6_canBeBetter) 15 [(.iload_n 1, 0, 0, 0), (.aload_n 0, 0, 0, 0), (.getfield 38, 5, 3, 0), (.iload_n 1, 0, 0, 0), (.isub, 0, 0, 0), (.aload_n 0, 0, 0, 0), (.getfield 32, 5, 2, 0), (.iconst 1, 0, 0, 0), (.isub, 0, 0, 0), (.idiv, 0, 0, 0), (.isub, 0, 0, 0), (.aload_n 0, 0, 0, 0), (.getfield 46, 5, 6, 0)] 34 = true := by decide +kernel
theorem dX6_canBeBetter_34 : decode (MB MX6_canBeBetter) 34 = .ok (.if_icmp .ge 7, 3) := by decide +kernel
theorem sX6_canBeBetter_37 : dsOk (MN MX6_canBeBetter).cls (MB MX6_canBeBetter) 37 [(.iconst 1, 0, 0, 0)] 38 = true := by decide +kernel
theorem dX6_canBeBetter_38 : decode (MB MX6_canBeBetter) 38 = .ok (.goto 4, 3) := by decide +kernel
theorem sX6_canBeBetter_41 : dsOk (MN MX6_canBeBetter).cls (MB MX6_canBeBetter) 41 [(.iconst 0, 0, 0, 0)] 42 = true := by decide +kernel
theorem dX6_canBeBetter_42 : decode (MB MX6_canBeBetter) 42 = .ok (.ireturn, 1) := by decide +kernel
def MX6_keepIfBetter : Ms := (yX6_keepIfBetter, cX6_keepIfBetter, 4, none, [])
set_option maxRecDepth 100000 in
theorem kX6_keepIfBetter : mkV MX6_keepIfBetter 0 := ⟨⟨List.mem_of_getElem? (i := 1330) (by rfl), by decide +kernel⟩, by decide +kernel⟩
theorem sX6_keepIfBetter_0 : dsOk (MN MX6_keepIfBetter).cls (MB MX6_keepIfBetter) 0 [(.aload_n 0, 0, 0, 0), (.getfield 15, 5, 4, 0), (.iconst 0, 0, 0, 0)] 5 = true := by decide +kernel
theorem dX6_keepIfBetter_5 : decode (MB MX6_keepIfBetter) 5 = .ok (.invokestatic 28, 3) := by decide +kernel
theorem sX6_keepIfBetter_8 : dsOk (MN MX6_keepIfBetter).cls (MB MX6_keepIfBetter) 8 [(.istore_n 1, 0, 0, 0), (.iload_n 1, 0, 0, 0), (.istore_n 2, 0, 0, 0), (.iconst 1, 0, 0, 0), (.istore_n 3, 0, 0, 0)] 13 = true := by decide +kernel
theorem sX6_keepIfBetter_13 : dsOk (MN MX6_keepIfBetter).cls (MB MX6_keepIfBetter) 13 [(.iload_n 3, 0, 0, 0), (.aload_n 0, 0, 0, 0), (.getfield 32, 5, 2, 0)] 18 = true := by decide +kernel
theorem dX6_keepIfBetter_18 : decode (MB MX6_keepIfBetter) 18 = .ok (.if_icmp .ge 35, 3) := by decide +kernel
theorem sX6_keepIfBetter_21 : dsOk (MN MX6_keepIfBetter).cls (MB MX6_keepIfBetter) 21 [(.iload_n 1, 0, 0, 0), (.aload_n 0, 0, 0, 0), (.getfield 15, 5, 4, 0), (.iload_n 3, 0, 0, 0)] 27 = true := by decide +kernel
theorem dX6_keepIfBetter_27 : decode (MB MX6_keepIfBetter) 27 = .ok (.invokestatic 28, 3) := by decide +kernel
theorem dX6_keepIfBetter_30 : decode (MB MX6_keepIfBetter) 30 = .ok (.invokestatic 70, 3) := by decide +kernel
theorem sX6_keepIfBetter_33 : dsOk (MN MX6_keepIfBetter).cls (MB MX6_keepIfBetter) 33 [(.istore_n 1, 0, 0, 0), (.iload_n 2, 0, 0, 0), (.aload_n 0, 0, 0, 0), (.getfield 15, 5, 4, 0), (.iload_n 3, 0, 0, 0)] 40 = true := by decide +kernel
theorem dX6_keepIfBetter_40 : decode (MB MX6_keepIfBetter) 40 = .ok (.invokestatic 28, 3) := by decide +kernel
theorem dX6_keepIfBetter_43 : decode (MB MX6_keepIfBetter) 43 = .ok (.invokestatic 56, 3) := by decide +kernel
theorem sX6_keepIfBetter_46 : dsOk (MN MX6_keepIfBetter).cls (MB MX6_keepIfBetter) 46 [(.istore_n 2, 0, 0, 0), (.iinc 3 1, 0, 0, 0)] 50 = true := by decide +kernel
theorem dX6_keepIfBetter_50 : decode (MB MX6_keepIfBetter) 50 = .ok (.goto (-37), 3) := by decide +kernel
theorem sX6_keepIfBetter_53 : dsOk (MN MX6_keepIfBetter).cls (MB MX6_keepIfBetter) 53 [(.iload_n 1, 0, 0, 0), (.iload_n 2, 0, 0, 0), (.isub, 0, 0, 0), (.aload_n 0, 0, 0, 0), (.getfield 46, 5, 6, 0)] 60 = true := by decide +kernel
theorem dX6_keepIfBetter_60 : decode (MB MX6_keepIfBetter) 60 = .ok (.if_icmp .ge 42, 3) := by decide +kernel
theorem sX6_keepIfBetter_63 : dsOk (MN MX6_keepIfBetter).cls (MB MX6_keepIfBetter) 63 [(.aload_n 0, 0, 0, 0), (.iload_n 1, 0, 0, 0), (.iload_n 2, 0, 0, 0), (.isub, 0, 0, 0), (.putfield 46, 5, 6, 0), (.iconst 0, 0, 0, 0), (.istore_n 3, 0, 0, 0)] 72 = true := by decide +kernel
theorem sX6_keepIfBetter_72 : dsOk (MN MX6_keepIfBetter).cls (MB MX6_keepIfBetter) 72 [(.iload_n 3, 0, 0, 0), (.aload_n 0, 0, 0, 0), (.getfield 35, 5, 1, 0)] 77 = true := by decide +kernel
theorem dX6_keepIfBetter_77 : decode (MB MX6_keepIfBetter) 77 = .ok (.if_icmp .ge 25, 3) := by decide +kernel
theorem sX6_keepIfBetter_80 : dsOk (MN MX6_keepIfBetter).cls (MB MX6_keepIfBetter) 80 [(.aload_n 0, 0, 0, 0), (.getfield 21, 5, 7, 0), (.iload_n 3, 0, 0, 0), (.aload_n 0, 0, 0, 0), (.getfield 18, 5, 5, 0), (.iload_n 3, 0, 0, 0)] 90 = true := by decide +kernel
theorem dX6_keepIfBetter_90 : decode (MB MX6_keepIfBetter) 90 = .ok (.invokestatic 28, 3) := by decide +kernel
theorem dX6_keepIfBetter_93 : decode (MB MX6_keepIfBetter) 93 = .ok (.invokestatic 41, 3) := by decide +kernel
theorem sX6_keepIfBetter_96 : dsOk (MN MX6_keepIfBetter).cls (MB MX6_keepIfBetter) 96 [(.iinc 3 1, 0, 0, 0)] 99 = true := by decide +kernel
theorem dX6_keepIfBetter_99 : decode (MB MX6_keepIfBetter) 99 = .ok (.goto (-27), 3) := by decide +kernel
theorem dX6_keepIfBetter_102 : decode (MB MX6_keepIfBetter) 102 = .ok (.return_, 1) := by decide +kernel
def MX7_init : Ms := (yX7_init, cX7_init, 2, none, [])
set_option maxRecDepth 100000 in
theorem kX7_init : mkI MX7_init 0 := ⟨⟨List.mem_of_getElem? (i := 79) (by rfl), by decide +kernel⟩, by decide +kernel⟩
theorem sX7_init_0 : dsOk (MN MX7_init).cls (MB MX7_init) 0 [(.aload_n 0, 0, 0, 0)] 1 = true := by decide +kernel
theorem dX7_init_1 : decode (MB MX7_init) 1 = .ok (.invokespecial 3, 3) := by decide +kernel
theorem sX7_init_4 : dsOk (MN MX7_init).cls (MB MX7_init) 4 [(.aload_n 0, 0, 0, 0), (.bipush 6, 0, 0, 6)] 7 = true := by decide +kernel
theorem dX7_init_7 : decode (MB MX7_init) 7 = .ok (.anewarray 9, 3) := by decide +kernel
theorem dX7_init_10 : decode (MB MX7_init) 10 = .ok (.putfield 11, 3) := by decide +kernel
theorem sX7_init_13 : dsOk (MN MX7_init).cls (MB MX7_init) 13 [(.aload_n 0, 0, 0, 0), (.bipush 8, 0, 0, 8)] 16 = true := by decide +kernel
theorem dX7_init_16 : decode (MB MX7_init) 16 = .ok (.newarray .int, 2) := by decide +kernel
theorem dX7_init_18 : decode (MB MX7_init) 18 = .ok (.putfield 17, 3) := by decide +kernel
theorem sX7_init_21 : dsOk (MN MX7_init).cls (MB MX7_init) 21 [(.aload_n 0, 0, 0, 0), (.bipush 8, 0, 0, 8)] 24 = true := by decide +kernel
theorem dX7_init_24 : decode (MB MX7_init) 24 = .ok (.anewarray 21, 3) := by decide +kernel
theorem dX7_init_27 : decode (MB MX7_init) 27 = .ok (.putfield 23, 3) := by decide +kernel
theorem sX7_init_30 : dsOk (MN MX7_init).cls (MB MX7_init) 30 [(.aload_n 0, 0, 0, 0), (.bipush 10, 0, 0, 10)] 33 = true := by decide +kernel
theorem dX7_init_33 : decode (MB MX7_init) 33 = .ok (.newarray .int, 2) := by decide +kernel
theorem dX7_init_35 : decode (MB MX7_init) 35 = .ok (.putfield 27, 3) := by decide +kernel
theorem sX7_init_38 : dsOk (MN MX7_init).cls (MB MX7_init) 38 [(.aload_n 0, 0, 0, 0), (.sipush 500, 0, 0, 500)] 42 = true := by decide +kernel
theorem dX7_init_42 : decode (MB MX7_init) 42 = .ok (.newarray .int, 2) := by decide +kernel
theorem dX7_init_44 : decode (MB MX7_init) 44 = .ok (.putfield 30, 3) := by decide +kernel
theorem sX7_init_47 : dsOk (MN MX7_init).cls (MB MX7_init) 47 [(.aload_n 0, 0, 0, 0), (.bipush 64, 0, 0, 64)] 50 = true := by decide +kernel
theorem dX7_init_50 : decode (MB MX7_init) 50 = .ok (.newarray .int, 2) := by decide +kernel
theorem dX7_init_52 : decode (MB MX7_init) 52 = .ok (.putfield 33, 3) := by decide +kernel
theorem sX7_init_55 : dsOk (MN MX7_init).cls (MB MX7_init) 55 [(.iconst 0, 0, 0, 0), (.istore_n 1, 0, 0, 0)] 57 = true := by decide +kernel
theorem sX7_init_57 : dsOk (MN MX7_init).cls (MB MX7_init) 57 [(.iload_n 1, 0, 0, 0), (.aload_n 0, 0, 0, 0), (.getfield 11, 6, 0, 0), (.arraylength, 0, 0, 0)] 63 = true := by decide +kernel
theorem dX7_init_63 : decode (MB MX7_init) 63 = .ok (.if_icmp .ge 22, 3) := by decide +kernel
theorem sX7_init_66 : dsOk (MN MX7_init).cls (MB MX7_init) 66 [(.aload_n 0, 0, 0, 0), (.getfield 11, 6, 0, 0), (.iload_n 1, 0, 0, 0)] 71 = true := by decide +kernel
theorem dX7_init_71 : decode (MB MX7_init) 71 = .ok (.new 9, 3) := by decide +kernel
theorem sX7_init_74 : dsOk (MN MX7_init).cls (MB MX7_init) 74 [(.dup, 0, 0, 0)] 75 = true := by decide +kernel
theorem dX7_init_75 : decode (MB MX7_init) 75 = .ok (.invokespecial 36, 3) := by decide +kernel
theorem dX7_init_78 : decode (MB MX7_init) 78 = .ok (.aastore, 1) := by decide +kernel
theorem sX7_init_79 : dsOk (MN MX7_init).cls (MB MX7_init) 79 [(.iinc 1 1, 0, 0, 0)] 82 = true := by decide +kernel
theorem dX7_init_82 : decode (MB MX7_init) 82 = .ok (.goto (-25), 3) := by decide +kernel
theorem sX7_init_85 : dsOk (MN MX7_init).cls (MB MX7_init) 85 [(.iconst 0, 0, 0, 0), (.istore_n 1, 0, 0, 0)] 87 = true := by decide +kernel
theorem sX7_init_87 : dsOk (MN MX7_init).cls (MB MX7_init) 87 [(.iload_n 1, 0, 0, 0), (.aload_n 0, 0, 0, 0), (.getfield 23, 6, 3, 0), (.arraylength, 0, 0, 0)] 93 = true := by decide +kernel
theorem dX7_init_93 : decode (MB MX7_init) 93 = .ok (.if_icmp .ge 22, 3) := by decide +kernel
theorem sX7_init_96 : dsOk (MN MX7_init).cls (MB MX7_init) 96 [(.aload_n 0, 0, 0, 0), (.getfield 23, 6, 3, 0), (.iload_n 1, 0, 0, 0)] 101 = true := by decide +kernel
theorem dX7_init_101 : decode (MB MX7_init) 101 = .ok (.new 21, 3) := by decide +kernel
theorem sX7_init_104 : dsOk (MN MX7_init).cls (MB MX7_init) 104 [(.dup, 0, 0, 0)] 105 = true := by decide +kernel
theorem dX7_init_105 : decode (MB MX7_init) 105 = .ok (.invokespecial 37, 3) := by decide +kernel
theorem dX7_init_108 : decode (MB MX7_init) 108 = .ok (.aastore, 1) := by decide +kernel
theorem sX7_init_109 : dsOk (MN MX7_init).cls (MB MX7_init) 109 [(.iinc 1 1, 0, 0, 0)] 112 = true := by decide +kernel
theorem dX7_init_112 : decode (MB MX7_init) 112 = .ok (.goto (-25), 3) := by decide +kernel
theorem sX7_init_115 : dsOk (MN MX7_init).cls (MB MX7_init) 115 [(.iconst 0, 0, 0, 0), (.istore_n 1, 0, 0, 0)] 117 = true := by decide +kernel
theorem sX7_init_117 : dsOk (MN MX7_init).cls (MB MX7_init) 117 [(.iload_n 1, 0, 0, 0), (.aload_n 0, 0, 0, 0), (.getfield 27, 6, 5, 0), (.arraylength, 0, 0, 0)] 123 = true := by decide +kernel
theorem dX7_init_123 : decode (MB MX7_init) 123 = .ok (.if_icmp .ge 17, 3) := by decide +kernel
theorem sX7_init_126 : dsOk (MN MX7_init).cls (MB MX7_init) 126 [(.aload_n 0, 0, 0, 0), (.getfield 27, 6, 5, 0), (.iload_n 1, 0, 0, 0), (.bipush 100, 0, 0, 100), (.iastore, 0, 0, 0), (.iinc 1 1, 0, 0, 0)] 137 = true := by decide +kernel
theorem dX7_init_137 : decode (MB MX7_init) 137 = .ok (.goto (-20), 3) := by decide +kernel
theorem dX7_init_140 : decode (MB MX7_init) 140 = .ok (.return_, 1) := by decide +kernel
def MX7_clear : Ms := (yX7_clear, cX7_clear, 2, none, [])
set_option maxRecDepth 100000 in
theorem kX7_clear : mkV MX7_clear 0 := ⟨⟨List.mem_of_getElem? (i := 512) (by rfl), by decide +kernel⟩, by decide +kernel⟩
theorem sX7_clear_0 : dsOk (MN MX7_clear).cls (MB MX7_clear) 0 [(.aload_n 0, 0, 0, 0), (.iconst 0, 0, 0, 0), (.putfield 38, 6, 1, 0), (.aload_n 0, 0, 0, 0), (.iconst 0, 0, 0, 0), (.putfield 42, 6, 4, 0), (.aload_n 0, 0, 0, 0), (.iconst 0, 0, 0, 0), (.putfield 45, 6, 6, 0), (.aload_n 0, 0, 0, 0), (.iconst 0, 0, 0, 0), (.putfield 49, 6, 8, 0), (.iconst 0, 0, 0, 0), (.istore_n 1, 0, 0, 0)] 22 = true := by decide +kernel
theorem sX7_clear_22 : dsOk (MN MX7_clear).cls (MB MX7_clear) 22 [(.iload_n 1, 0, 0, 0), (.aload_n 0, 0, 0, 0), (.getfield 27, 6, 5, 0), (.arraylength, 0, 0, 0)] 28 = true := by decide +kernel
theorem dX7_clear_28 : decode (MB MX7_clear) 28 = .ok (.if_icmp .ge 17, 3) := by decide +kernel
theorem sX7_clear_31 : dsOk (MN MX7_clear).cls (MB MX7_clear) 31 [(.aload_n 0, 0, 0, 0), (.getfield 27, 6, 5, 0), (.iload_n 1, 0, 0, 0), (.bipush 100, 0, 0, 100), (.iastore, 0, 0, 0), (.iinc 1 1, 0, 0, 0)] 42 = true := by decide +kernel
theorem dX7_clear_42 : decode (MB MX7_clear) 42 = .ok (.goto (-20), 3) := by decide +kernel
theorem dX7_clear_45 : decode (MB MX7_clear) 45 = .ok (.return_, 1) := by decide +kernel
def MX7_bookAt : Ms := (yX7_bookAt, cX7_bookAt, 2, (some (.object "TornLeaves$Book")), [])
set_option maxRecDepth 100000 in
theorem kX7_bookAt : mkV MX7_bookAt 1 := ⟨⟨List.mem_of_getElem? (i := 385) (by rfl), by decide +kernel⟩, by decide +kernel⟩
theorem sX7_bookAt_0 : dsOk (MN MX7_bookAt).cls (MB MX7_bookAt) 0 [(.iload_n 1, 0, 0, 0)] 1 = true := by decide +kernel
theorem dX7_bookAt_1 : decode (MB MX7_bookAt) 1 = .ok (.ifCond .lt 29, 3) := by decide +kernel
theorem sX7_bookAt_4 : dsOk (MN MX7_bookAt).cls (MB MX7_bookAt) 4 [(.iload_n 1, 0, 0, 0), (.aload_n 0, 0, 0, 0), (.getfield 38, 6, 1, 0)] 9 = true := by decide +kernel
theorem dX7_bookAt_9 : decode (MB MX7_bookAt) 9 = .ok (.if_icmp .ge 21, 3) := by decide +kernel
theorem sX7_bookAt_12 : dsOk (MN MX7_bookAt).cls (MB MX7_bookAt) 12 [(.iload_n 1, 0, 0, 0), (.aload_n 0, 0, 0, 0), (.getfield 11, 6, 0, 0), (.arraylength, 0, 0, 0)] 18 = true := by decide +kernel
theorem dX7_bookAt_18 : decode (MB MX7_bookAt) 18 = .ok (.if_icmp .ge 12, 3) := by decide +kernel
theorem sX7_bookAt_21 : dsOk (MN MX7_bookAt).cls (MB MX7_bookAt) 21 [(.aload_n 0, 0, 0, 0), (.getfield 11, 6, 0, 0), (.iload_n 1, 0, 0, 0), (.aaload, 0, 0, 0)] 27 = true := by decide +kernel
theorem dX7_bookAt_27 : decode (MB MX7_bookAt) 27 = .ok (.goto 4, 3) := by decide +kernel
theorem sX7_bookAt_30 : dsOk (MN MX7_bookAt).cls (MB MX7_bookAt) 30 [(.aconst_null, 0, 0, 0)] 31 = true := by decide +kernel
theorem dX7_bookAt_31 : decode (MB MX7_bookAt) 31 = .ok (.areturn, 1) := by decide +kernel
def MX7_nextBook : Ms := (yX7_nextBook, cX7_nextBook, 3, (some (.object "TornLeaves$Book")), [])
set_option maxRecDepth 100000 in
theorem kX7_nextBook : mkV MX7_nextBook 1 := ⟨⟨List.mem_of_getElem? (i := 718) (by rfl), by decide +kernel⟩, by decide +kernel⟩
theorem sX7_nextBook_0 : dsOk (MN MX7_nextBook).cls (MB MX7_nextBook) 0 [(.aload_n 0, 0, 0, 0), (.dup, 0, 0, 0), (.getfield 38, 6, 1, 0), (.iconst 1, 0, 0, 0), (.iadd, 0, 0, 0), (.putfield 38, 6, 1, 0), (.aload_n 0, 0, 0, 0), (.aload_n 0, 0, 0, 0), (.getfield 38, 6, 1, 0), (.iconst 1, 0, 0, 0), (.isub, 0, 0, 0)] 17 = true := by decide +kernel
theorem dX7_nextBook_17 : decode (MB MX7_nextBook) 17 = .ok (.invokevirtual 52, 3) := by decide +kernel
theorem sX7_nextBook_20 : dsOk (MN MX7_nextBook).cls (MB MX7_nextBook) 20 [(.astore_n 2, 0, 0, 0), (.aload_n 2, 0, 0, 0)] 22 = true := by decide +kernel
theorem dX7_nextBook_22 : decode (MB MX7_nextBook) 22 = .ok (.ifnull 8, 3) := by decide +kernel
theorem sX7_nextBook_25 : dsOk (MN MX7_nextBook).cls (MB MX7_nextBook) 25 [(.aload_n 2, 0, 0, 0), (.iload_n 1, 0, 0, 0)] 27 = true := by decide +kernel
theorem dX7_nextBook_27 : decode (MB MX7_nextBook) 27 = .ok (.invokevirtual 56, 3) := by decide +kernel
theorem sX7_nextBook_30 : dsOk (MN MX7_nextBook).cls (MB MX7_nextBook) 30 [(.aload_n 2, 0, 0, 0)] 31 = true := by decide +kernel
theorem dX7_nextBook_31 : decode (MB MX7_nextBook) 31 = .ok (.areturn, 1) := by decide +kernel
def MX7_missingOf : Ms := (yX7_missingOf, cX7_missingOf, 2, (some (.object "TornLeaves$LeafSet")), [])
set_option maxRecDepth 100000 in
theorem kX7_missingOf : mkV MX7_missingOf 1 := ⟨⟨List.mem_of_getElem? (i := 689) (by rfl), by decide +kernel⟩, by decide +kernel⟩
theorem sX7_missingOf_0 : dsOk (MN MX7_missingOf).cls (MB MX7_missingOf) 0 [(.iload_n 1, 0, 0, 0)] 1 = true := by decide +kernel
theorem dX7_missingOf_1 : decode (MB MX7_missingOf) 1 = .ok (.ifCond .lt 29, 3) := by decide +kernel
theorem sX7_missingOf_4 : dsOk (MN MX7_missingOf).cls (MB MX7_missingOf) 4 [(.iload_n 1, 0, 0, 0), (.aload_n 0, 0, 0, 0), (.getfield 42, 6, 4, 0)] 9 = true := by decide +kernel
theorem dX7_missingOf_9 : decode (MB MX7_missingOf) 9 = .ok (.if_icmp .ge 21, 3) := by decide +kernel
theorem sX7_missingOf_12 : dsOk (MN MX7_missingOf).cls (MB MX7_missingOf) 12 [(.iload_n 1, 0, 0, 0), (.aload_n 0, 0, 0, 0), (.getfield 23, 6, 3, 0), (.arraylength, 0, 0, 0)] 18 = true := by decide +kernel
theorem dX7_missingOf_18 : decode (MB MX7_missingOf) 18 = .ok (.if_icmp .ge 12, 3) := by decide +kernel
theorem sX7_missingOf_21 : dsOk (MN MX7_missingOf).cls (MB MX7_missingOf) 21 [(.aload_n 0, 0, 0, 0), (.getfield 23, 6, 3, 0), (.iload_n 1, 0, 0, 0), (.aaload, 0, 0, 0)] 27 = true := by decide +kernel
theorem dX7_missingOf_27 : decode (MB MX7_missingOf) 27 = .ok (.goto 4, 3) := by decide +kernel
theorem sX7_missingOf_30 : dsOk (MN MX7_missingOf).cls (MB MX7_missingOf) 30 [(.aconst_null, 0, 0, 0)] 31 = true := by decide +kernel
theorem dX7_missingOf_31 : decode (MB MX7_missingOf) 31 = .ok (.areturn, 1) := by decide +kernel
def MX7_nextCopy : Ms := (yX7_nextCopy, cX7_nextCopy, 2, (some (.object "TornLeaves$LeafSet")), [])
set_option maxRecDepth 100000 in
theorem kX7_nextCopy : mkV MX7_nextCopy 0 := ⟨⟨List.mem_of_getElem? (i := 685) (by rfl), by decide +kernel⟩, by decide +kernel⟩
theorem sX7_nextCopy_0 : dsOk (MN MX7_nextCopy).cls (MB MX7_nextCopy) 0 [(.aload_n 0, 0, 0, 0), (.dup, 0, 0, 0), (.getfield 42, 6, 4, 0), (.iconst 1, 0, 0, 0), (.iadd, 0, 0, 0), (.putfield 42, 6, 4, 0), (.aload_n 0, 0, 0, 0), (.aload_n 0, 0, 0, 0), (.getfield 42, 6, 4, 0), (.iconst 1, 0, 0, 0), (.isub, 0, 0, 0)] 17 = true := by decide +kernel
theorem dX7_nextCopy_17 : decode (MB MX7_nextCopy) 17 = .ok (.invokevirtual 60, 3) := by decide +kernel
theorem sX7_nextCopy_20 : dsOk (MN MX7_nextCopy).cls (MB MX7_nextCopy) 20 [(.astore_n 1, 0, 0, 0), (.aload_n 1, 0, 0, 0)] 22 = true := by decide +kernel
theorem dX7_nextCopy_22 : decode (MB MX7_nextCopy) 22 = .ok (.ifnull 7, 3) := by decide +kernel
theorem sX7_nextCopy_25 : dsOk (MN MX7_nextCopy).cls (MB MX7_nextCopy) 25 [(.aload_n 1, 0, 0, 0)] 26 = true := by decide +kernel
theorem dX7_nextCopy_26 : decode (MB MX7_nextCopy) 26 = .ok (.invokevirtual 64, 3) := by decide +kernel
theorem sX7_nextCopy_29 : dsOk (MN MX7_nextCopy).cls (MB MX7_nextCopy) 29 [(.aload_n 1, 0, 0, 0)] 30 = true := by decide +kernel
theorem dX7_nextCopy_30 : decode (MB MX7_nextCopy) 30 = .ok (.areturn, 1) := by decide +kernel
def MX7_tellCopyOf : Ms := (yX7_tellCopyOf, cX7_tellCopyOf, 2, none, [])
set_option maxRecDepth 100000 in
theorem kX7_tellCopyOf : mkV MX7_tellCopyOf 1 := ⟨⟨List.mem_of_getElem? (i := 697) (by rfl), by decide +kernel⟩, by decide +kernel⟩
theorem sX7_tellCopyOf_0 : dsOk (MN MX7_tellCopyOf).cls (MB MX7_tellCopyOf) 0 [(.aload_n 0, 0, 0, 0), (.getfield 17, 6, 2, 0), (.aload_n 0, 0, 0, 0), (.getfield 42, 6, 4, 0), (.iconst 1, 0, 0, 0), (.isub, 0, 0, 0), (.iload_n 1, 0, 0, 0)] 11 = true := by decide +kernel
theorem dX7_tellCopyOf_11 : decode (MB MX7_tellCopyOf) 11 = .ok (.invokestatic 67, 3) := by decide +kernel
theorem dX7_tellCopyOf_14 : decode (MB MX7_tellCopyOf) 14 = .ok (.return_, 1) := by decide +kernel
def MX7_copiesWith : Ms := (yX7_copiesWith, cX7_copiesWith, 6, (some .int), [])
set_option maxRecDepth 100000 in
theorem kX7_copiesWith : mkV MX7_copiesWith 2 := ⟨⟨List.mem_of_getElem? (i := 1199) (by rfl), by decide +kernel⟩, by decide +kernel⟩
theorem sX7_copiesWith_0 : dsOk (MN MX7_copiesWith).cls (MB MX7_copiesWith) 0 [(.iconst 0, 0, 0, 0), (.istore_n 3, 0, 0, 0), (.iconst 0, 0, 0, 0), (.istore 4, 0, 0, 0)] 5 = true := by decide +kernel
theorem sX7_copiesWith_5 : dsOk (MN MX7_copiesWith).cls (MB MX7_copiesWith) 5 [(.iload 4, 0, 0, 0), (.aload_n 0, 0, 0, 0), (.getfield 42, 6, 4, 0)] 11 = true := by decide +kernel
theorem dX7_copiesWith_11 : decode (MB MX7_copiesWith) 11 = .ok (.if_icmp .ge 51, 3) := by decide +kernel
theorem sX7_copiesWith_14 : dsOk (MN MX7_copiesWith).cls (MB MX7_copiesWith) 14 [(.aload_n 0, 0, 0, 0), (.iload 4, 0, 0, 0)] 17 = true := by decide +kernel
theorem dX7_copiesWith_17 : decode (MB MX7_copiesWith) 17 = .ok (.invokevirtual 60, 3) := by decide +kernel
theorem sX7_copiesWith_20 : dsOk (MN MX7_copiesWith).cls (MB MX7_copiesWith) 20 [(.astore 5, 0, 0, 0), (.aload 5, 0, 0, 0)] 24 = true := by decide +kernel
theorem dX7_copiesWith_24 : decode (MB MX7_copiesWith) 24 = .ok (.ifnull 32, 3) := by decide +kernel
theorem sX7_copiesWith_27 : dsOk (MN MX7_copiesWith).cls (MB MX7_copiesWith) 27 [(.aload_n 0, 0, 0, 0), (.getfield 17, 6, 2, 0), (.iload 4, 0, 0, 0)] 33 = true := by decide +kernel
theorem dX7_copiesWith_33 : decode (MB MX7_copiesWith) 33 = .ok (.invokestatic 71, 3) := by decide +kernel
theorem sX7_copiesWith_36 : dsOk (MN MX7_copiesWith).cls (MB MX7_copiesWith) 36 [(.iload_n 1, 0, 0, 0)] 37 = true := by decide +kernel
theorem dX7_copiesWith_37 : decode (MB MX7_copiesWith) 37 = .ok (.if_icmp .ne 19, 3) := by decide +kernel
theorem sX7_copiesWith_40 : dsOk (MN MX7_copiesWith).cls (MB MX7_copiesWith) 40 [(.aload 5, 0, 0, 0), (.iload_n 2, 0, 0, 0)] 43 = true := by decide +kernel
theorem dX7_copiesWith_43 : decode (MB MX7_copiesWith) 43 = .ok (.invokevirtual 75, 3) := by decide +kernel
theorem dX7_copiesWith_46 : decode (MB MX7_copiesWith) 46 = .ok (.ifCond .ne 10, 3) := by decide +kernel
theorem sX7_copiesWith_49 : dsOk (MN MX7_copiesWith).cls (MB MX7_copiesWith) 49 [(.iload_n 3, 0, 0, 0), (.iconst 1, 0, 0, 0), (.iload 4, 0, 0, 0), (.ishl, 0, 0, 0), (.ior, 0, 0, 0), (.istore_n 3, 0, 0, 0)] 56 = true := by decide +kernel
theorem sX7_copiesWith_56 : dsOk (MN MX7_copiesWith).cls (MB MX7_copiesWith) 56 [(.iinc 4 1, 0, 0, 0)] 59 = true := by decide +kernel
theorem dX7_copiesWith_59 : decode (MB MX7_copiesWith) 59 = .ok (.goto (-54), 3) := by decide +kernel
theorem sX7_copiesWith_62 : dsOk (MN MX7_copiesWith).cls (MB MX7_copiesWith) 62 [(.iload_n 3, 0, 0, 0)] 63 = true := by decide +kernel
theorem dX7_copiesWith_63 : decode (MB MX7_copiesWith) 63 = .ok (.ireturn, 1) := by decide +kernel
def MX7_leadOf : Ms := (yX7_leadOf, cX7_leadOf, 2, (some .int), [])
set_option maxRecDepth 100000 in
theorem kX7_leadOf : mkV MX7_leadOf 1 := ⟨⟨List.mem_of_getElem? (i := 809) (by rfl), by decide +kernel⟩, by decide +kernel⟩
theorem sX7_leadOf_0 : dsOk (MN MX7_leadOf).cls (MB MX7_leadOf) 0 [(.aload_n 0, 0, 0, 0), (.getfield 27, 6, 5, 0), (.iload_n 1, 0, 0, 0)] 5 = true := by decide +kernel
theorem dX7_leadOf_5 : decode (MB MX7_leadOf) 5 = .ok (.invokestatic 71, 3) := by decide +kernel
theorem dX7_leadOf_8 : decode (MB MX7_leadOf) 8 = .ok (.ireturn, 1) := by decide +kernel
def MX7_tellLead : Ms := (yX7_tellLead, cX7_tellLead, 3, none, [])
set_option maxRecDepth 100000 in
theorem kX7_tellLead : mkV MX7_tellLead 2 := ⟨⟨List.mem_of_getElem? (i := 706) (by rfl), by decide +kernel⟩, by decide +kernel⟩
theorem sX7_tellLead_0 : dsOk (MN MX7_tellLead).cls (MB MX7_tellLead) 0 [(.aload_n 0, 0, 0, 0), (.getfield 27, 6, 5, 0), (.iload_n 1, 0, 0, 0), (.iload_n 2, 0, 0, 0)] 6 = true := by decide +kernel
theorem dX7_tellLead_6 : decode (MB MX7_tellLead) 6 = .ok (.invokestatic 67, 3) := by decide +kernel
theorem dX7_tellLead_9 : decode (MB MX7_tellLead) 9 = .ok (.return_, 1) := by decide +kernel
def MX7_keepGone : Ms := (yX7_keepGone, cX7_keepGone, 3, none, [])
set_option maxRecDepth 100000 in
theorem kX7_keepGone : mkV MX7_keepGone 0 := ⟨⟨List.mem_of_getElem? (i := 415) (by rfl), by decide +kernel⟩, by decide +kernel⟩
theorem sX7_keepGone_0 : dsOk (MN MX7_keepGone).cls (MB MX7_keepGone) 0 [(.iconst 0, 0, 0, 0), (.istore_n 1, 0, 0, 0)] 2 = true := by decide +kernel
theorem sX7_keepGone_2 : dsOk (MN MX7_keepGone).cls (MB MX7_keepGone) 2 [(.iload_n 1, 0, 0, 0), (.aload_n 0, 0, 0, 0), (.getfield 38, 6, 1, 0)] 7 = true := by decide +kernel
theorem dX7_keepGone_7 : decode (MB MX7_keepGone) 7 = .ok (.if_icmp .ge 30, 3) := by decide +kernel
theorem sX7_keepGone_10 : dsOk (MN MX7_keepGone).cls (MB MX7_keepGone) 10 [(.aload_n 0, 0, 0, 0), (.iload_n 1, 0, 0, 0)] 12 = true := by decide +kernel
theorem dX7_keepGone_12 : decode (MB MX7_keepGone) 12 = .ok (.invokevirtual 52, 3) := by decide +kernel
theorem sX7_keepGone_15 : dsOk (MN MX7_keepGone).cls (MB MX7_keepGone) 15 [(.astore_n 2, 0, 0, 0), (.aload_n 2, 0, 0, 0)] 17 = true := by decide +kernel
theorem dX7_keepGone_17 : decode (MB MX7_keepGone) 17 = .ok (.ifnull 14, 3) := by decide +kernel
theorem sX7_keepGone_20 : dsOk (MN MX7_keepGone).cls (MB MX7_keepGone) 20 [(.aload_n 2, 0, 0, 0), (.getfield 79, 0, 6, 0), (.aload_n 2, 0, 0, 0), (.getfield 83, 0, 5, 0)] 28 = true := by decide +kernel
theorem dX7_keepGone_28 : decode (MB MX7_keepGone) 28 = .ok (.invokevirtual 86, 3) := by decide +kernel
theorem sX7_keepGone_31 : dsOk (MN MX7_keepGone).cls (MB MX7_keepGone) 31 [(.iinc 1 1, 0, 0, 0)] 34 = true := by decide +kernel
theorem dX7_keepGone_34 : decode (MB MX7_keepGone) 34 = .ok (.goto (-32), 3) := by decide +kernel
theorem dX7_keepGone_37 : decode (MB MX7_keepGone) 37 = .ok (.return_, 1) := by decide +kernel
def MX7_restoreGone : Ms := (yX7_restoreGone, cX7_restoreGone, 3, none, [])
set_option maxRecDepth 100000 in
theorem kX7_restoreGone : mkV MX7_restoreGone 0 := ⟨⟨List.mem_of_getElem? (i := 429) (by rfl), by decide +kernel⟩, by decide +kernel⟩
theorem sX7_restoreGone_0 : dsOk (MN MX7_restoreGone).cls (MB MX7_restoreGone) 0 [(.iconst 0, 0, 0, 0), (.istore_n 1, 0, 0, 0)] 2 = true := by decide +kernel
theorem sX7_restoreGone_2 : dsOk (MN MX7_restoreGone).cls (MB MX7_restoreGone) 2 [(.iload_n 1, 0, 0, 0), (.aload_n 0, 0, 0, 0), (.getfield 38, 6, 1, 0)] 7 = true := by decide +kernel
theorem dX7_restoreGone_7 : decode (MB MX7_restoreGone) 7 = .ok (.if_icmp .ge 30, 3) := by decide +kernel
theorem sX7_restoreGone_10 : dsOk (MN MX7_restoreGone).cls (MB MX7_restoreGone) 10 [(.aload_n 0, 0, 0, 0), (.iload_n 1, 0, 0, 0)] 12 = true := by decide +kernel
theorem dX7_restoreGone_12 : decode (MB MX7_restoreGone) 12 = .ok (.invokevirtual 52, 3) := by decide +kernel
theorem sX7_restoreGone_15 : dsOk (MN MX7_restoreGone).cls (MB MX7_restoreGone) 15 [(.astore_n 2, 0, 0, 0), (.aload_n 2, 0, 0, 0)] 17 = true := by decide +kernel
theorem dX7_restoreGone_17 : decode (MB MX7_restoreGone) 17 = .ok (.ifnull 14, 3) := by decide +kernel
theorem sX7_restoreGone_20 : dsOk (MN MX7_restoreGone).cls (MB MX7_restoreGone) 20 [(.aload_n 2, 0, 0, 0), (.getfield 83, 0, 5, 0), (.aload_n 2, 0, 0, 0), (.getfield 79, 0, 6, 0)] 28 = true := by decide +kernel
theorem dX7_restoreGone_28 : decode (MB MX7_restoreGone) 28 = .ok (.invokevirtual 86, 3) := by decide +kernel
theorem sX7_restoreGone_31 : dsOk (MN MX7_restoreGone).cls (MB MX7_restoreGone) 31 [(.iinc 1 1, 0, 0, 0)] 34 = true := by decide +kernel
theorem dX7_restoreGone_34 : decode (MB MX7_restoreGone) 34 = .ok (.goto (-32), 3) := by decide +kernel
theorem dX7_restoreGone_37 : decode (MB MX7_restoreGone) 37 = .ok (.return_, 1) := by decide +kernel
def MX7_write : Ms := (yX7_write, cX7_write, 2, none, [])
set_option maxRecDepth 100000 in
theorem kX7_write : mkV MX7_write 1 := ⟨⟨List.mem_of_getElem? (i := 767) (by rfl), by decide +kernel⟩, by decide +kernel⟩
theorem sX7_write_0 : dsOk (MN MX7_write).cls (MB MX7_write) 0 [(.aload_n 0, 0, 0, 0), (.getfield 30, 6, 7, 0), (.aload_n 0, 0, 0, 0), (.getfield 49, 6, 8, 0), (.iload_n 1, 0, 0, 0)] 9 = true := by decide +kernel
theorem dX7_write_9 : decode (MB MX7_write) 9 = .ok (.invokestatic 67, 3) := by decide +kernel
theorem sX7_write_12 : dsOk (MN MX7_write).cls (MB MX7_write) 12 [(.aload_n 0, 0, 0, 0), (.dup, 0, 0, 0), (.getfield 49, 6, 8, 0), (.iconst 1, 0, 0, 0), (.iadd, 0, 0, 0), (.putfield 49, 6, 8, 0)] 22 = true := by decide +kernel
theorem dX7_write_22 : decode (MB MX7_write) 22 = .ok (.return_, 1) := by decide +kernel
def MX7_toldNumber : Ms := (yX7_toldNumber, cX7_toldNumber, 6, (some .int), [])
set_option maxRecDepth 100000 in
theorem kX7_toldNumber : mkV MX7_toldNumber 2 := ⟨⟨List.mem_of_getElem? (i := 891) (by rfl), by decide +kernel⟩, by decide +kernel⟩
theorem sX7_toldNumber_0 : dsOk (MN MX7_toldNumber).cls (MB MX7_toldNumber) 0 [(.aload_n 0, 0, 0, 0), (.iconst 0, 0, 0, 0), (.putfield 90, 6, 10, 0), (.aload_n 1, 0, 0, 0), (.getfield 93, 0, 3, 0), (.istore_n 3, 0, 0, 0)] 10 = true := by decide +kernel
theorem sX7_toldNumber_10 : dsOk (MN MX7_toldNumber).cls (MB MX7_toldNumber) 10 [(.iload_n 3, 0, 0, 0), (.aload_n 1, 0, 0, 0), (.getfield 96, 0, 4, 0)] 15 = true := by decide +kernel
theorem dX7_toldNumber_15 : decode (MB MX7_toldNumber) 15 = .ok (.if_icmp .ge 97, 3) := by decide +kernel
theorem sX7_toldNumber_18 : dsOk (MN MX7_toldNumber).cls (MB MX7_toldNumber) 18 [(.aload_n 0, 0, 0, 0), (.getfield 30, 6, 7, 0), (.iload_n 3, 0, 0, 0)] 23 = true := by decide +kernel
theorem dX7_toldNumber_23 : decode (MB MX7_toldNumber) 23 = .ok (.invokestatic 71, 3) := by decide +kernel
theorem sX7_toldNumber_26 : dsOk (MN MX7_toldNumber).cls (MB MX7_toldNumber) 26 [(.istore 4, 0, 0, 0), (.iload 4, 0, 0, 0), (.bipush (-4), 0, 0, -4)] 32 = true := by decide +kernel
theorem dX7_toldNumber_32 : decode (MB MX7_toldNumber) 32 = .ok (.if_icmp .lt 27, 3) := by decide +kernel
theorem sX7_toldNumber_35 : dsOk (MN MX7_toldNumber).cls (MB MX7_toldNumber) 35 [(.aload_n 0, 0, 0, 0), (.iload 4, 0, 0, 0)] 38 = true := by decide +kernel
theorem dX7_toldNumber_38 : decode (MB MX7_toldNumber) 38 = .ok (.ifCond .lt 8, 3) := by decide +kernel
theorem sX7_toldNumber_41 : dsOk (MN MX7_toldNumber).cls (MB MX7_toldNumber) 41 [(.iload 4, 0, 0, 0)] 43 = true := by decide +kernel
theorem dX7_toldNumber_43 : decode (MB MX7_toldNumber) 43 = .ok (.goto 10, 3) := by decide +kernel
theorem sX7_toldNumber_46 : dsOk (MN MX7_toldNumber).cls (MB MX7_toldNumber) 46 [(.iload 4, 0, 0, 0), (.aload_n 1, 0, 0, 0), (.iload_n 2, 0, 0, 0)] 50 = true := by decide +kernel
theorem dX7_toldNumber_50 : decode (MB MX7_toldNumber) 50 = .ok (.invokestatic 99, 3) := by decide +kernel
theorem dX7_toldNumber_53 : decode (MB MX7_toldNumber) 53 = .ok (.invokevirtual 103, 3) := by decide +kernel
theorem dX7_toldNumber_56 : decode (MB MX7_toldNumber) 56 = .ok (.goto 50, 3) := by decide +kernel
theorem sX7_toldNumber_59 : dsOk (MN MX7_toldNumber).cls (MB MX7_toldNumber) 59 [(.iload 4, 0, 0, 0), (.bipush (-5), 0, 0, -5)] 63 = true := by decide +kernel
theorem dX7_toldNumber_63 : decode (MB MX7_toldNumber) 63 = .ok (.if_icmp .ne 22, 3) := by decide +kernel
theorem sX7_toldNumber_66 : dsOk (MN MX7_toldNumber).cls (MB MX7_toldNumber) 66 [(.aload_n 0, 0, 0, 0), (.aload_n 0, 0, 0, 0)] 68 = true := by decide +kernel
theorem dX7_toldNumber_68 : decode (MB MX7_toldNumber) 68 = .ok (.invokevirtual 106, 3) := by decide +kernel
theorem dX7_toldNumber_71 : decode (MB MX7_toldNumber) 71 = .ok (.ifCond .ne 7, 3) := by decide +kernel
theorem sX7_toldNumber_74 : dsOk (MN MX7_toldNumber).cls (MB MX7_toldNumber) 74 [(.iconst 1, 0, 0, 0)] 75 = true := by decide +kernel
theorem dX7_toldNumber_75 : decode (MB MX7_toldNumber) 75 = .ok (.goto 4, 3) := by decide +kernel
theorem sX7_toldNumber_78 : dsOk (MN MX7_toldNumber).cls (MB MX7_toldNumber) 78 [(.iconst 0, 0, 0, 0)] 79 = true := by decide +kernel
theorem dX7_toldNumber_79 : decode (MB MX7_toldNumber) 79 = .ok (.invokevirtual 103, 3) := by decide +kernel
theorem dX7_toldNumber_82 : decode (MB MX7_toldNumber) 82 = .ok (.goto 24, 3) := by decide +kernel
theorem sX7_toldNumber_85 : dsOk (MN MX7_toldNumber).cls (MB MX7_toldNumber) 85 [(.aload_n 0, 0, 0, 0)] 86 = true := by decide +kernel
theorem dX7_toldNumber_86 : decode (MB MX7_toldNumber) 86 = .ok (.invokevirtual 106, 3) := by decide +kernel
theorem sX7_toldNumber_89 : dsOk (MN MX7_toldNumber).cls (MB MX7_toldNumber) 89 [(.istore 5, 0, 0, 0), (.aload_n 0, 0, 0, 0), (.iload 4, 0, 0, 0), (.aload_n 0, 0, 0, 0)] 95 = true := by decide +kernel
theorem dX7_toldNumber_95 : decode (MB MX7_toldNumber) 95 = .ok (.invokevirtual 106, 3) := by decide +kernel
theorem sX7_toldNumber_98 : dsOk (MN MX7_toldNumber).cls (MB MX7_toldNumber) 98 [(.iload 5, 0, 0, 0)] 100 = true := by decide +kernel
theorem dX7_toldNumber_100 : decode (MB MX7_toldNumber) 100 = .ok (.invokestatic 110, 3) := by decide +kernel
theorem dX7_toldNumber_103 : decode (MB MX7_toldNumber) 103 = .ok (.invokevirtual 103, 3) := by decide +kernel
theorem sX7_toldNumber_106 : dsOk (MN MX7_toldNumber).cls (MB MX7_toldNumber) 106 [(.iinc 3 1, 0, 0, 0)] 109 = true := by decide +kernel
theorem dX7_toldNumber_109 : decode (MB MX7_toldNumber) 109 = .ok (.goto (-99), 3) := by decide +kernel
theorem sX7_toldNumber_112 : dsOk (MN MX7_toldNumber).cls (MB MX7_toldNumber) 112 [(.aload_n 0, 0, 0, 0)] 113 = true := by decide +kernel
theorem dX7_toldNumber_113 : decode (MB MX7_toldNumber) 113 = .ok (.invokevirtual 106, 3) := by decide +kernel
theorem sX7_toldNumber_116 : dsOk (MN MX7_toldNumber).cls (MB MX7_toldNumber) 116 [(.istore_n 3, 0, 0, 0), (.iload_n 3, 0, 0, 0), (.iconst 1, 0, 0, 0)] 119 = true := by decide +kernel
theorem dX7_toldNumber_119 : decode (MB MX7_toldNumber) 119 = .ok (.if_icmp .lt 9, 3) := by decide +kernel
theorem sX7_toldNumber_122 : dsOk (MN MX7_toldNumber).cls (MB MX7_toldNumber) 122 [(.iload_n 3, 0, 0, 0), (.ldc 114, 0, 0, 99999)] 125 = true := by decide +kernel
theorem dX7_toldNumber_125 : decode (MB MX7_toldNumber) 125 = .ok (.if_icmp .le 7, 3) := by decide +kernel
theorem sX7_toldNumber_128 : dsOk (MN MX7_toldNumber).cls (MB MX7_toldNumber) 128 [(.iconst 0, 0, 0, 0)] 129 = true := by decide +kernel
theorem dX7_toldNumber_129 : decode (MB MX7_toldNumber) 129 = .ok (.goto 4, 3) := by decide +kernel
theorem sX7_toldNumber_132 : dsOk (MN MX7_toldNumber).cls (MB MX7_toldNumber) 132 [(.iload_n 3, 0, 0, 0)] 133 = true := by decide +kernel
theorem dX7_toldNumber_133 : decode (MB MX7_toldNumber) 133 = .ok (.ireturn, 1) := by decide +kernel
def MX7_push : Ms := (yX7_push, cX7_push, 2, none, [])
set_option maxRecDepth 100000 in
theorem kX7_push : mkV MX7_push 1 := ⟨⟨List.mem_of_getElem? (i := 901) (by rfl), by decide +kernel⟩, by decide +kernel⟩
theorem sX7_push_0 : dsOk (MN MX7_push).cls (MB MX7_push) 0 [(.aload_n 0, 0, 0, 0), (.getfield 33, 6, 9, 0), (.aload_n 0, 0, 0, 0), (.getfield 90, 6, 10, 0), (.iload_n 1, 0, 0, 0)] 9 = true := by decide +kernel
theorem dX7_push_9 : decode (MB MX7_push) 9 = .ok (.invokestatic 67, 3) := by decide +kernel
theorem sX7_push_12 : dsOk (MN MX7_push).cls (MB MX7_push) 12 [(.aload_n 0, 0, 0, 0), (.dup, 0, 0, 0), (.getfield 90, 6, 10, 0), (.iconst 1, 0, 0, 0), (.iadd, 0, 0, 0), (.putfield 90, 6, 10, 0)] 22 = true := by decide +kernel
theorem dX7_push_22 : decode (MB MX7_push) 22 = .ok (.return_, 1) := by decide +kernel
def MX7_pop : Ms := (yX7_pop, cX7_pop, 1, (some .int), [])
set_option maxRecDepth 100000 in
theorem kX7_pop : mkV MX7_pop 0 := ⟨⟨List.mem_of_getElem? (i := 905) (by rfl), by decide +kernel⟩, by decide +kernel⟩
theorem sX7_pop_0 : dsOk (MN MX7_pop).cls (MB MX7_pop) 0 [(.aload_n 0, 0, 0, 0), (.dup, 0, 0, 0), (.getfield 90, 6, 10, 0), (.iconst 1, 0, 0, 0), (.isub, 0, 0, 0), (.putfield 90, 6, 10, 0), (.aload_n 0, 0, 0, 0), (.getfield 33, 6, 9, 0), (.aload_n 0, 0, 0, 0), (.getfield 90, 6, 10, 0)] 18 = true := by decide +kernel
theorem dX7_pop_18 : decode (MB MX7_pop) 18 = .ok (.invokestatic 71, 3) := by decide +kernel
theorem dX7_pop_21 : decode (MB MX7_pop) 21 = .ok (.ireturn, 1) := by decide +kernel
def MX7_valueOf : Ms := (yX7_valueOf, cX7_valueOf, 3, (some .int), [])
set_option maxRecDepth 100000 in
theorem kX7_valueOf : mkS MX7_valueOf 3 := ⟨⟨List.mem_of_getElem? (i := 894) (by rfl), by decide +kernel⟩, by decide +kernel⟩
theorem sX7_valueOf_0 : dsOk (MN MX7_valueOf).cls (MB MX7_valueOf) 0 [(.iload_n 0, 0, 0, 0)] 1 = true := by decide +kernel
theorem dX7_valueOf_1 : decode (MB MX7_valueOf) 1 = .ok (.tableswitch 46 (-3) (-1) #[34, 29, 27], 27) := by decide +kernel
theorem sX7_valueOf_28 : dsOk (MN MX7_valueOf).cls (MB MX7_valueOf) 28 [(.iload_n 2, 0, 0, 0)] 29 = true := by decide +kernel
theorem dX7_valueOf_29 : decode (MB MX7_valueOf) 29 = .ok (.ireturn, 1) := by decide +kernel
theorem sX7_valueOf_30 : dsOk (MN MX7_valueOf).cls (MB MX7_valueOf) 30 [(.iload_n 2, 0, 0, 0)] 31 = true := by decide +kernel
theorem dX7_valueOf_31 : decode (MB MX7_valueOf) 31 = .ok (.invokestatic 115, 3) := by decide +kernel
theorem dX7_valueOf_34 : decode (MB MX7_valueOf) 34 = .ok (.ireturn, 1) := by decide +kernel
theorem sX7_valueOf_35 : dsOk (MN MX7_valueOf).cls (MB MX7_valueOf) 35 [(.iload_n 2, 0, 0, 0), (.iconst 2, 0, 0, 0), (.irem, 0, 0, 0)] 38 = true := by decide +kernel
theorem dX7_valueOf_38 : decode (MB MX7_valueOf) 38 = .ok (.ifCond .ne 7, 3) := by decide +kernel
theorem sX7_valueOf_41 : dsOk (MN MX7_valueOf).cls (MB MX7_valueOf) 41 [(.iconst 1, 0, 0, 0)] 42 = true := by decide +kernel
theorem dX7_valueOf_42 : decode (MB MX7_valueOf) 42 = .ok (.goto 4, 3) := by decide +kernel
theorem sX7_valueOf_45 : dsOk (MN MX7_valueOf).cls (MB MX7_valueOf) 45 [(.iconst 0, 0, 0, 0)] 46 = true := by decide +kernel
theorem dX7_valueOf_46 : decode (MB MX7_valueOf) 46 = .ok (.ireturn, 1) := by decide +kernel
theorem sX7_valueOf_47 : dsOk (MN MX7_valueOf).cls (MB MX7_valueOf) 47 [(.aload_n 1, 0, 0, 0), (.getfield 119, 0, 1, 0)] 51 = true := by decide +kernel
theorem dX7_valueOf_51 : decode (MB MX7_valueOf) 51 = .ok (.ireturn, 1) := by decide +kernel
def MX7_combine : Ms := (yX7_combine, cX7_combine, 3, (some .int), [])
set_option maxRecDepth 100000 in
theorem kX7_combine : mkS MX7_combine 3 := ⟨⟨List.mem_of_getElem? (i := 908) (by rfl), by decide +kernel⟩, by decide +kernel⟩
theorem sX7_combine_0 : dsOk (MN MX7_combine).cls (MB MX7_combine) 0 [(.iload_n 0, 0, 0, 0)] 1 = true := by decide +kernel
theorem dX7_combine_1 : decode (MB MX7_combine) 1 = .ok (.tableswitch 105 (-12) (-6) #[101, 97, 93, 82, 71, 57, 43], 43) := by decide +kernel
theorem sX7_combine_44 : dsOk (MN MX7_combine).cls (MB MX7_combine) 44 [(.iload_n 1, 0, 0, 0)] 45 = true := by decide +kernel
theorem dX7_combine_45 : decode (MB MX7_combine) 45 = .ok (.ifCond .eq 11, 3) := by decide +kernel
theorem sX7_combine_48 : dsOk (MN MX7_combine).cls (MB MX7_combine) 48 [(.iload_n 2, 0, 0, 0)] 49 = true := by decide +kernel
theorem dX7_combine_49 : decode (MB MX7_combine) 49 = .ok (.ifCond .eq 7, 3) := by decide +kernel
theorem sX7_combine_52 : dsOk (MN MX7_combine).cls (MB MX7_combine) 52 [(.iconst 1, 0, 0, 0)] 53 = true := by decide +kernel
theorem dX7_combine_53 : decode (MB MX7_combine) 53 = .ok (.goto 4, 3) := by decide +kernel
theorem sX7_combine_56 : dsOk (MN MX7_combine).cls (MB MX7_combine) 56 [(.iconst 0, 0, 0, 0)] 57 = true := by decide +kernel
theorem dX7_combine_57 : decode (MB MX7_combine) 57 = .ok (.ireturn, 1) := by decide +kernel
theorem sX7_combine_58 : dsOk (MN MX7_combine).cls (MB MX7_combine) 58 [(.iload_n 1, 0, 0, 0)] 59 = true := by decide +kernel
theorem dX7_combine_59 : decode (MB MX7_combine) 59 = .ok (.ifCond .ne 7, 3) := by decide +kernel
theorem sX7_combine_62 : dsOk (MN MX7_combine).cls (MB MX7_combine) 62 [(.iload_n 2, 0, 0, 0)] 63 = true := by decide +kernel
theorem dX7_combine_63 : decode (MB MX7_combine) 63 = .ok (.ifCond .eq 7, 3) := by decide +kernel
theorem sX7_combine_66 : dsOk (MN MX7_combine).cls (MB MX7_combine) 66 [(.iconst 1, 0, 0, 0)] 67 = true := by decide +kernel
theorem dX7_combine_67 : decode (MB MX7_combine) 67 = .ok (.goto 4, 3) := by decide +kernel
theorem sX7_combine_70 : dsOk (MN MX7_combine).cls (MB MX7_combine) 70 [(.iconst 0, 0, 0, 0)] 71 = true := by decide +kernel
theorem dX7_combine_71 : decode (MB MX7_combine) 71 = .ok (.ireturn, 1) := by decide +kernel
theorem sX7_combine_72 : dsOk (MN MX7_combine).cls (MB MX7_combine) 72 [(.iload_n 1, 0, 0, 0), (.iload_n 2, 0, 0, 0)] 74 = true := by decide +kernel
theorem dX7_combine_74 : decode (MB MX7_combine) 74 = .ok (.if_icmp .ge 7, 3) := by decide +kernel
theorem sX7_combine_77 : dsOk (MN MX7_combine).cls (MB MX7_combine) 77 [(.iconst 1, 0, 0, 0)] 78 = true := by decide +kernel
theorem dX7_combine_78 : decode (MB MX7_combine) 78 = .ok (.goto 4, 3) := by decide +kernel
theorem sX7_combine_81 : dsOk (MN MX7_combine).cls (MB MX7_combine) 81 [(.iconst 0, 0, 0, 0)] 82 = true := by decide +kernel
theorem dX7_combine_82 : decode (MB MX7_combine) 82 = .ok (.ireturn, 1) := by decide +kernel
theorem sX7_combine_83 : dsOk (MN MX7_combine).cls (MB MX7_combine) 83 [(.iload_n 1, 0, 0, 0), (.iload_n 2, 0, 0, 0)] 85 = true := by decide +kernel
theorem dX7_combine_85 : decode (MB MX7_combine) 85 = .ok (.if_icmp .ne 7, 3) := by decide +kernel
theorem sX7_combine_88 : dsOk (MN MX7_combine).cls (MB MX7_combine) 88 [(.iconst 1, 0, 0, 0)] 89 = true := by decide +kernel
theorem dX7_combine_89 : decode (MB MX7_combine) 89 = .ok (.goto 4, 3) := by decide +kernel
theorem sX7_combine_92 : dsOk (MN MX7_combine).cls (MB MX7_combine) 92 [(.iconst 0, 0, 0, 0)] 93 = true := by decide +kernel
theorem dX7_combine_93 : decode (MB MX7_combine) 93 = .ok (.ireturn, 1) := by decide +kernel
theorem sX7_combine_94 : dsOk (MN MX7_combine).cls (MB MX7_combine) 94 [(.iload_n 1, 0, 0, 0), (.iload_n 2, 0, 0, 0), (.iadd, 0, 0, 0)] 97 = true := by decide +kernel
theorem dX7_combine_97 : decode (MB MX7_combine) 97 = .ok (.ireturn, 1) := by decide +kernel
theorem sX7_combine_98 : dsOk (MN MX7_combine).cls (MB MX7_combine) 98 [(.iload_n 1, 0, 0, 0), (.iload_n 2, 0, 0, 0), (.isub, 0, 0, 0)] 101 = true := by decide +kernel
theorem dX7_combine_101 : decode (MB MX7_combine) 101 = .ok (.ireturn, 1) := by decide +kernel
theorem sX7_combine_102 : dsOk (MN MX7_combine).cls (MB MX7_combine) 102 [(.iload_n 1, 0, 0, 0), (.iload_n 2, 0, 0, 0), (.imul, 0, 0, 0)] 105 = true := by decide +kernel
theorem dX7_combine_105 : decode (MB MX7_combine) 105 = .ok (.ireturn, 1) := by decide +kernel
theorem sX7_combine_106 : dsOk (MN MX7_combine).cls (MB MX7_combine) 106 [(.iload_n 2, 0, 0, 0)] 107 = true := by decide +kernel
theorem dX7_combine_107 : decode (MB MX7_combine) 107 = .ok (.ifCond .ne 7, 3) := by decide +kernel
theorem sX7_combine_110 : dsOk (MN MX7_combine).cls (MB MX7_combine) 110 [(.iconst 0, 0, 0, 0)] 111 = true := by decide +kernel
theorem dX7_combine_111 : decode (MB MX7_combine) 111 = .ok (.goto 6, 3) := by decide +kernel
theorem sX7_combine_114 : dsOk (MN MX7_combine).cls (MB MX7_combine) 114 [(.iload_n 1, 0, 0, 0), (.iload_n 2, 0, 0, 0), (.idiv, 0, 0, 0)] 117 = true := by decide +kernel
theorem dX7_combine_117 : decode (MB MX7_combine) 117 = .ok (.ireturn, 1) := by decide +kernel
def MX8_init : Ms := (yX8_init, cX8_init, 2, none, [])
set_option maxRecDepth 100000 in
theorem kX8_init : mkI MX8_init 1 := ⟨⟨List.mem_of_getElem? (i := 37) (by rfl), by decide +kernel⟩, by decide +kernel⟩
theorem sX8_init_0 : dsOk (MN MX8_init).cls (MB MX8_init) 0 [(.aload_n 0, 0, 0, 0)] 1 = true := by decide +kernel
theorem dX8_init_1 : decode (MB MX8_init) 1 = .ok (.invokespecial 3, 3) := by decide +kernel
theorem sX8_init_4 : dsOk (MN MX8_init).cls (MB MX8_init) 4 [(.aload_n 0, 0, 0, 0)] 5 = true := by decide +kernel
theorem dX8_init_5 : decode (MB MX8_init) 5 = .ok (.new 9, 3) := by decide +kernel
theorem sX8_init_8 : dsOk (MN MX8_init).cls (MB MX8_init) 8 [(.dup, 0, 0, 0), (.aload_n 1, 0, 0, 0)] 10 = true := by decide +kernel
theorem dX8_init_10 : decode (MB MX8_init) 10 = .ok (.invokespecial 11, 3) := by decide +kernel
theorem dX8_init_13 : decode (MB MX8_init) 13 = .ok (.putfield 14, 3) := by decide +kernel
theorem dX8_init_16 : decode (MB MX8_init) 16 = .ok (.return_, 1) := by decide +kernel
def MX8_place : Ms := (yX8_place, cX8_place, 1, (some .int), [])
set_option maxRecDepth 100000 in
theorem kX8_place : mkV MX8_place 0 := ⟨⟨List.mem_of_getElem? (i := 771) (by rfl), by decide +kernel⟩, by decide +kernel⟩
theorem sX8_place_0 : dsOk (MN MX8_place).cls (MB MX8_place) 0 [(.aload_n 0, 0, 0, 0), (.getfield 14, 7, 0, 0)] 4 = true := by decide +kernel
theorem dX8_place_4 : decode (MB MX8_place) 4 = .ok (.invokevirtual 20, 3) := by decide +kernel
theorem dX8_place_7 : decode (MB MX8_place) 7 = .ok (.ireturn, 1) := by decide +kernel
def MX8_readAll : Ms := (yX8_readAll, cX8_readAll, 4, (some .int), [])
set_option maxRecDepth 100000 in
theorem kX8_readAll : mkV MX8_readAll 2 := ⟨⟨List.mem_of_getElem? (i := 508) (by rfl), by decide +kernel⟩, by decide +kernel⟩
theorem sX8_readAll_0 : dsOk (MN MX8_readAll).cls (MB MX8_readAll) 0 [(.aload_n 0, 0, 0, 0), (.iconst 0, 0, 0, 0), (.putfield 24, 7, 1, 0), (.aload_n 2, 0, 0, 0)] 6 = true := by decide +kernel
theorem dX8_readAll_6 : decode (MB MX8_readAll) 6 = .ok (.invokevirtual 28, 3) := by decide +kernel
theorem sX8_readAll_9 : dsOk (MN MX8_readAll).cls (MB MX8_readAll) 9 [(.aload_n 0, 0, 0, 0), (.getfield 14, 7, 0, 0), (.iload_n 1, 0, 0, 0)] 14 = true := by decide +kernel
theorem dX8_readAll_14 : decode (MB MX8_readAll) 14 = .ok (.invokevirtual 33, 3) := by decide +kernel
theorem sX8_readAll_17 : dsOk (MN MX8_readAll).cls (MB MX8_readAll) 17 [(.iconst 0, 0, 0, 0), (.istore_n 3, 0, 0, 0)] 19 = true := by decide +kernel
theorem sX8_readAll_19 : dsOk (MN MX8_readAll).cls (MB MX8_readAll) 19 [(.iload_n 3, 0, 0, 0), (.sipush 500, 0, 0, 500)] 23 = true := by decide +kernel
theorem dX8_readAll_23 : decode (MB MX8_readAll) 23 = .ok (.if_icmp .gt 42, 3) := by decide +kernel
theorem sX8_readAll_26 : dsOk (MN MX8_readAll).cls (MB MX8_readAll) 26 [(.aload_n 0, 0, 0, 0), (.getfield 24, 7, 1, 0)] 30 = true := by decide +kernel
theorem dX8_readAll_30 : decode (MB MX8_readAll) 30 = .ok (.ifCond .ne 35, 3) := by decide +kernel
theorem sX8_readAll_33 : dsOk (MN MX8_readAll).cls (MB MX8_readAll) 33 [(.aload_n 0, 0, 0, 0), (.getfield 14, 7, 0, 0), (.iconst (-1), 0, 0, 0)] 38 = true := by decide +kernel
theorem dX8_readAll_38 : decode (MB MX8_readAll) 38 = .ok (.invokevirtual 37, 3) := by decide +kernel
theorem dX8_readAll_41 : decode (MB MX8_readAll) 41 = .ok (.ifCond .ne 24, 3) := by decide +kernel
theorem sX8_readAll_44 : dsOk (MN MX8_readAll).cls (MB MX8_readAll) 44 [(.aload_n 0, 0, 0, 0), (.aload_n 2, 0, 0, 0)] 46 = true := by decide +kernel
theorem dX8_readAll_46 : decode (MB MX8_readAll) 46 = .ok (.invokevirtual 41, 3) := by decide +kernel
theorem dX8_readAll_49 : decode (MB MX8_readAll) 49 = .ok (.ifCond .eq 10, 3) := by decide +kernel
theorem sX8_readAll_52 : dsOk (MN MX8_readAll).cls (MB MX8_readAll) 52 [(.aload_n 0, 0, 0, 0), (.bipush 59, 0, 0, 59)] 55 = true := by decide +kernel
theorem dX8_readAll_55 : decode (MB MX8_readAll) 55 = .ok (.invokevirtual 45, 3) := by decide +kernel
theorem sX8_readAll_58 : dsOk (MN MX8_readAll).cls (MB MX8_readAll) 58 [(.pop, 0, 0, 0)] 59 = true := by decide +kernel
theorem sX8_readAll_59 : dsOk (MN MX8_readAll).cls (MB MX8_readAll) 59 [(.iinc 3 1, 0, 0, 0)] 62 = true := by decide +kernel
theorem dX8_readAll_62 : decode (MB MX8_readAll) 62 = .ok (.goto (-43), 3) := by decide +kernel
theorem sX8_readAll_65 : dsOk (MN MX8_readAll).cls (MB MX8_readAll) 65 [(.aload_n 0, 0, 0, 0), (.getfield 24, 7, 1, 0)] 69 = true := by decide +kernel
theorem dX8_readAll_69 : decode (MB MX8_readAll) 69 = .ok (.ireturn, 1) := by decide +kernel
def MX8_refuse : Ms := (yX8_refuse, cX8_refuse, 2, (some .boolean), [])
set_option maxRecDepth 100000 in
theorem kX8_refuse : mkV MX8_refuse 1 := ⟨⟨List.mem_of_getElem? (i := 652) (by rfl), by decide +kernel⟩, by decide +kernel⟩
theorem sX8_refuse_0 : dsOk (MN MX8_refuse).cls (MB MX8_refuse) 0 [(.aload_n 0, 0, 0, 0), (.iload_n 1, 0, 0, 0), (.putfield 24, 7, 1, 0), (.iconst 0, 0, 0, 0)] 6 = true := by decide +kernel
theorem dX8_refuse_6 : decode (MB MX8_refuse) 6 = .ok (.ireturn, 1) := by decide +kernel
def MX8_readSign : Ms := (yX8_readSign, cX8_readSign, 2, (some .boolean), [])
set_option maxRecDepth 100000 in
theorem kX8_readSign : mkV MX8_readSign 1 := ⟨⟨List.mem_of_getElem? (i := 763) (by rfl), by decide +kernel⟩, by decide +kernel⟩
theorem sX8_readSign_0 : dsOk (MN MX8_readSign).cls (MB MX8_readSign) 0 [(.aload_n 0, 0, 0, 0), (.getfield 14, 7, 0, 0), (.iload_n 1, 0, 0, 0)] 5 = true := by decide +kernel
theorem dX8_readSign_5 : decode (MB MX8_readSign) 5 = .ok (.invokevirtual 37, 3) := by decide +kernel
theorem dX8_readSign_8 : decode (MB MX8_readSign) 8 = .ok (.ifCond .ne 9, 3) := by decide +kernel
theorem sX8_readSign_11 : dsOk (MN MX8_readSign).cls (MB MX8_readSign) 11 [(.aload_n 0, 0, 0, 0), (.iconst 1, 0, 0, 0)] 13 = true := by decide +kernel
theorem dX8_readSign_13 : decode (MB MX8_readSign) 13 = .ok (.invokevirtual 49, 3) := by decide +kernel
theorem dX8_readSign_16 : decode (MB MX8_readSign) 16 = .ok (.ireturn, 1) := by decide +kernel
theorem sX8_readSign_17 : dsOk (MN MX8_readSign).cls (MB MX8_readSign) 17 [(.aload_n 0, 0, 0, 0), (.getfield 14, 7, 0, 0)] 21 = true := by decide +kernel
theorem dX8_readSign_21 : decode (MB MX8_readSign) 21 = .ok (.invokevirtual 52, 3) := by decide +kernel
theorem sX8_readSign_24 : dsOk (MN MX8_readSign).cls (MB MX8_readSign) 24 [(.iconst 1, 0, 0, 0)] 25 = true := by decide +kernel
theorem dX8_readSign_25 : decode (MB MX8_readSign) 25 = .ok (.ireturn, 1) := by decide +kernel
def MX8_readLine : Ms := (yX8_readLine, cX8_readLine, 2, (some .boolean), [])
set_option maxRecDepth 100000 in
theorem kX8_readLine : mkV MX8_readLine 1 := ⟨⟨List.mem_of_getElem? (i := 628) (by rfl), by decide +kernel⟩, by decide +kernel⟩
theorem sX8_readLine_0 : dsOk (MN MX8_readLine).cls (MB MX8_readLine) 0 [(.aload_n 0, 0, 0, 0), (.getfield 14, 7, 0, 0)] 4 = true := by decide +kernel
theorem dX8_readLine_4 : decode (MB MX8_readLine) 4 = .ok (.invokevirtual 55, 3) := by decide +kernel
theorem dX8_readLine_7 : decode (MB MX8_readLine) 7 = .ok (.tableswitch 43 264 266 #[25, 31, 37], 25) := by decide +kernel
theorem sX8_readLine_32 : dsOk (MN MX8_readLine).cls (MB MX8_readLine) 32 [(.aload_n 0, 0, 0, 0), (.aload_n 1, 0, 0, 0)] 34 = true := by decide +kernel
theorem dX8_readLine_34 : decode (MB MX8_readLine) 34 = .ok (.invokevirtual 58, 3) := by decide +kernel
theorem dX8_readLine_37 : decode (MB MX8_readLine) 37 = .ok (.ireturn, 1) := by decide +kernel
theorem sX8_readLine_38 : dsOk (MN MX8_readLine).cls (MB MX8_readLine) 38 [(.aload_n 0, 0, 0, 0), (.aload_n 1, 0, 0, 0)] 40 = true := by decide +kernel
theorem dX8_readLine_40 : decode (MB MX8_readLine) 40 = .ok (.invokevirtual 61, 3) := by decide +kernel
theorem dX8_readLine_43 : decode (MB MX8_readLine) 43 = .ok (.ireturn, 1) := by decide +kernel
theorem sX8_readLine_44 : dsOk (MN MX8_readLine).cls (MB MX8_readLine) 44 [(.aload_n 0, 0, 0, 0), (.aload_n 1, 0, 0, 0)] 46 = true := by decide +kernel
theorem dX8_readLine_46 : decode (MB MX8_readLine) 46 = .ok (.invokevirtual 64, 3) := by decide +kernel
theorem dX8_readLine_49 : decode (MB MX8_readLine) 49 = .ok (.ireturn, 1) := by decide +kernel
theorem sX8_readLine_50 : dsOk (MN MX8_readLine).cls (MB MX8_readLine) 50 [(.aload_n 0, 0, 0, 0), (.aload_n 1, 0, 0, 0)] 52 = true := by decide +kernel
theorem dX8_readLine_52 : decode (MB MX8_readLine) 52 = .ok (.invokevirtual 67, 3) := by decide +kernel
theorem dX8_readLine_55 : decode (MB MX8_readLine) 55 = .ok (.ireturn, 1) := by decide +kernel
def MX8_readBook : Ms := (yX8_readBook, cX8_readBook, 5, (some .boolean), [])
set_option maxRecDepth 100000 in
theorem kX8_readBook : mkV MX8_readBook 1 := ⟨⟨List.mem_of_getElem? (i := 714) (by rfl), by decide +kernel⟩, by decide +kernel⟩
theorem sX8_readBook_0 : dsOk (MN MX8_readBook).cls (MB MX8_readBook) 0 [(.aload_n 0, 0, 0, 0), (.getfield 14, 7, 0, 0)] 4 = true := by decide +kernel
theorem dX8_readBook_4 : decode (MB MX8_readBook) 4 = .ok (.invokevirtual 55, 3) := by decide +kernel
theorem sX8_readBook_7 : dsOk (MN MX8_readBook).cls (MB MX8_readBook) 7 [(.sipush 256, 0, 0, 256), (.isub, 0, 0, 0), (.istore_n 2, 0, 0, 0), (.iload_n 2, 0, 0, 0)] 13 = true := by decide +kernel
theorem dX8_readBook_13 : decode (MB MX8_readBook) 13 = .ok (.ifCond .lt 9, 3) := by decide +kernel
theorem sX8_readBook_16 : dsOk (MN MX8_readBook).cls (MB MX8_readBook) 16 [(.iload_n 2, 0, 0, 0), (.bipush 6, 0, 0, 6)] 19 = true := by decide +kernel
theorem dX8_readBook_19 : decode (MB MX8_readBook) 19 = .ok (.if_icmp .le 9, 3) := by decide +kernel
theorem sX8_readBook_22 : dsOk (MN MX8_readBook).cls (MB MX8_readBook) 22 [(.aload_n 0, 0, 0, 0), (.iconst 1, 0, 0, 0)] 24 = true := by decide +kernel
theorem dX8_readBook_24 : decode (MB MX8_readBook) 24 = .ok (.invokevirtual 49, 3) := by decide +kernel
theorem dX8_readBook_27 : decode (MB MX8_readBook) 27 = .ok (.ireturn, 1) := by decide +kernel
theorem sX8_readBook_28 : dsOk (MN MX8_readBook).cls (MB MX8_readBook) 28 [(.aload_n 1, 0, 0, 0), (.iload_n 2, 0, 0, 0)] 30 = true := by decide +kernel
theorem dX8_readBook_30 : decode (MB MX8_readBook) 30 = .ok (.invokevirtual 70, 3) := by decide +kernel
theorem sX8_readBook_33 : dsOk (MN MX8_readBook).cls (MB MX8_readBook) 33 [(.astore_n 3, 0, 0, 0), (.aload_n 3, 0, 0, 0)] 35 = true := by decide +kernel
theorem dX8_readBook_35 : decode (MB MX8_readBook) 35 = .ok (.ifnonnull 9, 3) := by decide +kernel
theorem sX8_readBook_38 : dsOk (MN MX8_readBook).cls (MB MX8_readBook) 38 [(.aload_n 0, 0, 0, 0), (.iconst 2, 0, 0, 0)] 40 = true := by decide +kernel
theorem dX8_readBook_40 : decode (MB MX8_readBook) 40 = .ok (.invokevirtual 49, 3) := by decide +kernel
theorem dX8_readBook_43 : decode (MB MX8_readBook) 43 = .ok (.ireturn, 1) := by decide +kernel
theorem sX8_readBook_44 : dsOk (MN MX8_readBook).cls (MB MX8_readBook) 44 [(.aload_n 0, 0, 0, 0), (.getfield 14, 7, 0, 0)] 48 = true := by decide +kernel
theorem dX8_readBook_48 : decode (MB MX8_readBook) 48 = .ok (.invokevirtual 52, 3) := by decide +kernel
theorem sX8_readBook_51 : dsOk (MN MX8_readBook).cls (MB MX8_readBook) 51 [(.aload_n 0, 0, 0, 0), (.aload_n 3, 0, 0, 0)] 53 = true := by decide +kernel
theorem dX8_readBook_53 : decode (MB MX8_readBook) 53 = .ok (.invokevirtual 74, 3) := by decide +kernel
theorem dX8_readBook_56 : decode (MB MX8_readBook) 56 = .ok (.ifCond .eq 11, 3) := by decide +kernel
theorem sX8_readBook_59 : dsOk (MN MX8_readBook).cls (MB MX8_readBook) 59 [(.aload_n 0, 0, 0, 0), (.aload_n 3, 0, 0, 0)] 61 = true := by decide +kernel
theorem dX8_readBook_61 : decode (MB MX8_readBook) 61 = .ok (.invokevirtual 78, 3) := by decide +kernel
theorem dX8_readBook_64 : decode (MB MX8_readBook) 64 = .ok (.ifCond .ne 5, 3) := by decide +kernel
theorem sX8_readBook_67 : dsOk (MN MX8_readBook).cls (MB MX8_readBook) 67 [(.iconst 0, 0, 0, 0)] 68 = true := by decide +kernel
theorem dX8_readBook_68 : decode (MB MX8_readBook) 68 = .ok (.ireturn, 1) := by decide +kernel
theorem sX8_readBook_69 : dsOk (MN MX8_readBook).cls (MB MX8_readBook) 69 [(.iload_n 2, 0, 0, 0), (.bipush 6, 0, 0, 6)] 72 = true := by decide +kernel
theorem dX8_readBook_72 : decode (MB MX8_readBook) 72 = .ok (.if_icmp .eq 5, 3) := by decide +kernel
theorem sX8_readBook_75 : dsOk (MN MX8_readBook).cls (MB MX8_readBook) 75 [(.iconst 1, 0, 0, 0)] 76 = true := by decide +kernel
theorem dX8_readBook_76 : decode (MB MX8_readBook) 76 = .ok (.ireturn, 1) := by decide +kernel
theorem sX8_readBook_77 : dsOk (MN MX8_readBook).cls (MB MX8_readBook) 77 [(.aload_n 0, 0, 0, 0), (.getfield 14, 7, 0, 0), (.sipush 263, 0, 0, 263)] 84 = true := by decide +kernel
theorem dX8_readBook_84 : decode (MB MX8_readBook) 84 = .ok (.invokevirtual 37, 3) := by decide +kernel
theorem dX8_readBook_87 : decode (MB MX8_readBook) 87 = .ok (.ifCond .ne 9, 3) := by decide +kernel
theorem sX8_readBook_90 : dsOk (MN MX8_readBook).cls (MB MX8_readBook) 90 [(.aload_n 0, 0, 0, 0), (.iconst 1, 0, 0, 0)] 92 = true := by decide +kernel
theorem dX8_readBook_92 : decode (MB MX8_readBook) 92 = .ok (.invokevirtual 49, 3) := by decide +kernel
theorem dX8_readBook_95 : decode (MB MX8_readBook) 95 = .ok (.ireturn, 1) := by decide +kernel
theorem sX8_readBook_96 : dsOk (MN MX8_readBook).cls (MB MX8_readBook) 96 [(.aload_n 0, 0, 0, 0), (.getfield 14, 7, 0, 0)] 100 = true := by decide +kernel
theorem dX8_readBook_100 : decode (MB MX8_readBook) 100 = .ok (.invokevirtual 52, 3) := by decide +kernel
theorem sX8_readBook_103 : dsOk (MN MX8_readBook).cls (MB MX8_readBook) 103 [(.aload_n 3, 0, 0, 0), (.aload_n 1, 0, 0, 0), (.getfield 81, 6, 8, 0), (.putfield 84, 0, 3, 0), (.aload_n 0, 0, 0, 0), (.aload_n 1, 0, 0, 0), (.iconst 0, 0, 0, 0)] 114 = true := by decide +kernel
theorem dX8_readBook_114 : decode (MB MX8_readBook) 114 = .ok (.invokevirtual 89, 3) := by decide +kernel
theorem sX8_readBook_117 : dsOk (MN MX8_readBook).cls (MB MX8_readBook) 117 [(.istore 4, 0, 0, 0), (.aload_n 3, 0, 0, 0), (.aload_n 1, 0, 0, 0), (.getfield 81, 6, 8, 0), (.putfield 93, 0, 4, 0), (.iload 4, 0, 0, 0)] 129 = true := by decide +kernel
theorem dX8_readBook_129 : decode (MB MX8_readBook) 129 = .ok (.ireturn, 1) := by decide +kernel
def MX8_readMark : Ms := (yX8_readMark, cX8_readMark, 2, (some .boolean), [])
set_option maxRecDepth 100000 in
theorem kX8_readMark : mkV MX8_readMark 1 := ⟨⟨List.mem_of_getElem? (i := 727) (by rfl), by decide +kernel⟩, by decide +kernel⟩
theorem sX8_readMark_0 : dsOk (MN MX8_readMark).cls (MB MX8_readMark) 0 [(.aload_n 1, 0, 0, 0), (.getfield 96, 0, 0, 0), (.iconst 2, 0, 0, 0)] 5 = true := by decide +kernel
theorem dX8_readMark_5 : decode (MB MX8_readMark) 5 = .ok (.if_icmp .eq 13, 3) := by decide +kernel
theorem sX8_readMark_8 : dsOk (MN MX8_readMark).cls (MB MX8_readMark) 8 [(.aload_n 1, 0, 0, 0), (.getfield 96, 0, 0, 0), (.iconst 5, 0, 0, 0)] 13 = true := by decide +kernel
theorem dX8_readMark_13 : decode (MB MX8_readMark) 13 = .ok (.if_icmp .eq 5, 3) := by decide +kernel
theorem sX8_readMark_16 : dsOk (MN MX8_readMark).cls (MB MX8_readMark) 16 [(.iconst 1, 0, 0, 0)] 17 = true := by decide +kernel
theorem dX8_readMark_17 : decode (MB MX8_readMark) 17 = .ok (.ireturn, 1) := by decide +kernel
theorem sX8_readMark_18 : dsOk (MN MX8_readMark).cls (MB MX8_readMark) 18 [(.aload_n 1, 0, 0, 0), (.aload_n 0, 0, 0, 0), (.getfield 14, 7, 0, 0)] 23 = true := by decide +kernel
theorem dX8_readMark_23 : decode (MB MX8_readMark) 23 = .ok (.invokevirtual 99, 3) := by decide +kernel
theorem sX8_readMark_26 : dsOk (MN MX8_readMark).cls (MB MX8_readMark) 26 [(.putfield 102, 0, 2, 0), (.aload_n 1, 0, 0, 0), (.getfield 96, 0, 0, 0), (.iconst 2, 0, 0, 0)] 34 = true := by decide +kernel
theorem dX8_readMark_34 : decode (MB MX8_readMark) 34 = .ok (.if_icmp .ne 13, 3) := by decide +kernel
theorem sX8_readMark_37 : dsOk (MN MX8_readMark).cls (MB MX8_readMark) 37 [(.aload_n 0, 0, 0, 0), (.iconst 0, 0, 0, 0), (.bipush 99, 0, 0, 99)] 41 = true := by decide +kernel
theorem dX8_readMark_41 : decode (MB MX8_readMark) 41 = .ok (.invokevirtual 105, 3) := by decide +kernel
theorem dX8_readMark_44 : decode (MB MX8_readMark) 44 = .ok (.goto 10, 3) := by decide +kernel
theorem sX8_readMark_47 : dsOk (MN MX8_readMark).cls (MB MX8_readMark) 47 [(.aload_n 0, 0, 0, 0), (.iconst 1, 0, 0, 0), (.bipush 9, 0, 0, 9)] 51 = true := by decide +kernel
theorem dX8_readMark_51 : decode (MB MX8_readMark) 51 = .ok (.invokevirtual 105, 3) := by decide +kernel
theorem dX8_readMark_54 : decode (MB MX8_readMark) 54 = .ok (.ireturn, 1) := by decide +kernel
def MX8_readLeafCount : Ms := (yX8_readLeafCount, cX8_readLeafCount, 2, (some .boolean), [])
set_option maxRecDepth 100000 in
theorem kX8_readLeafCount : mkV MX8_readLeafCount 1 := ⟨⟨List.mem_of_getElem? (i := 731) (by rfl), by decide +kernel⟩, by decide +kernel⟩
theorem sX8_readLeafCount_0 : dsOk (MN MX8_readLeafCount).cls (MB MX8_readLeafCount) 0 [(.aload_n 1, 0, 0, 0), (.aload_n 0, 0, 0, 0), (.getfield 14, 7, 0, 0)] 5 = true := by decide +kernel
theorem dX8_readLeafCount_5 : decode (MB MX8_readLeafCount) 5 = .ok (.invokevirtual 99, 3) := by decide +kernel
theorem sX8_readLeafCount_8 : dsOk (MN MX8_readLeafCount).cls (MB MX8_readLeafCount) 8 [(.putfield 109, 0, 1, 0), (.aload_n 1, 0, 0, 0), (.getfield 96, 0, 0, 0), (.iconst 1, 0, 0, 0)] 16 = true := by decide +kernel
theorem dX8_readLeafCount_16 : decode (MB MX8_readLeafCount) 16 = .ok (.if_icmp .ne 18, 3) := by decide +kernel
theorem sX8_readLeafCount_19 : dsOk (MN MX8_readLeafCount).cls (MB MX8_readLeafCount) 19 [(.aload_n 1, 0, 0, 0), (.getfield 109, 0, 1, 0), (.iconst 2, 0, 0, 0), (.irem, 0, 0, 0)] 25 = true := by decide +kernel
theorem dX8_readLeafCount_25 : decode (MB MX8_readLeafCount) 25 = .ok (.ifCond .eq 9, 3) := by decide +kernel
theorem sX8_readLeafCount_28 : dsOk (MN MX8_readLeafCount).cls (MB MX8_readLeafCount) 28 [(.aload_n 0, 0, 0, 0), (.iconst 2, 0, 0, 0)] 30 = true := by decide +kernel
theorem dX8_readLeafCount_30 : decode (MB MX8_readLeafCount) 30 = .ok (.invokevirtual 49, 3) := by decide +kernel
theorem dX8_readLeafCount_33 : decode (MB MX8_readLeafCount) 33 = .ok (.ireturn, 1) := by decide +kernel
theorem sX8_readLeafCount_34 : dsOk (MN MX8_readLeafCount).cls (MB MX8_readLeafCount) 34 [(.aload_n 0, 0, 0, 0), (.iconst 1, 0, 0, 0), (.sipush 2000, 0, 0, 2000)] 39 = true := by decide +kernel
theorem dX8_readLeafCount_39 : decode (MB MX8_readLeafCount) 39 = .ok (.invokevirtual 105, 3) := by decide +kernel
theorem dX8_readLeafCount_42 : decode (MB MX8_readLeafCount) 42 = .ok (.ireturn, 1) := by decide +kernel
def MX8_readWithin : Ms := (yX8_readWithin, cX8_readWithin, 3, (some .boolean), [])
set_option maxRecDepth 100000 in
theorem kX8_readWithin : mkV MX8_readWithin 2 := ⟨⟨List.mem_of_getElem? (i := 710) (by rfl), by decide +kernel⟩, by decide +kernel⟩
theorem sX8_readWithin_0 : dsOk (MN MX8_readWithin).cls (MB MX8_readWithin) 0 [(.aload_n 0, 0, 0, 0), (.getfield 14, 7, 0, 0), (.bipush (-2), 0, 0, -2)] 6 = true := by decide +kernel
theorem dX8_readWithin_6 : decode (MB MX8_readWithin) 6 = .ok (.invokevirtual 37, 3) := by decide +kernel
theorem dX8_readWithin_9 : decode (MB MX8_readWithin) 9 = .ok (.ifCond .ne 9, 3) := by decide +kernel
theorem sX8_readWithin_12 : dsOk (MN MX8_readWithin).cls (MB MX8_readWithin) 12 [(.aload_n 0, 0, 0, 0), (.iconst 1, 0, 0, 0)] 14 = true := by decide +kernel
theorem dX8_readWithin_14 : decode (MB MX8_readWithin) 14 = .ok (.invokevirtual 49, 3) := by decide +kernel
theorem dX8_readWithin_17 : decode (MB MX8_readWithin) 17 = .ok (.ireturn, 1) := by decide +kernel
theorem sX8_readWithin_18 : dsOk (MN MX8_readWithin).cls (MB MX8_readWithin) 18 [(.aload_n 0, 0, 0, 0), (.getfield 14, 7, 0, 0)] 22 = true := by decide +kernel
theorem dX8_readWithin_22 : decode (MB MX8_readWithin) 22 = .ok (.invokevirtual 99, 3) := by decide +kernel
theorem sX8_readWithin_25 : dsOk (MN MX8_readWithin).cls (MB MX8_readWithin) 25 [(.iload_n 1, 0, 0, 0)] 26 = true := by decide +kernel
theorem dX8_readWithin_26 : decode (MB MX8_readWithin) 26 = .ok (.if_icmp .lt 14, 3) := by decide +kernel
theorem sX8_readWithin_29 : dsOk (MN MX8_readWithin).cls (MB MX8_readWithin) 29 [(.aload_n 0, 0, 0, 0), (.getfield 14, 7, 0, 0)] 33 = true := by decide +kernel
theorem dX8_readWithin_33 : decode (MB MX8_readWithin) 33 = .ok (.invokevirtual 99, 3) := by decide +kernel
theorem sX8_readWithin_36 : dsOk (MN MX8_readWithin).cls (MB MX8_readWithin) 36 [(.iload_n 2, 0, 0, 0)] 37 = true := by decide +kernel
theorem dX8_readWithin_37 : decode (MB MX8_readWithin) 37 = .ok (.if_icmp .le 9, 3) := by decide +kernel
theorem sX8_readWithin_40 : dsOk (MN MX8_readWithin).cls (MB MX8_readWithin) 40 [(.aload_n 0, 0, 0, 0), (.iconst 2, 0, 0, 0)] 42 = true := by decide +kernel
theorem dX8_readWithin_42 : decode (MB MX8_readWithin) 42 = .ok (.invokevirtual 49, 3) := by decide +kernel
theorem dX8_readWithin_45 : decode (MB MX8_readWithin) 45 = .ok (.ireturn, 1) := by decide +kernel
theorem sX8_readWithin_46 : dsOk (MN MX8_readWithin).cls (MB MX8_readWithin) 46 [(.aload_n 0, 0, 0, 0), (.getfield 14, 7, 0, 0)] 50 = true := by decide +kernel
theorem dX8_readWithin_50 : decode (MB MX8_readWithin) 50 = .ok (.invokevirtual 52, 3) := by decide +kernel
theorem sX8_readWithin_53 : dsOk (MN MX8_readWithin).cls (MB MX8_readWithin) 53 [(.iconst 1, 0, 0, 0)] 54 = true := by decide +kernel
theorem dX8_readWithin_54 : decode (MB MX8_readWithin) 54 = .ok (.ireturn, 1) := by decide +kernel
def MX8_readBookIndex : Ms := (yX8_readBookIndex, cX8_readBookIndex, 3, (some .int), [])
set_option maxRecDepth 100000 in
theorem kX8_readBookIndex : mkV MX8_readBookIndex 1 := ⟨⟨List.mem_of_getElem? (i := 644) (by rfl), by decide +kernel⟩, by decide +kernel⟩
theorem sX8_readBookIndex_0 : dsOk (MN MX8_readBookIndex).cls (MB MX8_readBookIndex) 0 [(.aload_n 0, 0, 0, 0), (.getfield 14, 7, 0, 0)] 4 = true := by decide +kernel
theorem dX8_readBookIndex_4 : decode (MB MX8_readBookIndex) 4 = .ok (.invokevirtual 99, 3) := by decide +kernel
theorem sX8_readBookIndex_7 : dsOk (MN MX8_readBookIndex).cls (MB MX8_readBookIndex) 7 [(.istore_n 2, 0, 0, 0), (.aload_n 0, 0, 0, 0), (.getfield 14, 7, 0, 0), (.bipush (-2), 0, 0, -2)] 14 = true := by decide +kernel
theorem dX8_readBookIndex_14 : decode (MB MX8_readBookIndex) 14 = .ok (.invokevirtual 37, 3) := by decide +kernel
theorem dX8_readBookIndex_17 : decode (MB MX8_readBookIndex) 17 = .ok (.ifCond .ne 12, 3) := by decide +kernel
theorem sX8_readBookIndex_20 : dsOk (MN MX8_readBookIndex).cls (MB MX8_readBookIndex) 20 [(.aload_n 0, 0, 0, 0), (.iconst 1, 0, 0, 0)] 22 = true := by decide +kernel
theorem dX8_readBookIndex_22 : decode (MB MX8_readBookIndex) 22 = .ok (.invokevirtual 49, 3) := by decide +kernel
theorem sX8_readBookIndex_25 : dsOk (MN MX8_readBookIndex).cls (MB MX8_readBookIndex) 25 [(.pop, 0, 0, 0)] 26 = true := by decide +kernel
theorem dX8_readBookIndex_26 : decode (MB MX8_readBookIndex) 26 = .ok (.goto 45, 3) := by decide +kernel
theorem sX8_readBookIndex_29 : dsOk (MN MX8_readBookIndex).cls (MB MX8_readBookIndex) 29 [(.iload_n 2, 0, 0, 0), (.sipush 9999, 0, 0, 9999)] 33 = true := by decide +kernel
theorem dX8_readBookIndex_33 : decode (MB MX8_readBookIndex) 33 = .ok (.if_icmp .le 12, 3) := by decide +kernel
theorem sX8_readBookIndex_36 : dsOk (MN MX8_readBookIndex).cls (MB MX8_readBookIndex) 36 [(.aload_n 0, 0, 0, 0), (.iconst 2, 0, 0, 0)] 38 = true := by decide +kernel
theorem dX8_readBookIndex_38 : decode (MB MX8_readBookIndex) 38 = .ok (.invokevirtual 49, 3) := by decide +kernel
theorem sX8_readBookIndex_41 : dsOk (MN MX8_readBookIndex).cls (MB MX8_readBookIndex) 41 [(.pop, 0, 0, 0)] 42 = true := by decide +kernel
theorem dX8_readBookIndex_42 : decode (MB MX8_readBookIndex) 42 = .ok (.goto 29, 3) := by decide +kernel
theorem sX8_readBookIndex_45 : dsOk (MN MX8_readBookIndex).cls (MB MX8_readBookIndex) 45 [(.aload_n 1, 0, 0, 0), (.iload_n 2, 0, 0, 0)] 47 = true := by decide +kernel
theorem dX8_readBookIndex_47 : decode (MB MX8_readBookIndex) 47 = .ok (.invokevirtual 112, 3) := by decide +kernel
theorem dX8_readBookIndex_50 : decode (MB MX8_readBookIndex) 50 = .ok (.ifnonnull 12, 3) := by decide +kernel
theorem sX8_readBookIndex_53 : dsOk (MN MX8_readBookIndex).cls (MB MX8_readBookIndex) 53 [(.aload_n 0, 0, 0, 0), (.iconst 3, 0, 0, 0)] 55 = true := by decide +kernel
theorem dX8_readBookIndex_55 : decode (MB MX8_readBookIndex) 55 = .ok (.invokevirtual 49, 3) := by decide +kernel
theorem sX8_readBookIndex_58 : dsOk (MN MX8_readBookIndex).cls (MB MX8_readBookIndex) 58 [(.pop, 0, 0, 0)] 59 = true := by decide +kernel
theorem dX8_readBookIndex_59 : decode (MB MX8_readBookIndex) 59 = .ok (.goto 12, 3) := by decide +kernel
theorem sX8_readBookIndex_62 : dsOk (MN MX8_readBookIndex).cls (MB MX8_readBookIndex) 62 [(.aload_n 0, 0, 0, 0), (.getfield 14, 7, 0, 0)] 66 = true := by decide +kernel
theorem dX8_readBookIndex_66 : decode (MB MX8_readBookIndex) 66 = .ok (.invokevirtual 52, 3) := by decide +kernel
theorem sX8_readBookIndex_69 : dsOk (MN MX8_readBookIndex).cls (MB MX8_readBookIndex) 69 [(.iload_n 2, 0, 0, 0)] 70 = true := by decide +kernel
theorem dX8_readBookIndex_70 : decode (MB MX8_readBookIndex) 70 = .ok (.ireturn, 1) := by decide +kernel
theorem sX8_readBookIndex_71 : dsOk (MN MX8_readBookIndex).cls (MB MX8_readBookIndex) 71 [(.iconst (-1), 0, 0, 0)] 72 = true := by decide +kernel
theorem dX8_readBookIndex_72 : decode (MB MX8_readBookIndex) 72 = .ok (.ireturn, 1) := by decide +kernel
def MX8_readGone : Ms := (yX8_readGone, cX8_readGone, 3, (some .boolean), [])
set_option maxRecDepth 100000 in
theorem kX8_readGone : mkV MX8_readGone 1 := ⟨⟨List.mem_of_getElem? (i := 636) (by rfl), by decide +kernel⟩, by decide +kernel⟩
theorem sX8_readGone_0 : dsOk (MN MX8_readGone).cls (MB MX8_readGone) 0 [(.aload_n 0, 0, 0, 0), (.getfield 14, 7, 0, 0)] 4 = true := by decide +kernel
theorem dX8_readGone_4 : decode (MB MX8_readGone) 4 = .ok (.invokevirtual 52, 3) := by decide +kernel
theorem sX8_readGone_7 : dsOk (MN MX8_readGone).cls (MB MX8_readGone) 7 [(.aload_n 1, 0, 0, 0), (.aload_n 0, 0, 0, 0), (.aload_n 1, 0, 0, 0)] 10 = true := by decide +kernel
theorem dX8_readGone_10 : decode (MB MX8_readGone) 10 = .ok (.invokevirtual 115, 3) := by decide +kernel
theorem dX8_readGone_13 : decode (MB MX8_readGone) 13 = .ok (.invokevirtual 112, 3) := by decide +kernel
theorem sX8_readGone_16 : dsOk (MN MX8_readGone).cls (MB MX8_readGone) 16 [(.astore_n 2, 0, 0, 0), (.aload_n 2, 0, 0, 0)] 18 = true := by decide +kernel
theorem dX8_readGone_18 : decode (MB MX8_readGone) 18 = .ok (.ifnull 35, 3) := by decide +kernel
theorem sX8_readGone_21 : dsOk (MN MX8_readGone).cls (MB MX8_readGone) 21 [(.aload_n 0, 0, 0, 0), (.aload_n 2, 0, 0, 0), (.aload_n 2, 0, 0, 0), (.getfield 119, 0, 5, 0), (.bipush 60, 0, 0, 60)] 29 = true := by decide +kernel
theorem dX8_readGone_29 : decode (MB MX8_readGone) 29 = .ok (.invokevirtual 123, 3) := by decide +kernel
theorem dX8_readGone_32 : decode (MB MX8_readGone) 32 = .ok (.ifCond .eq 21, 3) := by decide +kernel
theorem sX8_readGone_35 : dsOk (MN MX8_readGone).cls (MB MX8_readGone) 35 [(.aload_n 0, 0, 0, 0), (.aload_n 2, 0, 0, 0), (.aload_n 2, 0, 0, 0), (.getfield 119, 0, 5, 0), (.bipush 60, 0, 0, 60)] 43 = true := by decide +kernel
theorem dX8_readGone_43 : decode (MB MX8_readGone) 43 = .ok (.invokevirtual 127, 3) := by decide +kernel
theorem dX8_readGone_46 : decode (MB MX8_readGone) 46 = .ok (.ifCond .eq 7, 3) := by decide +kernel
theorem sX8_readGone_49 : dsOk (MN MX8_readGone).cls (MB MX8_readGone) 49 [(.iconst 1, 0, 0, 0)] 50 = true := by decide +kernel
theorem dX8_readGone_50 : decode (MB MX8_readGone) 50 = .ok (.goto 4, 3) := by decide +kernel
theorem sX8_readGone_53 : dsOk (MN MX8_readGone).cls (MB MX8_readGone) 53 [(.iconst 0, 0, 0, 0)] 54 = true := by decide +kernel
theorem dX8_readGone_54 : decode (MB MX8_readGone) 54 = .ok (.ireturn, 1) := by decide +kernel
def MX8_readCopy : Ms := (yX8_readCopy, cX8_readCopy, 5, (some .boolean), [])
set_option maxRecDepth 100000 in
theorem kX8_readCopy : mkV MX8_readCopy 1 := ⟨⟨List.mem_of_getElem? (i := 681) (by rfl), by decide +kernel⟩, by decide +kernel⟩
theorem sX8_readCopy_0 : dsOk (MN MX8_readCopy).cls (MB MX8_readCopy) 0 [(.aload_n 1, 0, 0, 0)] 1 = true := by decide +kernel
theorem dX8_readCopy_1 : decode (MB MX8_readCopy) 1 = .ok (.invokevirtual 130, 3) := by decide +kernel
theorem sX8_readCopy_4 : dsOk (MN MX8_readCopy).cls (MB MX8_readCopy) 4 [(.astore_n 2, 0, 0, 0), (.aload_n 2, 0, 0, 0)] 6 = true := by decide +kernel
theorem dX8_readCopy_6 : decode (MB MX8_readCopy) 6 = .ok (.ifnonnull 9, 3) := by decide +kernel
theorem sX8_readCopy_9 : dsOk (MN MX8_readCopy).cls (MB MX8_readCopy) 9 [(.aload_n 0, 0, 0, 0), (.iconst 2, 0, 0, 0)] 11 = true := by decide +kernel
theorem dX8_readCopy_11 : decode (MB MX8_readCopy) 11 = .ok (.invokevirtual 49, 3) := by decide +kernel
theorem dX8_readCopy_14 : decode (MB MX8_readCopy) 14 = .ok (.ireturn, 1) := by decide +kernel
theorem sX8_readCopy_15 : dsOk (MN MX8_readCopy).cls (MB MX8_readCopy) 15 [(.aload_n 0, 0, 0, 0), (.getfield 14, 7, 0, 0)] 19 = true := by decide +kernel
theorem dX8_readCopy_19 : decode (MB MX8_readCopy) 19 = .ok (.invokevirtual 52, 3) := by decide +kernel
theorem sX8_readCopy_22 : dsOk (MN MX8_readCopy).cls (MB MX8_readCopy) 22 [(.aload_n 0, 0, 0, 0), (.aload_n 1, 0, 0, 0)] 24 = true := by decide +kernel
theorem dX8_readCopy_24 : decode (MB MX8_readCopy) 24 = .ok (.invokevirtual 115, 3) := by decide +kernel
theorem sX8_readCopy_27 : dsOk (MN MX8_readCopy).cls (MB MX8_readCopy) 27 [(.istore_n 3, 0, 0, 0), (.aload_n 1, 0, 0, 0), (.iload_n 3, 0, 0, 0)] 30 = true := by decide +kernel
theorem dX8_readCopy_30 : decode (MB MX8_readCopy) 30 = .ok (.invokevirtual 134, 3) := by decide +kernel
theorem sX8_readCopy_33 : dsOk (MN MX8_readCopy).cls (MB MX8_readCopy) 33 [(.aload_n 1, 0, 0, 0), (.iload_n 3, 0, 0, 0)] 35 = true := by decide +kernel
theorem dX8_readCopy_35 : decode (MB MX8_readCopy) 35 = .ok (.invokevirtual 112, 3) := by decide +kernel
theorem sX8_readCopy_38 : dsOk (MN MX8_readCopy).cls (MB MX8_readCopy) 38 [(.astore 4, 0, 0, 0), (.aload 4, 0, 0, 0)] 42 = true := by decide +kernel
theorem dX8_readCopy_42 : decode (MB MX8_readCopy) 42 = .ok (.ifnull 19, 3) := by decide +kernel
theorem sX8_readCopy_45 : dsOk (MN MX8_readCopy).cls (MB MX8_readCopy) 45 [(.aload_n 0, 0, 0, 0), (.aload 4, 0, 0, 0), (.aload_n 2, 0, 0, 0), (.bipush 30, 0, 0, 30)] 51 = true := by decide +kernel
theorem dX8_readCopy_51 : decode (MB MX8_readCopy) 51 = .ok (.invokevirtual 127, 3) := by decide +kernel
theorem dX8_readCopy_54 : decode (MB MX8_readCopy) 54 = .ok (.ifCond .eq 7, 3) := by decide +kernel
theorem sX8_readCopy_57 : dsOk (MN MX8_readCopy).cls (MB MX8_readCopy) 57 [(.iconst 1, 0, 0, 0)] 58 = true := by decide +kernel
theorem dX8_readCopy_58 : decode (MB MX8_readCopy) 58 = .ok (.goto 4, 3) := by decide +kernel
theorem sX8_readCopy_61 : dsOk (MN MX8_readCopy).cls (MB MX8_readCopy) 61 [(.iconst 0, 0, 0, 0)] 62 = true := by decide +kernel
theorem dX8_readCopy_62 : decode (MB MX8_readCopy) 62 = .ok (.ireturn, 1) := by decide +kernel
def MX8_readLeaves : Ms := (yX8_readLeaves, cX8_readLeaves, 5, (some .boolean), [])
set_option maxRecDepth 100000 in
theorem kX8_readLeaves : mkV MX8_readLeaves 3 := ⟨⟨List.mem_of_getElem? (i := 677) (by rfl), by decide +kernel⟩, by decide +kernel⟩
theorem sX8_readLeaves_0 : dsOk (MN MX8_readLeaves).cls (MB MX8_readLeaves) 0 [(.iconst 0, 0, 0, 0), (.istore 4, 0, 0, 0)] 3 = true := by decide +kernel
theorem sX8_readLeaves_3 : dsOk (MN MX8_readLeaves).cls (MB MX8_readLeaves) 3 [(.iload 4, 0, 0, 0), (.sipush 500, 0, 0, 500)] 8 = true := by decide +kernel
theorem dX8_readLeaves_8 : decode (MB MX8_readLeaves) 8 = .ok (.if_icmp .gt 33, 3) := by decide +kernel
theorem sX8_readLeaves_11 : dsOk (MN MX8_readLeaves).cls (MB MX8_readLeaves) 11 [(.aload_n 0, 0, 0, 0), (.getfield 14, 7, 0, 0), (.bipush (-2), 0, 0, -2)] 17 = true := by decide +kernel
theorem dX8_readLeaves_17 : decode (MB MX8_readLeaves) 17 = .ok (.invokevirtual 37, 3) := by decide +kernel
theorem dX8_readLeaves_20 : decode (MB MX8_readLeaves) 20 = .ok (.ifCond .eq 21, 3) := by decide +kernel
theorem sX8_readLeaves_23 : dsOk (MN MX8_readLeaves).cls (MB MX8_readLeaves) 23 [(.aload_n 0, 0, 0, 0), (.aload_n 1, 0, 0, 0), (.aload_n 2, 0, 0, 0), (.iload_n 3, 0, 0, 0)] 27 = true := by decide +kernel
theorem dX8_readLeaves_27 : decode (MB MX8_readLeaves) 27 = .ok (.invokevirtual 123, 3) := by decide +kernel
theorem dX8_readLeaves_30 : decode (MB MX8_readLeaves) 30 = .ok (.ifCond .ne 5, 3) := by decide +kernel
theorem sX8_readLeaves_33 : dsOk (MN MX8_readLeaves).cls (MB MX8_readLeaves) 33 [(.iconst 0, 0, 0, 0)] 34 = true := by decide +kernel
theorem dX8_readLeaves_34 : decode (MB MX8_readLeaves) 34 = .ok (.ireturn, 1) := by decide +kernel
theorem sX8_readLeaves_35 : dsOk (MN MX8_readLeaves).cls (MB MX8_readLeaves) 35 [(.iinc 4 1, 0, 0, 0)] 38 = true := by decide +kernel
theorem dX8_readLeaves_38 : decode (MB MX8_readLeaves) 38 = .ok (.goto (-35), 3) := by decide +kernel
theorem sX8_readLeaves_41 : dsOk (MN MX8_readLeaves).cls (MB MX8_readLeaves) 41 [(.iconst 1, 0, 0, 0)] 42 = true := by decide +kernel
theorem dX8_readLeaves_42 : decode (MB MX8_readLeaves) 42 = .ok (.ireturn, 1) := by decide +kernel
def MX8_readLeaf : Ms := (yX8_readLeaf, cX8_readLeaf, 5, (some .boolean), [])
set_option maxRecDepth 100000 in
theorem kX8_readLeaf : mkV MX8_readLeaf 3 := ⟨⟨List.mem_of_getElem? (i := 657) (by rfl), by decide +kernel⟩, by decide +kernel⟩
theorem sX8_readLeaf_0 : dsOk (MN MX8_readLeaf).cls (MB MX8_readLeaf) 0 [(.aload_n 0, 0, 0, 0), (.getfield 14, 7, 0, 0)] 4 = true := by decide +kernel
theorem dX8_readLeaf_4 : decode (MB MX8_readLeaf) 4 = .ok (.invokevirtual 99, 3) := by decide +kernel
theorem sX8_readLeaf_7 : dsOk (MN MX8_readLeaf).cls (MB MX8_readLeaf) 7 [(.istore 4, 0, 0, 0), (.aload_n 0, 0, 0, 0), (.getfield 14, 7, 0, 0), (.bipush (-2), 0, 0, -2)] 15 = true := by decide +kernel
theorem dX8_readLeaf_15 : decode (MB MX8_readLeaf) 15 = .ok (.invokevirtual 37, 3) := by decide +kernel
theorem dX8_readLeaf_18 : decode (MB MX8_readLeaf) 18 = .ok (.ifCond .ne 9, 3) := by decide +kernel
theorem sX8_readLeaf_21 : dsOk (MN MX8_readLeaf).cls (MB MX8_readLeaf) 21 [(.aload_n 0, 0, 0, 0), (.iconst 1, 0, 0, 0)] 23 = true := by decide +kernel
theorem dX8_readLeaf_23 : decode (MB MX8_readLeaf) 23 = .ok (.invokevirtual 49, 3) := by decide +kernel
theorem dX8_readLeaf_26 : decode (MB MX8_readLeaf) 26 = .ok (.ireturn, 1) := by decide +kernel
theorem sX8_readLeaf_27 : dsOk (MN MX8_readLeaf).cls (MB MX8_readLeaf) 27 [(.iload 4, 0, 0, 0), (.sipush 9999, 0, 0, 9999)] 32 = true := by decide +kernel
theorem dX8_readLeaf_32 : decode (MB MX8_readLeaf) 32 = .ok (.if_icmp .gt 11, 3) := by decide +kernel
theorem sX8_readLeaf_35 : dsOk (MN MX8_readLeaf).cls (MB MX8_readLeaf) 35 [(.aload_n 2, 0, 0, 0)] 36 = true := by decide +kernel
theorem dX8_readLeaf_36 : decode (MB MX8_readLeaf) 36 = .ok (.invokevirtual 137, 3) := by decide +kernel
theorem sX8_readLeaf_39 : dsOk (MN MX8_readLeaf).cls (MB MX8_readLeaf) 39 [(.iload_n 3, 0, 0, 0)] 40 = true := by decide +kernel
theorem dX8_readLeaf_40 : decode (MB MX8_readLeaf) 40 = .ok (.if_icmp .lt 9, 3) := by decide +kernel
theorem sX8_readLeaf_43 : dsOk (MN MX8_readLeaf).cls (MB MX8_readLeaf) 43 [(.aload_n 0, 0, 0, 0), (.iconst 2, 0, 0, 0)] 45 = true := by decide +kernel
theorem dX8_readLeaf_45 : decode (MB MX8_readLeaf) 45 = .ok (.invokevirtual 49, 3) := by decide +kernel
theorem dX8_readLeaf_48 : decode (MB MX8_readLeaf) 48 = .ok (.ireturn, 1) := by decide +kernel
theorem sX8_readLeaf_49 : dsOk (MN MX8_readLeaf).cls (MB MX8_readLeaf) 49 [(.aload_n 1, 0, 0, 0), (.iload 4, 0, 0, 0)] 52 = true := by decide +kernel
theorem dX8_readLeaf_52 : decode (MB MX8_readLeaf) 52 = .ok (.invokevirtual 142, 3) := by decide +kernel
theorem dX8_readLeaf_55 : decode (MB MX8_readLeaf) 55 = .ok (.ifCond .ne 9, 3) := by decide +kernel
theorem sX8_readLeaf_58 : dsOk (MN MX8_readLeaf).cls (MB MX8_readLeaf) 58 [(.aload_n 0, 0, 0, 0), (.iconst 3, 0, 0, 0)] 60 = true := by decide +kernel
theorem dX8_readLeaf_60 : decode (MB MX8_readLeaf) 60 = .ok (.invokevirtual 49, 3) := by decide +kernel
theorem dX8_readLeaf_63 : decode (MB MX8_readLeaf) 63 = .ok (.ireturn, 1) := by decide +kernel
theorem sX8_readLeaf_64 : dsOk (MN MX8_readLeaf).cls (MB MX8_readLeaf) 64 [(.aload_n 2, 0, 0, 0), (.iload 4, 0, 0, 0)] 67 = true := by decide +kernel
theorem dX8_readLeaf_67 : decode (MB MX8_readLeaf) 67 = .ok (.invokevirtual 145, 3) := by decide +kernel
theorem dX8_readLeaf_70 : decode (MB MX8_readLeaf) 70 = .ok (.ifCond .eq 9, 3) := by decide +kernel
theorem sX8_readLeaf_73 : dsOk (MN MX8_readLeaf).cls (MB MX8_readLeaf) 73 [(.aload_n 0, 0, 0, 0), (.iconst 4, 0, 0, 0)] 75 = true := by decide +kernel
theorem dX8_readLeaf_75 : decode (MB MX8_readLeaf) 75 = .ok (.invokevirtual 49, 3) := by decide +kernel
theorem dX8_readLeaf_78 : decode (MB MX8_readLeaf) 78 = .ok (.ireturn, 1) := by decide +kernel
theorem sX8_readLeaf_79 : dsOk (MN MX8_readLeaf).cls (MB MX8_readLeaf) 79 [(.aload_n 2, 0, 0, 0), (.iload 4, 0, 0, 0)] 82 = true := by decide +kernel
theorem dX8_readLeaf_82 : decode (MB MX8_readLeaf) 82 = .ok (.invokevirtual 148, 3) := by decide +kernel
theorem sX8_readLeaf_85 : dsOk (MN MX8_readLeaf).cls (MB MX8_readLeaf) 85 [(.aload_n 0, 0, 0, 0), (.getfield 14, 7, 0, 0)] 89 = true := by decide +kernel
theorem dX8_readLeaf_89 : decode (MB MX8_readLeaf) 89 = .ok (.invokevirtual 52, 3) := by decide +kernel
theorem sX8_readLeaf_92 : dsOk (MN MX8_readLeaf).cls (MB MX8_readLeaf) 92 [(.iconst 1, 0, 0, 0)] 93 = true := by decide +kernel
theorem dX8_readLeaf_93 : decode (MB MX8_readLeaf) 93 = .ok (.ireturn, 1) := by decide +kernel
def MX8_readLead : Ms := (yX8_readLead, cX8_readLead, 3, (some .boolean), [])
set_option maxRecDepth 100000 in
theorem kX8_readLead : mkV MX8_readLead 1 := ⟨⟨List.mem_of_getElem? (i := 702) (by rfl), by decide +kernel⟩, by decide +kernel⟩
theorem sX8_readLead_0 : dsOk (MN MX8_readLead).cls (MB MX8_readLead) 0 [(.aload_n 1, 0, 0, 0), (.getfield 151, 6, 6, 0)] 4 = true := by decide +kernel
theorem dX8_readLead_4 : decode (MB MX8_readLead) 4 = .ok (.ifCond .eq 9, 3) := by decide +kernel
theorem sX8_readLead_7 : dsOk (MN MX8_readLead).cls (MB MX8_readLead) 7 [(.aload_n 0, 0, 0, 0), (.iconst 5, 0, 0, 0)] 9 = true := by decide +kernel
theorem dX8_readLead_9 : decode (MB MX8_readLead) 9 = .ok (.invokevirtual 49, 3) := by decide +kernel
theorem dX8_readLead_12 : decode (MB MX8_readLead) 12 = .ok (.ireturn, 1) := by decide +kernel
theorem sX8_readLead_13 : dsOk (MN MX8_readLead).cls (MB MX8_readLead) 13 [(.aload_n 1, 0, 0, 0), (.iconst 1, 0, 0, 0), (.putfield 151, 6, 6, 0), (.aload_n 0, 0, 0, 0), (.getfield 14, 7, 0, 0)] 22 = true := by decide +kernel
theorem dX8_readLead_22 : decode (MB MX8_readLead) 22 = .ok (.invokevirtual 52, 3) := by decide +kernel
theorem sX8_readLead_25 : dsOk (MN MX8_readLead).cls (MB MX8_readLead) 25 [(.iconst 0, 0, 0, 0), (.istore_n 2, 0, 0, 0)] 27 = true := by decide +kernel
theorem sX8_readLead_27 : dsOk (MN MX8_readLead).cls (MB MX8_readLead) 27 [(.iload_n 2, 0, 0, 0), (.bipush 10, 0, 0, 10)] 30 = true := by decide +kernel
theorem dX8_readLead_30 : decode (MB MX8_readLead) 30 = .ok (.if_icmp .ge 34, 3) := by decide +kernel
theorem sX8_readLead_33 : dsOk (MN MX8_readLead).cls (MB MX8_readLead) 33 [(.aload_n 1, 0, 0, 0), (.iload_n 2, 0, 0, 0), (.aload_n 0, 0, 0, 0), (.getfield 14, 7, 0, 0)] 39 = true := by decide +kernel
theorem dX8_readLead_39 : decode (MB MX8_readLead) 39 = .ok (.invokevirtual 99, 3) := by decide +kernel
theorem dX8_readLead_42 : decode (MB MX8_readLead) 42 = .ok (.invokevirtual 155, 3) := by decide +kernel
theorem sX8_readLead_45 : dsOk (MN MX8_readLead).cls (MB MX8_readLead) 45 [(.aload_n 0, 0, 0, 0), (.iconst 0, 0, 0, 0), (.sipush 9999, 0, 0, 9999)] 50 = true := by decide +kernel
theorem dX8_readLead_50 : decode (MB MX8_readLead) 50 = .ok (.invokevirtual 105, 3) := by decide +kernel
theorem dX8_readLead_53 : decode (MB MX8_readLead) 53 = .ok (.ifCond .ne 5, 3) := by decide +kernel
theorem sX8_readLead_56 : dsOk (MN MX8_readLead).cls (MB MX8_readLead) 56 [(.iconst 0, 0, 0, 0)] 57 = true := by decide +kernel
theorem dX8_readLead_57 : decode (MB MX8_readLead) 57 = .ok (.ireturn, 1) := by decide +kernel
theorem sX8_readLead_58 : dsOk (MN MX8_readLead).cls (MB MX8_readLead) 58 [(.iinc 2 1, 0, 0, 0)] 61 = true := by decide +kernel
theorem dX8_readLead_61 : decode (MB MX8_readLead) 61 = .ok (.goto (-34), 3) := by decide +kernel
theorem sX8_readLead_64 : dsOk (MN MX8_readLead).cls (MB MX8_readLead) 64 [(.iconst 1, 0, 0, 0)] 65 = true := by decide +kernel
theorem dX8_readLead_65 : decode (MB MX8_readLead) 65 = .ok (.ireturn, 1) := by decide +kernel
def MX8_readOr : Ms := (yX8_readOr, cX8_readOr, 5, (some .boolean), [])
set_option maxRecDepth 100000 in
theorem kX8_readOr : mkV MX8_readOr 2 := ⟨⟨List.mem_of_getElem? (i := 735) (by rfl), by decide +kernel⟩, by decide +kernel⟩
theorem sX8_readOr_0 : dsOk (MN MX8_readOr).cls (MB MX8_readOr) 0 [(.iload_n 2, 0, 0, 0), (.bipush 6, 0, 0, 6)] 3 = true := by decide +kernel
theorem dX8_readOr_3 : decode (MB MX8_readOr) 3 = .ok (.if_icmp .lt 40, 3) := by decide +kernel
theorem sX8_readOr_6 : dsOk (MN MX8_readOr).cls (MB MX8_readOr) 6 [(.aload_n 0, 0, 0, 0), (.getfield 14, 7, 0, 0)] 10 = true := by decide +kernel
theorem dX8_readOr_10 : decode (MB MX8_readOr) 10 = .ok (.invokevirtual 55, 3) := by decide +kernel
theorem sX8_readOr_13 : dsOk (MN MX8_readOr).cls (MB MX8_readOr) 13 [(.istore_n 3, 0, 0, 0), (.aload_n 0, 0, 0, 0), (.iload_n 3, 0, 0, 0), (.bipush (-2), 0, 0, -2)] 18 = true := by decide +kernel
theorem dX8_readOr_18 : decode (MB MX8_readOr) 18 = .ok (.if_icmp .eq 16, 3) := by decide +kernel
theorem sX8_readOr_21 : dsOk (MN MX8_readOr).cls (MB MX8_readOr) 21 [(.iload_n 3, 0, 0, 0), (.bipush 40, 0, 0, 40)] 24 = true := by decide +kernel
theorem dX8_readOr_24 : decode (MB MX8_readOr) 24 = .ok (.if_icmp .eq 10, 3) := by decide +kernel
theorem sX8_readOr_27 : dsOk (MN MX8_readOr).cls (MB MX8_readOr) 27 [(.iload_n 3, 0, 0, 0), (.sipush 256, 0, 0, 256)] 31 = true := by decide +kernel
theorem dX8_readOr_31 : decode (MB MX8_readOr) 31 = .ok (.if_icmp .lt 7, 3) := by decide +kernel
theorem sX8_readOr_34 : dsOk (MN MX8_readOr).cls (MB MX8_readOr) 34 [(.iconst 2, 0, 0, 0)] 35 = true := by decide +kernel
theorem dX8_readOr_35 : decode (MB MX8_readOr) 35 = .ok (.goto 4, 3) := by decide +kernel
theorem sX8_readOr_38 : dsOk (MN MX8_readOr).cls (MB MX8_readOr) 38 [(.iconst 1, 0, 0, 0)] 39 = true := by decide +kernel
theorem dX8_readOr_39 : decode (MB MX8_readOr) 39 = .ok (.invokevirtual 49, 3) := by decide +kernel
theorem dX8_readOr_42 : decode (MB MX8_readOr) 42 = .ok (.ireturn, 1) := by decide +kernel
theorem sX8_readOr_43 : dsOk (MN MX8_readOr).cls (MB MX8_readOr) 43 [(.aload_n 0, 0, 0, 0), (.aload_n 1, 0, 0, 0), (.iload_n 2, 0, 0, 0)] 46 = true := by decide +kernel
theorem dX8_readOr_46 : decode (MB MX8_readOr) 46 = .ok (.invokevirtual 159, 3) := by decide +kernel
theorem sX8_readOr_49 : dsOk (MN MX8_readOr).cls (MB MX8_readOr) 49 [(.istore_n 3, 0, 0, 0), (.iconst 0, 0, 0, 0), (.istore 4, 0, 0, 0)] 53 = true := by decide +kernel
theorem sX8_readOr_53 : dsOk (MN MX8_readOr).cls (MB MX8_readOr) 53 [(.iload 4, 0, 0, 0), (.sipush 500, 0, 0, 500)] 58 = true := by decide +kernel
theorem dX8_readOr_58 : decode (MB MX8_readOr) 58 = .ok (.if_icmp .gt 46, 3) := by decide +kernel
theorem sX8_readOr_61 : dsOk (MN MX8_readOr).cls (MB MX8_readOr) 61 [(.iload_n 3, 0, 0, 0)] 62 = true := by decide +kernel
theorem dX8_readOr_62 : decode (MB MX8_readOr) 62 = .ok (.ifCond .eq 42, 3) := by decide +kernel
theorem sX8_readOr_65 : dsOk (MN MX8_readOr).cls (MB MX8_readOr) 65 [(.aload_n 0, 0, 0, 0), (.getfield 14, 7, 0, 0), (.sipush 273, 0, 0, 273)] 72 = true := by decide +kernel
theorem dX8_readOr_72 : decode (MB MX8_readOr) 72 = .ok (.invokevirtual 37, 3) := by decide +kernel
theorem dX8_readOr_75 : decode (MB MX8_readOr) 75 = .ok (.ifCond .eq 29, 3) := by decide +kernel
theorem sX8_readOr_78 : dsOk (MN MX8_readOr).cls (MB MX8_readOr) 78 [(.aload_n 0, 0, 0, 0), (.getfield 14, 7, 0, 0)] 82 = true := by decide +kernel
theorem dX8_readOr_82 : decode (MB MX8_readOr) 82 = .ok (.invokevirtual 52, 3) := by decide +kernel
theorem sX8_readOr_85 : dsOk (MN MX8_readOr).cls (MB MX8_readOr) 85 [(.aload_n 0, 0, 0, 0), (.aload_n 1, 0, 0, 0), (.iload_n 2, 0, 0, 0)] 88 = true := by decide +kernel
theorem dX8_readOr_88 : decode (MB MX8_readOr) 88 = .ok (.invokevirtual 159, 3) := by decide +kernel
theorem sX8_readOr_91 : dsOk (MN MX8_readOr).cls (MB MX8_readOr) 91 [(.istore_n 3, 0, 0, 0), (.aload_n 1, 0, 0, 0), (.bipush (-7), 0, 0, -7)] 95 = true := by decide +kernel
theorem dX8_readOr_95 : decode (MB MX8_readOr) 95 = .ok (.invokevirtual 162, 3) := by decide +kernel
theorem sX8_readOr_98 : dsOk (MN MX8_readOr).cls (MB MX8_readOr) 98 [(.iinc 4 1, 0, 0, 0)] 101 = true := by decide +kernel
theorem dX8_readOr_101 : decode (MB MX8_readOr) 101 = .ok (.goto (-48), 3) := by decide +kernel
theorem sX8_readOr_104 : dsOk (MN MX8_readOr).cls (MB MX8_readOr) 104 [(.iload_n 3, 0, 0, 0)] 105 = true := by decide +kernel
theorem dX8_readOr_105 : decode (MB MX8_readOr) 105 = .ok (.ireturn, 1) := by decide +kernel
def MX8_readAnd : Ms := (yX8_readAnd, cX8_readAnd, 5, (some .boolean), [])
set_option maxRecDepth 100000 in
theorem kX8_readAnd : mkV MX8_readAnd 2 := ⟨⟨List.mem_of_getElem? (i := 739) (by rfl), by decide +kernel⟩, by decide +kernel⟩
theorem sX8_readAnd_0 : dsOk (MN MX8_readAnd).cls (MB MX8_readAnd) 0 [(.aload_n 0, 0, 0, 0), (.aload_n 1, 0, 0, 0), (.iload_n 2, 0, 0, 0)] 3 = true := by decide +kernel
theorem dX8_readAnd_3 : decode (MB MX8_readAnd) 3 = .ok (.invokevirtual 165, 3) := by decide +kernel
theorem sX8_readAnd_6 : dsOk (MN MX8_readAnd).cls (MB MX8_readAnd) 6 [(.istore_n 3, 0, 0, 0), (.iconst 0, 0, 0, 0), (.istore 4, 0, 0, 0)] 10 = true := by decide +kernel
theorem sX8_readAnd_10 : dsOk (MN MX8_readAnd).cls (MB MX8_readAnd) 10 [(.iload 4, 0, 0, 0), (.sipush 500, 0, 0, 500)] 15 = true := by decide +kernel
theorem dX8_readAnd_15 : decode (MB MX8_readAnd) 15 = .ok (.if_icmp .gt 46, 3) := by decide +kernel
theorem sX8_readAnd_18 : dsOk (MN MX8_readAnd).cls (MB MX8_readAnd) 18 [(.iload_n 3, 0, 0, 0)] 19 = true := by decide +kernel
theorem dX8_readAnd_19 : decode (MB MX8_readAnd) 19 = .ok (.ifCond .eq 42, 3) := by decide +kernel
theorem sX8_readAnd_22 : dsOk (MN MX8_readAnd).cls (MB MX8_readAnd) 22 [(.aload_n 0, 0, 0, 0), (.getfield 14, 7, 0, 0), (.sipush 272, 0, 0, 272)] 29 = true := by decide +kernel
theorem dX8_readAnd_29 : decode (MB MX8_readAnd) 29 = .ok (.invokevirtual 37, 3) := by decide +kernel
theorem dX8_readAnd_32 : decode (MB MX8_readAnd) 32 = .ok (.ifCond .eq 29, 3) := by decide +kernel
theorem sX8_readAnd_35 : dsOk (MN MX8_readAnd).cls (MB MX8_readAnd) 35 [(.aload_n 0, 0, 0, 0), (.getfield 14, 7, 0, 0)] 39 = true := by decide +kernel
theorem dX8_readAnd_39 : decode (MB MX8_readAnd) 39 = .ok (.invokevirtual 52, 3) := by decide +kernel
theorem sX8_readAnd_42 : dsOk (MN MX8_readAnd).cls (MB MX8_readAnd) 42 [(.aload_n 0, 0, 0, 0), (.aload_n 1, 0, 0, 0), (.iload_n 2, 0, 0, 0)] 45 = true := by decide +kernel
theorem dX8_readAnd_45 : decode (MB MX8_readAnd) 45 = .ok (.invokevirtual 165, 3) := by decide +kernel
theorem sX8_readAnd_48 : dsOk (MN MX8_readAnd).cls (MB MX8_readAnd) 48 [(.istore_n 3, 0, 0, 0), (.aload_n 1, 0, 0, 0), (.bipush (-6), 0, 0, -6)] 52 = true := by decide +kernel
theorem dX8_readAnd_52 : decode (MB MX8_readAnd) 52 = .ok (.invokevirtual 162, 3) := by decide +kernel
theorem sX8_readAnd_55 : dsOk (MN MX8_readAnd).cls (MB MX8_readAnd) 55 [(.iinc 4 1, 0, 0, 0)] 58 = true := by decide +kernel
theorem dX8_readAnd_58 : decode (MB MX8_readAnd) 58 = .ok (.goto (-48), 3) := by decide +kernel
theorem sX8_readAnd_61 : dsOk (MN MX8_readAnd).cls (MB MX8_readAnd) 61 [(.iload_n 3, 0, 0, 0)] 62 = true := by decide +kernel
theorem dX8_readAnd_62 : decode (MB MX8_readAnd) 62 = .ok (.ireturn, 1) := by decide +kernel
def MX8_readNot : Ms := (yX8_readNot, cX8_readNot, 6, (some .boolean), [])
set_option maxRecDepth 100000 in
theorem kX8_readNot : mkV MX8_readNot 2 := ⟨⟨List.mem_of_getElem? (i := 743) (by rfl), by decide +kernel⟩, by decide +kernel⟩
theorem sX8_readNot_0 : dsOk (MN MX8_readNot).cls (MB MX8_readNot) 0 [(.iconst 0, 0, 0, 0), (.istore_n 3, 0, 0, 0), (.iconst 0, 0, 0, 0), (.istore 4, 0, 0, 0)] 5 = true := by decide +kernel
theorem sX8_readNot_5 : dsOk (MN MX8_readNot).cls (MB MX8_readNot) 5 [(.iload 4, 0, 0, 0), (.bipush 6, 0, 0, 6)] 9 = true := by decide +kernel
theorem dX8_readNot_9 : decode (MB MX8_readNot) 9 = .ok (.if_icmp .ge 32, 3) := by decide +kernel
theorem sX8_readNot_12 : dsOk (MN MX8_readNot).cls (MB MX8_readNot) 12 [(.aload_n 0, 0, 0, 0), (.getfield 14, 7, 0, 0), (.sipush 271, 0, 0, 271)] 19 = true := by decide +kernel
theorem dX8_readNot_19 : decode (MB MX8_readNot) 19 = .ok (.invokevirtual 37, 3) := by decide +kernel
theorem dX8_readNot_22 : decode (MB MX8_readNot) 22 = .ok (.ifCond .eq 19, 3) := by decide +kernel
theorem sX8_readNot_25 : dsOk (MN MX8_readNot).cls (MB MX8_readNot) 25 [(.iinc 3 1, 0, 0, 0), (.aload_n 0, 0, 0, 0), (.getfield 14, 7, 0, 0)] 32 = true := by decide +kernel
theorem dX8_readNot_32 : decode (MB MX8_readNot) 32 = .ok (.invokevirtual 52, 3) := by decide +kernel
theorem sX8_readNot_35 : dsOk (MN MX8_readNot).cls (MB MX8_readNot) 35 [(.iinc 4 1, 0, 0, 0)] 38 = true := by decide +kernel
theorem dX8_readNot_38 : decode (MB MX8_readNot) 38 = .ok (.goto (-33), 3) := by decide +kernel
theorem sX8_readNot_41 : dsOk (MN MX8_readNot).cls (MB MX8_readNot) 41 [(.iload_n 3, 0, 0, 0), (.bipush 6, 0, 0, 6)] 44 = true := by decide +kernel
theorem dX8_readNot_44 : decode (MB MX8_readNot) 44 = .ok (.if_icmp .ne 22, 3) := by decide +kernel
theorem sX8_readNot_47 : dsOk (MN MX8_readNot).cls (MB MX8_readNot) 47 [(.aload_n 0, 0, 0, 0), (.getfield 14, 7, 0, 0), (.sipush 271, 0, 0, 271)] 54 = true := by decide +kernel
theorem dX8_readNot_54 : decode (MB MX8_readNot) 54 = .ok (.invokevirtual 37, 3) := by decide +kernel
theorem dX8_readNot_57 : decode (MB MX8_readNot) 57 = .ok (.ifCond .eq 9, 3) := by decide +kernel
theorem sX8_readNot_60 : dsOk (MN MX8_readNot).cls (MB MX8_readNot) 60 [(.aload_n 0, 0, 0, 0), (.iconst 2, 0, 0, 0)] 62 = true := by decide +kernel
theorem dX8_readNot_62 : decode (MB MX8_readNot) 62 = .ok (.invokevirtual 49, 3) := by decide +kernel
theorem dX8_readNot_65 : decode (MB MX8_readNot) 65 = .ok (.ireturn, 1) := by decide +kernel
theorem sX8_readNot_66 : dsOk (MN MX8_readNot).cls (MB MX8_readNot) 66 [(.aload_n 0, 0, 0, 0), (.aload_n 1, 0, 0, 0), (.iload_n 2, 0, 0, 0)] 69 = true := by decide +kernel
theorem dX8_readNot_69 : decode (MB MX8_readNot) 69 = .ok (.invokevirtual 168, 3) := by decide +kernel
theorem sX8_readNot_72 : dsOk (MN MX8_readNot).cls (MB MX8_readNot) 72 [(.istore 4, 0, 0, 0), (.iconst 0, 0, 0, 0), (.istore 5, 0, 0, 0)] 77 = true := by decide +kernel
theorem sX8_readNot_77 : dsOk (MN MX8_readNot).cls (MB MX8_readNot) 77 [(.iload 5, 0, 0, 0), (.iload_n 3, 0, 0, 0)] 80 = true := by decide +kernel
theorem dX8_readNot_80 : decode (MB MX8_readNot) 80 = .ok (.if_icmp .ge 15, 3) := by decide +kernel
theorem sX8_readNot_83 : dsOk (MN MX8_readNot).cls (MB MX8_readNot) 83 [(.aload_n 1, 0, 0, 0), (.bipush (-5), 0, 0, -5)] 86 = true := by decide +kernel
theorem dX8_readNot_86 : decode (MB MX8_readNot) 86 = .ok (.invokevirtual 162, 3) := by decide +kernel
theorem sX8_readNot_89 : dsOk (MN MX8_readNot).cls (MB MX8_readNot) 89 [(.iinc 5 1, 0, 0, 0)] 92 = true := by decide +kernel
theorem dX8_readNot_92 : decode (MB MX8_readNot) 92 = .ok (.goto (-15), 3) := by decide +kernel
theorem sX8_readNot_95 : dsOk (MN MX8_readNot).cls (MB MX8_readNot) 95 [(.iload 4, 0, 0, 0)] 97 = true := by decide +kernel
theorem dX8_readNot_97 : decode (MB MX8_readNot) 97 = .ok (.ireturn, 1) := by decide +kernel
def MX8_readTest : Ms := (yX8_readTest, cX8_readTest, 5, (some .boolean), [])
set_option maxRecDepth 100000 in
theorem kX8_readTest : mkV MX8_readTest 2 := ⟨⟨List.mem_of_getElem? (i := 747) (by rfl), by decide +kernel⟩, by decide +kernel⟩
theorem sX8_readTest_0 : dsOk (MN MX8_readTest).cls (MB MX8_readTest) 0 [(.aload_n 0, 0, 0, 0), (.aload_n 1, 0, 0, 0), (.iload_n 2, 0, 0, 0)] 3 = true := by decide +kernel
theorem dX8_readTest_3 : decode (MB MX8_readTest) 3 = .ok (.invokevirtual 171, 3) := by decide +kernel
theorem sX8_readTest_6 : dsOk (MN MX8_readTest).cls (MB MX8_readTest) 6 [(.istore_n 3, 0, 0, 0), (.aload_n 0, 0, 0, 0), (.getfield 14, 7, 0, 0), (.bipush 60, 0, 0, 60)] 13 = true := by decide +kernel
theorem dX8_readTest_13 : decode (MB MX8_readTest) 13 = .ok (.invokevirtual 37, 3) := by decide +kernel
theorem sX8_readTest_16 : dsOk (MN MX8_readTest).cls (MB MX8_readTest) 16 [(.istore 4, 0, 0, 0), (.iload_n 3, 0, 0, 0)] 19 = true := by decide +kernel
theorem dX8_readTest_19 : decode (MB MX8_readTest) 19 = .ok (.ifCond .eq 50, 3) := by decide +kernel
theorem sX8_readTest_22 : dsOk (MN MX8_readTest).cls (MB MX8_readTest) 22 [(.iload 4, 0, 0, 0)] 24 = true := by decide +kernel
theorem dX8_readTest_24 : decode (MB MX8_readTest) 24 = .ok (.ifCond .ne 15, 3) := by decide +kernel
theorem sX8_readTest_27 : dsOk (MN MX8_readTest).cls (MB MX8_readTest) 27 [(.aload_n 0, 0, 0, 0), (.getfield 14, 7, 0, 0), (.bipush 61, 0, 0, 61)] 33 = true := by decide +kernel
theorem dX8_readTest_33 : decode (MB MX8_readTest) 33 = .ok (.invokevirtual 37, 3) := by decide +kernel
theorem dX8_readTest_36 : decode (MB MX8_readTest) 36 = .ok (.ifCond .eq 33, 3) := by decide +kernel
theorem sX8_readTest_39 : dsOk (MN MX8_readTest).cls (MB MX8_readTest) 39 [(.aload_n 0, 0, 0, 0), (.getfield 14, 7, 0, 0)] 43 = true := by decide +kernel
theorem dX8_readTest_43 : decode (MB MX8_readTest) 43 = .ok (.invokevirtual 52, 3) := by decide +kernel
theorem sX8_readTest_46 : dsOk (MN MX8_readTest).cls (MB MX8_readTest) 46 [(.aload_n 0, 0, 0, 0), (.aload_n 1, 0, 0, 0), (.iload_n 2, 0, 0, 0)] 49 = true := by decide +kernel
theorem dX8_readTest_49 : decode (MB MX8_readTest) 49 = .ok (.invokevirtual 171, 3) := by decide +kernel
theorem sX8_readTest_52 : dsOk (MN MX8_readTest).cls (MB MX8_readTest) 52 [(.istore_n 3, 0, 0, 0), (.aload_n 1, 0, 0, 0), (.iload 4, 0, 0, 0)] 56 = true := by decide +kernel
theorem dX8_readTest_56 : decode (MB MX8_readTest) 56 = .ok (.ifCond .eq 8, 3) := by decide +kernel
theorem sX8_readTest_59 : dsOk (MN MX8_readTest).cls (MB MX8_readTest) 59 [(.bipush (-8), 0, 0, -8)] 61 = true := by decide +kernel
theorem dX8_readTest_61 : decode (MB MX8_readTest) 61 = .ok (.goto 5, 3) := by decide +kernel
theorem sX8_readTest_64 : dsOk (MN MX8_readTest).cls (MB MX8_readTest) 64 [(.bipush (-9), 0, 0, -9)] 66 = true := by decide +kernel
theorem dX8_readTest_66 : decode (MB MX8_readTest) 66 = .ok (.invokevirtual 162, 3) := by decide +kernel
theorem sX8_readTest_69 : dsOk (MN MX8_readTest).cls (MB MX8_readTest) 69 [(.iload_n 3, 0, 0, 0)] 70 = true := by decide +kernel
theorem dX8_readTest_70 : decode (MB MX8_readTest) 70 = .ok (.ireturn, 1) := by decide +kernel
def MX8_readSum : Ms := (yX8_readSum, cX8_readSum, 6, (some .boolean), [])
set_option maxRecDepth 100000 in
theorem kX8_readSum : mkV MX8_readSum 2 := ⟨⟨List.mem_of_getElem? (i := 751) (by rfl), by decide +kernel⟩, by decide +kernel⟩
theorem sX8_readSum_0 : dsOk (MN MX8_readSum).cls (MB MX8_readSum) 0 [(.aload_n 0, 0, 0, 0), (.aload_n 1, 0, 0, 0), (.iload_n 2, 0, 0, 0)] 3 = true := by decide +kernel
theorem dX8_readSum_3 : decode (MB MX8_readSum) 3 = .ok (.invokevirtual 174, 3) := by decide +kernel
theorem sX8_readSum_6 : dsOk (MN MX8_readSum).cls (MB MX8_readSum) 6 [(.istore_n 3, 0, 0, 0), (.iconst 0, 0, 0, 0), (.istore 4, 0, 0, 0)] 10 = true := by decide +kernel
theorem sX8_readSum_10 : dsOk (MN MX8_readSum).cls (MB MX8_readSum) 10 [(.iload 4, 0, 0, 0), (.sipush 500, 0, 0, 500)] 15 = true := by decide +kernel
theorem dX8_readSum_15 : decode (MB MX8_readSum) 15 = .ok (.if_icmp .gt 78, 3) := by decide +kernel
theorem sX8_readSum_18 : dsOk (MN MX8_readSum).cls (MB MX8_readSum) 18 [(.iload_n 3, 0, 0, 0)] 19 = true := by decide +kernel
theorem dX8_readSum_19 : decode (MB MX8_readSum) 19 = .ok (.ifCond .eq 74, 3) := by decide +kernel
theorem sX8_readSum_22 : dsOk (MN MX8_readSum).cls (MB MX8_readSum) 22 [(.aload_n 0, 0, 0, 0), (.getfield 14, 7, 0, 0), (.bipush 43, 0, 0, 43)] 28 = true := by decide +kernel
theorem dX8_readSum_28 : decode (MB MX8_readSum) 28 = .ok (.invokevirtual 37, 3) := by decide +kernel
theorem dX8_readSum_31 : decode (MB MX8_readSum) 31 = .ok (.ifCond .ne 15, 3) := by decide +kernel
theorem sX8_readSum_34 : dsOk (MN MX8_readSum).cls (MB MX8_readSum) 34 [(.aload_n 0, 0, 0, 0), (.getfield 14, 7, 0, 0), (.bipush 45, 0, 0, 45)] 40 = true := by decide +kernel
theorem dX8_readSum_40 : decode (MB MX8_readSum) 40 = .ok (.invokevirtual 37, 3) := by decide +kernel
theorem dX8_readSum_43 : decode (MB MX8_readSum) 43 = .ok (.ifCond .eq 50, 3) := by decide +kernel
theorem sX8_readSum_46 : dsOk (MN MX8_readSum).cls (MB MX8_readSum) 46 [(.aload_n 0, 0, 0, 0), (.getfield 14, 7, 0, 0), (.bipush 43, 0, 0, 43)] 52 = true := by decide +kernel
theorem dX8_readSum_52 : decode (MB MX8_readSum) 52 = .ok (.invokevirtual 37, 3) := by decide +kernel
theorem dX8_readSum_55 : decode (MB MX8_readSum) 55 = .ok (.ifCond .eq 8, 3) := by decide +kernel
theorem sX8_readSum_58 : dsOk (MN MX8_readSum).cls (MB MX8_readSum) 58 [(.bipush (-10), 0, 0, -10)] 60 = true := by decide +kernel
theorem dX8_readSum_60 : decode (MB MX8_readSum) 60 = .ok (.goto 5, 3) := by decide +kernel
theorem sX8_readSum_63 : dsOk (MN MX8_readSum).cls (MB MX8_readSum) 63 [(.bipush (-11), 0, 0, -11)] 65 = true := by decide +kernel
theorem sX8_readSum_65 : dsOk (MN MX8_readSum).cls (MB MX8_readSum) 65 [(.istore 5, 0, 0, 0), (.aload_n 0, 0, 0, 0), (.getfield 14, 7, 0, 0)] 71 = true := by decide +kernel
theorem dX8_readSum_71 : decode (MB MX8_readSum) 71 = .ok (.invokevirtual 52, 3) := by decide +kernel
theorem sX8_readSum_74 : dsOk (MN MX8_readSum).cls (MB MX8_readSum) 74 [(.aload_n 0, 0, 0, 0), (.aload_n 1, 0, 0, 0), (.iload_n 2, 0, 0, 0)] 77 = true := by decide +kernel
theorem dX8_readSum_77 : decode (MB MX8_readSum) 77 = .ok (.invokevirtual 174, 3) := by decide +kernel
theorem sX8_readSum_80 : dsOk (MN MX8_readSum).cls (MB MX8_readSum) 80 [(.istore_n 3, 0, 0, 0), (.aload_n 1, 0, 0, 0), (.iload 5, 0, 0, 0)] 84 = true := by decide +kernel
theorem dX8_readSum_84 : decode (MB MX8_readSum) 84 = .ok (.invokevirtual 162, 3) := by decide +kernel
theorem sX8_readSum_87 : dsOk (MN MX8_readSum).cls (MB MX8_readSum) 87 [(.iinc 4 1, 0, 0, 0)] 90 = true := by decide +kernel
theorem dX8_readSum_90 : decode (MB MX8_readSum) 90 = .ok (.goto (-80), 3) := by decide +kernel
theorem sX8_readSum_93 : dsOk (MN MX8_readSum).cls (MB MX8_readSum) 93 [(.iload_n 3, 0, 0, 0)] 94 = true := by decide +kernel
theorem dX8_readSum_94 : decode (MB MX8_readSum) 94 = .ok (.ireturn, 1) := by decide +kernel
def MX8_readProduct : Ms := (yX8_readProduct, cX8_readProduct, 6, (some .boolean), [])
set_option maxRecDepth 100000 in
theorem kX8_readProduct : mkV MX8_readProduct 2 := ⟨⟨List.mem_of_getElem? (i := 755) (by rfl), by decide +kernel⟩, by decide +kernel⟩
theorem sX8_readProduct_0 : dsOk (MN MX8_readProduct).cls (MB MX8_readProduct) 0 [(.aload_n 0, 0, 0, 0), (.aload_n 1, 0, 0, 0), (.iload_n 2, 0, 0, 0)] 3 = true := by decide +kernel
theorem dX8_readProduct_3 : decode (MB MX8_readProduct) 3 = .ok (.invokevirtual 177, 3) := by decide +kernel
theorem sX8_readProduct_6 : dsOk (MN MX8_readProduct).cls (MB MX8_readProduct) 6 [(.istore_n 3, 0, 0, 0), (.iconst 0, 0, 0, 0), (.istore 4, 0, 0, 0)] 10 = true := by decide +kernel
theorem sX8_readProduct_10 : dsOk (MN MX8_readProduct).cls (MB MX8_readProduct) 10 [(.iload 4, 0, 0, 0), (.sipush 500, 0, 0, 500)] 15 = true := by decide +kernel
theorem dX8_readProduct_15 : decode (MB MX8_readProduct) 15 = .ok (.if_icmp .gt 78, 3) := by decide +kernel
theorem sX8_readProduct_18 : dsOk (MN MX8_readProduct).cls (MB MX8_readProduct) 18 [(.iload_n 3, 0, 0, 0)] 19 = true := by decide +kernel
theorem dX8_readProduct_19 : decode (MB MX8_readProduct) 19 = .ok (.ifCond .eq 74, 3) := by decide +kernel
theorem sX8_readProduct_22 : dsOk (MN MX8_readProduct).cls (MB MX8_readProduct) 22 [(.aload_n 0, 0, 0, 0), (.getfield 14, 7, 0, 0), (.bipush 42, 0, 0, 42)] 28 = true := by decide +kernel
theorem dX8_readProduct_28 : decode (MB MX8_readProduct) 28 = .ok (.invokevirtual 37, 3) := by decide +kernel
theorem dX8_readProduct_31 : decode (MB MX8_readProduct) 31 = .ok (.ifCond .ne 15, 3) := by decide +kernel
theorem sX8_readProduct_34 : dsOk (MN MX8_readProduct).cls (MB MX8_readProduct) 34 [(.aload_n 0, 0, 0, 0), (.getfield 14, 7, 0, 0), (.bipush 47, 0, 0, 47)] 40 = true := by decide +kernel
theorem dX8_readProduct_40 : decode (MB MX8_readProduct) 40 = .ok (.invokevirtual 37, 3) := by decide +kernel
theorem dX8_readProduct_43 : decode (MB MX8_readProduct) 43 = .ok (.ifCond .eq 50, 3) := by decide +kernel
theorem sX8_readProduct_46 : dsOk (MN MX8_readProduct).cls (MB MX8_readProduct) 46 [(.aload_n 0, 0, 0, 0), (.getfield 14, 7, 0, 0), (.bipush 42, 0, 0, 42)] 52 = true := by decide +kernel
theorem dX8_readProduct_52 : decode (MB MX8_readProduct) 52 = .ok (.invokevirtual 37, 3) := by decide +kernel
theorem dX8_readProduct_55 : decode (MB MX8_readProduct) 55 = .ok (.ifCond .eq 8, 3) := by decide +kernel
theorem sX8_readProduct_58 : dsOk (MN MX8_readProduct).cls (MB MX8_readProduct) 58 [(.bipush (-12), 0, 0, -12)] 60 = true := by decide +kernel
theorem dX8_readProduct_60 : decode (MB MX8_readProduct) 60 = .ok (.goto 5, 3) := by decide +kernel
theorem sX8_readProduct_63 : dsOk (MN MX8_readProduct).cls (MB MX8_readProduct) 63 [(.bipush (-13), 0, 0, -13)] 65 = true := by decide +kernel
theorem sX8_readProduct_65 : dsOk (MN MX8_readProduct).cls (MB MX8_readProduct) 65 [(.istore 5, 0, 0, 0), (.aload_n 0, 0, 0, 0), (.getfield 14, 7, 0, 0)] 71 = true := by decide +kernel
theorem dX8_readProduct_71 : decode (MB MX8_readProduct) 71 = .ok (.invokevirtual 52, 3) := by decide +kernel
theorem sX8_readProduct_74 : dsOk (MN MX8_readProduct).cls (MB MX8_readProduct) 74 [(.aload_n 0, 0, 0, 0), (.aload_n 1, 0, 0, 0), (.iload_n 2, 0, 0, 0)] 77 = true := by decide +kernel
theorem dX8_readProduct_77 : decode (MB MX8_readProduct) 77 = .ok (.invokevirtual 177, 3) := by decide +kernel
theorem sX8_readProduct_80 : dsOk (MN MX8_readProduct).cls (MB MX8_readProduct) 80 [(.istore_n 3, 0, 0, 0), (.aload_n 1, 0, 0, 0), (.iload 5, 0, 0, 0)] 84 = true := by decide +kernel
theorem dX8_readProduct_84 : decode (MB MX8_readProduct) 84 = .ok (.invokevirtual 162, 3) := by decide +kernel
theorem sX8_readProduct_87 : dsOk (MN MX8_readProduct).cls (MB MX8_readProduct) 87 [(.iinc 4 1, 0, 0, 0)] 90 = true := by decide +kernel
theorem dX8_readProduct_90 : decode (MB MX8_readProduct) 90 = .ok (.goto (-80), 3) := by decide +kernel
theorem sX8_readProduct_93 : dsOk (MN MX8_readProduct).cls (MB MX8_readProduct) 93 [(.iload_n 3, 0, 0, 0)] 94 = true := by decide +kernel
theorem dX8_readProduct_94 : decode (MB MX8_readProduct) 94 = .ok (.ireturn, 1) := by decide +kernel
def MX8_readPart : Ms := (yX8_readPart, cX8_readPart, 4, (some .boolean), [])
set_option maxRecDepth 100000 in
theorem kX8_readPart : mkV MX8_readPart 2 := ⟨⟨List.mem_of_getElem? (i := 759) (by rfl), by decide +kernel⟩, by decide +kernel⟩
theorem sX8_readPart_0 : dsOk (MN MX8_readPart).cls (MB MX8_readPart) 0 [(.aload_n 0, 0, 0, 0), (.getfield 14, 7, 0, 0)] 4 = true := by decide +kernel
theorem dX8_readPart_4 : decode (MB MX8_readPart) 4 = .ok (.invokevirtual 55, 3) := by decide +kernel
theorem sX8_readPart_7 : dsOk (MN MX8_readPart).cls (MB MX8_readPart) 7 [(.istore_n 3, 0, 0, 0), (.iload_n 3, 0, 0, 0), (.bipush 40, 0, 0, 40)] 11 = true := by decide +kernel
theorem dX8_readPart_11 : decode (MB MX8_readPart) 11 = .ok (.if_icmp .ne 36, 3) := by decide +kernel
theorem sX8_readPart_14 : dsOk (MN MX8_readPart).cls (MB MX8_readPart) 14 [(.aload_n 0, 0, 0, 0), (.getfield 14, 7, 0, 0)] 18 = true := by decide +kernel
theorem dX8_readPart_18 : decode (MB MX8_readPart) 18 = .ok (.invokevirtual 52, 3) := by decide +kernel
theorem sX8_readPart_21 : dsOk (MN MX8_readPart).cls (MB MX8_readPart) 21 [(.aload_n 0, 0, 0, 0), (.aload_n 1, 0, 0, 0), (.iload_n 2, 0, 0, 0), (.iconst 1, 0, 0, 0), (.iadd, 0, 0, 0)] 26 = true := by decide +kernel
theorem dX8_readPart_26 : decode (MB MX8_readPart) 26 = .ok (.invokevirtual 89, 3) := by decide +kernel
theorem dX8_readPart_29 : decode (MB MX8_readPart) 29 = .ok (.ifCond .eq 16, 3) := by decide +kernel
theorem sX8_readPart_32 : dsOk (MN MX8_readPart).cls (MB MX8_readPart) 32 [(.aload_n 0, 0, 0, 0), (.bipush 41, 0, 0, 41)] 35 = true := by decide +kernel
theorem dX8_readPart_35 : decode (MB MX8_readPart) 35 = .ok (.invokevirtual 45, 3) := by decide +kernel
theorem dX8_readPart_38 : decode (MB MX8_readPart) 38 = .ok (.ifCond .eq 7, 3) := by decide +kernel
theorem sX8_readPart_41 : dsOk (MN MX8_readPart).cls (MB MX8_readPart) 41 [(.iconst 1, 0, 0, 0)] 42 = true := by decide +kernel
theorem dX8_readPart_42 : decode (MB MX8_readPart) 42 = .ok (.goto 4, 3) := by decide +kernel
theorem sX8_readPart_45 : dsOk (MN MX8_readPart).cls (MB MX8_readPart) 45 [(.iconst 0, 0, 0, 0)] 46 = true := by decide +kernel
theorem dX8_readPart_46 : decode (MB MX8_readPart) 46 = .ok (.ireturn, 1) := by decide +kernel
theorem sX8_readPart_47 : dsOk (MN MX8_readPart).cls (MB MX8_readPart) 47 [(.iload_n 3, 0, 0, 0), (.bipush (-2), 0, 0, -2)] 50 = true := by decide +kernel
theorem dX8_readPart_50 : decode (MB MX8_readPart) 50 = .ok (.if_icmp .ne 23, 3) := by decide +kernel
theorem sX8_readPart_53 : dsOk (MN MX8_readPart).cls (MB MX8_readPart) 53 [(.aload_n 1, 0, 0, 0), (.aload_n 0, 0, 0, 0), (.getfield 14, 7, 0, 0)] 58 = true := by decide +kernel
theorem dX8_readPart_58 : decode (MB MX8_readPart) 58 = .ok (.invokevirtual 99, 3) := by decide +kernel
theorem dX8_readPart_61 : decode (MB MX8_readPart) 61 = .ok (.invokevirtual 162, 3) := by decide +kernel
theorem sX8_readPart_64 : dsOk (MN MX8_readPart).cls (MB MX8_readPart) 64 [(.aload_n 0, 0, 0, 0), (.iconst 0, 0, 0, 0), (.sipush 9999, 0, 0, 9999)] 69 = true := by decide +kernel
theorem dX8_readPart_69 : decode (MB MX8_readPart) 69 = .ok (.invokevirtual 105, 3) := by decide +kernel
theorem dX8_readPart_72 : decode (MB MX8_readPart) 72 = .ok (.ireturn, 1) := by decide +kernel
theorem sX8_readPart_73 : dsOk (MN MX8_readPart).cls (MB MX8_readPart) 73 [(.iload_n 3, 0, 0, 0), (.sipush 256, 0, 0, 256)] 77 = true := by decide +kernel
theorem dX8_readPart_77 : decode (MB MX8_readPart) 77 = .ok (.if_icmp .ge 9, 3) := by decide +kernel
theorem sX8_readPart_80 : dsOk (MN MX8_readPart).cls (MB MX8_readPart) 80 [(.aload_n 0, 0, 0, 0), (.iconst 1, 0, 0, 0)] 82 = true := by decide +kernel
theorem dX8_readPart_82 : decode (MB MX8_readPart) 82 = .ok (.invokevirtual 49, 3) := by decide +kernel
theorem dX8_readPart_85 : decode (MB MX8_readPart) 85 = .ok (.ireturn, 1) := by decide +kernel
theorem sX8_readPart_86 : dsOk (MN MX8_readPart).cls (MB MX8_readPart) 86 [(.iload_n 3, 0, 0, 0), (.sipush 267, 0, 0, 267)] 90 = true := by decide +kernel
theorem dX8_readPart_90 : decode (MB MX8_readPart) 90 = .ok (.if_icmp .lt 10, 3) := by decide +kernel
theorem sX8_readPart_93 : dsOk (MN MX8_readPart).cls (MB MX8_readPart) 93 [(.iload_n 3, 0, 0, 0), (.sipush 270, 0, 0, 270)] 97 = true := by decide +kernel
theorem dX8_readPart_97 : decode (MB MX8_readPart) 97 = .ok (.if_icmp .le 9, 3) := by decide +kernel
theorem sX8_readPart_100 : dsOk (MN MX8_readPart).cls (MB MX8_readPart) 100 [(.aload_n 0, 0, 0, 0), (.iconst 3, 0, 0, 0)] 102 = true := by decide +kernel
theorem dX8_readPart_102 : decode (MB MX8_readPart) 102 = .ok (.invokevirtual 49, 3) := by decide +kernel
theorem dX8_readPart_105 : decode (MB MX8_readPart) 105 = .ok (.ireturn, 1) := by decide +kernel
theorem sX8_readPart_106 : dsOk (MN MX8_readPart).cls (MB MX8_readPart) 106 [(.aload_n 1, 0, 0, 0), (.iconst (-1), 0, 0, 0), (.iload_n 3, 0, 0, 0), (.sipush 267, 0, 0, 267), (.isub, 0, 0, 0), (.isub, 0, 0, 0)] 114 = true := by decide +kernel
theorem dX8_readPart_114 : decode (MB MX8_readPart) 114 = .ok (.invokevirtual 162, 3) := by decide +kernel
theorem sX8_readPart_117 : dsOk (MN MX8_readPart).cls (MB MX8_readPart) 117 [(.aload_n 0, 0, 0, 0), (.getfield 14, 7, 0, 0)] 121 = true := by decide +kernel
theorem dX8_readPart_121 : decode (MB MX8_readPart) 121 = .ok (.invokevirtual 52, 3) := by decide +kernel
theorem sX8_readPart_124 : dsOk (MN MX8_readPart).cls (MB MX8_readPart) 124 [(.iconst 1, 0, 0, 0)] 125 = true := by decide +kernel
theorem dX8_readPart_125 : decode (MB MX8_readPart) 125 = .ok (.ireturn, 1) := by decide +kernel
def MX9_init : Ms := (yX9_init, cX9_init, 2, none, [])
set_option maxRecDepth 100000 in
theorem kX9_init : mkI MX9_init 1 := ⟨⟨List.mem_of_getElem? (i := 43) (by rfl), by decide +kernel⟩, by decide +kernel⟩
theorem sX9_init_0 : dsOk (MN MX9_init).cls (MB MX9_init) 0 [(.aload_n 0, 0, 0, 0)] 1 = true := by decide +kernel
theorem dX9_init_1 : decode (MB MX9_init) 1 = .ok (.invokespecial 3, 3) := by decide +kernel
theorem sX9_init_4 : dsOk (MN MX9_init).cls (MB MX9_init) 4 [(.aload_n 0, 0, 0, 0), (.sipush 501, 0, 0, 501)] 8 = true := by decide +kernel
theorem dX9_init_8 : decode (MB MX9_init) 8 = .ok (.newarray .int, 2) := by decide +kernel
theorem dX9_init_10 : decode (MB MX9_init) 10 = .ok (.putfield 9, 3) := by decide +kernel
theorem sX9_init_13 : dsOk (MN MX9_init).cls (MB MX9_init) 13 [(.aload_n 0, 0, 0, 0), (.sipush 501, 0, 0, 501)] 17 = true := by decide +kernel
theorem dX9_init_17 : decode (MB MX9_init) 17 = .ok (.newarray .int, 2) := by decide +kernel
theorem dX9_init_19 : decode (MB MX9_init) 19 = .ok (.putfield 15, 3) := by decide +kernel
theorem sX9_init_22 : dsOk (MN MX9_init).cls (MB MX9_init) 22 [(.aload_n 0, 0, 0, 0), (.sipush 501, 0, 0, 501)] 26 = true := by decide +kernel
theorem dX9_init_26 : decode (MB MX9_init) 26 = .ok (.newarray .int, 2) := by decide +kernel
theorem dX9_init_28 : decode (MB MX9_init) 28 = .ok (.putfield 18, 3) := by decide +kernel
theorem sX9_init_31 : dsOk (MN MX9_init).cls (MB MX9_init) 31 [(.aload_n 0, 0, 0, 0), (.aload_n 1, 0, 0, 0)] 33 = true := by decide +kernel
theorem dX9_init_33 : decode (MB MX9_init) 33 = .ok (.putfield 21, 3) := by decide +kernel
theorem dX9_init_36 : decode (MB MX9_init) 36 = .ok (.return_, 1) := by decide +kernel
def MX9_wordOf : Ms := (yX9_wordOf, cX9_wordOf, 1, (some (.object "java/lang/String")), [])
set_option maxRecDepth 100000 in
theorem kX9_wordOf : mkS MX9_wordOf 1 := ⟨⟨List.mem_of_getElem? (i := 538) (by rfl), by decide +kernel⟩, by decide +kernel⟩
theorem sX9_wordOf_0 : dsOk (MN MX9_wordOf).cls (MB MX9_wordOf) 0 [(.iload_n 0, 0, 0, 0)] 1 = true := by decide +kernel
theorem dX9_wordOf_1 : decode (MB MX9_wordOf) 1 = .ok (.tableswitch 134 256 272 #[83, 86, 89, 92, 95, 98, 101, 104, 107, 110, 113, 116, 119, 122, 125, 128, 131], 83) := by decide +kernel
theorem dX9_wordOf_84 : decode (MB MX9_wordOf) 84 = .ok (.ldc 24, 2) := by decide +kernel
theorem dX9_wordOf_86 : decode (MB MX9_wordOf) 86 = .ok (.areturn, 1) := by decide +kernel
theorem dX9_wordOf_87 : decode (MB MX9_wordOf) 87 = .ok (.ldc 26, 2) := by decide +kernel
theorem dX9_wordOf_89 : decode (MB MX9_wordOf) 89 = .ok (.areturn, 1) := by decide +kernel
theorem dX9_wordOf_90 : decode (MB MX9_wordOf) 90 = .ok (.ldc 28, 2) := by decide +kernel
theorem dX9_wordOf_92 : decode (MB MX9_wordOf) 92 = .ok (.areturn, 1) := by decide +kernel
theorem dX9_wordOf_93 : decode (MB MX9_wordOf) 93 = .ok (.ldc 30, 2) := by decide +kernel
theorem dX9_wordOf_95 : decode (MB MX9_wordOf) 95 = .ok (.areturn, 1) := by decide +kernel
theorem dX9_wordOf_96 : decode (MB MX9_wordOf) 96 = .ok (.ldc 32, 2) := by decide +kernel
theorem dX9_wordOf_98 : decode (MB MX9_wordOf) 98 = .ok (.areturn, 1) := by decide +kernel
theorem dX9_wordOf_99 : decode (MB MX9_wordOf) 99 = .ok (.ldc 34, 2) := by decide +kernel
theorem dX9_wordOf_101 : decode (MB MX9_wordOf) 101 = .ok (.areturn, 1) := by decide +kernel
theorem dX9_wordOf_102 : decode (MB MX9_wordOf) 102 = .ok (.ldc 36, 2) := by decide +kernel
theorem dX9_wordOf_104 : decode (MB MX9_wordOf) 104 = .ok (.areturn, 1) := by decide +kernel
theorem dX9_wordOf_105 : decode (MB MX9_wordOf) 105 = .ok (.ldc 38, 2) := by decide +kernel
theorem dX9_wordOf_107 : decode (MB MX9_wordOf) 107 = .ok (.areturn, 1) := by decide +kernel
theorem dX9_wordOf_108 : decode (MB MX9_wordOf) 108 = .ok (.ldc 40, 2) := by decide +kernel
theorem dX9_wordOf_110 : decode (MB MX9_wordOf) 110 = .ok (.areturn, 1) := by decide +kernel
theorem dX9_wordOf_111 : decode (MB MX9_wordOf) 111 = .ok (.ldc 42, 2) := by decide +kernel
theorem dX9_wordOf_113 : decode (MB MX9_wordOf) 113 = .ok (.areturn, 1) := by decide +kernel
theorem dX9_wordOf_114 : decode (MB MX9_wordOf) 114 = .ok (.ldc 44, 2) := by decide +kernel
theorem dX9_wordOf_116 : decode (MB MX9_wordOf) 116 = .ok (.areturn, 1) := by decide +kernel
theorem dX9_wordOf_117 : decode (MB MX9_wordOf) 117 = .ok (.ldc 46, 2) := by decide +kernel
theorem dX9_wordOf_119 : decode (MB MX9_wordOf) 119 = .ok (.areturn, 1) := by decide +kernel
theorem dX9_wordOf_120 : decode (MB MX9_wordOf) 120 = .ok (.ldc 48, 2) := by decide +kernel
theorem dX9_wordOf_122 : decode (MB MX9_wordOf) 122 = .ok (.areturn, 1) := by decide +kernel
theorem dX9_wordOf_123 : decode (MB MX9_wordOf) 123 = .ok (.ldc 50, 2) := by decide +kernel
theorem dX9_wordOf_125 : decode (MB MX9_wordOf) 125 = .ok (.areturn, 1) := by decide +kernel
theorem dX9_wordOf_126 : decode (MB MX9_wordOf) 126 = .ok (.ldc 52, 2) := by decide +kernel
theorem dX9_wordOf_128 : decode (MB MX9_wordOf) 128 = .ok (.areturn, 1) := by decide +kernel
theorem dX9_wordOf_129 : decode (MB MX9_wordOf) 129 = .ok (.ldc 54, 2) := by decide +kernel
theorem dX9_wordOf_131 : decode (MB MX9_wordOf) 131 = .ok (.areturn, 1) := by decide +kernel
theorem dX9_wordOf_132 : decode (MB MX9_wordOf) 132 = .ok (.ldc 56, 2) := by decide +kernel
theorem dX9_wordOf_134 : decode (MB MX9_wordOf) 134 = .ok (.areturn, 1) := by decide +kernel
theorem dX9_wordOf_135 : decode (MB MX9_wordOf) 135 = .ok (.ldc 58, 2) := by decide +kernel
theorem dX9_wordOf_137 : decode (MB MX9_wordOf) 137 = .ok (.areturn, 1) := by decide +kernel
def MX9_open : Ms := (yX9_open, cX9_open, 4, none, [])
set_option maxRecDepth 100000 in
theorem kX9_open : mkV MX9_open 1 := ⟨⟨List.mem_of_getElem? (i := 516) (by rfl), by decide +kernel⟩, by decide +kernel⟩
theorem sX9_open_0 : dsOk (MN MX9_open).cls (MB MX9_open) 0 [(.aload_n 0, 0, 0, 0), (.iload_n 1, 0, 0, 0), (.putfield 60, 8, 1, 0), (.aload_n 0, 0, 0, 0), (.iconst 0, 0, 0, 0), (.putfield 64, 8, 5, 0), (.aload_n 0, 0, 0, 0), (.iconst 0, 0, 0, 0), (.putfield 67, 8, 6, 0), (.iconst 0, 0, 0, 0), (.istore_n 2, 0, 0, 0), (.iconst 0, 0, 0, 0), (.istore_n 3, 0, 0, 0)] 19 = true := by decide +kernel
theorem sX9_open_19 : dsOk (MN MX9_open).cls (MB MX9_open) 19 [(.iload_n 3, 0, 0, 0), (.aload_n 0, 0, 0, 0), (.getfield 60, 8, 1, 0)] 24 = true := by decide +kernel
theorem dX9_open_24 : decode (MB MX9_open) 24 = .ok (.if_icmp .ge 20, 3) := by decide +kernel
theorem sX9_open_27 : dsOk (MN MX9_open).cls (MB MX9_open) 27 [(.iload_n 3, 0, 0, 0), (.iload_n 2, 0, 0, 0)] 29 = true := by decide +kernel
theorem dX9_open_29 : decode (MB MX9_open) 29 = .ok (.if_icmp .ne 9, 3) := by decide +kernel
theorem sX9_open_32 : dsOk (MN MX9_open).cls (MB MX9_open) 32 [(.aload_n 0, 0, 0, 0), (.iload_n 3, 0, 0, 0)] 34 = true := by decide +kernel
theorem dX9_open_34 : decode (MB MX9_open) 34 = .ok (.invokevirtual 70, 3) := by decide +kernel
theorem sX9_open_37 : dsOk (MN MX9_open).cls (MB MX9_open) 37 [(.istore_n 2, 0, 0, 0)] 38 = true := by decide +kernel
theorem sX9_open_38 : dsOk (MN MX9_open).cls (MB MX9_open) 38 [(.iinc 3 1, 0, 0, 0)] 41 = true := by decide +kernel
theorem dX9_open_41 : decode (MB MX9_open) 41 = .ok (.goto (-22), 3) := by decide +kernel
theorem sX9_open_44 : dsOk (MN MX9_open).cls (MB MX9_open) 44 [(.aload_n 0, 0, 0, 0), (.iconst (-1), 0, 0, 0), (.aload_n 0, 0, 0, 0), (.getfield 60, 8, 1, 0), (.iconst 0, 0, 0, 0)] 51 = true := by decide +kernel
theorem dX9_open_51 : decode (MB MX9_open) 51 = .ok (.invokevirtual 74, 3) := by decide +kernel
theorem dX9_open_54 : decode (MB MX9_open) 54 = .ok (.return_, 1) := by decide +kernel
def MX9_note : Ms := (yX9_note, cX9_note, 4, none, [])
set_option maxRecDepth 100000 in
theorem kX9_note : mkV MX9_note 3 := ⟨⟨List.mem_of_getElem? (i := 612) (by rfl), by decide +kernel⟩, by decide +kernel⟩
theorem sX9_note_0 : dsOk (MN MX9_note).cls (MB MX9_note) 0 [(.aload_n 0, 0, 0, 0), (.getfield 9, 8, 2, 0), (.aload_n 0, 0, 0, 0), (.getfield 64, 8, 5, 0), (.iload_n 1, 0, 0, 0)] 9 = true := by decide +kernel
theorem dX9_note_9 : decode (MB MX9_note) 9 = .ok (.invokestatic 78, 3) := by decide +kernel
theorem sX9_note_12 : dsOk (MN MX9_note).cls (MB MX9_note) 12 [(.aload_n 0, 0, 0, 0), (.getfield 15, 8, 3, 0), (.aload_n 0, 0, 0, 0), (.getfield 64, 8, 5, 0), (.iload_n 2, 0, 0, 0)] 21 = true := by decide +kernel
theorem dX9_note_21 : decode (MB MX9_note) 21 = .ok (.invokestatic 78, 3) := by decide +kernel
theorem sX9_note_24 : dsOk (MN MX9_note).cls (MB MX9_note) 24 [(.aload_n 0, 0, 0, 0), (.getfield 18, 8, 4, 0), (.aload_n 0, 0, 0, 0), (.getfield 64, 8, 5, 0), (.iload_n 3, 0, 0, 0)] 33 = true := by decide +kernel
theorem dX9_note_33 : decode (MB MX9_note) 33 = .ok (.invokestatic 78, 3) := by decide +kernel
theorem sX9_note_36 : dsOk (MN MX9_note).cls (MB MX9_note) 36 [(.aload_n 0, 0, 0, 0), (.dup, 0, 0, 0), (.getfield 64, 8, 5, 0), (.iconst 1, 0, 0, 0), (.iadd, 0, 0, 0), (.putfield 64, 8, 5, 0)] 46 = true := by decide +kernel
theorem dX9_note_46 : decode (MB MX9_note) 46 = .ok (.return_, 1) := by decide +kernel
def MX9_byteAt : Ms := (yX9_byteAt, cX9_byteAt, 2, (some .int), [])
set_option maxRecDepth 100000 in
theorem kX9_byteAt : mkV MX9_byteAt 1 := ⟨⟨List.mem_of_getElem? (i := 524) (by rfl), by decide +kernel⟩, by decide +kernel⟩
theorem sX9_byteAt_0 : dsOk (MN MX9_byteAt).cls (MB MX9_byteAt) 0 [(.iload_n 1, 0, 0, 0)] 1 = true := by decide +kernel
theorem dX9_byteAt_1 : decode (MB MX9_byteAt) 1 = .ok (.ifCond .lt 29, 3) := by decide +kernel
theorem sX9_byteAt_4 : dsOk (MN MX9_byteAt).cls (MB MX9_byteAt) 4 [(.iload_n 1, 0, 0, 0), (.aload_n 0, 0, 0, 0), (.getfield 60, 8, 1, 0)] 9 = true := by decide +kernel
theorem dX9_byteAt_9 : decode (MB MX9_byteAt) 9 = .ok (.if_icmp .ge 21, 3) := by decide +kernel
theorem sX9_byteAt_12 : dsOk (MN MX9_byteAt).cls (MB MX9_byteAt) 12 [(.iload_n 1, 0, 0, 0), (.aload_n 0, 0, 0, 0), (.getfield 21, 8, 0, 0), (.arraylength, 0, 0, 0)] 18 = true := by decide +kernel
theorem dX9_byteAt_18 : decode (MB MX9_byteAt) 18 = .ok (.if_icmp .ge 12, 3) := by decide +kernel
theorem sX9_byteAt_21 : dsOk (MN MX9_byteAt).cls (MB MX9_byteAt) 21 [(.aload_n 0, 0, 0, 0), (.getfield 21, 8, 0, 0), (.iload_n 1, 0, 0, 0), (.iaload, 0, 0, 0)] 27 = true := by decide +kernel
theorem dX9_byteAt_27 : decode (MB MX9_byteAt) 27 = .ok (.goto 4, 3) := by decide +kernel
theorem sX9_byteAt_30 : dsOk (MN MX9_byteAt).cls (MB MX9_byteAt) 30 [(.iconst (-1), 0, 0, 0)] 31 = true := by decide +kernel
theorem dX9_byteAt_31 : decode (MB MX9_byteAt) 31 = .ok (.ireturn, 1) := by decide +kernel
def MX9_readToken : Ms := (yX9_readToken, cX9_readToken, 4, (some .int), [])
set_option maxRecDepth 100000 in
theorem kX9_readToken : mkV MX9_readToken 1 := ⟨⟨List.mem_of_getElem? (i := 520) (by rfl), by decide +kernel⟩, by decide +kernel⟩
theorem sX9_readToken_0 : dsOk (MN MX9_readToken).cls (MB MX9_readToken) 0 [(.aload_n 0, 0, 0, 0), (.iload_n 1, 0, 0, 0)] 2 = true := by decide +kernel
theorem dX9_readToken_2 : decode (MB MX9_readToken) 2 = .ok (.invokevirtual 82, 3) := by decide +kernel
theorem sX9_readToken_5 : dsOk (MN MX9_readToken).cls (MB MX9_readToken) 5 [(.istore_n 2, 0, 0, 0), (.iload_n 2, 0, 0, 0)] 7 = true := by decide +kernel
theorem dX9_readToken_7 : decode (MB MX9_readToken) 7 = .ok (.invokestatic 85, 3) := by decide +kernel
theorem dX9_readToken_10 : decode (MB MX9_readToken) 10 = .ok (.ifCond .eq 23, 3) := by decide +kernel
theorem sX9_readToken_13 : dsOk (MN MX9_readToken).cls (MB MX9_readToken) 13 [(.aload_n 0, 0, 0, 0), (.iload_n 1, 0, 0, 0)] 15 = true := by decide +kernel
theorem dX9_readToken_15 : decode (MB MX9_readToken) 15 = .ok (.invokevirtual 89, 3) := by decide +kernel
theorem sX9_readToken_18 : dsOk (MN MX9_readToken).cls (MB MX9_readToken) 18 [(.istore_n 3, 0, 0, 0), (.aload_n 0, 0, 0, 0), (.aload_n 0, 0, 0, 0), (.iload_n 1, 0, 0, 0), (.iload_n 3, 0, 0, 0)] 23 = true := by decide +kernel
theorem dX9_readToken_23 : decode (MB MX9_readToken) 23 = .ok (.invokevirtual 92, 3) := by decide +kernel
theorem sX9_readToken_26 : dsOk (MN MX9_readToken).cls (MB MX9_readToken) 26 [(.iload_n 1, 0, 0, 0), (.iconst 0, 0, 0, 0)] 28 = true := by decide +kernel
theorem dX9_readToken_28 : decode (MB MX9_readToken) 28 = .ok (.invokevirtual 74, 3) := by decide +kernel
theorem sX9_readToken_31 : dsOk (MN MX9_readToken).cls (MB MX9_readToken) 31 [(.iload_n 3, 0, 0, 0)] 32 = true := by decide +kernel
theorem dX9_readToken_32 : decode (MB MX9_readToken) 32 = .ok (.ireturn, 1) := by decide +kernel
theorem sX9_readToken_33 : dsOk (MN MX9_readToken).cls (MB MX9_readToken) 33 [(.iload_n 2, 0, 0, 0)] 34 = true := by decide +kernel
theorem dX9_readToken_34 : decode (MB MX9_readToken) 34 = .ok (.invokestatic 96, 3) := by decide +kernel
theorem dX9_readToken_37 : decode (MB MX9_readToken) 37 = .ok (.ifCond .eq 9, 3) := by decide +kernel
theorem sX9_readToken_40 : dsOk (MN MX9_readToken).cls (MB MX9_readToken) 40 [(.aload_n 0, 0, 0, 0), (.iload_n 1, 0, 0, 0)] 42 = true := by decide +kernel
theorem dX9_readToken_42 : decode (MB MX9_readToken) 42 = .ok (.invokevirtual 99, 3) := by decide +kernel
theorem dX9_readToken_45 : decode (MB MX9_readToken) 45 = .ok (.ireturn, 1) := by decide +kernel
theorem sX9_readToken_46 : dsOk (MN MX9_readToken).cls (MB MX9_readToken) 46 [(.iload_n 2, 0, 0, 0), (.bipush 32, 0, 0, 32)] 49 = true := by decide +kernel
theorem dX9_readToken_49 : decode (MB MX9_readToken) 49 = .ok (.if_icmp .eq 16, 3) := by decide +kernel
theorem sX9_readToken_52 : dsOk (MN MX9_readToken).cls (MB MX9_readToken) 52 [(.iload_n 2, 0, 0, 0), (.bipush 10, 0, 0, 10)] 55 = true := by decide +kernel
theorem dX9_readToken_55 : decode (MB MX9_readToken) 55 = .ok (.if_icmp .eq 10, 3) := by decide +kernel
theorem sX9_readToken_58 : dsOk (MN MX9_readToken).cls (MB MX9_readToken) 58 [(.aload_n 0, 0, 0, 0), (.iload_n 2, 0, 0, 0), (.iload_n 1, 0, 0, 0), (.iconst 0, 0, 0, 0)] 62 = true := by decide +kernel
theorem dX9_readToken_62 : decode (MB MX9_readToken) 62 = .ok (.invokevirtual 74, 3) := by decide +kernel
theorem sX9_readToken_65 : dsOk (MN MX9_readToken).cls (MB MX9_readToken) 65 [(.iload_n 1, 0, 0, 0), (.iconst 1, 0, 0, 0), (.iadd, 0, 0, 0)] 68 = true := by decide +kernel
theorem dX9_readToken_68 : decode (MB MX9_readToken) 68 = .ok (.ireturn, 1) := by decide +kernel
def MX9_isLetter : Ms := (yX9_isLetter, cX9_isLetter, 1, (some .boolean), [])
set_option maxRecDepth 100000 in
theorem kX9_isLetter : mkS MX9_isLetter 1 := ⟨⟨List.mem_of_getElem? (i := 527) (by rfl), by decide +kernel⟩, by decide +kernel⟩
theorem sX9_isLetter_0 : dsOk (MN MX9_isLetter).cls (MB MX9_isLetter) 0 [(.iload_n 0, 0, 0, 0), (.bipush 97, 0, 0, 97)] 3 = true := by decide +kernel
theorem dX9_isLetter_3 : decode (MB MX9_isLetter) 3 = .ok (.if_icmp .lt 13, 3) := by decide +kernel
theorem sX9_isLetter_6 : dsOk (MN MX9_isLetter).cls (MB MX9_isLetter) 6 [(.iload_n 0, 0, 0, 0), (.bipush 122, 0, 0, 122)] 9 = true := by decide +kernel
theorem dX9_isLetter_9 : decode (MB MX9_isLetter) 9 = .ok (.if_icmp .gt 7, 3) := by decide +kernel
theorem sX9_isLetter_12 : dsOk (MN MX9_isLetter).cls (MB MX9_isLetter) 12 [(.iconst 1, 0, 0, 0)] 13 = true := by decide +kernel
theorem dX9_isLetter_13 : decode (MB MX9_isLetter) 13 = .ok (.goto 4, 3) := by decide +kernel
theorem sX9_isLetter_16 : dsOk (MN MX9_isLetter).cls (MB MX9_isLetter) 16 [(.iconst 0, 0, 0, 0)] 17 = true := by decide +kernel
theorem dX9_isLetter_17 : decode (MB MX9_isLetter) 17 = .ok (.ireturn, 1) := by decide +kernel
def MX9_isDigit : Ms := (yX9_isDigit, cX9_isDigit, 1, (some .boolean), [])
set_option maxRecDepth 100000 in
theorem kX9_isDigit : mkS MX9_isDigit 1 := ⟨⟨List.mem_of_getElem? (i := 616) (by rfl), by decide +kernel⟩, by decide +kernel⟩
theorem sX9_isDigit_0 : dsOk (MN MX9_isDigit).cls (MB MX9_isDigit) 0 [(.iload_n 0, 0, 0, 0), (.bipush 48, 0, 0, 48)] 3 = true := by decide +kernel
theorem dX9_isDigit_3 : decode (MB MX9_isDigit) 3 = .ok (.if_icmp .lt 13, 3) := by decide +kernel
theorem sX9_isDigit_6 : dsOk (MN MX9_isDigit).cls (MB MX9_isDigit) 6 [(.iload_n 0, 0, 0, 0), (.bipush 57, 0, 0, 57)] 9 = true := by decide +kernel
theorem dX9_isDigit_9 : decode (MB MX9_isDigit) 9 = .ok (.if_icmp .gt 7, 3) := by decide +kernel
theorem sX9_isDigit_12 : dsOk (MN MX9_isDigit).cls (MB MX9_isDigit) 12 [(.iconst 1, 0, 0, 0)] 13 = true := by decide +kernel
theorem dX9_isDigit_13 : decode (MB MX9_isDigit) 13 = .ok (.goto 4, 3) := by decide +kernel
theorem sX9_isDigit_16 : dsOk (MN MX9_isDigit).cls (MB MX9_isDigit) 16 [(.iconst 0, 0, 0, 0)] 17 = true := by decide +kernel
theorem dX9_isDigit_17 : decode (MB MX9_isDigit) 17 = .ok (.ireturn, 1) := by decide +kernel
def MX9_endOfWord : Ms := (yX9_endOfWord, cX9_endOfWord, 3, (some .int), [])
set_option maxRecDepth 100000 in
theorem kX9_endOfWord : mkV MX9_endOfWord 1 := ⟨⟨List.mem_of_getElem? (i := 531) (by rfl), by decide +kernel⟩, by decide +kernel⟩
theorem sX9_endOfWord_0 : dsOk (MN MX9_endOfWord).cls (MB MX9_endOfWord) 0 [(.iload_n 1, 0, 0, 0), (.istore_n 2, 0, 0, 0)] 2 = true := by decide +kernel
theorem sX9_endOfWord_2 : dsOk (MN MX9_endOfWord).cls (MB MX9_endOfWord) 2 [(.iload_n 2, 0, 0, 0), (.aload_n 0, 0, 0, 0), (.getfield 60, 8, 1, 0)] 7 = true := by decide +kernel
theorem dX9_endOfWord_7 : decode (MB MX9_endOfWord) 7 = .ok (.if_icmp .ge 22, 3) := by decide +kernel
theorem sX9_endOfWord_10 : dsOk (MN MX9_endOfWord).cls (MB MX9_endOfWord) 10 [(.aload_n 0, 0, 0, 0), (.iload_n 2, 0, 0, 0)] 12 = true := by decide +kernel
theorem dX9_endOfWord_12 : decode (MB MX9_endOfWord) 12 = .ok (.invokevirtual 82, 3) := by decide +kernel
theorem dX9_endOfWord_15 : decode (MB MX9_endOfWord) 15 = .ok (.invokestatic 85, 3) := by decide +kernel
theorem dX9_endOfWord_18 : decode (MB MX9_endOfWord) 18 = .ok (.ifCond .ne 5, 3) := by decide +kernel
theorem sX9_endOfWord_21 : dsOk (MN MX9_endOfWord).cls (MB MX9_endOfWord) 21 [(.iload_n 2, 0, 0, 0)] 22 = true := by decide +kernel
theorem dX9_endOfWord_22 : decode (MB MX9_endOfWord) 22 = .ok (.ireturn, 1) := by decide +kernel
theorem sX9_endOfWord_23 : dsOk (MN MX9_endOfWord).cls (MB MX9_endOfWord) 23 [(.iinc 2 1, 0, 0, 0)] 26 = true := by decide +kernel
theorem dX9_endOfWord_26 : decode (MB MX9_endOfWord) 26 = .ok (.goto (-24), 3) := by decide +kernel
theorem sX9_endOfWord_29 : dsOk (MN MX9_endOfWord).cls (MB MX9_endOfWord) 29 [(.aload_n 0, 0, 0, 0), (.getfield 60, 8, 1, 0)] 33 = true := by decide +kernel
theorem dX9_endOfWord_33 : decode (MB MX9_endOfWord) 33 = .ok (.ireturn, 1) := by decide +kernel
def MX9_whatWord : Ms := (yX9_whatWord, cX9_whatWord, 4, (some .int), [])
set_option maxRecDepth 100000 in
theorem kX9_whatWord : mkV MX9_whatWord 2 := ⟨⟨List.mem_of_getElem? (i := 535) (by rfl), by decide +kernel⟩, by decide +kernel⟩
theorem sX9_whatWord_0 : dsOk (MN MX9_whatWord).cls (MB MX9_whatWord) 0 [(.sipush 256, 0, 0, 256), (.istore_n 3, 0, 0, 0)] 4 = true := by decide +kernel
theorem sX9_whatWord_4 : dsOk (MN MX9_whatWord).cls (MB MX9_whatWord) 4 [(.iload_n 3, 0, 0, 0), (.sipush 274, 0, 0, 274)] 8 = true := by decide +kernel
theorem dX9_whatWord_8 : decode (MB MX9_whatWord) 8 = .ok (.if_icmp .ge 24, 3) := by decide +kernel
theorem sX9_whatWord_11 : dsOk (MN MX9_whatWord).cls (MB MX9_whatWord) 11 [(.aload_n 0, 0, 0, 0), (.iload_n 3, 0, 0, 0)] 13 = true := by decide +kernel
theorem dX9_whatWord_13 : decode (MB MX9_whatWord) 13 = .ok (.invokestatic 102, 3) := by decide +kernel
theorem sX9_whatWord_16 : dsOk (MN MX9_whatWord).cls (MB MX9_whatWord) 16 [(.iload_n 1, 0, 0, 0), (.iload_n 2, 0, 0, 0)] 18 = true := by decide +kernel
theorem dX9_whatWord_18 : decode (MB MX9_whatWord) 18 = .ok (.invokevirtual 106, 3) := by decide +kernel
theorem dX9_whatWord_21 : decode (MB MX9_whatWord) 21 = .ok (.ifCond .eq 5, 3) := by decide +kernel
theorem sX9_whatWord_24 : dsOk (MN MX9_whatWord).cls (MB MX9_whatWord) 24 [(.iload_n 3, 0, 0, 0)] 25 = true := by decide +kernel
theorem dX9_whatWord_25 : decode (MB MX9_whatWord) 25 = .ok (.ireturn, 1) := by decide +kernel
theorem sX9_whatWord_26 : dsOk (MN MX9_whatWord).cls (MB MX9_whatWord) 26 [(.iinc 3 1, 0, 0, 0)] 29 = true := by decide +kernel
theorem dX9_whatWord_29 : decode (MB MX9_whatWord) 29 = .ok (.goto (-25), 3) := by decide +kernel
theorem sX9_whatWord_32 : dsOk (MN MX9_whatWord).cls (MB MX9_whatWord) 32 [(.sipush 274, 0, 0, 274)] 35 = true := by decide +kernel
theorem dX9_whatWord_35 : decode (MB MX9_whatWord) 35 = .ok (.ireturn, 1) := by decide +kernel
def MX9_isWord : Ms := (yX9_isWord, cX9_isWord, 5, (some .boolean), [])
set_option maxRecDepth 100000 in
theorem kX9_isWord : mkV MX9_isWord 3 := ⟨⟨List.mem_of_getElem? (i := 560) (by rfl), by decide +kernel⟩, by decide +kernel⟩
theorem sX9_isWord_0 : dsOk (MN MX9_isWord).cls (MB MX9_isWord) 0 [(.iload_n 3, 0, 0, 0), (.iload_n 2, 0, 0, 0), (.isub, 0, 0, 0), (.aload_n 1, 0, 0, 0)] 4 = true := by decide +kernel
theorem dX9_isWord_4 : decode (MB MX9_isWord) 4 = .ok (.invokevirtual 110, 3) := by decide +kernel
theorem dX9_isWord_7 : decode (MB MX9_isWord) 7 = .ok (.if_icmp .eq 5, 3) := by decide +kernel
theorem sX9_isWord_10 : dsOk (MN MX9_isWord).cls (MB MX9_isWord) 10 [(.iconst 0, 0, 0, 0)] 11 = true := by decide +kernel
theorem dX9_isWord_11 : decode (MB MX9_isWord) 11 = .ok (.ireturn, 1) := by decide +kernel
theorem sX9_isWord_12 : dsOk (MN MX9_isWord).cls (MB MX9_isWord) 12 [(.iconst 0, 0, 0, 0), (.istore 4, 0, 0, 0)] 15 = true := by decide +kernel
theorem sX9_isWord_15 : dsOk (MN MX9_isWord).cls (MB MX9_isWord) 15 [(.iload 4, 0, 0, 0), (.aload_n 1, 0, 0, 0)] 18 = true := by decide +kernel
theorem dX9_isWord_18 : decode (MB MX9_isWord) 18 = .ok (.invokevirtual 110, 3) := by decide +kernel
theorem dX9_isWord_21 : decode (MB MX9_isWord) 21 = .ok (.if_icmp .ge 28, 3) := by decide +kernel
theorem sX9_isWord_24 : dsOk (MN MX9_isWord).cls (MB MX9_isWord) 24 [(.aload_n 0, 0, 0, 0), (.iload_n 2, 0, 0, 0), (.iload 4, 0, 0, 0), (.iadd, 0, 0, 0)] 29 = true := by decide +kernel
theorem dX9_isWord_29 : decode (MB MX9_isWord) 29 = .ok (.invokevirtual 82, 3) := by decide +kernel
theorem sX9_isWord_32 : dsOk (MN MX9_isWord).cls (MB MX9_isWord) 32 [(.aload_n 1, 0, 0, 0), (.iload 4, 0, 0, 0)] 35 = true := by decide +kernel
theorem dX9_isWord_35 : decode (MB MX9_isWord) 35 = .ok (.invokevirtual 115, 3) := by decide +kernel
theorem dX9_isWord_38 : decode (MB MX9_isWord) 38 = .ok (.if_icmp .eq 5, 3) := by decide +kernel
theorem sX9_isWord_41 : dsOk (MN MX9_isWord).cls (MB MX9_isWord) 41 [(.iconst 0, 0, 0, 0)] 42 = true := by decide +kernel
theorem dX9_isWord_42 : decode (MB MX9_isWord) 42 = .ok (.ireturn, 1) := by decide +kernel
theorem sX9_isWord_43 : dsOk (MN MX9_isWord).cls (MB MX9_isWord) 43 [(.iinc 4 1, 0, 0, 0)] 46 = true := by decide +kernel
theorem dX9_isWord_46 : decode (MB MX9_isWord) 46 = .ok (.goto (-31), 3) := by decide +kernel
theorem sX9_isWord_49 : dsOk (MN MX9_isWord).cls (MB MX9_isWord) 49 [(.iconst 1, 0, 0, 0)] 50 = true := by decide +kernel
theorem dX9_isWord_50 : decode (MB MX9_isWord) 50 = .ok (.ireturn, 1) := by decide +kernel
def MX9_readNumber : Ms := (yX9_readNumber, cX9_readNumber, 5, (some .int), [])
set_option maxRecDepth 100000 in
theorem kX9_readNumber : mkV MX9_readNumber 1 := ⟨⟨List.mem_of_getElem? (i := 620) (by rfl), by decide +kernel⟩, by decide +kernel⟩
theorem sX9_readNumber_0 : dsOk (MN MX9_readNumber).cls (MB MX9_readNumber) 0 [(.iload_n 1, 0, 0, 0), (.istore_n 2, 0, 0, 0), (.iconst 0, 0, 0, 0), (.istore_n 3, 0, 0, 0), (.iload_n 1, 0, 0, 0), (.istore 4, 0, 0, 0)] 7 = true := by decide +kernel
theorem sX9_readNumber_7 : dsOk (MN MX9_readNumber).cls (MB MX9_readNumber) 7 [(.iload 4, 0, 0, 0), (.aload_n 0, 0, 0, 0), (.getfield 60, 8, 1, 0)] 13 = true := by decide +kernel
theorem dX9_readNumber_13 : decode (MB MX9_readNumber) 13 = .ok (.if_icmp .ge 55, 3) := by decide +kernel
theorem sX9_readNumber_16 : dsOk (MN MX9_readNumber).cls (MB MX9_readNumber) 16 [(.aload_n 0, 0, 0, 0), (.iload 4, 0, 0, 0)] 19 = true := by decide +kernel
theorem dX9_readNumber_19 : decode (MB MX9_readNumber) 19 = .ok (.invokevirtual 82, 3) := by decide +kernel
theorem dX9_readNumber_22 : decode (MB MX9_readNumber) 22 = .ok (.invokestatic 96, 3) := by decide +kernel
theorem dX9_readNumber_25 : decode (MB MX9_readNumber) 25 = .ok (.ifCond .eq 43, 3) := by decide +kernel
theorem sX9_readNumber_28 : dsOk (MN MX9_readNumber).cls (MB MX9_readNumber) 28 [(.iload 4, 0, 0, 0), (.iload_n 1, 0, 0, 0), (.isub, 0, 0, 0), (.iconst 4, 0, 0, 0)] 33 = true := by decide +kernel
theorem dX9_readNumber_33 : decode (MB MX9_readNumber) 33 = .ok (.if_icmp .lt 9, 3) := by decide +kernel
theorem sX9_readNumber_36 : dsOk (MN MX9_readNumber).cls (MB MX9_readNumber) 36 [(.sipush 10000, 0, 0, 10000)] 39 = true := by decide +kernel
theorem dX9_readNumber_39 : decode (MB MX9_readNumber) 39 = .ok (.goto 17, 3) := by decide +kernel
theorem sX9_readNumber_42 : dsOk (MN MX9_readNumber).cls (MB MX9_readNumber) 42 [(.bipush 10, 0, 0, 10), (.iload_n 3, 0, 0, 0), (.imul, 0, 0, 0), (.aload_n 0, 0, 0, 0), (.iload 4, 0, 0, 0)] 49 = true := by decide +kernel
theorem dX9_readNumber_49 : decode (MB MX9_readNumber) 49 = .ok (.invokevirtual 82, 3) := by decide +kernel
theorem sX9_readNumber_52 : dsOk (MN MX9_readNumber).cls (MB MX9_readNumber) 52 [(.iadd, 0, 0, 0), (.bipush 48, 0, 0, 48), (.isub, 0, 0, 0)] 56 = true := by decide +kernel
theorem sX9_readNumber_56 : dsOk (MN MX9_readNumber).cls (MB MX9_readNumber) 56 [(.istore_n 3, 0, 0, 0), (.iload 4, 0, 0, 0), (.iconst 1, 0, 0, 0), (.iadd, 0, 0, 0), (.istore_n 2, 0, 0, 0), (.iinc 4 1, 0, 0, 0)] 65 = true := by decide +kernel
theorem dX9_readNumber_65 : decode (MB MX9_readNumber) 65 = .ok (.goto (-58), 3) := by decide +kernel
theorem sX9_readNumber_68 : dsOk (MN MX9_readNumber).cls (MB MX9_readNumber) 68 [(.aload_n 0, 0, 0, 0), (.bipush (-2), 0, 0, -2), (.iload_n 1, 0, 0, 0), (.iload_n 3, 0, 0, 0)] 73 = true := by decide +kernel
theorem dX9_readNumber_73 : decode (MB MX9_readNumber) 73 = .ok (.invokevirtual 74, 3) := by decide +kernel
theorem sX9_readNumber_76 : dsOk (MN MX9_readNumber).cls (MB MX9_readNumber) 76 [(.iload_n 2, 0, 0, 0)] 77 = true := by decide +kernel
theorem dX9_readNumber_77 : decode (MB MX9_readNumber) 77 = .ok (.ireturn, 1) := by decide +kernel
def MX9_advance : Ms := (yX9_advance, cX9_advance, 1, none, [])
set_option maxRecDepth 100000 in
theorem kX9_advance : mkV MX9_advance 0 := ⟨⟨List.mem_of_getElem? (i := 640) (by rfl), by decide +kernel⟩, by decide +kernel⟩
theorem sX9_advance_0 : dsOk (MN MX9_advance).cls (MB MX9_advance) 0 [(.aload_n 0, 0, 0, 0), (.dup, 0, 0, 0), (.getfield 67, 8, 6, 0), (.iconst 1, 0, 0, 0), (.iadd, 0, 0, 0), (.putfield 67, 8, 6, 0)] 10 = true := by decide +kernel
theorem dX9_advance_10 : decode (MB MX9_advance) 10 = .ok (.return_, 1) := by decide +kernel
def MX9_what : Ms := (yX9_what, cX9_what, 1, (some .int), [])
set_option maxRecDepth 100000 in
theorem kX9_what : mkV MX9_what 0 := ⟨⟨List.mem_of_getElem? (i := 632) (by rfl), by decide +kernel⟩, by decide +kernel⟩
theorem sX9_what_0 : dsOk (MN MX9_what).cls (MB MX9_what) 0 [(.aload_n 0, 0, 0, 0), (.getfield 67, 8, 6, 0)] 4 = true := by decide +kernel
theorem dX9_what_4 : decode (MB MX9_what) 4 = .ok (.ifCond .lt 27, 3) := by decide +kernel
theorem sX9_what_7 : dsOk (MN MX9_what).cls (MB MX9_what) 7 [(.aload_n 0, 0, 0, 0), (.getfield 67, 8, 6, 0), (.aload_n 0, 0, 0, 0), (.getfield 9, 8, 2, 0), (.arraylength, 0, 0, 0)] 16 = true := by decide +kernel
theorem dX9_what_16 : decode (MB MX9_what) 16 = .ok (.if_icmp .ge 15, 3) := by decide +kernel
theorem sX9_what_19 : dsOk (MN MX9_what).cls (MB MX9_what) 19 [(.aload_n 0, 0, 0, 0), (.getfield 9, 8, 2, 0), (.aload_n 0, 0, 0, 0), (.getfield 67, 8, 6, 0), (.iaload, 0, 0, 0)] 28 = true := by decide +kernel
theorem dX9_what_28 : decode (MB MX9_what) 28 = .ok (.goto 4, 3) := by decide +kernel
theorem sX9_what_31 : dsOk (MN MX9_what).cls (MB MX9_what) 31 [(.iconst (-1), 0, 0, 0)] 32 = true := by decide +kernel
theorem dX9_what_32 : decode (MB MX9_what) 32 = .ok (.ireturn, 1) := by decide +kernel
def MX9_is : Ms := (yX9_is, cX9_is, 2, (some .boolean), [])
set_option maxRecDepth 100000 in
theorem kX9_is : mkV MX9_is 1 := ⟨⟨List.mem_of_getElem? (i := 624) (by rfl), by decide +kernel⟩, by decide +kernel⟩
theorem sX9_is_0 : dsOk (MN MX9_is).cls (MB MX9_is) 0 [(.aload_n 0, 0, 0, 0), (.getfield 67, 8, 6, 0)] 4 = true := by decide +kernel
theorem dX9_is_4 : decode (MB MX9_is) 4 = .ok (.ifCond .lt 32, 3) := by decide +kernel
theorem sX9_is_7 : dsOk (MN MX9_is).cls (MB MX9_is) 7 [(.aload_n 0, 0, 0, 0), (.getfield 67, 8, 6, 0), (.aload_n 0, 0, 0, 0), (.getfield 9, 8, 2, 0), (.arraylength, 0, 0, 0)] 16 = true := by decide +kernel
theorem dX9_is_16 : decode (MB MX9_is) 16 = .ok (.if_icmp .ge 20, 3) := by decide +kernel
theorem sX9_is_19 : dsOk (MN MX9_is).cls (MB MX9_is) 19 [(.aload_n 0, 0, 0, 0), (.getfield 9, 8, 2, 0), (.aload_n 0, 0, 0, 0), (.getfield 67, 8, 6, 0), (.iaload, 0, 0, 0), (.iload_n 1, 0, 0, 0)] 29 = true := by decide +kernel
theorem dX9_is_29 : decode (MB MX9_is) 29 = .ok (.if_icmp .ne 7, 3) := by decide +kernel
theorem sX9_is_32 : dsOk (MN MX9_is).cls (MB MX9_is) 32 [(.iconst 1, 0, 0, 0)] 33 = true := by decide +kernel
theorem dX9_is_33 : decode (MB MX9_is) 33 = .ok (.goto 4, 3) := by decide +kernel
theorem sX9_is_36 : dsOk (MN MX9_is).cls (MB MX9_is) 36 [(.iconst 0, 0, 0, 0)] 37 = true := by decide +kernel
theorem dX9_is_37 : decode (MB MX9_is) 37 = .ok (.ireturn, 1) := by decide +kernel
def MX9_place : Ms := (yX9_place, cX9_place, 1, (some .int), [])
set_option maxRecDepth 100000 in
theorem kX9_place : mkV MX9_place 0 := ⟨⟨List.mem_of_getElem? (i := 775) (by rfl), by decide +kernel⟩, by decide +kernel⟩
theorem sX9_place_0 : dsOk (MN MX9_place).cls (MB MX9_place) 0 [(.aload_n 0, 0, 0, 0), (.getfield 15, 8, 3, 0), (.aload_n 0, 0, 0, 0), (.getfield 67, 8, 6, 0)] 8 = true := by decide +kernel
theorem dX9_place_8 : decode (MB MX9_place) 8 = .ok (.invokestatic 119, 3) := by decide +kernel
theorem dX9_place_11 : decode (MB MX9_place) 11 = .ok (.ireturn, 1) := by decide +kernel
def MX9_numberTold : Ms := (yX9_numberTold, cX9_numberTold, 1, (some .int), [])
set_option maxRecDepth 100000 in
theorem kX9_numberTold : mkV MX9_numberTold 0 := ⟨⟨List.mem_of_getElem? (i := 648) (by rfl), by decide +kernel⟩, by decide +kernel⟩
theorem sX9_numberTold_0 : dsOk (MN MX9_numberTold).cls (MB MX9_numberTold) 0 [(.aload_n 0, 0, 0, 0), (.getfield 67, 8, 6, 0)] 4 = true := by decide +kernel
theorem dX9_numberTold_4 : decode (MB MX9_numberTold) 4 = .ok (.ifCond .lt 27, 3) := by decide +kernel
theorem sX9_numberTold_7 : dsOk (MN MX9_numberTold).cls (MB MX9_numberTold) 7 [(.aload_n 0, 0, 0, 0), (.getfield 67, 8, 6, 0), (.aload_n 0, 0, 0, 0), (.getfield 18, 8, 4, 0), (.arraylength, 0, 0, 0)] 16 = true := by decide +kernel
theorem dX9_numberTold_16 : decode (MB MX9_numberTold) 16 = .ok (.if_icmp .ge 15, 3) := by decide +kernel
theorem sX9_numberTold_19 : dsOk (MN MX9_numberTold).cls (MB MX9_numberTold) 19 [(.aload_n 0, 0, 0, 0), (.getfield 18, 8, 4, 0), (.aload_n 0, 0, 0, 0), (.getfield 67, 8, 6, 0), (.iaload, 0, 0, 0)] 28 = true := by decide +kernel
theorem dX9_numberTold_28 : decode (MB MX9_numberTold) 28 = .ok (.goto 4, 3) := by decide +kernel
theorem sX9_numberTold_31 : dsOk (MN MX9_numberTold).cls (MB MX9_numberTold) 31 [(.iconst 0, 0, 0, 0)] 32 = true := by decide +kernel
theorem dX9_numberTold_32 : decode (MB MX9_numberTold) 32 = .ok (.ireturn, 1) := by decide +kernel
def MX10_init : Ms := (yX10_init, cX10_init, 1, none, [])
set_option maxRecDepth 100000 in
theorem kX10_init : mkI MX10_init 0 := ⟨⟨List.mem_of_getElem? (i := 249) (by rfl), by decide +kernel⟩, by decide +kernel⟩
theorem sX10_init_0 : dsOk (MN MX10_init).cls (MB MX10_init) 0 [(.aload_n 0, 0, 0, 0)] 1 = true := by decide +kernel
theorem dX10_init_1 : decode (MB MX10_init) 1 = .ok (.invokespecial 3, 3) := by decide +kernel
theorem sX10_init_4 : dsOk (MN MX10_init).cls (MB MX10_init) 4 [(.aload_n 0, 0, 0, 0), (.sipush 451, 0, 0, 451)] 8 = true := by decide +kernel
theorem dX10_init_8 : decode (MB MX10_init) 8 = .ok (.newarray .long, 2) := by decide +kernel
theorem dX10_init_10 : decode (MB MX10_init) 10 = .ok (.putfield 9, 3) := by decide +kernel
theorem dX10_init_13 : decode (MB MX10_init) 13 = .ok (.return_, 1) := by decide +kernel
def MX10_largest : Ms := (yX10_largest, cX10_largest, 12, (some .long), [])
set_option maxRecDepth 100000 in
theorem kX10_largest : mkS MX10_largest 4 := ⟨⟨List.mem_of_getElem? (i := 1021) (by rfl), by decide +kernel⟩, by decide +kernel⟩
theorem sX10_largest_0 : dsOk (MN MX10_largest).cls (MB MX10_largest) 0 [(.lconst 0, 0, 0, 0), (.lstore 5, 0, 0, 0), (.ldc2_w 15, 0, 0, 2000000000), (.lstore 7, 0, 0, 0), (.iconst 0, 0, 0, 0), (.istore 9, 0, 0, 0)] 11 = true := by decide +kernel
theorem sX10_largest_11 : dsOk (MN MX10_largest).cls (MB MX10_largest) 11 [(.iload 9, 0, 0, 0), (.bipush 40, 0, 0, 40)] 15 = true := by decide +kernel
theorem dX10_largest_15 : decode (MB MX10_largest) 15 = .ok (.if_icmp .ge 60, 3) := by decide +kernel
theorem sX10_largest_18 : dsOk (MN MX10_largest).cls (MB MX10_largest) 18 [(.lload 7, 0, 0, 0), (.lload 5, 0, 0, 0), (.lsub, 0, 0, 0), (.lconst 1, 0, 0, 1), (.lcmp, 0, 0, 0)] 25 = true := by decide +kernel
theorem dX10_largest_25 : decode (MB MX10_largest) 25 = .ok (.ifCond .le 50, 3) := by decide +kernel
theorem sX10_largest_28 : dsOk (MN MX10_largest).cls (MB MX10_largest) 28 [(.lload 5, 0, 0, 0), (.lload 7, 0, 0, 0), (.ladd, 0, 0, 0), (.ldc2_w 17, 0, 0, 2), (.ldiv, 0, 0, 0), (.lstore 10, 0, 0, 0), (.iload_n 0, 0, 0, 0), (.i2l, 0, 0, 0), (.lload 10, 0, 0, 0), (.lmul, 0, 0, 0), (.iload_n 1, 0, 0, 0), (.i2l, 0, 0, 0), (.ladd, 0, 0, 0), (.lload 10, 0, 0, 0), (.lmul, 0, 0, 0), (.iload_n 2, 0, 0, 0), (.i2l, 0, 0, 0), (.ladd, 0, 0, 0), (.lload_n 3, 0, 0, 0), (.lcmp, 0, 0, 0)] 55 = true := by decide +kernel
theorem dX10_largest_55 : decode (MB MX10_largest) 55 = .ok (.ifCond .gt 10, 3) := by decide +kernel
theorem sX10_largest_58 : dsOk (MN MX10_largest).cls (MB MX10_largest) 58 [(.lload 10, 0, 0, 0), (.lstore 5, 0, 0, 0)] 62 = true := by decide +kernel
theorem dX10_largest_62 : decode (MB MX10_largest) 62 = .ok (.goto 7, 3) := by decide +kernel
theorem sX10_largest_65 : dsOk (MN MX10_largest).cls (MB MX10_largest) 65 [(.lload 10, 0, 0, 0), (.lstore 7, 0, 0, 0)] 69 = true := by decide +kernel
theorem sX10_largest_69 : dsOk (MN MX10_largest).cls (MB MX10_largest) 69 [(.iinc 9 1, 0, 0, 0)] 72 = true := by decide +kernel
theorem dX10_largest_72 : decode (MB MX10_largest) 72 = .ok (.goto (-61), 3) := by decide +kernel
theorem sX10_largest_75 : dsOk (MN MX10_largest).cls (MB MX10_largest) 75 [(.lload 5, 0, 0, 0)] 77 = true := by decide +kernel
theorem dX10_largest_77 : decode (MB MX10_largest) 77 = .ok (.lreturn, 1) := by decide +kernel
def MX10_leafTotal : Ms := (yX10_leafTotal, cX10_leafTotal, 7, (some .long), [])
set_option maxRecDepth 100000 in
theorem kX10_leafTotal : mkS MX10_leafTotal 3 := ⟨⟨List.mem_of_getElem? (i := 1072) (by rfl), by decide +kernel⟩, by decide +kernel⟩
theorem sX10_leafTotal_0 : dsOk (MN MX10_leafTotal).cls (MB MX10_leafTotal) 0 [(.lload_n 3, 0, 0, 0), (.ldc2_w 17, 0, 0, 2), (.lload_n 3, 0, 0, 0), (.lmul, 0, 0, 0), (.lconst 1, 0, 0, 1), (.ladd, 0, 0, 0), (.lmul, 0, 0, 0), (.lload_n 0, 0, 0, 0), (.lsub, 0, 0, 0), (.ldc2_w 19, 0, 0, 3), (.iload_n 2, 0, 0, 0), (.i2l, 0, 0, 0), (.lmul, 0, 0, 0), (.lsub, 0, 0, 0), (.lstore 5, 0, 0, 0), (.lload 5, 0, 0, 0), (.lconst 0, 0, 0, 0), (.lcmp, 0, 0, 0)] 24 = true := by decide +kernel
theorem dX10_leafTotal_24 : decode (MB MX10_leafTotal) 24 = .ok (.ifCond .lt 23, 3) := by decide +kernel
theorem sX10_leafTotal_27 : dsOk (MN MX10_leafTotal).cls (MB MX10_leafTotal) 27 [(.lload 5, 0, 0, 0), (.ldc2_w 21, 0, 0, 4), (.lrem, 0, 0, 0), (.lconst 0, 0, 0, 0), (.lcmp, 0, 0, 0)] 35 = true := by decide +kernel
theorem dX10_leafTotal_35 : decode (MB MX10_leafTotal) 35 = .ok (.ifCond .ne 12, 3) := by decide +kernel
theorem sX10_leafTotal_38 : dsOk (MN MX10_leafTotal).cls (MB MX10_leafTotal) 38 [(.lload 5, 0, 0, 0), (.ldc2_w 21, 0, 0, 4), (.ldiv, 0, 0, 0)] 44 = true := by decide +kernel
theorem dX10_leafTotal_44 : decode (MB MX10_leafTotal) 44 = .ok (.goto 6, 3) := by decide +kernel
theorem sX10_leafTotal_47 : dsOk (MN MX10_leafTotal).cls (MB MX10_leafTotal) 47 [(.ldc2_w 23, 0, 0, -1)] 50 = true := by decide +kernel
theorem dX10_leafTotal_50 : decode (MB MX10_leafTotal) 50 = .ok (.lreturn, 1) := by decide +kernel
def MX10_canBeOut : Ms := (yX10_canBeOut, cX10_canBeOut, 9, (some .boolean), [])
set_option maxRecDepth 100000 in
theorem kX10_canBeOut : mkS MX10_canBeOut 3 := ⟨⟨List.mem_of_getElem? (i := 1069) (by rfl), by decide +kernel⟩, by decide +kernel⟩
theorem sX10_canBeOut_0 : dsOk (MN MX10_canBeOut).cls (MB MX10_canBeOut) 0 [(.lload_n 0, 0, 0, 0), (.iload_n 2, 0, 0, 0), (.lload_n 3, 0, 0, 0)] 3 = true := by decide +kernel
theorem dX10_canBeOut_3 : decode (MB MX10_canBeOut) 3 = .ok (.invokestatic 25, 3) := by decide +kernel
theorem sX10_canBeOut_6 : dsOk (MN MX10_canBeOut).cls (MB MX10_canBeOut) 6 [(.lstore 5, 0, 0, 0), (.iload_n 2, 0, 0, 0), (.i2l, 0, 0, 0), (.iload_n 2, 0, 0, 0), (.iconst 1, 0, 0, 0), (.isub, 0, 0, 0), (.i2l, 0, 0, 0), (.lmul, 0, 0, 0), (.ldc2_w 17, 0, 0, 2), (.ldiv, 0, 0, 0), (.lstore 7, 0, 0, 0), (.lload_n 3, 0, 0, 0), (.iload_n 2, 0, 0, 0), (.i2l, 0, 0, 0), (.lcmp, 0, 0, 0)] 25 = true := by decide +kernel
theorem dX10_canBeOut_25 : decode (MB MX10_canBeOut) 25 = .ok (.ifCond .lt 31, 3) := by decide +kernel
theorem sX10_canBeOut_28 : dsOk (MN MX10_canBeOut).cls (MB MX10_canBeOut) 28 [(.lload 5, 0, 0, 0), (.lload 7, 0, 0, 0), (.lcmp, 0, 0, 0)] 33 = true := by decide +kernel
theorem dX10_canBeOut_33 : decode (MB MX10_canBeOut) 33 = .ok (.ifCond .lt 23, 3) := by decide +kernel
theorem sX10_canBeOut_36 : dsOk (MN MX10_canBeOut).cls (MB MX10_canBeOut) 36 [(.lload 5, 0, 0, 0), (.lload 7, 0, 0, 0), (.iload_n 2, 0, 0, 0), (.i2l, 0, 0, 0), (.lload_n 3, 0, 0, 0), (.iload_n 2, 0, 0, 0), (.i2l, 0, 0, 0), (.lsub, 0, 0, 0), (.lmul, 0, 0, 0), (.ladd, 0, 0, 0), (.lcmp, 0, 0, 0)] 49 = true := by decide +kernel
theorem dX10_canBeOut_49 : decode (MB MX10_canBeOut) 49 = .ok (.ifCond .gt 7, 3) := by decide +kernel
theorem sX10_canBeOut_52 : dsOk (MN MX10_canBeOut).cls (MB MX10_canBeOut) 52 [(.iconst 1, 0, 0, 0)] 53 = true := by decide +kernel
theorem dX10_canBeOut_53 : decode (MB MX10_canBeOut) 53 = .ok (.goto 4, 3) := by decide +kernel
theorem sX10_canBeOut_56 : dsOk (MN MX10_canBeOut).cls (MB MX10_canBeOut) 56 [(.iconst 0, 0, 0, 0)] 57 = true := by decide +kernel
theorem dX10_canBeOut_57 : decode (MB MX10_canBeOut) 57 = .ok (.ireturn, 1) := by decide +kernel
def MX10_rows : Ms := (yX10_rows, cX10_rows, 9, (some .long), [])
set_option maxRecDepth 100000 in
theorem kX10_rows : mkV MX10_rows 3 := ⟨⟨List.mem_of_getElem? (i := 1088) (by rfl), by decide +kernel⟩, by decide +kernel⟩
theorem sX10_rows_0 : dsOk (MN MX10_rows).cls (MB MX10_rows) 0 [(.iload_n 1, 0, 0, 0)] 1 = true := by decide +kernel
theorem dX10_rows_1 : decode (MB MX10_rows) 1 = .ok (.ifCond .lt 14, 3) := by decide +kernel
theorem sX10_rows_4 : dsOk (MN MX10_rows).cls (MB MX10_rows) 4 [(.iload_n 1, 0, 0, 0), (.iload_n 2, 0, 0, 0)] 6 = true := by decide +kernel
theorem dX10_rows_6 : decode (MB MX10_rows) 6 = .ok (.if_icmp .gt 9, 3) := by decide +kernel
theorem sX10_rows_9 : dsOk (MN MX10_rows).cls (MB MX10_rows) 9 [(.iload_n 2, 0, 0, 0), (.bipush 60, 0, 0, 60)] 12 = true := by decide +kernel
theorem dX10_rows_12 : decode (MB MX10_rows) 12 = .ok (.if_icmp .le 5, 3) := by decide +kernel
theorem sX10_rows_15 : dsOk (MN MX10_rows).cls (MB MX10_rows) 15 [(.lconst 0, 0, 0, 0)] 16 = true := by decide +kernel
theorem dX10_rows_16 : decode (MB MX10_rows) 16 = .ok (.lreturn, 1) := by decide +kernel
theorem sX10_rows_17 : dsOk (MN MX10_rows).cls (MB MX10_rows) 17 [(.lload_n 3, 0, 0, 0), (.iload_n 1, 0, 0, 0), (.i2l, 0, 0, 0), (.iload_n 1, 0, 0, 0), (.iconst 1, 0, 0, 0), (.isub, 0, 0, 0), (.i2l, 0, 0, 0), (.lmul, 0, 0, 0), (.ldc2_w 17, 0, 0, 2), (.ldiv, 0, 0, 0), (.lsub, 0, 0, 0), (.lstore 5, 0, 0, 0), (.iload_n 1, 0, 0, 0), (.i2l, 0, 0, 0), (.iload_n 2, 0, 0, 0), (.iload_n 1, 0, 0, 0), (.isub, 0, 0, 0), (.i2l, 0, 0, 0), (.lmul, 0, 0, 0), (.lstore 7, 0, 0, 0), (.lload 5, 0, 0, 0), (.lconst 0, 0, 0, 0), (.lcmp, 0, 0, 0)] 45 = true := by decide +kernel
theorem dX10_rows_45 : decode (MB MX10_rows) 45 = .ok (.ifCond .lt 11, 3) := by decide +kernel
theorem sX10_rows_48 : dsOk (MN MX10_rows).cls (MB MX10_rows) 48 [(.lload 5, 0, 0, 0), (.lload 7, 0, 0, 0), (.lcmp, 0, 0, 0)] 53 = true := by decide +kernel
theorem dX10_rows_53 : decode (MB MX10_rows) 53 = .ok (.ifCond .le 5, 3) := by decide +kernel
theorem sX10_rows_56 : dsOk (MN MX10_rows).cls (MB MX10_rows) 56 [(.lconst 0, 0, 0, 0)] 57 = true := by decide +kernel
theorem dX10_rows_57 : decode (MB MX10_rows) 57 = .ok (.lreturn, 1) := by decide +kernel
theorem sX10_rows_58 : dsOk (MN MX10_rows).cls (MB MX10_rows) 58 [(.aload_n 0, 0, 0, 0), (.iload_n 1, 0, 0, 0), (.iload_n 2, 0, 0, 0), (.iload_n 1, 0, 0, 0), (.isub, 0, 0, 0)] 63 = true := by decide +kernel
theorem dX10_rows_63 : decode (MB MX10_rows) 63 = .ok (.invokestatic 29, 3) := by decide +kernel
theorem sX10_rows_66 : dsOk (MN MX10_rows).cls (MB MX10_rows) 66 [(.iload_n 2, 0, 0, 0), (.lload 5, 0, 0, 0), (.lload 7, 0, 0, 0), (.lload 5, 0, 0, 0), (.lsub, 0, 0, 0)] 74 = true := by decide +kernel
theorem dX10_rows_74 : decode (MB MX10_rows) 74 = .ok (.invokestatic 35, 3) := by decide +kernel
theorem sX10_rows_77 : dsOk (MN MX10_rows).cls (MB MX10_rows) 77 [(.l2i, 0, 0, 0)] 78 = true := by decide +kernel
theorem dX10_rows_78 : decode (MB MX10_rows) 78 = .ok (.invokevirtual 38, 3) := by decide +kernel
theorem dX10_rows_81 : decode (MB MX10_rows) 81 = .ok (.lreturn, 1) := by decide +kernel
def MX10_coefficient : Ms := (yX10_coefficient, cX10_coefficient, 7, (some .long), [])
set_option maxRecDepth 100000 in
theorem kX10_coefficient : mkV MX10_coefficient 3 := ⟨⟨List.mem_of_getElem? (i := 1098) (by rfl), by decide +kernel⟩, by decide +kernel⟩
theorem sX10_coefficient_0 : dsOk (MN MX10_coefficient).cls (MB MX10_coefficient) 0 [(.iload_n 3, 0, 0, 0)] 1 = true := by decide +kernel
theorem dX10_coefficient_1 : decode (MB MX10_coefficient) 1 = .ok (.ifCond .lt 12, 3) := by decide +kernel
theorem sX10_coefficient_4 : dsOk (MN MX10_coefficient).cls (MB MX10_coefficient) 4 [(.iload_n 3, 0, 0, 0), (.aload_n 0, 0, 0, 0), (.getfield 9, 9, 0, 0), (.arraylength, 0, 0, 0)] 10 = true := by decide +kernel
theorem dX10_coefficient_10 : decode (MB MX10_coefficient) 10 = .ok (.if_icmp .lt 5, 3) := by decide +kernel
theorem sX10_coefficient_13 : dsOk (MN MX10_coefficient).cls (MB MX10_coefficient) 13 [(.lconst 0, 0, 0, 0)] 14 = true := by decide +kernel
theorem dX10_coefficient_14 : decode (MB MX10_coefficient) 14 = .ok (.lreturn, 1) := by decide +kernel
theorem sX10_coefficient_15 : dsOk (MN MX10_coefficient).cls (MB MX10_coefficient) 15 [(.iconst 1, 0, 0, 0), (.istore 4, 0, 0, 0)] 18 = true := by decide +kernel
theorem sX10_coefficient_18 : dsOk (MN MX10_coefficient).cls (MB MX10_coefficient) 18 [(.iload 4, 0, 0, 0), (.iload_n 3, 0, 0, 0)] 21 = true := by decide +kernel
theorem dX10_coefficient_21 : decode (MB MX10_coefficient) 21 = .ok (.if_icmp .gt 17, 3) := by decide +kernel
theorem sX10_coefficient_24 : dsOk (MN MX10_coefficient).cls (MB MX10_coefficient) 24 [(.aload_n 0, 0, 0, 0), (.getfield 9, 9, 0, 0), (.iload 4, 0, 0, 0), (.lconst 0, 0, 0, 0), (.lastore, 0, 0, 0), (.iinc 4 1, 0, 0, 0)] 35 = true := by decide +kernel
theorem dX10_coefficient_35 : decode (MB MX10_coefficient) 35 = .ok (.goto (-17), 3) := by decide +kernel
theorem sX10_coefficient_38 : dsOk (MN MX10_coefficient).cls (MB MX10_coefficient) 38 [(.aload_n 0, 0, 0, 0), (.getfield 9, 9, 0, 0), (.iconst 0, 0, 0, 0), (.lconst 1, 0, 0, 1), (.lastore, 0, 0, 0), (.iconst 1, 0, 0, 0), (.istore 4, 0, 0, 0)] 48 = true := by decide +kernel
theorem sX10_coefficient_48 : dsOk (MN MX10_coefficient).cls (MB MX10_coefficient) 48 [(.iload 4, 0, 0, 0), (.iload_n 1, 0, 0, 0)] 51 = true := by decide +kernel
theorem dX10_coefficient_51 : decode (MB MX10_coefficient) 51 = .ok (.if_icmp .gt 94, 3) := by decide +kernel
theorem sX10_coefficient_54 : dsOk (MN MX10_coefficient).cls (MB MX10_coefficient) 54 [(.iload_n 2, 0, 0, 0), (.iload_n 1, 0, 0, 0), (.isub, 0, 0, 0), (.iload 4, 0, 0, 0), (.iadd, 0, 0, 0), (.istore 5, 0, 0, 0), (.iload_n 3, 0, 0, 0), (.istore 6, 0, 0, 0)] 65 = true := by decide +kernel
theorem sX10_coefficient_65 : dsOk (MN MX10_coefficient).cls (MB MX10_coefficient) 65 [(.iload 5, 0, 0, 0)] 67 = true := by decide +kernel
theorem dX10_coefficient_67 : decode (MB MX10_coefficient) 67 = .ok (.ifCond .le 36, 3) := by decide +kernel
theorem sX10_coefficient_70 : dsOk (MN MX10_coefficient).cls (MB MX10_coefficient) 70 [(.iload 6, 0, 0, 0), (.iload 5, 0, 0, 0)] 74 = true := by decide +kernel
theorem dX10_coefficient_74 : decode (MB MX10_coefficient) 74 = .ok (.if_icmp .lt 29, 3) := by decide +kernel
theorem sX10_coefficient_77 : dsOk (MN MX10_coefficient).cls (MB MX10_coefficient) 77 [(.aload_n 0, 0, 0, 0), (.getfield 9, 9, 0, 0), (.iload 6, 0, 0, 0), (.dup2, 0, 0, 0), (.laload, 0, 0, 0), (.aload_n 0, 0, 0, 0), (.getfield 9, 9, 0, 0), (.iload 6, 0, 0, 0), (.iload 5, 0, 0, 0), (.isub, 0, 0, 0), (.laload, 0, 0, 0), (.lsub, 0, 0, 0), (.lastore, 0, 0, 0), (.iinc 6 (-1), 0, 0, 0)] 100 = true := by decide +kernel
theorem dX10_coefficient_100 : decode (MB MX10_coefficient) 100 = .ok (.goto (-35), 3) := by decide +kernel
theorem sX10_coefficient_103 : dsOk (MN MX10_coefficient).cls (MB MX10_coefficient) 103 [(.iload 4, 0, 0, 0), (.istore 6, 0, 0, 0)] 107 = true := by decide +kernel
theorem sX10_coefficient_107 : dsOk (MN MX10_coefficient).cls (MB MX10_coefficient) 107 [(.iload 6, 0, 0, 0), (.iload_n 3, 0, 0, 0)] 110 = true := by decide +kernel
theorem dX10_coefficient_110 : decode (MB MX10_coefficient) 110 = .ok (.if_icmp .gt 29, 3) := by decide +kernel
theorem sX10_coefficient_113 : dsOk (MN MX10_coefficient).cls (MB MX10_coefficient) 113 [(.aload_n 0, 0, 0, 0), (.getfield 9, 9, 0, 0), (.iload 6, 0, 0, 0), (.dup2, 0, 0, 0), (.laload, 0, 0, 0), (.aload_n 0, 0, 0, 0), (.getfield 9, 9, 0, 0), (.iload 6, 0, 0, 0), (.iload 4, 0, 0, 0), (.isub, 0, 0, 0), (.laload, 0, 0, 0), (.ladd, 0, 0, 0), (.lastore, 0, 0, 0), (.iinc 6 1, 0, 0, 0)] 136 = true := by decide +kernel
theorem dX10_coefficient_136 : decode (MB MX10_coefficient) 136 = .ok (.goto (-29), 3) := by decide +kernel
theorem sX10_coefficient_139 : dsOk (MN MX10_coefficient).cls (MB MX10_coefficient) 139 [(.iinc 4 1, 0, 0, 0)] 142 = true := by decide +kernel
theorem dX10_coefficient_142 : decode (MB MX10_coefficient) 142 = .ok (.goto (-94), 3) := by decide +kernel
theorem sX10_coefficient_145 : dsOk (MN MX10_coefficient).cls (MB MX10_coefficient) 145 [(.aload_n 0, 0, 0, 0), (.getfield 9, 9, 0, 0), (.iload_n 3, 0, 0, 0), (.laload, 0, 0, 0)] 151 = true := by decide +kernel
theorem dX10_coefficient_151 : decode (MB MX10_coefficient) 151 = .ok (.lreturn, 1) := by decide +kernel
def MX10_rowAt : Ms := (yX10_rowAt, cX10_rowAt, 17, (some .long), [])
set_option maxRecDepth 100000 in
theorem kX10_rowAt : mkV MX10_rowAt 4 := ⟨⟨List.mem_of_getElem? (i := 1255) (by rfl), by decide +kernel⟩, by decide +kernel⟩
theorem sX10_rowAt_0 : dsOk (MN MX10_rowAt).cls (MB MX10_rowAt) 0 [(.lconst 0, 0, 0, 0), (.lstore 7, 0, 0, 0), (.lload 5, 0, 0, 0), (.lstore 9, 0, 0, 0), (.lload_n 3, 0, 0, 0), (.lstore 11, 0, 0, 0), (.iload_n 1, 0, 0, 0), (.istore 13, 0, 0, 0), (.iconst 0, 0, 0, 0), (.istore 14, 0, 0, 0)] 16 = true := by decide +kernel
theorem sX10_rowAt_16 : dsOk (MN MX10_rowAt).cls (MB MX10_rowAt) 16 [(.iload 14, 0, 0, 0), (.iload_n 2, 0, 0, 0)] 19 = true := by decide +kernel
theorem dX10_rowAt_19 : decode (MB MX10_rowAt) 19 = .ok (.if_icmp .ge 86, 3) := by decide +kernel
theorem sX10_rowAt_22 : dsOk (MN MX10_rowAt).cls (MB MX10_rowAt) 22 [(.iload 13, 0, 0, 0)] 24 = true := by decide +kernel
theorem dX10_rowAt_24 : decode (MB MX10_rowAt) 24 = .ok (.ifCond .le 81, 3) := by decide +kernel
theorem sX10_rowAt_27 : dsOk (MN MX10_rowAt).cls (MB MX10_rowAt) 27 [(.aload_n 0, 0, 0, 0), (.iload 13, 0, 0, 0), (.iconst 1, 0, 0, 0), (.isub, 0, 0, 0), (.iload_n 2, 0, 0, 0), (.iload 14, 0, 0, 0), (.isub, 0, 0, 0), (.iconst 1, 0, 0, 0), (.isub, 0, 0, 0), (.lload 11, 0, 0, 0), (.iload 14, 0, 0, 0), (.i2l, 0, 0, 0), (.lsub, 0, 0, 0), (.iload 13, 0, 0, 0), (.i2l, 0, 0, 0), (.lconst 1, 0, 0, 1), (.lsub, 0, 0, 0), (.iload 14, 0, 0, 0), (.iconst 1, 0, 0, 0), (.iadd, 0, 0, 0), (.i2l, 0, 0, 0), (.lmul, 0, 0, 0), (.lsub, 0, 0, 0)] 56 = true := by decide +kernel
theorem dX10_rowAt_56 : decode (MB MX10_rowAt) 56 = .ok (.invokevirtual 42, 3) := by decide +kernel
theorem sX10_rowAt_59 : dsOk (MN MX10_rowAt).cls (MB MX10_rowAt) 59 [(.lstore 15, 0, 0, 0), (.lload 9, 0, 0, 0), (.lload 15, 0, 0, 0), (.lcmp, 0, 0, 0)] 66 = true := by decide +kernel
theorem dX10_rowAt_66 : decode (MB MX10_rowAt) 66 = .ok (.ifCond .ge 26, 3) := by decide +kernel
theorem sX10_rowAt_69 : dsOk (MN MX10_rowAt).cls (MB MX10_rowAt) 69 [(.lload 7, 0, 0, 0), (.lconst 1, 0, 0, 1), (.iload 14, 0, 0, 0), (.lshl, 0, 0, 0), (.lor, 0, 0, 0), (.lstore 7, 0, 0, 0), (.lload 11, 0, 0, 0), (.iload 14, 0, 0, 0), (.i2l, 0, 0, 0), (.lsub, 0, 0, 0), (.lstore 11, 0, 0, 0), (.iinc 13 (-1), 0, 0, 0)] 89 = true := by decide +kernel
theorem dX10_rowAt_89 : decode (MB MX10_rowAt) 89 = .ok (.goto 10, 3) := by decide +kernel
theorem sX10_rowAt_92 : dsOk (MN MX10_rowAt).cls (MB MX10_rowAt) 92 [(.lload 9, 0, 0, 0), (.lload 15, 0, 0, 0), (.lsub, 0, 0, 0), (.lstore 9, 0, 0, 0)] 99 = true := by decide +kernel
theorem sX10_rowAt_99 : dsOk (MN MX10_rowAt).cls (MB MX10_rowAt) 99 [(.iinc 14 1, 0, 0, 0)] 102 = true := by decide +kernel
theorem dX10_rowAt_102 : decode (MB MX10_rowAt) 102 = .ok (.goto (-86), 3) := by decide +kernel
theorem sX10_rowAt_105 : dsOk (MN MX10_rowAt).cls (MB MX10_rowAt) 105 [(.lload 7, 0, 0, 0)] 107 = true := by decide +kernel
theorem dX10_rowAt_107 : decode (MB MX10_rowAt) 107 = .ok (.lreturn, 1) := by decide +kernel
-- foreign ('M', 'java/lang/Object', '<init>', '()V')
theorem lRX0_11 : wN.any (isMN RX0 11 yX5_init "TornLeaves") = true := by decide +kernel
theorem lRX0_37 : wM.any (isML RX0 37 yX5_empty) = true := by decide +kernel
theorem lRX0_40 : wM.any (isML RX0 40 yX5_size) = true := by decide +kernel
theorem lRX0_44 : wM.any (isML RX0 44 yX5_has) = true := by decide +kernel
theorem lRX0_48 : wM.any (isML RX0 48 yX3_standsWithout) = true := by decide +kernel
theorem lRX0_58 : wM.any (isML RX0 58 yX3_placeWithout) = true := by decide +kernel
-- foreign ('M', 'java/lang/Object', '<init>', '()V')
theorem lRX1_28 : wN.any (isMN RX1 28 yX11_at "TornLeaves") = true := by decide +kernel
theorem lRX1_35 : wN.any (isMN RX1 35 yX11_setAt "TornLeaves") = true := by decide +kernel
theorem lRX1_39 : wM.any (isML RX1 39 yX1_pick) = true := by decide +kernel
theorem lRX1_43 : wM.any (isML RX1 43 yX1_pickWith) = true := by decide +kernel
-- foreign ('M', 'java/lang/Object', '<init>', '()V')
theorem lRX2_40 : wM.any (isML RX2 40 yX2_forgetAdded) = true := by decide +kernel
theorem lRX2_46 : wN.any (isMN RX2 46 yX11_at "TornLeaves") = true := by decide +kernel
theorem lRX2_50 : wN.any (isMN RX2 50 yX11_setAt "TornLeaves") = true := by decide +kernel
theorem lRX3_9 : wM.any (isML RX3 9 yX3_inNumber) = true := by decide +kernel
theorem lRX3_17 : wM.any (isML RX3 17 yX3_printedAt) = true := by decide +kernel
-- foreign ('M', 'java/lang/Object', '<init>', '()V')
theorem lRX4_24 : wM.any (isML RX4 24 yX10_largest) = true := by decide +kernel
theorem lRX4_30 : wM.any (isML RX4 30 yX4_findWith) = true := by decide +kernel
theorem lRX4_38 : wM.any (isML RX4 38 yX4_keep) = true := by decide +kernel
theorem lRX4_41 : wM.any (isML RX4 41 yX4_pagesAt) = true := by decide +kernel
theorem lRX4_45 : wM.any (isML RX4 45 yX4_leafAt) = true := by decide +kernel
theorem lRX4_48 : wM.any (isML RX4 48 yX3_printed) = true := by decide +kernel
theorem lRX4_54 : wM.any (isML RX4 54 yX3_inNumber) = true := by decide +kernel
theorem lRX4_58 : wM.any (isML RX4 58 yX4_saying) = true := by decide +kernel
-- foreign ('M', 'java/lang/Object', '<init>', '()V')
theorem lRX5_19 : wN.any (isMN RX5 19 yX11_at "TornLeaves") = true := by decide +kernel
-- foreign ('M', 'java/lang/Object', '<init>', '()V')
theorem lRX6_28 : wN.any (isMN RX6 28 yX11_at "TornLeaves") = true := by decide +kernel
theorem lRX6_41 : wN.any (isMN RX6 41 yX11_setAt "TornLeaves") = true := by decide +kernel
theorem lRX6_49 : wM.any (isML RX6 49 yX6_deal) = true := by decide +kernel
theorem lRX6_53 : wM.any (isML RX6 53 yX6_keepIfBetter) = true := by decide +kernel
theorem lRX6_56 : wM.any (isML RX6 56 yJ9_min_7cf53) = true := by decide +kernel
theorem lRX6_62 : wM.any (isML RX6 62 yX6_dealTo) = true := by decide +kernel
theorem lRX6_66 : wM.any (isML RX6 66 yX6_canBeBetter) = true := by decide +kernel
theorem lRX6_70 : wM.any (isML RX6 70 yJ9_max_7cf53) = true := by decide +kernel
-- foreign ('M', 'java/lang/Object', '<init>', '()V')
theorem lRX7_36 : wN.any (isMN RX7 36 yX0_init "TornLeaves") = true := by decide +kernel
theorem lRX7_37 : wN.any (isMN RX7 37 yX5_init "TornLeaves") = true := by decide +kernel
theorem lRX7_52 : wM.any (isML RX7 52 yX7_bookAt) = true := by decide +kernel
theorem lRX7_56 : wM.any (isML RX7 56 yX0_begin) = true := by decide +kernel
theorem lRX7_60 : wM.any (isML RX7 60 yX7_missingOf) = true := by decide +kernel
theorem lRX7_64 : wM.any (isML RX7 64 yX5_empty) = true := by decide +kernel
theorem lRX7_67 : wN.any (isMN RX7 67 yX11_setAt "TornLeaves") = true := by decide +kernel
theorem lRX7_71 : wN.any (isMN RX7 71 yX11_at "TornLeaves") = true := by decide +kernel
theorem lRX7_75 : wM.any (isML RX7 75 yX5_has) = true := by decide +kernel
theorem lRX7_86 : wM.any (isML RX7 86 yX5_takeFrom) = true := by decide +kernel
theorem lRX7_99 : wM.any (isML RX7 99 yX7_valueOf) = true := by decide +kernel
theorem lRX7_103 : wM.any (isML RX7 103 yX7_push) = true := by decide +kernel
theorem lRX7_106 : wM.any (isML RX7 106 yX7_pop) = true := by decide +kernel
theorem lRX7_110 : wM.any (isML RX7 110 yX7_combine) = true := by decide +kernel
theorem lRX7_115 : wN.any (isMN RX7 115 yX11_leafOf "TornLeaves") = true := by decide +kernel
-- foreign ('M', 'java/lang/Object', '<init>', '()V')
theorem lRX8_11 : wM.any (isML RX8 11 yX9_init) = true := by decide +kernel
theorem lRX8_20 : wM.any (isML RX8 20 yX9_place) = true := by decide +kernel
theorem lRX8_28 : wM.any (isML RX8 28 yX7_clear) = true := by decide +kernel
theorem lRX8_33 : wM.any (isML RX8 33 yX9_open) = true := by decide +kernel
theorem lRX8_37 : wM.any (isML RX8 37 yX9_is) = true := by decide +kernel
theorem lRX8_41 : wM.any (isML RX8 41 yX8_readLine) = true := by decide +kernel
theorem lRX8_45 : wM.any (isML RX8 45 yX8_readSign) = true := by decide +kernel
theorem lRX8_49 : wM.any (isML RX8 49 yX8_refuse) = true := by decide +kernel
theorem lRX8_52 : wM.any (isML RX8 52 yX9_advance) = true := by decide +kernel
theorem lRX8_55 : wM.any (isML RX8 55 yX9_what) = true := by decide +kernel
theorem lRX8_58 : wM.any (isML RX8 58 yX8_readGone) = true := by decide +kernel
theorem lRX8_61 : wM.any (isML RX8 61 yX8_readCopy) = true := by decide +kernel
theorem lRX8_64 : wM.any (isML RX8 64 yX8_readLead) = true := by decide +kernel
theorem lRX8_67 : wM.any (isML RX8 67 yX8_readBook) = true := by decide +kernel
theorem lRX8_70 : wM.any (isML RX8 70 yX7_nextBook) = true := by decide +kernel
theorem lRX8_74 : wM.any (isML RX8 74 yX8_readMark) = true := by decide +kernel
theorem lRX8_78 : wM.any (isML RX8 78 yX8_readLeafCount) = true := by decide +kernel
theorem lRX8_89 : wM.any (isML RX8 89 yX8_readOr) = true := by decide +kernel
theorem lRX8_99 : wM.any (isML RX8 99 yX9_numberTold) = true := by decide +kernel
theorem lRX8_105 : wM.any (isML RX8 105 yX8_readWithin) = true := by decide +kernel
theorem lRX8_112 : wM.any (isML RX8 112 yX7_bookAt) = true := by decide +kernel
theorem lRX8_115 : wM.any (isML RX8 115 yX8_readBookIndex) = true := by decide +kernel
theorem lRX8_123 : wM.any (isML RX8 123 yX8_readLeaf) = true := by decide +kernel
theorem lRX8_127 : wM.any (isML RX8 127 yX8_readLeaves) = true := by decide +kernel
theorem lRX8_130 : wM.any (isML RX8 130 yX7_nextCopy) = true := by decide +kernel
theorem lRX8_134 : wM.any (isML RX8 134 yX7_tellCopyOf) = true := by decide +kernel
theorem lRX8_137 : wM.any (isML RX8 137 yX5_size) = true := by decide +kernel
theorem lRX8_142 : wM.any (isML RX8 142 yX0_hasLeaf) = true := by decide +kernel
theorem lRX8_145 : wM.any (isML RX8 145 yX5_has) = true := by decide +kernel
theorem lRX8_148 : wM.any (isML RX8 148 yX5_take) = true := by decide +kernel
theorem lRX8_155 : wM.any (isML RX8 155 yX7_tellLead) = true := by decide +kernel
theorem lRX8_159 : wM.any (isML RX8 159 yX8_readAnd) = true := by decide +kernel
theorem lRX8_162 : wM.any (isML RX8 162 yX7_write) = true := by decide +kernel
theorem lRX8_165 : wM.any (isML RX8 165 yX8_readNot) = true := by decide +kernel
theorem lRX8_168 : wM.any (isML RX8 168 yX8_readTest) = true := by decide +kernel
theorem lRX8_171 : wM.any (isML RX8 171 yX8_readSum) = true := by decide +kernel
theorem lRX8_174 : wM.any (isML RX8 174 yX8_readProduct) = true := by decide +kernel
theorem lRX8_177 : wM.any (isML RX8 177 yX8_readPart) = true := by decide +kernel
-- foreign ('M', 'java/lang/Object', '<init>', '()V')
theorem lRX9_70 : wM.any (isML RX9 70 yX9_readToken) = true := by decide +kernel
theorem lRX9_74 : wM.any (isML RX9 74 yX9_note) = true := by decide +kernel
theorem lRX9_78 : wN.any (isMN RX9 78 yX11_setAt "TornLeaves") = true := by decide +kernel
theorem lRX9_82 : wM.any (isML RX9 82 yX9_byteAt) = true := by decide +kernel
theorem lRX9_85 : wM.any (isML RX9 85 yX9_isLetter) = true := by decide +kernel
theorem lRX9_89 : wM.any (isML RX9 89 yX9_endOfWord) = true := by decide +kernel
theorem lRX9_92 : wM.any (isML RX9 92 yX9_whatWord) = true := by decide +kernel
theorem lRX9_96 : wM.any (isML RX9 96 yX9_isDigit) = true := by decide +kernel
theorem lRX9_99 : wM.any (isML RX9 99 yX9_readNumber) = true := by decide +kernel
theorem lRX9_102 : wM.any (isML RX9 102 yX9_wordOf) = true := by decide +kernel
theorem lRX9_106 : wM.any (isML RX9 106 yX9_isWord) = true := by decide +kernel
theorem lRX9_110 : wM.any (isML RX9 110 yJ0_length_8abf5) = true := by decide +kernel
theorem lRX9_115 : wM.any (isML RX9 115 yJ0_charAt_5068e) = true := by decide +kernel
theorem lRX9_119 : wN.any (isMN RX9 119 yX11_at "TornLeaves") = true := by decide +kernel
-- foreign ('M', 'java/lang/Object', '<init>', '()V')
theorem lRX10_25 : wM.any (isML RX10 25 yX10_leafTotal) = true := by decide +kernel
theorem lRX10_29 : wM.any (isML RX10 29 yJ9_min_7cf53) = true := by decide +kernel
theorem lRX10_35 : wM.any (isML RX10 35 yJ9_min_f86c9) = true := by decide +kernel
theorem lRX10_38 : wM.any (isML RX10 38 yX10_coefficient) = true := by decide +kernel
theorem lRX10_42 : wM.any (isML RX10 42 yX10_rows) = true := by decide +kernel
