/-! FACTS, by program: methods, straight stretches, branches, links -/
def MX11_init : Ms := (yX11_init, cX11_init, 1, none, [])
set_option maxRecDepth 100000 in
theorem kX11_init : mkI MX11_init 0 := ⟨⟨List.mem_of_getElem? (i := 29) (by rfl), by decide +kernel⟩, by decide +kernel⟩
theorem sX11_init_0 : dsOk (MN MX11_init).cls (MB MX11_init) 0 [(.aload_n 0, 0, 0, 0)] 1 = true := by decide +kernel
theorem dX11_init_1 : decode (MB MX11_init) 1 = .ok (.invokespecial 1, 3) := by decide +kernel
theorem sX11_init_4 : dsOk (MN MX11_init).cls (MB MX11_init) 4 [(.aload_n 0, 0, 0, 0), (.sipush 500, 0, 0, 500)] 8 = true := by decide +kernel
theorem dX11_init_8 : decode (MB MX11_init) 8 = .ok (.newarray .int, 2) := by decide +kernel
theorem dX11_init_10 : decode (MB MX11_init) 10 = .ok (.putfield 9, 3) := by decide +kernel
theorem sX11_init_13 : dsOk (MN MX11_init).cls (MB MX11_init) 13 [(.aload_n 0, 0, 0, 0)] 14 = true := by decide +kernel
theorem dX11_init_14 : decode (MB MX11_init) 14 = .ok (.new 13, 3) := by decide +kernel
theorem sX11_init_17 : dsOk (MN MX11_init).cls (MB MX11_init) 17 [(.dup, 0, 0, 0), (.aload_n 0, 0, 0, 0), (.getfield 9, 10, 0, 0)] 22 = true := by decide +kernel
theorem dX11_init_22 : decode (MB MX11_init) 22 = .ok (.invokespecial 15, 3) := by decide +kernel
theorem dX11_init_25 : decode (MB MX11_init) 25 = .ok (.putfield 18, 3) := by decide +kernel
theorem sX11_init_28 : dsOk (MN MX11_init).cls (MB MX11_init) 28 [(.aload_n 0, 0, 0, 0)] 29 = true := by decide +kernel
theorem dX11_init_29 : decode (MB MX11_init) 29 = .ok (.new 22, 3) := by decide +kernel
theorem sX11_init_32 : dsOk (MN MX11_init).cls (MB MX11_init) 32 [(.dup, 0, 0, 0)] 33 = true := by decide +kernel
theorem dX11_init_33 : decode (MB MX11_init) 33 = .ok (.invokespecial 24, 3) := by decide +kernel
theorem sX11_init_36 : dsOk (MN MX11_init).cls (MB MX11_init) 36 [(.putfield 25, 10, 3, 0), (.aload_n 0, 0, 0, 0)] 40 = true := by decide +kernel
theorem dX11_init_40 : decode (MB MX11_init) 40 = .ok (.new 22, 3) := by decide +kernel
theorem sX11_init_43 : dsOk (MN MX11_init).cls (MB MX11_init) 43 [(.dup, 0, 0, 0)] 44 = true := by decide +kernel
theorem dX11_init_44 : decode (MB MX11_init) 44 = .ok (.invokespecial 24, 3) := by decide +kernel
theorem sX11_init_47 : dsOk (MN MX11_init).cls (MB MX11_init) 47 [(.putfield 29, 10, 4, 0), (.aload_n 0, 0, 0, 0), (.iconst (-1), 0, 0, 0), (.putfield 32, 10, 5, 0), (.aload_n 0, 0, 0, 0)] 56 = true := by decide +kernel
theorem dX11_init_56 : decode (MB MX11_init) 56 = .ok (.new 36, 3) := by decide +kernel
theorem sX11_init_59 : dsOk (MN MX11_init).cls (MB MX11_init) 59 [(.dup, 0, 0, 0)] 60 = true := by decide +kernel
theorem dX11_init_60 : decode (MB MX11_init) 60 = .ok (.invokespecial 38, 3) := by decide +kernel
theorem dX11_init_63 : decode (MB MX11_init) 63 = .ok (.putfield 39, 3) := by decide +kernel
theorem sX11_init_66 : dsOk (MN MX11_init).cls (MB MX11_init) 66 [(.aload_n 0, 0, 0, 0)] 67 = true := by decide +kernel
theorem dX11_init_67 : decode (MB MX11_init) 67 = .ok (.new 36, 3) := by decide +kernel
theorem sX11_init_70 : dsOk (MN MX11_init).cls (MB MX11_init) 70 [(.dup, 0, 0, 0)] 71 = true := by decide +kernel
theorem dX11_init_71 : decode (MB MX11_init) 71 = .ok (.invokespecial 38, 3) := by decide +kernel
theorem dX11_init_74 : decode (MB MX11_init) 74 = .ok (.putfield 43, 3) := by decide +kernel
theorem sX11_init_77 : dsOk (MN MX11_init).cls (MB MX11_init) 77 [(.aload_n 0, 0, 0, 0), (.sipush 24000, 0, 0, 24000)] 81 = true := by decide +kernel
theorem dX11_init_81 : decode (MB MX11_init) 81 = .ok (.newarray .int, 2) := by decide +kernel
theorem dX11_init_83 : decode (MB MX11_init) 83 = .ok (.putfield 46, 3) := by decide +kernel
theorem sX11_init_86 : dsOk (MN MX11_init).cls (MB MX11_init) 86 [(.aload_n 0, 0, 0, 0), (.bipush 60, 0, 0, 60)] 89 = true := by decide +kernel
theorem dX11_init_89 : decode (MB MX11_init) 89 = .ok (.newarray .int, 2) := by decide +kernel
theorem dX11_init_91 : decode (MB MX11_init) 91 = .ok (.putfield 49, 3) := by decide +kernel
theorem sX11_init_94 : dsOk (MN MX11_init).cls (MB MX11_init) 94 [(.aload_n 0, 0, 0, 0)] 95 = true := by decide +kernel
theorem dX11_init_95 : decode (MB MX11_init) 95 = .ok (.new 52, 3) := by decide +kernel
theorem sX11_init_98 : dsOk (MN MX11_init).cls (MB MX11_init) 98 [(.dup, 0, 0, 0)] 99 = true := by decide +kernel
theorem dX11_init_99 : decode (MB MX11_init) 99 = .ok (.invokespecial 54, 3) := by decide +kernel
theorem dX11_init_102 : decode (MB MX11_init) 102 = .ok (.putfield 55, 3) := by decide +kernel
theorem sX11_init_105 : dsOk (MN MX11_init).cls (MB MX11_init) 105 [(.aload_n 0, 0, 0, 0)] 106 = true := by decide +kernel
theorem dX11_init_106 : decode (MB MX11_init) 106 = .ok (.new 59, 3) := by decide +kernel
theorem sX11_init_109 : dsOk (MN MX11_init).cls (MB MX11_init) 109 [(.dup, 0, 0, 0)] 110 = true := by decide +kernel
theorem dX11_init_110 : decode (MB MX11_init) 110 = .ok (.invokespecial 61, 3) := by decide +kernel
theorem dX11_init_113 : decode (MB MX11_init) 113 = .ok (.putfield 62, 3) := by decide +kernel
theorem sX11_init_116 : dsOk (MN MX11_init).cls (MB MX11_init) 116 [(.aload_n 0, 0, 0, 0)] 117 = true := by decide +kernel
theorem dX11_init_117 : decode (MB MX11_init) 117 = .ok (.new 66, 3) := by decide +kernel
theorem sX11_init_120 : dsOk (MN MX11_init).cls (MB MX11_init) 120 [(.dup, 0, 0, 0)] 121 = true := by decide +kernel
theorem dX11_init_121 : decode (MB MX11_init) 121 = .ok (.invokespecial 68, 3) := by decide +kernel
theorem dX11_init_124 : decode (MB MX11_init) 124 = .ok (.putfield 69, 3) := by decide +kernel
theorem sX11_init_127 : dsOk (MN MX11_init).cls (MB MX11_init) 127 [(.aload_n 0, 0, 0, 0)] 128 = true := by decide +kernel
theorem dX11_init_128 : decode (MB MX11_init) 128 = .ok (.new 73, 3) := by decide +kernel
theorem sX11_init_131 : dsOk (MN MX11_init).cls (MB MX11_init) 131 [(.dup, 0, 0, 0)] 132 = true := by decide +kernel
theorem dX11_init_132 : decode (MB MX11_init) 132 = .ok (.invokespecial 75, 3) := by decide +kernel
theorem dX11_init_135 : decode (MB MX11_init) 135 = .ok (.putfield 76, 3) := by decide +kernel
theorem dX11_init_138 : decode (MB MX11_init) 138 = .ok (.return_, 1) := by decide +kernel
def MX11_feed : Ms := (yX11_feed, cX11_feed, 6, (some .int), [])
set_option maxRecDepth 100000 in
theorem kX11_feed : mkV MX11_feed 5 := ⟨⟨List.mem_of_getElem? (i := 363) (by rfl), by decide +kernel⟩, by decide +kernel⟩
theorem sX11_feed_0 : dsOk (MN MX11_feed).cls (MB MX11_feed) 0 [(.aload_n 0, 0, 0, 0), (.getfield 80, 10, 1, 0), (.bipush 20, 0, 0, 20), (.iadd, 0, 0, 0), (.sipush 500, 0, 0, 500)] 10 = true := by decide +kernel
theorem dX11_feed_10 : decode (MB MX11_feed) 10 = .ok (.if_icmp .le 5, 3) := by decide +kernel
theorem sX11_feed_13 : dsOk (MN MX11_feed).cls (MB MX11_feed) 13 [(.iconst (-1), 0, 0, 0)] 14 = true := by decide +kernel
theorem dX11_feed_14 : decode (MB MX11_feed) 14 = .ok (.ireturn, 1) := by decide +kernel
theorem sX11_feed_15 : dsOk (MN MX11_feed).cls (MB MX11_feed) 15 [(.aload_n 0, 0, 0, 0), (.iload_n 1, 0, 0, 0)] 17 = true := by decide +kernel
theorem dX11_feed_17 : decode (MB MX11_feed) 17 = .ok (.invokevirtual 83, 3) := by decide +kernel
theorem sX11_feed_20 : dsOk (MN MX11_feed).cls (MB MX11_feed) 20 [(.aload_n 0, 0, 0, 0), (.iload_n 2, 0, 0, 0)] 22 = true := by decide +kernel
theorem dX11_feed_22 : decode (MB MX11_feed) 22 = .ok (.invokevirtual 83, 3) := by decide +kernel
theorem sX11_feed_25 : dsOk (MN MX11_feed).cls (MB MX11_feed) 25 [(.aload_n 0, 0, 0, 0), (.iload_n 3, 0, 0, 0)] 27 = true := by decide +kernel
theorem dX11_feed_27 : decode (MB MX11_feed) 27 = .ok (.invokevirtual 83, 3) := by decide +kernel
theorem sX11_feed_30 : dsOk (MN MX11_feed).cls (MB MX11_feed) 30 [(.aload_n 0, 0, 0, 0), (.iload 4, 0, 0, 0)] 33 = true := by decide +kernel
theorem dX11_feed_33 : decode (MB MX11_feed) 33 = .ok (.invokevirtual 83, 3) := by decide +kernel
theorem sX11_feed_36 : dsOk (MN MX11_feed).cls (MB MX11_feed) 36 [(.aload_n 0, 0, 0, 0), (.iload 5, 0, 0, 0)] 39 = true := by decide +kernel
theorem dX11_feed_39 : decode (MB MX11_feed) 39 = .ok (.invokevirtual 83, 3) := by decide +kernel
theorem sX11_feed_42 : dsOk (MN MX11_feed).cls (MB MX11_feed) 42 [(.aload_n 0, 0, 0, 0), (.getfield 80, 10, 1, 0)] 46 = true := by decide +kernel
theorem dX11_feed_46 : decode (MB MX11_feed) 46 = .ok (.ireturn, 1) := by decide +kernel
def MX11_feedFour : Ms := (yX11_feedFour, cX11_feedFour, 3, none, [])
set_option maxRecDepth 100000 in
theorem kX11_feedFour : mkV MX11_feedFour 1 := ⟨⟨List.mem_of_getElem? (i := 367) (by rfl), by decide +kernel⟩, by decide +kernel⟩
theorem sX11_feedFour_0 : dsOk (MN MX11_feedFour).cls (MB MX11_feedFour) 0 [(.bipush 24, 0, 0, 24), (.istore_n 2, 0, 0, 0)] 3 = true := by decide +kernel
theorem sX11_feedFour_3 : dsOk (MN MX11_feedFour).cls (MB MX11_feedFour) 3 [(.iload_n 2, 0, 0, 0)] 4 = true := by decide +kernel
theorem dX11_feedFour_4 : decode (MB MX11_feedFour) 4 = .ok (.ifCond .lt 37, 3) := by decide +kernel
theorem sX11_feedFour_7 : dsOk (MN MX11_feedFour).cls (MB MX11_feedFour) 7 [(.aload_n 0, 0, 0, 0), (.getfield 9, 10, 0, 0), (.aload_n 0, 0, 0, 0), (.getfield 80, 10, 1, 0), (.iload_n 1, 0, 0, 0), (.iload_n 2, 0, 0, 0), (.iushr, 0, 0, 0), (.sipush 255, 0, 0, 255), (.iand, 0, 0, 0)] 22 = true := by decide +kernel
theorem dX11_feedFour_22 : decode (MB MX11_feedFour) 22 = .ok (.invokestatic 87, 3) := by decide +kernel
theorem sX11_feedFour_25 : dsOk (MN MX11_feedFour).cls (MB MX11_feedFour) 25 [(.aload_n 0, 0, 0, 0), (.dup, 0, 0, 0), (.getfield 80, 10, 1, 0), (.iconst 1, 0, 0, 0), (.iadd, 0, 0, 0), (.putfield 80, 10, 1, 0), (.iinc 2 (-8), 0, 0, 0)] 38 = true := by decide +kernel
theorem dX11_feedFour_38 : decode (MB MX11_feedFour) 38 = .ok (.goto (-35), 3) := by decide +kernel
theorem dX11_feedFour_41 : decode (MB MX11_feedFour) 41 = .ok (.return_, 1) := by decide +kernel
def MX11_shelf : Ms := (yX11_shelf, cX11_shelf, 3, (some .int), [])
set_option maxRecDepth 100000 in
theorem kX11_shelf : mkV MX11_shelf 1 := ⟨⟨List.mem_of_getElem? (i := 437) (by rfl), by decide +kernel⟩, by decide +kernel⟩
theorem sX11_shelf_0 : dsOk (MN MX11_shelf).cls (MB MX11_shelf) 0 [(.iload_n 1, 0, 0, 0)] 1 = true := by decide +kernel
theorem dX11_shelf_1 : decode (MB MX11_shelf) 1 = .ok (.ifCond .lt 11, 3) := by decide +kernel
theorem sX11_shelf_4 : dsOk (MN MX11_shelf).cls (MB MX11_shelf) 4 [(.iload_n 1, 0, 0, 0), (.aload_n 0, 0, 0, 0), (.getfield 80, 10, 1, 0)] 9 = true := by decide +kernel
theorem dX11_shelf_9 : decode (MB MX11_shelf) 9 = .ok (.if_icmp .le 13, 3) := by decide +kernel
theorem dX11_shelf_12 : decode (MB MX11_shelf) 12 = .ok (.new 91, 3) := by decide +kernel
theorem sX11_shelf_15 : dsOk (MN MX11_shelf).cls (MB MX11_shelf) 15 [(.dup, 0, 0, 0)] 16 = true := by decide +kernel
theorem dX11_shelf_16 : decode (MB MX11_shelf) 16 = .ok (.ldc 93, 2) := by decide +kernel
theorem dX11_shelf_18 : decode (MB MX11_shelf) 18 = .ok (.invokespecial 95, 3) := by decide +kernel
theorem dX11_shelf_21 : decode (MB MX11_shelf) 21 = .ok (.athrow, 1) := by decide +kernel
theorem sX11_shelf_22 : dsOk (MN MX11_shelf).cls (MB MX11_shelf) 22 [(.aload_n 0, 0, 0, 0), (.iconst 0, 0, 0, 0), (.putfield 80, 10, 1, 0), (.aload_n 0, 0, 0, 0), (.getfield 18, 10, 2, 0), (.iload_n 1, 0, 0, 0), (.aload_n 0, 0, 0, 0), (.getfield 29, 10, 4, 0)] 36 = true := by decide +kernel
theorem dX11_shelf_36 : decode (MB MX11_shelf) 36 = .ok (.invokevirtual 98, 3) := by decide +kernel
theorem sX11_shelf_39 : dsOk (MN MX11_shelf).cls (MB MX11_shelf) 39 [(.istore_n 2, 0, 0, 0), (.iload_n 2, 0, 0, 0)] 41 = true := by decide +kernel
theorem dX11_shelf_41 : decode (MB MX11_shelf) 41 = .ok (.ifCond .eq 25, 3) := by decide +kernel
theorem sX11_shelf_44 : dsOk (MN MX11_shelf).cls (MB MX11_shelf) 44 [(.aload_n 0, 0, 0, 0), (.aload_n 0, 0, 0, 0), (.getfield 18, 10, 2, 0)] 49 = true := by decide +kernel
theorem dX11_shelf_49 : decode (MB MX11_shelf) 49 = .ok (.invokevirtual 102, 3) := by decide +kernel
theorem sX11_shelf_52 : dsOk (MN MX11_shelf).cls (MB MX11_shelf) 52 [(.putfield 32, 10, 5, 0), (.aload_n 0, 0, 0, 0), (.getfield 39, 10, 6, 0), (.iconst 0, 0, 0, 0)] 60 = true := by decide +kernel
theorem dX11_shelf_60 : decode (MB MX11_shelf) 60 = .ok (.invokevirtual 106, 3) := by decide +kernel
theorem sX11_shelf_63 : dsOk (MN MX11_shelf).cls (MB MX11_shelf) 63 [(.pop, 0, 0, 0), (.iload_n 2, 0, 0, 0)] 65 = true := by decide +kernel
theorem dX11_shelf_65 : decode (MB MX11_shelf) 65 = .ok (.ireturn, 1) := by decide +kernel
theorem sX11_shelf_66 : dsOk (MN MX11_shelf).cls (MB MX11_shelf) 66 [(.aload_n 0, 0, 0, 0), (.iconst (-1), 0, 0, 0), (.putfield 32, 10, 5, 0), (.aload_n 0, 0, 0, 0)] 72 = true := by decide +kernel
theorem dX11_shelf_72 : decode (MB MX11_shelf) 72 = .ok (.invokevirtual 110, 3) := by decide +kernel
theorem sX11_shelf_75 : dsOk (MN MX11_shelf).cls (MB MX11_shelf) 75 [(.iconst 0, 0, 0, 0)] 76 = true := by decide +kernel
theorem dX11_shelf_76 : decode (MB MX11_shelf) 76 = .ok (.ireturn, 1) := by decide +kernel
def MX11_changeShelves : Ms := (yX11_changeShelves, cX11_changeShelves, 3, none, [])
set_option maxRecDepth 100000 in
theorem kX11_changeShelves : mkV MX11_changeShelves 0 := ⟨⟨List.mem_of_getElem? (i := 784) (by rfl), by decide +kernel⟩, by decide +kernel⟩
theorem sX11_changeShelves_0 : dsOk (MN MX11_changeShelves).cls (MB MX11_changeShelves) 0 [(.aload_n 0, 0, 0, 0), (.getfield 25, 10, 3, 0), (.astore_n 1, 0, 0, 0), (.aload_n 0, 0, 0, 0), (.aload_n 0, 0, 0, 0), (.getfield 29, 10, 4, 0), (.putfield 25, 10, 3, 0), (.aload_n 0, 0, 0, 0), (.aload_n 1, 0, 0, 0), (.putfield 29, 10, 4, 0), (.aload_n 0, 0, 0, 0), (.getfield 39, 10, 6, 0)] 22 = true := by decide +kernel
theorem dX11_changeShelves_22 : decode (MB MX11_changeShelves) 22 = .ok (.invokevirtual 113, 3) := by decide +kernel
theorem sX11_changeShelves_25 : dsOk (MN MX11_changeShelves).cls (MB MX11_changeShelves) 25 [(.aload_n 0, 0, 0, 0), (.iconst 0, 0, 0, 0), (.putfield 116, 10, 8, 0), (.aload_n 0, 0, 0, 0), (.getfield 69, 10, 13, 0)] 34 = true := by decide +kernel
theorem dX11_changeShelves_34 : decode (MB MX11_changeShelves) 34 = .ok (.invokevirtual 120, 3) := by decide +kernel
theorem sX11_changeShelves_37 : dsOk (MN MX11_changeShelves).cls (MB MX11_changeShelves) 37 [(.aload_n 0, 0, 0, 0), (.getfield 76, 10, 14, 0)] 41 = true := by decide +kernel
theorem dX11_changeShelves_41 : decode (MB MX11_changeShelves) 41 = .ok (.invokevirtual 121, 3) := by decide +kernel
theorem sX11_changeShelves_44 : dsOk (MN MX11_changeShelves).cls (MB MX11_changeShelves) 44 [(.iconst 0, 0, 0, 0), (.istore_n 2, 0, 0, 0)] 46 = true := by decide +kernel
theorem sX11_changeShelves_46 : dsOk (MN MX11_changeShelves).cls (MB MX11_changeShelves) 46 [(.iload_n 2, 0, 0, 0), (.aload_n 0, 0, 0, 0), (.getfield 46, 10, 9, 0), (.arraylength, 0, 0, 0)] 52 = true := by decide +kernel
theorem dX11_changeShelves_52 : decode (MB MX11_changeShelves) 52 = .ok (.if_icmp .ge 16, 3) := by decide +kernel
theorem sX11_changeShelves_55 : dsOk (MN MX11_changeShelves).cls (MB MX11_changeShelves) 55 [(.aload_n 0, 0, 0, 0), (.getfield 46, 10, 9, 0), (.iload_n 2, 0, 0, 0), (.iconst 0, 0, 0, 0), (.iastore, 0, 0, 0), (.iinc 2 1, 0, 0, 0)] 65 = true := by decide +kernel
theorem dX11_changeShelves_65 : decode (MB MX11_changeShelves) 65 = .ok (.goto (-19), 3) := by decide +kernel
theorem dX11_changeShelves_68 : decode (MB MX11_changeShelves) 68 = .ok (.return_, 1) := by decide +kernel
def MX11_fault : Ms := (yX11_fault, cX11_fault, 1, (some .int), [])
set_option maxRecDepth 100000 in
theorem kX11_fault : mkV MX11_fault 0 := ⟨⟨List.mem_of_getElem? (i := 374) (by rfl), by decide +kernel⟩, by decide +kernel⟩
theorem sX11_fault_0 : dsOk (MN MX11_fault).cls (MB MX11_fault) 0 [(.aload_n 0, 0, 0, 0), (.getfield 32, 10, 5, 0)] 4 = true := by decide +kernel
theorem dX11_fault_4 : decode (MB MX11_fault) 4 = .ok (.ireturn, 1) := by decide +kernel
def MX11_count : Ms := (yX11_count, cX11_count, 2, (some .int), [])
set_option maxRecDepth 100000 in
theorem kX11_count : mkV MX11_count 1 := ⟨⟨List.mem_of_getElem? (i := 805) (by rfl), by decide +kernel⟩, by decide +kernel⟩
theorem sX11_count_0 : dsOk (MN MX11_count).cls (MB MX11_count) 0 [(.iload_n 1, 0, 0, 0), (.bipush 10, 0, 0, 10)] 3 = true := by decide +kernel
theorem dX11_count_3 : decode (MB MX11_count) 3 = .ok (.if_icmp .lt 21, 3) := by decide +kernel
theorem sX11_count_6 : dsOk (MN MX11_count).cls (MB MX11_count) 6 [(.iload_n 1, 0, 0, 0), (.bipush 20, 0, 0, 20)] 9 = true := by decide +kernel
theorem dX11_count_9 : decode (MB MX11_count) 9 = .ok (.if_icmp .ge 15, 3) := by decide +kernel
theorem sX11_count_12 : dsOk (MN MX11_count).cls (MB MX11_count) 12 [(.aload_n 0, 0, 0, 0), (.getfield 25, 10, 3, 0), (.iload_n 1, 0, 0, 0), (.bipush 10, 0, 0, 10), (.isub, 0, 0, 0)] 20 = true := by decide +kernel
theorem dX11_count_20 : decode (MB MX11_count) 20 = .ok (.invokevirtual 122, 3) := by decide +kernel
theorem dX11_count_23 : decode (MB MX11_count) 23 = .ok (.ireturn, 1) := by decide +kernel
theorem sX11_count_24 : dsOk (MN MX11_count).cls (MB MX11_count) 24 [(.iload_n 1, 0, 0, 0)] 25 = true := by decide +kernel
theorem dX11_count_25 : decode (MB MX11_count) 25 = .ok (.tableswitch 136 0 9 #[55, 63, 71, 79, 87, 92, 101, 110, 119, 128], 55) := by decide +kernel
theorem sX11_count_80 : dsOk (MN MX11_count).cls (MB MX11_count) 80 [(.aload_n 0, 0, 0, 0), (.getfield 25, 10, 3, 0), (.getfield 125, 6, 1, 0)] 87 = true := by decide +kernel
theorem dX11_count_87 : decode (MB MX11_count) 87 = .ok (.ireturn, 1) := by decide +kernel
theorem sX11_count_88 : dsOk (MN MX11_count).cls (MB MX11_count) 88 [(.aload_n 0, 0, 0, 0), (.getfield 25, 10, 3, 0), (.getfield 128, 6, 4, 0)] 95 = true := by decide +kernel
theorem dX11_count_95 : decode (MB MX11_count) 95 = .ok (.ireturn, 1) := by decide +kernel
theorem sX11_count_96 : dsOk (MN MX11_count).cls (MB MX11_count) 96 [(.aload_n 0, 0, 0, 0), (.getfield 39, 10, 6, 0), (.getfield 131, 2, 3, 0)] 103 = true := by decide +kernel
theorem dX11_count_103 : decode (MB MX11_count) 103 = .ok (.ireturn, 1) := by decide +kernel
theorem sX11_count_104 : dsOk (MN MX11_count).cls (MB MX11_count) 104 [(.aload_n 0, 0, 0, 0), (.getfield 39, 10, 6, 0), (.getfield 134, 2, 5, 0)] 111 = true := by decide +kernel
theorem dX11_count_111 : decode (MB MX11_count) 111 = .ok (.ireturn, 1) := by decide +kernel
theorem sX11_count_112 : dsOk (MN MX11_count).cls (MB MX11_count) 112 [(.aload_n 0, 0, 0, 0), (.getfield 80, 10, 1, 0)] 116 = true := by decide +kernel
theorem dX11_count_116 : decode (MB MX11_count) 116 = .ok (.ireturn, 1) := by decide +kernel
theorem sX11_count_117 : dsOk (MN MX11_count).cls (MB MX11_count) 117 [(.aload_n 0, 0, 0, 0), (.getfield 39, 10, 6, 0), (.iconst 0, 0, 0, 0)] 122 = true := by decide +kernel
theorem dX11_count_122 : decode (MB MX11_count) 122 = .ok (.invokevirtual 137, 3) := by decide +kernel
theorem dX11_count_125 : decode (MB MX11_count) 125 = .ok (.ireturn, 1) := by decide +kernel
theorem sX11_count_126 : dsOk (MN MX11_count).cls (MB MX11_count) 126 [(.aload_n 0, 0, 0, 0), (.getfield 39, 10, 6, 0), (.iconst 1, 0, 0, 0)] 131 = true := by decide +kernel
theorem dX11_count_131 : decode (MB MX11_count) 131 = .ok (.invokevirtual 137, 3) := by decide +kernel
theorem dX11_count_134 : decode (MB MX11_count) 134 = .ok (.ireturn, 1) := by decide +kernel
theorem sX11_count_135 : dsOk (MN MX11_count).cls (MB MX11_count) 135 [(.aload_n 0, 0, 0, 0), (.getfield 39, 10, 6, 0), (.iconst 2, 0, 0, 0)] 140 = true := by decide +kernel
theorem dX11_count_140 : decode (MB MX11_count) 140 = .ok (.invokevirtual 137, 3) := by decide +kernel
theorem dX11_count_143 : decode (MB MX11_count) 143 = .ok (.ireturn, 1) := by decide +kernel
theorem sX11_count_144 : dsOk (MN MX11_count).cls (MB MX11_count) 144 [(.aload_n 0, 0, 0, 0), (.getfield 39, 10, 6, 0), (.iconst 3, 0, 0, 0)] 149 = true := by decide +kernel
theorem dX11_count_149 : decode (MB MX11_count) 149 = .ok (.invokevirtual 137, 3) := by decide +kernel
theorem dX11_count_152 : decode (MB MX11_count) 152 = .ok (.ireturn, 1) := by decide +kernel
theorem sX11_count_153 : dsOk (MN MX11_count).cls (MB MX11_count) 153 [(.aload_n 0, 0, 0, 0), (.getfield 39, 10, 6, 0), (.getfield 140, 2, 9, 0)] 160 = true := by decide +kernel
theorem dX11_count_160 : decode (MB MX11_count) 160 = .ok (.ireturn, 1) := by decide +kernel
theorem dX11_count_161 : decode (MB MX11_count) 161 = .ok (.new 143, 3) := by decide +kernel
theorem sX11_count_164 : dsOk (MN MX11_count).cls (MB MX11_count) 164 [(.dup, 0, 0, 0)] 165 = true := by decide +kernel
theorem dX11_count_165 : decode (MB MX11_count) 165 = .ok (.ldc 145, 2) := by decide +kernel
theorem dX11_count_167 : decode (MB MX11_count) 167 = .ok (.invokespecial 147, 3) := by decide +kernel
theorem dX11_count_170 : decode (MB MX11_count) 170 = .ok (.athrow, 1) := by decide +kernel
def MX11_needBook : Ms := (yX11_needBook, cX11_needBook, 3, (some (.object "TornLeaves$Book")), [])
set_option maxRecDepth 100000 in
theorem kX11_needBook : mkV MX11_needBook 1 := ⟨⟨List.mem_of_getElem? (i := 841) (by rfl), by decide +kernel⟩, by decide +kernel⟩
theorem sX11_needBook_0 : dsOk (MN MX11_needBook).cls (MB MX11_needBook) 0 [(.aload_n 0, 0, 0, 0), (.getfield 25, 10, 3, 0), (.iload_n 1, 0, 0, 0)] 5 = true := by decide +kernel
theorem dX11_needBook_5 : decode (MB MX11_needBook) 5 = .ok (.invokevirtual 148, 3) := by decide +kernel
theorem sX11_needBook_8 : dsOk (MN MX11_needBook).cls (MB MX11_needBook) 8 [(.astore_n 2, 0, 0, 0), (.aload_n 2, 0, 0, 0)] 10 = true := by decide +kernel
theorem dX11_needBook_10 : decode (MB MX11_needBook) 10 = .ok (.ifnonnull 13, 3) := by decide +kernel
theorem dX11_needBook_13 : decode (MB MX11_needBook) 13 = .ok (.new 143, 3) := by decide +kernel
theorem sX11_needBook_16 : dsOk (MN MX11_needBook).cls (MB MX11_needBook) 16 [(.dup, 0, 0, 0)] 17 = true := by decide +kernel
theorem dX11_needBook_17 : decode (MB MX11_needBook) 17 = .ok (.ldc 152, 2) := by decide +kernel
theorem dX11_needBook_19 : decode (MB MX11_needBook) 19 = .ok (.invokespecial 147, 3) := by decide +kernel
theorem dX11_needBook_22 : decode (MB MX11_needBook) 22 = .ok (.athrow, 1) := by decide +kernel
theorem sX11_needBook_23 : dsOk (MN MX11_needBook).cls (MB MX11_needBook) 23 [(.aload_n 2, 0, 0, 0)] 24 = true := by decide +kernel
theorem dX11_needBook_24 : decode (MB MX11_needBook) 24 = .ok (.areturn, 1) := by decide +kernel
def MX11_needLeaf : Ms := (yX11_needLeaf, cX11_needLeaf, 4, (some (.object "TornLeaves$Book")), [])
set_option maxRecDepth 100000 in
theorem kX11_needLeaf : mkV MX11_needLeaf 2 := ⟨⟨List.mem_of_getElem? (i := 855) (by rfl), by decide +kernel⟩, by decide +kernel⟩
theorem sX11_needLeaf_0 : dsOk (MN MX11_needLeaf).cls (MB MX11_needLeaf) 0 [(.aload_n 0, 0, 0, 0), (.iload_n 1, 0, 0, 0)] 2 = true := by decide +kernel
theorem dX11_needLeaf_2 : decode (MB MX11_needLeaf) 2 = .ok (.invokevirtual 154, 3) := by decide +kernel
theorem sX11_needLeaf_5 : dsOk (MN MX11_needLeaf).cls (MB MX11_needLeaf) 5 [(.astore_n 3, 0, 0, 0), (.aload_n 3, 0, 0, 0), (.iload_n 2, 0, 0, 0)] 8 = true := by decide +kernel
theorem dX11_needLeaf_8 : decode (MB MX11_needLeaf) 8 = .ok (.invokevirtual 157, 3) := by decide +kernel
theorem dX11_needLeaf_11 : decode (MB MX11_needLeaf) 11 = .ok (.ifCond .ne 13, 3) := by decide +kernel
theorem dX11_needLeaf_14 : decode (MB MX11_needLeaf) 14 = .ok (.new 143, 3) := by decide +kernel
theorem sX11_needLeaf_17 : dsOk (MN MX11_needLeaf).cls (MB MX11_needLeaf) 17 [(.dup, 0, 0, 0)] 18 = true := by decide +kernel
theorem dX11_needLeaf_18 : decode (MB MX11_needLeaf) 18 = .ok (.ldc 163, 2) := by decide +kernel
theorem dX11_needLeaf_20 : decode (MB MX11_needLeaf) 20 = .ok (.invokespecial 147, 3) := by decide +kernel
theorem dX11_needLeaf_23 : decode (MB MX11_needLeaf) 23 = .ok (.athrow, 1) := by decide +kernel
theorem sX11_needLeaf_24 : dsOk (MN MX11_needLeaf).cls (MB MX11_needLeaf) 24 [(.aload_n 3, 0, 0, 0)] 25 = true := by decide +kernel
theorem dX11_needLeaf_25 : decode (MB MX11_needLeaf) 25 = .ok (.areturn, 1) := by decide +kernel
def MX11_needPage : Ms := (yX11_needPage, cX11_needPage, 4, (some (.object "TornLeaves$Book")), [])
set_option maxRecDepth 100000 in
theorem kX11_needPage : mkV MX11_needPage 2 := ⟨⟨List.mem_of_getElem? (i := 869) (by rfl), by decide +kernel⟩, by decide +kernel⟩
theorem sX11_needPage_0 : dsOk (MN MX11_needPage).cls (MB MX11_needPage) 0 [(.aload_n 0, 0, 0, 0), (.iload_n 1, 0, 0, 0)] 2 = true := by decide +kernel
theorem dX11_needPage_2 : decode (MB MX11_needPage) 2 = .ok (.invokevirtual 154, 3) := by decide +kernel
theorem sX11_needPage_5 : dsOk (MN MX11_needPage).cls (MB MX11_needPage) 5 [(.astore_n 3, 0, 0, 0), (.aload_n 3, 0, 0, 0), (.iload_n 2, 0, 0, 0)] 8 = true := by decide +kernel
theorem dX11_needPage_8 : decode (MB MX11_needPage) 8 = .ok (.invokevirtual 165, 3) := by decide +kernel
theorem dX11_needPage_11 : decode (MB MX11_needPage) 11 = .ok (.ifCond .ne 13, 3) := by decide +kernel
theorem dX11_needPage_14 : decode (MB MX11_needPage) 14 = .ok (.new 143, 3) := by decide +kernel
theorem sX11_needPage_17 : dsOk (MN MX11_needPage).cls (MB MX11_needPage) 17 [(.dup, 0, 0, 0)] 18 = true := by decide +kernel
theorem dX11_needPage_18 : decode (MB MX11_needPage) 18 = .ok (.ldc 168, 2) := by decide +kernel
theorem dX11_needPage_20 : decode (MB MX11_needPage) 20 = .ok (.invokespecial 147, 3) := by decide +kernel
theorem dX11_needPage_23 : decode (MB MX11_needPage) 23 = .ok (.athrow, 1) := by decide +kernel
theorem sX11_needPage_24 : dsOk (MN MX11_needPage).cls (MB MX11_needPage) 24 [(.aload_n 3, 0, 0, 0)] 25 = true := by decide +kernel
theorem dX11_needPage_25 : decode (MB MX11_needPage) 25 = .ok (.areturn, 1) := by decide +kernel
def MX11_needFigure : Ms := (yX11_needFigure, cX11_needFigure, 1, none, [])
set_option maxRecDepth 100000 in
theorem kX11_needFigure : mkS MX11_needFigure 1 := ⟨⟨List.mem_of_getElem? (i := 957) (by rfl), by decide +kernel⟩, by decide +kernel⟩
theorem sX11_needFigure_0 : dsOk (MN MX11_needFigure).cls (MB MX11_needFigure) 0 [(.iload_n 0, 0, 0, 0)] 1 = true := by decide +kernel
theorem dX11_needFigure_1 : decode (MB MX11_needFigure) 1 = .ok (.ifCond .lt 9, 3) := by decide +kernel
theorem sX11_needFigure_4 : dsOk (MN MX11_needFigure).cls (MB MX11_needFigure) 4 [(.iload_n 0, 0, 0, 0), (.bipush 10, 0, 0, 10)] 7 = true := by decide +kernel
theorem dX11_needFigure_7 : decode (MB MX11_needFigure) 7 = .ok (.if_icmp .le 13, 3) := by decide +kernel
theorem dX11_needFigure_10 : decode (MB MX11_needFigure) 10 = .ok (.new 143, 3) := by decide +kernel
theorem sX11_needFigure_13 : dsOk (MN MX11_needFigure).cls (MB MX11_needFigure) 13 [(.dup, 0, 0, 0)] 14 = true := by decide +kernel
theorem dX11_needFigure_14 : decode (MB MX11_needFigure) 14 = .ok (.ldc 170, 2) := by decide +kernel
theorem dX11_needFigure_16 : decode (MB MX11_needFigure) 16 = .ok (.invokespecial 147, 3) := by decide +kernel
theorem dX11_needFigure_19 : decode (MB MX11_needFigure) 19 = .ok (.athrow, 1) := by decide +kernel
theorem dX11_needFigure_20 : decode (MB MX11_needFigure) 20 = .ok (.return_, 1) := by decide +kernel
def MX11_needSum : Ms := (yX11_needSum, cX11_needSum, 2, none, [])
set_option maxRecDepth 100000 in
theorem kX11_needSum : mkS MX11_needSum 1 := ⟨⟨List.mem_of_getElem? (i := 1011) (by rfl), by decide +kernel⟩, by decide +kernel⟩
theorem sX11_needSum_0 : dsOk (MN MX11_needSum).cls (MB MX11_needSum) 0 [(.lload_n 0, 0, 0, 0), (.lconst 1, 0, 0, 1), (.lcmp, 0, 0, 0)] 3 = true := by decide +kernel
theorem dX11_needSum_3 : decode (MB MX11_needSum) 3 = .ok (.ifCond .lt 11, 3) := by decide +kernel
theorem sX11_needSum_6 : dsOk (MN MX11_needSum).cls (MB MX11_needSum) 6 [(.lload_n 0, 0, 0, 0), (.ldc2_w 172, 0, 0, 1000000000000000000), (.lcmp, 0, 0, 0)] 11 = true := by decide +kernel
theorem dX11_needSum_11 : decode (MB MX11_needSum) 11 = .ok (.ifCond .le 13, 3) := by decide +kernel
theorem dX11_needSum_14 : decode (MB MX11_needSum) 14 = .ok (.new 91, 3) := by decide +kernel
theorem sX11_needSum_17 : dsOk (MN MX11_needSum).cls (MB MX11_needSum) 17 [(.dup, 0, 0, 0)] 18 = true := by decide +kernel
theorem dX11_needSum_18 : decode (MB MX11_needSum) 18 = .ok (.ldc 174, 2) := by decide +kernel
theorem dX11_needSum_20 : decode (MB MX11_needSum) 20 = .ok (.invokespecial 95, 3) := by decide +kernel
theorem dX11_needSum_23 : decode (MB MX11_needSum) 23 = .ok (.athrow, 1) := by decide +kernel
theorem dX11_needSum_24 : decode (MB MX11_needSum) 24 = .ok (.return_, 1) := by decide +kernel
def MX11_needWithin : Ms := (yX11_needWithin, cX11_needWithin, 6, none, [])
set_option maxRecDepth 100000 in
theorem kX11_needWithin : mkS MX11_needWithin 3 := ⟨⟨List.mem_of_getElem? (i := 1064) (by rfl), by decide +kernel⟩, by decide +kernel⟩
theorem sX11_needWithin_0 : dsOk (MN MX11_needWithin).cls (MB MX11_needWithin) 0 [(.lload_n 0, 0, 0, 0), (.lload_n 2, 0, 0, 0), (.lcmp, 0, 0, 0)] 3 = true := by decide +kernel
theorem dX11_needWithin_3 : decode (MB MX11_needWithin) 3 = .ok (.ifCond .lt 10, 3) := by decide +kernel
theorem sX11_needWithin_6 : dsOk (MN MX11_needWithin).cls (MB MX11_needWithin) 6 [(.lload_n 0, 0, 0, 0), (.lload 4, 0, 0, 0), (.lcmp, 0, 0, 0)] 10 = true := by decide +kernel
theorem dX11_needWithin_10 : decode (MB MX11_needWithin) 10 = .ok (.ifCond .le 13, 3) := by decide +kernel
theorem dX11_needWithin_13 : decode (MB MX11_needWithin) 13 = .ok (.new 91, 3) := by decide +kernel
theorem sX11_needWithin_16 : dsOk (MN MX11_needWithin).cls (MB MX11_needWithin) 16 [(.dup, 0, 0, 0)] 17 = true := by decide +kernel
theorem dX11_needWithin_17 : decode (MB MX11_needWithin) 17 = .ok (.ldc 176, 2) := by decide +kernel
theorem dX11_needWithin_19 : decode (MB MX11_needWithin) 19 = .ok (.invokespecial 95, 3) := by decide +kernel
theorem dX11_needWithin_22 : decode (MB MX11_needWithin) 22 = .ok (.athrow, 1) := by decide +kernel
theorem dX11_needWithin_23 : decode (MB MX11_needWithin) 23 = .ok (.return_, 1) := by decide +kernel
def MX11_book : Ms := (yX11_book, cX11_book, 4, (some .int), [])
set_option maxRecDepth 100000 in
theorem kX11_book : mkV MX11_book 2 := ⟨⟨List.mem_of_getElem? (i := 837) (by rfl), by decide +kernel⟩, by decide +kernel⟩
theorem sX11_book_0 : dsOk (MN MX11_book).cls (MB MX11_book) 0 [(.aload_n 0, 0, 0, 0), (.iload_n 1, 0, 0, 0)] 2 = true := by decide +kernel
theorem dX11_book_2 : decode (MB MX11_book) 2 = .ok (.invokevirtual 154, 3) := by decide +kernel
theorem sX11_book_5 : dsOk (MN MX11_book).cls (MB MX11_book) 5 [(.astore_n 3, 0, 0, 0), (.iload_n 2, 0, 0, 0)] 7 = true := by decide +kernel
theorem dX11_book_7 : decode (MB MX11_book) 7 = .ok (.tableswitch 52 0 3 #[29, 34, 39, 47], 29) := by decide +kernel
theorem sX11_book_36 : dsOk (MN MX11_book).cls (MB MX11_book) 36 [(.aload_n 3, 0, 0, 0), (.getfield 178, 0, 0, 0)] 40 = true := by decide +kernel
theorem dX11_book_40 : decode (MB MX11_book) 40 = .ok (.ireturn, 1) := by decide +kernel
theorem sX11_book_41 : dsOk (MN MX11_book).cls (MB MX11_book) 41 [(.aload_n 3, 0, 0, 0), (.getfield 181, 0, 1, 0)] 45 = true := by decide +kernel
theorem dX11_book_45 : decode (MB MX11_book) 45 = .ok (.ireturn, 1) := by decide +kernel
theorem sX11_book_46 : dsOk (MN MX11_book).cls (MB MX11_book) 46 [(.aload_n 3, 0, 0, 0), (.getfield 184, 0, 5, 0)] 50 = true := by decide +kernel
theorem dX11_book_50 : decode (MB MX11_book) 50 = .ok (.invokevirtual 188, 3) := by decide +kernel
theorem dX11_book_53 : decode (MB MX11_book) 53 = .ok (.ireturn, 1) := by decide +kernel
theorem sX11_book_54 : dsOk (MN MX11_book).cls (MB MX11_book) 54 [(.aload_n 3, 0, 0, 0), (.getfield 193, 0, 2, 0)] 58 = true := by decide +kernel
theorem dX11_book_58 : decode (MB MX11_book) 58 = .ok (.ireturn, 1) := by decide +kernel
theorem dX11_book_59 : decode (MB MX11_book) 59 = .ok (.new 143, 3) := by decide +kernel
theorem sX11_book_62 : dsOk (MN MX11_book).cls (MB MX11_book) 62 [(.dup, 0, 0, 0)] 63 = true := by decide +kernel
theorem dX11_book_63 : decode (MB MX11_book) 63 = .ok (.ldc 196, 2) := by decide +kernel
theorem dX11_book_65 : decode (MB MX11_book) 65 = .ok (.invokespecial 147, 3) := by decide +kernel
theorem dX11_book_68 : decode (MB MX11_book) 68 = .ok (.athrow, 1) := by decide +kernel
def MX11_isThere : Ms := (yX11_isThere, cX11_isThere, 3, (some .boolean), [])
set_option maxRecDepth 100000 in
theorem kX11_isThere : mkV MX11_isThere 2 := ⟨⟨List.mem_of_getElem? (i := 851) (by rfl), by decide +kernel⟩, by decide +kernel⟩
theorem sX11_isThere_0 : dsOk (MN MX11_isThere).cls (MB MX11_isThere) 0 [(.aload_n 0, 0, 0, 0), (.iload_n 1, 0, 0, 0), (.iload_n 2, 0, 0, 0)] 3 = true := by decide +kernel
theorem dX11_isThere_3 : decode (MB MX11_isThere) 3 = .ok (.invokevirtual 198, 3) := by decide +kernel
theorem sX11_isThere_6 : dsOk (MN MX11_isThere).cls (MB MX11_isThere) 6 [(.getfield 184, 0, 5, 0), (.iload_n 2, 0, 0, 0)] 10 = true := by decide +kernel
theorem dX11_isThere_10 : decode (MB MX11_isThere) 10 = .ok (.invokevirtual 202, 3) := by decide +kernel
theorem dX11_isThere_13 : decode (MB MX11_isThere) 13 = .ok (.ifCond .ne 7, 3) := by decide +kernel
theorem sX11_isThere_16 : dsOk (MN MX11_isThere).cls (MB MX11_isThere) 16 [(.iconst 1, 0, 0, 0)] 17 = true := by decide +kernel
theorem dX11_isThere_17 : decode (MB MX11_isThere) 17 = .ok (.goto 4, 3) := by decide +kernel
theorem sX11_isThere_20 : dsOk (MN MX11_isThere).cls (MB MX11_isThere) 20 [(.iconst 0, 0, 0, 0)] 21 = true := by decide +kernel
theorem dX11_isThere_21 : decode (MB MX11_isThere) 21 = .ok (.ireturn, 1) := by decide +kernel
def MX11_number : Ms := (yX11_number, cX11_number, 3, (some .int), [])
set_option maxRecDepth 100000 in
theorem kX11_number : mkV MX11_number 2 := ⟨⟨List.mem_of_getElem? (i := 865) (by rfl), by decide +kernel⟩, by decide +kernel⟩
theorem sX11_number_0 : dsOk (MN MX11_number).cls (MB MX11_number) 0 [(.aload_n 0, 0, 0, 0), (.iload_n 1, 0, 0, 0), (.aload_n 0, 0, 0, 0), (.iload_n 1, 0, 0, 0), (.iload_n 2, 0, 0, 0)] 5 = true := by decide +kernel
theorem dX11_number_5 : decode (MB MX11_number) 5 = .ok (.invokevirtual 205, 3) := by decide +kernel
theorem sX11_number_8 : dsOk (MN MX11_number).cls (MB MX11_number) 8 [(.iload_n 2, 0, 0, 0)] 9 = true := by decide +kernel
theorem dX11_number_9 : decode (MB MX11_number) 9 = .ok (.invokevirtual 208, 3) := by decide +kernel
theorem dX11_number_12 : decode (MB MX11_number) 12 = .ok (.ireturn, 1) := by decide +kernel
def MX11_numberOn : Ms := (yX11_numberOn, cX11_numberOn, 6, (some .int), [])
set_option maxRecDepth 100000 in
theorem kX11_numberOn : mkV MX11_numberOn 3 := ⟨⟨List.mem_of_getElem? (i := 878) (by rfl), by decide +kernel⟩, by decide +kernel⟩
theorem sX11_numberOn_0 : dsOk (MN MX11_numberOn).cls (MB MX11_numberOn) 0 [(.aload_n 2, 0, 0, 0), (.getfield 178, 0, 0, 0), (.bipush 6, 0, 0, 6)] 6 = true := by decide +kernel
theorem dX11_numberOn_6 : decode (MB MX11_numberOn) 6 = .ok (.if_icmp .eq 9, 3) := by decide +kernel
theorem sX11_numberOn_9 : dsOk (MN MX11_numberOn).cls (MB MX11_numberOn) 9 [(.aload_n 2, 0, 0, 0), (.iload_n 3, 0, 0, 0)] 11 = true := by decide +kernel
theorem dX11_numberOn_11 : decode (MB MX11_numberOn) 11 = .ok (.invokevirtual 212, 3) := by decide +kernel
theorem dX11_numberOn_14 : decode (MB MX11_numberOn) 14 = .ok (.ireturn, 1) := by decide +kernel
theorem sX11_numberOn_15 : dsOk (MN MX11_numberOn).cls (MB MX11_numberOn) 15 [(.iload_n 1, 0, 0, 0), (.sipush 4000, 0, 0, 4000), (.imul, 0, 0, 0), (.iload_n 3, 0, 0, 0), (.iadd, 0, 0, 0), (.iconst 1, 0, 0, 0), (.isub, 0, 0, 0), (.istore 4, 0, 0, 0), (.aload_n 0, 0, 0, 0), (.getfield 46, 10, 9, 0), (.iload 4, 0, 0, 0)] 32 = true := by decide +kernel
theorem dX11_numberOn_32 : decode (MB MX11_numberOn) 32 = .ok (.invokestatic 215, 3) := by decide +kernel
theorem sX11_numberOn_35 : dsOk (MN MX11_numberOn).cls (MB MX11_numberOn) 35 [(.istore 5, 0, 0, 0), (.iload 5, 0, 0, 0)] 39 = true := by decide +kernel
theorem dX11_numberOn_39 : decode (MB MX11_numberOn) 39 = .ok (.ifCond .ne 27, 3) := by decide +kernel
theorem sX11_numberOn_42 : dsOk (MN MX11_numberOn).cls (MB MX11_numberOn) 42 [(.aload_n 0, 0, 0, 0), (.getfield 25, 10, 3, 0), (.aload_n 2, 0, 0, 0), (.iload_n 3, 0, 0, 0)] 48 = true := by decide +kernel
theorem dX11_numberOn_48 : decode (MB MX11_numberOn) 48 = .ok (.invokevirtual 219, 3) := by decide +kernel
theorem sX11_numberOn_51 : dsOk (MN MX11_numberOn).cls (MB MX11_numberOn) 51 [(.iconst 1, 0, 0, 0), (.iadd, 0, 0, 0), (.istore 5, 0, 0, 0), (.aload_n 0, 0, 0, 0), (.getfield 46, 10, 9, 0), (.iload 4, 0, 0, 0), (.iload 5, 0, 0, 0)] 63 = true := by decide +kernel
theorem dX11_numberOn_63 : decode (MB MX11_numberOn) 63 = .ok (.invokestatic 87, 3) := by decide +kernel
theorem sX11_numberOn_66 : dsOk (MN MX11_numberOn).cls (MB MX11_numberOn) 66 [(.iload 5, 0, 0, 0), (.iconst 1, 0, 0, 0), (.isub, 0, 0, 0)] 70 = true := by decide +kernel
theorem dX11_numberOn_70 : decode (MB MX11_numberOn) 70 = .ok (.ireturn, 1) := by decide +kernel
def MX11_leafSum : Ms := (yX11_leafSum, cX11_leafSum, 4, (some .int), [])
set_option maxRecDepth 100000 in
theorem kX11_leafSum : mkV MX11_leafSum 3 := ⟨⟨List.mem_of_getElem? (i := 947) (by rfl), by decide +kernel⟩, by decide +kernel⟩
theorem sX11_leafSum_0 : dsOk (MN MX11_leafSum).cls (MB MX11_leafSum) 0 [(.aload_n 0, 0, 0, 0), (.iload_n 1, 0, 0, 0), (.aload_n 2, 0, 0, 0), (.iconst 2, 0, 0, 0), (.iload_n 3, 0, 0, 0), (.imul, 0, 0, 0), (.iconst 1, 0, 0, 0), (.iadd, 0, 0, 0)] 8 = true := by decide +kernel
theorem dX11_leafSum_8 : decode (MB MX11_leafSum) 8 = .ok (.invokevirtual 208, 3) := by decide +kernel
theorem sX11_leafSum_11 : dsOk (MN MX11_leafSum).cls (MB MX11_leafSum) 11 [(.aload_n 0, 0, 0, 0), (.iload_n 1, 0, 0, 0), (.aload_n 2, 0, 0, 0), (.iconst 2, 0, 0, 0), (.iload_n 3, 0, 0, 0), (.imul, 0, 0, 0), (.iconst 2, 0, 0, 0), (.iadd, 0, 0, 0)] 19 = true := by decide +kernel
theorem dX11_leafSum_19 : decode (MB MX11_leafSum) 19 = .ok (.invokevirtual 208, 3) := by decide +kernel
theorem sX11_leafSum_22 : dsOk (MN MX11_leafSum).cls (MB MX11_leafSum) 22 [(.iadd, 0, 0, 0)] 23 = true := by decide +kernel
theorem dX11_leafSum_23 : decode (MB MX11_leafSum) 23 = .ok (.ireturn, 1) := by decide +kernel
def MX11_page : Ms := (yX11_page, cX11_page, 6, (some .int), [])
set_option maxRecDepth 100000 in
theorem kX11_page : mkV MX11_page 2 := ⟨⟨List.mem_of_getElem? (i := 916) (by rfl), by decide +kernel⟩, by decide +kernel⟩
theorem sX11_page_0 : dsOk (MN MX11_page).cls (MB MX11_page) 0 [(.aload_n 0, 0, 0, 0), (.iload_n 1, 0, 0, 0)] 2 = true := by decide +kernel
theorem dX11_page_2 : decode (MB MX11_page) 2 = .ok (.invokevirtual 154, 3) := by decide +kernel
theorem sX11_page_5 : dsOk (MN MX11_page).cls (MB MX11_page) 5 [(.astore_n 3, 0, 0, 0), (.aload_n 0, 0, 0, 0), (.iload_n 1, 0, 0, 0), (.aload_n 3, 0, 0, 0), (.iload_n 2, 0, 0, 0)] 10 = true := by decide +kernel
theorem dX11_page_10 : decode (MB MX11_page) 10 = .ok (.invokevirtual 223, 3) := by decide +kernel
theorem sX11_page_13 : dsOk (MN MX11_page).cls (MB MX11_page) 13 [(.lstore 4, 0, 0, 0), (.lload 4, 0, 0, 0), (.ldc2_w 227, 0, 0, 2), (.aload_n 3, 0, 0, 0), (.getfield 181, 0, 1, 0), (.i2l, 0, 0, 0), (.lmul, 0, 0, 0), (.lcmp, 0, 0, 0)] 27 = true := by decide +kernel
theorem dX11_page_27 : decode (MB MX11_page) 27 = .ok (.ifCond .gt 9, 3) := by decide +kernel
theorem sX11_page_30 : dsOk (MN MX11_page).cls (MB MX11_page) 30 [(.lload 4, 0, 0, 0), (.l2i, 0, 0, 0)] 33 = true := by decide +kernel
theorem dX11_page_33 : decode (MB MX11_page) 33 = .ok (.goto 4, 3) := by decide +kernel
theorem sX11_page_36 : dsOk (MN MX11_page).cls (MB MX11_page) 36 [(.iconst (-1), 0, 0, 0)] 37 = true := by decide +kernel
theorem dX11_page_37 : decode (MB MX11_page) 37 = .ok (.ireturn, 1) := by decide +kernel
def MX11_pageEver : Ms := (yX11_pageEver, cX11_pageEver, 5, (some .long), [])
set_option maxRecDepth 100000 in
theorem kX11_pageEver : mkV MX11_pageEver 3 := ⟨⟨List.mem_of_getElem? (i := 920) (by rfl), by decide +kernel⟩, by decide +kernel⟩
theorem sX11_pageEver_0 : dsOk (MN MX11_pageEver).cls (MB MX11_pageEver) 0 [(.iload_n 3, 0, 0, 0), (.iconst 1, 0, 0, 0)] 2 = true := by decide +kernel
theorem dX11_pageEver_2 : decode (MB MX11_pageEver) 2 = .ok (.if_icmp .ge 7, 3) := by decide +kernel
theorem sX11_pageEver_5 : dsOk (MN MX11_pageEver).cls (MB MX11_pageEver) 5 [(.ldc2_w 229, 0, 0, -1)] 8 = true := by decide +kernel
theorem dX11_pageEver_8 : decode (MB MX11_pageEver) 8 = .ok (.lreturn, 1) := by decide +kernel
theorem sX11_pageEver_9 : dsOk (MN MX11_pageEver).cls (MB MX11_pageEver) 9 [(.aload_n 2, 0, 0, 0), (.getfield 178, 0, 0, 0), (.bipush 6, 0, 0, 6)] 15 = true := by decide +kernel
theorem dX11_pageEver_15 : decode (MB MX11_pageEver) 15 = .ok (.if_icmp .eq 9, 3) := by decide +kernel
theorem sX11_pageEver_18 : dsOk (MN MX11_pageEver).cls (MB MX11_pageEver) 18 [(.aload_n 2, 0, 0, 0), (.iload_n 3, 0, 0, 0)] 20 = true := by decide +kernel
theorem dX11_pageEver_20 : decode (MB MX11_pageEver) 20 = .ok (.invokevirtual 231, 3) := by decide +kernel
theorem dX11_pageEver_23 : decode (MB MX11_pageEver) 23 = .ok (.lreturn, 1) := by decide +kernel
theorem sX11_pageEver_24 : dsOk (MN MX11_pageEver).cls (MB MX11_pageEver) 24 [(.iconst 1, 0, 0, 0), (.istore 4, 0, 0, 0)] 27 = true := by decide +kernel
theorem sX11_pageEver_27 : dsOk (MN MX11_pageEver).cls (MB MX11_pageEver) 27 [(.iload 4, 0, 0, 0), (.iconst 2, 0, 0, 0), (.aload_n 2, 0, 0, 0), (.getfield 181, 0, 1, 0), (.imul, 0, 0, 0)] 35 = true := by decide +kernel
theorem dX11_pageEver_35 : decode (MB MX11_pageEver) 35 = .ok (.if_icmp .gt 25, 3) := by decide +kernel
theorem sX11_pageEver_38 : dsOk (MN MX11_pageEver).cls (MB MX11_pageEver) 38 [(.aload_n 0, 0, 0, 0), (.iload_n 1, 0, 0, 0), (.aload_n 2, 0, 0, 0), (.iload 4, 0, 0, 0)] 43 = true := by decide +kernel
theorem dX11_pageEver_43 : decode (MB MX11_pageEver) 43 = .ok (.invokevirtual 208, 3) := by decide +kernel
theorem sX11_pageEver_46 : dsOk (MN MX11_pageEver).cls (MB MX11_pageEver) 46 [(.iload_n 3, 0, 0, 0)] 47 = true := by decide +kernel
theorem dX11_pageEver_47 : decode (MB MX11_pageEver) 47 = .ok (.if_icmp .ne 7, 3) := by decide +kernel
theorem sX11_pageEver_50 : dsOk (MN MX11_pageEver).cls (MB MX11_pageEver) 50 [(.iload 4, 0, 0, 0), (.i2l, 0, 0, 0)] 53 = true := by decide +kernel
theorem dX11_pageEver_53 : decode (MB MX11_pageEver) 53 = .ok (.lreturn, 1) := by decide +kernel
theorem sX11_pageEver_54 : dsOk (MN MX11_pageEver).cls (MB MX11_pageEver) 54 [(.iinc 4 1, 0, 0, 0)] 57 = true := by decide +kernel
theorem dX11_pageEver_57 : decode (MB MX11_pageEver) 57 = .ok (.goto (-30), 3) := by decide +kernel
theorem sX11_pageEver_60 : dsOk (MN MX11_pageEver).cls (MB MX11_pageEver) 60 [(.ldc2_w 229, 0, 0, -1)] 63 = true := by decide +kernel
theorem dX11_pageEver_63 : decode (MB MX11_pageEver) 63 = .ok (.lreturn, 1) := by decide +kernel
def MX11_sum : Ms := (yX11_sum, cX11_sum, 2, (some .long), [])
set_option maxRecDepth 100000 in
theorem kX11_sum : mkV MX11_sum 1 := ⟨⟨List.mem_of_getElem? (i := 939) (by rfl), by decide +kernel⟩, by decide +kernel⟩
theorem sX11_sum_0 : dsOk (MN MX11_sum).cls (MB MX11_sum) 0 [(.aload_n 0, 0, 0, 0), (.iload_n 1, 0, 0, 0), (.aload_n 0, 0, 0, 0), (.iload_n 1, 0, 0, 0)] 4 = true := by decide +kernel
theorem dX11_sum_4 : decode (MB MX11_sum) 4 = .ok (.invokevirtual 154, 3) := by decide +kernel
theorem dX11_sum_7 : decode (MB MX11_sum) 7 = .ok (.invokevirtual 235, 3) := by decide +kernel
theorem dX11_sum_10 : decode (MB MX11_sum) 10 = .ok (.lreturn, 1) := by decide +kernel
def MX11_sumLeft : Ms := (yX11_sumLeft, cX11_sumLeft, 6, (some .long), [])
set_option maxRecDepth 100000 in
theorem kX11_sumLeft : mkV MX11_sumLeft 2 := ⟨⟨List.mem_of_getElem? (i := 943) (by rfl), by decide +kernel⟩, by decide +kernel⟩
theorem sX11_sumLeft_0 : dsOk (MN MX11_sumLeft).cls (MB MX11_sumLeft) 0 [(.lconst 0, 0, 0, 0), (.lstore_n 3, 0, 0, 0), (.iconst 0, 0, 0, 0), (.istore 5, 0, 0, 0)] 5 = true := by decide +kernel
theorem sX11_sumLeft_5 : dsOk (MN MX11_sumLeft).cls (MB MX11_sumLeft) 5 [(.iload 5, 0, 0, 0), (.aload_n 2, 0, 0, 0), (.getfield 181, 0, 1, 0)] 11 = true := by decide +kernel
theorem dX11_sumLeft_11 : decode (MB MX11_sumLeft) 11 = .ok (.if_icmp .ge 33, 3) := by decide +kernel
theorem sX11_sumLeft_14 : dsOk (MN MX11_sumLeft).cls (MB MX11_sumLeft) 14 [(.aload_n 2, 0, 0, 0), (.getfield 184, 0, 5, 0), (.iload 5, 0, 0, 0)] 20 = true := by decide +kernel
theorem dX11_sumLeft_20 : decode (MB MX11_sumLeft) 20 = .ok (.invokevirtual 202, 3) := by decide +kernel
theorem dX11_sumLeft_23 : decode (MB MX11_sumLeft) 23 = .ok (.ifCond .ne 15, 3) := by decide +kernel
theorem sX11_sumLeft_26 : dsOk (MN MX11_sumLeft).cls (MB MX11_sumLeft) 26 [(.lload_n 3, 0, 0, 0), (.aload_n 0, 0, 0, 0), (.iload_n 1, 0, 0, 0), (.aload_n 2, 0, 0, 0), (.iload 5, 0, 0, 0)] 32 = true := by decide +kernel
theorem dX11_sumLeft_32 : decode (MB MX11_sumLeft) 32 = .ok (.invokevirtual 239, 3) := by decide +kernel
theorem sX11_sumLeft_35 : dsOk (MN MX11_sumLeft).cls (MB MX11_sumLeft) 35 [(.i2l, 0, 0, 0), (.ladd, 0, 0, 0), (.lstore_n 3, 0, 0, 0)] 38 = true := by decide +kernel
theorem sX11_sumLeft_38 : dsOk (MN MX11_sumLeft).cls (MB MX11_sumLeft) 38 [(.iinc 5 1, 0, 0, 0)] 41 = true := by decide +kernel
theorem dX11_sumLeft_41 : decode (MB MX11_sumLeft) 41 = .ok (.goto (-36), 3) := by decide +kernel
theorem sX11_sumLeft_44 : dsOk (MN MX11_sumLeft).cls (MB MX11_sumLeft) 44 [(.lload_n 3, 0, 0, 0)] 45 = true := by decide +kernel
theorem dX11_sumLeft_45 : decode (MB MX11_sumLeft) 45 = .ok (.lreturn, 1) := by decide +kernel
def MX11_figures : Ms := (yX11_figures, cX11_figures, 6, (some .int), [])
set_option maxRecDepth 100000 in
theorem kX11_figures : mkV MX11_figures 2 := ⟨⟨List.mem_of_getElem? (i := 954) (by rfl), by decide +kernel⟩, by decide +kernel⟩
theorem sX11_figures_0 : dsOk (MN MX11_figures).cls (MB MX11_figures) 0 [(.aload_n 0, 0, 0, 0), (.iload_n 1, 0, 0, 0)] 2 = true := by decide +kernel
theorem dX11_figures_2 : decode (MB MX11_figures) 2 = .ok (.invokevirtual 154, 3) := by decide +kernel
theorem sX11_figures_5 : dsOk (MN MX11_figures).cls (MB MX11_figures) 5 [(.astore_n 3, 0, 0, 0), (.iload_n 2, 0, 0, 0)] 7 = true := by decide +kernel
theorem dX11_figures_7 : decode (MB MX11_figures) 7 = .ok (.invokestatic 242, 3) := by decide +kernel
theorem sX11_figures_10 : dsOk (MN MX11_figures).cls (MB MX11_figures) 10 [(.iconst 0, 0, 0, 0), (.istore 4, 0, 0, 0), (.iconst 1, 0, 0, 0), (.istore 5, 0, 0, 0)] 16 = true := by decide +kernel
theorem sX11_figures_16 : dsOk (MN MX11_figures).cls (MB MX11_figures) 16 [(.iload 5, 0, 0, 0), (.iconst 2, 0, 0, 0), (.aload_n 3, 0, 0, 0), (.getfield 181, 0, 1, 0), (.imul, 0, 0, 0)] 24 = true := by decide +kernel
theorem dX11_figures_24 : decode (MB MX11_figures) 24 = .ok (.if_icmp .gt 42, 3) := by decide +kernel
theorem sX11_figures_27 : dsOk (MN MX11_figures).cls (MB MX11_figures) 27 [(.aload_n 3, 0, 0, 0), (.getfield 184, 0, 5, 0), (.iload 5, 0, 0, 0)] 33 = true := by decide +kernel
theorem dX11_figures_33 : decode (MB MX11_figures) 33 = .ok (.invokestatic 245, 3) := by decide +kernel
theorem dX11_figures_36 : decode (MB MX11_figures) 36 = .ok (.invokevirtual 202, 3) := by decide +kernel
theorem dX11_figures_39 : decode (MB MX11_figures) 39 = .ok (.ifCond .ne 21, 3) := by decide +kernel
theorem sX11_figures_42 : dsOk (MN MX11_figures).cls (MB MX11_figures) 42 [(.iload 4, 0, 0, 0), (.iload_n 2, 0, 0, 0), (.aload_n 0, 0, 0, 0), (.iload_n 1, 0, 0, 0), (.aload_n 3, 0, 0, 0), (.iload 5, 0, 0, 0)] 50 = true := by decide +kernel
theorem dX11_figures_50 : decode (MB MX11_figures) 50 = .ok (.invokevirtual 208, 3) := by decide +kernel
theorem sX11_figures_53 : dsOk (MN MX11_figures).cls (MB MX11_figures) 53 [(.i2l, 0, 0, 0)] 54 = true := by decide +kernel
theorem dX11_figures_54 : decode (MB MX11_figures) 54 = .ok (.invokestatic 248, 3) := by decide +kernel
theorem sX11_figures_57 : dsOk (MN MX11_figures).cls (MB MX11_figures) 57 [(.iadd, 0, 0, 0), (.istore 4, 0, 0, 0)] 60 = true := by decide +kernel
theorem sX11_figures_60 : dsOk (MN MX11_figures).cls (MB MX11_figures) 60 [(.iinc 5 1, 0, 0, 0)] 63 = true := by decide +kernel
theorem dX11_figures_63 : decode (MB MX11_figures) 63 = .ok (.goto (-47), 3) := by decide +kernel
theorem sX11_figures_66 : dsOk (MN MX11_figures).cls (MB MX11_figures) 66 [(.iload 4, 0, 0, 0)] 68 = true := by decide +kernel
theorem dX11_figures_68 : decode (MB MX11_figures) 68 = .ok (.ireturn, 1) := by decide +kernel
def MX11_leafOf : Ms := (yX11_leafOf, cX11_leafOf, 1, (some .int), [])
set_option maxRecDepth 100000 in
theorem kX11_leafOf : mkS MX11_leafOf 1 := ⟨⟨List.mem_of_getElem? (i := 897) (by rfl), by decide +kernel⟩, by decide +kernel⟩
theorem sX11_leafOf_0 : dsOk (MN MX11_leafOf).cls (MB MX11_leafOf) 0 [(.iload_n 0, 0, 0, 0), (.iconst 1, 0, 0, 0), (.isub, 0, 0, 0), (.iconst 2, 0, 0, 0), (.idiv, 0, 0, 0)] 5 = true := by decide +kernel
theorem dX11_leafOf_5 : decode (MB MX11_leafOf) 5 = .ok (.ireturn, 1) := by decide +kernel
def MX11_tear : Ms := (yX11_tear, cX11_tear, 4, (some .int), [])
set_option maxRecDepth 100000 in
theorem kX11_tear : mkV MX11_tear 2 := ⟨⟨List.mem_of_getElem? (i := 969) (by rfl), by decide +kernel⟩, by decide +kernel⟩
theorem sX11_tear_0 : dsOk (MN MX11_tear).cls (MB MX11_tear) 0 [(.aload_n 0, 0, 0, 0), (.iload_n 1, 0, 0, 0), (.iload_n 2, 0, 0, 0)] 3 = true := by decide +kernel
theorem dX11_tear_3 : decode (MB MX11_tear) 3 = .ok (.invokevirtual 198, 3) := by decide +kernel
theorem sX11_tear_6 : dsOk (MN MX11_tear).cls (MB MX11_tear) 6 [(.astore_n 3, 0, 0, 0), (.aload_n 3, 0, 0, 0), (.getfield 184, 0, 5, 0), (.iload_n 2, 0, 0, 0)] 12 = true := by decide +kernel
theorem dX11_tear_12 : decode (MB MX11_tear) 12 = .ok (.invokevirtual 202, 3) := by decide +kernel
theorem dX11_tear_15 : decode (MB MX11_tear) 15 = .ok (.ifCond .ne 15, 3) := by decide +kernel
theorem sX11_tear_18 : dsOk (MN MX11_tear).cls (MB MX11_tear) 18 [(.aload_n 3, 0, 0, 0), (.getfield 184, 0, 5, 0)] 22 = true := by decide +kernel
theorem dX11_tear_22 : decode (MB MX11_tear) 22 = .ok (.invokevirtual 188, 3) := by decide +kernel
theorem sX11_tear_25 : dsOk (MN MX11_tear).cls (MB MX11_tear) 25 [(.bipush 60, 0, 0, 60)] 27 = true := by decide +kernel
theorem dX11_tear_27 : decode (MB MX11_tear) 27 = .ok (.if_icmp .lt 12, 3) := by decide +kernel
theorem sX11_tear_30 : dsOk (MN MX11_tear).cls (MB MX11_tear) 30 [(.aload_n 0, 0, 0, 0), (.getfield 39, 10, 6, 0), (.iconst 1, 0, 0, 0)] 35 = true := by decide +kernel
theorem dX11_tear_35 : decode (MB MX11_tear) 35 = .ok (.invokevirtual 106, 3) := by decide +kernel
theorem dX11_tear_38 : decode (MB MX11_tear) 38 = .ok (.ireturn, 1) := by decide +kernel
theorem sX11_tear_39 : dsOk (MN MX11_tear).cls (MB MX11_tear) 39 [(.aload_n 0, 0, 0, 0), (.iload_n 1, 0, 0, 0), (.aload_n 3, 0, 0, 0), (.iload_n 2, 0, 0, 0), (.iconst (-1), 0, 0, 0)] 44 = true := by decide +kernel
theorem dX11_tear_44 : decode (MB MX11_tear) 44 = .ok (.invokevirtual 254, 3) := by decide +kernel
theorem sX11_tear_47 : dsOk (MN MX11_tear).cls (MB MX11_tear) 47 [(.aload_n 3, 0, 0, 0), (.getfield 184, 0, 5, 0)] 51 = true := by decide +kernel
theorem dX11_tear_51 : decode (MB MX11_tear) 51 = .ok (.invokevirtual 188, 3) := by decide +kernel
theorem dX11_tear_54 : decode (MB MX11_tear) 54 = .ok (.ireturn, 1) := by decide +kernel
def MX11_tearOut : Ms := (yX11_tearOut, cX11_tearOut, 5, none, [])
set_option maxRecDepth 100000 in
theorem kX11_tearOut : mkV MX11_tearOut 4 := ⟨⟨List.mem_of_getElem? (i := 973) (by rfl), by decide +kernel⟩, by decide +kernel⟩
theorem sX11_tearOut_0 : dsOk (MN MX11_tearOut).cls (MB MX11_tearOut) 0 [(.aload_n 2, 0, 0, 0), (.getfield 184, 0, 5, 0), (.iload_n 3, 0, 0, 0)] 5 = true := by decide +kernel
theorem dX11_tearOut_5 : decode (MB MX11_tearOut) 5 = .ok (.invokevirtual 258, 3) := by decide +kernel
theorem sX11_tearOut_8 : dsOk (MN MX11_tearOut).cls (MB MX11_tearOut) 8 [(.iload 4, 0, 0, 0), (.iconst (-1), 0, 0, 0)] 11 = true := by decide +kernel
theorem dX11_tearOut_11 : decode (MB MX11_tearOut) 11 = .ok (.if_icmp .eq 12, 3) := by decide +kernel
theorem sX11_tearOut_14 : dsOk (MN MX11_tearOut).cls (MB MX11_tearOut) 14 [(.aload_n 2, 0, 0, 0), (.getfield 184, 0, 5, 0), (.iload 4, 0, 0, 0)] 20 = true := by decide +kernel
theorem dX11_tearOut_20 : decode (MB MX11_tearOut) 20 = .ok (.invokevirtual 258, 3) := by decide +kernel
theorem sX11_tearOut_23 : dsOk (MN MX11_tearOut).cls (MB MX11_tearOut) 23 [(.aload_n 0, 0, 0, 0), (.getfield 39, 10, 6, 0), (.iload_n 1, 0, 0, 0), (.iload_n 3, 0, 0, 0), (.iload 4, 0, 0, 0)] 31 = true := by decide +kernel
theorem dX11_tearOut_31 : decode (MB MX11_tearOut) 31 = .ok (.invokevirtual 261, 3) := by decide +kernel
theorem dX11_tearOut_34 : decode (MB MX11_tearOut) 34 = .ok (.return_, 1) := by decide +kernel
def MX11_sheet : Ms := (yX11_sheet, cX11_sheet, 5, (some .int), [])
set_option maxRecDepth 100000 in
theorem kX11_sheet : mkV MX11_sheet 2 := ⟨⟨List.mem_of_getElem? (i := 985) (by rfl), by decide +kernel⟩, by decide +kernel⟩
theorem sX11_sheet_0 : dsOk (MN MX11_sheet).cls (MB MX11_sheet) 0 [(.aload_n 0, 0, 0, 0), (.iload_n 1, 0, 0, 0)] 2 = true := by decide +kernel
theorem dX11_sheet_2 : decode (MB MX11_sheet) 2 = .ok (.invokevirtual 154, 3) := by decide +kernel
theorem sX11_sheet_5 : dsOk (MN MX11_sheet).cls (MB MX11_sheet) 5 [(.astore_n 3, 0, 0, 0), (.iload_n 2, 0, 0, 0)] 7 = true := by decide +kernel
theorem dX11_sheet_7 : decode (MB MX11_sheet) 7 = .ok (.ifCond .lt 13, 3) := by decide +kernel
theorem sX11_sheet_10 : dsOk (MN MX11_sheet).cls (MB MX11_sheet) 10 [(.iload_n 2, 0, 0, 0), (.aload_n 3, 0, 0, 0), (.getfield 181, 0, 1, 0), (.iconst 2, 0, 0, 0), (.idiv, 0, 0, 0)] 17 = true := by decide +kernel
theorem dX11_sheet_17 : decode (MB MX11_sheet) 17 = .ok (.if_icmp .lt 14, 3) := by decide +kernel
theorem dX11_sheet_20 : decode (MB MX11_sheet) 20 = .ok (.new 143, 3) := by decide +kernel
theorem sX11_sheet_23 : dsOk (MN MX11_sheet).cls (MB MX11_sheet) 23 [(.dup, 0, 0, 0)] 24 = true := by decide +kernel
theorem dX11_sheet_24 : decode (MB MX11_sheet) 24 = .ok (.ldc_w 265, 3) := by decide +kernel
theorem dX11_sheet_27 : decode (MB MX11_sheet) 27 = .ok (.invokespecial 147, 3) := by decide +kernel
theorem dX11_sheet_30 : decode (MB MX11_sheet) 30 = .ok (.athrow, 1) := by decide +kernel
theorem sX11_sheet_31 : dsOk (MN MX11_sheet).cls (MB MX11_sheet) 31 [(.aload_n 3, 0, 0, 0), (.getfield 181, 0, 1, 0), (.iconst 1, 0, 0, 0), (.isub, 0, 0, 0), (.iload_n 2, 0, 0, 0), (.isub, 0, 0, 0), (.istore 4, 0, 0, 0), (.aload_n 3, 0, 0, 0), (.getfield 181, 0, 1, 0), (.iconst 2, 0, 0, 0), (.irem, 0, 0, 0)] 47 = true := by decide +kernel
theorem dX11_sheet_47 : decode (MB MX11_sheet) 47 = .ok (.ifCond .ne 38, 3) := by decide +kernel
theorem sX11_sheet_50 : dsOk (MN MX11_sheet).cls (MB MX11_sheet) 50 [(.aload_n 3, 0, 0, 0), (.getfield 184, 0, 5, 0), (.iload_n 2, 0, 0, 0)] 55 = true := by decide +kernel
theorem dX11_sheet_55 : decode (MB MX11_sheet) 55 = .ok (.invokevirtual 202, 3) := by decide +kernel
theorem dX11_sheet_58 : decode (MB MX11_sheet) 58 = .ok (.ifCond .ne 27, 3) := by decide +kernel
theorem sX11_sheet_61 : dsOk (MN MX11_sheet).cls (MB MX11_sheet) 61 [(.aload_n 3, 0, 0, 0), (.getfield 184, 0, 5, 0), (.iload 4, 0, 0, 0)] 67 = true := by decide +kernel
theorem dX11_sheet_67 : decode (MB MX11_sheet) 67 = .ok (.invokevirtual 202, 3) := by decide +kernel
theorem dX11_sheet_70 : decode (MB MX11_sheet) 70 = .ok (.ifCond .ne 15, 3) := by decide +kernel
theorem sX11_sheet_73 : dsOk (MN MX11_sheet).cls (MB MX11_sheet) 73 [(.aload_n 3, 0, 0, 0), (.getfield 184, 0, 5, 0)] 77 = true := by decide +kernel
theorem dX11_sheet_77 : decode (MB MX11_sheet) 77 = .ok (.invokevirtual 188, 3) := by decide +kernel
theorem sX11_sheet_80 : dsOk (MN MX11_sheet).cls (MB MX11_sheet) 80 [(.bipush 58, 0, 0, 58)] 82 = true := by decide +kernel
theorem dX11_sheet_82 : decode (MB MX11_sheet) 82 = .ok (.if_icmp .le 12, 3) := by decide +kernel
theorem sX11_sheet_85 : dsOk (MN MX11_sheet).cls (MB MX11_sheet) 85 [(.aload_n 0, 0, 0, 0), (.getfield 39, 10, 6, 0), (.iconst 1, 0, 0, 0)] 90 = true := by decide +kernel
theorem dX11_sheet_90 : decode (MB MX11_sheet) 90 = .ok (.invokevirtual 106, 3) := by decide +kernel
theorem dX11_sheet_93 : decode (MB MX11_sheet) 93 = .ok (.ireturn, 1) := by decide +kernel
theorem sX11_sheet_94 : dsOk (MN MX11_sheet).cls (MB MX11_sheet) 94 [(.aload_n 0, 0, 0, 0), (.iload_n 1, 0, 0, 0), (.aload_n 3, 0, 0, 0), (.iload_n 2, 0, 0, 0), (.iload 4, 0, 0, 0)] 100 = true := by decide +kernel
theorem dX11_sheet_100 : decode (MB MX11_sheet) 100 = .ok (.invokevirtual 254, 3) := by decide +kernel
theorem sX11_sheet_103 : dsOk (MN MX11_sheet).cls (MB MX11_sheet) 103 [(.aload_n 3, 0, 0, 0), (.getfield 184, 0, 5, 0)] 107 = true := by decide +kernel
theorem dX11_sheet_107 : decode (MB MX11_sheet) 107 = .ok (.invokevirtual 188, 3) := by decide +kernel
theorem dX11_sheet_110 : decode (MB MX11_sheet) 110 = .ok (.ireturn, 1) := by decide +kernel
def MX11_put : Ms := (yX11_put, cX11_put, 4, (some .int), [])
set_option maxRecDepth 100000 in
theorem kX11_put : mkV MX11_put 0 := ⟨⟨List.mem_of_getElem? (i := 378) (by rfl), by decide +kernel⟩, by decide +kernel⟩
theorem sX11_put_0 : dsOk (MN MX11_put).cls (MB MX11_put) 0 [(.aload_n 0, 0, 0, 0), (.getfield 39, 10, 6, 0), (.getfield 131, 2, 3, 0), (.iconst 1, 0, 0, 0)] 8 = true := by decide +kernel
theorem dX11_put_8 : decode (MB MX11_put) 8 = .ok (.if_icmp .ge 5, 3) := by decide +kernel
theorem sX11_put_11 : dsOk (MN MX11_put).cls (MB MX11_put) 11 [(.iconst (-1), 0, 0, 0)] 12 = true := by decide +kernel
theorem dX11_put_12 : decode (MB MX11_put) 12 = .ok (.ireturn, 1) := by decide +kernel
theorem sX11_put_13 : dsOk (MN MX11_put).cls (MB MX11_put) 13 [(.aload_n 0, 0, 0, 0), (.getfield 39, 10, 6, 0), (.dup, 0, 0, 0), (.getfield 131, 2, 3, 0), (.iconst 1, 0, 0, 0), (.isub, 0, 0, 0), (.putfield 131, 2, 3, 0), (.aload_n 0, 0, 0, 0), (.getfield 39, 10, 6, 0), (.getfield 131, 2, 3, 0), (.istore_n 1, 0, 0, 0), (.aload_n 0, 0, 0, 0), (.getfield 25, 10, 3, 0), (.aload_n 0, 0, 0, 0), (.getfield 39, 10, 6, 0), (.getfield 267, 2, 0, 0), (.iload_n 1, 0, 0, 0)] 46 = true := by decide +kernel
theorem dX11_put_46 : decode (MB MX11_put) 46 = .ok (.invokestatic 215, 3) := by decide +kernel
theorem dX11_put_49 : decode (MB MX11_put) 49 = .ok (.invokevirtual 148, 3) := by decide +kernel
theorem sX11_put_52 : dsOk (MN MX11_put).cls (MB MX11_put) 52 [(.astore_n 2, 0, 0, 0), (.aload_n 2, 0, 0, 0)] 54 = true := by decide +kernel
theorem dX11_put_54 : decode (MB MX11_put) 54 = .ok (.ifnonnull 5, 3) := by decide +kernel
theorem sX11_put_57 : dsOk (MN MX11_put).cls (MB MX11_put) 57 [(.iconst (-1), 0, 0, 0)] 58 = true := by decide +kernel
theorem dX11_put_58 : decode (MB MX11_put) 58 = .ok (.ireturn, 1) := by decide +kernel
theorem sX11_put_59 : dsOk (MN MX11_put).cls (MB MX11_put) 59 [(.aload_n 0, 0, 0, 0), (.getfield 39, 10, 6, 0), (.getfield 270, 2, 2, 0), (.iload_n 1, 0, 0, 0)] 67 = true := by decide +kernel
theorem dX11_put_67 : decode (MB MX11_put) 67 = .ok (.invokestatic 215, 3) := by decide +kernel
theorem sX11_put_70 : dsOk (MN MX11_put).cls (MB MX11_put) 70 [(.istore_n 3, 0, 0, 0), (.aload_n 2, 0, 0, 0), (.getfield 184, 0, 5, 0), (.aload_n 0, 0, 0, 0), (.getfield 39, 10, 6, 0), (.getfield 273, 2, 1, 0), (.iload_n 1, 0, 0, 0)] 83 = true := by decide +kernel
theorem dX11_put_83 : decode (MB MX11_put) 83 = .ok (.invokestatic 215, 3) := by decide +kernel
theorem dX11_put_86 : decode (MB MX11_put) 86 = .ok (.invokevirtual 276, 3) := by decide +kernel
theorem sX11_put_89 : dsOk (MN MX11_put).cls (MB MX11_put) 89 [(.iload_n 3, 0, 0, 0), (.iconst (-1), 0, 0, 0)] 91 = true := by decide +kernel
theorem dX11_put_91 : decode (MB MX11_put) 91 = .ok (.if_icmp .ne 5, 3) := by decide +kernel
theorem sX11_put_94 : dsOk (MN MX11_put).cls (MB MX11_put) 94 [(.iconst 1, 0, 0, 0)] 95 = true := by decide +kernel
theorem dX11_put_95 : decode (MB MX11_put) 95 = .ok (.ireturn, 1) := by decide +kernel
theorem sX11_put_96 : dsOk (MN MX11_put).cls (MB MX11_put) 96 [(.aload_n 2, 0, 0, 0), (.getfield 184, 0, 5, 0), (.iload_n 3, 0, 0, 0)] 101 = true := by decide +kernel
theorem dX11_put_101 : decode (MB MX11_put) 101 = .ok (.invokevirtual 276, 3) := by decide +kernel
theorem sX11_put_104 : dsOk (MN MX11_put).cls (MB MX11_put) 104 [(.iconst 2, 0, 0, 0)] 105 = true := by decide +kernel
theorem dX11_put_105 : decode (MB MX11_put) 105 = .ok (.ireturn, 1) := by decide +kernel
def MX11_seed : Ms := (yX11_seed, cX11_seed, 8, (some .int), [])
set_option maxRecDepth 100000 in
theorem kX11_seed : mkV MX11_seed 3 := ⟨⟨List.mem_of_getElem? (i := 1231) (by rfl), by decide +kernel⟩, by decide +kernel⟩
theorem sX11_seed_0 : dsOk (MN MX11_seed).cls (MB MX11_seed) 0 [(.aload_n 0, 0, 0, 0), (.iload_n 1, 0, 0, 0)] 2 = true := by decide +kernel
theorem dX11_seed_2 : decode (MB MX11_seed) 2 = .ok (.invokevirtual 154, 3) := by decide +kernel
theorem sX11_seed_5 : dsOk (MN MX11_seed).cls (MB MX11_seed) 5 [(.astore 4, 0, 0, 0), (.iload_n 3, 0, 0, 0), (.i2l, 0, 0, 0), (.lconst 0, 0, 0, 0), (.ldc2_w 279, 0, 0, 60)] 13 = true := by decide +kernel
theorem dX11_seed_13 : decode (MB MX11_seed) 13 = .ok (.invokestatic 281, 3) := by decide +kernel
theorem sX11_seed_16 : dsOk (MN MX11_seed).cls (MB MX11_seed) 16 [(.aload 4, 0, 0, 0), (.getfield 184, 0, 5, 0)] 21 = true := by decide +kernel
theorem dX11_seed_21 : decode (MB MX11_seed) 21 = .ok (.invokevirtual 188, 3) := by decide +kernel
theorem sX11_seed_24 : dsOk (MN MX11_seed).cls (MB MX11_seed) 24 [(.iload_n 3, 0, 0, 0), (.iadd, 0, 0, 0), (.bipush 60, 0, 0, 60)] 28 = true := by decide +kernel
theorem dX11_seed_28 : decode (MB MX11_seed) 28 = .ok (.if_icmp .gt 12, 3) := by decide +kernel
theorem sX11_seed_31 : dsOk (MN MX11_seed).cls (MB MX11_seed) 31 [(.iload_n 3, 0, 0, 0), (.aload 4, 0, 0, 0)] 34 = true := by decide +kernel
theorem dX11_seed_34 : decode (MB MX11_seed) 34 = .ok (.invokevirtual 285, 3) := by decide +kernel
theorem dX11_seed_37 : decode (MB MX11_seed) 37 = .ok (.if_icmp .le 12, 3) := by decide +kernel
theorem sX11_seed_40 : dsOk (MN MX11_seed).cls (MB MX11_seed) 40 [(.aload_n 0, 0, 0, 0), (.getfield 39, 10, 6, 0), (.iconst 1, 0, 0, 0)] 45 = true := by decide +kernel
theorem dX11_seed_45 : decode (MB MX11_seed) 45 = .ok (.invokevirtual 106, 3) := by decide +kernel
theorem dX11_seed_48 : decode (MB MX11_seed) 48 = .ok (.ireturn, 1) := by decide +kernel
theorem sX11_seed_49 : dsOk (MN MX11_seed).cls (MB MX11_seed) 49 [(.iload_n 2, 0, 0, 0), (.istore 5, 0, 0, 0), (.iconst 0, 0, 0, 0), (.istore 6, 0, 0, 0)] 55 = true := by decide +kernel
theorem sX11_seed_55 : dsOk (MN MX11_seed).cls (MB MX11_seed) 55 [(.iload 6, 0, 0, 0), (.iload_n 3, 0, 0, 0)] 58 = true := by decide +kernel
theorem dX11_seed_58 : decode (MB MX11_seed) 58 = .ok (.if_icmp .ge 58, 3) := by decide +kernel
theorem sX11_seed_61 : dsOk (MN MX11_seed).cls (MB MX11_seed) 61 [(.iload 5, 0, 0, 0), (.ldc_w 288, 0, 0, 1103515245), (.imul, 0, 0, 0), (.sipush 12345, 0, 0, 12345), (.iadd, 0, 0, 0), (.istore 5, 0, 0, 0), (.aload 4, 0, 0, 0)] 75 = true := by decide +kernel
theorem dX11_seed_75 : decode (MB MX11_seed) 75 = .ok (.invokevirtual 285, 3) := by decide +kernel
theorem sX11_seed_78 : dsOk (MN MX11_seed).cls (MB MX11_seed) 78 [(.istore 7, 0, 0, 0), (.iload 7, 0, 0, 0)] 82 = true := by decide +kernel
theorem dX11_seed_82 : decode (MB MX11_seed) 82 = .ok (.ifCond .le 28, 3) := by decide +kernel
theorem sX11_seed_85 : dsOk (MN MX11_seed).cls (MB MX11_seed) 85 [(.aload_n 0, 0, 0, 0), (.iload_n 1, 0, 0, 0), (.aload 4, 0, 0, 0), (.aload 4, 0, 0, 0), (.iload 5, 0, 0, 0), (.bipush 16, 0, 0, 16), (.iushr, 0, 0, 0), (.sipush 32767, 0, 0, 32767), (.iand, 0, 0, 0), (.iload 7, 0, 0, 0), (.irem, 0, 0, 0)] 103 = true := by decide +kernel
theorem dX11_seed_103 : decode (MB MX11_seed) 103 = .ok (.invokevirtual 289, 3) := by decide +kernel
theorem sX11_seed_106 : dsOk (MN MX11_seed).cls (MB MX11_seed) 106 [(.iconst (-1), 0, 0, 0)] 107 = true := by decide +kernel
theorem dX11_seed_107 : decode (MB MX11_seed) 107 = .ok (.invokevirtual 254, 3) := by decide +kernel
theorem sX11_seed_110 : dsOk (MN MX11_seed).cls (MB MX11_seed) 110 [(.iinc 6 1, 0, 0, 0)] 113 = true := by decide +kernel
theorem dX11_seed_113 : decode (MB MX11_seed) 113 = .ok (.goto (-58), 3) := by decide +kernel
theorem sX11_seed_116 : dsOk (MN MX11_seed).cls (MB MX11_seed) 116 [(.aload 4, 0, 0, 0), (.getfield 184, 0, 5, 0)] 121 = true := by decide +kernel
theorem dX11_seed_121 : decode (MB MX11_seed) 121 = .ok (.invokevirtual 188, 3) := by decide +kernel
theorem dX11_seed_124 : decode (MB MX11_seed) 124 = .ok (.ireturn, 1) := by decide +kernel
def MX11_add : Ms := (yX11_add, cX11_add, 7, (some .boolean), [])
set_option maxRecDepth 100000 in
theorem kX11_add : mkV MX11_add 2 := ⟨⟨List.mem_of_getElem? (i := 993) (by rfl), by decide +kernel⟩, by decide +kernel⟩
theorem sX11_add_0 : dsOk (MN MX11_add).cls (MB MX11_add) 0 [(.aload_n 0, 0, 0, 0), (.iload_n 1, 0, 0, 0)] 2 = true := by decide +kernel
theorem dX11_add_2 : decode (MB MX11_add) 2 = .ok (.invokevirtual 154, 3) := by decide +kernel
theorem sX11_add_5 : dsOk (MN MX11_add).cls (MB MX11_add) 5 [(.astore 4, 0, 0, 0), (.aload_n 0, 0, 0, 0), (.getfield 39, 10, 6, 0), (.getfield 134, 2, 5, 0), (.istore 5, 0, 0, 0), (.iload 5, 0, 0, 0), (.bipush 60, 0, 0, 60)] 20 = true := by decide +kernel
theorem dX11_add_20 : decode (MB MX11_add) 20 = .ok (.if_icmp .ge 31, 3) := by decide +kernel
theorem sX11_add_23 : dsOk (MN MX11_add).cls (MB MX11_add) 23 [(.iload 5, 0, 0, 0), (.iconst 2, 0, 0, 0), (.aload 4, 0, 0, 0), (.getfield 181, 0, 1, 0), (.imul, 0, 0, 0)] 32 = true := by decide +kernel
theorem dX11_add_32 : decode (MB MX11_add) 32 = .ok (.if_icmp .ge 19, 3) := by decide +kernel
theorem sX11_add_35 : dsOk (MN MX11_add).cls (MB MX11_add) 35 [(.iload 5, 0, 0, 0)] 37 = true := by decide +kernel
theorem dX11_add_37 : decode (MB MX11_add) 37 = .ok (.ifCond .le 25, 3) := by decide +kernel
theorem sX11_add_40 : dsOk (MN MX11_add).cls (MB MX11_add) 40 [(.aload_n 0, 0, 0, 0), (.getfield 39, 10, 6, 0), (.getfield 292, 2, 4, 0), (.iload_n 1, 0, 0, 0)] 48 = true := by decide +kernel
theorem dX11_add_48 : decode (MB MX11_add) 48 = .ok (.if_icmp .eq 14, 3) := by decide +kernel
theorem sX11_add_51 : dsOk (MN MX11_add).cls (MB MX11_add) 51 [(.aload_n 0, 0, 0, 0), (.getfield 39, 10, 6, 0), (.iconst 2, 0, 0, 0)] 56 = true := by decide +kernel
theorem dX11_add_56 : decode (MB MX11_add) 56 = .ok (.invokevirtual 106, 3) := by decide +kernel
theorem sX11_add_59 : dsOk (MN MX11_add).cls (MB MX11_add) 59 [(.pop, 0, 0, 0), (.iconst 0, 0, 0, 0)] 61 = true := by decide +kernel
theorem dX11_add_61 : decode (MB MX11_add) 61 = .ok (.ireturn, 1) := by decide +kernel
theorem sX11_add_62 : dsOk (MN MX11_add).cls (MB MX11_add) 62 [(.lload_n 2, 0, 0, 0), (.aload_n 0, 0, 0, 0), (.iload_n 1, 0, 0, 0), (.aload 4, 0, 0, 0), (.iload 5, 0, 0, 0), (.iconst 1, 0, 0, 0), (.iadd, 0, 0, 0)] 71 = true := by decide +kernel
theorem dX11_add_71 : decode (MB MX11_add) 71 = .ok (.invokevirtual 295, 3) := by decide +kernel
theorem sX11_add_74 : dsOk (MN MX11_add).cls (MB MX11_add) 74 [(.lcmp, 0, 0, 0)] 75 = true := by decide +kernel
theorem dX11_add_75 : decode (MB MX11_add) 75 = .ok (.ifCond .ne 7, 3) := by decide +kernel
theorem sX11_add_78 : dsOk (MN MX11_add).cls (MB MX11_add) 78 [(.iconst 1, 0, 0, 0)] 79 = true := by decide +kernel
theorem dX11_add_79 : decode (MB MX11_add) 79 = .ok (.goto 4, 3) := by decide +kernel
theorem sX11_add_82 : dsOk (MN MX11_add).cls (MB MX11_add) 82 [(.iconst 0, 0, 0, 0)] 83 = true := by decide +kernel
theorem sX11_add_83 : dsOk (MN MX11_add).cls (MB MX11_add) 83 [(.istore 6, 0, 0, 0), (.aload_n 0, 0, 0, 0), (.getfield 39, 10, 6, 0), (.iload_n 1, 0, 0, 0), (.iload 6, 0, 0, 0)] 92 = true := by decide +kernel
theorem dX11_add_92 : decode (MB MX11_add) 92 = .ok (.invokevirtual 298, 3) := by decide +kernel
theorem sX11_add_95 : dsOk (MN MX11_add).cls (MB MX11_add) 95 [(.iload 6, 0, 0, 0)] 97 = true := by decide +kernel
theorem dX11_add_97 : decode (MB MX11_add) 97 = .ok (.ireturn, 1) := by decide +kernel
def MX11_sumOfFirst : Ms := (yX11_sumOfFirst, cX11_sumOfFirst, 7, (some .long), [])
set_option maxRecDepth 100000 in
theorem kX11_sumOfFirst : mkV MX11_sumOfFirst 3 := ⟨⟨List.mem_of_getElem? (i := 997) (by rfl), by decide +kernel⟩, by decide +kernel⟩
theorem sX11_sumOfFirst_0 : dsOk (MN MX11_sumOfFirst).cls (MB MX11_sumOfFirst) 0 [(.lconst 0, 0, 0, 0), (.lstore 4, 0, 0, 0), (.iconst 1, 0, 0, 0), (.istore 6, 0, 0, 0)] 6 = true := by decide +kernel
theorem sX11_sumOfFirst_6 : dsOk (MN MX11_sumOfFirst).cls (MB MX11_sumOfFirst) 6 [(.iload 6, 0, 0, 0), (.iload_n 3, 0, 0, 0)] 9 = true := by decide +kernel
theorem dX11_sumOfFirst_9 : decode (MB MX11_sumOfFirst) 9 = .ok (.if_icmp .gt 23, 3) := by decide +kernel
theorem sX11_sumOfFirst_12 : dsOk (MN MX11_sumOfFirst).cls (MB MX11_sumOfFirst) 12 [(.lload 4, 0, 0, 0), (.aload_n 0, 0, 0, 0), (.iload_n 1, 0, 0, 0), (.aload_n 2, 0, 0, 0), (.iload 6, 0, 0, 0)] 19 = true := by decide +kernel
theorem dX11_sumOfFirst_19 : decode (MB MX11_sumOfFirst) 19 = .ok (.invokevirtual 208, 3) := by decide +kernel
theorem sX11_sumOfFirst_22 : dsOk (MN MX11_sumOfFirst).cls (MB MX11_sumOfFirst) 22 [(.i2l, 0, 0, 0), (.ladd, 0, 0, 0), (.lstore 4, 0, 0, 0), (.iinc 6 1, 0, 0, 0)] 29 = true := by decide +kernel
theorem dX11_sumOfFirst_29 : decode (MB MX11_sumOfFirst) 29 = .ok (.goto (-23), 3) := by decide +kernel
theorem sX11_sumOfFirst_32 : dsOk (MN MX11_sumOfFirst).cls (MB MX11_sumOfFirst) 32 [(.lload 4, 0, 0, 0)] 34 = true := by decide +kernel
theorem dX11_sumOfFirst_34 : decode (MB MX11_sumOfFirst) 34 = .ok (.lreturn, 1) := by decide +kernel
def MX11_wrong : Ms := (yX11_wrong, cX11_wrong, 2, (some .int), [])
set_option maxRecDepth 100000 in
theorem kX11_wrong : mkV MX11_wrong 0 := ⟨⟨List.mem_of_getElem? (i := 393) (by rfl), by decide +kernel⟩, by decide +kernel⟩
theorem sX11_wrong_0 : dsOk (MN MX11_wrong).cls (MB MX11_wrong) 0 [(.aload_n 0, 0, 0, 0), (.getfield 39, 10, 6, 0), (.getfield 302, 2, 6, 0), (.istore_n 1, 0, 0, 0), (.aload_n 0, 0, 0, 0), (.getfield 39, 10, 6, 0)] 12 = true := by decide +kernel
theorem dX11_wrong_12 : decode (MB MX11_wrong) 12 = .ok (.invokevirtual 305, 3) := by decide +kernel
theorem sX11_wrong_15 : dsOk (MN MX11_wrong).cls (MB MX11_wrong) 15 [(.iload_n 1, 0, 0, 0)] 16 = true := by decide +kernel
theorem dX11_wrong_16 : decode (MB MX11_wrong) 16 = .ok (.ireturn, 1) := by decide +kernel
def MX11_fits : Ms := (yX11_fits, cX11_fits, 4, (some .long), [])
set_option maxRecDepth 100000 in
theorem kX11_fits : mkV MX11_fits 2 := ⟨⟨List.mem_of_getElem? (i := 1008) (by rfl), by decide +kernel⟩, by decide +kernel⟩
theorem sX11_fits_0 : dsOk (MN MX11_fits).cls (MB MX11_fits) 0 [(.lload_n 1, 0, 0, 0)] 1 = true := by decide +kernel
theorem dX11_fits_1 : decode (MB MX11_fits) 1 = .ok (.invokestatic 308, 3) := by decide +kernel
theorem sX11_fits_4 : dsOk (MN MX11_fits).cls (MB MX11_fits) 4 [(.aload_n 0, 0, 0, 0), (.getfield 55, 10, 11, 0), (.lload_n 1, 0, 0, 0)] 9 = true := by decide +kernel
theorem dX11_fits_9 : decode (MB MX11_fits) 9 = .ok (.invokevirtual 312, 3) := by decide +kernel
theorem sX11_fits_12 : dsOk (MN MX11_fits).cls (MB MX11_fits) 12 [(.iload_n 3, 0, 0, 0), (.iconst (-1), 0, 0, 0)] 14 = true := by decide +kernel
theorem dX11_fits_14 : decode (MB MX11_fits) 14 = .ok (.if_icmp .ne 12, 3) := by decide +kernel
theorem sX11_fits_17 : dsOk (MN MX11_fits).cls (MB MX11_fits) 17 [(.aload_n 0, 0, 0, 0), (.getfield 55, 10, 11, 0), (.getfield 315, 3, 2, 0), (.i2l, 0, 0, 0)] 25 = true := by decide +kernel
theorem dX11_fits_25 : decode (MB MX11_fits) 25 = .ok (.lreturn, 1) := by decide +kernel
theorem sX11_fits_26 : dsOk (MN MX11_fits).cls (MB MX11_fits) 26 [(.aload_n 0, 0, 0, 0), (.iload_n 3, 0, 0, 0)] 28 = true := by decide +kernel
theorem dX11_fits_28 : decode (MB MX11_fits) 28 = .ok (.invokevirtual 318, 3) := by decide +kernel
theorem sX11_fits_31 : dsOk (MN MX11_fits).cls (MB MX11_fits) 31 [(.aload_n 0, 0, 0, 0), (.getfield 55, 10, 11, 0), (.iload_n 3, 0, 0, 0)] 36 = true := by decide +kernel
theorem dX11_fits_36 : decode (MB MX11_fits) 36 = .ok (.invokevirtual 321, 3) := by decide +kernel
theorem dX11_fits_39 : decode (MB MX11_fits) 39 = .ok (.lreturn, 1) := by decide +kernel
def MX11_leaf : Ms := (yX11_leaf, cX11_leaf, 4, (some .long), [])
set_option maxRecDepth 100000 in
theorem kX11_leaf : mkV MX11_leaf 2 := ⟨⟨List.mem_of_getElem? (i := 1049) (by rfl), by decide +kernel⟩, by decide +kernel⟩
theorem sX11_leaf_0 : dsOk (MN MX11_leaf).cls (MB MX11_leaf) 0 [(.lload_n 1, 0, 0, 0)] 1 = true := by decide +kernel
theorem dX11_leaf_1 : decode (MB MX11_leaf) 1 = .ok (.invokestatic 308, 3) := by decide +kernel
theorem sX11_leaf_4 : dsOk (MN MX11_leaf).cls (MB MX11_leaf) 4 [(.aload_n 0, 0, 0, 0), (.getfield 55, 10, 11, 0), (.lload_n 1, 0, 0, 0)] 9 = true := by decide +kernel
theorem dX11_leaf_9 : decode (MB MX11_leaf) 9 = .ok (.invokevirtual 312, 3) := by decide +kernel
theorem sX11_leaf_12 : dsOk (MN MX11_leaf).cls (MB MX11_leaf) 12 [(.aload_n 0, 0, 0, 0), (.iload_n 3, 0, 0, 0)] 14 = true := by decide +kernel
theorem dX11_leaf_14 : decode (MB MX11_leaf) 14 = .ok (.invokevirtual 318, 3) := by decide +kernel
theorem sX11_leaf_17 : dsOk (MN MX11_leaf).cls (MB MX11_leaf) 17 [(.aload_n 0, 0, 0, 0), (.getfield 55, 10, 11, 0), (.iload_n 3, 0, 0, 0)] 22 = true := by decide +kernel
theorem dX11_leaf_22 : decode (MB MX11_leaf) 22 = .ok (.invokevirtual 324, 3) := by decide +kernel
theorem dX11_leaf_25 : decode (MB MX11_leaf) 25 = .ok (.lreturn, 1) := by decide +kernel
def MX11_needFit : Ms := (yX11_needFit, cX11_needFit, 2, none, [])
set_option maxRecDepth 100000 in
theorem kX11_needFit : mkV MX11_needFit 1 := ⟨⟨List.mem_of_getElem? (i := 1037) (by rfl), by decide +kernel⟩, by decide +kernel⟩
theorem sX11_needFit_0 : dsOk (MN MX11_needFit).cls (MB MX11_needFit) 0 [(.iload_n 1, 0, 0, 0)] 1 = true := by decide +kernel
theorem dX11_needFit_1 : decode (MB MX11_needFit) 1 = .ok (.ifCond .lt 14, 3) := by decide +kernel
theorem sX11_needFit_4 : dsOk (MN MX11_needFit).cls (MB MX11_needFit) 4 [(.iload_n 1, 0, 0, 0), (.aload_n 0, 0, 0, 0), (.getfield 55, 10, 11, 0), (.getfield 315, 3, 2, 0)] 12 = true := by decide +kernel
theorem dX11_needFit_12 : decode (MB MX11_needFit) 12 = .ok (.if_icmp .lt 14, 3) := by decide +kernel
theorem dX11_needFit_15 : decode (MB MX11_needFit) 15 = .ok (.new 143, 3) := by decide +kernel
theorem sX11_needFit_18 : dsOk (MN MX11_needFit).cls (MB MX11_needFit) 18 [(.dup, 0, 0, 0)] 19 = true := by decide +kernel
theorem dX11_needFit_19 : decode (MB MX11_needFit) 19 = .ok (.ldc_w 327, 3) := by decide +kernel
theorem dX11_needFit_22 : decode (MB MX11_needFit) 22 = .ok (.invokespecial 147, 3) := by decide +kernel
theorem dX11_needFit_25 : decode (MB MX11_needFit) 25 = .ok (.athrow, 1) := by decide +kernel
theorem dX11_needFit_26 : decode (MB MX11_needFit) 26 = .ok (.return_, 1) := by decide +kernel
def MX11_several : Ms := (yX11_several, cX11_several, 9, (some .long), [])
set_option maxRecDepth 100000 in
theorem kX11_several : mkV MX11_several 3 := ⟨⟨List.mem_of_getElem? (i := 1060) (by rfl), by decide +kernel⟩, by decide +kernel⟩
theorem sX11_several_0 : dsOk (MN MX11_several).cls (MB MX11_several) 0 [(.lload_n 1, 0, 0, 0)] 1 = true := by decide +kernel
theorem dX11_several_1 : decode (MB MX11_several) 1 = .ok (.invokestatic 308, 3) := by decide +kernel
theorem sX11_several_4 : dsOk (MN MX11_several).cls (MB MX11_several) 4 [(.iload_n 3, 0, 0, 0), (.i2l, 0, 0, 0), (.lconst 1, 0, 0, 1), (.ldc2_w 279, 0, 0, 60)] 10 = true := by decide +kernel
theorem dX11_several_10 : decode (MB MX11_several) 10 = .ok (.invokestatic 281, 3) := by decide +kernel
theorem sX11_several_13 : dsOk (MN MX11_several).cls (MB MX11_several) 13 [(.iconst 2, 0, 0, 0), (.iconst 1, 0, 0, 0), (.iconst 0, 0, 0, 0), (.lload_n 1, 0, 0, 0)] 17 = true := by decide +kernel
theorem dX11_several_17 : decode (MB MX11_several) 17 = .ok (.invokestatic 329, 3) := by decide +kernel
theorem sX11_several_20 : dsOk (MN MX11_several).cls (MB MX11_several) 20 [(.lstore 5, 0, 0, 0), (.iconst 0, 0, 0, 0), (.istore 7, 0, 0, 0), (.iconst 1, 0, 0, 0), (.istore 8, 0, 0, 0)] 28 = true := by decide +kernel
theorem sX11_several_28 : dsOk (MN MX11_several).cls (MB MX11_several) 28 [(.iload 8, 0, 0, 0), (.iload_n 3, 0, 0, 0)] 31 = true := by decide +kernel
theorem dX11_several_31 : decode (MB MX11_several) 31 = .ok (.if_icmp .gt 40, 3) := by decide +kernel
theorem sX11_several_34 : dsOk (MN MX11_several).cls (MB MX11_several) 34 [(.lload_n 1, 0, 0, 0), (.iload_n 3, 0, 0, 0), (.lload 5, 0, 0, 0), (.iload 8, 0, 0, 0), (.i2l, 0, 0, 0), (.ladd, 0, 0, 0)] 42 = true := by decide +kernel
theorem dX11_several_42 : decode (MB MX11_several) 42 = .ok (.invokestatic 333, 3) := by decide +kernel
theorem dX11_several_45 : decode (MB MX11_several) 45 = .ok (.ifCond .eq 20, 3) := by decide +kernel
theorem sX11_several_48 : dsOk (MN MX11_several).cls (MB MX11_several) 48 [(.iload 7, 0, 0, 0), (.iload 4, 0, 0, 0)] 52 = true := by decide +kernel
theorem dX11_several_52 : decode (MB MX11_several) 52 = .ok (.if_icmp .ne 10, 3) := by decide +kernel
theorem sX11_several_55 : dsOk (MN MX11_several).cls (MB MX11_several) 55 [(.lload 5, 0, 0, 0), (.iload 8, 0, 0, 0), (.i2l, 0, 0, 0), (.ladd, 0, 0, 0)] 61 = true := by decide +kernel
theorem dX11_several_61 : decode (MB MX11_several) 61 = .ok (.lreturn, 1) := by decide +kernel
theorem sX11_several_62 : dsOk (MN MX11_several).cls (MB MX11_several) 62 [(.iinc 7 1, 0, 0, 0)] 65 = true := by decide +kernel
theorem sX11_several_65 : dsOk (MN MX11_several).cls (MB MX11_several) 65 [(.iinc 8 1, 0, 0, 0)] 68 = true := by decide +kernel
theorem dX11_several_68 : decode (MB MX11_several) 68 = .ok (.goto (-40), 3) := by decide +kernel
theorem sX11_several_71 : dsOk (MN MX11_several).cls (MB MX11_several) 71 [(.iload 4, 0, 0, 0), (.iconst (-1), 0, 0, 0)] 74 = true := by decide +kernel
theorem dX11_several_74 : decode (MB MX11_several) 74 = .ok (.if_icmp .eq 14, 3) := by decide +kernel
theorem dX11_several_77 : decode (MB MX11_several) 77 = .ok (.new 143, 3) := by decide +kernel
theorem sX11_several_80 : dsOk (MN MX11_several).cls (MB MX11_several) 80 [(.dup, 0, 0, 0)] 81 = true := by decide +kernel
theorem dX11_several_81 : decode (MB MX11_several) 81 = .ok (.ldc_w 337, 3) := by decide +kernel
theorem dX11_several_84 : decode (MB MX11_several) 84 = .ok (.invokespecial 147, 3) := by decide +kernel
theorem dX11_several_87 : decode (MB MX11_several) 87 = .ok (.athrow, 1) := by decide +kernel
theorem sX11_several_88 : dsOk (MN MX11_several).cls (MB MX11_several) 88 [(.iload 7, 0, 0, 0), (.i2l, 0, 0, 0)] 91 = true := by decide +kernel
theorem dX11_several_91 : decode (MB MX11_several) 91 = .ok (.lreturn, 1) := by decide +kernel
def MX11_ways : Ms := (yX11_ways, cX11_ways, 5, (some .long), [])
set_option maxRecDepth 100000 in
theorem kX11_ways : mkV MX11_ways 3 := ⟨⟨List.mem_of_getElem? (i := 1083) (by rfl), by decide +kernel⟩, by decide +kernel⟩
theorem sX11_ways_0 : dsOk (MN MX11_ways).cls (MB MX11_ways) 0 [(.lload_n 1, 0, 0, 0)] 1 = true := by decide +kernel
theorem dX11_ways_1 : decode (MB MX11_ways) 1 = .ok (.invokestatic 308, 3) := by decide +kernel
theorem sX11_ways_4 : dsOk (MN MX11_ways).cls (MB MX11_ways) 4 [(.iload_n 3, 0, 0, 0), (.i2l, 0, 0, 0), (.lconst 1, 0, 0, 1), (.ldc2_w 279, 0, 0, 60)] 10 = true := by decide +kernel
theorem dX11_ways_10 : decode (MB MX11_ways) 10 = .ok (.invokestatic 281, 3) := by decide +kernel
theorem sX11_ways_13 : dsOk (MN MX11_ways).cls (MB MX11_ways) 13 [(.iload 4, 0, 0, 0), (.i2l, 0, 0, 0), (.lconst 1, 0, 0, 1), (.ldc2_w 279, 0, 0, 60)] 20 = true := by decide +kernel
theorem dX11_ways_20 : decode (MB MX11_ways) 20 = .ok (.invokestatic 281, 3) := by decide +kernel
theorem sX11_ways_23 : dsOk (MN MX11_ways).cls (MB MX11_ways) 23 [(.aload_n 0, 0, 0, 0), (.getfield 62, 10, 12, 0), (.iload_n 3, 0, 0, 0), (.iload 4, 0, 0, 0), (.lload_n 1, 0, 0, 0), (.iload_n 3, 0, 0, 0), (.iload 4, 0, 0, 0), (.i2l, 0, 0, 0)] 35 = true := by decide +kernel
theorem dX11_ways_35 : decode (MB MX11_ways) 35 = .ok (.invokestatic 339, 3) := by decide +kernel
theorem dX11_ways_38 : decode (MB MX11_ways) 38 = .ok (.invokevirtual 343, 3) := by decide +kernel
theorem dX11_ways_41 : decode (MB MX11_ways) 41 = .ok (.lreturn, 1) := by decide +kernel
def MX11_way : Ms := (yX11_way, cX11_way, 9, (some .long), [])
set_option maxRecDepth 100000 in
theorem kX11_way : mkV MX11_way 4 := ⟨⟨List.mem_of_getElem? (i := 1249) (by rfl), by decide +kernel⟩, by decide +kernel⟩
theorem sX11_way_0 : dsOk (MN MX11_way).cls (MB MX11_way) 0 [(.lload_n 1, 0, 0, 0)] 1 = true := by decide +kernel
theorem dX11_way_1 : decode (MB MX11_way) 1 = .ok (.invokestatic 308, 3) := by decide +kernel
theorem sX11_way_4 : dsOk (MN MX11_way).cls (MB MX11_way) 4 [(.iload_n 3, 0, 0, 0), (.i2l, 0, 0, 0), (.lconst 1, 0, 0, 1), (.ldc2_w 279, 0, 0, 60)] 10 = true := by decide +kernel
theorem dX11_way_10 : decode (MB MX11_way) 10 = .ok (.invokestatic 281, 3) := by decide +kernel
theorem sX11_way_13 : dsOk (MN MX11_way).cls (MB MX11_way) 13 [(.iload 4, 0, 0, 0), (.i2l, 0, 0, 0), (.lconst 1, 0, 0, 1), (.ldc2_w 347, 0, 0, 30)] 20 = true := by decide +kernel
theorem dX11_way_20 : decode (MB MX11_way) 20 = .ok (.invokestatic 281, 3) := by decide +kernel
theorem sX11_way_23 : dsOk (MN MX11_way).cls (MB MX11_way) 23 [(.lload_n 1, 0, 0, 0), (.iload_n 3, 0, 0, 0), (.iload 4, 0, 0, 0), (.i2l, 0, 0, 0)] 28 = true := by decide +kernel
theorem dX11_way_28 : decode (MB MX11_way) 28 = .ok (.invokestatic 339, 3) := by decide +kernel
theorem sX11_way_31 : dsOk (MN MX11_way).cls (MB MX11_way) 31 [(.lstore 7, 0, 0, 0), (.lload 5, 0, 0, 0), (.lconst 0, 0, 0, 0), (.lcmp, 0, 0, 0)] 37 = true := by decide +kernel
theorem dX11_way_37 : decode (MB MX11_way) 37 = .ok (.ifCond .lt 21, 3) := by decide +kernel
theorem sX11_way_40 : dsOk (MN MX11_way).cls (MB MX11_way) 40 [(.lload 5, 0, 0, 0), (.aload_n 0, 0, 0, 0), (.getfield 62, 10, 12, 0), (.iload_n 3, 0, 0, 0), (.iload 4, 0, 0, 0), (.lload 7, 0, 0, 0)] 51 = true := by decide +kernel
theorem dX11_way_51 : decode (MB MX11_way) 51 = .ok (.invokevirtual 343, 3) := by decide +kernel
theorem sX11_way_54 : dsOk (MN MX11_way).cls (MB MX11_way) 54 [(.lcmp, 0, 0, 0)] 55 = true := by decide +kernel
theorem dX11_way_55 : decode (MB MX11_way) 55 = .ok (.ifCond .lt 14, 3) := by decide +kernel
theorem dX11_way_58 : decode (MB MX11_way) 58 = .ok (.new 143, 3) := by decide +kernel
theorem sX11_way_61 : dsOk (MN MX11_way).cls (MB MX11_way) 61 [(.dup, 0, 0, 0)] 62 = true := by decide +kernel
theorem dX11_way_62 : decode (MB MX11_way) 62 = .ok (.ldc_w 349, 3) := by decide +kernel
theorem dX11_way_65 : decode (MB MX11_way) 65 = .ok (.invokespecial 147, 3) := by decide +kernel
theorem dX11_way_68 : decode (MB MX11_way) 68 = .ok (.athrow, 1) := by decide +kernel
theorem sX11_way_69 : dsOk (MN MX11_way).cls (MB MX11_way) 69 [(.aload_n 0, 0, 0, 0), (.getfield 62, 10, 12, 0), (.iload_n 3, 0, 0, 0), (.iload 4, 0, 0, 0), (.lload 7, 0, 0, 0), (.lload 5, 0, 0, 0)] 80 = true := by decide +kernel
theorem dX11_way_80 : decode (MB MX11_way) 80 = .ok (.invokevirtual 351, 3) := by decide +kernel
theorem dX11_way_83 : decode (MB MX11_way) 83 = .ok (.lreturn, 1) := by decide +kernel
def MX11_sewn : Ms := (yX11_sewn, cX11_sewn, 5, (some .long), [])
set_option maxRecDepth 100000 in
theorem kX11_sewn : mkV MX11_sewn 1 := ⟨⟨List.mem_of_getElem? (i := 1105) (by rfl), by decide +kernel⟩, by decide +kernel⟩
theorem sX11_sewn_0 : dsOk (MN MX11_sewn).cls (MB MX11_sewn) 0 [(.lload_n 1, 0, 0, 0)] 1 = true := by decide +kernel
theorem dX11_sewn_1 : decode (MB MX11_sewn) 1 = .ok (.invokestatic 308, 3) := by decide +kernel
theorem sX11_sewn_4 : dsOk (MN MX11_sewn).cls (MB MX11_sewn) 4 [(.iconst 2, 0, 0, 0), (.bipush (-3), 0, 0, -3), (.bipush (-2), 0, 0, -2), (.lload_n 1, 0, 0, 0)] 10 = true := by decide +kernel
theorem dX11_sewn_10 : decode (MB MX11_sewn) 10 = .ok (.invokestatic 329, 3) := by decide +kernel
theorem sX11_sewn_13 : dsOk (MN MX11_sewn).cls (MB MX11_sewn) 13 [(.lstore_n 3, 0, 0, 0), (.lload_n 3, 0, 0, 0), (.ldc2_w 227, 0, 0, 2), (.lrem, 0, 0, 0), (.lconst 0, 0, 0, 0), (.lcmp, 0, 0, 0)] 21 = true := by decide +kernel
theorem dX11_sewn_21 : decode (MB MX11_sewn) 21 = .ok (.ifCond .ne 25, 3) := by decide +kernel
theorem sX11_sewn_24 : dsOk (MN MX11_sewn).cls (MB MX11_sewn) 24 [(.ldc2_w 227, 0, 0, 2), (.lload_n 3, 0, 0, 0), (.lmul, 0, 0, 0), (.lconst 1, 0, 0, 1), (.ladd, 0, 0, 0), (.lload_n 3, 0, 0, 0), (.ldc2_w 227, 0, 0, 2), (.lsub, 0, 0, 0), (.lmul, 0, 0, 0), (.lload_n 1, 0, 0, 0), (.lcmp, 0, 0, 0)] 39 = true := by decide +kernel
theorem dX11_sewn_39 : decode (MB MX11_sewn) 39 = .ok (.ifCond .ne 7, 3) := by decide +kernel
theorem sX11_sewn_42 : dsOk (MN MX11_sewn).cls (MB MX11_sewn) 42 [(.lload_n 3, 0, 0, 0)] 43 = true := by decide +kernel
theorem dX11_sewn_43 : decode (MB MX11_sewn) 43 = .ok (.goto 6, 3) := by decide +kernel
theorem sX11_sewn_46 : dsOk (MN MX11_sewn).cls (MB MX11_sewn) 46 [(.ldc2_w 229, 0, 0, -1)] 49 = true := by decide +kernel
theorem dX11_sewn_49 : decode (MB MX11_sewn) 49 = .ok (.lreturn, 1) := by decide +kernel
def MX11_street : Ms := (yX11_street, cX11_street, 9, (some .long), [])
set_option maxRecDepth 100000 in
theorem kX11_street : mkV MX11_street 3 := ⟨⟨List.mem_of_getElem? (i := 1112) (by rfl), by decide +kernel⟩, by decide +kernel⟩
theorem sX11_street_0 : dsOk (MN MX11_street).cls (MB MX11_street) 0 [(.iload_n 3, 0, 0, 0)] 1 = true := by decide +kernel
theorem dX11_street_1 : decode (MB MX11_street) 1 = .ok (.ifCond .eq 19, 3) := by decide +kernel
theorem sX11_street_4 : dsOk (MN MX11_street).cls (MB MX11_street) 4 [(.iload_n 3, 0, 0, 0), (.iconst 1, 0, 0, 0)] 6 = true := by decide +kernel
theorem dX11_street_6 : decode (MB MX11_street) 6 = .ok (.if_icmp .eq 14, 3) := by decide +kernel
theorem dX11_street_9 : decode (MB MX11_street) 9 = .ok (.new 143, 3) := by decide +kernel
theorem sX11_street_12 : dsOk (MN MX11_street).cls (MB MX11_street) 12 [(.dup, 0, 0, 0)] 13 = true := by decide +kernel
theorem dX11_street_13 : decode (MB MX11_street) 13 = .ok (.ldc_w 355, 3) := by decide +kernel
theorem dX11_street_16 : decode (MB MX11_street) 16 = .ok (.invokespecial 147, 3) := by decide +kernel
theorem dX11_street_19 : decode (MB MX11_street) 19 = .ok (.athrow, 1) := by decide +kernel
theorem sX11_street_20 : dsOk (MN MX11_street).cls (MB MX11_street) 20 [(.lload_n 1, 0, 0, 0)] 21 = true := by decide +kernel
theorem dX11_street_21 : decode (MB MX11_street) 21 = .ok (.invokestatic 308, 3) := by decide +kernel
theorem sX11_street_24 : dsOk (MN MX11_street).cls (MB MX11_street) 24 [(.iconst 1, 0, 0, 0), (.iload_n 3, 0, 0, 0), (.iconst 0, 0, 0, 0), (.lload_n 1, 0, 0, 0)] 28 = true := by decide +kernel
theorem dX11_street_28 : decode (MB MX11_street) 28 = .ok (.invokestatic 329, 3) := by decide +kernel
theorem sX11_street_31 : dsOk (MN MX11_street).cls (MB MX11_street) 31 [(.lconst 1, 0, 0, 1), (.ladd, 0, 0, 0), (.lstore 5, 0, 0, 0), (.lload 5, 0, 0, 0), (.lload 5, 0, 0, 0), (.iload_n 3, 0, 0, 0), (.i2l, 0, 0, 0), (.ladd, 0, 0, 0), (.lmul, 0, 0, 0), (.lload_n 1, 0, 0, 0), (.lsub, 0, 0, 0), (.lstore 7, 0, 0, 0), (.lload 7, 0, 0, 0), (.ldc2_w 227, 0, 0, 2), (.lrem, 0, 0, 0), (.iload_n 3, 0, 0, 0), (.i2l, 0, 0, 0), (.lcmp, 0, 0, 0)] 56 = true := by decide +kernel
theorem dX11_street_56 : decode (MB MX11_street) 56 = .ok (.ifCond .ne 7, 3) := by decide +kernel
theorem sX11_street_59 : dsOk (MN MX11_street).cls (MB MX11_street) 59 [(.ldc2_w 229, 0, 0, -1)] 62 = true := by decide +kernel
theorem dX11_street_62 : decode (MB MX11_street) 62 = .ok (.lreturn, 1) := by decide +kernel
theorem sX11_street_63 : dsOk (MN MX11_street).cls (MB MX11_street) 63 [(.iload 4, 0, 0, 0)] 65 = true := by decide +kernel
theorem dX11_street_65 : decode (MB MX11_street) 65 = .ok (.ifCond .eq 8, 3) := by decide +kernel
theorem sX11_street_68 : dsOk (MN MX11_street).cls (MB MX11_street) 68 [(.lload 7, 0, 0, 0)] 70 = true := by decide +kernel
theorem dX11_street_70 : decode (MB MX11_street) 70 = .ok (.goto 5, 3) := by decide +kernel
theorem sX11_street_73 : dsOk (MN MX11_street).cls (MB MX11_street) 73 [(.lload 5, 0, 0, 0)] 75 = true := by decide +kernel
theorem dX11_street_75 : decode (MB MX11_street) 75 = .ok (.lreturn, 1) := by decide +kernel
def MX11_said : Ms := (yX11_said, cX11_said, 8, (some .int), [])
set_option maxRecDepth 100000 in
theorem kX11_said : mkV MX11_said 3 := ⟨⟨List.mem_of_getElem? (i := 1120) (by rfl), by decide +kernel⟩, by decide +kernel⟩
theorem sX11_said_0 : dsOk (MN MX11_said).cls (MB MX11_said) 0 [(.lload_n 1, 0, 0, 0)] 1 = true := by decide +kernel
theorem dX11_said_1 : decode (MB MX11_said) 1 = .ok (.invokestatic 308, 3) := by decide +kernel
theorem sX11_said_4 : dsOk (MN MX11_said).cls (MB MX11_said) 4 [(.iload_n 3, 0, 0, 0)] 5 = true := by decide +kernel
theorem dX11_said_5 : decode (MB MX11_said) 5 = .ok (.invokestatic 242, 3) := by decide +kernel
theorem sX11_said_8 : dsOk (MN MX11_said).cls (MB MX11_said) 8 [(.aload_n 0, 0, 0, 0), (.getfield 55, 10, 11, 0), (.lload_n 1, 0, 0, 0)] 13 = true := by decide +kernel
theorem dX11_said_13 : decode (MB MX11_said) 13 = .ok (.invokevirtual 312, 3) := by decide +kernel
theorem sX11_said_16 : dsOk (MN MX11_said).cls (MB MX11_said) 16 [(.iconst 0, 0, 0, 0), (.istore 6, 0, 0, 0), (.iconst 0, 0, 0, 0), (.istore 7, 0, 0, 0)] 22 = true := by decide +kernel
theorem sX11_said_22 : dsOk (MN MX11_said).cls (MB MX11_said) 22 [(.iload 7, 0, 0, 0), (.aload_n 0, 0, 0, 0), (.getfield 55, 10, 11, 0), (.getfield 315, 3, 2, 0)] 31 = true := by decide +kernel
theorem dX11_said_31 : decode (MB MX11_said) 31 = .ok (.if_icmp .ge 28, 3) := by decide +kernel
theorem sX11_said_34 : dsOk (MN MX11_said).cls (MB MX11_said) 34 [(.aload_n 0, 0, 0, 0), (.getfield 55, 10, 11, 0), (.iload 7, 0, 0, 0), (.iload_n 3, 0, 0, 0)] 41 = true := by decide +kernel
theorem dX11_said_41 : decode (MB MX11_said) 41 = .ok (.invokevirtual 357, 3) := by decide +kernel
theorem sX11_said_44 : dsOk (MN MX11_said).cls (MB MX11_said) 44 [(.lload 4, 0, 0, 0), (.lcmp, 0, 0, 0)] 47 = true := by decide +kernel
theorem dX11_said_47 : decode (MB MX11_said) 47 = .ok (.ifCond .ne 6, 3) := by decide +kernel
theorem sX11_said_50 : dsOk (MN MX11_said).cls (MB MX11_said) 50 [(.iinc 6 1, 0, 0, 0)] 53 = true := by decide +kernel
theorem sX11_said_53 : dsOk (MN MX11_said).cls (MB MX11_said) 53 [(.iinc 7 1, 0, 0, 0)] 56 = true := by decide +kernel
theorem dX11_said_56 : decode (MB MX11_said) 56 = .ok (.goto (-34), 3) := by decide +kernel
theorem sX11_said_59 : dsOk (MN MX11_said).cls (MB MX11_said) 59 [(.iload 6, 0, 0, 0)] 61 = true := by decide +kernel
theorem dX11_said_61 : decode (MB MX11_said) 61 = .ok (.ireturn, 1) := by decide +kernel
def MX11_tells : Ms := (yX11_tells, cX11_tells, 4, (some .int), [])
set_option maxRecDepth 100000 in
theorem kX11_tells : mkV MX11_tells 1 := ⟨⟨List.mem_of_getElem? (i := 1140) (by rfl), by decide +kernel⟩, by decide +kernel⟩
theorem sX11_tells_0 : dsOk (MN MX11_tells).cls (MB MX11_tells) 0 [(.lload_n 1, 0, 0, 0)] 1 = true := by decide +kernel
theorem dX11_tells_1 : decode (MB MX11_tells) 1 = .ok (.invokestatic 308, 3) := by decide +kernel
theorem sX11_tells_4 : dsOk (MN MX11_tells).cls (MB MX11_tells) 4 [(.aload_n 0, 0, 0, 0), (.getfield 55, 10, 11, 0), (.lload_n 1, 0, 0, 0)] 9 = true := by decide +kernel
theorem dX11_tells_9 : decode (MB MX11_tells) 9 = .ok (.invokevirtual 312, 3) := by decide +kernel
theorem sX11_tells_12 : dsOk (MN MX11_tells).cls (MB MX11_tells) 12 [(.iconst 0, 0, 0, 0), (.istore_n 3, 0, 0, 0)] 14 = true := by decide +kernel
theorem sX11_tells_14 : dsOk (MN MX11_tells).cls (MB MX11_tells) 14 [(.iload_n 3, 0, 0, 0), (.bipush 11, 0, 0, 11)] 17 = true := by decide +kernel
theorem dX11_tells_17 : decode (MB MX11_tells) 17 = .ok (.if_icmp .gt 22, 3) := by decide +kernel
theorem sX11_tells_20 : dsOk (MN MX11_tells).cls (MB MX11_tells) 20 [(.aload_n 0, 0, 0, 0), (.getfield 55, 10, 11, 0), (.iload_n 3, 0, 0, 0)] 25 = true := by decide +kernel
theorem dX11_tells_25 : decode (MB MX11_tells) 25 = .ok (.invokevirtual 361, 3) := by decide +kernel
theorem dX11_tells_28 : decode (MB MX11_tells) 28 = .ok (.ifCond .eq 5, 3) := by decide +kernel
theorem sX11_tells_31 : dsOk (MN MX11_tells).cls (MB MX11_tells) 31 [(.iload_n 3, 0, 0, 0)] 32 = true := by decide +kernel
theorem dX11_tells_32 : decode (MB MX11_tells) 32 = .ok (.ireturn, 1) := by decide +kernel
theorem sX11_tells_33 : dsOk (MN MX11_tells).cls (MB MX11_tells) 33 [(.iinc 3 1, 0, 0, 0)] 36 = true := by decide +kernel
theorem dX11_tells_36 : decode (MB MX11_tells) 36 = .ok (.goto (-22), 3) := by decide +kernel
theorem sX11_tells_39 : dsOk (MN MX11_tells).cls (MB MX11_tells) 39 [(.iconst (-1), 0, 0, 0)] 40 = true := by decide +kernel
theorem dX11_tells_40 : decode (MB MX11_tells) 40 = .ok (.ireturn, 1) := by decide +kernel
def MX11_far : Ms := (yX11_far, cX11_far, 2, (some .int), [])
set_option maxRecDepth 100000 in
theorem kX11_far : mkV MX11_far 1 := ⟨⟨List.mem_of_getElem? (i := 1152) (by rfl), by decide +kernel⟩, by decide +kernel⟩
theorem sX11_far_0 : dsOk (MN MX11_far).cls (MB MX11_far) 0 [(.iload_n 1, 0, 0, 0), (.i2l, 0, 0, 0), (.lconst 0, 0, 0, 0), (.ldc2_w 364, 0, 0, 99999999)] 6 = true := by decide +kernel
theorem dX11_far_6 : decode (MB MX11_far) 6 = .ok (.invokestatic 281, 3) := by decide +kernel
theorem sX11_far_9 : dsOk (MN MX11_far).cls (MB MX11_far) 9 [(.aload_n 0, 0, 0, 0), (.iload_n 1, 0, 0, 0)] 11 = true := by decide +kernel
theorem dX11_far_11 : decode (MB MX11_far) 11 = .ok (.invokevirtual 366, 3) := by decide +kernel
theorem dX11_far_14 : decode (MB MX11_far) 14 = .ok (.ireturn, 1) := by decide +kernel
def MX11_lastPrinted : Ms := (yX11_lastPrinted, cX11_lastPrinted, 7, (some .int), [])
set_option maxRecDepth 100000 in
theorem kX11_lastPrinted : mkV MX11_lastPrinted 1 := ⟨⟨List.mem_of_getElem? (i := 1157) (by rfl), by decide +kernel⟩, by decide +kernel⟩
theorem sX11_lastPrinted_0 : dsOk (MN MX11_lastPrinted).cls (MB MX11_lastPrinted) 0 [(.iload_n 1, 0, 0, 0)] 1 = true := by decide +kernel
theorem dX11_lastPrinted_1 : decode (MB MX11_lastPrinted) 1 = .ok (.ifCond .ne 7, 3) := by decide +kernel
theorem sX11_lastPrinted_4 : dsOk (MN MX11_lastPrinted).cls (MB MX11_lastPrinted) 4 [(.iconst 0, 0, 0, 0)] 5 = true := by decide +kernel
theorem dX11_lastPrinted_5 : decode (MB MX11_lastPrinted) 5 = .ok (.goto 6, 3) := by decide +kernel
theorem sX11_lastPrinted_8 : dsOk (MN MX11_lastPrinted).cls (MB MX11_lastPrinted) 8 [(.iload_n 1, 0, 0, 0), (.iconst 1, 0, 0, 0), (.iadd, 0, 0, 0)] 11 = true := by decide +kernel
theorem sX11_lastPrinted_11 : dsOk (MN MX11_lastPrinted).cls (MB MX11_lastPrinted) 11 [(.istore_n 2, 0, 0, 0), (.iload_n 1, 0, 0, 0)] 13 = true := by decide +kernel
theorem dX11_lastPrinted_13 : decode (MB MX11_lastPrinted) 13 = .ok (.ifCond .ne 9, 3) := by decide +kernel
theorem sX11_lastPrinted_16 : dsOk (MN MX11_lastPrinted).cls (MB MX11_lastPrinted) 16 [(.ldc_w 369, 0, 0, 100000)] 19 = true := by decide +kernel
theorem dX11_lastPrinted_19 : decode (MB MX11_lastPrinted) 19 = .ok (.goto 4, 3) := by decide +kernel
theorem sX11_lastPrinted_22 : dsOk (MN MX11_lastPrinted).cls (MB MX11_lastPrinted) 22 [(.iconst 0, 0, 0, 0)] 23 = true := by decide +kernel
theorem sX11_lastPrinted_23 : dsOk (MN MX11_lastPrinted).cls (MB MX11_lastPrinted) 23 [(.istore_n 3, 0, 0, 0), (.iconst 0, 0, 0, 0), (.istore 4, 0, 0, 0)] 27 = true := by decide +kernel
theorem sX11_lastPrinted_27 : dsOk (MN MX11_lastPrinted).cls (MB MX11_lastPrinted) 27 [(.iload 4, 0, 0, 0), (.bipush 32, 0, 0, 32)] 31 = true := by decide +kernel
theorem dX11_lastPrinted_31 : decode (MB MX11_lastPrinted) 31 = .ok (.if_icmp .ge 83, 3) := by decide +kernel
theorem sX11_lastPrinted_34 : dsOk (MN MX11_lastPrinted).cls (MB MX11_lastPrinted) 34 [(.iload_n 3, 0, 0, 0), (.iload_n 2, 0, 0, 0), (.isub, 0, 0, 0)] 37 = true := by decide +kernel
theorem dX11_lastPrinted_37 : decode (MB MX11_lastPrinted) 37 = .ok (.invokestatic 370, 3) := by decide +kernel
theorem sX11_lastPrinted_40 : dsOk (MN MX11_lastPrinted).cls (MB MX11_lastPrinted) 40 [(.iconst 1, 0, 0, 0)] 41 = true := by decide +kernel
theorem dX11_lastPrinted_41 : decode (MB MX11_lastPrinted) 41 = .ok (.if_icmp .le 73, 3) := by decide +kernel
theorem sX11_lastPrinted_44 : dsOk (MN MX11_lastPrinted).cls (MB MX11_lastPrinted) 44 [(.iload_n 2, 0, 0, 0), (.iload_n 3, 0, 0, 0), (.iload_n 2, 0, 0, 0), (.isub, 0, 0, 0), (.iconst 2, 0, 0, 0), (.idiv, 0, 0, 0), (.iadd, 0, 0, 0), (.istore 5, 0, 0, 0), (.iload_n 1, 0, 0, 0)] 54 = true := by decide +kernel
theorem dX11_lastPrinted_54 : decode (MB MX11_lastPrinted) 54 = .ok (.ifCond .ne 22, 3) := by decide +kernel
theorem sX11_lastPrinted_57 : dsOk (MN MX11_lastPrinted).cls (MB MX11_lastPrinted) 57 [(.aload_n 0, 0, 0, 0), (.iconst 1, 0, 0, 0), (.iload 5, 0, 0, 0)] 61 = true := by decide +kernel
theorem dX11_lastPrinted_61 : decode (MB MX11_lastPrinted) 61 = .ok (.invokevirtual 375, 3) := by decide +kernel
theorem sX11_lastPrinted_64 : dsOk (MN MX11_lastPrinted).cls (MB MX11_lastPrinted) 64 [(.iconst (-1), 0, 0, 0)] 65 = true := by decide +kernel
theorem dX11_lastPrinted_65 : decode (MB MX11_lastPrinted) 65 = .ok (.if_icmp .ne 7, 3) := by decide +kernel
theorem sX11_lastPrinted_68 : dsOk (MN MX11_lastPrinted).cls (MB MX11_lastPrinted) 68 [(.iconst 1, 0, 0, 0)] 69 = true := by decide +kernel
theorem dX11_lastPrinted_69 : decode (MB MX11_lastPrinted) 69 = .ok (.goto 23, 3) := by decide +kernel
theorem sX11_lastPrinted_72 : dsOk (MN MX11_lastPrinted).cls (MB MX11_lastPrinted) 72 [(.iconst 0, 0, 0, 0)] 73 = true := by decide +kernel
theorem dX11_lastPrinted_73 : decode (MB MX11_lastPrinted) 73 = .ok (.goto 19, 3) := by decide +kernel
theorem sX11_lastPrinted_76 : dsOk (MN MX11_lastPrinted).cls (MB MX11_lastPrinted) 76 [(.aload_n 0, 0, 0, 0), (.iload 5, 0, 0, 0), (.iload_n 1, 0, 0, 0)] 80 = true := by decide +kernel
theorem dX11_lastPrinted_80 : decode (MB MX11_lastPrinted) 80 = .ok (.invokevirtual 375, 3) := by decide +kernel
theorem sX11_lastPrinted_83 : dsOk (MN MX11_lastPrinted).cls (MB MX11_lastPrinted) 83 [(.iconst (-1), 0, 0, 0)] 84 = true := by decide +kernel
theorem dX11_lastPrinted_84 : decode (MB MX11_lastPrinted) 84 = .ok (.if_icmp .ne 7, 3) := by decide +kernel
theorem sX11_lastPrinted_87 : dsOk (MN MX11_lastPrinted).cls (MB MX11_lastPrinted) 87 [(.iconst 1, 0, 0, 0)] 88 = true := by decide +kernel
theorem dX11_lastPrinted_88 : decode (MB MX11_lastPrinted) 88 = .ok (.goto 4, 3) := by decide +kernel
theorem sX11_lastPrinted_91 : dsOk (MN MX11_lastPrinted).cls (MB MX11_lastPrinted) 91 [(.iconst 0, 0, 0, 0)] 92 = true := by decide +kernel
theorem sX11_lastPrinted_92 : dsOk (MN MX11_lastPrinted).cls (MB MX11_lastPrinted) 92 [(.istore 6, 0, 0, 0), (.iload 6, 0, 0, 0)] 96 = true := by decide +kernel
theorem dX11_lastPrinted_96 : decode (MB MX11_lastPrinted) 96 = .ok (.ifCond .eq 9, 3) := by decide +kernel
theorem sX11_lastPrinted_99 : dsOk (MN MX11_lastPrinted).cls (MB MX11_lastPrinted) 99 [(.iload 5, 0, 0, 0), (.istore_n 2, 0, 0, 0)] 102 = true := by decide +kernel
theorem dX11_lastPrinted_102 : decode (MB MX11_lastPrinted) 102 = .ok (.goto 6, 3) := by decide +kernel
theorem sX11_lastPrinted_105 : dsOk (MN MX11_lastPrinted).cls (MB MX11_lastPrinted) 105 [(.iload 5, 0, 0, 0), (.istore_n 3, 0, 0, 0)] 108 = true := by decide +kernel
theorem sX11_lastPrinted_108 : dsOk (MN MX11_lastPrinted).cls (MB MX11_lastPrinted) 108 [(.iinc 4 1, 0, 0, 0)] 111 = true := by decide +kernel
theorem dX11_lastPrinted_111 : decode (MB MX11_lastPrinted) 111 = .ok (.goto (-84), 3) := by decide +kernel
theorem sX11_lastPrinted_114 : dsOk (MN MX11_lastPrinted).cls (MB MX11_lastPrinted) 114 [(.iload_n 2, 0, 0, 0)] 115 = true := by decide +kernel
theorem dX11_lastPrinted_115 : decode (MB MX11_lastPrinted) 115 = .ok (.ireturn, 1) := by decide +kernel
def MX11_shortOf : Ms := (yX11_shortOf, cX11_shortOf, 4, (some .int), [])
set_option maxRecDepth 100000 in
theorem kX11_shortOf : mkV MX11_shortOf 2 := ⟨⟨List.mem_of_getElem? (i := 1165) (by rfl), by decide +kernel⟩, by decide +kernel⟩
theorem sX11_shortOf_0 : dsOk (MN MX11_shortOf).cls (MB MX11_shortOf) 0 [(.iconst 0, 0, 0, 0), (.istore_n 3, 0, 0, 0)] 2 = true := by decide +kernel
theorem sX11_shortOf_2 : dsOk (MN MX11_shortOf).cls (MB MX11_shortOf) 2 [(.iload_n 3, 0, 0, 0), (.bipush 10, 0, 0, 10)] 5 = true := by decide +kernel
theorem dX11_shortOf_5 : decode (MB MX11_shortOf) 5 = .ok (.if_icmp .ge 39, 3) := by decide +kernel
theorem sX11_shortOf_8 : dsOk (MN MX11_shortOf).cls (MB MX11_shortOf) 8 [(.iload_n 3, 0, 0, 0), (.iload_n 2, 0, 0, 0), (.i2l, 0, 0, 0)] 11 = true := by decide +kernel
theorem dX11_shortOf_11 : decode (MB MX11_shortOf) 11 = .ok (.invokestatic 379, 3) := by decide +kernel
theorem sX11_shortOf_14 : dsOk (MN MX11_shortOf).cls (MB MX11_shortOf) 14 [(.iload_n 3, 0, 0, 0), (.iload_n 1, 0, 0, 0), (.iconst 1, 0, 0, 0), (.isub, 0, 0, 0), (.i2l, 0, 0, 0)] 19 = true := by decide +kernel
theorem dX11_shortOf_19 : decode (MB MX11_shortOf) 19 = .ok (.invokestatic 379, 3) := by decide +kernel
theorem sX11_shortOf_22 : dsOk (MN MX11_shortOf).cls (MB MX11_shortOf) 22 [(.lsub, 0, 0, 0), (.aload_n 0, 0, 0, 0), (.getfield 25, 10, 3, 0), (.iload_n 3, 0, 0, 0)] 28 = true := by decide +kernel
theorem dX11_shortOf_28 : decode (MB MX11_shortOf) 28 = .ok (.invokevirtual 122, 3) := by decide +kernel
theorem sX11_shortOf_31 : dsOk (MN MX11_shortOf).cls (MB MX11_shortOf) 31 [(.i2l, 0, 0, 0), (.lcmp, 0, 0, 0)] 33 = true := by decide +kernel
theorem dX11_shortOf_33 : decode (MB MX11_shortOf) 33 = .ok (.ifCond .le 5, 3) := by decide +kernel
theorem sX11_shortOf_36 : dsOk (MN MX11_shortOf).cls (MB MX11_shortOf) 36 [(.iload_n 3, 0, 0, 0)] 37 = true := by decide +kernel
theorem dX11_shortOf_37 : decode (MB MX11_shortOf) 37 = .ok (.ireturn, 1) := by decide +kernel
theorem sX11_shortOf_38 : dsOk (MN MX11_shortOf).cls (MB MX11_shortOf) 38 [(.iinc 3 1, 0, 0, 0)] 41 = true := by decide +kernel
theorem dX11_shortOf_41 : decode (MB MX11_shortOf) 41 = .ok (.goto (-39), 3) := by decide +kernel
theorem sX11_shortOf_44 : dsOk (MN MX11_shortOf).cls (MB MX11_shortOf) 44 [(.iconst (-1), 0, 0, 0)] 45 = true := by decide +kernel
theorem dX11_shortOf_45 : decode (MB MX11_shortOf) 45 = .ok (.ireturn, 1) := by decide +kernel
def MX11_lacks : Ms := (yX11_lacks, cX11_lacks, 3, (some .int), [])
set_option maxRecDepth 100000 in
theorem kX11_lacks : mkV MX11_lacks 1 := ⟨⟨List.mem_of_getElem? (i := 1173) (by rfl), by decide +kernel⟩, by decide +kernel⟩
theorem sX11_lacks_0 : dsOk (MN MX11_lacks).cls (MB MX11_lacks) 0 [(.iload_n 1, 0, 0, 0), (.i2l, 0, 0, 0), (.lconst 0, 0, 0, 0), (.ldc2_w 364, 0, 0, 99999999)] 6 = true := by decide +kernel
theorem dX11_lacks_6 : decode (MB MX11_lacks) 6 = .ok (.invokestatic 281, 3) := by decide +kernel
theorem sX11_lacks_9 : dsOk (MN MX11_lacks).cls (MB MX11_lacks) 9 [(.aload_n 0, 0, 0, 0), (.iload_n 1, 0, 0, 0)] 11 = true := by decide +kernel
theorem dX11_lacks_11 : decode (MB MX11_lacks) 11 = .ok (.invokevirtual 366, 3) := by decide +kernel
theorem sX11_lacks_14 : dsOk (MN MX11_lacks).cls (MB MX11_lacks) 14 [(.istore_n 2, 0, 0, 0), (.iload_n 1, 0, 0, 0)] 16 = true := by decide +kernel
theorem dX11_lacks_16 : decode (MB MX11_lacks) 16 = .ok (.ifCond .ne 12, 3) := by decide +kernel
theorem sX11_lacks_19 : dsOk (MN MX11_lacks).cls (MB MX11_lacks) 19 [(.aload_n 0, 0, 0, 0), (.iconst 1, 0, 0, 0), (.iload_n 2, 0, 0, 0), (.iconst 1, 0, 0, 0), (.iadd, 0, 0, 0)] 24 = true := by decide +kernel
theorem dX11_lacks_24 : decode (MB MX11_lacks) 24 = .ok (.invokevirtual 375, 3) := by decide +kernel
theorem dX11_lacks_27 : decode (MB MX11_lacks) 27 = .ok (.ireturn, 1) := by decide +kernel
theorem sX11_lacks_28 : dsOk (MN MX11_lacks).cls (MB MX11_lacks) 28 [(.iload_n 2, 0, 0, 0), (.iconst 1, 0, 0, 0)] 30 = true := by decide +kernel
theorem dX11_lacks_30 : decode (MB MX11_lacks) 30 = .ok (.if_icmp .ne 7, 3) := by decide +kernel
theorem sX11_lacks_33 : dsOk (MN MX11_lacks).cls (MB MX11_lacks) 33 [(.iconst (-1), 0, 0, 0)] 34 = true := by decide +kernel
theorem dX11_lacks_34 : decode (MB MX11_lacks) 34 = .ok (.goto 11, 3) := by decide +kernel
theorem sX11_lacks_37 : dsOk (MN MX11_lacks).cls (MB MX11_lacks) 37 [(.aload_n 0, 0, 0, 0), (.iload_n 2, 0, 0, 0), (.iconst 1, 0, 0, 0), (.isub, 0, 0, 0), (.iload_n 1, 0, 0, 0)] 42 = true := by decide +kernel
theorem dX11_lacks_42 : decode (MB MX11_lacks) 42 = .ok (.invokevirtual 375, 3) := by decide +kernel
theorem dX11_lacks_45 : decode (MB MX11_lacks) 45 = .ok (.ireturn, 1) := by decide +kernel
def MX11_skip : Ms := (yX11_skip, cX11_skip, 5, (some .long), [])
set_option maxRecDepth 100000 in
theorem kX11_skip : mkV MX11_skip 3 := ⟨⟨List.mem_of_getElem? (i := 1180) (by rfl), by decide +kernel⟩, by decide +kernel⟩
theorem sX11_skip_0 : dsOk (MN MX11_skip).cls (MB MX11_skip) 0 [(.iload_n 1, 0, 0, 0), (.i2l, 0, 0, 0), (.lconst 1, 0, 0, 1), (.ldc2_w 383, 0, 0, 9)] 6 = true := by decide +kernel
theorem dX11_skip_6 : decode (MB MX11_skip) 6 = .ok (.invokestatic 281, 3) := by decide +kernel
theorem sX11_skip_9 : dsOk (MN MX11_skip).cls (MB MX11_skip) 9 [(.lload_n 2, 0, 0, 0), (.lconst 1, 0, 0, 1), (.ldc2_w 385, 0, 0, 1000000000000000)] 14 = true := by decide +kernel
theorem dX11_skip_14 : decode (MB MX11_skip) 14 = .ok (.invokestatic 281, 3) := by decide +kernel
theorem sX11_skip_17 : dsOk (MN MX11_skip).cls (MB MX11_skip) 17 [(.iload 4, 0, 0, 0)] 19 = true := by decide +kernel
theorem dX11_skip_19 : decode (MB MX11_skip) 19 = .ok (.ifCond .eq 11, 3) := by decide +kernel
theorem sX11_skip_22 : dsOk (MN MX11_skip).cls (MB MX11_skip) 22 [(.iload_n 1, 0, 0, 0), (.lload_n 2, 0, 0, 0)] 24 = true := by decide +kernel
theorem dX11_skip_24 : decode (MB MX11_skip) 24 = .ok (.invokestatic 387, 3) := by decide +kernel
theorem dX11_skip_27 : decode (MB MX11_skip) 27 = .ok (.goto 8, 3) := by decide +kernel
theorem sX11_skip_30 : dsOk (MN MX11_skip).cls (MB MX11_skip) 30 [(.iload_n 1, 0, 0, 0), (.lload_n 2, 0, 0, 0)] 32 = true := by decide +kernel
theorem dX11_skip_32 : decode (MB MX11_skip) 32 = .ok (.invokestatic 390, 3) := by decide +kernel
theorem dX11_skip_35 : decode (MB MX11_skip) 35 = .ok (.lreturn, 1) := by decide +kernel
def MX11_between : Ms := (yX11_between, cX11_between, 6, (some .long), [])
set_option maxRecDepth 100000 in
theorem kX11_between : mkV MX11_between 3 := ⟨⟨List.mem_of_getElem? (i := 1263) (by rfl), by decide +kernel⟩, by decide +kernel⟩
theorem sX11_between_0 : dsOk (MN MX11_between).cls (MB MX11_between) 0 [(.iload 5, 0, 0, 0)] 2 = true := by decide +kernel
theorem dX11_between_2 : decode (MB MX11_between) 2 = .ok (.invokestatic 242, 3) := by decide +kernel
theorem sX11_between_5 : dsOk (MN MX11_between).cls (MB MX11_between) 5 [(.lload_n 3, 0, 0, 0), (.lconst 1, 0, 0, 1), (.ldc2_w 385, 0, 0, 1000000000000000)] 10 = true := by decide +kernel
theorem dX11_between_10 : decode (MB MX11_between) 10 = .ok (.invokestatic 281, 3) := by decide +kernel
theorem sX11_between_13 : dsOk (MN MX11_between).cls (MB MX11_between) 13 [(.lload_n 1, 0, 0, 0), (.lconst 1, 0, 0, 1), (.lload_n 3, 0, 0, 0)] 16 = true := by decide +kernel
theorem dX11_between_16 : decode (MB MX11_between) 16 = .ok (.invokestatic 281, 3) := by decide +kernel
theorem sX11_between_19 : dsOk (MN MX11_between).cls (MB MX11_between) 19 [(.iload 5, 0, 0, 0), (.lload_n 3, 0, 0, 0)] 22 = true := by decide +kernel
theorem dX11_between_22 : decode (MB MX11_between) 22 = .ok (.invokestatic 379, 3) := by decide +kernel
theorem sX11_between_25 : dsOk (MN MX11_between).cls (MB MX11_between) 25 [(.iload 5, 0, 0, 0), (.lload_n 1, 0, 0, 0), (.lconst 1, 0, 0, 1), (.lsub, 0, 0, 0)] 30 = true := by decide +kernel
theorem dX11_between_30 : decode (MB MX11_between) 30 = .ok (.invokestatic 379, 3) := by decide +kernel
theorem sX11_between_33 : dsOk (MN MX11_between).cls (MB MX11_between) 33 [(.lsub, 0, 0, 0)] 34 = true := by decide +kernel
theorem dX11_between_34 : decode (MB MX11_between) 34 = .ok (.lreturn, 1) := by decide +kernel
def MX11_whole : Ms := (yX11_whole, cX11_whole, 7, (some .int), [])
set_option maxRecDepth 100000 in
theorem kX11_whole : mkV MX11_whole 1 := ⟨⟨List.mem_of_getElem? (i := 1191) (by rfl), by decide +kernel⟩, by decide +kernel⟩
theorem sX11_whole_0 : dsOk (MN MX11_whole).cls (MB MX11_whole) 0 [(.aload_n 0, 0, 0, 0), (.iload_n 1, 0, 0, 0)] 2 = true := by decide +kernel
theorem dX11_whole_2 : decode (MB MX11_whole) 2 = .ok (.invokevirtual 154, 3) := by decide +kernel
theorem sX11_whole_5 : dsOk (MN MX11_whole).cls (MB MX11_whole) 5 [(.astore_n 2, 0, 0, 0), (.aload_n 0, 0, 0, 0), (.iload_n 1, 0, 0, 0), (.aload_n 2, 0, 0, 0)] 9 = true := by decide +kernel
theorem dX11_whole_9 : decode (MB MX11_whole) 9 = .ok (.invokevirtual 393, 3) := by decide +kernel
theorem sX11_whole_12 : dsOk (MN MX11_whole).cls (MB MX11_whole) 12 [(.istore_n 3, 0, 0, 0), (.iconst (-1), 0, 0, 0), (.istore 4, 0, 0, 0), (.iconst 0, 0, 0, 0), (.istore 5, 0, 0, 0)] 19 = true := by decide +kernel
theorem sX11_whole_19 : dsOk (MN MX11_whole).cls (MB MX11_whole) 19 [(.iload 5, 0, 0, 0), (.sipush 256, 0, 0, 256)] 24 = true := by decide +kernel
theorem dX11_whole_24 : decode (MB MX11_whole) 24 = .ok (.if_icmp .ge 54, 3) := by decide +kernel
theorem sX11_whole_27 : dsOk (MN MX11_whole).cls (MB MX11_whole) 27 [(.iload 4, 0, 0, 0), (.iconst (-1), 0, 0, 0)] 30 = true := by decide +kernel
theorem dX11_whole_30 : decode (MB MX11_whole) 30 = .ok (.if_icmp .eq 16, 3) := by decide +kernel
theorem sX11_whole_33 : dsOk (MN MX11_whole).cls (MB MX11_whole) 33 [(.iload 5, 0, 0, 0)] 35 = true := by decide +kernel
theorem dX11_whole_35 : decode (MB MX11_whole) 35 = .ok (.invokestatic 397, 3) := by decide +kernel
theorem sX11_whole_38 : dsOk (MN MX11_whole).cls (MB MX11_whole) 38 [(.iload 4, 0, 0, 0)] 40 = true := by decide +kernel
theorem dX11_whole_40 : decode (MB MX11_whole) 40 = .ok (.invokestatic 397, 3) := by decide +kernel
theorem dX11_whole_43 : decode (MB MX11_whole) 43 = .ok (.if_icmp .ge 7, 3) := by decide +kernel
theorem sX11_whole_46 : dsOk (MN MX11_whole).cls (MB MX11_whole) 46 [(.iconst 1, 0, 0, 0)] 47 = true := by decide +kernel
theorem dX11_whole_47 : decode (MB MX11_whole) 47 = .ok (.goto 4, 3) := by decide +kernel
theorem sX11_whole_50 : dsOk (MN MX11_whole).cls (MB MX11_whole) 50 [(.iconst 0, 0, 0, 0)] 51 = true := by decide +kernel
theorem sX11_whole_51 : dsOk (MN MX11_whole).cls (MB MX11_whole) 51 [(.istore 6, 0, 0, 0), (.iload 6, 0, 0, 0)] 55 = true := by decide +kernel
theorem dX11_whole_55 : decode (MB MX11_whole) 55 = .ok (.ifCond .eq 17, 3) := by decide +kernel
theorem sX11_whole_58 : dsOk (MN MX11_whole).cls (MB MX11_whole) 58 [(.aload_n 0, 0, 0, 0), (.iload 5, 0, 0, 0), (.iload_n 3, 0, 0, 0)] 62 = true := by decide +kernel
theorem dX11_whole_62 : decode (MB MX11_whole) 62 = .ok (.invokevirtual 402, 3) := by decide +kernel
theorem dX11_whole_65 : decode (MB MX11_whole) 65 = .ok (.ifCond .eq 7, 3) := by decide +kernel
theorem sX11_whole_68 : dsOk (MN MX11_whole).cls (MB MX11_whole) 68 [(.iload 5, 0, 0, 0), (.istore 4, 0, 0, 0)] 72 = true := by decide +kernel
theorem sX11_whole_72 : dsOk (MN MX11_whole).cls (MB MX11_whole) 72 [(.iinc 5 1, 0, 0, 0)] 75 = true := by decide +kernel
theorem dX11_whole_75 : decode (MB MX11_whole) 75 = .ok (.goto (-56), 3) := by decide +kernel
theorem sX11_whole_78 : dsOk (MN MX11_whole).cls (MB MX11_whole) 78 [(.iload 4, 0, 0, 0)] 80 = true := by decide +kernel
theorem dX11_whole_80 : decode (MB MX11_whole) 80 = .ok (.ireturn, 1) := by decide +kernel
def MX11_findHavers : Ms := (yX11_findHavers, cX11_findHavers, 5, (some .int), [])
set_option maxRecDepth 100000 in
theorem kX11_findHavers : mkV MX11_findHavers 2 := ⟨⟨List.mem_of_getElem? (i := 1195) (by rfl), by decide +kernel⟩, by decide +kernel⟩
theorem sX11_findHavers_0 : dsOk (MN MX11_findHavers).cls (MB MX11_findHavers) 0 [(.iconst 0, 0, 0, 0), (.istore_n 3, 0, 0, 0), (.iconst 0, 0, 0, 0), (.istore 4, 0, 0, 0)] 5 = true := by decide +kernel
theorem sX11_findHavers_5 : dsOk (MN MX11_findHavers).cls (MB MX11_findHavers) 5 [(.iload 4, 0, 0, 0), (.aload_n 2, 0, 0, 0), (.getfield 181, 0, 1, 0)] 11 = true := by decide +kernel
theorem dX11_findHavers_11 : decode (MB MX11_findHavers) 11 = .ok (.if_icmp .ge 42, 3) := by decide +kernel
theorem sX11_findHavers_14 : dsOk (MN MX11_findHavers).cls (MB MX11_findHavers) 14 [(.aload_n 2, 0, 0, 0), (.getfield 184, 0, 5, 0), (.iload 4, 0, 0, 0)] 20 = true := by decide +kernel
theorem dX11_findHavers_20 : decode (MB MX11_findHavers) 20 = .ok (.invokevirtual 202, 3) := by decide +kernel
theorem dX11_findHavers_23 : decode (MB MX11_findHavers) 23 = .ok (.ifCond .eq 24, 3) := by decide +kernel
theorem sX11_findHavers_26 : dsOk (MN MX11_findHavers).cls (MB MX11_findHavers) 26 [(.aload_n 0, 0, 0, 0), (.getfield 49, 10, 10, 0), (.iload_n 3, 0, 0, 0), (.aload_n 0, 0, 0, 0), (.getfield 25, 10, 3, 0), (.iload_n 1, 0, 0, 0), (.iload 4, 0, 0, 0)] 38 = true := by decide +kernel
theorem dX11_findHavers_38 : decode (MB MX11_findHavers) 38 = .ok (.invokevirtual 406, 3) := by decide +kernel
theorem dX11_findHavers_41 : decode (MB MX11_findHavers) 41 = .ok (.invokestatic 87, 3) := by decide +kernel
theorem sX11_findHavers_44 : dsOk (MN MX11_findHavers).cls (MB MX11_findHavers) 44 [(.iinc 3 1, 0, 0, 0)] 47 = true := by decide +kernel
theorem sX11_findHavers_47 : dsOk (MN MX11_findHavers).cls (MB MX11_findHavers) 47 [(.iinc 4 1, 0, 0, 0)] 50 = true := by decide +kernel
theorem dX11_findHavers_50 : decode (MB MX11_findHavers) 50 = .ok (.goto (-45), 3) := by decide +kernel
theorem sX11_findHavers_53 : dsOk (MN MX11_findHavers).cls (MB MX11_findHavers) 53 [(.iload_n 3, 0, 0, 0)] 54 = true := by decide +kernel
theorem dX11_findHavers_54 : decode (MB MX11_findHavers) 54 = .ok (.ireturn, 1) := by decide +kernel
def MX11_makesWhole : Ms := (yX11_makesWhole, cX11_makesWhole, 4, (some .boolean), [])
set_option maxRecDepth 100000 in
theorem kX11_makesWhole : mkV MX11_makesWhole 2 := ⟨⟨List.mem_of_getElem? (i := 1210) (by rfl), by decide +kernel⟩, by decide +kernel⟩
theorem sX11_makesWhole_0 : dsOk (MN MX11_makesWhole).cls (MB MX11_makesWhole) 0 [(.iconst 0, 0, 0, 0), (.istore_n 3, 0, 0, 0)] 2 = true := by decide +kernel
theorem sX11_makesWhole_2 : dsOk (MN MX11_makesWhole).cls (MB MX11_makesWhole) 2 [(.iload_n 3, 0, 0, 0), (.iload_n 2, 0, 0, 0)] 4 = true := by decide +kernel
theorem dX11_makesWhole_4 : decode (MB MX11_makesWhole) 4 = .ok (.if_icmp .ge 24, 3) := by decide +kernel
theorem sX11_makesWhole_7 : dsOk (MN MX11_makesWhole).cls (MB MX11_makesWhole) 7 [(.aload_n 0, 0, 0, 0), (.getfield 49, 10, 10, 0), (.iload_n 3, 0, 0, 0)] 12 = true := by decide +kernel
theorem dX11_makesWhole_12 : decode (MB MX11_makesWhole) 12 = .ok (.invokestatic 215, 3) := by decide +kernel
theorem sX11_makesWhole_15 : dsOk (MN MX11_makesWhole).cls (MB MX11_makesWhole) 15 [(.iload_n 1, 0, 0, 0), (.iand, 0, 0, 0)] 17 = true := by decide +kernel
theorem dX11_makesWhole_17 : decode (MB MX11_makesWhole) 17 = .ok (.ifCond .ne 5, 3) := by decide +kernel
theorem sX11_makesWhole_20 : dsOk (MN MX11_makesWhole).cls (MB MX11_makesWhole) 20 [(.iconst 0, 0, 0, 0)] 21 = true := by decide +kernel
theorem dX11_makesWhole_21 : decode (MB MX11_makesWhole) 21 = .ok (.ireturn, 1) := by decide +kernel
theorem sX11_makesWhole_22 : dsOk (MN MX11_makesWhole).cls (MB MX11_makesWhole) 22 [(.iinc 3 1, 0, 0, 0)] 25 = true := by decide +kernel
theorem dX11_makesWhole_25 : decode (MB MX11_makesWhole) 25 = .ok (.goto (-23), 3) := by decide +kernel
theorem sX11_makesWhole_28 : dsOk (MN MX11_makesWhole).cls (MB MX11_makesWhole) 28 [(.iconst 1, 0, 0, 0)] 29 = true := by decide +kernel
theorem dX11_makesWhole_29 : decode (MB MX11_makesWhole) 29 = .ok (.ireturn, 1) := by decide +kernel
def MX11_bought : Ms := (yX11_bought, cX11_bought, 5, (some .int), [])
set_option maxRecDepth 100000 in
theorem kX11_bought : mkV MX11_bought 1 := ⟨⟨List.mem_of_getElem? (i := 1217) (by rfl), by decide +kernel⟩, by decide +kernel⟩
theorem sX11_bought_0 : dsOk (MN MX11_bought).cls (MB MX11_bought) 0 [(.aload_n 0, 0, 0, 0), (.iload_n 1, 0, 0, 0), (.aload_n 0, 0, 0, 0), (.iload_n 1, 0, 0, 0)] 4 = true := by decide +kernel
theorem dX11_bought_4 : decode (MB MX11_bought) 4 = .ok (.invokevirtual 154, 3) := by decide +kernel
theorem dX11_bought_7 : decode (MB MX11_bought) 7 = .ok (.invokevirtual 393, 3) := by decide +kernel
theorem sX11_bought_10 : dsOk (MN MX11_bought).cls (MB MX11_bought) 10 [(.istore_n 2, 0, 0, 0), (.iconst 0, 0, 0, 0), (.istore_n 3, 0, 0, 0), (.iconst 0, 0, 0, 0), (.istore 4, 0, 0, 0)] 16 = true := by decide +kernel
theorem sX11_bought_16 : dsOk (MN MX11_bought).cls (MB MX11_bought) 16 [(.iload 4, 0, 0, 0), (.iload_n 2, 0, 0, 0)] 19 = true := by decide +kernel
theorem dX11_bought_19 : decode (MB MX11_bought) 19 = .ok (.if_icmp .ge 24, 3) := by decide +kernel
theorem sX11_bought_22 : dsOk (MN MX11_bought).cls (MB MX11_bought) 22 [(.aload_n 0, 0, 0, 0), (.getfield 49, 10, 10, 0), (.iload 4, 0, 0, 0)] 28 = true := by decide +kernel
theorem dX11_bought_28 : decode (MB MX11_bought) 28 = .ok (.invokestatic 215, 3) := by decide +kernel
theorem dX11_bought_31 : decode (MB MX11_bought) 31 = .ok (.ifCond .ne 6, 3) := by decide +kernel
theorem sX11_bought_34 : dsOk (MN MX11_bought).cls (MB MX11_bought) 34 [(.iinc 3 1, 0, 0, 0)] 37 = true := by decide +kernel
theorem sX11_bought_37 : dsOk (MN MX11_bought).cls (MB MX11_bought) 37 [(.iinc 4 1, 0, 0, 0)] 40 = true := by decide +kernel
theorem dX11_bought_40 : decode (MB MX11_bought) 40 = .ok (.goto (-24), 3) := by decide +kernel
theorem sX11_bought_43 : dsOk (MN MX11_bought).cls (MB MX11_bought) 43 [(.iload_n 3, 0, 0, 0)] 44 = true := by decide +kernel
theorem dX11_bought_44 : decode (MB MX11_bought) 44 = .ok (.ireturn, 1) := by decide +kernel
def MX11_index : Ms := (yX11_index, cX11_index, 8, (some .int), [])
set_option maxRecDepth 100000 in
theorem kX11_index : mkV MX11_index 2 := ⟨⟨List.mem_of_getElem? (i := 1224) (by rfl), by decide +kernel⟩, by decide +kernel⟩
theorem sX11_index_0 : dsOk (MN MX11_index).cls (MB MX11_index) 0 [(.aload_n 0, 0, 0, 0), (.iload_n 1, 0, 0, 0)] 2 = true := by decide +kernel
theorem dX11_index_2 : decode (MB MX11_index) 2 = .ok (.invokevirtual 154, 3) := by decide +kernel
theorem sX11_index_5 : dsOk (MN MX11_index).cls (MB MX11_index) 5 [(.astore_n 3, 0, 0, 0), (.aload_n 0, 0, 0, 0), (.iload_n 1, 0, 0, 0), (.aload_n 3, 0, 0, 0), (.iload_n 2, 0, 0, 0)] 10 = true := by decide +kernel
theorem dX11_index_10 : decode (MB MX11_index) 10 = .ok (.invokevirtual 223, 3) := by decide +kernel
theorem sX11_index_13 : dsOk (MN MX11_index).cls (MB MX11_index) 13 [(.lstore 4, 0, 0, 0), (.lload 4, 0, 0, 0), (.lconst 1, 0, 0, 1), (.lcmp, 0, 0, 0)] 19 = true := by decide +kernel
theorem dX11_index_19 : decode (MB MX11_index) 19 = .ok (.ifCond .ge 5, 3) := by decide +kernel
theorem sX11_index_22 : dsOk (MN MX11_index).cls (MB MX11_index) 22 [(.iconst (-1), 0, 0, 0)] 23 = true := by decide +kernel
theorem dX11_index_23 : decode (MB MX11_index) 23 = .ok (.ireturn, 1) := by decide +kernel
theorem sX11_index_24 : dsOk (MN MX11_index).cls (MB MX11_index) 24 [(.lload 4, 0, 0, 0), (.lconst 1, 0, 0, 1), (.ladd, 0, 0, 0), (.ldc2_w 227, 0, 0, 2), (.ldiv, 0, 0, 0), (.lstore 6, 0, 0, 0), (.aload_n 3, 0, 0, 0), (.getfield 178, 0, 0, 0), (.iconst 1, 0, 0, 0)] 39 = true := by decide +kernel
theorem dX11_index_39 : decode (MB MX11_index) 39 = .ok (.if_icmp .ne 20, 3) := by decide +kernel
theorem sX11_index_42 : dsOk (MN MX11_index).cls (MB MX11_index) 42 [(.lload 6, 0, 0, 0), (.ldc2_w 227, 0, 0, 2), (.lrem, 0, 0, 0), (.lconst 0, 0, 0, 0), (.lcmp, 0, 0, 0)] 50 = true := by decide +kernel
theorem dX11_index_50 : decode (MB MX11_index) 50 = .ok (.ifCond .eq 9, 3) := by decide +kernel
theorem sX11_index_53 : dsOk (MN MX11_index).cls (MB MX11_index) 53 [(.lload 6, 0, 0, 0), (.lconst 1, 0, 0, 1), (.ladd, 0, 0, 0), (.lstore 6, 0, 0, 0)] 59 = true := by decide +kernel
theorem sX11_index_59 : dsOk (MN MX11_index).cls (MB MX11_index) 59 [(.lload 6, 0, 0, 0), (.aload_n 3, 0, 0, 0), (.getfield 181, 0, 1, 0), (.i2l, 0, 0, 0), (.lcmp, 0, 0, 0)] 67 = true := by decide +kernel
theorem dX11_index_67 : decode (MB MX11_index) 67 = .ok (.ifCond .le 15, 3) := by decide +kernel
theorem sX11_index_70 : dsOk (MN MX11_index).cls (MB MX11_index) 70 [(.lload 6, 0, 0, 0), (.aload_n 3, 0, 0, 0), (.getfield 181, 0, 1, 0), (.i2l, 0, 0, 0), (.lsub, 0, 0, 0), (.l2i, 0, 0, 0)] 79 = true := by decide +kernel
theorem dX11_index_79 : decode (MB MX11_index) 79 = .ok (.goto 4, 3) := by decide +kernel
theorem sX11_index_82 : dsOk (MN MX11_index).cls (MB MX11_index) 82 [(.iconst 0, 0, 0, 0)] 83 = true := by decide +kernel
theorem dX11_index_83 : decode (MB MX11_index) 83 = .ok (.ireturn, 1) := by decide +kernel
def MX11_stick : Ms := (yX11_stick, cX11_stick, 4, (some .int), [])
set_option maxRecDepth 100000 in
theorem kX11_stick : mkV MX11_stick 2 := ⟨⟨List.mem_of_getElem? (i := 1270) (by rfl), by decide +kernel⟩, by decide +kernel⟩
theorem sX11_stick_0 : dsOk (MN MX11_stick).cls (MB MX11_stick) 0 [(.aload_n 0, 0, 0, 0), (.iload_n 1, 0, 0, 0), (.iload_n 2, 0, 0, 0)] 3 = true := by decide +kernel
theorem dX11_stick_3 : decode (MB MX11_stick) 3 = .ok (.invokevirtual 198, 3) := by decide +kernel
theorem sX11_stick_6 : dsOk (MN MX11_stick).cls (MB MX11_stick) 6 [(.astore_n 3, 0, 0, 0), (.aload_n 0, 0, 0, 0), (.getfield 39, 10, 6, 0), (.getfield 140, 2, 9, 0), (.bipush 20, 0, 0, 20)] 16 = true := by decide +kernel
theorem dX11_stick_16 : decode (MB MX11_stick) 16 = .ok (.if_icmp .ge 49, 3) := by decide +kernel
theorem sX11_stick_19 : dsOk (MN MX11_stick).cls (MB MX11_stick) 19 [(.aload_n 3, 0, 0, 0), (.iload_n 2, 0, 0, 0), (.iconst 1, 0, 0, 0), (.iadd, 0, 0, 0)] 23 = true := by decide +kernel
theorem dX11_stick_23 : decode (MB MX11_stick) 23 = .ok (.invokevirtual 157, 3) := by decide +kernel
theorem dX11_stick_26 : decode (MB MX11_stick) 26 = .ok (.ifCond .eq 39, 3) := by decide +kernel
theorem sX11_stick_29 : dsOk (MN MX11_stick).cls (MB MX11_stick) 29 [(.aload_n 3, 0, 0, 0), (.getfield 184, 0, 5, 0), (.iload_n 2, 0, 0, 0)] 34 = true := by decide +kernel
theorem dX11_stick_34 : decode (MB MX11_stick) 34 = .ok (.invokevirtual 202, 3) := by decide +kernel
theorem dX11_stick_37 : decode (MB MX11_stick) 37 = .ok (.ifCond .ne 28, 3) := by decide +kernel
theorem sX11_stick_40 : dsOk (MN MX11_stick).cls (MB MX11_stick) 40 [(.aload_n 3, 0, 0, 0), (.getfield 184, 0, 5, 0), (.iload_n 2, 0, 0, 0), (.iconst 1, 0, 0, 0), (.iadd, 0, 0, 0)] 47 = true := by decide +kernel
theorem dX11_stick_47 : decode (MB MX11_stick) 47 = .ok (.invokevirtual 202, 3) := by decide +kernel
theorem dX11_stick_50 : decode (MB MX11_stick) 50 = .ok (.ifCond .ne 15, 3) := by decide +kernel
theorem sX11_stick_53 : dsOk (MN MX11_stick).cls (MB MX11_stick) 53 [(.aload_n 0, 0, 0, 0), (.getfield 39, 10, 6, 0), (.iload_n 1, 0, 0, 0), (.iload_n 2, 0, 0, 0)] 59 = true := by decide +kernel
theorem dX11_stick_59 : decode (MB MX11_stick) 59 = .ok (.invokevirtual 409, 3) := by decide +kernel
theorem dX11_stick_62 : decode (MB MX11_stick) 62 = .ok (.ifCond .eq 12, 3) := by decide +kernel
theorem sX11_stick_65 : dsOk (MN MX11_stick).cls (MB MX11_stick) 65 [(.aload_n 0, 0, 0, 0), (.getfield 39, 10, 6, 0), (.iconst 3, 0, 0, 0)] 70 = true := by decide +kernel
theorem dX11_stick_70 : decode (MB MX11_stick) 70 = .ok (.invokevirtual 106, 3) := by decide +kernel
theorem dX11_stick_73 : decode (MB MX11_stick) 73 = .ok (.ireturn, 1) := by decide +kernel
theorem sX11_stick_74 : dsOk (MN MX11_stick).cls (MB MX11_stick) 74 [(.aload_n 0, 0, 0, 0), (.getfield 39, 10, 6, 0), (.iload_n 1, 0, 0, 0), (.iload_n 2, 0, 0, 0)] 80 = true := by decide +kernel
theorem dX11_stick_80 : decode (MB MX11_stick) 80 = .ok (.invokevirtual 412, 3) := by decide +kernel
theorem dX11_stick_83 : decode (MB MX11_stick) 83 = .ok (.ireturn, 1) := by decide +kernel
def MX11_loosen : Ms := (yX11_loosen, cX11_loosen, 1, (some .int), [])
set_option maxRecDepth 100000 in
theorem kX11_loosen : mkV MX11_loosen 0 := ⟨⟨List.mem_of_getElem? (i := 401) (by rfl), by decide +kernel⟩, by decide +kernel⟩
theorem sX11_loosen_0 : dsOk (MN MX11_loosen).cls (MB MX11_loosen) 0 [(.aload_n 0, 0, 0, 0), (.getfield 39, 10, 6, 0), (.getfield 140, 2, 9, 0), (.iconst 1, 0, 0, 0)] 8 = true := by decide +kernel
theorem dX11_loosen_8 : decode (MB MX11_loosen) 8 = .ok (.if_icmp .ge 5, 3) := by decide +kernel
theorem sX11_loosen_11 : dsOk (MN MX11_loosen).cls (MB MX11_loosen) 11 [(.iconst (-1), 0, 0, 0)] 12 = true := by decide +kernel
theorem dX11_loosen_12 : decode (MB MX11_loosen) 12 = .ok (.ireturn, 1) := by decide +kernel
theorem sX11_loosen_13 : dsOk (MN MX11_loosen).cls (MB MX11_loosen) 13 [(.aload_n 0, 0, 0, 0), (.getfield 39, 10, 6, 0), (.dup, 0, 0, 0), (.getfield 140, 2, 9, 0), (.iconst 1, 0, 0, 0), (.isub, 0, 0, 0), (.putfield 140, 2, 9, 0), (.aload_n 0, 0, 0, 0), (.getfield 39, 10, 6, 0), (.getfield 140, 2, 9, 0)] 33 = true := by decide +kernel
theorem dX11_loosen_33 : decode (MB MX11_loosen) 33 = .ok (.ireturn, 1) := by decide +kernel
def MX11_read : Ms := (yX11_read, cX11_read, 14, (some .long), [])
set_option maxRecDepth 100000 in
theorem kX11_read : mkV MX11_read 6 := ⟨⟨List.mem_of_getElem? (i := 1285) (by rfl), by decide +kernel⟩, by decide +kernel⟩
theorem sX11_read_0 : dsOk (MN MX11_read).cls (MB MX11_read) 0 [(.aload_n 0, 0, 0, 0), (.iload_n 1, 0, 0, 0), (.iload_n 2, 0, 0, 0)] 3 = true := by decide +kernel
theorem dX11_read_3 : decode (MB MX11_read) 3 = .ok (.invokevirtual 205, 3) := by decide +kernel
theorem sX11_read_6 : dsOk (MN MX11_read).cls (MB MX11_read) 6 [(.astore 7, 0, 0, 0), (.aload_n 0, 0, 0, 0), (.iload_n 1, 0, 0, 0), (.iload_n 3, 0, 0, 0)] 11 = true := by decide +kernel
theorem dX11_read_11 : decode (MB MX11_read) 11 = .ok (.invokevirtual 205, 3) := by decide +kernel
theorem sX11_read_14 : dsOk (MN MX11_read).cls (MB MX11_read) 14 [(.pop, 0, 0, 0), (.iload_n 3, 0, 0, 0), (.i2l, 0, 0, 0), (.iload_n 2, 0, 0, 0), (.i2l, 0, 0, 0), (.ldc2_w 415, 0, 0, 4000)] 22 = true := by decide +kernel
theorem dX11_read_22 : decode (MB MX11_read) 22 = .ok (.invokestatic 281, 3) := by decide +kernel
theorem sX11_read_25 : dsOk (MN MX11_read).cls (MB MX11_read) 25 [(.iload 4, 0, 0, 0), (.i2l, 0, 0, 0), (.lconst 1, 0, 0, 1), (.ldc2_w 417, 0, 0, 100)] 32 = true := by decide +kernel
theorem dX11_read_32 : decode (MB MX11_read) 32 = .ok (.invokestatic 281, 3) := by decide +kernel
theorem sX11_read_35 : dsOk (MN MX11_read).cls (MB MX11_read) 35 [(.iload 5, 0, 0, 0)] 37 = true := by decide +kernel
theorem dX11_read_37 : decode (MB MX11_read) 37 = .ok (.ifCond .eq 15, 3) := by decide +kernel
theorem sX11_read_40 : dsOk (MN MX11_read).cls (MB MX11_read) 40 [(.iload 5, 0, 0, 0), (.i2l, 0, 0, 0), (.ldc2_w 227, 0, 0, 2), (.ldc2_w 383, 0, 0, 9)] 49 = true := by decide +kernel
theorem dX11_read_49 : decode (MB MX11_read) 49 = .ok (.invokestatic 281, 3) := by decide +kernel
theorem sX11_read_52 : dsOk (MN MX11_read).cls (MB MX11_read) 52 [(.lconst 0, 0, 0, 0), (.lstore 8, 0, 0, 0), (.iconst 0, 0, 0, 0), (.istore 10, 0, 0, 0), (.iconst 0, 0, 0, 0), (.istore 11, 0, 0, 0), (.iload_n 2, 0, 0, 0), (.istore 12, 0, 0, 0)] 64 = true := by decide +kernel
theorem sX11_read_64 : dsOk (MN MX11_read).cls (MB MX11_read) 64 [(.iload 12, 0, 0, 0), (.iload_n 3, 0, 0, 0)] 67 = true := by decide +kernel
theorem dX11_read_67 : decode (MB MX11_read) 67 = .ok (.if_icmp .gt 65, 3) := by decide +kernel
theorem sX11_read_70 : dsOk (MN MX11_read).cls (MB MX11_read) 70 [(.iload 11, 0, 0, 0)] 72 = true := by decide +kernel
theorem dX11_read_72 : decode (MB MX11_read) 72 = .ok (.ifCond .ne 17, 3) := by decide +kernel
theorem sX11_read_75 : dsOk (MN MX11_read).cls (MB MX11_read) 75 [(.aload_n 0, 0, 0, 0), (.iload_n 1, 0, 0, 0), (.aload 7, 0, 0, 0), (.iload 12, 0, 0, 0), (.iload 5, 0, 0, 0)] 83 = true := by decide +kernel
theorem dX11_read_83 : decode (MB MX11_read) 83 = .ok (.invokevirtual 419, 3) := by decide +kernel
theorem dX11_read_86 : decode (MB MX11_read) 86 = .ok (.goto 4, 3) := by decide +kernel
theorem sX11_read_89 : dsOk (MN MX11_read).cls (MB MX11_read) 89 [(.iconst 0, 0, 0, 0)] 90 = true := by decide +kernel
theorem sX11_read_90 : dsOk (MN MX11_read).cls (MB MX11_read) 90 [(.istore 13, 0, 0, 0), (.iload 13, 0, 0, 0)] 94 = true := by decide +kernel
theorem dX11_read_94 : decode (MB MX11_read) 94 = .ok (.ifCond .le 14, 3) := by decide +kernel
theorem sX11_read_97 : dsOk (MN MX11_read).cls (MB MX11_read) 97 [(.lload 8, 0, 0, 0), (.iload 13, 0, 0, 0), (.i2l, 0, 0, 0), (.ladd, 0, 0, 0), (.lstore 8, 0, 0, 0), (.iinc 10 1, 0, 0, 0)] 108 = true := by decide +kernel
theorem sX11_read_108 : dsOk (MN MX11_read).cls (MB MX11_read) 108 [(.iload 11, 0, 0, 0)] 110 = true := by decide +kernel
theorem dX11_read_110 : decode (MB MX11_read) 110 = .ok (.ifCond .ne 10, 3) := by decide +kernel
theorem sX11_read_113 : dsOk (MN MX11_read).cls (MB MX11_read) 113 [(.iload 4, 0, 0, 0), (.iconst 1, 0, 0, 0), (.isub, 0, 0, 0)] 117 = true := by decide +kernel
theorem dX11_read_117 : decode (MB MX11_read) 117 = .ok (.goto 7, 3) := by decide +kernel
theorem sX11_read_120 : dsOk (MN MX11_read).cls (MB MX11_read) 120 [(.iload 11, 0, 0, 0), (.iconst 1, 0, 0, 0), (.isub, 0, 0, 0)] 124 = true := by decide +kernel
theorem sX11_read_124 : dsOk (MN MX11_read).cls (MB MX11_read) 124 [(.istore 11, 0, 0, 0), (.iinc 12 1, 0, 0, 0)] 129 = true := by decide +kernel
theorem dX11_read_129 : decode (MB MX11_read) 129 = .ok (.goto (-65), 3) := by decide +kernel
theorem sX11_read_132 : dsOk (MN MX11_read).cls (MB MX11_read) 132 [(.iload 6, 0, 0, 0)] 134 = true := by decide +kernel
theorem dX11_read_134 : decode (MB MX11_read) 134 = .ok (.ifCond .eq 9, 3) := by decide +kernel
theorem sX11_read_137 : dsOk (MN MX11_read).cls (MB MX11_read) 137 [(.iload 10, 0, 0, 0), (.i2l, 0, 0, 0)] 140 = true := by decide +kernel
theorem dX11_read_140 : decode (MB MX11_read) 140 = .ok (.goto 5, 3) := by decide +kernel
theorem sX11_read_143 : dsOk (MN MX11_read).cls (MB MX11_read) 143 [(.lload 8, 0, 0, 0)] 145 = true := by decide +kernel
theorem dX11_read_145 : decode (MB MX11_read) 145 = .ok (.lreturn, 1) := by decide +kernel
def MX11_numberRead : Ms := (yX11_numberRead, cX11_numberRead, 6, (some .int), [])
set_option maxRecDepth 100000 in
theorem kX11_numberRead : mkV MX11_numberRead 4 := ⟨⟨List.mem_of_getElem? (i := 1291) (by rfl), by decide +kernel⟩, by decide +kernel⟩
theorem sX11_numberRead_0 : dsOk (MN MX11_numberRead).cls (MB MX11_numberRead) 0 [(.aload_n 0, 0, 0, 0), (.iload_n 1, 0, 0, 0), (.aload_n 2, 0, 0, 0), (.iload_n 3, 0, 0, 0)] 4 = true := by decide +kernel
theorem dX11_numberRead_4 : decode (MB MX11_numberRead) 4 = .ok (.invokevirtual 423, 3) := by decide +kernel
theorem dX11_numberRead_7 : decode (MB MX11_numberRead) 7 = .ok (.ifCond .eq 13, 3) := by decide +kernel
theorem sX11_numberRead_10 : dsOk (MN MX11_numberRead).cls (MB MX11_numberRead) 10 [(.aload_n 0, 0, 0, 0), (.iload_n 1, 0, 0, 0), (.aload_n 2, 0, 0, 0), (.iload_n 3, 0, 0, 0)] 14 = true := by decide +kernel
theorem dX11_numberRead_14 : decode (MB MX11_numberRead) 14 = .ok (.invokevirtual 208, 3) := by decide +kernel
theorem dX11_numberRead_17 : decode (MB MX11_numberRead) 17 = .ok (.goto 4, 3) := by decide +kernel
theorem sX11_numberRead_20 : dsOk (MN MX11_numberRead).cls (MB MX11_numberRead) 20 [(.iconst 0, 0, 0, 0)] 21 = true := by decide +kernel
theorem sX11_numberRead_21 : dsOk (MN MX11_numberRead).cls (MB MX11_numberRead) 21 [(.istore 5, 0, 0, 0), (.iload 4, 0, 0, 0), (.iload 5, 0, 0, 0)] 27 = true := by decide +kernel
theorem dX11_numberRead_27 : decode (MB MX11_numberRead) 27 = .ok (.invokestatic 427, 3) := by decide +kernel
theorem dX11_numberRead_30 : decode (MB MX11_numberRead) 30 = .ok (.ifCond .eq 7, 3) := by decide +kernel
theorem sX11_numberRead_33 : dsOk (MN MX11_numberRead).cls (MB MX11_numberRead) 33 [(.iconst 0, 0, 0, 0)] 34 = true := by decide +kernel
theorem dX11_numberRead_34 : decode (MB MX11_numberRead) 34 = .ok (.goto 5, 3) := by decide +kernel
theorem sX11_numberRead_37 : dsOk (MN MX11_numberRead).cls (MB MX11_numberRead) 37 [(.iload 5, 0, 0, 0)] 39 = true := by decide +kernel
theorem dX11_numberRead_39 : decode (MB MX11_numberRead) 39 = .ok (.ireturn, 1) := by decide +kernel
def MX11_isSeen : Ms := (yX11_isSeen, cX11_isSeen, 4, (some .boolean), [])
set_option maxRecDepth 100000 in
theorem kX11_isSeen : mkV MX11_isSeen 3 := ⟨⟨List.mem_of_getElem? (i := 1295) (by rfl), by decide +kernel⟩, by decide +kernel⟩
theorem sX11_isSeen_0 : dsOk (MN MX11_isSeen).cls (MB MX11_isSeen) 0 [(.aload_n 2, 0, 0, 0), (.getfield 184, 0, 5, 0), (.iload_n 3, 0, 0, 0)] 5 = true := by decide +kernel
theorem dX11_isSeen_5 : decode (MB MX11_isSeen) 5 = .ok (.invokestatic 245, 3) := by decide +kernel
theorem dX11_isSeen_8 : decode (MB MX11_isSeen) 8 = .ok (.invokevirtual 202, 3) := by decide +kernel
theorem dX11_isSeen_11 : decode (MB MX11_isSeen) 11 = .ok (.ifCond .ne 23, 3) := by decide +kernel
theorem sX11_isSeen_14 : dsOk (MN MX11_isSeen).cls (MB MX11_isSeen) 14 [(.aload_n 0, 0, 0, 0), (.getfield 39, 10, 6, 0), (.iload_n 1, 0, 0, 0), (.iload_n 3, 0, 0, 0), (.iconst 2, 0, 0, 0), (.idiv, 0, 0, 0), (.iconst 1, 0, 0, 0), (.isub, 0, 0, 0)] 24 = true := by decide +kernel
theorem dX11_isSeen_24 : decode (MB MX11_isSeen) 24 = .ok (.invokevirtual 409, 3) := by decide +kernel
theorem dX11_isSeen_27 : decode (MB MX11_isSeen) 27 = .ok (.ifCond .ne 7, 3) := by decide +kernel
theorem sX11_isSeen_30 : dsOk (MN MX11_isSeen).cls (MB MX11_isSeen) 30 [(.iconst 1, 0, 0, 0)] 31 = true := by decide +kernel
theorem dX11_isSeen_31 : decode (MB MX11_isSeen) 31 = .ok (.goto 4, 3) := by decide +kernel
theorem sX11_isSeen_34 : dsOk (MN MX11_isSeen).cls (MB MX11_isSeen) 34 [(.iconst 0, 0, 0, 0)] 35 = true := by decide +kernel
theorem dX11_isSeen_35 : decode (MB MX11_isSeen) 35 = .ok (.ireturn, 1) := by decide +kernel
def MX11_shares : Ms := (yX11_shares, cX11_shares, 5, (some .long), [])
set_option maxRecDepth 100000 in
theorem kX11_shares : mkV MX11_shares 2 := ⟨⟨List.mem_of_getElem? (i := 1306) (by rfl), by decide +kernel⟩, by decide +kernel⟩
theorem sX11_shares_0 : dsOk (MN MX11_shares).cls (MB MX11_shares) 0 [(.aload_n 0, 0, 0, 0), (.iload_n 1, 0, 0, 0)] 2 = true := by decide +kernel
theorem dX11_shares_2 : decode (MB MX11_shares) 2 = .ok (.invokevirtual 154, 3) := by decide +kernel
theorem sX11_shares_5 : dsOk (MN MX11_shares).cls (MB MX11_shares) 5 [(.astore_n 3, 0, 0, 0), (.iload_n 2, 0, 0, 0), (.i2l, 0, 0, 0), (.ldc2_w 227, 0, 0, 2), (.ldc2_w 430, 0, 0, 4)] 14 = true := by decide +kernel
theorem dX11_shares_14 : decode (MB MX11_shares) 14 = .ok (.invokestatic 281, 3) := by decide +kernel
theorem sX11_shares_17 : dsOk (MN MX11_shares).cls (MB MX11_shares) 17 [(.aload_n 3, 0, 0, 0)] 18 = true := by decide +kernel
theorem dX11_shares_18 : decode (MB MX11_shares) 18 = .ok (.invokevirtual 285, 3) := by decide +kernel
theorem sX11_shares_21 : dsOk (MN MX11_shares).cls (MB MX11_shares) 21 [(.bipush 10, 0, 0, 10)] 23 = true := by decide +kernel
theorem dX11_shares_23 : decode (MB MX11_shares) 23 = .ok (.if_icmp .le 7, 3) := by decide +kernel
theorem sX11_shares_26 : dsOk (MN MX11_shares).cls (MB MX11_shares) 26 [(.ldc2_w 432, 0, 0, -2)] 29 = true := by decide +kernel
theorem dX11_shares_29 : decode (MB MX11_shares) 29 = .ok (.lreturn, 1) := by decide +kernel
theorem sX11_shares_30 : dsOk (MN MX11_shares).cls (MB MX11_shares) 30 [(.aload_n 0, 0, 0, 0), (.getfield 69, 10, 13, 0), (.iload_n 2, 0, 0, 0)] 35 = true := by decide +kernel
theorem dX11_shares_35 : decode (MB MX11_shares) 35 = .ok (.invokevirtual 434, 3) := by decide +kernel
theorem sX11_shares_38 : dsOk (MN MX11_shares).cls (MB MX11_shares) 38 [(.iconst 0, 0, 0, 0), (.istore 4, 0, 0, 0)] 41 = true := by decide +kernel
theorem sX11_shares_41 : dsOk (MN MX11_shares).cls (MB MX11_shares) 41 [(.iload 4, 0, 0, 0), (.aload_n 3, 0, 0, 0), (.getfield 181, 0, 1, 0)] 47 = true := by decide +kernel
theorem dX11_shares_47 : decode (MB MX11_shares) 47 = .ok (.if_icmp .ge 36, 3) := by decide +kernel
theorem sX11_shares_50 : dsOk (MN MX11_shares).cls (MB MX11_shares) 50 [(.aload_n 3, 0, 0, 0), (.getfield 184, 0, 5, 0), (.iload 4, 0, 0, 0)] 56 = true := by decide +kernel
theorem dX11_shares_56 : decode (MB MX11_shares) 56 = .ok (.invokevirtual 202, 3) := by decide +kernel
theorem dX11_shares_59 : decode (MB MX11_shares) 59 = .ok (.ifCond .ne 18, 3) := by decide +kernel
theorem sX11_shares_62 : dsOk (MN MX11_shares).cls (MB MX11_shares) 62 [(.aload_n 0, 0, 0, 0), (.getfield 69, 10, 13, 0), (.aload_n 0, 0, 0, 0), (.iload_n 1, 0, 0, 0), (.aload_n 3, 0, 0, 0), (.iload 4, 0, 0, 0)] 71 = true := by decide +kernel
theorem dX11_shares_71 : decode (MB MX11_shares) 71 = .ok (.invokevirtual 239, 3) := by decide +kernel
theorem dX11_shares_74 : decode (MB MX11_shares) 74 = .ok (.invokevirtual 437, 3) := by decide +kernel
theorem sX11_shares_77 : dsOk (MN MX11_shares).cls (MB MX11_shares) 77 [(.iinc 4 1, 0, 0, 0)] 80 = true := by decide +kernel
theorem dX11_shares_80 : decode (MB MX11_shares) 80 = .ok (.goto (-39), 3) := by decide +kernel
theorem sX11_shares_83 : dsOk (MN MX11_shares).cls (MB MX11_shares) 83 [(.aload_n 0, 0, 0, 0), (.getfield 69, 10, 13, 0)] 87 = true := by decide +kernel
theorem dX11_shares_87 : decode (MB MX11_shares) 87 = .ok (.invokevirtual 440, 3) := by decide +kernel
theorem sX11_shares_90 : dsOk (MN MX11_shares).cls (MB MX11_shares) 90 [(.i2l, 0, 0, 0)] 91 = true := by decide +kernel
theorem dX11_shares_91 : decode (MB MX11_shares) 91 = .ok (.lreturn, 1) := by decide +kernel
def MX11_child : Ms := (yX11_child, cX11_child, 2, (some .int), [])
set_option maxRecDepth 100000 in
theorem kX11_child : mkV MX11_child 1 := ⟨⟨List.mem_of_getElem? (i := 1350) (by rfl), by decide +kernel⟩, by decide +kernel⟩
theorem sX11_child_0 : dsOk (MN MX11_child).cls (MB MX11_child) 0 [(.aload_n 0, 0, 0, 0), (.getfield 69, 10, 13, 0), (.iload_n 1, 0, 0, 0)] 5 = true := by decide +kernel
theorem dX11_child_5 : decode (MB MX11_child) 5 = .ok (.invokevirtual 443, 3) := by decide +kernel
theorem dX11_child_8 : decode (MB MX11_child) 8 = .ok (.ifCond .ne 14, 3) := by decide +kernel
theorem dX11_child_11 : decode (MB MX11_child) 11 = .ok (.new 143, 3) := by decide +kernel
theorem sX11_child_14 : dsOk (MN MX11_child).cls (MB MX11_child) 14 [(.dup, 0, 0, 0)] 15 = true := by decide +kernel
theorem dX11_child_15 : decode (MB MX11_child) 15 = .ok (.ldc_w 446, 3) := by decide +kernel
theorem dX11_child_18 : decode (MB MX11_child) 18 = .ok (.invokespecial 147, 3) := by decide +kernel
theorem dX11_child_21 : decode (MB MX11_child) 21 = .ok (.athrow, 1) := by decide +kernel
theorem sX11_child_22 : dsOk (MN MX11_child).cls (MB MX11_child) 22 [(.aload_n 0, 0, 0, 0), (.getfield 69, 10, 13, 0), (.iload_n 1, 0, 0, 0)] 27 = true := by decide +kernel
theorem dX11_child_27 : decode (MB MX11_child) 27 = .ok (.invokevirtual 448, 3) := by decide +kernel
theorem dX11_child_30 : decode (MB MX11_child) 30 = .ok (.ireturn, 1) := by decide +kernel
def MX11_least : Ms := (yX11_least, cX11_least, 6, (some .int), [])
set_option maxRecDepth 100000 in
theorem kX11_least : mkV MX11_least 2 := ⟨⟨List.mem_of_getElem? (i := 1366) (by rfl), by decide +kernel⟩, by decide +kernel⟩
theorem sX11_least_0 : dsOk (MN MX11_least).cls (MB MX11_least) 0 [(.aload_n 0, 0, 0, 0), (.iload_n 1, 0, 0, 0)] 2 = true := by decide +kernel
theorem dX11_least_2 : decode (MB MX11_least) 2 = .ok (.invokevirtual 154, 3) := by decide +kernel
theorem sX11_least_5 : dsOk (MN MX11_least).cls (MB MX11_least) 5 [(.astore 4, 0, 0, 0), (.lload_n 2, 0, 0, 0), (.lconst 0, 0, 0, 0), (.ldc2_w 172, 0, 0, 1000000000000000000)] 12 = true := by decide +kernel
theorem dX11_least_12 : decode (MB MX11_least) 12 = .ok (.invokestatic 281, 3) := by decide +kernel
theorem sX11_least_15 : dsOk (MN MX11_least).cls (MB MX11_least) 15 [(.aload 4, 0, 0, 0)] 17 = true := by decide +kernel
theorem dX11_least_17 : decode (MB MX11_least) 17 = .ok (.invokevirtual 285, 3) := by decide +kernel
theorem sX11_least_20 : dsOk (MN MX11_least).cls (MB MX11_least) 20 [(.bipush 30, 0, 0, 30)] 22 = true := by decide +kernel
theorem dX11_least_22 : decode (MB MX11_least) 22 = .ok (.if_icmp .le 6, 3) := by decide +kernel
theorem sX11_least_25 : dsOk (MN MX11_least).cls (MB MX11_least) 25 [(.bipush (-2), 0, 0, -2)] 27 = true := by decide +kernel
theorem dX11_least_27 : decode (MB MX11_least) 27 = .ok (.ireturn, 1) := by decide +kernel
theorem sX11_least_28 : dsOk (MN MX11_least).cls (MB MX11_least) 28 [(.aload_n 0, 0, 0, 0), (.getfield 76, 10, 14, 0)] 32 = true := by decide +kernel
theorem dX11_least_32 : decode (MB MX11_least) 32 = .ok (.invokevirtual 451, 3) := by decide +kernel
theorem sX11_least_35 : dsOk (MN MX11_least).cls (MB MX11_least) 35 [(.iconst 0, 0, 0, 0), (.istore 5, 0, 0, 0)] 38 = true := by decide +kernel
theorem sX11_least_38 : dsOk (MN MX11_least).cls (MB MX11_least) 38 [(.iload 5, 0, 0, 0), (.aload 4, 0, 0, 0), (.getfield 181, 0, 1, 0)] 45 = true := by decide +kernel
theorem dX11_least_45 : decode (MB MX11_least) 45 = .ok (.if_icmp .ge 40, 3) := by decide +kernel
theorem sX11_least_48 : dsOk (MN MX11_least).cls (MB MX11_least) 48 [(.aload 4, 0, 0, 0), (.getfield 184, 0, 5, 0), (.iload 5, 0, 0, 0)] 55 = true := by decide +kernel
theorem dX11_least_55 : decode (MB MX11_least) 55 = .ok (.invokevirtual 202, 3) := by decide +kernel
theorem dX11_least_58 : decode (MB MX11_least) 58 = .ok (.ifCond .ne 21, 3) := by decide +kernel
theorem sX11_least_61 : dsOk (MN MX11_least).cls (MB MX11_least) 61 [(.aload_n 0, 0, 0, 0), (.getfield 76, 10, 14, 0), (.iload 5, 0, 0, 0), (.aload_n 0, 0, 0, 0), (.iload_n 1, 0, 0, 0), (.aload 4, 0, 0, 0), (.iload 5, 0, 0, 0)] 73 = true := by decide +kernel
theorem dX11_least_73 : decode (MB MX11_least) 73 = .ok (.invokevirtual 239, 3) := by decide +kernel
theorem dX11_least_76 : decode (MB MX11_least) 76 = .ok (.invokevirtual 453, 3) := by decide +kernel
theorem sX11_least_79 : dsOk (MN MX11_least).cls (MB MX11_least) 79 [(.iinc 5 1, 0, 0, 0)] 82 = true := by decide +kernel
theorem dX11_least_82 : decode (MB MX11_least) 82 = .ok (.goto (-44), 3) := by decide +kernel
theorem sX11_least_85 : dsOk (MN MX11_least).cls (MB MX11_least) 85 [(.aload_n 0, 0, 0, 0), (.getfield 76, 10, 14, 0), (.aload_n 0, 0, 0, 0), (.iload_n 1, 0, 0, 0), (.aload 4, 0, 0, 0)] 93 = true := by decide +kernel
theorem dX11_least_93 : decode (MB MX11_least) 93 = .ok (.invokevirtual 235, 3) := by decide +kernel
theorem sX11_least_96 : dsOk (MN MX11_least).cls (MB MX11_least) 96 [(.lload_n 2, 0, 0, 0), (.lsub, 0, 0, 0)] 98 = true := by decide +kernel
theorem dX11_least_98 : decode (MB MX11_least) 98 = .ok (.invokevirtual 456, 3) := by decide +kernel
theorem dX11_least_101 : decode (MB MX11_least) 101 = .ok (.ireturn, 1) := by decide +kernel
def MX11_torn : Ms := (yX11_torn, cX11_torn, 2, (some .int), [])
set_option maxRecDepth 100000 in
theorem kX11_torn : mkV MX11_torn 1 := ⟨⟨List.mem_of_getElem? (i := 1395) (by rfl), by decide +kernel⟩, by decide +kernel⟩
theorem sX11_torn_0 : dsOk (MN MX11_torn).cls (MB MX11_torn) 0 [(.aload_n 0, 0, 0, 0), (.getfield 76, 10, 14, 0), (.iload_n 1, 0, 0, 0)] 5 = true := by decide +kernel
theorem dX11_torn_5 : decode (MB MX11_torn) 5 = .ok (.invokevirtual 460, 3) := by decide +kernel
theorem dX11_torn_8 : decode (MB MX11_torn) 8 = .ok (.ifCond .ne 14, 3) := by decide +kernel
theorem dX11_torn_11 : decode (MB MX11_torn) 11 = .ok (.new 143, 3) := by decide +kernel
theorem sX11_torn_14 : dsOk (MN MX11_torn).cls (MB MX11_torn) 14 [(.dup, 0, 0, 0)] 15 = true := by decide +kernel
theorem dX11_torn_15 : decode (MB MX11_torn) 15 = .ok (.ldc_w 461, 3) := by decide +kernel
theorem dX11_torn_18 : decode (MB MX11_torn) 18 = .ok (.invokespecial 147, 3) := by decide +kernel
theorem dX11_torn_21 : decode (MB MX11_torn) 21 = .ok (.athrow, 1) := by decide +kernel
theorem sX11_torn_22 : dsOk (MN MX11_torn).cls (MB MX11_torn) 22 [(.aload_n 0, 0, 0, 0), (.getfield 76, 10, 14, 0), (.iload_n 1, 0, 0, 0)] 27 = true := by decide +kernel
theorem dX11_torn_27 : decode (MB MX11_torn) 27 = .ok (.invokevirtual 463, 3) := by decide +kernel
theorem dX11_torn_30 : decode (MB MX11_torn) 30 = .ok (.ireturn, 1) := by decide +kernel
def MX11_image : Ms := (yX11_image, cX11_image, 1, none, [])
set_option maxRecDepth 100000 in
theorem kX11_image : mkV MX11_image 0 := ⟨⟨List.mem_of_getElem? (i := 405) (by rfl), by decide +kernel⟩, by decide +kernel⟩
theorem sX11_image_0 : dsOk (MN MX11_image).cls (MB MX11_image) 0 [(.aload_n 0, 0, 0, 0), (.getfield 43, 10, 7, 0), (.aload_n 0, 0, 0, 0), (.getfield 39, 10, 6, 0)] 8 = true := by decide +kernel
theorem dX11_image_8 : decode (MB MX11_image) 8 = .ok (.invokevirtual 466, 3) := by decide +kernel
theorem sX11_image_11 : dsOk (MN MX11_image).cls (MB MX11_image) 11 [(.aload_n 0, 0, 0, 0), (.getfield 25, 10, 3, 0)] 15 = true := by decide +kernel
theorem dX11_image_15 : decode (MB MX11_image) 15 = .ok (.invokevirtual 470, 3) := by decide +kernel
theorem sX11_image_18 : dsOk (MN MX11_image).cls (MB MX11_image) 18 [(.aload_n 0, 0, 0, 0), (.iconst 1, 0, 0, 0), (.putfield 116, 10, 8, 0)] 23 = true := by decide +kernel
theorem dX11_image_23 : decode (MB MX11_image) 23 = .ok (.return_, 1) := by decide +kernel
def MX11_restore : Ms := (yX11_restore, cX11_restore, 1, (some .boolean), [])
set_option maxRecDepth 100000 in
theorem kX11_restore : mkV MX11_restore 0 := ⟨⟨List.mem_of_getElem? (i := 425) (by rfl), by decide +kernel⟩, by decide +kernel⟩
theorem sX11_restore_0 : dsOk (MN MX11_restore).cls (MB MX11_restore) 0 [(.aload_n 0, 0, 0, 0), (.getfield 116, 10, 8, 0)] 4 = true := by decide +kernel
theorem dX11_restore_4 : decode (MB MX11_restore) 4 = .ok (.ifCond .ne 5, 3) := by decide +kernel
theorem sX11_restore_7 : dsOk (MN MX11_restore).cls (MB MX11_restore) 7 [(.iconst 0, 0, 0, 0)] 8 = true := by decide +kernel
theorem dX11_restore_8 : decode (MB MX11_restore) 8 = .ok (.ireturn, 1) := by decide +kernel
theorem sX11_restore_9 : dsOk (MN MX11_restore).cls (MB MX11_restore) 9 [(.aload_n 0, 0, 0, 0), (.getfield 39, 10, 6, 0), (.aload_n 0, 0, 0, 0), (.getfield 43, 10, 7, 0)] 17 = true := by decide +kernel
theorem dX11_restore_17 : decode (MB MX11_restore) 17 = .ok (.invokevirtual 466, 3) := by decide +kernel
theorem sX11_restore_20 : dsOk (MN MX11_restore).cls (MB MX11_restore) 20 [(.aload_n 0, 0, 0, 0), (.getfield 25, 10, 3, 0)] 24 = true := by decide +kernel
theorem dX11_restore_24 : decode (MB MX11_restore) 24 = .ok (.invokevirtual 473, 3) := by decide +kernel
theorem sX11_restore_27 : dsOk (MN MX11_restore).cls (MB MX11_restore) 27 [(.iconst 1, 0, 0, 0)] 28 = true := by decide +kernel
theorem dX11_restore_28 : decode (MB MX11_restore) 28 = .ok (.ireturn, 1) := by decide +kernel
def MX11_at : Ms := (yX11_at, cX11_at, 2, (some .int), [])
set_option maxRecDepth 100000 in
theorem kX11_at : mkS MX11_at 2 := ⟨⟨List.mem_of_getElem? (i := 381) (by rfl), by decide +kernel⟩, by decide +kernel⟩
theorem sX11_at_0 : dsOk (MN MX11_at).cls (MB MX11_at) 0 [(.iload_n 1, 0, 0, 0)] 1 = true := by decide +kernel
theorem dX11_at_1 : decode (MB MX11_at) 1 = .ok (.ifCond .lt 15, 3) := by decide +kernel
theorem sX11_at_4 : dsOk (MN MX11_at).cls (MB MX11_at) 4 [(.iload_n 1, 0, 0, 0), (.aload_n 0, 0, 0, 0), (.arraylength, 0, 0, 0)] 7 = true := by decide +kernel
theorem dX11_at_7 : decode (MB MX11_at) 7 = .ok (.if_icmp .ge 9, 3) := by decide +kernel
theorem sX11_at_10 : dsOk (MN MX11_at).cls (MB MX11_at) 10 [(.aload_n 0, 0, 0, 0), (.iload_n 1, 0, 0, 0), (.iaload, 0, 0, 0)] 13 = true := by decide +kernel
theorem dX11_at_13 : decode (MB MX11_at) 13 = .ok (.goto 4, 3) := by decide +kernel
theorem sX11_at_16 : dsOk (MN MX11_at).cls (MB MX11_at) 16 [(.iconst 0, 0, 0, 0)] 17 = true := by decide +kernel
theorem dX11_at_17 : decode (MB MX11_at) 17 = .ok (.ireturn, 1) := by decide +kernel
def MX11_setAt : Ms := (yX11_setAt, cX11_setAt, 3, none, [])
set_option maxRecDepth 100000 in
theorem kX11_setAt : mkS MX11_setAt 3 := ⟨⟨List.mem_of_getElem? (i := 370) (by rfl), by decide +kernel⟩, by decide +kernel⟩
theorem sX11_setAt_0 : dsOk (MN MX11_setAt).cls (MB MX11_setAt) 0 [(.iload_n 1, 0, 0, 0)] 1 = true := by decide +kernel
theorem dX11_setAt_1 : decode (MB MX11_setAt) 1 = .ok (.ifCond .lt 13, 3) := by decide +kernel
theorem sX11_setAt_4 : dsOk (MN MX11_setAt).cls (MB MX11_setAt) 4 [(.iload_n 1, 0, 0, 0), (.aload_n 0, 0, 0, 0), (.arraylength, 0, 0, 0)] 7 = true := by decide +kernel
theorem dX11_setAt_7 : decode (MB MX11_setAt) 7 = .ok (.if_icmp .ge 7, 3) := by decide +kernel
theorem sX11_setAt_10 : dsOk (MN MX11_setAt).cls (MB MX11_setAt) 10 [(.aload_n 0, 0, 0, 0), (.iload_n 1, 0, 0, 0), (.iload_n 2, 0, 0, 0), (.iastore, 0, 0, 0)] 14 = true := by decide +kernel
theorem dX11_setAt_14 : decode (MB MX11_setAt) 14 = .ok (.return_, 1) := by decide +kernel
-- foreign ('M', 'java/lang/Object', '<init>', '()V')
theorem lRX11_15 : wM.any (isML RX11 15 yX8_init) = true := by decide +kernel
theorem lRX11_24 : wM.any (isML RX11 24 yX7_init) = true := by decide +kernel
theorem lRX11_38 : wN.any (isMN RX11 38 yX2_init "TornLeaves") = true := by decide +kernel
theorem lRX11_54 : wN.any (isMN RX11 54 yX4_init "TornLeaves") = true := by decide +kernel
theorem lRX11_61 : wN.any (isMN RX11 61 yX10_init "TornLeaves") = true := by decide +kernel
theorem lRX11_68 : wN.any (isMN RX11 68 yX6_init "TornLeaves") = true := by decide +kernel
theorem lRX11_75 : wN.any (isMN RX11 75 yX1_init "TornLeaves") = true := by decide +kernel
theorem lRX11_83 : wM.any (isML RX11 83 yX11_feedFour) = true := by decide +kernel
theorem lRX11_87 : wM.any (isML RX11 87 yX11_setAt) = true := by decide +kernel
-- foreign ('M', 'java/lang/IllegalArgumentException', '<init>', '(Ljava/lang/String;)V')
theorem lRX11_98 : wM.any (isML RX11 98 yX8_readAll) = true := by decide +kernel
theorem lRX11_102 : wM.any (isML RX11 102 yX8_place) = true := by decide +kernel
theorem lRX11_106 : wM.any (isML RX11 106 yX2_refuse) = true := by decide +kernel
theorem lRX11_110 : wM.any (isML RX11 110 yX11_changeShelves) = true := by decide +kernel
theorem lRX11_113 : wM.any (isML RX11 113 yX2_forget) = true := by decide +kernel
theorem lRX11_120 : wM.any (isML RX11 120 yX6_forget) = true := by decide +kernel
theorem lRX11_121 : wM.any (isML RX11 121 yX1_forget) = true := by decide +kernel
theorem lRX11_122 : wM.any (isML RX11 122 yX7_leadOf) = true := by decide +kernel
theorem lRX11_137 : wM.any (isML RX11 137 yX2_refusedSoFar) = true := by decide +kernel
-- foreign ('M', 'java/util/NoSuchElementException', '<init>', '(Ljava/lang/String;)V')
theorem lRX11_148 : wM.any (isML RX11 148 yX7_bookAt) = true := by decide +kernel
-- foreign ('M', 'java/util/NoSuchElementException', '<init>', '(Ljava/lang/String;)V')
theorem lRX11_154 : wM.any (isML RX11 154 yX11_needBook) = true := by decide +kernel
theorem lRX11_157 : wM.any (isML RX11 157 yX0_hasLeaf) = true := by decide +kernel
-- foreign ('M', 'java/util/NoSuchElementException', '<init>', '(Ljava/lang/String;)V')
theorem lRX11_165 : wM.any (isML RX11 165 yX0_hasPage) = true := by decide +kernel
-- foreign ('M', 'java/util/NoSuchElementException', '<init>', '(Ljava/lang/String;)V')
-- foreign ('M', 'java/util/NoSuchElementException', '<init>', '(Ljava/lang/String;)V')
-- foreign ('M', 'java/lang/IllegalArgumentException', '<init>', '(Ljava/lang/String;)V')
-- foreign ('M', 'java/lang/IllegalArgumentException', '<init>', '(Ljava/lang/String;)V')
theorem lRX11_188 : wM.any (isML RX11 188 yX5_size) = true := by decide +kernel
-- foreign ('M', 'java/util/NoSuchElementException', '<init>', '(Ljava/lang/String;)V')
theorem lRX11_198 : wM.any (isML RX11 198 yX11_needLeaf) = true := by decide +kernel
theorem lRX11_202 : wM.any (isML RX11 202 yX5_has) = true := by decide +kernel
theorem lRX11_205 : wM.any (isML RX11 205 yX11_needPage) = true := by decide +kernel
theorem lRX11_208 : wM.any (isML RX11 208 yX11_numberOn) = true := by decide +kernel
theorem lRX11_212 : wM.any (isML RX11 212 yX0_ownNumber) = true := by decide +kernel
theorem lRX11_215 : wM.any (isML RX11 215 yX11_at) = true := by decide +kernel
theorem lRX11_219 : wM.any (isML RX11 219 yX7_toldNumber) = true := by decide +kernel
theorem lRX11_223 : wM.any (isML RX11 223 yX11_pageEver) = true := by decide +kernel
theorem lRX11_231 : wM.any (isML RX11 231 yX0_pageBearing) = true := by decide +kernel
theorem lRX11_235 : wM.any (isML RX11 235 yX11_sumLeft) = true := by decide +kernel
theorem lRX11_239 : wM.any (isML RX11 239 yX11_leafSum) = true := by decide +kernel
theorem lRX11_242 : wM.any (isML RX11 242 yX11_needFigure) = true := by decide +kernel
theorem lRX11_245 : wM.any (isML RX11 245 yX11_leafOf) = true := by decide +kernel
theorem lRX11_248 : wM.any (isML RX11 248 yX3_inNumber) = true := by decide +kernel
theorem lRX11_254 : wM.any (isML RX11 254 yX11_tearOut) = true := by decide +kernel
theorem lRX11_258 : wM.any (isML RX11 258 yX5_take) = true := by decide +kernel
theorem lRX11_261 : wM.any (isML RX11 261 yX2_noteTorn) = true := by decide +kernel
-- foreign ('M', 'java/util/NoSuchElementException', '<init>', '(Ljava/lang/String;)V')
theorem lRX11_276 : wM.any (isML RX11 276 yX5_give) = true := by decide +kernel
theorem lRX11_281 : wM.any (isML RX11 281 yX11_needWithin) = true := by decide +kernel
theorem lRX11_285 : wM.any (isML RX11 285 yX0_there) = true := by decide +kernel
theorem lRX11_289 : wM.any (isML RX11 289 yX0_thereAt) = true := by decide +kernel
theorem lRX11_295 : wM.any (isML RX11 295 yX11_sumOfFirst) = true := by decide +kernel
theorem lRX11_298 : wM.any (isML RX11 298 yX2_noteAdded) = true := by decide +kernel
theorem lRX11_305 : wM.any (isML RX11 305 yX2_forgetAdded) = true := by decide +kernel
theorem lRX11_308 : wM.any (isML RX11 308 yX11_needSum) = true := by decide +kernel
theorem lRX11_312 : wM.any (isML RX11 312 yX4_find) = true := by decide +kernel
theorem lRX11_318 : wM.any (isML RX11 318 yX11_needFit) = true := by decide +kernel
theorem lRX11_321 : wM.any (isML RX11 321 yX4_pagesAt) = true := by decide +kernel
theorem lRX11_324 : wM.any (isML RX11 324 yX4_leafAt) = true := by decide +kernel
-- foreign ('M', 'java/util/NoSuchElementException', '<init>', '(Ljava/lang/String;)V')
theorem lRX11_329 : wM.any (isML RX11 329 yX10_largest) = true := by decide +kernel
theorem lRX11_333 : wM.any (isML RX11 333 yX10_canBeOut) = true := by decide +kernel
-- foreign ('M', 'java/util/NoSuchElementException', '<init>', '(Ljava/lang/String;)V')
theorem lRX11_339 : wM.any (isML RX11 339 yX10_leafTotal) = true := by decide +kernel
theorem lRX11_343 : wM.any (isML RX11 343 yX10_rows) = true := by decide +kernel
-- foreign ('M', 'java/util/NoSuchElementException', '<init>', '(Ljava/lang/String;)V')
theorem lRX11_351 : wM.any (isML RX11 351 yX10_rowAt) = true := by decide +kernel
-- foreign ('M', 'java/util/NoSuchElementException', '<init>', '(Ljava/lang/String;)V')
theorem lRX11_357 : wM.any (isML RX11 357 yX4_saying) = true := by decide +kernel
theorem lRX11_361 : wM.any (isML RX11 361 yX4_areUnlike) = true := by decide +kernel
theorem lRX11_366 : wM.any (isML RX11 366 yX11_lastPrinted) = true := by decide +kernel
theorem lRX11_370 : wM.any (isML RX11 370 yJ9_abs_0f7a4) = true := by decide +kernel
theorem lRX11_375 : wM.any (isML RX11 375 yX11_shortOf) = true := by decide +kernel
theorem lRX11_379 : wM.any (isML RX11 379 yX3_printed) = true := by decide +kernel
theorem lRX11_387 : wM.any (isML RX11 387 yX3_placeWithout) = true := by decide +kernel
theorem lRX11_390 : wM.any (isML RX11 390 yX3_standsWithout) = true := by decide +kernel
theorem lRX11_393 : wM.any (isML RX11 393 yX11_findHavers) = true := by decide +kernel
theorem lRX11_397 : wM.any (isML RX11 397 yJ6_bitCount_0f7a4) = true := by decide +kernel
theorem lRX11_402 : wM.any (isML RX11 402 yX11_makesWhole) = true := by decide +kernel
theorem lRX11_406 : wM.any (isML RX11 406 yX7_copiesWith) = true := by decide +kernel
theorem lRX11_409 : wM.any (isML RX11 409 yX2_isStuck) = true := by decide +kernel
theorem lRX11_412 : wM.any (isML RX11 412 yX2_noteStuck) = true := by decide +kernel
theorem lRX11_419 : wM.any (isML RX11 419 yX11_numberRead) = true := by decide +kernel
theorem lRX11_423 : wM.any (isML RX11 423 yX11_isSeen) = true := by decide +kernel
theorem lRX11_427 : wM.any (isML RX11 427 yX3_isBuzz) = true := by decide +kernel
theorem lRX11_434 : wM.any (isML RX11 434 yX6_open) = true := by decide +kernel
theorem lRX11_437 : wM.any (isML RX11 437 yX6_offer) = true := by decide +kernel
theorem lRX11_440 : wM.any (isML RX11 440 yX6_share) = true := by decide +kernel
theorem lRX11_443 : wM.any (isML RX11 443 yX6_hasKept) = true := by decide +kernel
-- foreign ('M', 'java/util/NoSuchElementException', '<init>', '(Ljava/lang/String;)V')
theorem lRX11_448 : wM.any (isML RX11 448 yX6_childOf) = true := by decide +kernel
theorem lRX11_451 : wM.any (isML RX11 451 yX1_open) = true := by decide +kernel
theorem lRX11_453 : wM.any (isML RX11 453 yX1_offer) = true := by decide +kernel
theorem lRX11_456 : wM.any (isML RX11 456 yX1_choose) = true := by decide +kernel
theorem lRX11_460 : wM.any (isML RX11 460 yX1_hasKept) = true := by decide +kernel
-- foreign ('M', 'java/util/NoSuchElementException', '<init>', '(Ljava/lang/String;)V')
theorem lRX11_463 : wM.any (isML RX11 463 yX1_keptLeaf) = true := by decide +kernel
theorem lRX11_466 : wM.any (isML RX11 466 yX2_takeFrom) = true := by decide +kernel
theorem lRX11_470 : wM.any (isML RX11 470 yX7_keepGone) = true := by decide +kernel
theorem lRX11_473 : wM.any (isML RX11 473 yX7_restoreGone) = true := by decide +kernel
