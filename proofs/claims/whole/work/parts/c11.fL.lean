/-! FACTS, by program: the law and its wrappers -/
def ML_shelf : Ms := (yL_shelf, cL_shelf, 4, (some .int), [(0, 9, 12, 13)])
set_option maxRecDepth 100000 in
theorem kL_shelf : mkS ML_shelf 3 := ⟨⟨List.mem_of_getElem? (i := 432) (by rfl), by decide +kernel⟩, by decide +kernel⟩
theorem sL_shelf_0 : dsOk (MN ML_shelf).cls (MB ML_shelf) 0 [(.aload_n 2, 0, 0, 0), (.iconst 0, 0, 0, 0), (.aload_n 0, 0, 0, 0), (.iload_n 1, 0, 0, 0)] 4 = true := by decide +kernel
theorem dL_shelf_4 : decode (MB ML_shelf) 4 = .ok (.invokevirtual 7, 3) := by decide +kernel
theorem sL_shelf_7 : dsOk (MN ML_shelf).cls (MB ML_shelf) 7 [(.i2l, 0, 0, 0), (.lastore, 0, 0, 0)] 9 = true := by decide +kernel
theorem dL_shelf_9 : decode (MB ML_shelf) 9 = .ok (.goto 6, 3) := by decide +kernel
theorem sL_shelf_12 : dsOk (MN ML_shelf).cls (MB ML_shelf) 12 [(.astore_n 3, 0, 0, 0), (.iconst 1, 0, 0, 0)] 14 = true := by decide +kernel
theorem dL_shelf_14 : decode (MB ML_shelf) 14 = .ok (.ireturn, 1) := by decide +kernel
theorem sL_shelf_15 : dsOk (MN ML_shelf).cls (MB ML_shelf) 15 [(.iconst 0, 0, 0, 0)] 16 = true := by decide +kernel
theorem dL_shelf_16 : decode (MB ML_shelf) 16 = .ok (.ireturn, 1) := by decide +kernel
def ML_count : Ms := (yL_count, cL_count, 4, (some .int), [(0, 9, 12, 18)])
set_option maxRecDepth 100000 in
theorem kL_count : mkS ML_count 3 := ⟨⟨List.mem_of_getElem? (i := 800) (by rfl), by decide +kernel⟩, by decide +kernel⟩
theorem sL_count_0 : dsOk (MN ML_count).cls (MB ML_count) 0 [(.aload_n 2, 0, 0, 0), (.iconst 0, 0, 0, 0), (.aload_n 0, 0, 0, 0), (.iload_n 1, 0, 0, 0)] 4 = true := by decide +kernel
theorem dL_count_4 : decode (MB ML_count) 4 = .ok (.invokevirtual 15, 3) := by decide +kernel
theorem sL_count_7 : dsOk (MN ML_count).cls (MB ML_count) 7 [(.i2l, 0, 0, 0), (.lastore, 0, 0, 0)] 9 = true := by decide +kernel
theorem dL_count_9 : decode (MB ML_count) 9 = .ok (.goto 6, 3) := by decide +kernel
theorem sL_count_12 : dsOk (MN ML_count).cls (MB ML_count) 12 [(.astore_n 3, 0, 0, 0), (.iconst 1, 0, 0, 0)] 14 = true := by decide +kernel
theorem dL_count_14 : decode (MB ML_count) 14 = .ok (.ireturn, 1) := by decide +kernel
theorem sL_count_15 : dsOk (MN ML_count).cls (MB ML_count) 15 [(.iconst 0, 0, 0, 0)] 16 = true := by decide +kernel
theorem dL_count_16 : decode (MB ML_count) 16 = .ok (.ireturn, 1) := by decide +kernel
def ML_book : Ms := (yL_book, cL_book, 5, (some .int), [(0, 10, 13, 18)])
set_option maxRecDepth 100000 in
theorem kL_book : mkS ML_book 4 := ⟨⟨List.mem_of_getElem? (i := 833) (by rfl), by decide +kernel⟩, by decide +kernel⟩
theorem sL_book_0 : dsOk (MN ML_book).cls (MB ML_book) 0 [(.aload_n 3, 0, 0, 0), (.iconst 0, 0, 0, 0), (.aload_n 0, 0, 0, 0), (.iload_n 1, 0, 0, 0), (.iload_n 2, 0, 0, 0)] 5 = true := by decide +kernel
theorem dL_book_5 : decode (MB ML_book) 5 = .ok (.invokevirtual 20, 3) := by decide +kernel
theorem sL_book_8 : dsOk (MN ML_book).cls (MB ML_book) 8 [(.i2l, 0, 0, 0), (.lastore, 0, 0, 0)] 10 = true := by decide +kernel
theorem dL_book_10 : decode (MB ML_book) 10 = .ok (.goto 7, 3) := by decide +kernel
theorem sL_book_13 : dsOk (MN ML_book).cls (MB ML_book) 13 [(.astore 4, 0, 0, 0), (.iconst 1, 0, 0, 0)] 16 = true := by decide +kernel
theorem dL_book_16 : decode (MB ML_book) 16 = .ok (.ireturn, 1) := by decide +kernel
theorem sL_book_17 : dsOk (MN ML_book).cls (MB ML_book) 17 [(.iconst 0, 0, 0, 0)] 18 = true := by decide +kernel
theorem dL_book_18 : decode (MB ML_book) 18 = .ok (.ireturn, 1) := by decide +kernel
def ML_isThere : Ms := (yL_isThere, cL_isThere, 5, (some .int), [(0, 17, 20, 18)])
set_option maxRecDepth 100000 in
theorem kL_isThere : mkS ML_isThere 4 := ⟨⟨List.mem_of_getElem? (i := 847) (by rfl), by decide +kernel⟩, by decide +kernel⟩
theorem sL_isThere_0 : dsOk (MN ML_isThere).cls (MB ML_isThere) 0 [(.aload_n 3, 0, 0, 0), (.iconst 0, 0, 0, 0), (.aload_n 0, 0, 0, 0), (.iload_n 1, 0, 0, 0), (.iload_n 2, 0, 0, 0)] 5 = true := by decide +kernel
theorem dL_isThere_5 : decode (MB ML_isThere) 5 = .ok (.invokevirtual 24, 3) := by decide +kernel
theorem dL_isThere_8 : decode (MB ML_isThere) 8 = .ok (.ifCond .eq 7, 3) := by decide +kernel
theorem sL_isThere_11 : dsOk (MN ML_isThere).cls (MB ML_isThere) 11 [(.lconst 1, 0, 0, 1)] 12 = true := by decide +kernel
theorem dL_isThere_12 : decode (MB ML_isThere) 12 = .ok (.goto 4, 3) := by decide +kernel
theorem sL_isThere_15 : dsOk (MN ML_isThere).cls (MB ML_isThere) 15 [(.lconst 0, 0, 0, 0)] 16 = true := by decide +kernel
theorem sL_isThere_16 : dsOk (MN ML_isThere).cls (MB ML_isThere) 16 [(.lastore, 0, 0, 0)] 17 = true := by decide +kernel
theorem dL_isThere_17 : decode (MB ML_isThere) 17 = .ok (.goto 7, 3) := by decide +kernel
theorem sL_isThere_20 : dsOk (MN ML_isThere).cls (MB ML_isThere) 20 [(.astore 4, 0, 0, 0), (.iconst 1, 0, 0, 0)] 23 = true := by decide +kernel
theorem dL_isThere_23 : decode (MB ML_isThere) 23 = .ok (.ireturn, 1) := by decide +kernel
theorem sL_isThere_24 : dsOk (MN ML_isThere).cls (MB ML_isThere) 24 [(.iconst 0, 0, 0, 0)] 25 = true := by decide +kernel
theorem dL_isThere_25 : decode (MB ML_isThere) 25 = .ok (.ireturn, 1) := by decide +kernel
def ML_number : Ms := (yL_number, cL_number, 5, (some .int), [(0, 10, 13, 18)])
set_option maxRecDepth 100000 in
theorem kL_number : mkS ML_number 4 := ⟨⟨List.mem_of_getElem? (i := 861) (by rfl), by decide +kernel⟩, by decide +kernel⟩
theorem sL_number_0 : dsOk (MN ML_number).cls (MB ML_number) 0 [(.aload_n 3, 0, 0, 0), (.iconst 0, 0, 0, 0), (.aload_n 0, 0, 0, 0), (.iload_n 1, 0, 0, 0), (.iload_n 2, 0, 0, 0)] 5 = true := by decide +kernel
theorem dL_number_5 : decode (MB ML_number) 5 = .ok (.invokevirtual 28, 3) := by decide +kernel
theorem sL_number_8 : dsOk (MN ML_number).cls (MB ML_number) 8 [(.i2l, 0, 0, 0), (.lastore, 0, 0, 0)] 10 = true := by decide +kernel
theorem dL_number_10 : decode (MB ML_number) 10 = .ok (.goto 7, 3) := by decide +kernel
theorem sL_number_13 : dsOk (MN ML_number).cls (MB ML_number) 13 [(.astore 4, 0, 0, 0), (.iconst 1, 0, 0, 0)] 16 = true := by decide +kernel
theorem dL_number_16 : decode (MB ML_number) 16 = .ok (.ireturn, 1) := by decide +kernel
theorem sL_number_17 : dsOk (MN ML_number).cls (MB ML_number) 17 [(.iconst 0, 0, 0, 0)] 18 = true := by decide +kernel
theorem dL_number_18 : decode (MB ML_number) 18 = .ok (.ireturn, 1) := by decide +kernel
def ML_page : Ms := (yL_page, cL_page, 5, (some .int), [(0, 10, 13, 18)])
set_option maxRecDepth 100000 in
theorem kL_page : mkS ML_page 4 := ⟨⟨List.mem_of_getElem? (i := 912) (by rfl), by decide +kernel⟩, by decide +kernel⟩
theorem sL_page_0 : dsOk (MN ML_page).cls (MB ML_page) 0 [(.aload_n 3, 0, 0, 0), (.iconst 0, 0, 0, 0), (.aload_n 0, 0, 0, 0), (.iload_n 1, 0, 0, 0), (.iload_n 2, 0, 0, 0)] 5 = true := by decide +kernel
theorem dL_page_5 : decode (MB ML_page) 5 = .ok (.invokevirtual 31, 3) := by decide +kernel
theorem sL_page_8 : dsOk (MN ML_page).cls (MB ML_page) 8 [(.i2l, 0, 0, 0), (.lastore, 0, 0, 0)] 10 = true := by decide +kernel
theorem dL_page_10 : decode (MB ML_page) 10 = .ok (.goto 7, 3) := by decide +kernel
theorem sL_page_13 : dsOk (MN ML_page).cls (MB ML_page) 13 [(.astore 4, 0, 0, 0), (.iconst 1, 0, 0, 0)] 16 = true := by decide +kernel
theorem dL_page_16 : decode (MB ML_page) 16 = .ok (.ireturn, 1) := by decide +kernel
theorem sL_page_17 : dsOk (MN ML_page).cls (MB ML_page) 17 [(.iconst 0, 0, 0, 0)] 18 = true := by decide +kernel
theorem dL_page_18 : decode (MB ML_page) 18 = .ok (.ireturn, 1) := by decide +kernel
def ML_sum : Ms := (yL_sum, cL_sum, 4, (some .int), [(0, 8, 11, 18)])
set_option maxRecDepth 100000 in
theorem kL_sum : mkS ML_sum 3 := ⟨⟨List.mem_of_getElem? (i := 935) (by rfl), by decide +kernel⟩, by decide +kernel⟩
theorem sL_sum_0 : dsOk (MN ML_sum).cls (MB ML_sum) 0 [(.aload_n 2, 0, 0, 0), (.iconst 0, 0, 0, 0), (.aload_n 0, 0, 0, 0), (.iload_n 1, 0, 0, 0)] 4 = true := by decide +kernel
theorem dL_sum_4 : decode (MB ML_sum) 4 = .ok (.invokevirtual 34, 3) := by decide +kernel
theorem sL_sum_7 : dsOk (MN ML_sum).cls (MB ML_sum) 7 [(.lastore, 0, 0, 0)] 8 = true := by decide +kernel
theorem dL_sum_8 : decode (MB ML_sum) 8 = .ok (.goto 6, 3) := by decide +kernel
theorem sL_sum_11 : dsOk (MN ML_sum).cls (MB ML_sum) 11 [(.astore_n 3, 0, 0, 0), (.iconst 1, 0, 0, 0)] 13 = true := by decide +kernel
theorem dL_sum_13 : decode (MB ML_sum) 13 = .ok (.ireturn, 1) := by decide +kernel
theorem sL_sum_14 : dsOk (MN ML_sum).cls (MB ML_sum) 14 [(.iconst 0, 0, 0, 0)] 15 = true := by decide +kernel
theorem dL_sum_15 : decode (MB ML_sum) 15 = .ok (.ireturn, 1) := by decide +kernel
def ML_figures : Ms := (yL_figures, cL_figures, 5, (some .int), [(0, 10, 13, 18)])
set_option maxRecDepth 100000 in
theorem kL_figures : mkS ML_figures 4 := ⟨⟨List.mem_of_getElem? (i := 950) (by rfl), by decide +kernel⟩, by decide +kernel⟩
theorem sL_figures_0 : dsOk (MN ML_figures).cls (MB ML_figures) 0 [(.aload_n 3, 0, 0, 0), (.iconst 0, 0, 0, 0), (.aload_n 0, 0, 0, 0), (.iload_n 1, 0, 0, 0), (.iload_n 2, 0, 0, 0)] 5 = true := by decide +kernel
theorem dL_figures_5 : decode (MB ML_figures) 5 = .ok (.invokevirtual 38, 3) := by decide +kernel
theorem sL_figures_8 : dsOk (MN ML_figures).cls (MB ML_figures) 8 [(.i2l, 0, 0, 0), (.lastore, 0, 0, 0)] 10 = true := by decide +kernel
theorem dL_figures_10 : decode (MB ML_figures) 10 = .ok (.goto 7, 3) := by decide +kernel
theorem sL_figures_13 : dsOk (MN ML_figures).cls (MB ML_figures) 13 [(.astore 4, 0, 0, 0), (.iconst 1, 0, 0, 0)] 16 = true := by decide +kernel
theorem dL_figures_16 : decode (MB ML_figures) 16 = .ok (.ireturn, 1) := by decide +kernel
theorem sL_figures_17 : dsOk (MN ML_figures).cls (MB ML_figures) 17 [(.iconst 0, 0, 0, 0)] 18 = true := by decide +kernel
theorem dL_figures_18 : decode (MB ML_figures) 18 = .ok (.ireturn, 1) := by decide +kernel
def ML_tear : Ms := (yL_tear, cL_tear, 5, (some .int), [(0, 10, 13, 18)])
set_option maxRecDepth 100000 in
theorem kL_tear : mkS ML_tear 4 := ⟨⟨List.mem_of_getElem? (i := 965) (by rfl), by decide +kernel⟩, by decide +kernel⟩
theorem sL_tear_0 : dsOk (MN ML_tear).cls (MB ML_tear) 0 [(.aload_n 3, 0, 0, 0), (.iconst 0, 0, 0, 0), (.aload_n 0, 0, 0, 0), (.iload_n 1, 0, 0, 0), (.iload_n 2, 0, 0, 0)] 5 = true := by decide +kernel
theorem dL_tear_5 : decode (MB ML_tear) 5 = .ok (.invokevirtual 41, 3) := by decide +kernel
theorem sL_tear_8 : dsOk (MN ML_tear).cls (MB ML_tear) 8 [(.i2l, 0, 0, 0), (.lastore, 0, 0, 0)] 10 = true := by decide +kernel
theorem dL_tear_10 : decode (MB ML_tear) 10 = .ok (.goto 7, 3) := by decide +kernel
theorem sL_tear_13 : dsOk (MN ML_tear).cls (MB ML_tear) 13 [(.astore 4, 0, 0, 0), (.iconst 1, 0, 0, 0)] 16 = true := by decide +kernel
theorem dL_tear_16 : decode (MB ML_tear) 16 = .ok (.ireturn, 1) := by decide +kernel
theorem sL_tear_17 : dsOk (MN ML_tear).cls (MB ML_tear) 17 [(.iconst 0, 0, 0, 0)] 18 = true := by decide +kernel
theorem dL_tear_18 : decode (MB ML_tear) 18 = .ok (.ireturn, 1) := by decide +kernel
def ML_sheet : Ms := (yL_sheet, cL_sheet, 5, (some .int), [(0, 10, 13, 18)])
set_option maxRecDepth 100000 in
theorem kL_sheet : mkS ML_sheet 4 := ⟨⟨List.mem_of_getElem? (i := 981) (by rfl), by decide +kernel⟩, by decide +kernel⟩
theorem sL_sheet_0 : dsOk (MN ML_sheet).cls (MB ML_sheet) 0 [(.aload_n 3, 0, 0, 0), (.iconst 0, 0, 0, 0), (.aload_n 0, 0, 0, 0), (.iload_n 1, 0, 0, 0), (.iload_n 2, 0, 0, 0)] 5 = true := by decide +kernel
theorem dL_sheet_5 : decode (MB ML_sheet) 5 = .ok (.invokevirtual 44, 3) := by decide +kernel
theorem sL_sheet_8 : dsOk (MN ML_sheet).cls (MB ML_sheet) 8 [(.i2l, 0, 0, 0), (.lastore, 0, 0, 0)] 10 = true := by decide +kernel
theorem dL_sheet_10 : decode (MB ML_sheet) 10 = .ok (.goto 7, 3) := by decide +kernel
theorem sL_sheet_13 : dsOk (MN ML_sheet).cls (MB ML_sheet) 13 [(.astore 4, 0, 0, 0), (.iconst 1, 0, 0, 0)] 16 = true := by decide +kernel
theorem dL_sheet_16 : decode (MB ML_sheet) 16 = .ok (.ireturn, 1) := by decide +kernel
theorem sL_sheet_17 : dsOk (MN ML_sheet).cls (MB ML_sheet) 17 [(.iconst 0, 0, 0, 0)] 18 = true := by decide +kernel
theorem dL_sheet_18 : decode (MB ML_sheet) 18 = .ok (.ireturn, 1) := by decide +kernel
def ML_add : Ms := (yL_add, cL_add, 6, (some .int), [(0, 18, 21, 18)])
set_option maxRecDepth 100000 in
theorem kL_add : mkS ML_add 4 := ⟨⟨List.mem_of_getElem? (i := 989) (by rfl), by decide +kernel⟩, by decide +kernel⟩
theorem sL_add_0 : dsOk (MN ML_add).cls (MB ML_add) 0 [(.aload 4, 0, 0, 0), (.iconst 0, 0, 0, 0), (.aload_n 0, 0, 0, 0), (.iload_n 1, 0, 0, 0), (.lload_n 2, 0, 0, 0)] 6 = true := by decide +kernel
theorem dL_add_6 : decode (MB ML_add) 6 = .ok (.invokevirtual 47, 3) := by decide +kernel
theorem dL_add_9 : decode (MB ML_add) 9 = .ok (.ifCond .eq 7, 3) := by decide +kernel
theorem sL_add_12 : dsOk (MN ML_add).cls (MB ML_add) 12 [(.lconst 1, 0, 0, 1)] 13 = true := by decide +kernel
theorem dL_add_13 : decode (MB ML_add) 13 = .ok (.goto 4, 3) := by decide +kernel
theorem sL_add_16 : dsOk (MN ML_add).cls (MB ML_add) 16 [(.lconst 0, 0, 0, 0)] 17 = true := by decide +kernel
theorem sL_add_17 : dsOk (MN ML_add).cls (MB ML_add) 17 [(.lastore, 0, 0, 0)] 18 = true := by decide +kernel
theorem dL_add_18 : decode (MB ML_add) 18 = .ok (.goto 7, 3) := by decide +kernel
theorem sL_add_21 : dsOk (MN ML_add).cls (MB ML_add) 21 [(.astore 5, 0, 0, 0), (.iconst 1, 0, 0, 0)] 24 = true := by decide +kernel
theorem dL_add_24 : decode (MB ML_add) 24 = .ok (.ireturn, 1) := by decide +kernel
theorem sL_add_25 : dsOk (MN ML_add).cls (MB ML_add) 25 [(.iconst 0, 0, 0, 0)] 26 = true := by decide +kernel
theorem dL_add_26 : decode (MB ML_add) 26 = .ok (.ireturn, 1) := by decide +kernel
def ML_fits : Ms := (yL_fits, cL_fits, 6, (some .int), [(0, 10, 13, 18), (0, 10, 17, 13)])
set_option maxRecDepth 100000 in
theorem kL_fits : mkS ML_fits 4 := ⟨⟨List.mem_of_getElem? (i := 1004) (by rfl), by decide +kernel⟩, by decide +kernel⟩
theorem sL_fits_0 : dsOk (MN ML_fits).cls (MB ML_fits) 0 [(.aload 4, 0, 0, 0), (.iconst 0, 0, 0, 0), (.aload_n 0, 0, 0, 0), (.lload_n 1, 0, 0, 0), (.iload_n 3, 0, 0, 0)] 6 = true := by decide +kernel
theorem dL_fits_6 : decode (MB ML_fits) 6 = .ok (.invokevirtual 51, 3) := by decide +kernel
theorem sL_fits_9 : dsOk (MN ML_fits).cls (MB ML_fits) 9 [(.lastore, 0, 0, 0)] 10 = true := by decide +kernel
theorem dL_fits_10 : decode (MB ML_fits) 10 = .ok (.goto 11, 3) := by decide +kernel
theorem sL_fits_13 : dsOk (MN ML_fits).cls (MB ML_fits) 13 [(.astore 5, 0, 0, 0), (.iconst 1, 0, 0, 0)] 16 = true := by decide +kernel
theorem dL_fits_16 : decode (MB ML_fits) 16 = .ok (.ireturn, 1) := by decide +kernel
theorem sL_fits_17 : dsOk (MN ML_fits).cls (MB ML_fits) 17 [(.astore 5, 0, 0, 0), (.iconst 2, 0, 0, 0)] 20 = true := by decide +kernel
theorem dL_fits_20 : decode (MB ML_fits) 20 = .ok (.ireturn, 1) := by decide +kernel
theorem sL_fits_21 : dsOk (MN ML_fits).cls (MB ML_fits) 21 [(.iconst 0, 0, 0, 0)] 22 = true := by decide +kernel
theorem dL_fits_22 : decode (MB ML_fits) 22 = .ok (.ireturn, 1) := by decide +kernel
def ML_leaf : Ms := (yL_leaf, cL_leaf, 6, (some .int), [(0, 10, 13, 18), (0, 10, 17, 13)])
set_option maxRecDepth 100000 in
theorem kL_leaf : mkS ML_leaf 4 := ⟨⟨List.mem_of_getElem? (i := 1045) (by rfl), by decide +kernel⟩, by decide +kernel⟩
theorem sL_leaf_0 : dsOk (MN ML_leaf).cls (MB ML_leaf) 0 [(.aload 4, 0, 0, 0), (.iconst 0, 0, 0, 0), (.aload_n 0, 0, 0, 0), (.lload_n 1, 0, 0, 0), (.iload_n 3, 0, 0, 0)] 6 = true := by decide +kernel
theorem dL_leaf_6 : decode (MB ML_leaf) 6 = .ok (.invokevirtual 55, 3) := by decide +kernel
theorem sL_leaf_9 : dsOk (MN ML_leaf).cls (MB ML_leaf) 9 [(.lastore, 0, 0, 0)] 10 = true := by decide +kernel
theorem dL_leaf_10 : decode (MB ML_leaf) 10 = .ok (.goto 11, 3) := by decide +kernel
theorem sL_leaf_13 : dsOk (MN ML_leaf).cls (MB ML_leaf) 13 [(.astore 5, 0, 0, 0), (.iconst 1, 0, 0, 0)] 16 = true := by decide +kernel
theorem dL_leaf_16 : decode (MB ML_leaf) 16 = .ok (.ireturn, 1) := by decide +kernel
theorem sL_leaf_17 : dsOk (MN ML_leaf).cls (MB ML_leaf) 17 [(.astore 5, 0, 0, 0), (.iconst 2, 0, 0, 0)] 20 = true := by decide +kernel
theorem dL_leaf_20 : decode (MB ML_leaf) 20 = .ok (.ireturn, 1) := by decide +kernel
theorem sL_leaf_21 : dsOk (MN ML_leaf).cls (MB ML_leaf) 21 [(.iconst 0, 0, 0, 0)] 22 = true := by decide +kernel
theorem dL_leaf_22 : decode (MB ML_leaf) 22 = .ok (.ireturn, 1) := by decide +kernel
def ML_several : Ms := (yL_several, cL_several, 7, (some .int), [(0, 12, 15, 18), (0, 12, 19, 13)])
set_option maxRecDepth 100000 in
theorem kL_several : mkS ML_several 5 := ⟨⟨List.mem_of_getElem? (i := 1056) (by rfl), by decide +kernel⟩, by decide +kernel⟩
theorem sL_several_0 : dsOk (MN ML_several).cls (MB ML_several) 0 [(.aload 5, 0, 0, 0), (.iconst 0, 0, 0, 0), (.aload_n 0, 0, 0, 0), (.lload_n 1, 0, 0, 0), (.iload_n 3, 0, 0, 0), (.iload 4, 0, 0, 0)] 8 = true := by decide +kernel
theorem dL_several_8 : decode (MB ML_several) 8 = .ok (.invokevirtual 58, 3) := by decide +kernel
theorem sL_several_11 : dsOk (MN ML_several).cls (MB ML_several) 11 [(.lastore, 0, 0, 0)] 12 = true := by decide +kernel
theorem dL_several_12 : decode (MB ML_several) 12 = .ok (.goto 11, 3) := by decide +kernel
theorem sL_several_15 : dsOk (MN ML_several).cls (MB ML_several) 15 [(.astore 6, 0, 0, 0), (.iconst 1, 0, 0, 0)] 18 = true := by decide +kernel
theorem dL_several_18 : decode (MB ML_several) 18 = .ok (.ireturn, 1) := by decide +kernel
theorem sL_several_19 : dsOk (MN ML_several).cls (MB ML_several) 19 [(.astore 6, 0, 0, 0), (.iconst 2, 0, 0, 0)] 22 = true := by decide +kernel
theorem dL_several_22 : decode (MB ML_several) 22 = .ok (.ireturn, 1) := by decide +kernel
theorem sL_several_23 : dsOk (MN ML_several).cls (MB ML_several) 23 [(.iconst 0, 0, 0, 0)] 24 = true := by decide +kernel
theorem dL_several_24 : decode (MB ML_several) 24 = .ok (.ireturn, 1) := by decide +kernel
def ML_ways : Ms := (yL_ways, cL_ways, 7, (some .int), [(0, 12, 15, 13)])
set_option maxRecDepth 100000 in
theorem kL_ways : mkS ML_ways 5 := ⟨⟨List.mem_of_getElem? (i := 1079) (by rfl), by decide +kernel⟩, by decide +kernel⟩
theorem sL_ways_0 : dsOk (MN ML_ways).cls (MB ML_ways) 0 [(.aload 5, 0, 0, 0), (.iconst 0, 0, 0, 0), (.aload_n 0, 0, 0, 0), (.lload_n 1, 0, 0, 0), (.iload_n 3, 0, 0, 0), (.iload 4, 0, 0, 0)] 8 = true := by decide +kernel
theorem dL_ways_8 : decode (MB ML_ways) 8 = .ok (.invokevirtual 62, 3) := by decide +kernel
theorem sL_ways_11 : dsOk (MN ML_ways).cls (MB ML_ways) 11 [(.lastore, 0, 0, 0)] 12 = true := by decide +kernel
theorem dL_ways_12 : decode (MB ML_ways) 12 = .ok (.goto 7, 3) := by decide +kernel
theorem sL_ways_15 : dsOk (MN ML_ways).cls (MB ML_ways) 15 [(.astore 6, 0, 0, 0), (.iconst 1, 0, 0, 0)] 18 = true := by decide +kernel
theorem dL_ways_18 : decode (MB ML_ways) 18 = .ok (.ireturn, 1) := by decide +kernel
theorem sL_ways_19 : dsOk (MN ML_ways).cls (MB ML_ways) 19 [(.iconst 0, 0, 0, 0)] 20 = true := by decide +kernel
theorem dL_ways_20 : decode (MB ML_ways) 20 = .ok (.ireturn, 1) := by decide +kernel
def ML_sewn : Ms := (yL_sewn, cL_sewn, 5, (some .int), [(0, 8, 11, 13)])
set_option maxRecDepth 100000 in
theorem kL_sewn : mkS ML_sewn 3 := ⟨⟨List.mem_of_getElem? (i := 1101) (by rfl), by decide +kernel⟩, by decide +kernel⟩
theorem sL_sewn_0 : dsOk (MN ML_sewn).cls (MB ML_sewn) 0 [(.aload_n 3, 0, 0, 0), (.iconst 0, 0, 0, 0), (.aload_n 0, 0, 0, 0), (.lload_n 1, 0, 0, 0)] 4 = true := by decide +kernel
theorem dL_sewn_4 : decode (MB ML_sewn) 4 = .ok (.invokevirtual 65, 3) := by decide +kernel
theorem sL_sewn_7 : dsOk (MN ML_sewn).cls (MB ML_sewn) 7 [(.lastore, 0, 0, 0)] 8 = true := by decide +kernel
theorem dL_sewn_8 : decode (MB ML_sewn) 8 = .ok (.goto 7, 3) := by decide +kernel
theorem sL_sewn_11 : dsOk (MN ML_sewn).cls (MB ML_sewn) 11 [(.astore 4, 0, 0, 0), (.iconst 1, 0, 0, 0)] 14 = true := by decide +kernel
theorem dL_sewn_14 : decode (MB ML_sewn) 14 = .ok (.ireturn, 1) := by decide +kernel
theorem sL_sewn_15 : dsOk (MN ML_sewn).cls (MB ML_sewn) 15 [(.iconst 0, 0, 0, 0)] 16 = true := by decide +kernel
theorem dL_sewn_16 : decode (MB ML_sewn) 16 = .ok (.ireturn, 1) := by decide +kernel
def ML_street : Ms := (yL_street, cL_street, 7, (some .int), [(0, 12, 15, 18), (0, 12, 19, 13)])
set_option maxRecDepth 100000 in
theorem kL_street : mkS ML_street 5 := ⟨⟨List.mem_of_getElem? (i := 1108) (by rfl), by decide +kernel⟩, by decide +kernel⟩
theorem sL_street_0 : dsOk (MN ML_street).cls (MB ML_street) 0 [(.aload 5, 0, 0, 0), (.iconst 0, 0, 0, 0), (.aload_n 0, 0, 0, 0), (.lload_n 1, 0, 0, 0), (.iload_n 3, 0, 0, 0), (.iload 4, 0, 0, 0)] 8 = true := by decide +kernel
theorem dL_street_8 : decode (MB ML_street) 8 = .ok (.invokevirtual 69, 3) := by decide +kernel
theorem sL_street_11 : dsOk (MN ML_street).cls (MB ML_street) 11 [(.lastore, 0, 0, 0)] 12 = true := by decide +kernel
theorem dL_street_12 : decode (MB ML_street) 12 = .ok (.goto 11, 3) := by decide +kernel
theorem sL_street_15 : dsOk (MN ML_street).cls (MB ML_street) 15 [(.astore 6, 0, 0, 0), (.iconst 1, 0, 0, 0)] 18 = true := by decide +kernel
theorem dL_street_18 : decode (MB ML_street) 18 = .ok (.ireturn, 1) := by decide +kernel
theorem sL_street_19 : dsOk (MN ML_street).cls (MB ML_street) 19 [(.astore 6, 0, 0, 0), (.iconst 2, 0, 0, 0)] 22 = true := by decide +kernel
theorem dL_street_22 : decode (MB ML_street) 22 = .ok (.ireturn, 1) := by decide +kernel
theorem sL_street_23 : dsOk (MN ML_street).cls (MB ML_street) 23 [(.iconst 0, 0, 0, 0)] 24 = true := by decide +kernel
theorem dL_street_24 : decode (MB ML_street) 24 = .ok (.ireturn, 1) := by decide +kernel
def ML_said : Ms := (yL_said, cL_said, 8, (some .int), [(0, 13, 16, 18), (0, 13, 20, 13)])
set_option maxRecDepth 100000 in
theorem kL_said : mkS ML_said 5 := ⟨⟨List.mem_of_getElem? (i := 1116) (by rfl), by decide +kernel⟩, by decide +kernel⟩
theorem sL_said_0 : dsOk (MN ML_said).cls (MB ML_said) 0 [(.aload 6, 0, 0, 0), (.iconst 0, 0, 0, 0), (.aload_n 0, 0, 0, 0), (.lload_n 1, 0, 0, 0), (.iload_n 3, 0, 0, 0), (.lload 4, 0, 0, 0)] 8 = true := by decide +kernel
theorem dL_said_8 : decode (MB ML_said) 8 = .ok (.invokevirtual 73, 3) := by decide +kernel
theorem sL_said_11 : dsOk (MN ML_said).cls (MB ML_said) 11 [(.i2l, 0, 0, 0), (.lastore, 0, 0, 0)] 13 = true := by decide +kernel
theorem dL_said_13 : decode (MB ML_said) 13 = .ok (.goto 11, 3) := by decide +kernel
theorem sL_said_16 : dsOk (MN ML_said).cls (MB ML_said) 16 [(.astore 7, 0, 0, 0), (.iconst 1, 0, 0, 0)] 19 = true := by decide +kernel
theorem dL_said_19 : decode (MB ML_said) 19 = .ok (.ireturn, 1) := by decide +kernel
theorem sL_said_20 : dsOk (MN ML_said).cls (MB ML_said) 20 [(.astore 7, 0, 0, 0), (.iconst 2, 0, 0, 0)] 23 = true := by decide +kernel
theorem dL_said_23 : decode (MB ML_said) 23 = .ok (.ireturn, 1) := by decide +kernel
theorem sL_said_24 : dsOk (MN ML_said).cls (MB ML_said) 24 [(.iconst 0, 0, 0, 0)] 25 = true := by decide +kernel
theorem dL_said_25 : decode (MB ML_said) 25 = .ok (.ireturn, 1) := by decide +kernel
def ML_tells : Ms := (yL_tells, cL_tells, 5, (some .int), [(0, 9, 12, 13)])
set_option maxRecDepth 100000 in
theorem kL_tells : mkS ML_tells 3 := ⟨⟨List.mem_of_getElem? (i := 1136) (by rfl), by decide +kernel⟩, by decide +kernel⟩
theorem sL_tells_0 : dsOk (MN ML_tells).cls (MB ML_tells) 0 [(.aload_n 3, 0, 0, 0), (.iconst 0, 0, 0, 0), (.aload_n 0, 0, 0, 0), (.lload_n 1, 0, 0, 0)] 4 = true := by decide +kernel
theorem dL_tells_4 : decode (MB ML_tells) 4 = .ok (.invokevirtual 77, 3) := by decide +kernel
theorem sL_tells_7 : dsOk (MN ML_tells).cls (MB ML_tells) 7 [(.i2l, 0, 0, 0), (.lastore, 0, 0, 0)] 9 = true := by decide +kernel
theorem dL_tells_9 : decode (MB ML_tells) 9 = .ok (.goto 7, 3) := by decide +kernel
theorem sL_tells_12 : dsOk (MN ML_tells).cls (MB ML_tells) 12 [(.astore 4, 0, 0, 0), (.iconst 1, 0, 0, 0)] 15 = true := by decide +kernel
theorem dL_tells_15 : decode (MB ML_tells) 15 = .ok (.ireturn, 1) := by decide +kernel
theorem sL_tells_16 : dsOk (MN ML_tells).cls (MB ML_tells) 16 [(.iconst 0, 0, 0, 0)] 17 = true := by decide +kernel
theorem dL_tells_17 : decode (MB ML_tells) 17 = .ok (.ireturn, 1) := by decide +kernel
def ML_far : Ms := (yL_far, cL_far, 4, (some .int), [(0, 9, 12, 13)])
set_option maxRecDepth 100000 in
theorem kL_far : mkS ML_far 3 := ⟨⟨List.mem_of_getElem? (i := 1148) (by rfl), by decide +kernel⟩, by decide +kernel⟩
theorem sL_far_0 : dsOk (MN ML_far).cls (MB ML_far) 0 [(.aload_n 2, 0, 0, 0), (.iconst 0, 0, 0, 0), (.aload_n 0, 0, 0, 0), (.iload_n 1, 0, 0, 0)] 4 = true := by decide +kernel
theorem dL_far_4 : decode (MB ML_far) 4 = .ok (.invokevirtual 81, 3) := by decide +kernel
theorem sL_far_7 : dsOk (MN ML_far).cls (MB ML_far) 7 [(.i2l, 0, 0, 0), (.lastore, 0, 0, 0)] 9 = true := by decide +kernel
theorem dL_far_9 : decode (MB ML_far) 9 = .ok (.goto 6, 3) := by decide +kernel
theorem sL_far_12 : dsOk (MN ML_far).cls (MB ML_far) 12 [(.astore_n 3, 0, 0, 0), (.iconst 1, 0, 0, 0)] 14 = true := by decide +kernel
theorem dL_far_14 : decode (MB ML_far) 14 = .ok (.ireturn, 1) := by decide +kernel
theorem sL_far_15 : dsOk (MN ML_far).cls (MB ML_far) 15 [(.iconst 0, 0, 0, 0)] 16 = true := by decide +kernel
theorem dL_far_16 : decode (MB ML_far) 16 = .ok (.ireturn, 1) := by decide +kernel
def ML_lacks : Ms := (yL_lacks, cL_lacks, 4, (some .int), [(0, 9, 12, 13)])
set_option maxRecDepth 100000 in
theorem kL_lacks : mkS ML_lacks 3 := ⟨⟨List.mem_of_getElem? (i := 1169) (by rfl), by decide +kernel⟩, by decide +kernel⟩
theorem sL_lacks_0 : dsOk (MN ML_lacks).cls (MB ML_lacks) 0 [(.aload_n 2, 0, 0, 0), (.iconst 0, 0, 0, 0), (.aload_n 0, 0, 0, 0), (.iload_n 1, 0, 0, 0)] 4 = true := by decide +kernel
theorem dL_lacks_4 : decode (MB ML_lacks) 4 = .ok (.invokevirtual 84, 3) := by decide +kernel
theorem sL_lacks_7 : dsOk (MN ML_lacks).cls (MB ML_lacks) 7 [(.i2l, 0, 0, 0), (.lastore, 0, 0, 0)] 9 = true := by decide +kernel
theorem dL_lacks_9 : decode (MB ML_lacks) 9 = .ok (.goto 6, 3) := by decide +kernel
theorem sL_lacks_12 : dsOk (MN ML_lacks).cls (MB ML_lacks) 12 [(.astore_n 3, 0, 0, 0), (.iconst 1, 0, 0, 0)] 14 = true := by decide +kernel
theorem dL_lacks_14 : decode (MB ML_lacks) 14 = .ok (.ireturn, 1) := by decide +kernel
theorem sL_lacks_15 : dsOk (MN ML_lacks).cls (MB ML_lacks) 15 [(.iconst 0, 0, 0, 0)] 16 = true := by decide +kernel
theorem dL_lacks_16 : decode (MB ML_lacks) 16 = .ok (.ireturn, 1) := by decide +kernel
def ML_skip : Ms := (yL_skip, cL_skip, 7, (some .int), [(0, 12, 15, 13)])
set_option maxRecDepth 100000 in
theorem kL_skip : mkS ML_skip 5 := ⟨⟨List.mem_of_getElem? (i := 1176) (by rfl), by decide +kernel⟩, by decide +kernel⟩
theorem sL_skip_0 : dsOk (MN ML_skip).cls (MB ML_skip) 0 [(.aload 5, 0, 0, 0), (.iconst 0, 0, 0, 0), (.aload_n 0, 0, 0, 0), (.iload_n 1, 0, 0, 0), (.lload_n 2, 0, 0, 0), (.iload 4, 0, 0, 0)] 8 = true := by decide +kernel
theorem dL_skip_8 : decode (MB ML_skip) 8 = .ok (.invokevirtual 87, 3) := by decide +kernel
theorem sL_skip_11 : dsOk (MN ML_skip).cls (MB ML_skip) 11 [(.lastore, 0, 0, 0)] 12 = true := by decide +kernel
theorem dL_skip_12 : decode (MB ML_skip) 12 = .ok (.goto 7, 3) := by decide +kernel
theorem sL_skip_15 : dsOk (MN ML_skip).cls (MB ML_skip) 15 [(.astore 6, 0, 0, 0), (.iconst 1, 0, 0, 0)] 18 = true := by decide +kernel
theorem dL_skip_18 : decode (MB ML_skip) 18 = .ok (.ireturn, 1) := by decide +kernel
theorem sL_skip_19 : dsOk (MN ML_skip).cls (MB ML_skip) 19 [(.iconst 0, 0, 0, 0)] 20 = true := by decide +kernel
theorem dL_skip_20 : decode (MB ML_skip) 20 = .ok (.ireturn, 1) := by decide +kernel
def ML_whole : Ms := (yL_whole, cL_whole, 4, (some .int), [(0, 9, 12, 18)])
set_option maxRecDepth 100000 in
theorem kL_whole : mkS ML_whole 3 := ⟨⟨List.mem_of_getElem? (i := 1187) (by rfl), by decide +kernel⟩, by decide +kernel⟩
theorem sL_whole_0 : dsOk (MN ML_whole).cls (MB ML_whole) 0 [(.aload_n 2, 0, 0, 0), (.iconst 0, 0, 0, 0), (.aload_n 0, 0, 0, 0), (.iload_n 1, 0, 0, 0)] 4 = true := by decide +kernel
theorem dL_whole_4 : decode (MB ML_whole) 4 = .ok (.invokevirtual 91, 3) := by decide +kernel
theorem sL_whole_7 : dsOk (MN ML_whole).cls (MB ML_whole) 7 [(.i2l, 0, 0, 0), (.lastore, 0, 0, 0)] 9 = true := by decide +kernel
theorem dL_whole_9 : decode (MB ML_whole) 9 = .ok (.goto 6, 3) := by decide +kernel
theorem sL_whole_12 : dsOk (MN ML_whole).cls (MB ML_whole) 12 [(.astore_n 3, 0, 0, 0), (.iconst 1, 0, 0, 0)] 14 = true := by decide +kernel
theorem dL_whole_14 : decode (MB ML_whole) 14 = .ok (.ireturn, 1) := by decide +kernel
theorem sL_whole_15 : dsOk (MN ML_whole).cls (MB ML_whole) 15 [(.iconst 0, 0, 0, 0)] 16 = true := by decide +kernel
theorem dL_whole_16 : decode (MB ML_whole) 16 = .ok (.ireturn, 1) := by decide +kernel
def ML_bought : Ms := (yL_bought, cL_bought, 4, (some .int), [(0, 9, 12, 18)])
set_option maxRecDepth 100000 in
theorem kL_bought : mkS ML_bought 3 := ⟨⟨List.mem_of_getElem? (i := 1213) (by rfl), by decide +kernel⟩, by decide +kernel⟩
theorem sL_bought_0 : dsOk (MN ML_bought).cls (MB ML_bought) 0 [(.aload_n 2, 0, 0, 0), (.iconst 0, 0, 0, 0), (.aload_n 0, 0, 0, 0), (.iload_n 1, 0, 0, 0)] 4 = true := by decide +kernel
theorem dL_bought_4 : decode (MB ML_bought) 4 = .ok (.invokevirtual 94, 3) := by decide +kernel
theorem sL_bought_7 : dsOk (MN ML_bought).cls (MB ML_bought) 7 [(.i2l, 0, 0, 0), (.lastore, 0, 0, 0)] 9 = true := by decide +kernel
theorem dL_bought_9 : decode (MB ML_bought) 9 = .ok (.goto 6, 3) := by decide +kernel
theorem sL_bought_12 : dsOk (MN ML_bought).cls (MB ML_bought) 12 [(.astore_n 3, 0, 0, 0), (.iconst 1, 0, 0, 0)] 14 = true := by decide +kernel
theorem dL_bought_14 : decode (MB ML_bought) 14 = .ok (.ireturn, 1) := by decide +kernel
theorem sL_bought_15 : dsOk (MN ML_bought).cls (MB ML_bought) 15 [(.iconst 0, 0, 0, 0)] 16 = true := by decide +kernel
theorem dL_bought_16 : decode (MB ML_bought) 16 = .ok (.ireturn, 1) := by decide +kernel
def ML_index : Ms := (yL_index, cL_index, 5, (some .int), [(0, 10, 13, 18)])
set_option maxRecDepth 100000 in
theorem kL_index : mkS ML_index 4 := ⟨⟨List.mem_of_getElem? (i := 1220) (by rfl), by decide +kernel⟩, by decide +kernel⟩
theorem sL_index_0 : dsOk (MN ML_index).cls (MB ML_index) 0 [(.aload_n 3, 0, 0, 0), (.iconst 0, 0, 0, 0), (.aload_n 0, 0, 0, 0), (.iload_n 1, 0, 0, 0), (.iload_n 2, 0, 0, 0)] 5 = true := by decide +kernel
theorem dL_index_5 : decode (MB ML_index) 5 = .ok (.invokevirtual 97, 3) := by decide +kernel
theorem sL_index_8 : dsOk (MN ML_index).cls (MB ML_index) 8 [(.i2l, 0, 0, 0), (.lastore, 0, 0, 0)] 10 = true := by decide +kernel
theorem dL_index_10 : decode (MB ML_index) 10 = .ok (.goto 7, 3) := by decide +kernel
theorem sL_index_13 : dsOk (MN ML_index).cls (MB ML_index) 13 [(.astore 4, 0, 0, 0), (.iconst 1, 0, 0, 0)] 16 = true := by decide +kernel
theorem dL_index_16 : decode (MB ML_index) 16 = .ok (.ireturn, 1) := by decide +kernel
theorem sL_index_17 : dsOk (MN ML_index).cls (MB ML_index) 17 [(.iconst 0, 0, 0, 0)] 18 = true := by decide +kernel
theorem dL_index_18 : decode (MB ML_index) 18 = .ok (.ireturn, 1) := by decide +kernel
def ML_seed : Ms := (yL_seed, cL_seed, 6, (some .int), [(0, 12, 15, 18), (0, 12, 19, 13)])
set_option maxRecDepth 100000 in
theorem kL_seed : mkS ML_seed 5 := ⟨⟨List.mem_of_getElem? (i := 1227) (by rfl), by decide +kernel⟩, by decide +kernel⟩
theorem sL_seed_0 : dsOk (MN ML_seed).cls (MB ML_seed) 0 [(.aload 4, 0, 0, 0), (.iconst 0, 0, 0, 0), (.aload_n 0, 0, 0, 0), (.iload_n 1, 0, 0, 0), (.iload_n 2, 0, 0, 0), (.iload_n 3, 0, 0, 0)] 7 = true := by decide +kernel
theorem dL_seed_7 : decode (MB ML_seed) 7 = .ok (.invokevirtual 100, 3) := by decide +kernel
theorem sL_seed_10 : dsOk (MN ML_seed).cls (MB ML_seed) 10 [(.i2l, 0, 0, 0), (.lastore, 0, 0, 0)] 12 = true := by decide +kernel
theorem dL_seed_12 : decode (MB ML_seed) 12 = .ok (.goto 11, 3) := by decide +kernel
theorem sL_seed_15 : dsOk (MN ML_seed).cls (MB ML_seed) 15 [(.astore 5, 0, 0, 0), (.iconst 1, 0, 0, 0)] 18 = true := by decide +kernel
theorem dL_seed_18 : decode (MB ML_seed) 18 = .ok (.ireturn, 1) := by decide +kernel
theorem sL_seed_19 : dsOk (MN ML_seed).cls (MB ML_seed) 19 [(.astore 5, 0, 0, 0), (.iconst 2, 0, 0, 0)] 22 = true := by decide +kernel
theorem dL_seed_22 : decode (MB ML_seed) 22 = .ok (.ireturn, 1) := by decide +kernel
theorem sL_seed_23 : dsOk (MN ML_seed).cls (MB ML_seed) 23 [(.iconst 0, 0, 0, 0)] 24 = true := by decide +kernel
theorem dL_seed_24 : decode (MB ML_seed) 24 = .ok (.ireturn, 1) := by decide +kernel
def ML_way : Ms := (yL_way, cL_way, 9, (some .int), [(0, 14, 17, 18), (0, 14, 21, 13)])
set_option maxRecDepth 100000 in
theorem kL_way : mkS ML_way 6 := ⟨⟨List.mem_of_getElem? (i := 1245) (by rfl), by decide +kernel⟩, by decide +kernel⟩
theorem sL_way_0 : dsOk (MN ML_way).cls (MB ML_way) 0 [(.aload 7, 0, 0, 0), (.iconst 0, 0, 0, 0), (.aload_n 0, 0, 0, 0), (.lload_n 1, 0, 0, 0), (.iload_n 3, 0, 0, 0), (.iload 4, 0, 0, 0), (.lload 5, 0, 0, 0)] 10 = true := by decide +kernel
theorem dL_way_10 : decode (MB ML_way) 10 = .ok (.invokevirtual 104, 3) := by decide +kernel
theorem sL_way_13 : dsOk (MN ML_way).cls (MB ML_way) 13 [(.lastore, 0, 0, 0)] 14 = true := by decide +kernel
theorem dL_way_14 : decode (MB ML_way) 14 = .ok (.goto 11, 3) := by decide +kernel
theorem sL_way_17 : dsOk (MN ML_way).cls (MB ML_way) 17 [(.astore 8, 0, 0, 0), (.iconst 1, 0, 0, 0)] 20 = true := by decide +kernel
theorem dL_way_20 : decode (MB ML_way) 20 = .ok (.ireturn, 1) := by decide +kernel
theorem sL_way_21 : dsOk (MN ML_way).cls (MB ML_way) 21 [(.astore 8, 0, 0, 0), (.iconst 2, 0, 0, 0)] 24 = true := by decide +kernel
theorem dL_way_24 : decode (MB ML_way) 24 = .ok (.ireturn, 1) := by decide +kernel
theorem sL_way_25 : dsOk (MN ML_way).cls (MB ML_way) 25 [(.iconst 0, 0, 0, 0)] 26 = true := by decide +kernel
theorem dL_way_26 : decode (MB ML_way) 26 = .ok (.ireturn, 1) := by decide +kernel
def ML_between : Ms := (yL_between, cL_between, 8, (some .int), [(0, 12, 15, 18), (0, 12, 19, 13)])
set_option maxRecDepth 100000 in
theorem kL_between : mkS ML_between 5 := ⟨⟨List.mem_of_getElem? (i := 1259) (by rfl), by decide +kernel⟩, by decide +kernel⟩
theorem sL_between_0 : dsOk (MN ML_between).cls (MB ML_between) 0 [(.aload 6, 0, 0, 0), (.iconst 0, 0, 0, 0), (.aload_n 0, 0, 0, 0), (.lload_n 1, 0, 0, 0), (.lload_n 3, 0, 0, 0), (.iload 5, 0, 0, 0)] 8 = true := by decide +kernel
theorem dL_between_8 : decode (MB ML_between) 8 = .ok (.invokevirtual 108, 3) := by decide +kernel
theorem sL_between_11 : dsOk (MN ML_between).cls (MB ML_between) 11 [(.lastore, 0, 0, 0)] 12 = true := by decide +kernel
theorem dL_between_12 : decode (MB ML_between) 12 = .ok (.goto 11, 3) := by decide +kernel
theorem sL_between_15 : dsOk (MN ML_between).cls (MB ML_between) 15 [(.astore 7, 0, 0, 0), (.iconst 1, 0, 0, 0)] 18 = true := by decide +kernel
theorem dL_between_18 : decode (MB ML_between) 18 = .ok (.ireturn, 1) := by decide +kernel
theorem sL_between_19 : dsOk (MN ML_between).cls (MB ML_between) 19 [(.astore 7, 0, 0, 0), (.iconst 2, 0, 0, 0)] 22 = true := by decide +kernel
theorem dL_between_22 : decode (MB ML_between) 22 = .ok (.ireturn, 1) := by decide +kernel
theorem sL_between_23 : dsOk (MN ML_between).cls (MB ML_between) 23 [(.iconst 0, 0, 0, 0)] 24 = true := by decide +kernel
theorem dL_between_24 : decode (MB ML_between) 24 = .ok (.ireturn, 1) := by decide +kernel
def ML_stick : Ms := (yL_stick, cL_stick, 5, (some .int), [(0, 10, 13, 18)])
set_option maxRecDepth 100000 in
theorem kL_stick : mkS ML_stick 4 := ⟨⟨List.mem_of_getElem? (i := 1266) (by rfl), by decide +kernel⟩, by decide +kernel⟩
theorem sL_stick_0 : dsOk (MN ML_stick).cls (MB ML_stick) 0 [(.aload_n 3, 0, 0, 0), (.iconst 0, 0, 0, 0), (.aload_n 0, 0, 0, 0), (.iload_n 1, 0, 0, 0), (.iload_n 2, 0, 0, 0)] 5 = true := by decide +kernel
theorem dL_stick_5 : decode (MB ML_stick) 5 = .ok (.invokevirtual 112, 3) := by decide +kernel
theorem sL_stick_8 : dsOk (MN ML_stick).cls (MB ML_stick) 8 [(.i2l, 0, 0, 0), (.lastore, 0, 0, 0)] 10 = true := by decide +kernel
theorem dL_stick_10 : decode (MB ML_stick) 10 = .ok (.goto 7, 3) := by decide +kernel
theorem sL_stick_13 : dsOk (MN ML_stick).cls (MB ML_stick) 13 [(.astore 4, 0, 0, 0), (.iconst 1, 0, 0, 0)] 16 = true := by decide +kernel
theorem dL_stick_16 : decode (MB ML_stick) 16 = .ok (.ireturn, 1) := by decide +kernel
theorem sL_stick_17 : dsOk (MN ML_stick).cls (MB ML_stick) 17 [(.iconst 0, 0, 0, 0)] 18 = true := by decide +kernel
theorem dL_stick_18 : decode (MB ML_stick) 18 = .ok (.ireturn, 1) := by decide +kernel
def ML_read : Ms := (yL_read, cL_read, 9, (some .int), [(0, 17, 20, 18), (0, 17, 24, 13)])
set_option maxRecDepth 100000 in
theorem kL_read : mkS ML_read 8 := ⟨⟨List.mem_of_getElem? (i := 1281) (by rfl), by decide +kernel⟩, by decide +kernel⟩
theorem sL_read_0 : dsOk (MN ML_read).cls (MB ML_read) 0 [(.aload 7, 0, 0, 0), (.iconst 0, 0, 0, 0), (.aload_n 0, 0, 0, 0), (.iload_n 1, 0, 0, 0), (.iload_n 2, 0, 0, 0), (.iload_n 3, 0, 0, 0), (.iload 4, 0, 0, 0), (.iload 5, 0, 0, 0), (.iload 6, 0, 0, 0)] 13 = true := by decide +kernel
theorem dL_read_13 : decode (MB ML_read) 13 = .ok (.invokevirtual 115, 3) := by decide +kernel
theorem sL_read_16 : dsOk (MN ML_read).cls (MB ML_read) 16 [(.lastore, 0, 0, 0)] 17 = true := by decide +kernel
theorem dL_read_17 : decode (MB ML_read) 17 = .ok (.goto 11, 3) := by decide +kernel
theorem sL_read_20 : dsOk (MN ML_read).cls (MB ML_read) 20 [(.astore 8, 0, 0, 0), (.iconst 1, 0, 0, 0)] 23 = true := by decide +kernel
theorem dL_read_23 : decode (MB ML_read) 23 = .ok (.ireturn, 1) := by decide +kernel
theorem sL_read_24 : dsOk (MN ML_read).cls (MB ML_read) 24 [(.astore 8, 0, 0, 0), (.iconst 2, 0, 0, 0)] 27 = true := by decide +kernel
theorem dL_read_27 : decode (MB ML_read) 27 = .ok (.ireturn, 1) := by decide +kernel
theorem sL_read_28 : dsOk (MN ML_read).cls (MB ML_read) 28 [(.iconst 0, 0, 0, 0)] 29 = true := by decide +kernel
theorem dL_read_29 : decode (MB ML_read) 29 = .ok (.ireturn, 1) := by decide +kernel
def ML_shares : Ms := (yL_shares, cL_shares, 5, (some .int), [(0, 9, 12, 18), (0, 9, 16, 13)])
set_option maxRecDepth 100000 in
theorem kL_shares : mkS ML_shares 4 := ⟨⟨List.mem_of_getElem? (i := 1302) (by rfl), by decide +kernel⟩, by decide +kernel⟩
theorem sL_shares_0 : dsOk (MN ML_shares).cls (MB ML_shares) 0 [(.aload_n 3, 0, 0, 0), (.iconst 0, 0, 0, 0), (.aload_n 0, 0, 0, 0), (.iload_n 1, 0, 0, 0), (.iload_n 2, 0, 0, 0)] 5 = true := by decide +kernel
theorem dL_shares_5 : decode (MB ML_shares) 5 = .ok (.invokevirtual 119, 3) := by decide +kernel
theorem sL_shares_8 : dsOk (MN ML_shares).cls (MB ML_shares) 8 [(.lastore, 0, 0, 0)] 9 = true := by decide +kernel
theorem dL_shares_9 : decode (MB ML_shares) 9 = .ok (.goto 11, 3) := by decide +kernel
theorem sL_shares_12 : dsOk (MN ML_shares).cls (MB ML_shares) 12 [(.astore 4, 0, 0, 0), (.iconst 1, 0, 0, 0)] 15 = true := by decide +kernel
theorem dL_shares_15 : decode (MB ML_shares) 15 = .ok (.ireturn, 1) := by decide +kernel
theorem sL_shares_16 : dsOk (MN ML_shares).cls (MB ML_shares) 16 [(.astore 4, 0, 0, 0), (.iconst 2, 0, 0, 0)] 19 = true := by decide +kernel
theorem dL_shares_19 : decode (MB ML_shares) 19 = .ok (.ireturn, 1) := by decide +kernel
theorem sL_shares_20 : dsOk (MN ML_shares).cls (MB ML_shares) 20 [(.iconst 0, 0, 0, 0)] 21 = true := by decide +kernel
theorem dL_shares_21 : decode (MB ML_shares) 21 = .ok (.ireturn, 1) := by decide +kernel
def ML_child : Ms := (yL_child, cL_child, 4, (some .int), [(0, 9, 12, 18)])
set_option maxRecDepth 100000 in
theorem kL_child : mkS ML_child 3 := ⟨⟨List.mem_of_getElem? (i := 1346) (by rfl), by decide +kernel⟩, by decide +kernel⟩
theorem sL_child_0 : dsOk (MN ML_child).cls (MB ML_child) 0 [(.aload_n 2, 0, 0, 0), (.iconst 0, 0, 0, 0), (.aload_n 0, 0, 0, 0), (.iload_n 1, 0, 0, 0)] 4 = true := by decide +kernel
theorem dL_child_4 : decode (MB ML_child) 4 = .ok (.invokevirtual 123, 3) := by decide +kernel
theorem sL_child_7 : dsOk (MN ML_child).cls (MB ML_child) 7 [(.i2l, 0, 0, 0), (.lastore, 0, 0, 0)] 9 = true := by decide +kernel
theorem dL_child_9 : decode (MB ML_child) 9 = .ok (.goto 6, 3) := by decide +kernel
theorem sL_child_12 : dsOk (MN ML_child).cls (MB ML_child) 12 [(.astore_n 3, 0, 0, 0), (.iconst 1, 0, 0, 0)] 14 = true := by decide +kernel
theorem dL_child_14 : decode (MB ML_child) 14 = .ok (.ireturn, 1) := by decide +kernel
theorem sL_child_15 : dsOk (MN ML_child).cls (MB ML_child) 15 [(.iconst 0, 0, 0, 0)] 16 = true := by decide +kernel
theorem dL_child_16 : decode (MB ML_child) 16 = .ok (.ireturn, 1) := by decide +kernel
def ML_least : Ms := (yL_least, cL_least, 6, (some .int), [(0, 11, 14, 18), (0, 11, 18, 13)])
set_option maxRecDepth 100000 in
theorem kL_least : mkS ML_least 4 := ⟨⟨List.mem_of_getElem? (i := 1362) (by rfl), by decide +kernel⟩, by decide +kernel⟩
theorem sL_least_0 : dsOk (MN ML_least).cls (MB ML_least) 0 [(.aload 4, 0, 0, 0), (.iconst 0, 0, 0, 0), (.aload_n 0, 0, 0, 0), (.iload_n 1, 0, 0, 0), (.lload_n 2, 0, 0, 0)] 6 = true := by decide +kernel
theorem dL_least_6 : decode (MB ML_least) 6 = .ok (.invokevirtual 126, 3) := by decide +kernel
theorem sL_least_9 : dsOk (MN ML_least).cls (MB ML_least) 9 [(.i2l, 0, 0, 0), (.lastore, 0, 0, 0)] 11 = true := by decide +kernel
theorem dL_least_11 : decode (MB ML_least) 11 = .ok (.goto 11, 3) := by decide +kernel
theorem sL_least_14 : dsOk (MN ML_least).cls (MB ML_least) 14 [(.astore 5, 0, 0, 0), (.iconst 1, 0, 0, 0)] 17 = true := by decide +kernel
theorem dL_least_17 : decode (MB ML_least) 17 = .ok (.ireturn, 1) := by decide +kernel
theorem sL_least_18 : dsOk (MN ML_least).cls (MB ML_least) 18 [(.astore 5, 0, 0, 0), (.iconst 2, 0, 0, 0)] 21 = true := by decide +kernel
theorem dL_least_21 : decode (MB ML_least) 21 = .ok (.ireturn, 1) := by decide +kernel
theorem sL_least_22 : dsOk (MN ML_least).cls (MB ML_least) 22 [(.iconst 0, 0, 0, 0)] 23 = true := by decide +kernel
theorem dL_least_23 : decode (MB ML_least) 23 = .ok (.ireturn, 1) := by decide +kernel
def ML_torn : Ms := (yL_torn, cL_torn, 4, (some .int), [(0, 9, 12, 18)])
set_option maxRecDepth 100000 in
theorem kL_torn : mkS ML_torn 3 := ⟨⟨List.mem_of_getElem? (i := 1391) (by rfl), by decide +kernel⟩, by decide +kernel⟩
theorem sL_torn_0 : dsOk (MN ML_torn).cls (MB ML_torn) 0 [(.aload_n 2, 0, 0, 0), (.iconst 0, 0, 0, 0), (.aload_n 0, 0, 0, 0), (.iload_n 1, 0, 0, 0)] 4 = true := by decide +kernel
theorem dL_torn_4 : decode (MB ML_torn) 4 = .ok (.invokevirtual 130, 3) := by decide +kernel
theorem sL_torn_7 : dsOk (MN ML_torn).cls (MB ML_torn) 7 [(.i2l, 0, 0, 0), (.lastore, 0, 0, 0)] 9 = true := by decide +kernel
theorem dL_torn_9 : decode (MB ML_torn) 9 = .ok (.goto 6, 3) := by decide +kernel
theorem sL_torn_12 : dsOk (MN ML_torn).cls (MB ML_torn) 12 [(.astore_n 3, 0, 0, 0), (.iconst 1, 0, 0, 0)] 14 = true := by decide +kernel
theorem dL_torn_14 : decode (MB ML_torn) 14 = .ok (.ireturn, 1) := by decide +kernel
theorem sL_torn_15 : dsOk (MN ML_torn).cls (MB ML_torn) 15 [(.iconst 0, 0, 0, 0)] 16 = true := by decide +kernel
theorem dL_torn_16 : decode (MB ML_torn) 16 = .ok (.ireturn, 1) := by decide +kernel
theorem lRL_7 : wM.any (isML RL 7 yX11_shelf) = true := by decide +kernel
theorem lRL_15 : wM.any (isML RL 15 yX11_count) = true := by decide +kernel
theorem lRL_20 : wM.any (isML RL 20 yX11_book) = true := by decide +kernel
theorem lRL_24 : wM.any (isML RL 24 yX11_isThere) = true := by decide +kernel
theorem lRL_28 : wM.any (isML RL 28 yX11_number) = true := by decide +kernel
theorem lRL_31 : wM.any (isML RL 31 yX11_page) = true := by decide +kernel
theorem lRL_34 : wM.any (isML RL 34 yX11_sum) = true := by decide +kernel
theorem lRL_38 : wM.any (isML RL 38 yX11_figures) = true := by decide +kernel
theorem lRL_41 : wM.any (isML RL 41 yX11_tear) = true := by decide +kernel
theorem lRL_44 : wM.any (isML RL 44 yX11_sheet) = true := by decide +kernel
theorem lRL_47 : wM.any (isML RL 47 yX11_add) = true := by decide +kernel
theorem lRL_51 : wM.any (isML RL 51 yX11_fits) = true := by decide +kernel
theorem lRL_55 : wM.any (isML RL 55 yX11_leaf) = true := by decide +kernel
theorem lRL_58 : wM.any (isML RL 58 yX11_several) = true := by decide +kernel
theorem lRL_62 : wM.any (isML RL 62 yX11_ways) = true := by decide +kernel
theorem lRL_65 : wM.any (isML RL 65 yX11_sewn) = true := by decide +kernel
theorem lRL_69 : wM.any (isML RL 69 yX11_street) = true := by decide +kernel
theorem lRL_73 : wM.any (isML RL 73 yX11_said) = true := by decide +kernel
theorem lRL_77 : wM.any (isML RL 77 yX11_tells) = true := by decide +kernel
theorem lRL_81 : wM.any (isML RL 81 yX11_far) = true := by decide +kernel
theorem lRL_84 : wM.any (isML RL 84 yX11_lacks) = true := by decide +kernel
theorem lRL_87 : wM.any (isML RL 87 yX11_skip) = true := by decide +kernel
theorem lRL_91 : wM.any (isML RL 91 yX11_whole) = true := by decide +kernel
theorem lRL_94 : wM.any (isML RL 94 yX11_bought) = true := by decide +kernel
theorem lRL_97 : wM.any (isML RL 97 yX11_index) = true := by decide +kernel
theorem lRL_100 : wM.any (isML RL 100 yX11_seed) = true := by decide +kernel
theorem lRL_104 : wM.any (isML RL 104 yX11_way) = true := by decide +kernel
theorem lRL_108 : wM.any (isML RL 108 yX11_between) = true := by decide +kernel
theorem lRL_112 : wM.any (isML RL 112 yX11_stick) = true := by decide +kernel
theorem lRL_115 : wM.any (isML RL 115 yX11_read) = true := by decide +kernel
theorem lRL_119 : wM.any (isML RL 119 yX11_shares) = true := by decide +kernel
theorem lRL_123 : wM.any (isML RL 123 yX11_child) = true := by decide +kernel
theorem lRL_126 : wM.any (isML RL 126 yX11_least) = true := by decide +kernel
theorem lRL_130 : wM.any (isML RL 130 yX11_torn) = true := by decide +kernel
def ML_law : Ms := (yL_law, cL_law, 8, (some .boolean), [])
theorem dL_law_0 : decode (MB ML_law) 0 = .ok (.new 8, 3) := by decide +kernel
theorem sL_law_3 : dsOk (MN ML_law).cls (MB ML_law) 3 [(.dup, 0, 0, 0)] 4 = true := by decide +kernel
theorem dL_law_4 : decode (MB ML_law) 4 = .ok (.invokespecial 133, 3) := by decide +kernel
theorem sL_law_7 : dsOk (MN ML_law).cls (MB ML_law) 7 [(.astore_n 1, 0, 0, 0)] 8 = true := by decide +kernel
theorem dL_law_8 : decode (MB ML_law) 8 = .ok (.new 134, 3) := by decide +kernel
theorem sL_law_11 : dsOk (MN ML_law).cls (MB ML_law) 11 [(.dup, 0, 0, 0)] 12 = true := by decide +kernel
theorem dL_law_12 : decode (MB ML_law) 12 = .ok (.invokespecial 136, 3) := by decide +kernel
theorem sL_law_15 : dsOk (MN ML_law).cls (MB ML_law) 15 [(.astore_n 2, 0, 0, 0), (.iconst 1, 0, 0, 0)] 17 = true := by decide +kernel
theorem dL_law_17 : decode (MB ML_law) 17 = .ok (.newarray .long, 2) := by decide +kernel
theorem sL_law_19 : dsOk (MN ML_law).cls (MB ML_law) 19 [(.astore_n 3, 0, 0, 0), (.iconst 0, 0, 0, 0), (.istore 4, 0, 0, 0)] 23 = true := by decide +kernel
theorem sL_law_23 : dsOk (MN ML_law).cls (MB ML_law) 23 [(.iload 4, 0, 0, 0), (.aload_n 0, 0, 0, 0)] 26 = true := by decide +kernel
theorem dL_law_26 : decode (MB ML_law) 26 = .ok (.arraylength, 1) := by decide +kernel
theorem sL_law_27 : dsOk (MN ML_law).cls (MB ML_law) 27 [(.bipush 7, 0, 0, 7), (.isub, 0, 0, 0)] 30 = true := by decide +kernel
theorem dL_law_30 : decode (MB ML_law) 30 = .ok (.if_icmp .gt 3247, 3) := by decide +kernel
theorem sL_law_33 : dsOk (MN ML_law).cls (MB ML_law) 33 [(.aload_n 0, 0, 0, 0), (.iload 4, 0, 0, 0)] 36 = true := by decide +kernel
theorem dL_law_36 : decode (MB ML_law) 36 = .ok (.iaload, 1) := by decide +kernel
theorem sL_law_37 : dsOk (MN ML_law).cls (MB ML_law) 37 [(.bipush 63, 0, 0, 63), (.iand, 0, 0, 0)] 40 = true := by decide +kernel
theorem dL_law_40 : decode (MB ML_law) 40 = .ok (.tableswitch 3231 0 40 #[180, 253, 309, 322, 378, 446, 521, 589, 657, 712, 780, 848, 916, 929, 1036, 1049, 1148, 1247, 1358, 1469, 1556, 1683, 1827, 1915, 1971, 2027, 2154, 2210, 2266, 2334, 2414, 2571, 2714, 2782, 2795, 2928, 2995, 3051, 3151, 3207, 3218], 180) := by decide +kernel
theorem sL_law_220 : dsOk (MN ML_law).cls (MB ML_law) 220 [(.aload_n 1, 0, 0, 0), (.aload_n 0, 0, 0, 0), (.iload 4, 0, 0, 0), (.iconst 1, 0, 0, 0), (.iadd, 0, 0, 0)] 226 = true := by decide +kernel
theorem dL_law_226 : decode (MB ML_law) 226 = .ok (.iaload, 1) := by decide +kernel
theorem sL_law_227 : dsOk (MN ML_law).cls (MB ML_law) 227 [(.aload_n 0, 0, 0, 0), (.iload 4, 0, 0, 0), (.iconst 2, 0, 0, 0), (.iadd, 0, 0, 0)] 232 = true := by decide +kernel
theorem dL_law_232 : decode (MB ML_law) 232 = .ok (.iaload, 1) := by decide +kernel
theorem sL_law_233 : dsOk (MN ML_law).cls (MB ML_law) 233 [(.aload_n 0, 0, 0, 0), (.iload 4, 0, 0, 0), (.iconst 3, 0, 0, 0), (.iadd, 0, 0, 0)] 238 = true := by decide +kernel
theorem dL_law_238 : decode (MB ML_law) 238 = .ok (.iaload, 1) := by decide +kernel
theorem sL_law_239 : dsOk (MN ML_law).cls (MB ML_law) 239 [(.aload_n 0, 0, 0, 0), (.iload 4, 0, 0, 0), (.iconst 4, 0, 0, 0), (.iadd, 0, 0, 0)] 244 = true := by decide +kernel
theorem dL_law_244 : decode (MB ML_law) 244 = .ok (.iaload, 1) := by decide +kernel
theorem sL_law_245 : dsOk (MN ML_law).cls (MB ML_law) 245 [(.aload_n 0, 0, 0, 0), (.iload 4, 0, 0, 0), (.iconst 5, 0, 0, 0), (.iadd, 0, 0, 0)] 250 = true := by decide +kernel
theorem dL_law_250 : decode (MB ML_law) 250 = .ok (.iaload, 1) := by decide +kernel
theorem dL_law_251 : decode (MB ML_law) 251 = .ok (.invokevirtual 137, 3) := by decide +kernel
theorem sL_law_254 : dsOk (MN ML_law).cls (MB ML_law) 254 [(.aload_n 2, 0, 0, 0), (.aload_n 0, 0, 0, 0), (.iload 4, 0, 0, 0), (.iconst 1, 0, 0, 0), (.iadd, 0, 0, 0)] 260 = true := by decide +kernel
theorem dL_law_260 : decode (MB ML_law) 260 = .ok (.iaload, 1) := by decide +kernel
theorem sL_law_261 : dsOk (MN ML_law).cls (MB ML_law) 261 [(.aload_n 0, 0, 0, 0), (.iload 4, 0, 0, 0), (.iconst 2, 0, 0, 0), (.iadd, 0, 0, 0)] 266 = true := by decide +kernel
theorem dL_law_266 : decode (MB ML_law) 266 = .ok (.iaload, 1) := by decide +kernel
theorem sL_law_267 : dsOk (MN ML_law).cls (MB ML_law) 267 [(.aload_n 0, 0, 0, 0), (.iload 4, 0, 0, 0), (.iconst 3, 0, 0, 0), (.iadd, 0, 0, 0)] 272 = true := by decide +kernel
theorem dL_law_272 : decode (MB ML_law) 272 = .ok (.iaload, 1) := by decide +kernel
theorem sL_law_273 : dsOk (MN ML_law).cls (MB ML_law) 273 [(.aload_n 0, 0, 0, 0), (.iload 4, 0, 0, 0), (.iconst 4, 0, 0, 0), (.iadd, 0, 0, 0)] 278 = true := by decide +kernel
theorem dL_law_278 : decode (MB ML_law) 278 = .ok (.iaload, 1) := by decide +kernel
theorem sL_law_279 : dsOk (MN ML_law).cls (MB ML_law) 279 [(.aload_n 0, 0, 0, 0), (.iload 4, 0, 0, 0), (.iconst 5, 0, 0, 0), (.iadd, 0, 0, 0)] 284 = true := by decide +kernel
theorem dL_law_284 : decode (MB ML_law) 284 = .ok (.iaload, 1) := by decide +kernel
theorem dL_law_285 : decode (MB ML_law) 285 = .ok (.invokevirtual 141, 3) := by decide +kernel
theorem dL_law_288 : decode (MB ML_law) 288 = .ok (.if_icmp .eq 2983, 3) := by decide +kernel
theorem sL_law_291 : dsOk (MN ML_law).cls (MB ML_law) 291 [(.iconst 0, 0, 0, 0)] 292 = true := by decide +kernel
theorem dL_law_292 : decode (MB ML_law) 292 = .ok (.ireturn, 1) := by decide +kernel
theorem sL_law_293 : dsOk (MN ML_law).cls (MB ML_law) 293 [(.aload_n 1, 0, 0, 0), (.aload_n 0, 0, 0, 0), (.iload 4, 0, 0, 0), (.iconst 1, 0, 0, 0), (.iadd, 0, 0, 0)] 299 = true := by decide +kernel
theorem dL_law_299 : decode (MB ML_law) 299 = .ok (.iaload, 1) := by decide +kernel
theorem sL_law_300 : dsOk (MN ML_law).cls (MB ML_law) 300 [(.aload_n 3, 0, 0, 0)] 301 = true := by decide +kernel
theorem dL_law_301 : decode (MB ML_law) 301 = .ok (.invokestatic 142, 3) := by decide +kernel
theorem sL_law_304 : dsOk (MN ML_law).cls (MB ML_law) 304 [(.istore 5, 0, 0, 0), (.aload_n 2, 0, 0, 0), (.aload_n 0, 0, 0, 0), (.iload 4, 0, 0, 0), (.iconst 1, 0, 0, 0), (.iadd, 0, 0, 0)] 312 = true := by decide +kernel
theorem dL_law_312 : decode (MB ML_law) 312 = .ok (.iaload, 1) := by decide +kernel
theorem dL_law_313 : decode (MB ML_law) 313 = .ok (.invokevirtual 147, 3) := by decide +kernel
theorem sL_law_316 : dsOk (MN ML_law).cls (MB ML_law) 316 [(.istore 6, 0, 0, 0), (.aload_n 2, 0, 0, 0)] 319 = true := by decide +kernel
theorem dL_law_319 : decode (MB ML_law) 319 = .ok (.invokevirtual 148, 3) := by decide +kernel
theorem sL_law_322 : dsOk (MN ML_law).cls (MB ML_law) 322 [(.iload 5, 0, 0, 0)] 324 = true := by decide +kernel
theorem dL_law_324 : decode (MB ML_law) 324 = .ok (.if_icmp .eq 5, 3) := by decide +kernel
theorem sL_law_327 : dsOk (MN ML_law).cls (MB ML_law) 327 [(.iconst 0, 0, 0, 0)] 328 = true := by decide +kernel
theorem dL_law_328 : decode (MB ML_law) 328 = .ok (.ireturn, 1) := by decide +kernel
theorem sL_law_329 : dsOk (MN ML_law).cls (MB ML_law) 329 [(.iload 5, 0, 0, 0)] 331 = true := by decide +kernel
theorem dL_law_331 : decode (MB ML_law) 331 = .ok (.ifCond .ne 15, 3) := by decide +kernel
theorem sL_law_334 : dsOk (MN ML_law).cls (MB ML_law) 334 [(.aload_n 3, 0, 0, 0), (.iconst 0, 0, 0, 0), (.laload, 0, 0, 0), (.iload 6, 0, 0, 0), (.i2l, 0, 0, 0), (.lcmp, 0, 0, 0)] 341 = true := by decide +kernel
theorem dL_law_341 : decode (MB ML_law) 341 = .ok (.ifCond .eq 5, 3) := by decide +kernel
theorem sL_law_344 : dsOk (MN ML_law).cls (MB ML_law) 344 [(.iconst 0, 0, 0, 0)] 345 = true := by decide +kernel
theorem dL_law_345 : decode (MB ML_law) 345 = .ok (.ireturn, 1) := by decide +kernel
theorem dL_law_346 : decode (MB ML_law) 346 = .ok (.goto 2925, 3) := by decide +kernel
theorem sL_law_349 : dsOk (MN ML_law).cls (MB ML_law) 349 [(.aload_n 1, 0, 0, 0)] 350 = true := by decide +kernel
theorem dL_law_350 : decode (MB ML_law) 350 = .ok (.invokevirtual 152, 3) := by decide +kernel
theorem sL_law_353 : dsOk (MN ML_law).cls (MB ML_law) 353 [(.aload_n 2, 0, 0, 0)] 354 = true := by decide +kernel
theorem dL_law_354 : decode (MB ML_law) 354 = .ok (.invokevirtual 155, 3) := by decide +kernel
theorem dL_law_357 : decode (MB ML_law) 357 = .ok (.if_icmp .eq 2914, 3) := by decide +kernel
theorem sL_law_360 : dsOk (MN ML_law).cls (MB ML_law) 360 [(.iconst 0, 0, 0, 0)] 361 = true := by decide +kernel
theorem dL_law_361 : decode (MB ML_law) 361 = .ok (.ireturn, 1) := by decide +kernel
theorem sL_law_362 : dsOk (MN ML_law).cls (MB ML_law) 362 [(.aload_n 1, 0, 0, 0), (.aload_n 0, 0, 0, 0), (.iload 4, 0, 0, 0), (.iconst 1, 0, 0, 0), (.iadd, 0, 0, 0)] 368 = true := by decide +kernel
theorem dL_law_368 : decode (MB ML_law) 368 = .ok (.iaload, 1) := by decide +kernel
theorem sL_law_369 : dsOk (MN ML_law).cls (MB ML_law) 369 [(.aload_n 3, 0, 0, 0)] 370 = true := by decide +kernel
theorem dL_law_370 : decode (MB ML_law) 370 = .ok (.invokestatic 156, 3) := by decide +kernel
theorem sL_law_373 : dsOk (MN ML_law).cls (MB ML_law) 373 [(.istore 5, 0, 0, 0), (.aload_n 2, 0, 0, 0), (.aload_n 0, 0, 0, 0), (.iload 4, 0, 0, 0), (.iconst 1, 0, 0, 0), (.iadd, 0, 0, 0)] 381 = true := by decide +kernel
theorem dL_law_381 : decode (MB ML_law) 381 = .ok (.iaload, 1) := by decide +kernel
theorem dL_law_382 : decode (MB ML_law) 382 = .ok (.invokevirtual 158, 3) := by decide +kernel
theorem sL_law_385 : dsOk (MN ML_law).cls (MB ML_law) 385 [(.istore 6, 0, 0, 0), (.aload_n 2, 0, 0, 0)] 388 = true := by decide +kernel
theorem dL_law_388 : decode (MB ML_law) 388 = .ok (.invokevirtual 148, 3) := by decide +kernel
theorem sL_law_391 : dsOk (MN ML_law).cls (MB ML_law) 391 [(.iload 5, 0, 0, 0)] 393 = true := by decide +kernel
theorem dL_law_393 : decode (MB ML_law) 393 = .ok (.if_icmp .eq 5, 3) := by decide +kernel
theorem sL_law_396 : dsOk (MN ML_law).cls (MB ML_law) 396 [(.iconst 0, 0, 0, 0)] 397 = true := by decide +kernel
theorem dL_law_397 : decode (MB ML_law) 397 = .ok (.ireturn, 1) := by decide +kernel
theorem sL_law_398 : dsOk (MN ML_law).cls (MB ML_law) 398 [(.iload 5, 0, 0, 0)] 400 = true := by decide +kernel
theorem dL_law_400 : decode (MB ML_law) 400 = .ok (.ifCond .ne 15, 3) := by decide +kernel
theorem sL_law_403 : dsOk (MN ML_law).cls (MB ML_law) 403 [(.aload_n 3, 0, 0, 0), (.iconst 0, 0, 0, 0), (.laload, 0, 0, 0), (.iload 6, 0, 0, 0), (.i2l, 0, 0, 0), (.lcmp, 0, 0, 0)] 410 = true := by decide +kernel
theorem dL_law_410 : decode (MB ML_law) 410 = .ok (.ifCond .eq 5, 3) := by decide +kernel
theorem sL_law_413 : dsOk (MN ML_law).cls (MB ML_law) 413 [(.iconst 0, 0, 0, 0)] 414 = true := by decide +kernel
theorem dL_law_414 : decode (MB ML_law) 414 = .ok (.ireturn, 1) := by decide +kernel
theorem dL_law_415 : decode (MB ML_law) 415 = .ok (.goto 2856, 3) := by decide +kernel
theorem sL_law_418 : dsOk (MN ML_law).cls (MB ML_law) 418 [(.aload_n 1, 0, 0, 0), (.aload_n 0, 0, 0, 0), (.iload 4, 0, 0, 0), (.iconst 1, 0, 0, 0), (.iadd, 0, 0, 0)] 424 = true := by decide +kernel
theorem dL_law_424 : decode (MB ML_law) 424 = .ok (.iaload, 1) := by decide +kernel
theorem sL_law_425 : dsOk (MN ML_law).cls (MB ML_law) 425 [(.aload_n 0, 0, 0, 0), (.iload 4, 0, 0, 0), (.iconst 2, 0, 0, 0), (.iadd, 0, 0, 0)] 430 = true := by decide +kernel
theorem dL_law_430 : decode (MB ML_law) 430 = .ok (.iaload, 1) := by decide +kernel
theorem sL_law_431 : dsOk (MN ML_law).cls (MB ML_law) 431 [(.aload_n 3, 0, 0, 0)] 432 = true := by decide +kernel
theorem dL_law_432 : decode (MB ML_law) 432 = .ok (.invokestatic 159, 3) := by decide +kernel
theorem sL_law_435 : dsOk (MN ML_law).cls (MB ML_law) 435 [(.istore 5, 0, 0, 0), (.aload_n 2, 0, 0, 0), (.aload_n 0, 0, 0, 0), (.iload 4, 0, 0, 0), (.iconst 1, 0, 0, 0), (.iadd, 0, 0, 0)] 443 = true := by decide +kernel
theorem dL_law_443 : decode (MB ML_law) 443 = .ok (.iaload, 1) := by decide +kernel
theorem sL_law_444 : dsOk (MN ML_law).cls (MB ML_law) 444 [(.aload_n 0, 0, 0, 0), (.iload 4, 0, 0, 0), (.iconst 2, 0, 0, 0), (.iadd, 0, 0, 0)] 449 = true := by decide +kernel
theorem dL_law_449 : decode (MB ML_law) 449 = .ok (.iaload, 1) := by decide +kernel
theorem dL_law_450 : decode (MB ML_law) 450 = .ok (.invokevirtual 162, 3) := by decide +kernel
theorem sL_law_453 : dsOk (MN ML_law).cls (MB ML_law) 453 [(.istore 6, 0, 0, 0), (.aload_n 2, 0, 0, 0)] 456 = true := by decide +kernel
theorem dL_law_456 : decode (MB ML_law) 456 = .ok (.invokevirtual 148, 3) := by decide +kernel
theorem sL_law_459 : dsOk (MN ML_law).cls (MB ML_law) 459 [(.iload 5, 0, 0, 0)] 461 = true := by decide +kernel
theorem dL_law_461 : decode (MB ML_law) 461 = .ok (.if_icmp .eq 5, 3) := by decide +kernel
theorem sL_law_464 : dsOk (MN ML_law).cls (MB ML_law) 464 [(.iconst 0, 0, 0, 0)] 465 = true := by decide +kernel
theorem dL_law_465 : decode (MB ML_law) 465 = .ok (.ireturn, 1) := by decide +kernel
theorem sL_law_466 : dsOk (MN ML_law).cls (MB ML_law) 466 [(.iload 5, 0, 0, 0)] 468 = true := by decide +kernel
theorem dL_law_468 : decode (MB ML_law) 468 = .ok (.ifCond .ne 15, 3) := by decide +kernel
theorem sL_law_471 : dsOk (MN ML_law).cls (MB ML_law) 471 [(.aload_n 3, 0, 0, 0), (.iconst 0, 0, 0, 0), (.laload, 0, 0, 0), (.iload 6, 0, 0, 0), (.i2l, 0, 0, 0), (.lcmp, 0, 0, 0)] 478 = true := by decide +kernel
theorem dL_law_478 : decode (MB ML_law) 478 = .ok (.ifCond .eq 5, 3) := by decide +kernel
theorem sL_law_481 : dsOk (MN ML_law).cls (MB ML_law) 481 [(.iconst 0, 0, 0, 0)] 482 = true := by decide +kernel
theorem dL_law_482 : decode (MB ML_law) 482 = .ok (.ireturn, 1) := by decide +kernel
theorem dL_law_483 : decode (MB ML_law) 483 = .ok (.goto 2788, 3) := by decide +kernel
theorem sL_law_486 : dsOk (MN ML_law).cls (MB ML_law) 486 [(.aload_n 1, 0, 0, 0), (.aload_n 0, 0, 0, 0), (.iload 4, 0, 0, 0), (.iconst 1, 0, 0, 0), (.iadd, 0, 0, 0)] 492 = true := by decide +kernel
theorem dL_law_492 : decode (MB ML_law) 492 = .ok (.iaload, 1) := by decide +kernel
theorem sL_law_493 : dsOk (MN ML_law).cls (MB ML_law) 493 [(.aload_n 0, 0, 0, 0), (.iload 4, 0, 0, 0), (.iconst 2, 0, 0, 0), (.iadd, 0, 0, 0)] 498 = true := by decide +kernel
theorem dL_law_498 : decode (MB ML_law) 498 = .ok (.iaload, 1) := by decide +kernel
theorem sL_law_499 : dsOk (MN ML_law).cls (MB ML_law) 499 [(.aload_n 3, 0, 0, 0)] 500 = true := by decide +kernel
theorem dL_law_500 : decode (MB ML_law) 500 = .ok (.invokestatic 163, 3) := by decide +kernel
theorem sL_law_503 : dsOk (MN ML_law).cls (MB ML_law) 503 [(.istore 5, 0, 0, 0), (.aload_n 2, 0, 0, 0), (.aload_n 0, 0, 0, 0), (.iload 4, 0, 0, 0), (.iconst 1, 0, 0, 0), (.iadd, 0, 0, 0)] 511 = true := by decide +kernel
theorem dL_law_511 : decode (MB ML_law) 511 = .ok (.iaload, 1) := by decide +kernel
theorem sL_law_512 : dsOk (MN ML_law).cls (MB ML_law) 512 [(.aload_n 0, 0, 0, 0), (.iload 4, 0, 0, 0), (.iconst 2, 0, 0, 0), (.iadd, 0, 0, 0)] 517 = true := by decide +kernel
theorem dL_law_517 : decode (MB ML_law) 517 = .ok (.iaload, 1) := by decide +kernel
theorem dL_law_518 : decode (MB ML_law) 518 = .ok (.invokevirtual 165, 3) := by decide +kernel
theorem sL_law_521 : dsOk (MN ML_law).cls (MB ML_law) 521 [(.istore 6, 0, 0, 0), (.aload_n 2, 0, 0, 0)] 524 = true := by decide +kernel
theorem dL_law_524 : decode (MB ML_law) 524 = .ok (.invokevirtual 148, 3) := by decide +kernel
theorem sL_law_527 : dsOk (MN ML_law).cls (MB ML_law) 527 [(.iload 5, 0, 0, 0)] 529 = true := by decide +kernel
theorem dL_law_529 : decode (MB ML_law) 529 = .ok (.if_icmp .eq 5, 3) := by decide +kernel
theorem sL_law_532 : dsOk (MN ML_law).cls (MB ML_law) 532 [(.iconst 0, 0, 0, 0)] 533 = true := by decide +kernel
theorem dL_law_533 : decode (MB ML_law) 533 = .ok (.ireturn, 1) := by decide +kernel
theorem sL_law_534 : dsOk (MN ML_law).cls (MB ML_law) 534 [(.iload 5, 0, 0, 0)] 536 = true := by decide +kernel
theorem dL_law_536 : decode (MB ML_law) 536 = .ok (.ifCond .ne 22, 3) := by decide +kernel
theorem sL_law_539 : dsOk (MN ML_law).cls (MB ML_law) 539 [(.aload_n 3, 0, 0, 0), (.iconst 0, 0, 0, 0), (.laload, 0, 0, 0), (.iload 6, 0, 0, 0)] 544 = true := by decide +kernel
theorem dL_law_544 : decode (MB ML_law) 544 = .ok (.ifCond .eq 7, 3) := by decide +kernel
theorem sL_law_547 : dsOk (MN ML_law).cls (MB ML_law) 547 [(.lconst 1, 0, 0, 1)] 548 = true := by decide +kernel
theorem dL_law_548 : decode (MB ML_law) 548 = .ok (.goto 4, 3) := by decide +kernel
theorem sL_law_551 : dsOk (MN ML_law).cls (MB ML_law) 551 [(.lconst 0, 0, 0, 0)] 552 = true := by decide +kernel
theorem sL_law_552 : dsOk (MN ML_law).cls (MB ML_law) 552 [(.lcmp, 0, 0, 0)] 553 = true := by decide +kernel
theorem dL_law_553 : decode (MB ML_law) 553 = .ok (.ifCond .eq 5, 3) := by decide +kernel
theorem sL_law_556 : dsOk (MN ML_law).cls (MB ML_law) 556 [(.iconst 0, 0, 0, 0)] 557 = true := by decide +kernel
theorem dL_law_557 : decode (MB ML_law) 557 = .ok (.ireturn, 1) := by decide +kernel
theorem dL_law_558 : decode (MB ML_law) 558 = .ok (.goto 2713, 3) := by decide +kernel
theorem sL_law_561 : dsOk (MN ML_law).cls (MB ML_law) 561 [(.aload_n 1, 0, 0, 0), (.aload_n 0, 0, 0, 0), (.iload 4, 0, 0, 0), (.iconst 1, 0, 0, 0), (.iadd, 0, 0, 0)] 567 = true := by decide +kernel
theorem dL_law_567 : decode (MB ML_law) 567 = .ok (.iaload, 1) := by decide +kernel
theorem sL_law_568 : dsOk (MN ML_law).cls (MB ML_law) 568 [(.aload_n 0, 0, 0, 0), (.iload 4, 0, 0, 0), (.iconst 2, 0, 0, 0), (.iadd, 0, 0, 0)] 573 = true := by decide +kernel
theorem dL_law_573 : decode (MB ML_law) 573 = .ok (.iaload, 1) := by decide +kernel
theorem sL_law_574 : dsOk (MN ML_law).cls (MB ML_law) 574 [(.aload_n 3, 0, 0, 0)] 575 = true := by decide +kernel
theorem dL_law_575 : decode (MB ML_law) 575 = .ok (.invokestatic 166, 3) := by decide +kernel
theorem sL_law_578 : dsOk (MN ML_law).cls (MB ML_law) 578 [(.istore 5, 0, 0, 0), (.aload_n 2, 0, 0, 0), (.aload_n 0, 0, 0, 0), (.iload 4, 0, 0, 0), (.iconst 1, 0, 0, 0), (.iadd, 0, 0, 0)] 586 = true := by decide +kernel
theorem dL_law_586 : decode (MB ML_law) 586 = .ok (.iaload, 1) := by decide +kernel
theorem sL_law_587 : dsOk (MN ML_law).cls (MB ML_law) 587 [(.aload_n 0, 0, 0, 0), (.iload 4, 0, 0, 0), (.iconst 2, 0, 0, 0), (.iadd, 0, 0, 0)] 592 = true := by decide +kernel
theorem dL_law_592 : decode (MB ML_law) 592 = .ok (.iaload, 1) := by decide +kernel
theorem dL_law_593 : decode (MB ML_law) 593 = .ok (.invokevirtual 168, 3) := by decide +kernel
theorem sL_law_596 : dsOk (MN ML_law).cls (MB ML_law) 596 [(.istore 6, 0, 0, 0), (.aload_n 2, 0, 0, 0)] 599 = true := by decide +kernel
theorem dL_law_599 : decode (MB ML_law) 599 = .ok (.invokevirtual 148, 3) := by decide +kernel
theorem sL_law_602 : dsOk (MN ML_law).cls (MB ML_law) 602 [(.iload 5, 0, 0, 0)] 604 = true := by decide +kernel
theorem dL_law_604 : decode (MB ML_law) 604 = .ok (.if_icmp .eq 5, 3) := by decide +kernel
theorem sL_law_607 : dsOk (MN ML_law).cls (MB ML_law) 607 [(.iconst 0, 0, 0, 0)] 608 = true := by decide +kernel
theorem dL_law_608 : decode (MB ML_law) 608 = .ok (.ireturn, 1) := by decide +kernel
theorem sL_law_609 : dsOk (MN ML_law).cls (MB ML_law) 609 [(.iload 5, 0, 0, 0)] 611 = true := by decide +kernel
theorem dL_law_611 : decode (MB ML_law) 611 = .ok (.ifCond .ne 15, 3) := by decide +kernel
theorem sL_law_614 : dsOk (MN ML_law).cls (MB ML_law) 614 [(.aload_n 3, 0, 0, 0), (.iconst 0, 0, 0, 0), (.laload, 0, 0, 0), (.iload 6, 0, 0, 0), (.i2l, 0, 0, 0), (.lcmp, 0, 0, 0)] 621 = true := by decide +kernel
theorem dL_law_621 : decode (MB ML_law) 621 = .ok (.ifCond .eq 5, 3) := by decide +kernel
theorem sL_law_624 : dsOk (MN ML_law).cls (MB ML_law) 624 [(.iconst 0, 0, 0, 0)] 625 = true := by decide +kernel
theorem dL_law_625 : decode (MB ML_law) 625 = .ok (.ireturn, 1) := by decide +kernel
theorem dL_law_626 : decode (MB ML_law) 626 = .ok (.goto 2645, 3) := by decide +kernel
theorem sL_law_629 : dsOk (MN ML_law).cls (MB ML_law) 629 [(.aload_n 1, 0, 0, 0), (.aload_n 0, 0, 0, 0), (.iload 4, 0, 0, 0), (.iconst 1, 0, 0, 0), (.iadd, 0, 0, 0)] 635 = true := by decide +kernel
theorem dL_law_635 : decode (MB ML_law) 635 = .ok (.iaload, 1) := by decide +kernel
theorem sL_law_636 : dsOk (MN ML_law).cls (MB ML_law) 636 [(.aload_n 0, 0, 0, 0), (.iload 4, 0, 0, 0), (.iconst 2, 0, 0, 0), (.iadd, 0, 0, 0)] 641 = true := by decide +kernel
theorem dL_law_641 : decode (MB ML_law) 641 = .ok (.iaload, 1) := by decide +kernel
theorem sL_law_642 : dsOk (MN ML_law).cls (MB ML_law) 642 [(.aload_n 3, 0, 0, 0)] 643 = true := by decide +kernel
theorem dL_law_643 : decode (MB ML_law) 643 = .ok (.invokestatic 169, 3) := by decide +kernel
theorem sL_law_646 : dsOk (MN ML_law).cls (MB ML_law) 646 [(.istore 5, 0, 0, 0), (.aload_n 2, 0, 0, 0), (.aload_n 0, 0, 0, 0), (.iload 4, 0, 0, 0), (.iconst 1, 0, 0, 0), (.iadd, 0, 0, 0)] 654 = true := by decide +kernel
theorem dL_law_654 : decode (MB ML_law) 654 = .ok (.iaload, 1) := by decide +kernel
theorem sL_law_655 : dsOk (MN ML_law).cls (MB ML_law) 655 [(.aload_n 0, 0, 0, 0), (.iload 4, 0, 0, 0), (.iconst 2, 0, 0, 0), (.iadd, 0, 0, 0)] 660 = true := by decide +kernel
theorem dL_law_660 : decode (MB ML_law) 660 = .ok (.iaload, 1) := by decide +kernel
theorem dL_law_661 : decode (MB ML_law) 661 = .ok (.invokevirtual 171, 3) := by decide +kernel
theorem sL_law_664 : dsOk (MN ML_law).cls (MB ML_law) 664 [(.istore 6, 0, 0, 0), (.aload_n 2, 0, 0, 0)] 667 = true := by decide +kernel
theorem dL_law_667 : decode (MB ML_law) 667 = .ok (.invokevirtual 148, 3) := by decide +kernel
theorem sL_law_670 : dsOk (MN ML_law).cls (MB ML_law) 670 [(.iload 5, 0, 0, 0)] 672 = true := by decide +kernel
theorem dL_law_672 : decode (MB ML_law) 672 = .ok (.if_icmp .eq 5, 3) := by decide +kernel
theorem sL_law_675 : dsOk (MN ML_law).cls (MB ML_law) 675 [(.iconst 0, 0, 0, 0)] 676 = true := by decide +kernel
theorem dL_law_676 : decode (MB ML_law) 676 = .ok (.ireturn, 1) := by decide +kernel
theorem sL_law_677 : dsOk (MN ML_law).cls (MB ML_law) 677 [(.iload 5, 0, 0, 0)] 679 = true := by decide +kernel
theorem dL_law_679 : decode (MB ML_law) 679 = .ok (.ifCond .ne 15, 3) := by decide +kernel
theorem sL_law_682 : dsOk (MN ML_law).cls (MB ML_law) 682 [(.aload_n 3, 0, 0, 0), (.iconst 0, 0, 0, 0), (.laload, 0, 0, 0), (.iload 6, 0, 0, 0), (.i2l, 0, 0, 0), (.lcmp, 0, 0, 0)] 689 = true := by decide +kernel
theorem dL_law_689 : decode (MB ML_law) 689 = .ok (.ifCond .eq 5, 3) := by decide +kernel
theorem sL_law_692 : dsOk (MN ML_law).cls (MB ML_law) 692 [(.iconst 0, 0, 0, 0)] 693 = true := by decide +kernel
theorem dL_law_693 : decode (MB ML_law) 693 = .ok (.ireturn, 1) := by decide +kernel
theorem dL_law_694 : decode (MB ML_law) 694 = .ok (.goto 2577, 3) := by decide +kernel
theorem sL_law_697 : dsOk (MN ML_law).cls (MB ML_law) 697 [(.aload_n 1, 0, 0, 0), (.aload_n 0, 0, 0, 0), (.iload 4, 0, 0, 0), (.iconst 1, 0, 0, 0), (.iadd, 0, 0, 0)] 703 = true := by decide +kernel
theorem dL_law_703 : decode (MB ML_law) 703 = .ok (.iaload, 1) := by decide +kernel
theorem sL_law_704 : dsOk (MN ML_law).cls (MB ML_law) 704 [(.aload_n 3, 0, 0, 0)] 705 = true := by decide +kernel
theorem dL_law_705 : decode (MB ML_law) 705 = .ok (.invokestatic 172, 3) := by decide +kernel
theorem sL_law_708 : dsOk (MN ML_law).cls (MB ML_law) 708 [(.istore 5, 0, 0, 0), (.aload_n 2, 0, 0, 0), (.aload_n 0, 0, 0, 0), (.iload 4, 0, 0, 0), (.iconst 1, 0, 0, 0), (.iadd, 0, 0, 0)] 716 = true := by decide +kernel
theorem dL_law_716 : decode (MB ML_law) 716 = .ok (.iaload, 1) := by decide +kernel
theorem dL_law_717 : decode (MB ML_law) 717 = .ok (.invokevirtual 174, 3) := by decide +kernel
theorem sL_law_720 : dsOk (MN ML_law).cls (MB ML_law) 720 [(.lstore 6, 0, 0, 0), (.aload_n 2, 0, 0, 0)] 723 = true := by decide +kernel
theorem dL_law_723 : decode (MB ML_law) 723 = .ok (.invokevirtual 148, 3) := by decide +kernel
theorem sL_law_726 : dsOk (MN ML_law).cls (MB ML_law) 726 [(.iload 5, 0, 0, 0)] 728 = true := by decide +kernel
theorem dL_law_728 : decode (MB ML_law) 728 = .ok (.if_icmp .eq 5, 3) := by decide +kernel
theorem sL_law_731 : dsOk (MN ML_law).cls (MB ML_law) 731 [(.iconst 0, 0, 0, 0)] 732 = true := by decide +kernel
theorem dL_law_732 : decode (MB ML_law) 732 = .ok (.ireturn, 1) := by decide +kernel
theorem sL_law_733 : dsOk (MN ML_law).cls (MB ML_law) 733 [(.iload 5, 0, 0, 0)] 735 = true := by decide +kernel
theorem dL_law_735 : decode (MB ML_law) 735 = .ok (.ifCond .ne 14, 3) := by decide +kernel
theorem sL_law_738 : dsOk (MN ML_law).cls (MB ML_law) 738 [(.aload_n 3, 0, 0, 0), (.iconst 0, 0, 0, 0), (.laload, 0, 0, 0), (.lload 6, 0, 0, 0), (.lcmp, 0, 0, 0)] 744 = true := by decide +kernel
theorem dL_law_744 : decode (MB ML_law) 744 = .ok (.ifCond .eq 5, 3) := by decide +kernel
theorem sL_law_747 : dsOk (MN ML_law).cls (MB ML_law) 747 [(.iconst 0, 0, 0, 0)] 748 = true := by decide +kernel
theorem dL_law_748 : decode (MB ML_law) 748 = .ok (.ireturn, 1) := by decide +kernel
theorem dL_law_749 : decode (MB ML_law) 749 = .ok (.goto 2522, 3) := by decide +kernel
theorem sL_law_752 : dsOk (MN ML_law).cls (MB ML_law) 752 [(.aload_n 1, 0, 0, 0), (.aload_n 0, 0, 0, 0), (.iload 4, 0, 0, 0), (.iconst 1, 0, 0, 0), (.iadd, 0, 0, 0)] 758 = true := by decide +kernel
theorem dL_law_758 : decode (MB ML_law) 758 = .ok (.iaload, 1) := by decide +kernel
theorem sL_law_759 : dsOk (MN ML_law).cls (MB ML_law) 759 [(.aload_n 0, 0, 0, 0), (.iload 4, 0, 0, 0), (.iconst 2, 0, 0, 0), (.iadd, 0, 0, 0)] 764 = true := by decide +kernel
theorem dL_law_764 : decode (MB ML_law) 764 = .ok (.iaload, 1) := by decide +kernel
theorem sL_law_765 : dsOk (MN ML_law).cls (MB ML_law) 765 [(.aload_n 3, 0, 0, 0)] 766 = true := by decide +kernel
theorem dL_law_766 : decode (MB ML_law) 766 = .ok (.invokestatic 175, 3) := by decide +kernel
theorem sL_law_769 : dsOk (MN ML_law).cls (MB ML_law) 769 [(.istore 5, 0, 0, 0), (.aload_n 2, 0, 0, 0), (.aload_n 0, 0, 0, 0), (.iload 4, 0, 0, 0), (.iconst 1, 0, 0, 0), (.iadd, 0, 0, 0)] 777 = true := by decide +kernel
theorem dL_law_777 : decode (MB ML_law) 777 = .ok (.iaload, 1) := by decide +kernel
theorem sL_law_778 : dsOk (MN ML_law).cls (MB ML_law) 778 [(.aload_n 0, 0, 0, 0), (.iload 4, 0, 0, 0), (.iconst 2, 0, 0, 0), (.iadd, 0, 0, 0)] 783 = true := by decide +kernel
theorem dL_law_783 : decode (MB ML_law) 783 = .ok (.iaload, 1) := by decide +kernel
theorem dL_law_784 : decode (MB ML_law) 784 = .ok (.invokevirtual 177, 3) := by decide +kernel
theorem sL_law_787 : dsOk (MN ML_law).cls (MB ML_law) 787 [(.istore 6, 0, 0, 0), (.aload_n 2, 0, 0, 0)] 790 = true := by decide +kernel
theorem dL_law_790 : decode (MB ML_law) 790 = .ok (.invokevirtual 148, 3) := by decide +kernel
theorem sL_law_793 : dsOk (MN ML_law).cls (MB ML_law) 793 [(.iload 5, 0, 0, 0)] 795 = true := by decide +kernel
theorem dL_law_795 : decode (MB ML_law) 795 = .ok (.if_icmp .eq 5, 3) := by decide +kernel
theorem sL_law_798 : dsOk (MN ML_law).cls (MB ML_law) 798 [(.iconst 0, 0, 0, 0)] 799 = true := by decide +kernel
theorem dL_law_799 : decode (MB ML_law) 799 = .ok (.ireturn, 1) := by decide +kernel
theorem sL_law_800 : dsOk (MN ML_law).cls (MB ML_law) 800 [(.iload 5, 0, 0, 0)] 802 = true := by decide +kernel
theorem dL_law_802 : decode (MB ML_law) 802 = .ok (.ifCond .ne 15, 3) := by decide +kernel
theorem sL_law_805 : dsOk (MN ML_law).cls (MB ML_law) 805 [(.aload_n 3, 0, 0, 0), (.iconst 0, 0, 0, 0), (.laload, 0, 0, 0), (.iload 6, 0, 0, 0), (.i2l, 0, 0, 0), (.lcmp, 0, 0, 0)] 812 = true := by decide +kernel
theorem dL_law_812 : decode (MB ML_law) 812 = .ok (.ifCond .eq 5, 3) := by decide +kernel
theorem sL_law_815 : dsOk (MN ML_law).cls (MB ML_law) 815 [(.iconst 0, 0, 0, 0)] 816 = true := by decide +kernel
theorem dL_law_816 : decode (MB ML_law) 816 = .ok (.ireturn, 1) := by decide +kernel
theorem dL_law_817 : decode (MB ML_law) 817 = .ok (.goto 2454, 3) := by decide +kernel
theorem sL_law_820 : dsOk (MN ML_law).cls (MB ML_law) 820 [(.aload_n 1, 0, 0, 0), (.aload_n 0, 0, 0, 0), (.iload 4, 0, 0, 0), (.iconst 1, 0, 0, 0), (.iadd, 0, 0, 0)] 826 = true := by decide +kernel
theorem dL_law_826 : decode (MB ML_law) 826 = .ok (.iaload, 1) := by decide +kernel
theorem sL_law_827 : dsOk (MN ML_law).cls (MB ML_law) 827 [(.aload_n 0, 0, 0, 0), (.iload 4, 0, 0, 0), (.iconst 2, 0, 0, 0), (.iadd, 0, 0, 0)] 832 = true := by decide +kernel
theorem dL_law_832 : decode (MB ML_law) 832 = .ok (.iaload, 1) := by decide +kernel
theorem sL_law_833 : dsOk (MN ML_law).cls (MB ML_law) 833 [(.aload_n 3, 0, 0, 0)] 834 = true := by decide +kernel
theorem dL_law_834 : decode (MB ML_law) 834 = .ok (.invokestatic 178, 3) := by decide +kernel
theorem sL_law_837 : dsOk (MN ML_law).cls (MB ML_law) 837 [(.istore 5, 0, 0, 0), (.aload_n 2, 0, 0, 0), (.aload_n 0, 0, 0, 0), (.iload 4, 0, 0, 0), (.iconst 1, 0, 0, 0), (.iadd, 0, 0, 0)] 845 = true := by decide +kernel
theorem dL_law_845 : decode (MB ML_law) 845 = .ok (.iaload, 1) := by decide +kernel
theorem sL_law_846 : dsOk (MN ML_law).cls (MB ML_law) 846 [(.aload_n 0, 0, 0, 0), (.iload 4, 0, 0, 0), (.iconst 2, 0, 0, 0), (.iadd, 0, 0, 0)] 851 = true := by decide +kernel
theorem dL_law_851 : decode (MB ML_law) 851 = .ok (.iaload, 1) := by decide +kernel
theorem dL_law_852 : decode (MB ML_law) 852 = .ok (.invokevirtual 180, 3) := by decide +kernel
theorem sL_law_855 : dsOk (MN ML_law).cls (MB ML_law) 855 [(.istore 6, 0, 0, 0), (.aload_n 2, 0, 0, 0)] 858 = true := by decide +kernel
theorem dL_law_858 : decode (MB ML_law) 858 = .ok (.invokevirtual 148, 3) := by decide +kernel
theorem sL_law_861 : dsOk (MN ML_law).cls (MB ML_law) 861 [(.iload 5, 0, 0, 0)] 863 = true := by decide +kernel
theorem dL_law_863 : decode (MB ML_law) 863 = .ok (.if_icmp .eq 5, 3) := by decide +kernel
theorem sL_law_866 : dsOk (MN ML_law).cls (MB ML_law) 866 [(.iconst 0, 0, 0, 0)] 867 = true := by decide +kernel
theorem dL_law_867 : decode (MB ML_law) 867 = .ok (.ireturn, 1) := by decide +kernel
theorem sL_law_868 : dsOk (MN ML_law).cls (MB ML_law) 868 [(.iload 5, 0, 0, 0)] 870 = true := by decide +kernel
theorem dL_law_870 : decode (MB ML_law) 870 = .ok (.ifCond .ne 15, 3) := by decide +kernel
theorem sL_law_873 : dsOk (MN ML_law).cls (MB ML_law) 873 [(.aload_n 3, 0, 0, 0), (.iconst 0, 0, 0, 0), (.laload, 0, 0, 0), (.iload 6, 0, 0, 0), (.i2l, 0, 0, 0), (.lcmp, 0, 0, 0)] 880 = true := by decide +kernel
theorem dL_law_880 : decode (MB ML_law) 880 = .ok (.ifCond .eq 5, 3) := by decide +kernel
theorem sL_law_883 : dsOk (MN ML_law).cls (MB ML_law) 883 [(.iconst 0, 0, 0, 0)] 884 = true := by decide +kernel
theorem dL_law_884 : decode (MB ML_law) 884 = .ok (.ireturn, 1) := by decide +kernel
theorem dL_law_885 : decode (MB ML_law) 885 = .ok (.goto 2386, 3) := by decide +kernel
theorem sL_law_888 : dsOk (MN ML_law).cls (MB ML_law) 888 [(.aload_n 1, 0, 0, 0), (.aload_n 0, 0, 0, 0), (.iload 4, 0, 0, 0), (.iconst 1, 0, 0, 0), (.iadd, 0, 0, 0)] 894 = true := by decide +kernel
theorem dL_law_894 : decode (MB ML_law) 894 = .ok (.iaload, 1) := by decide +kernel
theorem sL_law_895 : dsOk (MN ML_law).cls (MB ML_law) 895 [(.aload_n 0, 0, 0, 0), (.iload 4, 0, 0, 0), (.iconst 2, 0, 0, 0), (.iadd, 0, 0, 0)] 900 = true := by decide +kernel
theorem dL_law_900 : decode (MB ML_law) 900 = .ok (.iaload, 1) := by decide +kernel
theorem sL_law_901 : dsOk (MN ML_law).cls (MB ML_law) 901 [(.aload_n 3, 0, 0, 0)] 902 = true := by decide +kernel
theorem dL_law_902 : decode (MB ML_law) 902 = .ok (.invokestatic 181, 3) := by decide +kernel
theorem sL_law_905 : dsOk (MN ML_law).cls (MB ML_law) 905 [(.istore 5, 0, 0, 0), (.aload_n 2, 0, 0, 0), (.aload_n 0, 0, 0, 0), (.iload 4, 0, 0, 0), (.iconst 1, 0, 0, 0), (.iadd, 0, 0, 0)] 913 = true := by decide +kernel
theorem dL_law_913 : decode (MB ML_law) 913 = .ok (.iaload, 1) := by decide +kernel
theorem sL_law_914 : dsOk (MN ML_law).cls (MB ML_law) 914 [(.aload_n 0, 0, 0, 0), (.iload 4, 0, 0, 0), (.iconst 2, 0, 0, 0), (.iadd, 0, 0, 0)] 919 = true := by decide +kernel
theorem dL_law_919 : decode (MB ML_law) 919 = .ok (.iaload, 1) := by decide +kernel
theorem dL_law_920 : decode (MB ML_law) 920 = .ok (.invokevirtual 183, 3) := by decide +kernel
theorem sL_law_923 : dsOk (MN ML_law).cls (MB ML_law) 923 [(.istore 6, 0, 0, 0), (.aload_n 2, 0, 0, 0)] 926 = true := by decide +kernel
theorem dL_law_926 : decode (MB ML_law) 926 = .ok (.invokevirtual 148, 3) := by decide +kernel
theorem sL_law_929 : dsOk (MN ML_law).cls (MB ML_law) 929 [(.iload 5, 0, 0, 0)] 931 = true := by decide +kernel
theorem dL_law_931 : decode (MB ML_law) 931 = .ok (.if_icmp .eq 5, 3) := by decide +kernel
theorem sL_law_934 : dsOk (MN ML_law).cls (MB ML_law) 934 [(.iconst 0, 0, 0, 0)] 935 = true := by decide +kernel
theorem dL_law_935 : decode (MB ML_law) 935 = .ok (.ireturn, 1) := by decide +kernel
theorem sL_law_936 : dsOk (MN ML_law).cls (MB ML_law) 936 [(.iload 5, 0, 0, 0)] 938 = true := by decide +kernel
theorem dL_law_938 : decode (MB ML_law) 938 = .ok (.ifCond .ne 15, 3) := by decide +kernel
theorem sL_law_941 : dsOk (MN ML_law).cls (MB ML_law) 941 [(.aload_n 3, 0, 0, 0), (.iconst 0, 0, 0, 0), (.laload, 0, 0, 0), (.iload 6, 0, 0, 0), (.i2l, 0, 0, 0), (.lcmp, 0, 0, 0)] 948 = true := by decide +kernel
theorem dL_law_948 : decode (MB ML_law) 948 = .ok (.ifCond .eq 5, 3) := by decide +kernel
theorem sL_law_951 : dsOk (MN ML_law).cls (MB ML_law) 951 [(.iconst 0, 0, 0, 0)] 952 = true := by decide +kernel
theorem dL_law_952 : decode (MB ML_law) 952 = .ok (.ireturn, 1) := by decide +kernel
theorem dL_law_953 : decode (MB ML_law) 953 = .ok (.goto 2318, 3) := by decide +kernel
theorem sL_law_956 : dsOk (MN ML_law).cls (MB ML_law) 956 [(.aload_n 1, 0, 0, 0)] 957 = true := by decide +kernel
theorem dL_law_957 : decode (MB ML_law) 957 = .ok (.invokevirtual 184, 3) := by decide +kernel
theorem sL_law_960 : dsOk (MN ML_law).cls (MB ML_law) 960 [(.aload_n 2, 0, 0, 0)] 961 = true := by decide +kernel
theorem dL_law_961 : decode (MB ML_law) 961 = .ok (.invokevirtual 187, 3) := by decide +kernel
theorem dL_law_964 : decode (MB ML_law) 964 = .ok (.if_icmp .eq 2307, 3) := by decide +kernel
theorem sL_law_967 : dsOk (MN ML_law).cls (MB ML_law) 967 [(.iconst 0, 0, 0, 0)] 968 = true := by decide +kernel
theorem dL_law_968 : decode (MB ML_law) 968 = .ok (.ireturn, 1) := by decide +kernel
theorem sL_law_969 : dsOk (MN ML_law).cls (MB ML_law) 969 [(.aload_n 1, 0, 0, 0), (.aload_n 0, 0, 0, 0), (.iload 4, 0, 0, 0), (.iconst 1, 0, 0, 0), (.iadd, 0, 0, 0)] 975 = true := by decide +kernel
theorem dL_law_975 : decode (MB ML_law) 975 = .ok (.iaload, 1) := by decide +kernel
theorem sL_law_976 : dsOk (MN ML_law).cls (MB ML_law) 976 [(.aload_n 0, 0, 0, 0), (.iload 4, 0, 0, 0), (.iconst 2, 0, 0, 0), (.iadd, 0, 0, 0)] 981 = true := by decide +kernel
theorem dL_law_981 : decode (MB ML_law) 981 = .ok (.iaload, 1) := by decide +kernel
theorem sL_law_982 : dsOk (MN ML_law).cls (MB ML_law) 982 [(.i2l, 0, 0, 0), (.bipush 32, 0, 0, 32), (.lshl, 0, 0, 0), (.aload_n 0, 0, 0, 0), (.iload 4, 0, 0, 0), (.iconst 3, 0, 0, 0), (.iadd, 0, 0, 0)] 991 = true := by decide +kernel
theorem dL_law_991 : decode (MB ML_law) 991 = .ok (.iaload, 1) := by decide +kernel
theorem sL_law_992 : dsOk (MN ML_law).cls (MB ML_law) 992 [(.i2l, 0, 0, 0), (.ldc2_w 188, 0, 0, 4294967295), (.land, 0, 0, 0), (.lor, 0, 0, 0), (.aload_n 3, 0, 0, 0)] 999 = true := by decide +kernel
theorem dL_law_999 : decode (MB ML_law) 999 = .ok (.invokestatic 190, 3) := by decide +kernel
theorem sL_law_1002 : dsOk (MN ML_law).cls (MB ML_law) 1002 [(.istore 5, 0, 0, 0), (.aload_n 2, 0, 0, 0), (.aload_n 0, 0, 0, 0), (.iload 4, 0, 0, 0), (.iconst 1, 0, 0, 0), (.iadd, 0, 0, 0)] 1010 = true := by decide +kernel
theorem dL_law_1010 : decode (MB ML_law) 1010 = .ok (.iaload, 1) := by decide +kernel
theorem sL_law_1011 : dsOk (MN ML_law).cls (MB ML_law) 1011 [(.aload_n 0, 0, 0, 0), (.iload 4, 0, 0, 0), (.iconst 2, 0, 0, 0), (.iadd, 0, 0, 0)] 1016 = true := by decide +kernel
theorem dL_law_1016 : decode (MB ML_law) 1016 = .ok (.iaload, 1) := by decide +kernel
theorem sL_law_1017 : dsOk (MN ML_law).cls (MB ML_law) 1017 [(.i2l, 0, 0, 0), (.bipush 32, 0, 0, 32), (.lshl, 0, 0, 0), (.aload_n 0, 0, 0, 0), (.iload 4, 0, 0, 0), (.iconst 3, 0, 0, 0), (.iadd, 0, 0, 0)] 1026 = true := by decide +kernel
theorem dL_law_1026 : decode (MB ML_law) 1026 = .ok (.iaload, 1) := by decide +kernel
theorem sL_law_1027 : dsOk (MN ML_law).cls (MB ML_law) 1027 [(.i2l, 0, 0, 0), (.ldc2_w 188, 0, 0, 4294967295), (.land, 0, 0, 0), (.lor, 0, 0, 0)] 1033 = true := by decide +kernel
theorem dL_law_1033 : decode (MB ML_law) 1033 = .ok (.invokevirtual 193, 3) := by decide +kernel
theorem sL_law_1036 : dsOk (MN ML_law).cls (MB ML_law) 1036 [(.istore 6, 0, 0, 0), (.aload_n 2, 0, 0, 0)] 1039 = true := by decide +kernel
theorem dL_law_1039 : decode (MB ML_law) 1039 = .ok (.invokevirtual 148, 3) := by decide +kernel
theorem sL_law_1042 : dsOk (MN ML_law).cls (MB ML_law) 1042 [(.iload 5, 0, 0, 0)] 1044 = true := by decide +kernel
theorem dL_law_1044 : decode (MB ML_law) 1044 = .ok (.if_icmp .eq 5, 3) := by decide +kernel
theorem sL_law_1047 : dsOk (MN ML_law).cls (MB ML_law) 1047 [(.iconst 0, 0, 0, 0)] 1048 = true := by decide +kernel
theorem dL_law_1048 : decode (MB ML_law) 1048 = .ok (.ireturn, 1) := by decide +kernel
theorem sL_law_1049 : dsOk (MN ML_law).cls (MB ML_law) 1049 [(.iload 5, 0, 0, 0)] 1051 = true := by decide +kernel
theorem dL_law_1051 : decode (MB ML_law) 1051 = .ok (.ifCond .ne 22, 3) := by decide +kernel
theorem sL_law_1054 : dsOk (MN ML_law).cls (MB ML_law) 1054 [(.aload_n 3, 0, 0, 0), (.iconst 0, 0, 0, 0), (.laload, 0, 0, 0), (.iload 6, 0, 0, 0)] 1059 = true := by decide +kernel
theorem dL_law_1059 : decode (MB ML_law) 1059 = .ok (.ifCond .eq 7, 3) := by decide +kernel
theorem sL_law_1062 : dsOk (MN ML_law).cls (MB ML_law) 1062 [(.lconst 1, 0, 0, 1)] 1063 = true := by decide +kernel
theorem dL_law_1063 : decode (MB ML_law) 1063 = .ok (.goto 4, 3) := by decide +kernel
theorem sL_law_1066 : dsOk (MN ML_law).cls (MB ML_law) 1066 [(.lconst 0, 0, 0, 0)] 1067 = true := by decide +kernel
theorem sL_law_1067 : dsOk (MN ML_law).cls (MB ML_law) 1067 [(.lcmp, 0, 0, 0)] 1068 = true := by decide +kernel
theorem dL_law_1068 : decode (MB ML_law) 1068 = .ok (.ifCond .eq 5, 3) := by decide +kernel
theorem sL_law_1071 : dsOk (MN ML_law).cls (MB ML_law) 1071 [(.iconst 0, 0, 0, 0)] 1072 = true := by decide +kernel
theorem dL_law_1072 : decode (MB ML_law) 1072 = .ok (.ireturn, 1) := by decide +kernel
theorem dL_law_1073 : decode (MB ML_law) 1073 = .ok (.goto 2198, 3) := by decide +kernel
theorem sL_law_1076 : dsOk (MN ML_law).cls (MB ML_law) 1076 [(.aload_n 1, 0, 0, 0)] 1077 = true := by decide +kernel
theorem dL_law_1077 : decode (MB ML_law) 1077 = .ok (.invokevirtual 194, 3) := by decide +kernel
theorem sL_law_1080 : dsOk (MN ML_law).cls (MB ML_law) 1080 [(.aload_n 2, 0, 0, 0)] 1081 = true := by decide +kernel
theorem dL_law_1081 : decode (MB ML_law) 1081 = .ok (.invokevirtual 197, 3) := by decide +kernel
theorem dL_law_1084 : decode (MB ML_law) 1084 = .ok (.if_icmp .eq 2187, 3) := by decide +kernel
theorem sL_law_1087 : dsOk (MN ML_law).cls (MB ML_law) 1087 [(.iconst 0, 0, 0, 0)] 1088 = true := by decide +kernel
theorem dL_law_1088 : decode (MB ML_law) 1088 = .ok (.ireturn, 1) := by decide +kernel
theorem sL_law_1089 : dsOk (MN ML_law).cls (MB ML_law) 1089 [(.aload_n 1, 0, 0, 0), (.aload_n 0, 0, 0, 0), (.iload 4, 0, 0, 0), (.iconst 1, 0, 0, 0), (.iadd, 0, 0, 0)] 1095 = true := by decide +kernel
theorem dL_law_1095 : decode (MB ML_law) 1095 = .ok (.iaload, 1) := by decide +kernel
theorem sL_law_1096 : dsOk (MN ML_law).cls (MB ML_law) 1096 [(.i2l, 0, 0, 0), (.bipush 32, 0, 0, 32), (.lshl, 0, 0, 0), (.aload_n 0, 0, 0, 0), (.iload 4, 0, 0, 0), (.iconst 2, 0, 0, 0), (.iadd, 0, 0, 0)] 1105 = true := by decide +kernel
theorem dL_law_1105 : decode (MB ML_law) 1105 = .ok (.iaload, 1) := by decide +kernel
theorem sL_law_1106 : dsOk (MN ML_law).cls (MB ML_law) 1106 [(.i2l, 0, 0, 0), (.ldc2_w 188, 0, 0, 4294967295), (.land, 0, 0, 0), (.lor, 0, 0, 0), (.aload_n 0, 0, 0, 0), (.iload 4, 0, 0, 0), (.iconst 3, 0, 0, 0), (.iadd, 0, 0, 0)] 1117 = true := by decide +kernel
theorem dL_law_1117 : decode (MB ML_law) 1117 = .ok (.iaload, 1) := by decide +kernel
theorem sL_law_1118 : dsOk (MN ML_law).cls (MB ML_law) 1118 [(.aload_n 3, 0, 0, 0)] 1119 = true := by decide +kernel
theorem dL_law_1119 : decode (MB ML_law) 1119 = .ok (.invokestatic 198, 3) := by decide +kernel
theorem sL_law_1122 : dsOk (MN ML_law).cls (MB ML_law) 1122 [(.istore 5, 0, 0, 0), (.aload_n 2, 0, 0, 0), (.aload_n 0, 0, 0, 0), (.iload 4, 0, 0, 0), (.iconst 1, 0, 0, 0), (.iadd, 0, 0, 0)] 1130 = true := by decide +kernel
theorem dL_law_1130 : decode (MB ML_law) 1130 = .ok (.iaload, 1) := by decide +kernel
theorem sL_law_1131 : dsOk (MN ML_law).cls (MB ML_law) 1131 [(.i2l, 0, 0, 0), (.bipush 32, 0, 0, 32), (.lshl, 0, 0, 0), (.aload_n 0, 0, 0, 0), (.iload 4, 0, 0, 0), (.iconst 2, 0, 0, 0), (.iadd, 0, 0, 0)] 1140 = true := by decide +kernel
theorem dL_law_1140 : decode (MB ML_law) 1140 = .ok (.iaload, 1) := by decide +kernel
theorem sL_law_1141 : dsOk (MN ML_law).cls (MB ML_law) 1141 [(.i2l, 0, 0, 0), (.ldc2_w 188, 0, 0, 4294967295), (.land, 0, 0, 0), (.lor, 0, 0, 0), (.aload_n 0, 0, 0, 0), (.iload 4, 0, 0, 0), (.iconst 3, 0, 0, 0), (.iadd, 0, 0, 0)] 1152 = true := by decide +kernel
theorem dL_law_1152 : decode (MB ML_law) 1152 = .ok (.iaload, 1) := by decide +kernel
theorem dL_law_1153 : decode (MB ML_law) 1153 = .ok (.invokevirtual 201, 3) := by decide +kernel
theorem sL_law_1156 : dsOk (MN ML_law).cls (MB ML_law) 1156 [(.lstore 6, 0, 0, 0), (.aload_n 2, 0, 0, 0)] 1159 = true := by decide +kernel
theorem dL_law_1159 : decode (MB ML_law) 1159 = .ok (.invokevirtual 148, 3) := by decide +kernel
theorem sL_law_1162 : dsOk (MN ML_law).cls (MB ML_law) 1162 [(.iload 5, 0, 0, 0)] 1164 = true := by decide +kernel
theorem dL_law_1164 : decode (MB ML_law) 1164 = .ok (.if_icmp .eq 5, 3) := by decide +kernel
theorem sL_law_1167 : dsOk (MN ML_law).cls (MB ML_law) 1167 [(.iconst 0, 0, 0, 0)] 1168 = true := by decide +kernel
theorem dL_law_1168 : decode (MB ML_law) 1168 = .ok (.ireturn, 1) := by decide +kernel
theorem sL_law_1169 : dsOk (MN ML_law).cls (MB ML_law) 1169 [(.iload 5, 0, 0, 0)] 1171 = true := by decide +kernel
theorem dL_law_1171 : decode (MB ML_law) 1171 = .ok (.ifCond .ne 14, 3) := by decide +kernel
theorem sL_law_1174 : dsOk (MN ML_law).cls (MB ML_law) 1174 [(.aload_n 3, 0, 0, 0), (.iconst 0, 0, 0, 0), (.laload, 0, 0, 0), (.lload 6, 0, 0, 0), (.lcmp, 0, 0, 0)] 1180 = true := by decide +kernel
theorem dL_law_1180 : decode (MB ML_law) 1180 = .ok (.ifCond .eq 5, 3) := by decide +kernel
theorem sL_law_1183 : dsOk (MN ML_law).cls (MB ML_law) 1183 [(.iconst 0, 0, 0, 0)] 1184 = true := by decide +kernel
theorem dL_law_1184 : decode (MB ML_law) 1184 = .ok (.ireturn, 1) := by decide +kernel
theorem dL_law_1185 : decode (MB ML_law) 1185 = .ok (.goto 2086, 3) := by decide +kernel
theorem sL_law_1188 : dsOk (MN ML_law).cls (MB ML_law) 1188 [(.aload_n 1, 0, 0, 0), (.aload_n 0, 0, 0, 0), (.iload 4, 0, 0, 0), (.iconst 1, 0, 0, 0), (.iadd, 0, 0, 0)] 1194 = true := by decide +kernel
theorem dL_law_1194 : decode (MB ML_law) 1194 = .ok (.iaload, 1) := by decide +kernel
theorem sL_law_1195 : dsOk (MN ML_law).cls (MB ML_law) 1195 [(.i2l, 0, 0, 0), (.bipush 32, 0, 0, 32), (.lshl, 0, 0, 0), (.aload_n 0, 0, 0, 0), (.iload 4, 0, 0, 0), (.iconst 2, 0, 0, 0), (.iadd, 0, 0, 0)] 1204 = true := by decide +kernel
theorem dL_law_1204 : decode (MB ML_law) 1204 = .ok (.iaload, 1) := by decide +kernel
theorem sL_law_1205 : dsOk (MN ML_law).cls (MB ML_law) 1205 [(.i2l, 0, 0, 0), (.ldc2_w 188, 0, 0, 4294967295), (.land, 0, 0, 0), (.lor, 0, 0, 0), (.aload_n 0, 0, 0, 0), (.iload 4, 0, 0, 0), (.iconst 3, 0, 0, 0), (.iadd, 0, 0, 0)] 1216 = true := by decide +kernel
theorem dL_law_1216 : decode (MB ML_law) 1216 = .ok (.iaload, 1) := by decide +kernel
theorem sL_law_1217 : dsOk (MN ML_law).cls (MB ML_law) 1217 [(.aload_n 3, 0, 0, 0)] 1218 = true := by decide +kernel
theorem dL_law_1218 : decode (MB ML_law) 1218 = .ok (.invokestatic 202, 3) := by decide +kernel
theorem sL_law_1221 : dsOk (MN ML_law).cls (MB ML_law) 1221 [(.istore 5, 0, 0, 0), (.aload_n 2, 0, 0, 0), (.aload_n 0, 0, 0, 0), (.iload 4, 0, 0, 0), (.iconst 1, 0, 0, 0), (.iadd, 0, 0, 0)] 1229 = true := by decide +kernel
theorem dL_law_1229 : decode (MB ML_law) 1229 = .ok (.iaload, 1) := by decide +kernel
theorem sL_law_1230 : dsOk (MN ML_law).cls (MB ML_law) 1230 [(.i2l, 0, 0, 0), (.bipush 32, 0, 0, 32), (.lshl, 0, 0, 0), (.aload_n 0, 0, 0, 0), (.iload 4, 0, 0, 0), (.iconst 2, 0, 0, 0), (.iadd, 0, 0, 0)] 1239 = true := by decide +kernel
theorem dL_law_1239 : decode (MB ML_law) 1239 = .ok (.iaload, 1) := by decide +kernel
theorem sL_law_1240 : dsOk (MN ML_law).cls (MB ML_law) 1240 [(.i2l, 0, 0, 0), (.ldc2_w 188, 0, 0, 4294967295), (.land, 0, 0, 0), (.lor, 0, 0, 0), (.aload_n 0, 0, 0, 0), (.iload 4, 0, 0, 0), (.iconst 3, 0, 0, 0), (.iadd, 0, 0, 0)] 1251 = true := by decide +kernel
theorem dL_law_1251 : decode (MB ML_law) 1251 = .ok (.iaload, 1) := by decide +kernel
theorem dL_law_1252 : decode (MB ML_law) 1252 = .ok (.invokevirtual 204, 3) := by decide +kernel
theorem sL_law_1255 : dsOk (MN ML_law).cls (MB ML_law) 1255 [(.lstore 6, 0, 0, 0), (.aload_n 2, 0, 0, 0)] 1258 = true := by decide +kernel
theorem dL_law_1258 : decode (MB ML_law) 1258 = .ok (.invokevirtual 148, 3) := by decide +kernel
theorem sL_law_1261 : dsOk (MN ML_law).cls (MB ML_law) 1261 [(.iload 5, 0, 0, 0)] 1263 = true := by decide +kernel
theorem dL_law_1263 : decode (MB ML_law) 1263 = .ok (.if_icmp .eq 5, 3) := by decide +kernel
theorem sL_law_1266 : dsOk (MN ML_law).cls (MB ML_law) 1266 [(.iconst 0, 0, 0, 0)] 1267 = true := by decide +kernel
theorem dL_law_1267 : decode (MB ML_law) 1267 = .ok (.ireturn, 1) := by decide +kernel
theorem sL_law_1268 : dsOk (MN ML_law).cls (MB ML_law) 1268 [(.iload 5, 0, 0, 0)] 1270 = true := by decide +kernel
theorem dL_law_1270 : decode (MB ML_law) 1270 = .ok (.ifCond .ne 14, 3) := by decide +kernel
theorem sL_law_1273 : dsOk (MN ML_law).cls (MB ML_law) 1273 [(.aload_n 3, 0, 0, 0), (.iconst 0, 0, 0, 0), (.laload, 0, 0, 0), (.lload 6, 0, 0, 0), (.lcmp, 0, 0, 0)] 1279 = true := by decide +kernel
theorem dL_law_1279 : decode (MB ML_law) 1279 = .ok (.ifCond .eq 5, 3) := by decide +kernel
theorem sL_law_1282 : dsOk (MN ML_law).cls (MB ML_law) 1282 [(.iconst 0, 0, 0, 0)] 1283 = true := by decide +kernel
theorem dL_law_1283 : decode (MB ML_law) 1283 = .ok (.ireturn, 1) := by decide +kernel
theorem dL_law_1284 : decode (MB ML_law) 1284 = .ok (.goto 1987, 3) := by decide +kernel
theorem sL_law_1287 : dsOk (MN ML_law).cls (MB ML_law) 1287 [(.aload_n 1, 0, 0, 0), (.aload_n 0, 0, 0, 0), (.iload 4, 0, 0, 0), (.iconst 1, 0, 0, 0), (.iadd, 0, 0, 0)] 1293 = true := by decide +kernel
theorem dL_law_1293 : decode (MB ML_law) 1293 = .ok (.iaload, 1) := by decide +kernel
theorem sL_law_1294 : dsOk (MN ML_law).cls (MB ML_law) 1294 [(.i2l, 0, 0, 0), (.bipush 32, 0, 0, 32), (.lshl, 0, 0, 0), (.aload_n 0, 0, 0, 0), (.iload 4, 0, 0, 0), (.iconst 2, 0, 0, 0), (.iadd, 0, 0, 0)] 1303 = true := by decide +kernel
theorem dL_law_1303 : decode (MB ML_law) 1303 = .ok (.iaload, 1) := by decide +kernel
theorem sL_law_1304 : dsOk (MN ML_law).cls (MB ML_law) 1304 [(.i2l, 0, 0, 0), (.ldc2_w 188, 0, 0, 4294967295), (.land, 0, 0, 0), (.lor, 0, 0, 0), (.aload_n 0, 0, 0, 0), (.iload 4, 0, 0, 0), (.iconst 3, 0, 0, 0), (.iadd, 0, 0, 0)] 1315 = true := by decide +kernel
theorem dL_law_1315 : decode (MB ML_law) 1315 = .ok (.iaload, 1) := by decide +kernel
theorem sL_law_1316 : dsOk (MN ML_law).cls (MB ML_law) 1316 [(.aload_n 0, 0, 0, 0), (.iload 4, 0, 0, 0), (.iconst 4, 0, 0, 0), (.iadd, 0, 0, 0)] 1321 = true := by decide +kernel
theorem dL_law_1321 : decode (MB ML_law) 1321 = .ok (.iaload, 1) := by decide +kernel
theorem sL_law_1322 : dsOk (MN ML_law).cls (MB ML_law) 1322 [(.aload_n 3, 0, 0, 0)] 1323 = true := by decide +kernel
theorem dL_law_1323 : decode (MB ML_law) 1323 = .ok (.invokestatic 205, 3) := by decide +kernel
theorem sL_law_1326 : dsOk (MN ML_law).cls (MB ML_law) 1326 [(.istore 5, 0, 0, 0), (.aload_n 2, 0, 0, 0), (.aload_n 0, 0, 0, 0), (.iload 4, 0, 0, 0), (.iconst 1, 0, 0, 0), (.iadd, 0, 0, 0)] 1334 = true := by decide +kernel
theorem dL_law_1334 : decode (MB ML_law) 1334 = .ok (.iaload, 1) := by decide +kernel
theorem sL_law_1335 : dsOk (MN ML_law).cls (MB ML_law) 1335 [(.i2l, 0, 0, 0), (.bipush 32, 0, 0, 32), (.lshl, 0, 0, 0), (.aload_n 0, 0, 0, 0), (.iload 4, 0, 0, 0), (.iconst 2, 0, 0, 0), (.iadd, 0, 0, 0)] 1344 = true := by decide +kernel
theorem dL_law_1344 : decode (MB ML_law) 1344 = .ok (.iaload, 1) := by decide +kernel
theorem sL_law_1345 : dsOk (MN ML_law).cls (MB ML_law) 1345 [(.i2l, 0, 0, 0), (.ldc2_w 188, 0, 0, 4294967295), (.land, 0, 0, 0), (.lor, 0, 0, 0), (.aload_n 0, 0, 0, 0), (.iload 4, 0, 0, 0), (.iconst 3, 0, 0, 0), (.iadd, 0, 0, 0)] 1356 = true := by decide +kernel
theorem dL_law_1356 : decode (MB ML_law) 1356 = .ok (.iaload, 1) := by decide +kernel
theorem sL_law_1357 : dsOk (MN ML_law).cls (MB ML_law) 1357 [(.aload_n 0, 0, 0, 0), (.iload 4, 0, 0, 0), (.iconst 4, 0, 0, 0), (.iadd, 0, 0, 0)] 1362 = true := by decide +kernel
theorem dL_law_1362 : decode (MB ML_law) 1362 = .ok (.iaload, 1) := by decide +kernel
theorem dL_law_1363 : decode (MB ML_law) 1363 = .ok (.invokevirtual 208, 3) := by decide +kernel
theorem sL_law_1366 : dsOk (MN ML_law).cls (MB ML_law) 1366 [(.lstore 6, 0, 0, 0), (.aload_n 2, 0, 0, 0)] 1369 = true := by decide +kernel
theorem dL_law_1369 : decode (MB ML_law) 1369 = .ok (.invokevirtual 148, 3) := by decide +kernel
theorem sL_law_1372 : dsOk (MN ML_law).cls (MB ML_law) 1372 [(.iload 5, 0, 0, 0)] 1374 = true := by decide +kernel
theorem dL_law_1374 : decode (MB ML_law) 1374 = .ok (.if_icmp .eq 5, 3) := by decide +kernel
theorem sL_law_1377 : dsOk (MN ML_law).cls (MB ML_law) 1377 [(.iconst 0, 0, 0, 0)] 1378 = true := by decide +kernel
theorem dL_law_1378 : decode (MB ML_law) 1378 = .ok (.ireturn, 1) := by decide +kernel
theorem sL_law_1379 : dsOk (MN ML_law).cls (MB ML_law) 1379 [(.iload 5, 0, 0, 0)] 1381 = true := by decide +kernel
theorem dL_law_1381 : decode (MB ML_law) 1381 = .ok (.ifCond .ne 14, 3) := by decide +kernel
theorem sL_law_1384 : dsOk (MN ML_law).cls (MB ML_law) 1384 [(.aload_n 3, 0, 0, 0), (.iconst 0, 0, 0, 0), (.laload, 0, 0, 0), (.lload 6, 0, 0, 0), (.lcmp, 0, 0, 0)] 1390 = true := by decide +kernel
theorem dL_law_1390 : decode (MB ML_law) 1390 = .ok (.ifCond .eq 5, 3) := by decide +kernel
theorem sL_law_1393 : dsOk (MN ML_law).cls (MB ML_law) 1393 [(.iconst 0, 0, 0, 0)] 1394 = true := by decide +kernel
theorem dL_law_1394 : decode (MB ML_law) 1394 = .ok (.ireturn, 1) := by decide +kernel
theorem dL_law_1395 : decode (MB ML_law) 1395 = .ok (.goto 1876, 3) := by decide +kernel
theorem sL_law_1398 : dsOk (MN ML_law).cls (MB ML_law) 1398 [(.aload_n 1, 0, 0, 0), (.aload_n 0, 0, 0, 0), (.iload 4, 0, 0, 0), (.iconst 1, 0, 0, 0), (.iadd, 0, 0, 0)] 1404 = true := by decide +kernel
theorem dL_law_1404 : decode (MB ML_law) 1404 = .ok (.iaload, 1) := by decide +kernel
theorem sL_law_1405 : dsOk (MN ML_law).cls (MB ML_law) 1405 [(.i2l, 0, 0, 0), (.bipush 32, 0, 0, 32), (.lshl, 0, 0, 0), (.aload_n 0, 0, 0, 0), (.iload 4, 0, 0, 0), (.iconst 2, 0, 0, 0), (.iadd, 0, 0, 0)] 1414 = true := by decide +kernel
theorem dL_law_1414 : decode (MB ML_law) 1414 = .ok (.iaload, 1) := by decide +kernel
theorem sL_law_1415 : dsOk (MN ML_law).cls (MB ML_law) 1415 [(.i2l, 0, 0, 0), (.ldc2_w 188, 0, 0, 4294967295), (.land, 0, 0, 0), (.lor, 0, 0, 0), (.aload_n 0, 0, 0, 0), (.iload 4, 0, 0, 0), (.iconst 3, 0, 0, 0), (.iadd, 0, 0, 0)] 1426 = true := by decide +kernel
theorem dL_law_1426 : decode (MB ML_law) 1426 = .ok (.iaload, 1) := by decide +kernel
theorem sL_law_1427 : dsOk (MN ML_law).cls (MB ML_law) 1427 [(.aload_n 0, 0, 0, 0), (.iload 4, 0, 0, 0), (.iconst 4, 0, 0, 0), (.iadd, 0, 0, 0)] 1432 = true := by decide +kernel
theorem dL_law_1432 : decode (MB ML_law) 1432 = .ok (.iaload, 1) := by decide +kernel
theorem sL_law_1433 : dsOk (MN ML_law).cls (MB ML_law) 1433 [(.aload_n 3, 0, 0, 0)] 1434 = true := by decide +kernel
theorem dL_law_1434 : decode (MB ML_law) 1434 = .ok (.invokestatic 209, 3) := by decide +kernel
theorem sL_law_1437 : dsOk (MN ML_law).cls (MB ML_law) 1437 [(.istore 5, 0, 0, 0), (.aload_n 2, 0, 0, 0), (.aload_n 0, 0, 0, 0), (.iload 4, 0, 0, 0), (.iconst 1, 0, 0, 0), (.iadd, 0, 0, 0)] 1445 = true := by decide +kernel
theorem dL_law_1445 : decode (MB ML_law) 1445 = .ok (.iaload, 1) := by decide +kernel
theorem sL_law_1446 : dsOk (MN ML_law).cls (MB ML_law) 1446 [(.i2l, 0, 0, 0), (.bipush 32, 0, 0, 32), (.lshl, 0, 0, 0), (.aload_n 0, 0, 0, 0), (.iload 4, 0, 0, 0), (.iconst 2, 0, 0, 0), (.iadd, 0, 0, 0)] 1455 = true := by decide +kernel
theorem dL_law_1455 : decode (MB ML_law) 1455 = .ok (.iaload, 1) := by decide +kernel
theorem sL_law_1456 : dsOk (MN ML_law).cls (MB ML_law) 1456 [(.i2l, 0, 0, 0), (.ldc2_w 188, 0, 0, 4294967295), (.land, 0, 0, 0), (.lor, 0, 0, 0), (.aload_n 0, 0, 0, 0), (.iload 4, 0, 0, 0), (.iconst 3, 0, 0, 0), (.iadd, 0, 0, 0)] 1467 = true := by decide +kernel
theorem dL_law_1467 : decode (MB ML_law) 1467 = .ok (.iaload, 1) := by decide +kernel
theorem sL_law_1468 : dsOk (MN ML_law).cls (MB ML_law) 1468 [(.aload_n 0, 0, 0, 0), (.iload 4, 0, 0, 0), (.iconst 4, 0, 0, 0), (.iadd, 0, 0, 0)] 1473 = true := by decide +kernel
theorem dL_law_1473 : decode (MB ML_law) 1473 = .ok (.iaload, 1) := by decide +kernel
theorem dL_law_1474 : decode (MB ML_law) 1474 = .ok (.invokevirtual 211, 3) := by decide +kernel
theorem sL_law_1477 : dsOk (MN ML_law).cls (MB ML_law) 1477 [(.lstore 6, 0, 0, 0), (.aload_n 2, 0, 0, 0)] 1480 = true := by decide +kernel
theorem dL_law_1480 : decode (MB ML_law) 1480 = .ok (.invokevirtual 148, 3) := by decide +kernel
theorem sL_law_1483 : dsOk (MN ML_law).cls (MB ML_law) 1483 [(.iload 5, 0, 0, 0)] 1485 = true := by decide +kernel
theorem dL_law_1485 : decode (MB ML_law) 1485 = .ok (.if_icmp .eq 5, 3) := by decide +kernel
theorem sL_law_1488 : dsOk (MN ML_law).cls (MB ML_law) 1488 [(.iconst 0, 0, 0, 0)] 1489 = true := by decide +kernel
theorem dL_law_1489 : decode (MB ML_law) 1489 = .ok (.ireturn, 1) := by decide +kernel
theorem sL_law_1490 : dsOk (MN ML_law).cls (MB ML_law) 1490 [(.iload 5, 0, 0, 0)] 1492 = true := by decide +kernel
theorem dL_law_1492 : decode (MB ML_law) 1492 = .ok (.ifCond .ne 14, 3) := by decide +kernel
theorem sL_law_1495 : dsOk (MN ML_law).cls (MB ML_law) 1495 [(.aload_n 3, 0, 0, 0), (.iconst 0, 0, 0, 0), (.laload, 0, 0, 0), (.lload 6, 0, 0, 0), (.lcmp, 0, 0, 0)] 1501 = true := by decide +kernel
theorem dL_law_1501 : decode (MB ML_law) 1501 = .ok (.ifCond .eq 5, 3) := by decide +kernel
theorem sL_law_1504 : dsOk (MN ML_law).cls (MB ML_law) 1504 [(.iconst 0, 0, 0, 0)] 1505 = true := by decide +kernel
theorem dL_law_1505 : decode (MB ML_law) 1505 = .ok (.ireturn, 1) := by decide +kernel
theorem dL_law_1506 : decode (MB ML_law) 1506 = .ok (.goto 1765, 3) := by decide +kernel
theorem sL_law_1509 : dsOk (MN ML_law).cls (MB ML_law) 1509 [(.aload_n 1, 0, 0, 0), (.aload_n 0, 0, 0, 0), (.iload 4, 0, 0, 0), (.iconst 1, 0, 0, 0), (.iadd, 0, 0, 0)] 1515 = true := by decide +kernel
theorem dL_law_1515 : decode (MB ML_law) 1515 = .ok (.iaload, 1) := by decide +kernel
theorem sL_law_1516 : dsOk (MN ML_law).cls (MB ML_law) 1516 [(.i2l, 0, 0, 0), (.bipush 32, 0, 0, 32), (.lshl, 0, 0, 0), (.aload_n 0, 0, 0, 0), (.iload 4, 0, 0, 0), (.iconst 2, 0, 0, 0), (.iadd, 0, 0, 0)] 1525 = true := by decide +kernel
theorem dL_law_1525 : decode (MB ML_law) 1525 = .ok (.iaload, 1) := by decide +kernel
theorem sL_law_1526 : dsOk (MN ML_law).cls (MB ML_law) 1526 [(.i2l, 0, 0, 0), (.ldc2_w 188, 0, 0, 4294967295), (.land, 0, 0, 0), (.lor, 0, 0, 0), (.aload_n 3, 0, 0, 0)] 1533 = true := by decide +kernel
theorem dL_law_1533 : decode (MB ML_law) 1533 = .ok (.invokestatic 212, 3) := by decide +kernel
theorem sL_law_1536 : dsOk (MN ML_law).cls (MB ML_law) 1536 [(.istore 5, 0, 0, 0), (.aload_n 2, 0, 0, 0), (.aload_n 0, 0, 0, 0), (.iload 4, 0, 0, 0), (.iconst 1, 0, 0, 0), (.iadd, 0, 0, 0)] 1544 = true := by decide +kernel
theorem dL_law_1544 : decode (MB ML_law) 1544 = .ok (.iaload, 1) := by decide +kernel
theorem sL_law_1545 : dsOk (MN ML_law).cls (MB ML_law) 1545 [(.i2l, 0, 0, 0), (.bipush 32, 0, 0, 32), (.lshl, 0, 0, 0), (.aload_n 0, 0, 0, 0), (.iload 4, 0, 0, 0), (.iconst 2, 0, 0, 0), (.iadd, 0, 0, 0)] 1554 = true := by decide +kernel
theorem dL_law_1554 : decode (MB ML_law) 1554 = .ok (.iaload, 1) := by decide +kernel
theorem sL_law_1555 : dsOk (MN ML_law).cls (MB ML_law) 1555 [(.i2l, 0, 0, 0), (.ldc2_w 188, 0, 0, 4294967295), (.land, 0, 0, 0), (.lor, 0, 0, 0)] 1561 = true := by decide +kernel
theorem dL_law_1561 : decode (MB ML_law) 1561 = .ok (.invokevirtual 215, 3) := by decide +kernel
theorem sL_law_1564 : dsOk (MN ML_law).cls (MB ML_law) 1564 [(.lstore 6, 0, 0, 0), (.aload_n 2, 0, 0, 0)] 1567 = true := by decide +kernel
theorem dL_law_1567 : decode (MB ML_law) 1567 = .ok (.invokevirtual 148, 3) := by decide +kernel
theorem sL_law_1570 : dsOk (MN ML_law).cls (MB ML_law) 1570 [(.iload 5, 0, 0, 0)] 1572 = true := by decide +kernel
theorem dL_law_1572 : decode (MB ML_law) 1572 = .ok (.if_icmp .eq 5, 3) := by decide +kernel
theorem sL_law_1575 : dsOk (MN ML_law).cls (MB ML_law) 1575 [(.iconst 0, 0, 0, 0)] 1576 = true := by decide +kernel
theorem dL_law_1576 : decode (MB ML_law) 1576 = .ok (.ireturn, 1) := by decide +kernel
theorem sL_law_1577 : dsOk (MN ML_law).cls (MB ML_law) 1577 [(.iload 5, 0, 0, 0)] 1579 = true := by decide +kernel
theorem dL_law_1579 : decode (MB ML_law) 1579 = .ok (.ifCond .ne 14, 3) := by decide +kernel
theorem sL_law_1582 : dsOk (MN ML_law).cls (MB ML_law) 1582 [(.aload_n 3, 0, 0, 0), (.iconst 0, 0, 0, 0), (.laload, 0, 0, 0), (.lload 6, 0, 0, 0), (.lcmp, 0, 0, 0)] 1588 = true := by decide +kernel
theorem dL_law_1588 : decode (MB ML_law) 1588 = .ok (.ifCond .eq 5, 3) := by decide +kernel
theorem sL_law_1591 : dsOk (MN ML_law).cls (MB ML_law) 1591 [(.iconst 0, 0, 0, 0)] 1592 = true := by decide +kernel
theorem dL_law_1592 : decode (MB ML_law) 1592 = .ok (.ireturn, 1) := by decide +kernel
theorem dL_law_1593 : decode (MB ML_law) 1593 = .ok (.goto 1678, 3) := by decide +kernel
theorem sL_law_1596 : dsOk (MN ML_law).cls (MB ML_law) 1596 [(.aload_n 1, 0, 0, 0), (.aload_n 0, 0, 0, 0), (.iload 4, 0, 0, 0), (.iconst 1, 0, 0, 0), (.iadd, 0, 0, 0)] 1602 = true := by decide +kernel
theorem dL_law_1602 : decode (MB ML_law) 1602 = .ok (.iaload, 1) := by decide +kernel
theorem sL_law_1603 : dsOk (MN ML_law).cls (MB ML_law) 1603 [(.i2l, 0, 0, 0), (.bipush 32, 0, 0, 32), (.lshl, 0, 0, 0), (.aload_n 0, 0, 0, 0), (.iload 4, 0, 0, 0), (.iconst 2, 0, 0, 0), (.iadd, 0, 0, 0)] 1612 = true := by decide +kernel
theorem dL_law_1612 : decode (MB ML_law) 1612 = .ok (.iaload, 1) := by decide +kernel
theorem sL_law_1613 : dsOk (MN ML_law).cls (MB ML_law) 1613 [(.i2l, 0, 0, 0), (.ldc2_w 188, 0, 0, 4294967295), (.land, 0, 0, 0), (.lor, 0, 0, 0), (.aload_n 0, 0, 0, 0), (.iload 4, 0, 0, 0), (.iconst 3, 0, 0, 0), (.iadd, 0, 0, 0)] 1624 = true := by decide +kernel
theorem dL_law_1624 : decode (MB ML_law) 1624 = .ok (.iaload, 1) := by decide +kernel
theorem sL_law_1625 : dsOk (MN ML_law).cls (MB ML_law) 1625 [(.aload_n 0, 0, 0, 0), (.iload 4, 0, 0, 0), (.iconst 4, 0, 0, 0), (.iadd, 0, 0, 0)] 1630 = true := by decide +kernel
theorem dL_law_1630 : decode (MB ML_law) 1630 = .ok (.iaload, 1) := by decide +kernel
theorem dL_law_1631 : decode (MB ML_law) 1631 = .ok (.ifCond .eq 7, 3) := by decide +kernel
theorem sL_law_1634 : dsOk (MN ML_law).cls (MB ML_law) 1634 [(.iconst 1, 0, 0, 0)] 1635 = true := by decide +kernel
theorem dL_law_1635 : decode (MB ML_law) 1635 = .ok (.goto 4, 3) := by decide +kernel
theorem sL_law_1638 : dsOk (MN ML_law).cls (MB ML_law) 1638 [(.iconst 0, 0, 0, 0)] 1639 = true := by decide +kernel
theorem sL_law_1639 : dsOk (MN ML_law).cls (MB ML_law) 1639 [(.aload_n 3, 0, 0, 0)] 1640 = true := by decide +kernel
theorem dL_law_1640 : decode (MB ML_law) 1640 = .ok (.invokestatic 216, 3) := by decide +kernel
theorem sL_law_1643 : dsOk (MN ML_law).cls (MB ML_law) 1643 [(.istore 5, 0, 0, 0), (.aload_n 2, 0, 0, 0), (.aload_n 0, 0, 0, 0), (.iload 4, 0, 0, 0), (.iconst 1, 0, 0, 0), (.iadd, 0, 0, 0)] 1651 = true := by decide +kernel
theorem dL_law_1651 : decode (MB ML_law) 1651 = .ok (.iaload, 1) := by decide +kernel
theorem sL_law_1652 : dsOk (MN ML_law).cls (MB ML_law) 1652 [(.i2l, 0, 0, 0), (.bipush 32, 0, 0, 32), (.lshl, 0, 0, 0), (.aload_n 0, 0, 0, 0), (.iload 4, 0, 0, 0), (.iconst 2, 0, 0, 0), (.iadd, 0, 0, 0)] 1661 = true := by decide +kernel
theorem dL_law_1661 : decode (MB ML_law) 1661 = .ok (.iaload, 1) := by decide +kernel
theorem sL_law_1662 : dsOk (MN ML_law).cls (MB ML_law) 1662 [(.i2l, 0, 0, 0), (.ldc2_w 188, 0, 0, 4294967295), (.land, 0, 0, 0), (.lor, 0, 0, 0), (.aload_n 0, 0, 0, 0), (.iload 4, 0, 0, 0), (.iconst 3, 0, 0, 0), (.iadd, 0, 0, 0)] 1673 = true := by decide +kernel
theorem dL_law_1673 : decode (MB ML_law) 1673 = .ok (.iaload, 1) := by decide +kernel
theorem sL_law_1674 : dsOk (MN ML_law).cls (MB ML_law) 1674 [(.aload_n 0, 0, 0, 0), (.iload 4, 0, 0, 0), (.iconst 4, 0, 0, 0), (.iadd, 0, 0, 0)] 1679 = true := by decide +kernel
theorem dL_law_1679 : decode (MB ML_law) 1679 = .ok (.iaload, 1) := by decide +kernel
theorem dL_law_1680 : decode (MB ML_law) 1680 = .ok (.ifCond .eq 7, 3) := by decide +kernel
theorem sL_law_1683 : dsOk (MN ML_law).cls (MB ML_law) 1683 [(.iconst 1, 0, 0, 0)] 1684 = true := by decide +kernel
theorem dL_law_1684 : decode (MB ML_law) 1684 = .ok (.goto 4, 3) := by decide +kernel
theorem sL_law_1687 : dsOk (MN ML_law).cls (MB ML_law) 1687 [(.iconst 0, 0, 0, 0)] 1688 = true := by decide +kernel
theorem dL_law_1688 : decode (MB ML_law) 1688 = .ok (.invokevirtual 219, 3) := by decide +kernel
theorem sL_law_1691 : dsOk (MN ML_law).cls (MB ML_law) 1691 [(.lstore 6, 0, 0, 0), (.aload_n 2, 0, 0, 0)] 1694 = true := by decide +kernel
theorem dL_law_1694 : decode (MB ML_law) 1694 = .ok (.invokevirtual 148, 3) := by decide +kernel
theorem sL_law_1697 : dsOk (MN ML_law).cls (MB ML_law) 1697 [(.iload 5, 0, 0, 0)] 1699 = true := by decide +kernel
theorem dL_law_1699 : decode (MB ML_law) 1699 = .ok (.if_icmp .eq 5, 3) := by decide +kernel
theorem sL_law_1702 : dsOk (MN ML_law).cls (MB ML_law) 1702 [(.iconst 0, 0, 0, 0)] 1703 = true := by decide +kernel
theorem dL_law_1703 : decode (MB ML_law) 1703 = .ok (.ireturn, 1) := by decide +kernel
theorem sL_law_1704 : dsOk (MN ML_law).cls (MB ML_law) 1704 [(.iload 5, 0, 0, 0)] 1706 = true := by decide +kernel
theorem dL_law_1706 : decode (MB ML_law) 1706 = .ok (.ifCond .ne 14, 3) := by decide +kernel
theorem sL_law_1709 : dsOk (MN ML_law).cls (MB ML_law) 1709 [(.aload_n 3, 0, 0, 0), (.iconst 0, 0, 0, 0), (.laload, 0, 0, 0), (.lload 6, 0, 0, 0), (.lcmp, 0, 0, 0)] 1715 = true := by decide +kernel
theorem dL_law_1715 : decode (MB ML_law) 1715 = .ok (.ifCond .eq 5, 3) := by decide +kernel
theorem sL_law_1718 : dsOk (MN ML_law).cls (MB ML_law) 1718 [(.iconst 0, 0, 0, 0)] 1719 = true := by decide +kernel
theorem dL_law_1719 : decode (MB ML_law) 1719 = .ok (.ireturn, 1) := by decide +kernel
theorem dL_law_1720 : decode (MB ML_law) 1720 = .ok (.goto 1551, 3) := by decide +kernel
theorem sL_law_1723 : dsOk (MN ML_law).cls (MB ML_law) 1723 [(.aload_n 1, 0, 0, 0), (.aload_n 0, 0, 0, 0), (.iload 4, 0, 0, 0), (.iconst 1, 0, 0, 0), (.iadd, 0, 0, 0)] 1729 = true := by decide +kernel
theorem dL_law_1729 : decode (MB ML_law) 1729 = .ok (.iaload, 1) := by decide +kernel
theorem sL_law_1730 : dsOk (MN ML_law).cls (MB ML_law) 1730 [(.i2l, 0, 0, 0), (.bipush 32, 0, 0, 32), (.lshl, 0, 0, 0), (.aload_n 0, 0, 0, 0), (.iload 4, 0, 0, 0), (.iconst 2, 0, 0, 0), (.iadd, 0, 0, 0)] 1739 = true := by decide +kernel
theorem dL_law_1739 : decode (MB ML_law) 1739 = .ok (.iaload, 1) := by decide +kernel
theorem sL_law_1740 : dsOk (MN ML_law).cls (MB ML_law) 1740 [(.i2l, 0, 0, 0), (.ldc2_w 188, 0, 0, 4294967295), (.land, 0, 0, 0), (.lor, 0, 0, 0), (.aload_n 0, 0, 0, 0), (.iload 4, 0, 0, 0), (.iconst 3, 0, 0, 0), (.iadd, 0, 0, 0)] 1751 = true := by decide +kernel
theorem dL_law_1751 : decode (MB ML_law) 1751 = .ok (.iaload, 1) := by decide +kernel
theorem sL_law_1752 : dsOk (MN ML_law).cls (MB ML_law) 1752 [(.aload_n 0, 0, 0, 0), (.iload 4, 0, 0, 0), (.iconst 4, 0, 0, 0), (.iadd, 0, 0, 0)] 1757 = true := by decide +kernel
theorem dL_law_1757 : decode (MB ML_law) 1757 = .ok (.iaload, 1) := by decide +kernel
theorem sL_law_1758 : dsOk (MN ML_law).cls (MB ML_law) 1758 [(.i2l, 0, 0, 0), (.bipush 32, 0, 0, 32), (.lshl, 0, 0, 0), (.aload_n 0, 0, 0, 0), (.iload 4, 0, 0, 0), (.iconst 5, 0, 0, 0), (.iadd, 0, 0, 0)] 1767 = true := by decide +kernel
theorem dL_law_1767 : decode (MB ML_law) 1767 = .ok (.iaload, 1) := by decide +kernel
theorem sL_law_1768 : dsOk (MN ML_law).cls (MB ML_law) 1768 [(.i2l, 0, 0, 0), (.ldc2_w 188, 0, 0, 4294967295), (.land, 0, 0, 0), (.lor, 0, 0, 0), (.aload_n 3, 0, 0, 0)] 1775 = true := by decide +kernel
theorem dL_law_1775 : decode (MB ML_law) 1775 = .ok (.invokestatic 220, 3) := by decide +kernel
theorem sL_law_1778 : dsOk (MN ML_law).cls (MB ML_law) 1778 [(.istore 5, 0, 0, 0), (.aload_n 2, 0, 0, 0), (.aload_n 0, 0, 0, 0), (.iload 4, 0, 0, 0), (.iconst 1, 0, 0, 0), (.iadd, 0, 0, 0)] 1786 = true := by decide +kernel
theorem dL_law_1786 : decode (MB ML_law) 1786 = .ok (.iaload, 1) := by decide +kernel
theorem sL_law_1787 : dsOk (MN ML_law).cls (MB ML_law) 1787 [(.i2l, 0, 0, 0), (.bipush 32, 0, 0, 32), (.lshl, 0, 0, 0), (.aload_n 0, 0, 0, 0), (.iload 4, 0, 0, 0), (.iconst 2, 0, 0, 0), (.iadd, 0, 0, 0)] 1796 = true := by decide +kernel
theorem dL_law_1796 : decode (MB ML_law) 1796 = .ok (.iaload, 1) := by decide +kernel
theorem sL_law_1797 : dsOk (MN ML_law).cls (MB ML_law) 1797 [(.i2l, 0, 0, 0), (.ldc2_w 188, 0, 0, 4294967295), (.land, 0, 0, 0), (.lor, 0, 0, 0), (.aload_n 0, 0, 0, 0), (.iload 4, 0, 0, 0), (.iconst 3, 0, 0, 0), (.iadd, 0, 0, 0)] 1808 = true := by decide +kernel
theorem dL_law_1808 : decode (MB ML_law) 1808 = .ok (.iaload, 1) := by decide +kernel
theorem sL_law_1809 : dsOk (MN ML_law).cls (MB ML_law) 1809 [(.aload_n 0, 0, 0, 0), (.iload 4, 0, 0, 0), (.iconst 4, 0, 0, 0), (.iadd, 0, 0, 0)] 1814 = true := by decide +kernel
theorem dL_law_1814 : decode (MB ML_law) 1814 = .ok (.iaload, 1) := by decide +kernel
theorem sL_law_1815 : dsOk (MN ML_law).cls (MB ML_law) 1815 [(.i2l, 0, 0, 0), (.bipush 32, 0, 0, 32), (.lshl, 0, 0, 0), (.aload_n 0, 0, 0, 0), (.iload 4, 0, 0, 0), (.iconst 5, 0, 0, 0), (.iadd, 0, 0, 0)] 1824 = true := by decide +kernel
theorem dL_law_1824 : decode (MB ML_law) 1824 = .ok (.iaload, 1) := by decide +kernel
theorem sL_law_1825 : dsOk (MN ML_law).cls (MB ML_law) 1825 [(.i2l, 0, 0, 0), (.ldc2_w 188, 0, 0, 4294967295), (.land, 0, 0, 0), (.lor, 0, 0, 0)] 1831 = true := by decide +kernel
theorem dL_law_1831 : decode (MB ML_law) 1831 = .ok (.invokevirtual 223, 3) := by decide +kernel
theorem sL_law_1834 : dsOk (MN ML_law).cls (MB ML_law) 1834 [(.istore 6, 0, 0, 0), (.aload_n 2, 0, 0, 0)] 1837 = true := by decide +kernel
theorem dL_law_1837 : decode (MB ML_law) 1837 = .ok (.invokevirtual 148, 3) := by decide +kernel
theorem sL_law_1840 : dsOk (MN ML_law).cls (MB ML_law) 1840 [(.iload 5, 0, 0, 0)] 1842 = true := by decide +kernel
theorem dL_law_1842 : decode (MB ML_law) 1842 = .ok (.if_icmp .eq 5, 3) := by decide +kernel
theorem sL_law_1845 : dsOk (MN ML_law).cls (MB ML_law) 1845 [(.iconst 0, 0, 0, 0)] 1846 = true := by decide +kernel
theorem dL_law_1846 : decode (MB ML_law) 1846 = .ok (.ireturn, 1) := by decide +kernel
theorem sL_law_1847 : dsOk (MN ML_law).cls (MB ML_law) 1847 [(.iload 5, 0, 0, 0)] 1849 = true := by decide +kernel
theorem dL_law_1849 : decode (MB ML_law) 1849 = .ok (.ifCond .ne 15, 3) := by decide +kernel
theorem sL_law_1852 : dsOk (MN ML_law).cls (MB ML_law) 1852 [(.aload_n 3, 0, 0, 0), (.iconst 0, 0, 0, 0), (.laload, 0, 0, 0), (.iload 6, 0, 0, 0), (.i2l, 0, 0, 0), (.lcmp, 0, 0, 0)] 1859 = true := by decide +kernel
theorem dL_law_1859 : decode (MB ML_law) 1859 = .ok (.ifCond .eq 5, 3) := by decide +kernel
theorem sL_law_1862 : dsOk (MN ML_law).cls (MB ML_law) 1862 [(.iconst 0, 0, 0, 0)] 1863 = true := by decide +kernel
theorem dL_law_1863 : decode (MB ML_law) 1863 = .ok (.ireturn, 1) := by decide +kernel
theorem dL_law_1864 : decode (MB ML_law) 1864 = .ok (.goto 1407, 3) := by decide +kernel
theorem sL_law_1867 : dsOk (MN ML_law).cls (MB ML_law) 1867 [(.aload_n 1, 0, 0, 0), (.aload_n 0, 0, 0, 0), (.iload 4, 0, 0, 0), (.iconst 1, 0, 0, 0), (.iadd, 0, 0, 0)] 1873 = true := by decide +kernel
theorem dL_law_1873 : decode (MB ML_law) 1873 = .ok (.iaload, 1) := by decide +kernel
theorem sL_law_1874 : dsOk (MN ML_law).cls (MB ML_law) 1874 [(.i2l, 0, 0, 0), (.bipush 32, 0, 0, 32), (.lshl, 0, 0, 0), (.aload_n 0, 0, 0, 0), (.iload 4, 0, 0, 0), (.iconst 2, 0, 0, 0), (.iadd, 0, 0, 0)] 1883 = true := by decide +kernel
theorem dL_law_1883 : decode (MB ML_law) 1883 = .ok (.iaload, 1) := by decide +kernel
theorem sL_law_1884 : dsOk (MN ML_law).cls (MB ML_law) 1884 [(.i2l, 0, 0, 0), (.ldc2_w 188, 0, 0, 4294967295), (.land, 0, 0, 0), (.lor, 0, 0, 0), (.aload_n 3, 0, 0, 0)] 1891 = true := by decide +kernel
theorem dL_law_1891 : decode (MB ML_law) 1891 = .ok (.invokestatic 224, 3) := by decide +kernel
theorem sL_law_1894 : dsOk (MN ML_law).cls (MB ML_law) 1894 [(.istore 5, 0, 0, 0), (.aload_n 2, 0, 0, 0), (.aload_n 0, 0, 0, 0), (.iload 4, 0, 0, 0), (.iconst 1, 0, 0, 0), (.iadd, 0, 0, 0)] 1902 = true := by decide +kernel
theorem dL_law_1902 : decode (MB ML_law) 1902 = .ok (.iaload, 1) := by decide +kernel
theorem sL_law_1903 : dsOk (MN ML_law).cls (MB ML_law) 1903 [(.i2l, 0, 0, 0), (.bipush 32, 0, 0, 32), (.lshl, 0, 0, 0), (.aload_n 0, 0, 0, 0), (.iload 4, 0, 0, 0), (.iconst 2, 0, 0, 0), (.iadd, 0, 0, 0)] 1912 = true := by decide +kernel
theorem dL_law_1912 : decode (MB ML_law) 1912 = .ok (.iaload, 1) := by decide +kernel
theorem sL_law_1913 : dsOk (MN ML_law).cls (MB ML_law) 1913 [(.i2l, 0, 0, 0), (.ldc2_w 188, 0, 0, 4294967295), (.land, 0, 0, 0), (.lor, 0, 0, 0)] 1919 = true := by decide +kernel
theorem dL_law_1919 : decode (MB ML_law) 1919 = .ok (.invokevirtual 226, 3) := by decide +kernel
theorem sL_law_1922 : dsOk (MN ML_law).cls (MB ML_law) 1922 [(.istore 6, 0, 0, 0), (.aload_n 2, 0, 0, 0)] 1925 = true := by decide +kernel
theorem dL_law_1925 : decode (MB ML_law) 1925 = .ok (.invokevirtual 148, 3) := by decide +kernel
theorem sL_law_1928 : dsOk (MN ML_law).cls (MB ML_law) 1928 [(.iload 5, 0, 0, 0)] 1930 = true := by decide +kernel
theorem dL_law_1930 : decode (MB ML_law) 1930 = .ok (.if_icmp .eq 5, 3) := by decide +kernel
theorem sL_law_1933 : dsOk (MN ML_law).cls (MB ML_law) 1933 [(.iconst 0, 0, 0, 0)] 1934 = true := by decide +kernel
theorem dL_law_1934 : decode (MB ML_law) 1934 = .ok (.ireturn, 1) := by decide +kernel
theorem sL_law_1935 : dsOk (MN ML_law).cls (MB ML_law) 1935 [(.iload 5, 0, 0, 0)] 1937 = true := by decide +kernel
theorem dL_law_1937 : decode (MB ML_law) 1937 = .ok (.ifCond .ne 15, 3) := by decide +kernel
theorem sL_law_1940 : dsOk (MN ML_law).cls (MB ML_law) 1940 [(.aload_n 3, 0, 0, 0), (.iconst 0, 0, 0, 0), (.laload, 0, 0, 0), (.iload 6, 0, 0, 0), (.i2l, 0, 0, 0), (.lcmp, 0, 0, 0)] 1947 = true := by decide +kernel
theorem dL_law_1947 : decode (MB ML_law) 1947 = .ok (.ifCond .eq 5, 3) := by decide +kernel
theorem sL_law_1950 : dsOk (MN ML_law).cls (MB ML_law) 1950 [(.iconst 0, 0, 0, 0)] 1951 = true := by decide +kernel
theorem dL_law_1951 : decode (MB ML_law) 1951 = .ok (.ireturn, 1) := by decide +kernel
theorem dL_law_1952 : decode (MB ML_law) 1952 = .ok (.goto 1319, 3) := by decide +kernel
theorem sL_law_1955 : dsOk (MN ML_law).cls (MB ML_law) 1955 [(.aload_n 1, 0, 0, 0), (.aload_n 0, 0, 0, 0), (.iload 4, 0, 0, 0), (.iconst 1, 0, 0, 0), (.iadd, 0, 0, 0)] 1961 = true := by decide +kernel
theorem dL_law_1961 : decode (MB ML_law) 1961 = .ok (.iaload, 1) := by decide +kernel
theorem sL_law_1962 : dsOk (MN ML_law).cls (MB ML_law) 1962 [(.aload_n 3, 0, 0, 0)] 1963 = true := by decide +kernel
theorem dL_law_1963 : decode (MB ML_law) 1963 = .ok (.invokestatic 227, 3) := by decide +kernel
theorem sL_law_1966 : dsOk (MN ML_law).cls (MB ML_law) 1966 [(.istore 5, 0, 0, 0), (.aload_n 2, 0, 0, 0), (.aload_n 0, 0, 0, 0), (.iload 4, 0, 0, 0), (.iconst 1, 0, 0, 0), (.iadd, 0, 0, 0)] 1974 = true := by decide +kernel
theorem dL_law_1974 : decode (MB ML_law) 1974 = .ok (.iaload, 1) := by decide +kernel
theorem dL_law_1975 : decode (MB ML_law) 1975 = .ok (.invokevirtual 229, 3) := by decide +kernel
theorem sL_law_1978 : dsOk (MN ML_law).cls (MB ML_law) 1978 [(.istore 6, 0, 0, 0), (.aload_n 2, 0, 0, 0)] 1981 = true := by decide +kernel
theorem dL_law_1981 : decode (MB ML_law) 1981 = .ok (.invokevirtual 148, 3) := by decide +kernel
theorem sL_law_1984 : dsOk (MN ML_law).cls (MB ML_law) 1984 [(.iload 5, 0, 0, 0)] 1986 = true := by decide +kernel
theorem dL_law_1986 : decode (MB ML_law) 1986 = .ok (.if_icmp .eq 5, 3) := by decide +kernel
theorem sL_law_1989 : dsOk (MN ML_law).cls (MB ML_law) 1989 [(.iconst 0, 0, 0, 0)] 1990 = true := by decide +kernel
theorem dL_law_1990 : decode (MB ML_law) 1990 = .ok (.ireturn, 1) := by decide +kernel
theorem sL_law_1991 : dsOk (MN ML_law).cls (MB ML_law) 1991 [(.iload 5, 0, 0, 0)] 1993 = true := by decide +kernel
theorem dL_law_1993 : decode (MB ML_law) 1993 = .ok (.ifCond .ne 15, 3) := by decide +kernel
theorem sL_law_1996 : dsOk (MN ML_law).cls (MB ML_law) 1996 [(.aload_n 3, 0, 0, 0), (.iconst 0, 0, 0, 0), (.laload, 0, 0, 0), (.iload 6, 0, 0, 0), (.i2l, 0, 0, 0), (.lcmp, 0, 0, 0)] 2003 = true := by decide +kernel
theorem dL_law_2003 : decode (MB ML_law) 2003 = .ok (.ifCond .eq 5, 3) := by decide +kernel
theorem sL_law_2006 : dsOk (MN ML_law).cls (MB ML_law) 2006 [(.iconst 0, 0, 0, 0)] 2007 = true := by decide +kernel
theorem dL_law_2007 : decode (MB ML_law) 2007 = .ok (.ireturn, 1) := by decide +kernel
theorem dL_law_2008 : decode (MB ML_law) 2008 = .ok (.goto 1263, 3) := by decide +kernel
theorem sL_law_2011 : dsOk (MN ML_law).cls (MB ML_law) 2011 [(.aload_n 1, 0, 0, 0), (.aload_n 0, 0, 0, 0), (.iload 4, 0, 0, 0), (.iconst 1, 0, 0, 0), (.iadd, 0, 0, 0)] 2017 = true := by decide +kernel
theorem dL_law_2017 : decode (MB ML_law) 2017 = .ok (.iaload, 1) := by decide +kernel
theorem sL_law_2018 : dsOk (MN ML_law).cls (MB ML_law) 2018 [(.aload_n 3, 0, 0, 0)] 2019 = true := by decide +kernel
theorem dL_law_2019 : decode (MB ML_law) 2019 = .ok (.invokestatic 230, 3) := by decide +kernel
theorem sL_law_2022 : dsOk (MN ML_law).cls (MB ML_law) 2022 [(.istore 5, 0, 0, 0), (.aload_n 2, 0, 0, 0), (.aload_n 0, 0, 0, 0), (.iload 4, 0, 0, 0), (.iconst 1, 0, 0, 0), (.iadd, 0, 0, 0)] 2030 = true := by decide +kernel
theorem dL_law_2030 : decode (MB ML_law) 2030 = .ok (.iaload, 1) := by decide +kernel
theorem dL_law_2031 : decode (MB ML_law) 2031 = .ok (.invokevirtual 232, 3) := by decide +kernel
theorem sL_law_2034 : dsOk (MN ML_law).cls (MB ML_law) 2034 [(.istore 6, 0, 0, 0), (.aload_n 2, 0, 0, 0)] 2037 = true := by decide +kernel
theorem dL_law_2037 : decode (MB ML_law) 2037 = .ok (.invokevirtual 148, 3) := by decide +kernel
theorem sL_law_2040 : dsOk (MN ML_law).cls (MB ML_law) 2040 [(.iload 5, 0, 0, 0)] 2042 = true := by decide +kernel
theorem dL_law_2042 : decode (MB ML_law) 2042 = .ok (.if_icmp .eq 5, 3) := by decide +kernel
theorem sL_law_2045 : dsOk (MN ML_law).cls (MB ML_law) 2045 [(.iconst 0, 0, 0, 0)] 2046 = true := by decide +kernel
theorem dL_law_2046 : decode (MB ML_law) 2046 = .ok (.ireturn, 1) := by decide +kernel
theorem sL_law_2047 : dsOk (MN ML_law).cls (MB ML_law) 2047 [(.iload 5, 0, 0, 0)] 2049 = true := by decide +kernel
theorem dL_law_2049 : decode (MB ML_law) 2049 = .ok (.ifCond .ne 15, 3) := by decide +kernel
theorem sL_law_2052 : dsOk (MN ML_law).cls (MB ML_law) 2052 [(.aload_n 3, 0, 0, 0), (.iconst 0, 0, 0, 0), (.laload, 0, 0, 0), (.iload 6, 0, 0, 0), (.i2l, 0, 0, 0), (.lcmp, 0, 0, 0)] 2059 = true := by decide +kernel
theorem dL_law_2059 : decode (MB ML_law) 2059 = .ok (.ifCond .eq 5, 3) := by decide +kernel
theorem sL_law_2062 : dsOk (MN ML_law).cls (MB ML_law) 2062 [(.iconst 0, 0, 0, 0)] 2063 = true := by decide +kernel
theorem dL_law_2063 : decode (MB ML_law) 2063 = .ok (.ireturn, 1) := by decide +kernel
theorem dL_law_2064 : decode (MB ML_law) 2064 = .ok (.goto 1207, 3) := by decide +kernel
theorem sL_law_2067 : dsOk (MN ML_law).cls (MB ML_law) 2067 [(.aload_n 1, 0, 0, 0), (.aload_n 0, 0, 0, 0), (.iload 4, 0, 0, 0), (.iconst 1, 0, 0, 0), (.iadd, 0, 0, 0)] 2073 = true := by decide +kernel
theorem dL_law_2073 : decode (MB ML_law) 2073 = .ok (.iaload, 1) := by decide +kernel
theorem sL_law_2074 : dsOk (MN ML_law).cls (MB ML_law) 2074 [(.aload_n 0, 0, 0, 0), (.iload 4, 0, 0, 0), (.iconst 2, 0, 0, 0), (.iadd, 0, 0, 0)] 2079 = true := by decide +kernel
theorem dL_law_2079 : decode (MB ML_law) 2079 = .ok (.iaload, 1) := by decide +kernel
theorem sL_law_2080 : dsOk (MN ML_law).cls (MB ML_law) 2080 [(.i2l, 0, 0, 0), (.bipush 32, 0, 0, 32), (.lshl, 0, 0, 0), (.aload_n 0, 0, 0, 0), (.iload 4, 0, 0, 0), (.iconst 3, 0, 0, 0), (.iadd, 0, 0, 0)] 2089 = true := by decide +kernel
theorem dL_law_2089 : decode (MB ML_law) 2089 = .ok (.iaload, 1) := by decide +kernel
theorem sL_law_2090 : dsOk (MN ML_law).cls (MB ML_law) 2090 [(.i2l, 0, 0, 0), (.ldc2_w 188, 0, 0, 4294967295), (.land, 0, 0, 0), (.lor, 0, 0, 0), (.aload_n 0, 0, 0, 0), (.iload 4, 0, 0, 0), (.iconst 4, 0, 0, 0), (.iadd, 0, 0, 0)] 2101 = true := by decide +kernel
theorem dL_law_2101 : decode (MB ML_law) 2101 = .ok (.iaload, 1) := by decide +kernel
theorem dL_law_2102 : decode (MB ML_law) 2102 = .ok (.ifCond .eq 7, 3) := by decide +kernel
theorem sL_law_2105 : dsOk (MN ML_law).cls (MB ML_law) 2105 [(.iconst 1, 0, 0, 0)] 2106 = true := by decide +kernel
theorem dL_law_2106 : decode (MB ML_law) 2106 = .ok (.goto 4, 3) := by decide +kernel
theorem sL_law_2109 : dsOk (MN ML_law).cls (MB ML_law) 2109 [(.iconst 0, 0, 0, 0)] 2110 = true := by decide +kernel
theorem sL_law_2110 : dsOk (MN ML_law).cls (MB ML_law) 2110 [(.aload_n 3, 0, 0, 0)] 2111 = true := by decide +kernel
theorem dL_law_2111 : decode (MB ML_law) 2111 = .ok (.invokestatic 233, 3) := by decide +kernel
theorem sL_law_2114 : dsOk (MN ML_law).cls (MB ML_law) 2114 [(.istore 5, 0, 0, 0), (.aload_n 2, 0, 0, 0), (.aload_n 0, 0, 0, 0), (.iload 4, 0, 0, 0), (.iconst 1, 0, 0, 0), (.iadd, 0, 0, 0)] 2122 = true := by decide +kernel
theorem dL_law_2122 : decode (MB ML_law) 2122 = .ok (.iaload, 1) := by decide +kernel
theorem sL_law_2123 : dsOk (MN ML_law).cls (MB ML_law) 2123 [(.aload_n 0, 0, 0, 0), (.iload 4, 0, 0, 0), (.iconst 2, 0, 0, 0), (.iadd, 0, 0, 0)] 2128 = true := by decide +kernel
theorem dL_law_2128 : decode (MB ML_law) 2128 = .ok (.iaload, 1) := by decide +kernel
theorem sL_law_2129 : dsOk (MN ML_law).cls (MB ML_law) 2129 [(.i2l, 0, 0, 0), (.bipush 32, 0, 0, 32), (.lshl, 0, 0, 0), (.aload_n 0, 0, 0, 0), (.iload 4, 0, 0, 0), (.iconst 3, 0, 0, 0), (.iadd, 0, 0, 0)] 2138 = true := by decide +kernel
theorem dL_law_2138 : decode (MB ML_law) 2138 = .ok (.iaload, 1) := by decide +kernel
theorem sL_law_2139 : dsOk (MN ML_law).cls (MB ML_law) 2139 [(.i2l, 0, 0, 0), (.ldc2_w 188, 0, 0, 4294967295), (.land, 0, 0, 0), (.lor, 0, 0, 0), (.aload_n 0, 0, 0, 0), (.iload 4, 0, 0, 0), (.iconst 4, 0, 0, 0), (.iadd, 0, 0, 0)] 2150 = true := by decide +kernel
theorem dL_law_2150 : decode (MB ML_law) 2150 = .ok (.iaload, 1) := by decide +kernel
theorem dL_law_2151 : decode (MB ML_law) 2151 = .ok (.ifCond .eq 7, 3) := by decide +kernel
theorem sL_law_2154 : dsOk (MN ML_law).cls (MB ML_law) 2154 [(.iconst 1, 0, 0, 0)] 2155 = true := by decide +kernel
theorem dL_law_2155 : decode (MB ML_law) 2155 = .ok (.goto 4, 3) := by decide +kernel
theorem sL_law_2158 : dsOk (MN ML_law).cls (MB ML_law) 2158 [(.iconst 0, 0, 0, 0)] 2159 = true := by decide +kernel
theorem dL_law_2159 : decode (MB ML_law) 2159 = .ok (.invokevirtual 236, 3) := by decide +kernel
theorem sL_law_2162 : dsOk (MN ML_law).cls (MB ML_law) 2162 [(.lstore 6, 0, 0, 0), (.aload_n 2, 0, 0, 0)] 2165 = true := by decide +kernel
theorem dL_law_2165 : decode (MB ML_law) 2165 = .ok (.invokevirtual 148, 3) := by decide +kernel
theorem sL_law_2168 : dsOk (MN ML_law).cls (MB ML_law) 2168 [(.iload 5, 0, 0, 0)] 2170 = true := by decide +kernel
theorem dL_law_2170 : decode (MB ML_law) 2170 = .ok (.if_icmp .eq 5, 3) := by decide +kernel
theorem sL_law_2173 : dsOk (MN ML_law).cls (MB ML_law) 2173 [(.iconst 0, 0, 0, 0)] 2174 = true := by decide +kernel
theorem dL_law_2174 : decode (MB ML_law) 2174 = .ok (.ireturn, 1) := by decide +kernel
theorem sL_law_2175 : dsOk (MN ML_law).cls (MB ML_law) 2175 [(.iload 5, 0, 0, 0)] 2177 = true := by decide +kernel
theorem dL_law_2177 : decode (MB ML_law) 2177 = .ok (.ifCond .ne 14, 3) := by decide +kernel
theorem sL_law_2180 : dsOk (MN ML_law).cls (MB ML_law) 2180 [(.aload_n 3, 0, 0, 0), (.iconst 0, 0, 0, 0), (.laload, 0, 0, 0), (.lload 6, 0, 0, 0), (.lcmp, 0, 0, 0)] 2186 = true := by decide +kernel
theorem dL_law_2186 : decode (MB ML_law) 2186 = .ok (.ifCond .eq 5, 3) := by decide +kernel
theorem sL_law_2189 : dsOk (MN ML_law).cls (MB ML_law) 2189 [(.iconst 0, 0, 0, 0)] 2190 = true := by decide +kernel
theorem dL_law_2190 : decode (MB ML_law) 2190 = .ok (.ireturn, 1) := by decide +kernel
theorem dL_law_2191 : decode (MB ML_law) 2191 = .ok (.goto 1080, 3) := by decide +kernel
theorem sL_law_2194 : dsOk (MN ML_law).cls (MB ML_law) 2194 [(.aload_n 1, 0, 0, 0), (.aload_n 0, 0, 0, 0), (.iload 4, 0, 0, 0), (.iconst 1, 0, 0, 0), (.iadd, 0, 0, 0)] 2200 = true := by decide +kernel
theorem dL_law_2200 : decode (MB ML_law) 2200 = .ok (.iaload, 1) := by decide +kernel
theorem sL_law_2201 : dsOk (MN ML_law).cls (MB ML_law) 2201 [(.aload_n 3, 0, 0, 0)] 2202 = true := by decide +kernel
theorem dL_law_2202 : decode (MB ML_law) 2202 = .ok (.invokestatic 237, 3) := by decide +kernel
theorem sL_law_2205 : dsOk (MN ML_law).cls (MB ML_law) 2205 [(.istore 5, 0, 0, 0), (.aload_n 2, 0, 0, 0), (.aload_n 0, 0, 0, 0), (.iload 4, 0, 0, 0), (.iconst 1, 0, 0, 0), (.iadd, 0, 0, 0)] 2213 = true := by decide +kernel
theorem dL_law_2213 : decode (MB ML_law) 2213 = .ok (.iaload, 1) := by decide +kernel
theorem dL_law_2214 : decode (MB ML_law) 2214 = .ok (.invokevirtual 239, 3) := by decide +kernel
theorem sL_law_2217 : dsOk (MN ML_law).cls (MB ML_law) 2217 [(.istore 6, 0, 0, 0), (.aload_n 2, 0, 0, 0)] 2220 = true := by decide +kernel
theorem dL_law_2220 : decode (MB ML_law) 2220 = .ok (.invokevirtual 148, 3) := by decide +kernel
theorem sL_law_2223 : dsOk (MN ML_law).cls (MB ML_law) 2223 [(.iload 5, 0, 0, 0)] 2225 = true := by decide +kernel
theorem dL_law_2225 : decode (MB ML_law) 2225 = .ok (.if_icmp .eq 5, 3) := by decide +kernel
theorem sL_law_2228 : dsOk (MN ML_law).cls (MB ML_law) 2228 [(.iconst 0, 0, 0, 0)] 2229 = true := by decide +kernel
theorem dL_law_2229 : decode (MB ML_law) 2229 = .ok (.ireturn, 1) := by decide +kernel
theorem sL_law_2230 : dsOk (MN ML_law).cls (MB ML_law) 2230 [(.iload 5, 0, 0, 0)] 2232 = true := by decide +kernel
theorem dL_law_2232 : decode (MB ML_law) 2232 = .ok (.ifCond .ne 15, 3) := by decide +kernel
theorem sL_law_2235 : dsOk (MN ML_law).cls (MB ML_law) 2235 [(.aload_n 3, 0, 0, 0), (.iconst 0, 0, 0, 0), (.laload, 0, 0, 0), (.iload 6, 0, 0, 0), (.i2l, 0, 0, 0), (.lcmp, 0, 0, 0)] 2242 = true := by decide +kernel
theorem dL_law_2242 : decode (MB ML_law) 2242 = .ok (.ifCond .eq 5, 3) := by decide +kernel
theorem sL_law_2245 : dsOk (MN ML_law).cls (MB ML_law) 2245 [(.iconst 0, 0, 0, 0)] 2246 = true := by decide +kernel
theorem dL_law_2246 : decode (MB ML_law) 2246 = .ok (.ireturn, 1) := by decide +kernel
theorem dL_law_2247 : decode (MB ML_law) 2247 = .ok (.goto 1024, 3) := by decide +kernel
theorem sL_law_2250 : dsOk (MN ML_law).cls (MB ML_law) 2250 [(.aload_n 1, 0, 0, 0), (.aload_n 0, 0, 0, 0), (.iload 4, 0, 0, 0), (.iconst 1, 0, 0, 0), (.iadd, 0, 0, 0)] 2256 = true := by decide +kernel
theorem dL_law_2256 : decode (MB ML_law) 2256 = .ok (.iaload, 1) := by decide +kernel
theorem sL_law_2257 : dsOk (MN ML_law).cls (MB ML_law) 2257 [(.aload_n 3, 0, 0, 0)] 2258 = true := by decide +kernel
theorem dL_law_2258 : decode (MB ML_law) 2258 = .ok (.invokestatic 240, 3) := by decide +kernel
theorem sL_law_2261 : dsOk (MN ML_law).cls (MB ML_law) 2261 [(.istore 5, 0, 0, 0), (.aload_n 2, 0, 0, 0), (.aload_n 0, 0, 0, 0), (.iload 4, 0, 0, 0), (.iconst 1, 0, 0, 0), (.iadd, 0, 0, 0)] 2269 = true := by decide +kernel
theorem dL_law_2269 : decode (MB ML_law) 2269 = .ok (.iaload, 1) := by decide +kernel
theorem dL_law_2270 : decode (MB ML_law) 2270 = .ok (.invokevirtual 242, 3) := by decide +kernel
theorem sL_law_2273 : dsOk (MN ML_law).cls (MB ML_law) 2273 [(.istore 6, 0, 0, 0), (.aload_n 2, 0, 0, 0)] 2276 = true := by decide +kernel
theorem dL_law_2276 : decode (MB ML_law) 2276 = .ok (.invokevirtual 148, 3) := by decide +kernel
theorem sL_law_2279 : dsOk (MN ML_law).cls (MB ML_law) 2279 [(.iload 5, 0, 0, 0)] 2281 = true := by decide +kernel
theorem dL_law_2281 : decode (MB ML_law) 2281 = .ok (.if_icmp .eq 5, 3) := by decide +kernel
theorem sL_law_2284 : dsOk (MN ML_law).cls (MB ML_law) 2284 [(.iconst 0, 0, 0, 0)] 2285 = true := by decide +kernel
theorem dL_law_2285 : decode (MB ML_law) 2285 = .ok (.ireturn, 1) := by decide +kernel
theorem sL_law_2286 : dsOk (MN ML_law).cls (MB ML_law) 2286 [(.iload 5, 0, 0, 0)] 2288 = true := by decide +kernel
theorem dL_law_2288 : decode (MB ML_law) 2288 = .ok (.ifCond .ne 15, 3) := by decide +kernel
theorem sL_law_2291 : dsOk (MN ML_law).cls (MB ML_law) 2291 [(.aload_n 3, 0, 0, 0), (.iconst 0, 0, 0, 0), (.laload, 0, 0, 0), (.iload 6, 0, 0, 0), (.i2l, 0, 0, 0), (.lcmp, 0, 0, 0)] 2298 = true := by decide +kernel
theorem dL_law_2298 : decode (MB ML_law) 2298 = .ok (.ifCond .eq 5, 3) := by decide +kernel
theorem sL_law_2301 : dsOk (MN ML_law).cls (MB ML_law) 2301 [(.iconst 0, 0, 0, 0)] 2302 = true := by decide +kernel
theorem dL_law_2302 : decode (MB ML_law) 2302 = .ok (.ireturn, 1) := by decide +kernel
theorem dL_law_2303 : decode (MB ML_law) 2303 = .ok (.goto 968, 3) := by decide +kernel
theorem sL_law_2306 : dsOk (MN ML_law).cls (MB ML_law) 2306 [(.aload_n 1, 0, 0, 0), (.aload_n 0, 0, 0, 0), (.iload 4, 0, 0, 0), (.iconst 1, 0, 0, 0), (.iadd, 0, 0, 0)] 2312 = true := by decide +kernel
theorem dL_law_2312 : decode (MB ML_law) 2312 = .ok (.iaload, 1) := by decide +kernel
theorem sL_law_2313 : dsOk (MN ML_law).cls (MB ML_law) 2313 [(.aload_n 0, 0, 0, 0), (.iload 4, 0, 0, 0), (.iconst 2, 0, 0, 0), (.iadd, 0, 0, 0)] 2318 = true := by decide +kernel
theorem dL_law_2318 : decode (MB ML_law) 2318 = .ok (.iaload, 1) := by decide +kernel
theorem sL_law_2319 : dsOk (MN ML_law).cls (MB ML_law) 2319 [(.aload_n 3, 0, 0, 0)] 2320 = true := by decide +kernel
theorem dL_law_2320 : decode (MB ML_law) 2320 = .ok (.invokestatic 243, 3) := by decide +kernel
theorem sL_law_2323 : dsOk (MN ML_law).cls (MB ML_law) 2323 [(.istore 5, 0, 0, 0), (.aload_n 2, 0, 0, 0), (.aload_n 0, 0, 0, 0), (.iload 4, 0, 0, 0), (.iconst 1, 0, 0, 0), (.iadd, 0, 0, 0)] 2331 = true := by decide +kernel
theorem dL_law_2331 : decode (MB ML_law) 2331 = .ok (.iaload, 1) := by decide +kernel
theorem sL_law_2332 : dsOk (MN ML_law).cls (MB ML_law) 2332 [(.aload_n 0, 0, 0, 0), (.iload 4, 0, 0, 0), (.iconst 2, 0, 0, 0), (.iadd, 0, 0, 0)] 2337 = true := by decide +kernel
theorem dL_law_2337 : decode (MB ML_law) 2337 = .ok (.iaload, 1) := by decide +kernel
theorem dL_law_2338 : decode (MB ML_law) 2338 = .ok (.invokevirtual 245, 3) := by decide +kernel
theorem sL_law_2341 : dsOk (MN ML_law).cls (MB ML_law) 2341 [(.istore 6, 0, 0, 0), (.aload_n 2, 0, 0, 0)] 2344 = true := by decide +kernel
theorem dL_law_2344 : decode (MB ML_law) 2344 = .ok (.invokevirtual 148, 3) := by decide +kernel
theorem sL_law_2347 : dsOk (MN ML_law).cls (MB ML_law) 2347 [(.iload 5, 0, 0, 0)] 2349 = true := by decide +kernel
theorem dL_law_2349 : decode (MB ML_law) 2349 = .ok (.if_icmp .eq 5, 3) := by decide +kernel
theorem sL_law_2352 : dsOk (MN ML_law).cls (MB ML_law) 2352 [(.iconst 0, 0, 0, 0)] 2353 = true := by decide +kernel
theorem dL_law_2353 : decode (MB ML_law) 2353 = .ok (.ireturn, 1) := by decide +kernel
theorem sL_law_2354 : dsOk (MN ML_law).cls (MB ML_law) 2354 [(.iload 5, 0, 0, 0)] 2356 = true := by decide +kernel
theorem dL_law_2356 : decode (MB ML_law) 2356 = .ok (.ifCond .ne 15, 3) := by decide +kernel
theorem sL_law_2359 : dsOk (MN ML_law).cls (MB ML_law) 2359 [(.aload_n 3, 0, 0, 0), (.iconst 0, 0, 0, 0), (.laload, 0, 0, 0), (.iload 6, 0, 0, 0), (.i2l, 0, 0, 0), (.lcmp, 0, 0, 0)] 2366 = true := by decide +kernel
theorem dL_law_2366 : decode (MB ML_law) 2366 = .ok (.ifCond .eq 5, 3) := by decide +kernel
theorem sL_law_2369 : dsOk (MN ML_law).cls (MB ML_law) 2369 [(.iconst 0, 0, 0, 0)] 2370 = true := by decide +kernel
theorem dL_law_2370 : decode (MB ML_law) 2370 = .ok (.ireturn, 1) := by decide +kernel
theorem dL_law_2371 : decode (MB ML_law) 2371 = .ok (.goto 900, 3) := by decide +kernel
theorem sL_law_2374 : dsOk (MN ML_law).cls (MB ML_law) 2374 [(.aload_n 1, 0, 0, 0), (.aload_n 0, 0, 0, 0), (.iload 4, 0, 0, 0), (.iconst 1, 0, 0, 0), (.iadd, 0, 0, 0)] 2380 = true := by decide +kernel
theorem dL_law_2380 : decode (MB ML_law) 2380 = .ok (.iaload, 1) := by decide +kernel
theorem sL_law_2381 : dsOk (MN ML_law).cls (MB ML_law) 2381 [(.aload_n 0, 0, 0, 0), (.iload 4, 0, 0, 0), (.iconst 2, 0, 0, 0), (.iadd, 0, 0, 0)] 2386 = true := by decide +kernel
theorem dL_law_2386 : decode (MB ML_law) 2386 = .ok (.iaload, 1) := by decide +kernel
theorem sL_law_2387 : dsOk (MN ML_law).cls (MB ML_law) 2387 [(.aload_n 0, 0, 0, 0), (.iload 4, 0, 0, 0), (.iconst 3, 0, 0, 0), (.iadd, 0, 0, 0)] 2392 = true := by decide +kernel
theorem dL_law_2392 : decode (MB ML_law) 2392 = .ok (.iaload, 1) := by decide +kernel
theorem sL_law_2393 : dsOk (MN ML_law).cls (MB ML_law) 2393 [(.aload_n 3, 0, 0, 0)] 2394 = true := by decide +kernel
theorem dL_law_2394 : decode (MB ML_law) 2394 = .ok (.invokestatic 246, 3) := by decide +kernel
theorem sL_law_2397 : dsOk (MN ML_law).cls (MB ML_law) 2397 [(.istore 5, 0, 0, 0), (.aload_n 2, 0, 0, 0), (.aload_n 0, 0, 0, 0), (.iload 4, 0, 0, 0), (.iconst 1, 0, 0, 0), (.iadd, 0, 0, 0)] 2405 = true := by decide +kernel
theorem dL_law_2405 : decode (MB ML_law) 2405 = .ok (.iaload, 1) := by decide +kernel
theorem sL_law_2406 : dsOk (MN ML_law).cls (MB ML_law) 2406 [(.aload_n 0, 0, 0, 0), (.iload 4, 0, 0, 0), (.iconst 2, 0, 0, 0), (.iadd, 0, 0, 0)] 2411 = true := by decide +kernel
theorem dL_law_2411 : decode (MB ML_law) 2411 = .ok (.iaload, 1) := by decide +kernel
theorem sL_law_2412 : dsOk (MN ML_law).cls (MB ML_law) 2412 [(.aload_n 0, 0, 0, 0), (.iload 4, 0, 0, 0), (.iconst 3, 0, 0, 0), (.iadd, 0, 0, 0)] 2417 = true := by decide +kernel
theorem dL_law_2417 : decode (MB ML_law) 2417 = .ok (.iaload, 1) := by decide +kernel
theorem dL_law_2418 : decode (MB ML_law) 2418 = .ok (.invokevirtual 249, 3) := by decide +kernel
theorem sL_law_2421 : dsOk (MN ML_law).cls (MB ML_law) 2421 [(.istore 6, 0, 0, 0), (.aload_n 2, 0, 0, 0)] 2424 = true := by decide +kernel
theorem dL_law_2424 : decode (MB ML_law) 2424 = .ok (.invokevirtual 148, 3) := by decide +kernel
theorem sL_law_2427 : dsOk (MN ML_law).cls (MB ML_law) 2427 [(.iload 5, 0, 0, 0)] 2429 = true := by decide +kernel
theorem dL_law_2429 : decode (MB ML_law) 2429 = .ok (.if_icmp .eq 5, 3) := by decide +kernel
theorem sL_law_2432 : dsOk (MN ML_law).cls (MB ML_law) 2432 [(.iconst 0, 0, 0, 0)] 2433 = true := by decide +kernel
theorem dL_law_2433 : decode (MB ML_law) 2433 = .ok (.ireturn, 1) := by decide +kernel
theorem sL_law_2434 : dsOk (MN ML_law).cls (MB ML_law) 2434 [(.iload 5, 0, 0, 0)] 2436 = true := by decide +kernel
theorem dL_law_2436 : decode (MB ML_law) 2436 = .ok (.ifCond .ne 15, 3) := by decide +kernel
theorem sL_law_2439 : dsOk (MN ML_law).cls (MB ML_law) 2439 [(.aload_n 3, 0, 0, 0), (.iconst 0, 0, 0, 0), (.laload, 0, 0, 0), (.iload 6, 0, 0, 0), (.i2l, 0, 0, 0), (.lcmp, 0, 0, 0)] 2446 = true := by decide +kernel
theorem dL_law_2446 : decode (MB ML_law) 2446 = .ok (.ifCond .eq 5, 3) := by decide +kernel
theorem sL_law_2449 : dsOk (MN ML_law).cls (MB ML_law) 2449 [(.iconst 0, 0, 0, 0)] 2450 = true := by decide +kernel
theorem dL_law_2450 : decode (MB ML_law) 2450 = .ok (.ireturn, 1) := by decide +kernel
theorem dL_law_2451 : decode (MB ML_law) 2451 = .ok (.goto 820, 3) := by decide +kernel
theorem sL_law_2454 : dsOk (MN ML_law).cls (MB ML_law) 2454 [(.aload_n 1, 0, 0, 0), (.aload_n 0, 0, 0, 0), (.iload 4, 0, 0, 0), (.iconst 1, 0, 0, 0), (.iadd, 0, 0, 0)] 2460 = true := by decide +kernel
theorem dL_law_2460 : decode (MB ML_law) 2460 = .ok (.iaload, 1) := by decide +kernel
theorem sL_law_2461 : dsOk (MN ML_law).cls (MB ML_law) 2461 [(.i2l, 0, 0, 0), (.bipush 32, 0, 0, 32), (.lshl, 0, 0, 0), (.aload_n 0, 0, 0, 0), (.iload 4, 0, 0, 0), (.iconst 2, 0, 0, 0), (.iadd, 0, 0, 0)] 2470 = true := by decide +kernel
theorem dL_law_2470 : decode (MB ML_law) 2470 = .ok (.iaload, 1) := by decide +kernel
theorem sL_law_2471 : dsOk (MN ML_law).cls (MB ML_law) 2471 [(.i2l, 0, 0, 0), (.ldc2_w 188, 0, 0, 4294967295), (.land, 0, 0, 0), (.lor, 0, 0, 0), (.aload_n 0, 0, 0, 0), (.iload 4, 0, 0, 0), (.iconst 3, 0, 0, 0), (.iadd, 0, 0, 0)] 2482 = true := by decide +kernel
theorem dL_law_2482 : decode (MB ML_law) 2482 = .ok (.iaload, 1) := by decide +kernel
theorem sL_law_2483 : dsOk (MN ML_law).cls (MB ML_law) 2483 [(.aload_n 0, 0, 0, 0), (.iload 4, 0, 0, 0), (.iconst 4, 0, 0, 0), (.iadd, 0, 0, 0)] 2488 = true := by decide +kernel
theorem dL_law_2488 : decode (MB ML_law) 2488 = .ok (.iaload, 1) := by decide +kernel
theorem sL_law_2489 : dsOk (MN ML_law).cls (MB ML_law) 2489 [(.aload_n 0, 0, 0, 0), (.iload 4, 0, 0, 0), (.iconst 5, 0, 0, 0), (.iadd, 0, 0, 0)] 2494 = true := by decide +kernel
theorem dL_law_2494 : decode (MB ML_law) 2494 = .ok (.iaload, 1) := by decide +kernel
theorem sL_law_2495 : dsOk (MN ML_law).cls (MB ML_law) 2495 [(.i2l, 0, 0, 0), (.bipush 32, 0, 0, 32), (.lshl, 0, 0, 0), (.aload_n 0, 0, 0, 0), (.iload 4, 0, 0, 0), (.bipush 6, 0, 0, 6), (.iadd, 0, 0, 0)] 2505 = true := by decide +kernel
theorem dL_law_2505 : decode (MB ML_law) 2505 = .ok (.iaload, 1) := by decide +kernel
theorem sL_law_2506 : dsOk (MN ML_law).cls (MB ML_law) 2506 [(.i2l, 0, 0, 0), (.ldc2_w 188, 0, 0, 4294967295), (.land, 0, 0, 0), (.lor, 0, 0, 0), (.aload_n 3, 0, 0, 0)] 2513 = true := by decide +kernel
theorem dL_law_2513 : decode (MB ML_law) 2513 = .ok (.invokestatic 250, 3) := by decide +kernel
theorem sL_law_2516 : dsOk (MN ML_law).cls (MB ML_law) 2516 [(.istore 5, 0, 0, 0), (.aload_n 2, 0, 0, 0), (.aload_n 0, 0, 0, 0), (.iload 4, 0, 0, 0), (.iconst 1, 0, 0, 0), (.iadd, 0, 0, 0)] 2524 = true := by decide +kernel
theorem dL_law_2524 : decode (MB ML_law) 2524 = .ok (.iaload, 1) := by decide +kernel
theorem sL_law_2525 : dsOk (MN ML_law).cls (MB ML_law) 2525 [(.i2l, 0, 0, 0), (.bipush 32, 0, 0, 32), (.lshl, 0, 0, 0), (.aload_n 0, 0, 0, 0), (.iload 4, 0, 0, 0), (.iconst 2, 0, 0, 0), (.iadd, 0, 0, 0)] 2534 = true := by decide +kernel
theorem dL_law_2534 : decode (MB ML_law) 2534 = .ok (.iaload, 1) := by decide +kernel
theorem sL_law_2535 : dsOk (MN ML_law).cls (MB ML_law) 2535 [(.i2l, 0, 0, 0), (.ldc2_w 188, 0, 0, 4294967295), (.land, 0, 0, 0), (.lor, 0, 0, 0), (.aload_n 0, 0, 0, 0), (.iload 4, 0, 0, 0), (.iconst 3, 0, 0, 0), (.iadd, 0, 0, 0)] 2546 = true := by decide +kernel
theorem dL_law_2546 : decode (MB ML_law) 2546 = .ok (.iaload, 1) := by decide +kernel
theorem sL_law_2547 : dsOk (MN ML_law).cls (MB ML_law) 2547 [(.aload_n 0, 0, 0, 0), (.iload 4, 0, 0, 0), (.iconst 4, 0, 0, 0), (.iadd, 0, 0, 0)] 2552 = true := by decide +kernel
theorem dL_law_2552 : decode (MB ML_law) 2552 = .ok (.iaload, 1) := by decide +kernel
theorem sL_law_2553 : dsOk (MN ML_law).cls (MB ML_law) 2553 [(.aload_n 0, 0, 0, 0), (.iload 4, 0, 0, 0), (.iconst 5, 0, 0, 0), (.iadd, 0, 0, 0)] 2558 = true := by decide +kernel
theorem dL_law_2558 : decode (MB ML_law) 2558 = .ok (.iaload, 1) := by decide +kernel
theorem sL_law_2559 : dsOk (MN ML_law).cls (MB ML_law) 2559 [(.i2l, 0, 0, 0), (.bipush 32, 0, 0, 32), (.lshl, 0, 0, 0), (.aload_n 0, 0, 0, 0), (.iload 4, 0, 0, 0), (.bipush 6, 0, 0, 6), (.iadd, 0, 0, 0)] 2569 = true := by decide +kernel
theorem dL_law_2569 : decode (MB ML_law) 2569 = .ok (.iaload, 1) := by decide +kernel
theorem sL_law_2570 : dsOk (MN ML_law).cls (MB ML_law) 2570 [(.i2l, 0, 0, 0), (.ldc2_w 188, 0, 0, 4294967295), (.land, 0, 0, 0), (.lor, 0, 0, 0)] 2576 = true := by decide +kernel
theorem dL_law_2576 : decode (MB ML_law) 2576 = .ok (.invokevirtual 253, 3) := by decide +kernel
theorem sL_law_2579 : dsOk (MN ML_law).cls (MB ML_law) 2579 [(.lstore 6, 0, 0, 0), (.aload_n 2, 0, 0, 0)] 2582 = true := by decide +kernel
theorem dL_law_2582 : decode (MB ML_law) 2582 = .ok (.invokevirtual 148, 3) := by decide +kernel
theorem sL_law_2585 : dsOk (MN ML_law).cls (MB ML_law) 2585 [(.iload 5, 0, 0, 0)] 2587 = true := by decide +kernel
theorem dL_law_2587 : decode (MB ML_law) 2587 = .ok (.if_icmp .eq 5, 3) := by decide +kernel
theorem sL_law_2590 : dsOk (MN ML_law).cls (MB ML_law) 2590 [(.iconst 0, 0, 0, 0)] 2591 = true := by decide +kernel
theorem dL_law_2591 : decode (MB ML_law) 2591 = .ok (.ireturn, 1) := by decide +kernel
theorem sL_law_2592 : dsOk (MN ML_law).cls (MB ML_law) 2592 [(.iload 5, 0, 0, 0)] 2594 = true := by decide +kernel
theorem dL_law_2594 : decode (MB ML_law) 2594 = .ok (.ifCond .ne 14, 3) := by decide +kernel
theorem sL_law_2597 : dsOk (MN ML_law).cls (MB ML_law) 2597 [(.aload_n 3, 0, 0, 0), (.iconst 0, 0, 0, 0), (.laload, 0, 0, 0), (.lload 6, 0, 0, 0), (.lcmp, 0, 0, 0)] 2603 = true := by decide +kernel
theorem dL_law_2603 : decode (MB ML_law) 2603 = .ok (.ifCond .eq 5, 3) := by decide +kernel
theorem sL_law_2606 : dsOk (MN ML_law).cls (MB ML_law) 2606 [(.iconst 0, 0, 0, 0)] 2607 = true := by decide +kernel
theorem dL_law_2607 : decode (MB ML_law) 2607 = .ok (.ireturn, 1) := by decide +kernel
theorem dL_law_2608 : decode (MB ML_law) 2608 = .ok (.goto 663, 3) := by decide +kernel
theorem sL_law_2611 : dsOk (MN ML_law).cls (MB ML_law) 2611 [(.aload_n 1, 0, 0, 0), (.aload_n 0, 0, 0, 0), (.iload 4, 0, 0, 0), (.iconst 1, 0, 0, 0), (.iadd, 0, 0, 0)] 2617 = true := by decide +kernel
theorem dL_law_2617 : decode (MB ML_law) 2617 = .ok (.iaload, 1) := by decide +kernel
theorem sL_law_2618 : dsOk (MN ML_law).cls (MB ML_law) 2618 [(.i2l, 0, 0, 0), (.bipush 32, 0, 0, 32), (.lshl, 0, 0, 0), (.aload_n 0, 0, 0, 0), (.iload 4, 0, 0, 0), (.iconst 2, 0, 0, 0), (.iadd, 0, 0, 0)] 2627 = true := by decide +kernel
theorem dL_law_2627 : decode (MB ML_law) 2627 = .ok (.iaload, 1) := by decide +kernel
theorem sL_law_2628 : dsOk (MN ML_law).cls (MB ML_law) 2628 [(.i2l, 0, 0, 0), (.ldc2_w 188, 0, 0, 4294967295), (.land, 0, 0, 0), (.lor, 0, 0, 0), (.aload_n 0, 0, 0, 0), (.iload 4, 0, 0, 0), (.iconst 3, 0, 0, 0), (.iadd, 0, 0, 0)] 2639 = true := by decide +kernel
theorem dL_law_2639 : decode (MB ML_law) 2639 = .ok (.iaload, 1) := by decide +kernel
theorem sL_law_2640 : dsOk (MN ML_law).cls (MB ML_law) 2640 [(.i2l, 0, 0, 0), (.bipush 32, 0, 0, 32), (.lshl, 0, 0, 0), (.aload_n 0, 0, 0, 0), (.iload 4, 0, 0, 0), (.iconst 4, 0, 0, 0), (.iadd, 0, 0, 0)] 2649 = true := by decide +kernel
theorem dL_law_2649 : decode (MB ML_law) 2649 = .ok (.iaload, 1) := by decide +kernel
theorem sL_law_2650 : dsOk (MN ML_law).cls (MB ML_law) 2650 [(.i2l, 0, 0, 0), (.ldc2_w 188, 0, 0, 4294967295), (.land, 0, 0, 0), (.lor, 0, 0, 0), (.aload_n 0, 0, 0, 0), (.iload 4, 0, 0, 0), (.iconst 5, 0, 0, 0), (.iadd, 0, 0, 0)] 2661 = true := by decide +kernel
theorem dL_law_2661 : decode (MB ML_law) 2661 = .ok (.iaload, 1) := by decide +kernel
theorem sL_law_2662 : dsOk (MN ML_law).cls (MB ML_law) 2662 [(.aload_n 3, 0, 0, 0)] 2663 = true := by decide +kernel
theorem dL_law_2663 : decode (MB ML_law) 2663 = .ok (.invokestatic 254, 3) := by decide +kernel
theorem sL_law_2666 : dsOk (MN ML_law).cls (MB ML_law) 2666 [(.istore 5, 0, 0, 0), (.aload_n 2, 0, 0, 0), (.aload_n 0, 0, 0, 0), (.iload 4, 0, 0, 0), (.iconst 1, 0, 0, 0), (.iadd, 0, 0, 0)] 2674 = true := by decide +kernel
theorem dL_law_2674 : decode (MB ML_law) 2674 = .ok (.iaload, 1) := by decide +kernel
theorem sL_law_2675 : dsOk (MN ML_law).cls (MB ML_law) 2675 [(.i2l, 0, 0, 0), (.bipush 32, 0, 0, 32), (.lshl, 0, 0, 0), (.aload_n 0, 0, 0, 0), (.iload 4, 0, 0, 0), (.iconst 2, 0, 0, 0), (.iadd, 0, 0, 0)] 2684 = true := by decide +kernel
theorem dL_law_2684 : decode (MB ML_law) 2684 = .ok (.iaload, 1) := by decide +kernel
theorem sL_law_2685 : dsOk (MN ML_law).cls (MB ML_law) 2685 [(.i2l, 0, 0, 0), (.ldc2_w 188, 0, 0, 4294967295), (.land, 0, 0, 0), (.lor, 0, 0, 0), (.aload_n 0, 0, 0, 0), (.iload 4, 0, 0, 0), (.iconst 3, 0, 0, 0), (.iadd, 0, 0, 0)] 2696 = true := by decide +kernel
theorem dL_law_2696 : decode (MB ML_law) 2696 = .ok (.iaload, 1) := by decide +kernel
theorem sL_law_2697 : dsOk (MN ML_law).cls (MB ML_law) 2697 [(.i2l, 0, 0, 0), (.bipush 32, 0, 0, 32), (.lshl, 0, 0, 0), (.aload_n 0, 0, 0, 0), (.iload 4, 0, 0, 0), (.iconst 4, 0, 0, 0), (.iadd, 0, 0, 0)] 2706 = true := by decide +kernel
theorem dL_law_2706 : decode (MB ML_law) 2706 = .ok (.iaload, 1) := by decide +kernel
theorem sL_law_2707 : dsOk (MN ML_law).cls (MB ML_law) 2707 [(.i2l, 0, 0, 0), (.ldc2_w 188, 0, 0, 4294967295), (.land, 0, 0, 0), (.lor, 0, 0, 0), (.aload_n 0, 0, 0, 0), (.iload 4, 0, 0, 0), (.iconst 5, 0, 0, 0), (.iadd, 0, 0, 0)] 2718 = true := by decide +kernel
theorem dL_law_2718 : decode (MB ML_law) 2718 = .ok (.iaload, 1) := by decide +kernel
theorem dL_law_2719 : decode (MB ML_law) 2719 = .ok (.invokevirtual 257, 3) := by decide +kernel
theorem sL_law_2722 : dsOk (MN ML_law).cls (MB ML_law) 2722 [(.lstore 6, 0, 0, 0), (.aload_n 2, 0, 0, 0)] 2725 = true := by decide +kernel
theorem dL_law_2725 : decode (MB ML_law) 2725 = .ok (.invokevirtual 148, 3) := by decide +kernel
theorem sL_law_2728 : dsOk (MN ML_law).cls (MB ML_law) 2728 [(.iload 5, 0, 0, 0)] 2730 = true := by decide +kernel
theorem dL_law_2730 : decode (MB ML_law) 2730 = .ok (.if_icmp .eq 5, 3) := by decide +kernel
theorem sL_law_2733 : dsOk (MN ML_law).cls (MB ML_law) 2733 [(.iconst 0, 0, 0, 0)] 2734 = true := by decide +kernel
theorem dL_law_2734 : decode (MB ML_law) 2734 = .ok (.ireturn, 1) := by decide +kernel
theorem sL_law_2735 : dsOk (MN ML_law).cls (MB ML_law) 2735 [(.iload 5, 0, 0, 0)] 2737 = true := by decide +kernel
theorem dL_law_2737 : decode (MB ML_law) 2737 = .ok (.ifCond .ne 14, 3) := by decide +kernel
theorem sL_law_2740 : dsOk (MN ML_law).cls (MB ML_law) 2740 [(.aload_n 3, 0, 0, 0), (.iconst 0, 0, 0, 0), (.laload, 0, 0, 0), (.lload 6, 0, 0, 0), (.lcmp, 0, 0, 0)] 2746 = true := by decide +kernel
theorem dL_law_2746 : decode (MB ML_law) 2746 = .ok (.ifCond .eq 5, 3) := by decide +kernel
theorem sL_law_2749 : dsOk (MN ML_law).cls (MB ML_law) 2749 [(.iconst 0, 0, 0, 0)] 2750 = true := by decide +kernel
theorem dL_law_2750 : decode (MB ML_law) 2750 = .ok (.ireturn, 1) := by decide +kernel
theorem dL_law_2751 : decode (MB ML_law) 2751 = .ok (.goto 520, 3) := by decide +kernel
theorem sL_law_2754 : dsOk (MN ML_law).cls (MB ML_law) 2754 [(.aload_n 1, 0, 0, 0), (.aload_n 0, 0, 0, 0), (.iload 4, 0, 0, 0), (.iconst 1, 0, 0, 0), (.iadd, 0, 0, 0)] 2760 = true := by decide +kernel
theorem dL_law_2760 : decode (MB ML_law) 2760 = .ok (.iaload, 1) := by decide +kernel
theorem sL_law_2761 : dsOk (MN ML_law).cls (MB ML_law) 2761 [(.aload_n 0, 0, 0, 0), (.iload 4, 0, 0, 0), (.iconst 2, 0, 0, 0), (.iadd, 0, 0, 0)] 2766 = true := by decide +kernel
theorem dL_law_2766 : decode (MB ML_law) 2766 = .ok (.iaload, 1) := by decide +kernel
theorem sL_law_2767 : dsOk (MN ML_law).cls (MB ML_law) 2767 [(.aload_n 3, 0, 0, 0)] 2768 = true := by decide +kernel
theorem dL_law_2768 : decode (MB ML_law) 2768 = .ok (.invokestatic 258, 3) := by decide +kernel
theorem sL_law_2771 : dsOk (MN ML_law).cls (MB ML_law) 2771 [(.istore 5, 0, 0, 0), (.aload_n 2, 0, 0, 0), (.aload_n 0, 0, 0, 0), (.iload 4, 0, 0, 0), (.iconst 1, 0, 0, 0), (.iadd, 0, 0, 0)] 2779 = true := by decide +kernel
theorem dL_law_2779 : decode (MB ML_law) 2779 = .ok (.iaload, 1) := by decide +kernel
theorem sL_law_2780 : dsOk (MN ML_law).cls (MB ML_law) 2780 [(.aload_n 0, 0, 0, 0), (.iload 4, 0, 0, 0), (.iconst 2, 0, 0, 0), (.iadd, 0, 0, 0)] 2785 = true := by decide +kernel
theorem dL_law_2785 : decode (MB ML_law) 2785 = .ok (.iaload, 1) := by decide +kernel
theorem dL_law_2786 : decode (MB ML_law) 2786 = .ok (.invokevirtual 260, 3) := by decide +kernel
theorem sL_law_2789 : dsOk (MN ML_law).cls (MB ML_law) 2789 [(.istore 6, 0, 0, 0), (.aload_n 2, 0, 0, 0)] 2792 = true := by decide +kernel
theorem dL_law_2792 : decode (MB ML_law) 2792 = .ok (.invokevirtual 148, 3) := by decide +kernel
theorem sL_law_2795 : dsOk (MN ML_law).cls (MB ML_law) 2795 [(.iload 5, 0, 0, 0)] 2797 = true := by decide +kernel
theorem dL_law_2797 : decode (MB ML_law) 2797 = .ok (.if_icmp .eq 5, 3) := by decide +kernel
theorem sL_law_2800 : dsOk (MN ML_law).cls (MB ML_law) 2800 [(.iconst 0, 0, 0, 0)] 2801 = true := by decide +kernel
theorem dL_law_2801 : decode (MB ML_law) 2801 = .ok (.ireturn, 1) := by decide +kernel
theorem sL_law_2802 : dsOk (MN ML_law).cls (MB ML_law) 2802 [(.iload 5, 0, 0, 0)] 2804 = true := by decide +kernel
theorem dL_law_2804 : decode (MB ML_law) 2804 = .ok (.ifCond .ne 15, 3) := by decide +kernel
theorem sL_law_2807 : dsOk (MN ML_law).cls (MB ML_law) 2807 [(.aload_n 3, 0, 0, 0), (.iconst 0, 0, 0, 0), (.laload, 0, 0, 0), (.iload 6, 0, 0, 0), (.i2l, 0, 0, 0), (.lcmp, 0, 0, 0)] 2814 = true := by decide +kernel
theorem dL_law_2814 : decode (MB ML_law) 2814 = .ok (.ifCond .eq 5, 3) := by decide +kernel
theorem sL_law_2817 : dsOk (MN ML_law).cls (MB ML_law) 2817 [(.iconst 0, 0, 0, 0)] 2818 = true := by decide +kernel
theorem dL_law_2818 : decode (MB ML_law) 2818 = .ok (.ireturn, 1) := by decide +kernel
theorem dL_law_2819 : decode (MB ML_law) 2819 = .ok (.goto 452, 3) := by decide +kernel
theorem sL_law_2822 : dsOk (MN ML_law).cls (MB ML_law) 2822 [(.aload_n 1, 0, 0, 0)] 2823 = true := by decide +kernel
theorem dL_law_2823 : decode (MB ML_law) 2823 = .ok (.invokevirtual 261, 3) := by decide +kernel
theorem sL_law_2826 : dsOk (MN ML_law).cls (MB ML_law) 2826 [(.aload_n 2, 0, 0, 0)] 2827 = true := by decide +kernel
theorem dL_law_2827 : decode (MB ML_law) 2827 = .ok (.invokevirtual 264, 3) := by decide +kernel
theorem dL_law_2830 : decode (MB ML_law) 2830 = .ok (.if_icmp .eq 441, 3) := by decide +kernel
theorem sL_law_2833 : dsOk (MN ML_law).cls (MB ML_law) 2833 [(.iconst 0, 0, 0, 0)] 2834 = true := by decide +kernel
theorem dL_law_2834 : decode (MB ML_law) 2834 = .ok (.ireturn, 1) := by decide +kernel
theorem sL_law_2835 : dsOk (MN ML_law).cls (MB ML_law) 2835 [(.aload_n 1, 0, 0, 0), (.aload_n 0, 0, 0, 0), (.iload 4, 0, 0, 0), (.iconst 1, 0, 0, 0), (.iadd, 0, 0, 0)] 2841 = true := by decide +kernel
theorem dL_law_2841 : decode (MB ML_law) 2841 = .ok (.iaload, 1) := by decide +kernel
theorem sL_law_2842 : dsOk (MN ML_law).cls (MB ML_law) 2842 [(.aload_n 0, 0, 0, 0), (.iload 4, 0, 0, 0), (.iconst 2, 0, 0, 0), (.iadd, 0, 0, 0)] 2847 = true := by decide +kernel
theorem dL_law_2847 : decode (MB ML_law) 2847 = .ok (.iaload, 1) := by decide +kernel
theorem sL_law_2848 : dsOk (MN ML_law).cls (MB ML_law) 2848 [(.aload_n 0, 0, 0, 0), (.iload 4, 0, 0, 0), (.iconst 3, 0, 0, 0), (.iadd, 0, 0, 0)] 2853 = true := by decide +kernel
theorem dL_law_2853 : decode (MB ML_law) 2853 = .ok (.iaload, 1) := by decide +kernel
theorem sL_law_2854 : dsOk (MN ML_law).cls (MB ML_law) 2854 [(.aload_n 0, 0, 0, 0), (.iload 4, 0, 0, 0), (.iconst 4, 0, 0, 0), (.iadd, 0, 0, 0)] 2859 = true := by decide +kernel
theorem dL_law_2859 : decode (MB ML_law) 2859 = .ok (.iaload, 1) := by decide +kernel
theorem sL_law_2860 : dsOk (MN ML_law).cls (MB ML_law) 2860 [(.aload_n 0, 0, 0, 0), (.iload 4, 0, 0, 0), (.iconst 5, 0, 0, 0), (.iadd, 0, 0, 0)] 2865 = true := by decide +kernel
theorem dL_law_2865 : decode (MB ML_law) 2865 = .ok (.iaload, 1) := by decide +kernel
theorem sL_law_2866 : dsOk (MN ML_law).cls (MB ML_law) 2866 [(.aload_n 0, 0, 0, 0), (.iload 4, 0, 0, 0), (.bipush 6, 0, 0, 6), (.iadd, 0, 0, 0)] 2872 = true := by decide +kernel
theorem dL_law_2872 : decode (MB ML_law) 2872 = .ok (.iaload, 1) := by decide +kernel
theorem dL_law_2873 : decode (MB ML_law) 2873 = .ok (.ifCond .eq 7, 3) := by decide +kernel
theorem sL_law_2876 : dsOk (MN ML_law).cls (MB ML_law) 2876 [(.iconst 1, 0, 0, 0)] 2877 = true := by decide +kernel
theorem dL_law_2877 : decode (MB ML_law) 2877 = .ok (.goto 4, 3) := by decide +kernel
theorem sL_law_2880 : dsOk (MN ML_law).cls (MB ML_law) 2880 [(.iconst 0, 0, 0, 0)] 2881 = true := by decide +kernel
theorem sL_law_2881 : dsOk (MN ML_law).cls (MB ML_law) 2881 [(.aload_n 3, 0, 0, 0)] 2882 = true := by decide +kernel
theorem dL_law_2882 : decode (MB ML_law) 2882 = .ok (.invokestatic 265, 3) := by decide +kernel
theorem sL_law_2885 : dsOk (MN ML_law).cls (MB ML_law) 2885 [(.istore 5, 0, 0, 0), (.aload_n 2, 0, 0, 0), (.aload_n 0, 0, 0, 0), (.iload 4, 0, 0, 0), (.iconst 1, 0, 0, 0), (.iadd, 0, 0, 0)] 2893 = true := by decide +kernel
theorem dL_law_2893 : decode (MB ML_law) 2893 = .ok (.iaload, 1) := by decide +kernel
theorem sL_law_2894 : dsOk (MN ML_law).cls (MB ML_law) 2894 [(.aload_n 0, 0, 0, 0), (.iload 4, 0, 0, 0), (.iconst 2, 0, 0, 0), (.iadd, 0, 0, 0)] 2899 = true := by decide +kernel
theorem dL_law_2899 : decode (MB ML_law) 2899 = .ok (.iaload, 1) := by decide +kernel
theorem sL_law_2900 : dsOk (MN ML_law).cls (MB ML_law) 2900 [(.aload_n 0, 0, 0, 0), (.iload 4, 0, 0, 0), (.iconst 3, 0, 0, 0), (.iadd, 0, 0, 0)] 2905 = true := by decide +kernel
theorem dL_law_2905 : decode (MB ML_law) 2905 = .ok (.iaload, 1) := by decide +kernel
theorem sL_law_2906 : dsOk (MN ML_law).cls (MB ML_law) 2906 [(.aload_n 0, 0, 0, 0), (.iload 4, 0, 0, 0), (.iconst 4, 0, 0, 0), (.iadd, 0, 0, 0)] 2911 = true := by decide +kernel
theorem dL_law_2911 : decode (MB ML_law) 2911 = .ok (.iaload, 1) := by decide +kernel
theorem sL_law_2912 : dsOk (MN ML_law).cls (MB ML_law) 2912 [(.aload_n 0, 0, 0, 0), (.iload 4, 0, 0, 0), (.iconst 5, 0, 0, 0), (.iadd, 0, 0, 0)] 2917 = true := by decide +kernel
theorem dL_law_2917 : decode (MB ML_law) 2917 = .ok (.iaload, 1) := by decide +kernel
theorem sL_law_2918 : dsOk (MN ML_law).cls (MB ML_law) 2918 [(.aload_n 0, 0, 0, 0), (.iload 4, 0, 0, 0), (.bipush 6, 0, 0, 6), (.iadd, 0, 0, 0)] 2924 = true := by decide +kernel
theorem dL_law_2924 : decode (MB ML_law) 2924 = .ok (.iaload, 1) := by decide +kernel
theorem dL_law_2925 : decode (MB ML_law) 2925 = .ok (.ifCond .eq 7, 3) := by decide +kernel
theorem sL_law_2928 : dsOk (MN ML_law).cls (MB ML_law) 2928 [(.iconst 1, 0, 0, 0)] 2929 = true := by decide +kernel
theorem dL_law_2929 : decode (MB ML_law) 2929 = .ok (.goto 4, 3) := by decide +kernel
theorem sL_law_2932 : dsOk (MN ML_law).cls (MB ML_law) 2932 [(.iconst 0, 0, 0, 0)] 2933 = true := by decide +kernel
theorem dL_law_2933 : decode (MB ML_law) 2933 = .ok (.invokevirtual 268, 3) := by decide +kernel
theorem sL_law_2936 : dsOk (MN ML_law).cls (MB ML_law) 2936 [(.lstore 6, 0, 0, 0), (.aload_n 2, 0, 0, 0)] 2939 = true := by decide +kernel
theorem dL_law_2939 : decode (MB ML_law) 2939 = .ok (.invokevirtual 148, 3) := by decide +kernel
theorem sL_law_2942 : dsOk (MN ML_law).cls (MB ML_law) 2942 [(.iload 5, 0, 0, 0)] 2944 = true := by decide +kernel
theorem dL_law_2944 : decode (MB ML_law) 2944 = .ok (.if_icmp .eq 5, 3) := by decide +kernel
theorem sL_law_2947 : dsOk (MN ML_law).cls (MB ML_law) 2947 [(.iconst 0, 0, 0, 0)] 2948 = true := by decide +kernel
theorem dL_law_2948 : decode (MB ML_law) 2948 = .ok (.ireturn, 1) := by decide +kernel
theorem sL_law_2949 : dsOk (MN ML_law).cls (MB ML_law) 2949 [(.iload 5, 0, 0, 0)] 2951 = true := by decide +kernel
theorem dL_law_2951 : decode (MB ML_law) 2951 = .ok (.ifCond .ne 14, 3) := by decide +kernel
theorem sL_law_2954 : dsOk (MN ML_law).cls (MB ML_law) 2954 [(.aload_n 3, 0, 0, 0), (.iconst 0, 0, 0, 0), (.laload, 0, 0, 0), (.lload 6, 0, 0, 0), (.lcmp, 0, 0, 0)] 2960 = true := by decide +kernel
theorem dL_law_2960 : decode (MB ML_law) 2960 = .ok (.ifCond .eq 5, 3) := by decide +kernel
theorem sL_law_2963 : dsOk (MN ML_law).cls (MB ML_law) 2963 [(.iconst 0, 0, 0, 0)] 2964 = true := by decide +kernel
theorem dL_law_2964 : decode (MB ML_law) 2964 = .ok (.ireturn, 1) := by decide +kernel
theorem dL_law_2965 : decode (MB ML_law) 2965 = .ok (.goto 306, 3) := by decide +kernel
theorem sL_law_2968 : dsOk (MN ML_law).cls (MB ML_law) 2968 [(.aload_n 1, 0, 0, 0), (.aload_n 0, 0, 0, 0), (.iload 4, 0, 0, 0), (.iconst 1, 0, 0, 0), (.iadd, 0, 0, 0)] 2974 = true := by decide +kernel
theorem dL_law_2974 : decode (MB ML_law) 2974 = .ok (.iaload, 1) := by decide +kernel
theorem sL_law_2975 : dsOk (MN ML_law).cls (MB ML_law) 2975 [(.aload_n 0, 0, 0, 0), (.iload 4, 0, 0, 0), (.iconst 2, 0, 0, 0), (.iadd, 0, 0, 0)] 2980 = true := by decide +kernel
theorem dL_law_2980 : decode (MB ML_law) 2980 = .ok (.iaload, 1) := by decide +kernel
theorem sL_law_2981 : dsOk (MN ML_law).cls (MB ML_law) 2981 [(.aload_n 3, 0, 0, 0)] 2982 = true := by decide +kernel
theorem dL_law_2982 : decode (MB ML_law) 2982 = .ok (.invokestatic 269, 3) := by decide +kernel
theorem sL_law_2985 : dsOk (MN ML_law).cls (MB ML_law) 2985 [(.istore 5, 0, 0, 0), (.aload_n 2, 0, 0, 0), (.aload_n 0, 0, 0, 0), (.iload 4, 0, 0, 0), (.iconst 1, 0, 0, 0), (.iadd, 0, 0, 0)] 2993 = true := by decide +kernel
theorem dL_law_2993 : decode (MB ML_law) 2993 = .ok (.iaload, 1) := by decide +kernel
theorem sL_law_2994 : dsOk (MN ML_law).cls (MB ML_law) 2994 [(.aload_n 0, 0, 0, 0), (.iload 4, 0, 0, 0), (.iconst 2, 0, 0, 0), (.iadd, 0, 0, 0)] 2999 = true := by decide +kernel
theorem dL_law_2999 : decode (MB ML_law) 2999 = .ok (.iaload, 1) := by decide +kernel
theorem dL_law_3000 : decode (MB ML_law) 3000 = .ok (.invokevirtual 271, 3) := by decide +kernel
theorem sL_law_3003 : dsOk (MN ML_law).cls (MB ML_law) 3003 [(.lstore 6, 0, 0, 0), (.aload_n 2, 0, 0, 0)] 3006 = true := by decide +kernel
theorem dL_law_3006 : decode (MB ML_law) 3006 = .ok (.invokevirtual 148, 3) := by decide +kernel
theorem sL_law_3009 : dsOk (MN ML_law).cls (MB ML_law) 3009 [(.iload 5, 0, 0, 0)] 3011 = true := by decide +kernel
theorem dL_law_3011 : decode (MB ML_law) 3011 = .ok (.if_icmp .eq 5, 3) := by decide +kernel
theorem sL_law_3014 : dsOk (MN ML_law).cls (MB ML_law) 3014 [(.iconst 0, 0, 0, 0)] 3015 = true := by decide +kernel
theorem dL_law_3015 : decode (MB ML_law) 3015 = .ok (.ireturn, 1) := by decide +kernel
theorem sL_law_3016 : dsOk (MN ML_law).cls (MB ML_law) 3016 [(.iload 5, 0, 0, 0)] 3018 = true := by decide +kernel
theorem dL_law_3018 : decode (MB ML_law) 3018 = .ok (.ifCond .ne 14, 3) := by decide +kernel
theorem sL_law_3021 : dsOk (MN ML_law).cls (MB ML_law) 3021 [(.aload_n 3, 0, 0, 0), (.iconst 0, 0, 0, 0), (.laload, 0, 0, 0), (.lload 6, 0, 0, 0), (.lcmp, 0, 0, 0)] 3027 = true := by decide +kernel
theorem dL_law_3027 : decode (MB ML_law) 3027 = .ok (.ifCond .eq 5, 3) := by decide +kernel
theorem sL_law_3030 : dsOk (MN ML_law).cls (MB ML_law) 3030 [(.iconst 0, 0, 0, 0)] 3031 = true := by decide +kernel
theorem dL_law_3031 : decode (MB ML_law) 3031 = .ok (.ireturn, 1) := by decide +kernel
theorem dL_law_3032 : decode (MB ML_law) 3032 = .ok (.goto 239, 3) := by decide +kernel
theorem sL_law_3035 : dsOk (MN ML_law).cls (MB ML_law) 3035 [(.aload_n 1, 0, 0, 0), (.aload_n 0, 0, 0, 0), (.iload 4, 0, 0, 0), (.iconst 1, 0, 0, 0), (.iadd, 0, 0, 0)] 3041 = true := by decide +kernel
theorem dL_law_3041 : decode (MB ML_law) 3041 = .ok (.iaload, 1) := by decide +kernel
theorem sL_law_3042 : dsOk (MN ML_law).cls (MB ML_law) 3042 [(.aload_n 3, 0, 0, 0)] 3043 = true := by decide +kernel
theorem dL_law_3043 : decode (MB ML_law) 3043 = .ok (.invokestatic 272, 3) := by decide +kernel
theorem sL_law_3046 : dsOk (MN ML_law).cls (MB ML_law) 3046 [(.istore 5, 0, 0, 0), (.aload_n 2, 0, 0, 0), (.aload_n 0, 0, 0, 0), (.iload 4, 0, 0, 0), (.iconst 1, 0, 0, 0), (.iadd, 0, 0, 0)] 3054 = true := by decide +kernel
theorem dL_law_3054 : decode (MB ML_law) 3054 = .ok (.iaload, 1) := by decide +kernel
theorem dL_law_3055 : decode (MB ML_law) 3055 = .ok (.invokevirtual 274, 3) := by decide +kernel
theorem sL_law_3058 : dsOk (MN ML_law).cls (MB ML_law) 3058 [(.istore 6, 0, 0, 0), (.aload_n 2, 0, 0, 0)] 3061 = true := by decide +kernel
theorem dL_law_3061 : decode (MB ML_law) 3061 = .ok (.invokevirtual 148, 3) := by decide +kernel
theorem sL_law_3064 : dsOk (MN ML_law).cls (MB ML_law) 3064 [(.iload 5, 0, 0, 0)] 3066 = true := by decide +kernel
theorem dL_law_3066 : decode (MB ML_law) 3066 = .ok (.if_icmp .eq 5, 3) := by decide +kernel
theorem sL_law_3069 : dsOk (MN ML_law).cls (MB ML_law) 3069 [(.iconst 0, 0, 0, 0)] 3070 = true := by decide +kernel
theorem dL_law_3070 : decode (MB ML_law) 3070 = .ok (.ireturn, 1) := by decide +kernel
theorem sL_law_3071 : dsOk (MN ML_law).cls (MB ML_law) 3071 [(.iload 5, 0, 0, 0)] 3073 = true := by decide +kernel
theorem dL_law_3073 : decode (MB ML_law) 3073 = .ok (.ifCond .ne 15, 3) := by decide +kernel
theorem sL_law_3076 : dsOk (MN ML_law).cls (MB ML_law) 3076 [(.aload_n 3, 0, 0, 0), (.iconst 0, 0, 0, 0), (.laload, 0, 0, 0), (.iload 6, 0, 0, 0), (.i2l, 0, 0, 0), (.lcmp, 0, 0, 0)] 3083 = true := by decide +kernel
theorem dL_law_3083 : decode (MB ML_law) 3083 = .ok (.ifCond .eq 5, 3) := by decide +kernel
theorem sL_law_3086 : dsOk (MN ML_law).cls (MB ML_law) 3086 [(.iconst 0, 0, 0, 0)] 3087 = true := by decide +kernel
theorem dL_law_3087 : decode (MB ML_law) 3087 = .ok (.ireturn, 1) := by decide +kernel
theorem dL_law_3088 : decode (MB ML_law) 3088 = .ok (.goto 183, 3) := by decide +kernel
theorem sL_law_3091 : dsOk (MN ML_law).cls (MB ML_law) 3091 [(.aload_n 1, 0, 0, 0), (.aload_n 0, 0, 0, 0), (.iload 4, 0, 0, 0), (.iconst 1, 0, 0, 0), (.iadd, 0, 0, 0)] 3097 = true := by decide +kernel
theorem dL_law_3097 : decode (MB ML_law) 3097 = .ok (.iaload, 1) := by decide +kernel
theorem sL_law_3098 : dsOk (MN ML_law).cls (MB ML_law) 3098 [(.aload_n 0, 0, 0, 0), (.iload 4, 0, 0, 0), (.iconst 2, 0, 0, 0), (.iadd, 0, 0, 0)] 3103 = true := by decide +kernel
theorem dL_law_3103 : decode (MB ML_law) 3103 = .ok (.iaload, 1) := by decide +kernel
theorem sL_law_3104 : dsOk (MN ML_law).cls (MB ML_law) 3104 [(.i2l, 0, 0, 0), (.bipush 32, 0, 0, 32), (.lshl, 0, 0, 0), (.aload_n 0, 0, 0, 0), (.iload 4, 0, 0, 0), (.iconst 3, 0, 0, 0), (.iadd, 0, 0, 0)] 3113 = true := by decide +kernel
theorem dL_law_3113 : decode (MB ML_law) 3113 = .ok (.iaload, 1) := by decide +kernel
theorem sL_law_3114 : dsOk (MN ML_law).cls (MB ML_law) 3114 [(.i2l, 0, 0, 0), (.ldc2_w 188, 0, 0, 4294967295), (.land, 0, 0, 0), (.lor, 0, 0, 0), (.aload_n 3, 0, 0, 0)] 3121 = true := by decide +kernel
theorem dL_law_3121 : decode (MB ML_law) 3121 = .ok (.invokestatic 275, 3) := by decide +kernel
theorem sL_law_3124 : dsOk (MN ML_law).cls (MB ML_law) 3124 [(.istore 5, 0, 0, 0), (.aload_n 2, 0, 0, 0), (.aload_n 0, 0, 0, 0), (.iload 4, 0, 0, 0), (.iconst 1, 0, 0, 0), (.iadd, 0, 0, 0)] 3132 = true := by decide +kernel
theorem dL_law_3132 : decode (MB ML_law) 3132 = .ok (.iaload, 1) := by decide +kernel
theorem sL_law_3133 : dsOk (MN ML_law).cls (MB ML_law) 3133 [(.aload_n 0, 0, 0, 0), (.iload 4, 0, 0, 0), (.iconst 2, 0, 0, 0), (.iadd, 0, 0, 0)] 3138 = true := by decide +kernel
theorem dL_law_3138 : decode (MB ML_law) 3138 = .ok (.iaload, 1) := by decide +kernel
theorem sL_law_3139 : dsOk (MN ML_law).cls (MB ML_law) 3139 [(.i2l, 0, 0, 0), (.bipush 32, 0, 0, 32), (.lshl, 0, 0, 0), (.aload_n 0, 0, 0, 0), (.iload 4, 0, 0, 0), (.iconst 3, 0, 0, 0), (.iadd, 0, 0, 0)] 3148 = true := by decide +kernel
theorem dL_law_3148 : decode (MB ML_law) 3148 = .ok (.iaload, 1) := by decide +kernel
theorem sL_law_3149 : dsOk (MN ML_law).cls (MB ML_law) 3149 [(.i2l, 0, 0, 0), (.ldc2_w 188, 0, 0, 4294967295), (.land, 0, 0, 0), (.lor, 0, 0, 0)] 3155 = true := by decide +kernel
theorem dL_law_3155 : decode (MB ML_law) 3155 = .ok (.invokevirtual 277, 3) := by decide +kernel
theorem sL_law_3158 : dsOk (MN ML_law).cls (MB ML_law) 3158 [(.istore 6, 0, 0, 0), (.aload_n 2, 0, 0, 0)] 3161 = true := by decide +kernel
theorem dL_law_3161 : decode (MB ML_law) 3161 = .ok (.invokevirtual 148, 3) := by decide +kernel
theorem sL_law_3164 : dsOk (MN ML_law).cls (MB ML_law) 3164 [(.iload 5, 0, 0, 0)] 3166 = true := by decide +kernel
theorem dL_law_3166 : decode (MB ML_law) 3166 = .ok (.if_icmp .eq 5, 3) := by decide +kernel
theorem sL_law_3169 : dsOk (MN ML_law).cls (MB ML_law) 3169 [(.iconst 0, 0, 0, 0)] 3170 = true := by decide +kernel
theorem dL_law_3170 : decode (MB ML_law) 3170 = .ok (.ireturn, 1) := by decide +kernel
theorem sL_law_3171 : dsOk (MN ML_law).cls (MB ML_law) 3171 [(.iload 5, 0, 0, 0)] 3173 = true := by decide +kernel
theorem dL_law_3173 : decode (MB ML_law) 3173 = .ok (.ifCond .ne 15, 3) := by decide +kernel
theorem sL_law_3176 : dsOk (MN ML_law).cls (MB ML_law) 3176 [(.aload_n 3, 0, 0, 0), (.iconst 0, 0, 0, 0), (.laload, 0, 0, 0), (.iload 6, 0, 0, 0), (.i2l, 0, 0, 0), (.lcmp, 0, 0, 0)] 3183 = true := by decide +kernel
theorem dL_law_3183 : decode (MB ML_law) 3183 = .ok (.ifCond .eq 5, 3) := by decide +kernel
theorem sL_law_3186 : dsOk (MN ML_law).cls (MB ML_law) 3186 [(.iconst 0, 0, 0, 0)] 3187 = true := by decide +kernel
theorem dL_law_3187 : decode (MB ML_law) 3187 = .ok (.ireturn, 1) := by decide +kernel
theorem dL_law_3188 : decode (MB ML_law) 3188 = .ok (.goto 83, 3) := by decide +kernel
theorem sL_law_3191 : dsOk (MN ML_law).cls (MB ML_law) 3191 [(.aload_n 1, 0, 0, 0), (.aload_n 0, 0, 0, 0), (.iload 4, 0, 0, 0), (.iconst 1, 0, 0, 0), (.iadd, 0, 0, 0)] 3197 = true := by decide +kernel
theorem dL_law_3197 : decode (MB ML_law) 3197 = .ok (.iaload, 1) := by decide +kernel
theorem sL_law_3198 : dsOk (MN ML_law).cls (MB ML_law) 3198 [(.aload_n 3, 0, 0, 0)] 3199 = true := by decide +kernel
theorem dL_law_3199 : decode (MB ML_law) 3199 = .ok (.invokestatic 278, 3) := by decide +kernel
theorem sL_law_3202 : dsOk (MN ML_law).cls (MB ML_law) 3202 [(.istore 5, 0, 0, 0), (.aload_n 2, 0, 0, 0), (.aload_n 0, 0, 0, 0), (.iload 4, 0, 0, 0), (.iconst 1, 0, 0, 0), (.iadd, 0, 0, 0)] 3210 = true := by decide +kernel
theorem dL_law_3210 : decode (MB ML_law) 3210 = .ok (.iaload, 1) := by decide +kernel
theorem dL_law_3211 : decode (MB ML_law) 3211 = .ok (.invokevirtual 280, 3) := by decide +kernel
theorem sL_law_3214 : dsOk (MN ML_law).cls (MB ML_law) 3214 [(.istore 6, 0, 0, 0), (.aload_n 2, 0, 0, 0)] 3217 = true := by decide +kernel
theorem dL_law_3217 : decode (MB ML_law) 3217 = .ok (.invokevirtual 148, 3) := by decide +kernel
theorem sL_law_3220 : dsOk (MN ML_law).cls (MB ML_law) 3220 [(.iload 5, 0, 0, 0)] 3222 = true := by decide +kernel
theorem dL_law_3222 : decode (MB ML_law) 3222 = .ok (.if_icmp .eq 5, 3) := by decide +kernel
theorem sL_law_3225 : dsOk (MN ML_law).cls (MB ML_law) 3225 [(.iconst 0, 0, 0, 0)] 3226 = true := by decide +kernel
theorem dL_law_3226 : decode (MB ML_law) 3226 = .ok (.ireturn, 1) := by decide +kernel
theorem sL_law_3227 : dsOk (MN ML_law).cls (MB ML_law) 3227 [(.iload 5, 0, 0, 0)] 3229 = true := by decide +kernel
theorem dL_law_3229 : decode (MB ML_law) 3229 = .ok (.ifCond .ne 15, 3) := by decide +kernel
theorem sL_law_3232 : dsOk (MN ML_law).cls (MB ML_law) 3232 [(.aload_n 3, 0, 0, 0), (.iconst 0, 0, 0, 0), (.laload, 0, 0, 0), (.iload 6, 0, 0, 0), (.i2l, 0, 0, 0), (.lcmp, 0, 0, 0)] 3239 = true := by decide +kernel
theorem dL_law_3239 : decode (MB ML_law) 3239 = .ok (.ifCond .eq 5, 3) := by decide +kernel
theorem sL_law_3242 : dsOk (MN ML_law).cls (MB ML_law) 3242 [(.iconst 0, 0, 0, 0)] 3243 = true := by decide +kernel
theorem dL_law_3243 : decode (MB ML_law) 3243 = .ok (.ireturn, 1) := by decide +kernel
theorem dL_law_3244 : decode (MB ML_law) 3244 = .ok (.goto 27, 3) := by decide +kernel
theorem sL_law_3247 : dsOk (MN ML_law).cls (MB ML_law) 3247 [(.aload_n 1, 0, 0, 0)] 3248 = true := by decide +kernel
theorem dL_law_3248 : decode (MB ML_law) 3248 = .ok (.invokevirtual 281, 3) := by decide +kernel
theorem sL_law_3251 : dsOk (MN ML_law).cls (MB ML_law) 3251 [(.aload_n 2, 0, 0, 0)] 3252 = true := by decide +kernel
theorem dL_law_3252 : decode (MB ML_law) 3252 = .ok (.invokevirtual 284, 3) := by decide +kernel
theorem dL_law_3255 : decode (MB ML_law) 3255 = .ok (.goto 16, 3) := by decide +kernel
theorem sL_law_3258 : dsOk (MN ML_law).cls (MB ML_law) 3258 [(.aload_n 1, 0, 0, 0)] 3259 = true := by decide +kernel
theorem dL_law_3259 : decode (MB ML_law) 3259 = .ok (.invokevirtual 285, 3) := by decide +kernel
theorem sL_law_3262 : dsOk (MN ML_law).cls (MB ML_law) 3262 [(.aload_n 2, 0, 0, 0)] 3263 = true := by decide +kernel
theorem dL_law_3263 : decode (MB ML_law) 3263 = .ok (.invokevirtual 289, 3) := by decide +kernel
theorem dL_law_3266 : decode (MB ML_law) 3266 = .ok (.if_icmp .eq 5, 3) := by decide +kernel
theorem sL_law_3269 : dsOk (MN ML_law).cls (MB ML_law) 3269 [(.iconst 0, 0, 0, 0)] 3270 = true := by decide +kernel
theorem dL_law_3270 : decode (MB ML_law) 3270 = .ok (.ireturn, 1) := by decide +kernel
theorem sL_law_3271 : dsOk (MN ML_law).cls (MB ML_law) 3271 [(.iinc 4 7, 0, 0, 0)] 3274 = true := by decide +kernel
theorem dL_law_3274 : decode (MB ML_law) 3274 = .ok (.goto (-3251), 3) := by decide +kernel
theorem sL_law_3277 : dsOk (MN ML_law).cls (MB ML_law) 3277 [(.iconst 1, 0, 0, 0)] 3278 = true := by decide +kernel
theorem dL_law_3278 : decode (MB ML_law) 3278 = .ok (.ireturn, 1) := by decide +kernel
theorem lRL_133 : wM.any (isML RL 133 yX11_init) = true := by decide +kernel
theorem lRL_136 : wM.any (isML RL 136 yX12_init) = true := by decide +kernel
theorem lRL_137 : wM.any (isML RL 137 yX11_feed) = true := by decide +kernel
theorem lRL_141 : wM.any (isML RL 141 yX12_feed) = true := by decide +kernel
theorem lRL_142 : wM.any (isML RL 142 yL_shelf) = true := by decide +kernel
theorem lRL_147 : wM.any (isML RL 147 yX12_shelf) = true := by decide +kernel
theorem lRL_148 : wM.any (isML RL 148 yX12_thrown) = true := by decide +kernel
theorem lRL_152 : wM.any (isML RL 152 yX11_fault) = true := by decide +kernel
theorem lRL_155 : wM.any (isML RL 155 yX12_fault) = true := by decide +kernel
theorem lRL_156 : wM.any (isML RL 156 yL_count) = true := by decide +kernel
theorem lRL_158 : wM.any (isML RL 158 yX12_count) = true := by decide +kernel
theorem lRL_159 : wM.any (isML RL 159 yL_book) = true := by decide +kernel
theorem lRL_162 : wM.any (isML RL 162 yX12_book) = true := by decide +kernel
theorem lRL_163 : wM.any (isML RL 163 yL_isThere) = true := by decide +kernel
theorem lRL_165 : wM.any (isML RL 165 yX12_isThere) = true := by decide +kernel
theorem lRL_166 : wM.any (isML RL 166 yL_number) = true := by decide +kernel
theorem lRL_168 : wM.any (isML RL 168 yX12_number) = true := by decide +kernel
theorem lRL_169 : wM.any (isML RL 169 yL_page) = true := by decide +kernel
theorem lRL_171 : wM.any (isML RL 171 yX12_page) = true := by decide +kernel
theorem lRL_172 : wM.any (isML RL 172 yL_sum) = true := by decide +kernel
theorem lRL_174 : wM.any (isML RL 174 yX12_sum) = true := by decide +kernel
theorem lRL_175 : wM.any (isML RL 175 yL_figures) = true := by decide +kernel
theorem lRL_177 : wM.any (isML RL 177 yX12_figures) = true := by decide +kernel
theorem lRL_178 : wM.any (isML RL 178 yL_tear) = true := by decide +kernel
theorem lRL_180 : wM.any (isML RL 180 yX12_tear) = true := by decide +kernel
theorem lRL_181 : wM.any (isML RL 181 yL_sheet) = true := by decide +kernel
theorem lRL_183 : wM.any (isML RL 183 yX12_sheet) = true := by decide +kernel
theorem lRL_184 : wM.any (isML RL 184 yX11_put) = true := by decide +kernel
theorem lRL_187 : wM.any (isML RL 187 yX12_put) = true := by decide +kernel
theorem lRL_190 : wM.any (isML RL 190 yL_add) = true := by decide +kernel
theorem lRL_193 : wM.any (isML RL 193 yX12_add) = true := by decide +kernel
theorem lRL_194 : wM.any (isML RL 194 yX11_wrong) = true := by decide +kernel
theorem lRL_197 : wM.any (isML RL 197 yX12_wrong) = true := by decide +kernel
theorem lRL_198 : wM.any (isML RL 198 yL_fits) = true := by decide +kernel
theorem lRL_201 : wM.any (isML RL 201 yX12_fits) = true := by decide +kernel
theorem lRL_202 : wM.any (isML RL 202 yL_leaf) = true := by decide +kernel
theorem lRL_204 : wM.any (isML RL 204 yX12_leaf) = true := by decide +kernel
theorem lRL_205 : wM.any (isML RL 205 yL_several) = true := by decide +kernel
theorem lRL_208 : wM.any (isML RL 208 yX12_several) = true := by decide +kernel
theorem lRL_209 : wM.any (isML RL 209 yL_ways) = true := by decide +kernel
theorem lRL_211 : wM.any (isML RL 211 yX12_ways) = true := by decide +kernel
theorem lRL_212 : wM.any (isML RL 212 yL_sewn) = true := by decide +kernel
theorem lRL_215 : wM.any (isML RL 215 yX12_sewn) = true := by decide +kernel
theorem lRL_216 : wM.any (isML RL 216 yL_street) = true := by decide +kernel
theorem lRL_219 : wM.any (isML RL 219 yX12_street) = true := by decide +kernel
theorem lRL_220 : wM.any (isML RL 220 yL_said) = true := by decide +kernel
theorem lRL_223 : wM.any (isML RL 223 yX12_said) = true := by decide +kernel
theorem lRL_224 : wM.any (isML RL 224 yL_tells) = true := by decide +kernel
theorem lRL_226 : wM.any (isML RL 226 yX12_tells) = true := by decide +kernel
theorem lRL_227 : wM.any (isML RL 227 yL_far) = true := by decide +kernel
theorem lRL_229 : wM.any (isML RL 229 yX12_far) = true := by decide +kernel
theorem lRL_230 : wM.any (isML RL 230 yL_lacks) = true := by decide +kernel
theorem lRL_232 : wM.any (isML RL 232 yX12_lacks) = true := by decide +kernel
theorem lRL_233 : wM.any (isML RL 233 yL_skip) = true := by decide +kernel
theorem lRL_236 : wM.any (isML RL 236 yX12_skip) = true := by decide +kernel
theorem lRL_237 : wM.any (isML RL 237 yL_whole) = true := by decide +kernel
theorem lRL_239 : wM.any (isML RL 239 yX12_whole) = true := by decide +kernel
theorem lRL_240 : wM.any (isML RL 240 yL_bought) = true := by decide +kernel
theorem lRL_242 : wM.any (isML RL 242 yX12_bought) = true := by decide +kernel
theorem lRL_243 : wM.any (isML RL 243 yL_index) = true := by decide +kernel
theorem lRL_245 : wM.any (isML RL 245 yX12_index) = true := by decide +kernel
theorem lRL_246 : wM.any (isML RL 246 yL_seed) = true := by decide +kernel
theorem lRL_249 : wM.any (isML RL 249 yX12_seed) = true := by decide +kernel
theorem lRL_250 : wM.any (isML RL 250 yL_way) = true := by decide +kernel
theorem lRL_253 : wM.any (isML RL 253 yX12_way) = true := by decide +kernel
theorem lRL_254 : wM.any (isML RL 254 yL_between) = true := by decide +kernel
theorem lRL_257 : wM.any (isML RL 257 yX12_between) = true := by decide +kernel
theorem lRL_258 : wM.any (isML RL 258 yL_stick) = true := by decide +kernel
theorem lRL_260 : wM.any (isML RL 260 yX12_stick) = true := by decide +kernel
theorem lRL_261 : wM.any (isML RL 261 yX11_loosen) = true := by decide +kernel
theorem lRL_264 : wM.any (isML RL 264 yX12_loosen) = true := by decide +kernel
theorem lRL_265 : wM.any (isML RL 265 yL_read) = true := by decide +kernel
theorem lRL_268 : wM.any (isML RL 268 yX12_read) = true := by decide +kernel
theorem lRL_269 : wM.any (isML RL 269 yL_shares) = true := by decide +kernel
theorem lRL_271 : wM.any (isML RL 271 yX12_shares) = true := by decide +kernel
theorem lRL_272 : wM.any (isML RL 272 yL_child) = true := by decide +kernel
theorem lRL_274 : wM.any (isML RL 274 yX12_child) = true := by decide +kernel
theorem lRL_275 : wM.any (isML RL 275 yL_least) = true := by decide +kernel
theorem lRL_277 : wM.any (isML RL 277 yX12_least) = true := by decide +kernel
theorem lRL_278 : wM.any (isML RL 278 yL_torn) = true := by decide +kernel
theorem lRL_280 : wM.any (isML RL 280 yX12_torn) = true := by decide +kernel
theorem lRL_281 : wM.any (isML RL 281 yX11_image) = true := by decide +kernel
theorem lRL_284 : wM.any (isML RL 284 yX12_image) = true := by decide +kernel
theorem lRL_285 : wM.any (isML RL 285 yX11_restore) = true := by decide +kernel
theorem lRL_289 : wM.any (isML RL 289 yX12_restore) = true := by decide +kernel
