/-! Math.max, min, abs: the kit's rows, over V -/
section MM
variable {κ : Kx} {M : Ms} {rm : Room} {P : Option Vl → Om → Prop} {PX : String → Om → Prop} {mc ms : Nat} {μ : Mu} {cells slots : Nat} {Ω : Om} {pc j : Nat} {ls : List (Option Vl)} {st : List Vl}
theorem mx_words {y : MethodName} {b : ByteArray} {n i : Nat} {r : Option FieldType} (hi : tables_1[i]? = some (.code y b n r)) (hs : wI.any (isSM y) = true) (g : Gd κ M μ) : (Cond.static y).before (mA μ) (mS μ) = true ∧ (Cond.code y b n r).before (mA μ) (mS μ) = true := 
  ⟨g.2.2.2.2.2.2.2.1 _ (has_of wI_in hs isSM_ok rfl), g.2.2.2.2.2.2.2.1 _ (List.mem_filter.mpr ⟨List.mem_append_right _ (List.mem_of_getElem? hi), rfl⟩)⟩
theorem mx_ini : wI.any (isIni "java/lang/Math") = true := by decide +kernel
theorem mx_s1 : wI.any (isSM Lib.Math.max.name) = true := by decide +kernel
theorem mx_s2 : wI.any (isSM Lib.Math.min.name) = true := by decide +kernel
theorem mx_s3 : wI.any (isSM Lib.Math.abs.name) = true := by decide +kernel
theorem mx_s4 : wI.any (isSM Lib.MathLoose.max_long.x) = true := by decide +kernel
theorem mx_s5 : wI.any (isSM Lib.MathLoose.min_long.x) = true := by decide +kernel
theorem mx_b1 : Lib.Math.max.code = cJ9_max_7cf53 := by decide +kernel
set_option maxRecDepth 100000 in
theorem mx_c1 : tables_1[1334]? = some (.code Lib.Math.max.name cJ9_max_7cf53 2 (some .int)) := by rfl
theorem mx_b2 : Lib.Math.min.code = cJ9_min_7cf53 := by decide +kernel
set_option maxRecDepth 100000 in
theorem mx_c2 : tables_1[1091]? = some (.code Lib.Math.min.name cJ9_min_7cf53 2 (some .int)) := by rfl
theorem mx_b3 : Lib.Math.abs.code = cJ9_abs_0f7a4 := by decide +kernel
set_option maxRecDepth 100000 in
theorem mx_c3 : tables_1[1161]? = some (.code Lib.Math.abs.name cJ9_abs_0f7a4 1 (some .int)) := by rfl
theorem mx_b4 : Lib.MathLoose.max_long.code = cJ9_max_f86c9 := by decide +kernel
set_option maxRecDepth 100000 in
theorem mx_c4 : tables_1[1921]? = some (.code Lib.MathLoose.max_long.x cJ9_max_f86c9 4 (some .long)) := by rfl
theorem mx_b5 : Lib.MathLoose.min_long.code = cJ9_min_f86c9 := by decide +kernel
set_option maxRecDepth 100000 in
theorem mx_c5 : tables_1[1094]? = some (.code Lib.MathLoose.min_long.x cJ9_min_f86c9 4 (some .long)) := by rfl
theorem V_mmax {y x : Int} (hd : decode (MB M) pc = .ok (.invokestatic j, 3)) (hlk : wM.any (isML (MN M).cls j Lib.Math.max.name) = true) (hr : R32 x ∧ R32 y) (hcat : csm st ≤ 8) (hf : fitR rm 0) (hcs : cells ≤ rm.cells ∧ slots ≤ rm.slots) (k : V κ M rm P PX mc ms μ cells slots Ω (pc + 3) ls (.inl (if x < y then y else x) :: st)) : V κ M rm P PX mc ms μ cells slots Ω pc ls (.inl y :: .inl x :: st) := by
  intro g H locs lsA hH hL hl
  have k1 := k g H locs lsA hH hL hl
  obtain ⟨w1, w2⟩ := mx_words mx_c1 mx_s1 g
  rw [← mx_b1] at w2
  have hcat2 := cat_sum (κ := κ) hcat
  have hf2 := hf.2
  simp only [List.map_cons, tr] at k1 ⊢
  refine va_mmax g.2.1 g.2.2.1 (g.2.2.2.1.trans hl.1.symm) g.2.2.2.2.2.2.1 (g.2.2.2.2.2.2.2.1 _ (has_of wM_in hlk isML_ok rfl)) w1 (g.2.2.2.2.2.2.2.1 _ (has_of wI_in mx_ini isIni_ok rfl)) w2 (by have := hf.1; omega) (by omega) hcs.1 hcs.2 hd ?_
  have e : (if Int32.ofInt x < Int32.ofInt y then Int32.ofInt y else Int32.ofInt x) = Int32.ofInt (if x < y then y else x) := by
    by_cases h : x < y
    · rw [if_pos h, if_pos ((i32_lt hr.1 hr.2).mpr h)]
    · rw [if_neg h, if_neg (fun q => h ((i32_lt hr.1 hr.2).mp q))]
  rw [e]; exact k1
theorem V_mmin {y x : Int} (hd : decode (MB M) pc = .ok (.invokestatic j, 3)) (hlk : wM.any (isML (MN M).cls j Lib.Math.min.name) = true) (hr : R32 x ∧ R32 y) (hcat : csm st ≤ 8) (hf : fitR rm 0) (hcs : cells ≤ rm.cells ∧ slots ≤ rm.slots) (k : V κ M rm P PX mc ms μ cells slots Ω (pc + 3) ls (.inl (if y < x then y else x) :: st)) : V κ M rm P PX mc ms μ cells slots Ω pc ls (.inl y :: .inl x :: st) := by
  intro g H locs lsA hH hL hl
  have k1 := k g H locs lsA hH hL hl
  obtain ⟨w1, w2⟩ := mx_words mx_c2 mx_s2 g
  rw [← mx_b2] at w2
  have hcat2 := cat_sum (κ := κ) hcat
  have hf2 := hf.2
  simp only [List.map_cons, tr] at k1 ⊢
  refine va_mmin g.2.1 g.2.2.1 (g.2.2.2.1.trans hl.1.symm) g.2.2.2.2.2.2.1 (g.2.2.2.2.2.2.2.1 _ (has_of wM_in hlk isML_ok rfl)) w1 (g.2.2.2.2.2.2.2.1 _ (has_of wI_in mx_ini isIni_ok rfl)) w2 (by have := hf.1; omega) (by omega) hcs.1 hcs.2 hd ?_
  have e : (if Int32.ofInt y < Int32.ofInt x then Int32.ofInt y else Int32.ofInt x) = Int32.ofInt (if y < x then y else x) := by
    by_cases h : y < x
    · rw [if_pos h, if_pos ((i32_lt hr.2 hr.1).mpr h)]
    · rw [if_neg h, if_neg (fun q => h ((i32_lt hr.2 hr.1).mp q))]
  rw [e]; exact k1
theorem V_mmaxl {y x : Int} (hd : decode (MB M) pc = .ok (.invokestatic j, 3)) (hlk : wM.any (isML (MN M).cls j Lib.MathLoose.max_long.x) = true) (hr : R64 x ∧ R64 y) (hcat : csm st ≤ 8) (hf : fitR rm 0) (hcs : cells ≤ rm.cells ∧ slots ≤ rm.slots) (k : V κ M rm P PX mc ms μ cells slots Ω (pc + 3) ls (.inr (.inl (if y < x then x else y)) :: st)) : V κ M rm P PX mc ms μ cells slots Ω pc ls (.inr (.inl y) :: .inr (.inl x) :: st) := by
  intro g H locs lsA hH hL hl
  have k1 := k g H locs lsA hH hL hl
  obtain ⟨w1, w2⟩ := mx_words mx_c4 mx_s4 g
  rw [← mx_b4] at w2
  have hcat2 := cat_sum (κ := κ) hcat
  have hf2 := hf.2
  simp only [List.map_cons, tr] at k1 ⊢
  refine va_mmax_long g.2.1 g.2.2.1 (g.2.2.2.1.trans hl.1.symm) g.2.2.2.2.2.2.1 (g.2.2.2.2.2.2.2.1 _ (has_of wM_in hlk isML_ok rfl)) w1 (g.2.2.2.2.2.2.2.1 _ (has_of wI_in mx_ini isIni_ok rfl)) w2 (by have := hf.1; omega) (by omega) hcs.1 hcs.2 hd ?_
  have e : (if Int64.ofInt y < Int64.ofInt x then Int64.ofInt x else Int64.ofInt y) = Int64.ofInt (if y < x then x else y) := by
    by_cases h : y < x
    · rw [if_pos h, if_pos ((i64_lt hr.2 hr.1).mpr h)]
    · rw [if_neg h, if_neg (fun q => h ((i64_lt hr.2 hr.1).mp q))]
  rw [e]; exact k1
theorem V_mminl {y x : Int} (hd : decode (MB M) pc = .ok (.invokestatic j, 3)) (hlk : wM.any (isML (MN M).cls j Lib.MathLoose.min_long.x) = true) (hr : R64 x ∧ R64 y) (hcat : csm st ≤ 8) (hf : fitR rm 0) (hcs : cells ≤ rm.cells ∧ slots ≤ rm.slots) (k : V κ M rm P PX mc ms μ cells slots Ω (pc + 3) ls (.inr (.inl (if y < x then y else x)) :: st)) : V κ M rm P PX mc ms μ cells slots Ω pc ls (.inr (.inl y) :: .inr (.inl x) :: st) := by
  intro g H locs lsA hH hL hl
  have k1 := k g H locs lsA hH hL hl
  obtain ⟨w1, w2⟩ := mx_words mx_c5 mx_s5 g
  rw [← mx_b5] at w2
  have hcat2 := cat_sum (κ := κ) hcat
  have hf2 := hf.2
  simp only [List.map_cons, tr] at k1 ⊢
  refine va_mmin_long g.2.1 g.2.2.1 (g.2.2.2.1.trans hl.1.symm) g.2.2.2.2.2.2.1 (g.2.2.2.2.2.2.2.1 _ (has_of wM_in hlk isML_ok rfl)) w1 (g.2.2.2.2.2.2.2.1 _ (has_of wI_in mx_ini isIni_ok rfl)) w2 (by have := hf.1; omega) (by omega) hcs.1 hcs.2 hd ?_
  have e : (if Int64.ofInt y < Int64.ofInt x then Int64.ofInt y else Int64.ofInt x) = Int64.ofInt (if y < x then y else x) := by
    by_cases h : y < x
    · rw [if_pos h, if_pos ((i64_lt hr.2 hr.1).mpr h)]
    · rw [if_neg h, if_neg (fun q => h ((i64_lt hr.2 hr.1).mp q))]
  rw [e]; exact k1
theorem V_mabs {x : Int} (hd : decode (MB M) pc = .ok (.invokestatic j, 3)) (hlk : wM.any (isML (MN M).cls j Lib.Math.abs.name) = true) (hr : R32 x) (hcat : csm st ≤ 8) (hf : fitR rm 0) (hcs : cells ≤ rm.cells ∧ slots ≤ rm.slots) (k : V κ M rm P PX mc ms μ cells slots Ω (pc + 3) ls (.inl (if 0 ≤ x then x else 0 - x) :: st)) : V κ M rm P PX mc ms μ cells slots Ω pc ls (.inl x :: st) := by
  intro g H locs lsA hH hL hl
  have k1 := k g H locs lsA hH hL hl
  obtain ⟨w1, w2⟩ := mx_words mx_c3 mx_s3 g
  rw [← mx_b3] at w2
  have hcat2 := cat_sum (κ := κ) hcat
  have hf2 := hf.2
  simp only [List.map_cons, tr] at k1 ⊢
  refine va_mabs g.2.1 g.2.2.1 (g.2.2.2.1.trans hl.1.symm) g.2.2.2.2.2.2.1 (g.2.2.2.2.2.2.2.1 _ (has_of wM_in hlk isML_ok rfl)) w1 (g.2.2.2.2.2.2.2.1 _ (has_of wI_in mx_ini isIni_ok rfl)) w2 (by have := hf.1; omega) (by omega) hcs.1 hcs.2 hd ?_
  have e : (if 0 ≤ Int32.ofInt x then Int32.ofInt x else 0 - Int32.ofInt x) = Int32.ofInt (if 0 ≤ x then x else 0 - x) := by
    by_cases h : 0 ≤ x
    · rw [if_pos h, if_pos (show (0 : Int32) ≤ Int32.ofInt x from (i32_le r32_0 hr).mpr h)]
    · rw [if_neg h, if_neg (show ¬ (0 : Int32) ≤ Int32.ofInt x from fun q => h ((i32_le r32_0 hr).mp q)), Int32.ofInt_sub]; rfl
  rw [e]; exact k1
end MM
