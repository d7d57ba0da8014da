/-! WHAT IS KNOWN AT THE LAW'S ENTRY: classes, Strings, statics -/
def FLg : List Cond := flatC (Jvm.Cond.and given_1 narrow_1)
theorem inst_all : vwCl.all (fun r => decide (Cond.instantiable r.1 r.2.2 ∈ lw_tbl)) = true := by decide +kernel
theorem K_of {s : State} {args : Array Value} (hts : ∀ w ∈ lw_tbl, w.before args s = true) : ∃ D : va_G, va_K D vwCl [] s := by
  have h : ∀ ci : Nat, ∃ q : ClassId × (Nat → Nat), ∀ r, vwCl[ci]? = some r → u_Kn s r.1 r.2.1 r.2.2 q.1 q.2 := fun ci => by
    cases e : vwCl[ci]? with
    | none => exact ⟨((0 : Nat), fun _ => 0), fun r hr => by cases hr⟩
    | some r =>
      obtain ⟨r1, -, -⟩ := cl_rows e
      obtain ⟨cC, iS, hk⟩ := u_known (C := r.1) (T := r.2.1) (N := r.2.2) (n := r.2.2) hts (fun w hw => (List.mem_filter.mp (r1 w hw)).1) (hts _ (of_decide_eq_true (List.all_eq_true.mp inst_all r (List.mem_of_getElem? e))))
      exact ⟨(cC, iS), fun r' hr' => by cases hr'; exact hk⟩
  obtain ⟨f, hf⟩ := Classical.axiomOfChoice h
  exact ⟨(fun ci => (f ci).1, fun ci => (f ci).2), fun ci r hr => hf ci r hr, fun k x hx => by simp at hx⟩
theorem getD_mapI (t : List Int) (j : Nat) : (t.map Int32.ofInt).getD j 0 = Int32.ofInt (t.getD j 0) := by
  rw [List.getD_eq_getElem?_getD, List.getD_eq_getElem?_getD, List.getElem?_map]
  cases t[j]? <;> rfl
def chI (tx : String) : List Int := tx.toList.map (fun c => (c.toNat : Int))
def stL (own : String) (k : Nat) (t : List Int) : List Cond :=
  [Cond.exactly (.string own k) "java/lang/String", Cond.eq (.field (.string own k) "java/lang/String" "coder" "B") (.int 0), Cond.arrayOf (.field (.string own k) "java/lang/String" "value" "[B") .byte, Cond.eq (.length (.field (.string own k) "java/lang/String" "value" "[B")) (.int (Int32.ofNat t.length))] ++ (List.range t.length).map (fun j => Cond.eq (.elem (.field (.string own k) "java/lang/String" "value" "[B") (.int (Int32.ofNat j))) (.int (Int32.ofInt (t.getD j 0))))
def stO : List Nat := [71, 80, 88, 97, 104, 112, 120, 128, 134, 142, 150, 158, 166, 174, 182, 192, 199, 206, 533, 543, 552, 562, 570, 579, 588, 597, 606, 615, 624, 651, 659, 667, 644, 635, 674, 683]
def stK (own : String) (k : Nat) (tx : String) (n : Nat) : Bool :=
  decide ((FLg.drop n).take (4 + (chI tx).length) = stL own k (chI tx)) && (wK.any (isStr own k tx) && ((chI tx).all (fun z => decide (0 ≤ z ∧ z ≤ 127)) && decide ((chI tx).length < 100)))
set_option maxRecDepth 100000 in
theorem stK_0 : stK RX9 24 "plain" 71 = true := by decide +kernel
theorem stK_1 : stK RX9 26 "sewn" 80 = true := by decide +kernel
theorem stK_2 : stK RX9 28 "roman" 88 = true := by decide +kernel
theorem stK_3 : stK RX9 30 "odd" 97 = true := by decide +kernel
theorem stK_4 : stK RX9 32 "even" 104 = true := by decide +kernel
theorem stK_5 : stK RX9 34 "skip" 112 = true := by decide +kernel
theorem stK_6 : stK RX9 36 "told" 120 = true := by decide +kernel
theorem stK_7 : stK RX9 38 "by" 128 = true := by decide +kernel
theorem stK_8 : stK RX9 40 "gone" 134 = true := by decide +kernel
theorem stK_9 : stK RX9 42 "copy" 142 = true := by decide +kernel
theorem stK_10 : stK RX9 44 "lead" 150 = true := by decide +kernel
theorem stK_11 : stK RX9 46 "page" 158 = true := by decide +kernel
theorem stK_12 : stK RX9 48 "leaf" 166 = true := by decide +kernel
theorem stK_13 : stK RX9 50 "side" 174 = true := by decide +kernel
theorem stK_14 : stK RX9 52 "leaves" 182 = true := by decide +kernel
theorem stK_15 : stK RX9 54 "not" 192 = true := by decide +kernel
theorem stK_16 : stK RX9 56 "and" 199 = true := by decide +kernel
theorem stK_17 : stK RX9 58 "or" 206 = true := by decide +kernel
theorem stK_18 : stK RX12 9 "plain" 533 = true := by decide +kernel
theorem stK_19 : stK RX12 11 "sewn" 543 = true := by decide +kernel
theorem stK_20 : stK RX12 13 "roman" 552 = true := by decide +kernel
theorem stK_21 : stK RX12 15 "odd" 562 = true := by decide +kernel
theorem stK_22 : stK RX12 17 "even" 570 = true := by decide +kernel
theorem stK_23 : stK RX12 19 "skip" 579 = true := by decide +kernel
theorem stK_24 : stK RX12 21 "told" 588 = true := by decide +kernel
theorem stK_25 : stK RX12 29 "page" 597 = true := by decide +kernel
theorem stK_26 : stK RX12 31 "leaf" 606 = true := by decide +kernel
theorem stK_27 : stK RX12 33 "side" 615 = true := by decide +kernel
theorem stK_28 : stK RX12 35 "leaves" 624 = true := by decide +kernel
theorem stK_29 : stK RX12 280 "not" 651 = true := by decide +kernel
theorem stK_30 : stK RX12 288 "and" 659 = true := by decide +kernel
theorem stK_31 : stK RX12 293 "or" 667 = true := by decide +kernel
theorem stK_32 : stK RX12 302 "by" 644 = true := by decide +kernel
theorem stK_33 : stK RX12 311 "lead" 635 = true := by decide +kernel
theorem stK_34 : stK RX12 315 "gone" 674 = true := by decide +kernel
theorem stK_35 : stK RX12 319 "copy" 683 = true := by decide +kernel
theorem stK_all : ∀ (i : Nat) (q : String × Nat × String), SCT[i]? = some q → ∃ n, stK q.1 q.2.1 q.2.2 n = true := fun i q h => by
  match i, h with
  | 0, h => cases h; exact ⟨_, stK_0⟩
  | 1, h => cases h; exact ⟨_, stK_1⟩
  | 2, h => cases h; exact ⟨_, stK_2⟩
  | 3, h => cases h; exact ⟨_, stK_3⟩
  | 4, h => cases h; exact ⟨_, stK_4⟩
  | 5, h => cases h; exact ⟨_, stK_5⟩
  | 6, h => cases h; exact ⟨_, stK_6⟩
  | 7, h => cases h; exact ⟨_, stK_7⟩
  | 8, h => cases h; exact ⟨_, stK_8⟩
  | 9, h => cases h; exact ⟨_, stK_9⟩
  | 10, h => cases h; exact ⟨_, stK_10⟩
  | 11, h => cases h; exact ⟨_, stK_11⟩
  | 12, h => cases h; exact ⟨_, stK_12⟩
  | 13, h => cases h; exact ⟨_, stK_13⟩
  | 14, h => cases h; exact ⟨_, stK_14⟩
  | 15, h => cases h; exact ⟨_, stK_15⟩
  | 16, h => cases h; exact ⟨_, stK_16⟩
  | 17, h => cases h; exact ⟨_, stK_17⟩
  | 18, h => cases h; exact ⟨_, stK_18⟩
  | 19, h => cases h; exact ⟨_, stK_19⟩
  | 20, h => cases h; exact ⟨_, stK_20⟩
  | 21, h => cases h; exact ⟨_, stK_21⟩
  | 22, h => cases h; exact ⟨_, stK_22⟩
  | 23, h => cases h; exact ⟨_, stK_23⟩
  | 24, h => cases h; exact ⟨_, stK_24⟩
  | 25, h => cases h; exact ⟨_, stK_25⟩
  | 26, h => cases h; exact ⟨_, stK_26⟩
  | 27, h => cases h; exact ⟨_, stK_27⟩
  | 28, h => cases h; exact ⟨_, stK_28⟩
  | 29, h => cases h; exact ⟨_, stK_29⟩
  | 30, h => cases h; exact ⟨_, stK_30⟩
  | 31, h => cases h; exact ⟨_, stK_31⟩
  | 32, h => cases h; exact ⟨_, stK_32⟩
  | 33, h => cases h; exact ⟨_, stK_33⟩
  | 34, h => cases h; exact ⟨_, stK_34⟩
  | 35, h => cases h; exact ⟨_, stK_35⟩
  | i + 36, h => simp [SCT] at h
theorem st_of {s : State} {args : Array Value} {own tx : String} {k : Nat} {A : Nat → Prop} (hts : ∀ w ∈ lw_tbl, w.before args s = true) (hgv : ∀ w ∈ FLg, w.before args s = true) (hA : ∀ a : Nat, a < s.heap.size → ¬ A a) {n : Nat} (hk : stK own k tx n = true) :
    ∃ a, vk_R own k tx a s ∧ (chI tx).length < 2147483648 ∧ (∀ z ∈ chI tx, 0 ≤ z ∧ z ≤ 127) ∧ ∃ b : Nat, va_O "java/lang/String" a A s s.heap ∧ va_OF "java/lang/String" "coder" "B" (.int 0) a A s s.heap ∧ va_OF "java/lang/String" "value" "[B" (.ref b) a A s s.heap ∧ va_T .byte b (chI tx).length (fun j => .int (Int32.ofInt ((chI tx).getD j 0))) A s s.heap := by
  unfold stK at hk
  simp only [Bool.and_eq_true, decide_eq_true_eq, List.all_eq_true] at hk
  obtain ⟨k0, k6, k7, k8⟩ := hk
  have hm : ∀ w ∈ stL own k (chI tx), w ∈ FLg := fun w hw => by
    rw [← k0] at hw
    exact List.mem_of_mem_drop (List.mem_of_mem_take hw)
  have k1 := hm _ (List.mem_append_left _ (List.mem_of_getElem? (i := 0) rfl))
  have k2 := hm _ (List.mem_append_left _ (List.mem_of_getElem? (i := 1) rfl))
  have k3 := hm _ (List.mem_append_left _ (List.mem_of_getElem? (i := 2) rfl))
  have k4 := hm _ (List.mem_append_left _ (List.mem_of_getElem? (i := 3) rfl))
  have k5 : ∀ j, j < (chI tx).length → Cond.eq (.elem (.field (.string own k) "java/lang/String" "value" "[B") (.int (Int32.ofNat j))) (.int (Int32.ofInt ((chI tx).getD j 0))) ∈ FLg := fun j hj => hm _ (List.mem_append_right _ (List.mem_map.mpr ⟨j, List.mem_range.mpr hj, rfl⟩))
  obtain ⟨adK, adV, ⟨h1, -⟩, h2⟩ := vk_Sof (args := args) (s := s) (N := 1) (tm := fun _ => Term.string own k) (len := [(chI tx).length]) (byt := [(chI tx).map Int32.ofInt]) (A := A)
    (fun i hi => by obtain rfl : i = 0 := (by omega); show (chI tx).length < 2 ^ 31; omega) (fun i hi => hgv _ k1) (fun i hi => hgv _ k2) (fun i hi => hgv _ k3) (fun i hi => by obtain rfl : i = 0 := (by omega); exact hgv _ k4)
    (fun i hi j hj => by
      obtain rfl : i = 0 := by omega
      have hj : j < (chI tx).length := hj
      have := hgv _ (k5 j hj)
      rw [← getD_mapI] at this
      exact this) (fun i j hi hj hij => by omega) hA
  obtain ⟨g1, g2, g3, g4⟩ := h1 0 (by omega)
  refine ⟨adK 0, vk_R.of (hts _ (tbl_of wK_in k6 isStr_ok)) (h2 0 (by omega)), by omega, k7, adV 0, g1, g2, g3, ?_⟩
  have e : (fun j => Value.int ((([(chI tx).map Int32.ofInt] : List (List Int32)).getD 0 []).getD j 0)) = fun j => .int (Int32.ofInt ((chI tx).getD j 0)) := by
    funext j
    show Value.int (((chI tx).map Int32.ofInt).getD j 0) = _
    rw [getD_mapI]
  rw [← e]
  exact g4
theorem mem_1 : Cond.laysStatic Bundle.tN "UNASSIGNED_STACK" Bundle.steD ∈ lw_tbl := by decide +kernel
theorem mem_2 : Cond.laysStatic Bundle.tN "SUPPRESSED_SENTINEL" Bundle.listD ∈ lw_tbl := by decide +kernel
theorem mem_3 : Cond.initialized Bundle.tN ∈ lw_tbl := by decide +kernel
theorem mem_4 : Cond.laysStatic "java/lang/String" "COMPACT_STRINGS" "Z" ∈ lw_tbl := by decide +kernel
theorem mem_5 : Cond.initialized "java/lang/String" ∈ lw_tbl := by decide +kernel
theorem mem_6 : Cond.laysStatic "jdk/internal/util/Preconditions" "SIOOBE_FORMATTER" "Ljava/util/function/BiFunction;" ∈ lw_tbl := by decide +kernel
theorem mem_7 : Cond.initialized "jdk/internal/util/Preconditions" ∈ lw_tbl := by decide +kernel
theorem giv_1 : Cond.isRef (.static Bundle.tN "UNASSIGNED_STACK" Bundle.steD) ∈ FLg := by decide +kernel
theorem giv_2 : Cond.isRef (.static Bundle.tN "SUPPRESSED_SENTINEL" Bundle.listD) ∈ FLg := by decide +kernel
theorem giv_4 : Cond.eq (.static "java/lang/String" "COMPACT_STRINGS" "Z") (.int 1) ∈ FLg := by decide +kernel
theorem giv_6 : Cond.isRef (.static "jdk/internal/util/Preconditions" "SIOOBE_FORMATTER" "Ljava/util/function/BiFunction;") ∈ FLg := by decide +kernel
theorem giv_8 : Cond.not (.castable "java/lang/IllegalArgumentException" "java/util/NoSuchElementException") ∈ FLg := by decide +kernel
def spF (b : Nat) (f : Nat → Nat) : Nat → Nat
  | 0 => b
  | i + 1 => f i
/-- all that is known, out of the entry -/
theorem K_all {l : Launch} {s : State} {args : Array Value} {b L : Nat} {xs : Nat → Int32} (hl : l.stackTraces = false) (hts : ∀ w ∈ lw_tbl, w.before args s = true) (hgv : ∀ w ∈ FLg, w.before args s = true) (hX : va_X b L xs s s.heap) :
    ∃ (D : va_G) (sp : Nat → Nat), sp 0 = b ∧ KOK (l, s, D, sp, L, xs) ∧ HB (l, s, D, sp, L, xs) ∧ KS (l, s, D, sp, L, xs) := by
  obtain ⟨D, hK⟩ := K_of hts
  have hA : ∀ a : Nat, a < s.heap.size → ¬ (fun q => s.heap.size ≤ q) a := fun a h => Nat.not_le.mpr h
  have hS : ∀ i : Nat, ∃ a : Nat, ∀ q, SCT[i]? = some q → vk_R q.1 q.2.1 q.2.2 a s ∧ (chI q.2.2).length < 2147483648 ∧ (∀ z ∈ chI q.2.2, 0 ≤ z ∧ z ≤ 127) ∧ ∃ b : Nat, va_O "java/lang/String" a (fun q => s.heap.size ≤ q) s s.heap ∧ va_OF "java/lang/String" "coder" "B" (.int 0) a (fun q => s.heap.size ≤ q) s s.heap ∧ va_OF "java/lang/String" "value" "[B" (.ref b) a (fun q => s.heap.size ≤ q) s s.heap ∧ va_T .byte b (chI q.2.2).length (fun j => .int (Int32.ofInt ((chI q.2.2).getD j 0))) (fun q => s.heap.size ≤ q) s s.heap := fun i => by
    cases e : SCT[i]? with
    | none => exact ⟨0, fun q hq => by cases hq⟩
    | some q =>
      obtain ⟨n, hn⟩ := stK_all i q e
      obtain ⟨a, ha⟩ := st_of (own := q.1) (k := q.2.1) (tx := q.2.2) hts hgv hA hn
      exact ⟨a, fun q' hq' => by cases hq'; exact ha⟩
  obtain ⟨f, hf⟩ := Classical.axiomOfChoice hS
  refine ⟨D, spF b f, rfl, ⟨hl, ⟨args, hts⟩, hK, vx_Zqof (hts _ mem_1) (hts _ mem_3) (hgv _ giv_1) hA, vx_Zqof (hts _ mem_2) (hts _ mem_3) (hgv _ giv_2) hA, hX⟩, va_Nc.of (hgv _ giv_8), ⟨va_Zof (hts _ mem_4) (hts _ mem_5) (va_eqi (hgv _ giv_4)) hA, va_Zqof (hts _ mem_6) (hts _ mem_7) (hgv _ giv_6) hA⟩, fun i q hq => ?_⟩
  obtain ⟨a1, a2, a3, a4⟩ := hf i q hq
  have hi : i < 36 := (List.getElem?_eq_some_iff.mp hq).1
  have e : 1000001 + i - 1000000 = i + 1 := by omega
  refine ⟨a1, ?_⟩
  unfold SF
  rw [e]
  exact ⟨⟨by omega, by omega⟩, a2, a3, a4⟩
