/-! the invariant is kept: shelf -/
theorem tokAt_b (f : Nat → Int) (n p : Nat) : (tokAt f n p).2.2.1 = p := by
  unfold tokAt
  repeat' split
  all_goals rfl
theorem tk_place {f : Nat → Int} {n : Nat} : ∀ (k p : Nat), n - p ≤ k → p ≤ n → ∀ t ∈ tk f n p, t.2.2.1 ≤ n := by
  intro k
  induction k with
  | zero =>
    intro p hk hp t ht
    rw [tk_end f n p (by omega)] at ht
    rw [List.mem_singleton.mp ht]
    exact Nat.le_refl n
  | succ k ih =>
    intro p hk hp t ht
    by_cases h : p < n
    · cases hb : isBl (f p) with
      | true =>
        rw [tk_blank h hb] at ht
        exact ih (p + 1) (by omega) (by omega) t ht
      | false =>
        rw [tk_tok h hb] at ht
        have he := tokAt_end (f := f) h
        rcases List.mem_cons.mp ht with q | q
        · rw [q, tokAt_b]; omega
        · exact ih _ (by omega) (by omega) t q
    · rw [tk_end f n p (by omega)] at ht
      rw [List.mem_singleton.mp ht]
      exact Nat.le_refl n
theorem Inv_shelf {K n : Int} {A : Ab} (h : Inv K A) : Inv (K + 1) (shelfP A n).2.2 := by
  unfold shelfP
  split
  · exact Inv_mono h (by omega)
  · rename_i hn
    have hn : 0 ≤ n ∧ n ≤ A.2.2.2.1.2.1 := Classical.not_not.mp hn
    have ht := h.2.2.2.2.1
    obtain ⟨m, hm⟩ : ∃ m : Nat, m = n.toNat := ⟨_, rfl⟩
    rw [← hm]
    have hfT : ∀ j, j < m → 0 ≤ A.2.2.2.1.2.2 j ∧ A.2.2.2.1.2.2 j ≤ 255 := fun j hj => h.2.2.2.2.2.1 j (by omega)
    have hln := tk_len A.2.2.2.1.2.2 m m 0 (by omega)
    have hfin := pLns_ok (v := tkV (tk A.2.2.2.1.2.2 m 0)) (tk_pTok hfT) 501 0 sh0 (by omega) (by omega) okSh0
    have hpT : pTxt A.2.2.2.1.2.2 m = pLns (tkW (tk A.2.2.2.1.2.2 m 0)) (tkV (tk A.2.2.2.1.2.2 m 0)) 501 0 sh0 := rfl
    rw [← hpT] at hfin
    split
    · have h1 := Inv_ref (k := 0) h (by decide)
      obtain ⟨a1, a2, a3, a4, a5, a6, a7, a8⟩ := h1
      have hlt : (pTxt A.2.2.2.1.2.2 m).1 < (tk A.2.2.2.1.2.2 m 0).length := by omega
      have hb : tkB (tk A.2.2.2.1.2.2 m 0) (pTxt A.2.2.2.1.2.2 m).1 ≤ m := by
        unfold tkB
        rw [List.getD_eq_getElem?_getD, List.getElem?_eq_getElem hlt]
        exact tk_place m 0 (by omega) (by omega) _ (List.getElem_mem hlt)
      exact ⟨a1, a2, a3, ⟨by show (-1 : Int) ≤ (tkB (tk A.2.2.2.1.2.2 m 0) (pTxt A.2.2.2.1.2.2 m).1 : Nat); omega, by show ((tkB (tk A.2.2.2.1.2.2 m 0) (pTxt A.2.2.2.1.2.2 m).1 : Nat) : Int) ≤ 500; omega⟩, ⟨Int.le_refl _, by show (0 : Int) ≤ 500; decide⟩, a6, a7, a8⟩
    · rename_i hz
      have hz : (pTxt A.2.2.2.1.2.2 m).2.1 = 0 := Classical.not_not.mp hz
      have hS := okSh_more (hfin.2.2.2 hz).2 (j := 500) (by omega)
      have h0 := Inv_mono h (K' := K + 1) (by omega)
      refine ⟨hS, ⟨⟨List.nodup_nil, fun t q => (by cases q), fun t q => (by cases q)⟩, ⟨⟨Int.le_refl _, by show (0 : Int) ≤ 60; decide⟩, fun _ => rfl, ⟨Int.le_refl _, by show (-1 : Int) ≤ 60; decide⟩, fun q => absurd rfl q⟩, ⟨Nat.zero_le _, fun q hq => (by cases hq)⟩, h0.2.1.2.2.2.1, h0.2.1.2.2.2.2⟩, fun i hi => (by cases hi), ⟨Int.le_refl _, by show (-1 : Int) ≤ 500; decide⟩, ⟨Int.le_refl _, by show (0 : Int) ≤ 500; decide⟩, h0.2.2.2.2.2.1, fun l hl => (by cases hl), fun l hl => (by cases hl)⟩
