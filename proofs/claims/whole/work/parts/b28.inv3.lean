/-! the invariant is kept: tear, sheet, seed -/
theorem Inv_tear {K i l : Int} {A : Ab} (h : Inv K A) : Inv (K + 1) (tearP A i l).2.2 := by
  unfold tearP
  split
  · exact Inv_mono h (by omega)
  · split
    · exact Inv_ref h (by decide)
    · rename_i h1 h2
      have h1 : inB A.1 i ∧ 0 ≤ l ∧ l < (bkA A i).2.2.1 := Classical.not_not.mp h1
      have hj : i.toNat < A.1.1.length := by have := h1.1.1; have := h1.1.2; omega
      have hi : i = ((i.toNat : Nat) : Int) := by have := h1.1.1; omega
      have hg : ¬ l ∈ (bkJ A.1 i.toNat).2.2.2.2.2 := fun q => h2 (Or.inl q)
      have h60 : ¬ 60 ≤ (bkJ A.1 i.toNat).2.2.2.2.2.length := fun q => h2 (Or.inr q)
      have hl : l < (bkJ A.1 i.toNat).2.2.1 := h1.2.2
      have := Inv_torn (i := i) (z := l) (o := -1) (Inv_mono h (K' := K + 1) (by omega)) hj hi ⟨h1.2.1, hl⟩ hg (Or.inl rfl) (by rw [if_pos rfl]; omega)
      rw [if_pos rfl] at this
      exact this
theorem Inv_sheet {K i l : Int} {A : Ab} (h : Inv K A) : Inv (K + 1) (sheetP A i l).2.2 := by
  unfold sheetP
  split
  · exact Inv_mono h (by omega)
  · split
    · exact Inv_ref h (by decide)
    · rename_i h1 h2
      have h1 : inB A.1 i ∧ 0 ≤ l ∧ l < (bkA A i).2.2.1 / 2 := Classical.not_not.mp h1
      have hj : i.toNat < A.1.1.length := by have := h1.1.1; have := h1.1.2; omega
      have hi : i = ((i.toNat : Nat) : Int) := by have := h1.1.1; omega
      have hg : ¬ l ∈ (bkJ A.1 i.toNat).2.2.2.2.2 := fun q => h2 (Or.inr (Or.inl q))
      have ho : ¬ (bkJ A.1 i.toNat).2.2.1 - 1 - l ∈ (bkJ A.1 i.toNat).2.2.2.2.2 := fun q => h2 (Or.inr (Or.inr (Or.inl q)))
      have he : ¬ (bkJ A.1 i.toNat).2.2.1 % 2 ≠ 0 := fun q => h2 (Or.inl q)
      have h60 : ¬ 58 < (bkJ A.1 i.toNat).2.2.2.2.2.length := fun q => h2 (Or.inr (Or.inr (Or.inr q)))
      have hl : l < (bkJ A.1 i.toNat).2.2.1 / 2 := h1.2.2
      have h0 := h1.2.1
      have hn : ¬ (bkJ A.1 i.toNat).2.2.1 - 1 - l = -1 := by omega
      have := Inv_torn (i := i) (z := l) (o := (bkJ A.1 i.toNat).2.2.1 - 1 - l) (Inv_mono h (K' := K + 1) (by omega)) hj hi ⟨h0, by omega⟩ hg (Or.inr ⟨⟨by omega, by omega⟩, ho, by omega⟩) (by rw [if_neg hn]; omega)
      rw [if_neg hn] at this
      exact this
theorem Inv_seedL {K : Int} {j : Nat} : ∀ (r : Nat) (v : Int) (A : Ab), Inv K A → j < A.1.1.length → (bkJ A.1 j).2.2.2.2.2.length + r ≤ 60 → ((bkJ A.1 j).2.2.2.2.2.length : Int) + r ≤ (bkJ A.1 j).2.2.1 → Inv K (seedL j r v A) := by
  intro r
  induction r with
  | zero => intro v A h _ _ _; exact h
  | succ r ih =>
    intro v A h hj h60 hlv
    obtain ⟨w1, w2, w3, w4, w5⟩ := gone_ok h.1 hj
    have hsk := skV_R (v * 1103515245 + 12345)
    have hm0 := Int.emod_nonneg (skV (v * 1103515245 + 12345)) (show (bkJ A.1 j).2.2.1 - ((bkJ A.1 j).2.2.2.2.2.length : Nat) ≠ 0 by omega)
    have hm1 := Int.emod_lt_of_pos (skV (v * 1103515245 + 12345)) (show 0 < (bkJ A.1 j).2.2.1 - ((bkJ A.1 j).2.2.2.2.2.length : Nat) by omega)
    have hz := thB_ok (b := bkJ A.1 j) w1 w3 (by omega) hm0 hm1
    have hzz : seedZ A j (v * 1103515245 + 12345) = thB (bkJ A.1 j) (skV (v * 1103515245 + 12345) % ((bkJ A.1 j).2.2.1 - ((bkJ A.1 j).2.2.2.2.2.length : Nat))) := rfl
    rw [← hzz] at hz
    rw [seedL]
    generalize seedZ A j (v * 1103515245 + 12345) = z at *
    have hI2 := Inv_torn (i := (j : Int)) (z := z) (o := -1) h hj rfl ⟨hz.1, hz.2.1⟩ hz.2.2 (Or.inl rfl) (by rw [if_pos rfl]; omega)
    rw [if_pos rfl] at hI2
    generalize hA2 : tornA A j [z] ((j : Int), z, -1) = A2 at *
    have hb2 : bkJ A2.1 j = bkGo' (bkJ A.1 j) ((bkJ A.1 j).2.2.2.2.2 ++ [z]) := by
      rw [← hA2]; show bkJ (setGo _ _ _) j = _; rw [bkJ_go hj, if_pos rfl]
    have hl2 : A2.1.1.length = A.1.1.length := by rw [← hA2]; exact setGo_len _ _ _
    refine ih _ A2 hI2 (by omega) ?_ ?_
    · rw [hb2]; show ((bkJ A.1 j).2.2.2.2.2 ++ [z]).length + r ≤ 60; rw [List.length_append, List.length_singleton]; omega
    · rw [hb2]; show (((bkJ A.1 j).2.2.2.2.2 ++ [z]).length : Int) + r ≤ (bkJ A.1 j).2.2.1; rw [List.length_append, List.length_singleton]; omega
theorem Inv_seed {K i v k : Int} {A : Ab} (h : Inv K A) : Inv (K + 1) (seedP A i v k).2.2 := by
  unfold seedP
  split
  · exact Inv_mono h (by omega)
  · split
    · exact Inv_mono h (by omega)
    · split
      · exact Inv_ref h (by decide)
      · rename_i h1 h2 h3
        have h1 : inB A.1 i := Classical.not_not.mp h1
        have h2 : 0 ≤ k ∧ k ≤ 60 := Classical.not_not.mp h2
        have hj : i.toNat < A.1.1.length := by have := h1.1; have := h1.2; omega
        have h4 : ¬ 60 < ((bkJ A.1 i.toNat).2.2.2.2.2.length : Nat) + k := fun q => h3 (Or.inl q)
        have h5 : ¬ (bkJ A.1 i.toNat).2.2.1 - ((bkJ A.1 i.toNat).2.2.2.2.2.length : Nat) < k := fun q => h3 (Or.inr q)
        exact Inv_seedL k.toNat v A (Inv_mono h (by omega)) hj (by omega) (by omega)
