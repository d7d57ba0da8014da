/-! the invariant is kept: image, restore -/
theorem setGs_2 {S : Sh} {gs gs' : List (List Int)} (h : gs.length = S.1.length) : setGs (setGs S gs) gs' = setGs S gs' := by
  unfold setGs
  refine Prod.ext ?_ rfl
  refine List.ext_getElem (by simp; omega) (fun i h1 h2 => ?_)
  simp only [List.getElem_zipWith]
theorem Inv_image {K : Int} {A : Ab} (h : Inv K A) : Inv K (imageA A) := by
  obtain ⟨a1, a2, a3, a4⟩ := h
  refine ⟨a1, a2, fun i hi => ?_, a4⟩
  have hi2 : some (A.1.1.map (fun b => b.2.2.2.2.2), A.2.1) = some i := hi
  cases hi2
  exact ⟨List.length_map _, by rw [show setGs (imageA A).1 (A.1.1.map (fun b => b.2.2.2.2.2)) = A.1 from setGs_own]; exact a1, by rw [show setGs (imageA A).1 (A.1.1.map (fun b => b.2.2.2.2.2)) = A.1 from setGs_own]; exact a2⟩
theorem Inv_restore {K : Int} {A : Ab} (h : Inv K A) : Inv K (restoreA A) := by
  unfold restoreA
  split
  · exact h
  · rename_i i hi
    obtain ⟨a1, a2, a3, a4⟩ := h
    obtain ⟨b1, b2, b3⟩ := a3 i hi
    refine ⟨b2, b3, fun i' hi' => ?_, a4⟩
    have hi2 : A.2.2.1 = some i' := hi'
    obtain ⟨c1, c2, c3⟩ := a3 i' hi2
    exact ⟨by rw [c1]; exact (setGs_len b1).symm, by rw [setGs_2 b1]; exact c2, by rw [setGs_2 b1]; exact c3⟩
