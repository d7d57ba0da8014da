/-! THE MODEL: tear, sheet -/
theorem tw_fe (G : Wd) (j n t : Nat) (l : Int) (b : Bool) : FZm G (toW G j n t l b) := (((((((FZm.refl G).u (by omega)).u (by omega)).u (by omega)).u (by omega)).u (by omega)).u (by omega)).u (by omega)
theorem tw_153 {G : Wd} {j n t y : Nat} {l : Int} {b : Bool} : (toW G j n t l b).1 153 y = if y = 60 * j + n then l else G.1 153 y := by
  unfold toW
  rw [iv (by omega), iv (by omega), iv (by omega), iv (by omega), iv (by omega), iv (by omega)]
  by_cases c : y = 60 * j + n
  · subst c; rw [if_pos rfl]; exact iu
  · rw [if_neg c, iv (by omega)]
theorem tw_152 {G : Wd} {j n t y : Nat} {l : Int} {b : Bool} : (toW G j n t l b).1 152 y = if y = j then (n : Int) + 1 else G.1 152 y := by
  unfold toW
  rw [iv (by omega), iv (by omega), iv (by omega), iv (by omega), iv (by omega)]
  by_cases c : y = j
  · subst c; rw [if_pos rfl]; exact iu
  · rw [if_neg c, iv (by omega), iv (by omega)]
theorem tw_t {G : Wd} {j n t y : Nat} {l : Int} {b : Bool} : (toW G j n t l b).1 165 y = (if y = t then (j : Int) else G.1 165 y) ∧ (toW G j n t l b).1 166 y = (if y = t then l else G.1 166 y) ∧ (toW G j n t l b).1 167 y = (if y = t then b2i b else G.1 167 y) := by
  unfold toW
  refine ⟨?_, ?_, ?_⟩
  · rw [iv (by omega), iv (by omega), iv (by omega), iv (by omega)]
    by_cases c : y = t
    · subst c; rw [if_pos rfl]; exact iu
    · rw [if_neg c, iv (by omega), iv (by omega), iv (by omega)]
  · rw [iv (by omega), iv (by omega), iv (by omega)]
    by_cases c : y = t
    · subst c; rw [if_pos rfl]; exact iu
    · rw [if_neg c, iv (by omega), iv (by omega), iv (by omega), iv (by omega)]
  · rw [iv (by omega), iv (by omega)]
    by_cases c : y = t
    · subst c; rw [if_pos rfl]; exact iu
    · rw [if_neg c, iv (by omega), iv (by omega), iv (by omega), iv (by omega), iv (by omega)]
theorem tw_5 {G : Wd} {j n t : Nat} {l : Int} {b : Bool} : (toW G j n t l b).1 145 34 = (t : Int) + 1 ∧ (toW G j n t l b).1 145 35 = G.1 145 35 + b2i (!b) ∧ ∀ x y, x ≠ 152 → x ≠ 153 → ¬ (165 ≤ x ∧ x ≤ 167) → ¬ (x = 145 ∧ (y = 34 ∨ y = 35)) → (toW G j n t l b).1 x y = G.1 x y := by
  unfold toW
  refine ⟨?_, iu, fun x y a b c e => ?_⟩
  · rw [iv (by omega)]; exact iu
  · rw [iv (by omega), iv (by omega), iv (by omega), iv (by omega), iv (by omega), iv (by omega), iv (by omega)]
/-- the torn leaves of the model -/
def tnM (G : Wd) (F : List (Int × Int × Bool)) : Prop := G.1 145 34 = (F.length : Nat) ∧ ∀ i (h : i < F.length), G.1 165 i = (F[i]'h).1 ∧ G.1 166 i = (F[i]'h).2.1 ∧ G.1 167 i = b2i (F[i]'h).2.2
theorem tnM_tw {G : Wd} {F : List (Int × Int × Bool)} {j n : Nat} {l : Int} {b : Bool} (h : tnM G F) : tnM (toW G j n F.length l b) (F ++ [((j : Int), l, b)]) := by
  obtain ⟨h1, h2⟩ := h
  refine ⟨by rw [tw_5.1, List.length_append]; simp, fun i hi => ?_⟩
  obtain ⟨t1, t2, t3⟩ := tw_t (G := G) (j := j) (n := n) (t := F.length) (y := i) (l := l) (b := b)
  rw [t1, t2, t3]
  by_cases c : i < F.length
  · rw [if_neg (by omega), if_neg (by omega), if_neg (by omega), List.getElem_append_left c]; exact h2 i c
  · have e : i = F.length := by simp at hi; omega
    subst e
    rw [if_pos rfl, if_pos rfl, if_pos rfl, List.getElem_append_right (Nat.le_refl _)]
    simp
theorem evM_T {G G' : Wd} {S : Sh} {v : Ev} {T' : List Tn} (h : evM G mcN S v) (ht : tnM G' (flT T')) (ha : G'.1 145 35 = (T'.length : Nat)) (f5 : ∀ y, y = 36 ∨ y = 37 ∨ y = 38 ∨ y = 48 → G'.1 145 y = G.1 145 y) (fl : G'.2.1 145 39 = G.2.1 145 39) (fx : ∀ x, x = 161 ∨ x = 172 ∨ x = 173 → G'.1 x = G.1 x) : evM G' mcN S (T', v.2) := by
  obtain ⟨h1, h2, h3, h4, h5, h6, h7, h8⟩ := h
  dsimp only [mcN] at *
  refine ⟨ht.1, ht.2, ha, (f5 36 (by omega)).trans h4, fun q => ?_, (f5 48 (by omega)).trans h6, fun i hi => ?_, fun i hi => ?_⟩
  · have := h5 q
    dsimp only [mcN]
    rw [f5 37 (by omega), f5 38 (by omega), fl]; exact this
  · dsimp only [mcN]
    rw [fx 172 (by omega), fx 173 (by omega)]; exact h7 i hi
  · dsimp only [mcN]
    rw [fx 161 (by omega)]; exact h8 i hi
theorem mS0_tw {G : Wd} {S : Sh} {j t : Nat} {l : Int} {b : Bool} (h : mS0 G S) (hj : j < S.1.length) (hl : ∀ k, k < S.1.length → (bkJ S k).2.2.2.2.2.length ≤ 60) (h60 : (bkJ S j).2.2.2.2.2.length < 60) : mS0 (toW G j (bkJ S j).2.2.2.2.2.length t l b) (setGo S j ((bkJ S j).2.2.2.2.2 ++ [l])) := by
  have hf := (tw_5 (G := G) (j := j) (n := (bkJ S j).2.2.2.2.2.length) (t := t) (l := l) (b := b)).2.2
  have fx : ∀ x, x ≠ 152 → x ≠ 153 → ¬ (165 ≤ x ∧ x ≤ 167) → x ≠ 145 → (toW G j (bkJ S j).2.2.2.2.2.length t l b).1 x = G.1 x := fun x a b c d => funext fun y => hf x y a b c (fun q => d q.1)
  obtain ⟨h1, h2, h3, h4, h5, h6⟩ := h
  refine ⟨by rw [fx 148 (by omega) (by omega) (by omega) (by omega), setGo_len]; exact h1, fun k hk => ?_, by rw [fx 148 (by omega) (by omega) (by omega) (by omega)]; exact h3, fun k hk => ?_, fun k hk => by rw [fx 157 (by omega) (by omega) (by omega) (by omega)]; exact h5 k hk, fun k hk => by rw [fx 160 (by omega) (by omega) (by omega) (by omega)]; exact h6 k hk⟩
  · have hk0 : k < S.1.length := by rw [setGo_len] at hk; exact hk
    have hb : (setGo S j ((bkJ S j).2.2.2.2.2 ++ [l])).1[k]'hk = if j = k then bkGo' (bkJ S k) ((bkJ S j).2.2.2.2.2 ++ [l]) else bkJ S k := by rw [← bkJ_in hk, bkJ_go hk0]
    rw [hb]
    have hm := h2 k hk0
    rw [← bkJ_in hk0] at hm
    have hlk := hl k hk0
    unfold mBk at *
    rw [fx 149 (by omega) (by omega) (by omega) (by omega), fx 150 (by omega) (by omega) (by omega) (by omega), fx 151 (by omega) (by omega) (by omega) (by omega), fx 158 (by omega) (by omega) (by omega) (by omega), fx 159 (by omega) (by omega) (by omega) (by omega), tw_152]
    by_cases c : j = k
    · subst c
      rw [if_pos rfl, if_pos rfl]
      refine ⟨hm.1, hm.2.1, hm.2.2.1, hm.2.2.2.1, by rw [List.length_append]; simp, fun i hi => ?_⟩
      rw [tw_153]
      by_cases c2 : i < (bkJ S j).2.2.2.2.2.length
      · rw [if_neg (by omega), List.getElem_append_left c2]; exact hm.2.2.2.2.2 i c2
      · have e : i = (bkJ S j).2.2.2.2.2.length := by simp at hi; omega
        subst e
        rw [if_pos rfl, List.getElem_append_right (Nat.le_refl _)]; simp
    · rw [if_neg c, if_neg (fun q => c q.symm)]
      refine ⟨hm.1, hm.2.1, hm.2.2.1, hm.2.2.2.1, hm.2.2.2.2.1, fun i hi => ?_⟩
      rw [tw_153, if_neg (by omega)]; exact hm.2.2.2.2.2 i hi
  · have := h4 k hk
    unfold mCp at *
    rw [fx 154 (by omega) (by omega) (by omega) (by omega), fx 155 (by omega) (by omega) (by omega) (by omega), fx 156 (by omega) (by omega) (by omega) (by omega)]; exact this
theorem setGo_2 {S : Sh} {j : Nat} {g g' : List Int} : setGo (setGo S j g) j g' = setGo S j g' := by
  unfold setGo
  refine Prod.ext ?_ rfl
  refine List.ext_getElem (by simp) (fun i h1 h2 => ?_)
  simp only [List.getElem_modify]
  split <;> rfl
theorem RM_tw {G : Wd} {A : Ab} {K : Int} {j : Nat} {l : Int} (h : RM G A) (hI : Inv K A) (hj : j < A.1.1.length) (h60 : (bkJ A.1 j).2.2.2.2.2.length < 60) : RM (toW G j (bkJ A.1 j).2.2.2.2.2.length (flT A.2.1.1).length l false) (tornA A j [l] ((j : Int), l, -1)) := by
  have hf := (tw_5 (G := G) (j := j) (n := (bkJ A.1 j).2.2.2.2.2.length) (t := (flT A.2.1.1).length) (l := l) (b := false))
  have hl : ∀ k, k < A.1.1.length → (bkJ A.1 k).2.2.2.2.2.length ≤ 60 := fun k hk => (gone_ok hI.1 hk).2.1
  have htn : tnM G (flT A.2.1.1) := ⟨h.2.1.1, h.2.1.2.1⟩
  have hac : G.1 145 35 = (A.2.1.1.length : Nat) := h.2.1.2.2.1
  have e1 : flT (A.2.1.1 ++ [((j : Int), l, -1)]) = flT A.2.1.1 ++ [((j : Int), l, false)] := by rw [flT_app]; rfl
  refine RM_E h (tw_fe _ _ _ _ _ _) (mS0_tw h.1 hj hl h60) (evM_S (evM_T h.2.1 (by rw [e1]; exact tnM_tw htn) (by rw [hf.2.1, hac, List.length_append]; simp [b2i]) (fun y hy => hf.2.2 _ _ (by omega) (by omega) (by omega) (by omega)) rfl (fun x hx => funext fun y => hf.2.2 _ _ (by omega) (by omega) (by omega) (by omega)))) (imM_S h.2.2.2.1)
theorem RM_sheet {G : Wd} {A : Ab} {K : Int} {j : Nat} {z o : Int} (h : RM G A) (hI : Inv K A) (hj : j < A.1.1.length) (h60 : (bkJ A.1 j).2.2.2.2.2.length < 59) (ho : o ≠ -1) : RM (toW (toW G j (bkJ A.1 j).2.2.2.2.2.length (flT A.2.1.1).length z false) j ((bkJ A.1 j).2.2.2.2.2.length + 1) ((flT A.2.1.1).length + 1) o true) (tornA A j [z, o] ((j : Int), z, o)) := by
  have hf := (tw_5 (G := G) (j := j) (n := (bkJ A.1 j).2.2.2.2.2.length) (t := (flT A.2.1.1).length) (l := z) (b := false))
  have hl : ∀ k, k < A.1.1.length → (bkJ A.1 k).2.2.2.2.2.length ≤ 60 := fun k hk => (gone_ok hI.1 hk).2.1
  have htn : tnM G (flT A.2.1.1) := ⟨h.2.1.1, h.2.1.2.1⟩
  have hac : G.1 145 35 = (A.2.1.1.length : Nat) := h.2.1.2.2.1
  have e1 : flT (A.2.1.1 ++ [((j : Int), z, o)]) = (flT A.2.1.1 ++ [((j : Int), z, false)]) ++ [((j : Int), o, true)] := by
    rw [flT_app, List.append_assoc]
    congr 1
    rw [flT, if_neg (show ¬ ((j : Int), z, o).2.2 = -1 from ho)]; rfl
  have hM1 := mS0_tw (t := (flT A.2.1.1).length) (l := z) (b := false) h.1 hj hl (by omega)
  have hT1 := tnM_tw (j := j) (n := (bkJ A.1 j).2.2.2.2.2.length) (l := z) (b := false) htn
  generalize hG : toW G j (bkJ A.1 j).2.2.2.2.2.length (flT A.2.1.1).length z false = G1 at *
  have hj1 : j < (setGo A.1 j ((bkJ A.1 j).2.2.2.2.2 ++ [z])).1.length := by rw [setGo_len]; exact hj
  have hb1 : (bkJ (setGo A.1 j ((bkJ A.1 j).2.2.2.2.2 ++ [z])) j).2.2.2.2.2 = (bkJ A.1 j).2.2.2.2.2 ++ [z] := by rw [bkJ_go hj, if_pos rfl]
  have hl1 : ∀ k, k < (setGo A.1 j ((bkJ A.1 j).2.2.2.2.2 ++ [z])).1.length → (bkJ (setGo A.1 j ((bkJ A.1 j).2.2.2.2.2 ++ [z])) k).2.2.2.2.2.length ≤ 60 := fun k hk => by
    rw [setGo_len] at hk
    rw [bkJ_go hk]
    split
    · show ((bkJ A.1 j).2.2.2.2.2 ++ [z]).length ≤ 60; rw [List.length_append]; simp; omega
    · exact hl k hk
  have hM2 := mS0_tw (t := (flT A.2.1.1).length + 1) (l := o) (b := true) hM1 hj1 hl1 (by rw [hb1, List.length_append]; simp; omega)
  have hT2 := tnM_tw (j := j) (n := (bkJ A.1 j).2.2.2.2.2.length + 1) (l := o) (b := true) hT1
  rw [hb1, setGo_2, List.append_assoc, List.length_append] at hM2
  rw [List.length_append] at hT2
  have hf2 := (tw_5 (G := G1) (j := j) (n := (bkJ A.1 j).2.2.2.2.2.length + 1) (t := (flT A.2.1.1).length + 1) (l := o) (b := true))
  have hfe : FZm G G1 := by rw [← hG]; exact tw_fe _ _ _ _ _ _
  have hl39 : G1.2.1 145 39 = G.2.1 145 39 := by rw [← hG]; rfl
  refine RM_E h (hfe.trans (tw_fe _ _ _ _ _ _)) hM2 (evM_S (evM_T h.2.1 (by rw [e1]; exact hT2) (by rw [hf2.2.1, hf.2.1, hac]; simp [b2i]) (fun y hy => (hf2.2.2 _ _ (by omega) (by omega) (by omega) (by omega)).trans (hf.2.2 _ _ (by omega) (by omega) (by omega) (by omega))) hl39 (fun x hx => funext fun y => (hf2.2.2 _ _ (by omega) (by omega) (by omega) (by omega)).trans (hf.2.2 _ _ (by omega) (by omega) (by omega) (by omega))))) (imM_S h.2.2.2.1)
