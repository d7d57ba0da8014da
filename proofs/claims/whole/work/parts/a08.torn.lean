/-! leaves torn: in pure words, and what holds of the class then -/
abbrev bkGo' (b : Bk) (g : List Int) : Bk := (b.1, b.2.1, b.2.2.1, b.2.2.2.1, b.2.2.2.2.1, g)
theorem setGo_len (S : Sh) (j : Nat) (g : List Int) : (setGo S j g).1.length = S.1.length := by simp [setGo]
theorem bkJ_go {S : Sh} {j k : Nat} {g : List Int} (hk : k < S.1.length) : bkJ (setGo S j g) k = if j = k then bkGo' (bkJ S k) g else bkJ S k := by
  rw [bkJ_in (by rw [setGo_len]; exact hk), bkJ_in hk]
  simp only [setGo, List.getElem_modify]
theorem cdS_go (S : Sh) (j : Nat) (g : List Int) : cdS (setGo S j g) = cdS S := rfl
theorem numB_go {S : Sh} {j k : Nat} {g : List Int} {p : Int} (hk : k < S.1.length) : numB (cdS (setGo S j g)) (bkJ (setGo S j g) k) p = numB (cdS S) (bkJ S k) p := by
  rw [bkJ_go hk]
  split <;> rfl
theorem bkJ_go1 {S : Sh} {j k : Nat} {g : List Int} (hk : k < S.1.length) : (bkJ (setGo S j g) k).1 = (bkJ S k).1 ∧ (bkJ (setGo S j g) k).2.2.1 = (bkJ S k).2.2.1 := by
  rw [bkJ_go hk]
  split <;> exact ⟨rfl, rfl⟩
theorem sumF_go {S : Sh} {j k : Nat} {g : List Int} (hk : k < S.1.length) : ∀ n, sumF (cdS (setGo S j g)) (bkJ (setGo S j g) k) n = sumF (cdS S) (bkJ S k) n := by
  intro n
  induction n with
  | zero => rfl
  | succ n ih => rw [sumF, sumF, ih, numB_go hk]
theorem cacheC_go {G : Wd} {S : Sh} {j : Nat} {g : List Int} (h : cacheC G S) : cacheC G (setGo S j g) := fun k hk h6 p hp1 hp2 => by
  rw [setGo_len] at hk
  rw [numB_go hk]
  exact h k hk ((bkJ_go1 hk).1 ▸ h6) p hp1 hp2
theorem mem_setGo {S : Sh} {j : Nat} {g : List Int} {b : Bk} (h : b ∈ (setGo S j g).1) : ∃ b0 ∈ S.1, b = b0 ∨ b = bkGo' b0 g := by
  obtain ⟨k, hk, e⟩ := List.getElem_of_mem h
  have hk2 : k < S.1.length := by rw [setGo_len] at hk; exact hk
  refine ⟨S.1[k]'hk2, List.getElem_mem hk2, ?_⟩
  rw [← e]
  simp only [setGo, List.getElem_modify]
  split
  · exact Or.inr rfl
  · exact Or.inl rfl
theorem okSh_go {S : Sh} {j : Nat} {g : List Int} (h : okSh 500 S) (hj : j < S.1.length) (h1 : g.Nodup) (h2 : g.length ≤ 60) (h3 : ∀ z ∈ g, 0 ≤ z ∧ z < (bkJ S j).2.2.1) : okSh 500 (setGo S j g) := by
  obtain ⟨s1, s2, s3, s4, s5, s6, s7, s8⟩ := h
  refine ⟨by rw [setGo_len]; exact s1, fun b hb => ?_, s3, fun q hq => by rw [setGo_len]; exact s4 q hq, s5, s6, s7, s8⟩
  obtain ⟨k, hk, e⟩ := List.getElem_of_mem hb
  have hk2 : k < S.1.length := by rw [setGo_len] at hk; exact hk
  have e2 := (bkJ_in hk).symm.trans (bkJ_go (g := g) (j := j) hk2)
  rw [← e, e2]
  have hb2 := s2 _ (List.getElem_mem hk2)
  rw [← bkJ_in hk2] at hb2
  split
  · rename_i c
    subst c
    obtain ⟨o1, o2, o3, o4, o5, o6, -, -, -⟩ := hb2
    exact ⟨o1, o2, o3, o4, o5, o6, h1, h2, h3⟩
  · exact hb2
/-- the cells of what is gone -/
def gnS (s x : Nat) : Prop := ∃ j, j < 6 ∧ (x = s + 8 + 5 * j ∨ x = s + 9 + 5 * j)
theorem RC_ev {G G' : Wd} {s : Nat} {A : Ab} {S' : Sh} {v' : Ev} (h : RC G s A) (hl : S'.1.length = A.1.1.length) (hb : A.1.1.length ≤ 6) (f2 : G'.2.2 = G.2.2) (f : ∀ x j, x < 145 → ¬ sc s x j → ¬ gnS s x → ¬ (114 ≤ x ∧ x ≤ 120) → G'.1 x j = G.1 x j) (hs : ShC G' s S') (hc : cacheC G' S') (hv : evC G' 114 v') (h6 : ∀ j, 0 ≤ G'.1 136 j ∧ G'.1 136 j ≤ 1000000) (h2 : ∀ j, 0 ≤ G'.1 142 j ∧ G'.1 142 j ≤ 1000000) (h1 : ∀ j, 0 ≤ G'.1 141 j ∧ G'.1 141 j ≤ 1000000) : RC G' s (S', v', A.2.2) := by
  obtain ⟨⟨r1, r2, r3⟩, r4, r5, r6, r7, r8, r9, r10, r11, r12, r13, r14, r15, r16⟩ := h
  have hs8 : s = 8 ∨ s = 61 := r3
  have nb : ∀ x, x < s + 8 ∨ s + 36 ≤ x ∨ (∃ j, x = s + 10 + 5 * j) ∨ (∃ j, x = s + 11 + 5 * j) → ¬ gnS s x := fun x h => by
    rintro ⟨k, hk, q⟩
    rcases h with h | h | ⟨j, h⟩ | ⟨j, h⟩ <;> omega
  have fx : ∀ x, x < 145 → (∀ j, ¬ sc s x j) → ¬ gnS s x → ¬ (114 ≤ x ∧ x ≤ 120) → G'.1 x = G.1 x := fun x a b c d => by funext j; exact f x j a (b j) c d
  refine ⟨⟨by rw [f2]; exact r1, by rw [f2]; exact r2, r3⟩, hs, hc, hv, by rw [f _ _ (by omega) (by unfold sc; omega) (nb _ (by omega)) (by omega)]; exact r7, ?_, by rw [f _ _ (by omega) (by unfold sc; omega) (nb _ (by omega)) (by omega)]; exact r9, by rw [f _ _ (by omega) (by unfold sc; omega) (nb _ (by omega)) (by omega)]; exact r10, fun j hj => by rw [f _ _ (by omega) (by unfold sc; omega) (nb _ (by omega)) (by omega)]; exact r11 j hj, ?_, ?_, h6, h2, h1⟩
  · show imC G' s S' A.2.2.1
    cases ho : A.2.2.1 with
    | none => trivial
    | some i =>
      rw [ho] at r8
      refine ⟨evC_c r8.1 (fun x a b => fx x (by omega) (fun j => by unfold sc; omega) (nb _ (by omega)) (by omega)), fun j hj => ?_⟩
      rw [hl] at hj
      exact lsIs_congr (r8.2 j hj) (by rw [f _ _ (by omega) (by unfold sc; omega) (nb _ (Or.inr (Or.inr (Or.inl ⟨j, rfl⟩)))) (by omega)]) (fx _ (by omega) (fun k => by unfold sc; omega) (nb _ (Or.inr (Or.inr (Or.inr ⟨j, by omega⟩)))) (by omega))
  · rw [f 135 8 (by omega) (by unfold sc; omega) (nb _ (by omega)) (by omega)]
    exact kpO_c r12 (fx _ (by omega) (fun j => by unfold sc; omega) (nb _ (by omega)) (by omega))
  · rw [f 140 5 (by omega) (by unfold sc; omega) (nb _ (by omega)) (by omega)]
    exact kpO_c r13 (fx _ (by omega) (fun j => by unfold sc; omega) (nb _ (by omega)) (by omega))
/-! how many are torn -/
theorem nodup_le {α : Type} {l : List α} : ∀ {m : List α}, l.Nodup → (∀ x ∈ l, x ∈ m) → l.length ≤ m.length := by
  induction l with
  | nil => intro m _ _; exact Nat.zero_le _
  | cons a l ih =>
    intro m hn hs
    obtain ⟨m1, m2, e⟩ := List.append_of_mem (hs a List.mem_cons_self)
    subst e
    have h1 := List.nodup_cons.mp hn
    have h2 := ih (m := m1 ++ m2) h1.2 (fun x hx => by
      have := hs x (List.mem_cons_of_mem _ hx)
      simp only [List.mem_append, List.mem_cons] at this ⊢
      rcases this with q | q | q
      · exact Or.inl q
      · subst q; exact absurd hx h1.1
      · exact Or.inr q)
    simp at h2 ⊢
    omega
def allG (S : Sh) : List (Int × Int) := (List.range S.1.length).flatMap (fun j => (bkJ S j).2.2.2.2.2.map (fun z => ((j : Int), z)))
theorem sum_le60 {f : Nat → Nat} {j : Nat} : ∀ n, (∀ i, i < n → f i ≤ 60) → ((List.range n).map f).sum ≤ 60 * n ∧ (j < n → ((List.range n).map f).sum + 60 ≤ 60 * n + f j) := by
  intro n
  induction n with
  | zero => intro h; exact ⟨Nat.le_refl _, fun q => absurd q (Nat.not_lt_zero _)⟩
  | succ n ih =>
    intro h
    obtain ⟨h1, h2⟩ := ih (fun i hi => h i (by omega))
    rw [List.range_succ, List.map_append, List.sum_append]
    simp only [List.map_cons, List.map_nil, List.sum_cons, List.sum_nil]
    have h3 := h n (by omega)
    refine ⟨by omega, fun hj => ?_⟩
    by_cases c : j = n
    · subst c; omega
    · have := h2 (by omega); omega
theorem allG_len {S : Sh} (h : okSh 500 S) {j : Nat} (hj : j < S.1.length) : (allG S).length + 60 ≤ 360 + (bkJ S j).2.2.2.2.2.length := by
  have h6 := h.1
  have h60 : ∀ i, i < S.1.length → (bkJ S i).2.2.2.2.2.length ≤ 60 := fun i hi => by
    rw [bkJ_in hi]; exact (h.2.1 _ (List.getElem_mem hi)).2.2.2.2.2.2.2.1
  unfold allG
  rw [List.length_flatMap]
  simp only [List.length_map]
  have := (sum_le60 (f := fun i => (bkJ S i).2.2.2.2.2.length) (j := j) S.1.length h60).2 hj
  omega
theorem tnI_len {S : Sh} {T : List Tn} (h : tnI S T) : (flT T).length ≤ (allG S).length := by
  obtain ⟨h1, h2, h3⟩ := h
  have := nodup_le (m := allG S) h1 (fun x hx => by
    obtain ⟨t, ht, e⟩ := List.mem_map.mp hx
    obtain ⟨a, b, c⟩ := h2 t ht
    unfold allG
    refine List.mem_flatMap.mpr ⟨t.1.toNat, List.mem_range.mpr (by omega), List.mem_map.mpr ⟨t.2.1, c, ?_⟩⟩
    rw [← e, show ((t.1.toNat : Nat) : Int) = t.1 by omega])
  simpa using this
theorem flT_len (T : List Tn) : T.length ≤ (flT T).length ∧ (flT T).length ≤ 2 * T.length := by
  induction T with
  | nil => exact ⟨Nat.le_refl _, Nat.le_refl _⟩
  | cons t r ih =>
    rw [flT, List.length_append]
    split <;> simp <;> omega
theorem flT_app (T U : List Tn) : flT (T ++ U) = flT T ++ flT U := by
  induction T with
  | nil => rfl
  | cons t r ih => rw [List.cons_append, flT, flT, ih, List.append_assoc]
