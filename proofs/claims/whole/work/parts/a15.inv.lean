/-! the invariant is kept: leaves torn, calls refused -/
theorem setGs_go {S : Sh} {j : Nat} {g : List Int} (gs : List (List Int)) : setGs (setGo S j g) gs = setGs S gs := by
  unfold setGs setGo
  refine Prod.ext ?_ rfl
  refine List.ext_getElem (by simp) (fun i h1 h2 => ?_)
  simp only [List.getElem_zipWith, List.getElem_modify]
  split <;> rfl
theorem evI_mono {K K' : Int} {S : Sh} {v : Ev} (h : evI K S v) (hk : K ≤ K') : evI K' S v := ⟨h.1, h.2.1, h.2.2.1, h.2.2.2.1, fun z hz => ⟨(h.2.2.2.2 z hz).1, by have := (h.2.2.2.2 z hz).2; omega⟩⟩
theorem Inv_mono {K K' : Int} {A : Ab} (h : Inv K A) (hk : K ≤ K') : Inv K' A := ⟨h.1, evI_mono h.2.1 hk, fun i hi => ⟨(h.2.2.1 i hi).1, (h.2.2.1 i hi).2.1, evI_mono (h.2.2.1 i hi).2.2 hk⟩, h.2.2.2⟩
theorem Inv_ref {K : Int} {A : Ab} {k : Nat} (h : Inv K A) (hk : k < 4) : Inv (K + 1) (refA A k) := by
  have h1 := Inv_mono h (K' := K + 1) (by omega)
  obtain ⟨a1, ⟨a2, a3, a4, a5, a6⟩, a7⟩ := h1
  have h6 := h.2.1.2.2.2.2
  refine ⟨a1, ⟨a2, a3, a4, by show (List.set _ _ _).length = 4; rw [List.length_set]; exact a5, fun z hz => ?_⟩, a7⟩
  have hz' : z ∈ A.2.1.2.2.2.set k (A.2.1.2.2.2.getD k 0 + 1) := hz
  rcases List.mem_or_eq_of_mem_set hz' with q | q
  · exact a6 z q
  · have hk4 : k < A.2.1.2.2.2.length := by omega
    have e : A.2.1.2.2.2.getD k 0 = A.2.1.2.2.2[k]'hk4 := by rw [List.getD_eq_getElem?_getD, List.getElem?_eq_getElem hk4]; rfl
    have := h6 _ (List.getElem_mem hk4)
    rw [← e] at this
    omega
theorem gone_ok {S : Sh} (h : okSh 500 S) {j : Nat} (hj : j < S.1.length) : (bkJ S j).2.2.2.2.2.Nodup ∧ (bkJ S j).2.2.2.2.2.length ≤ 60 ∧ (∀ z ∈ (bkJ S j).2.2.2.2.2, 0 ≤ z ∧ z < (bkJ S j).2.2.1) ∧ 1 ≤ (bkJ S j).2.2.1 ∧ (bkJ S j).2.2.1 ≤ 2000 := by
  have := h.2.1 _ (List.getElem_mem hj)
  rw [← bkJ_in hj] at this
  exact ⟨this.2.2.2.2.2.2.1, this.2.2.2.2.2.2.2.1, this.2.2.2.2.2.2.2.2, this.2.2.2.1⟩
/-- added and stuck speak of books that are there -/
theorem evI_go {K : Int} {S : Sh} {v : Ev} {j : Nat} {g : List Int} {T : List Tn} (h : evI K S v) (hT : tnI (setGo S j g) T) : evI K (setGo S j g) (T, v.2) := by
  obtain ⟨a2, ⟨m1, m2, m3, m4⟩, a4, a5, a6⟩ := h
  refine ⟨hT, ⟨m1, m2, m3, fun q => ?_⟩, a4, a5, a6⟩
  obtain ⟨q1, q2⟩ := m4 q
  have e := (bkJ_go1 (j := j) (g := g) (S := S) (k := v.2.1.1.toNat) (by omega)).2
  exact ⟨by rw [setGo_len]; exact q1, by show _ ≤ 2 * (bkJ (setGo S j g) v.2.1.1.toNat).2.2.1; rw [e]; exact q2⟩
theorem Inv_go {K : Int} {A : Ab} {j : Nat} {g : List Int} {T : List Tn} (h : Inv K A) (hj : j < A.1.1.length) (h1 : g.Nodup) (h2 : g.length ≤ 60) (h3 : ∀ z ∈ g, 0 ≤ z ∧ z < (bkJ A.1 j).2.2.1) (hT : tnI (setGo A.1 j g) T) : Inv K (setGo A.1 j g, (T, A.2.1.2), A.2.2) := by
  obtain ⟨a1, a2, a3, a4⟩ := h
  refine ⟨okSh_go a1 hj h1 h2 h3, evI_go a2 hT, fun i hi => ?_, a4⟩
  obtain ⟨b1, b2, b3⟩ := a3 i hi
  exact ⟨by rw [b1]; exact (setGo_len _ _ _).symm, by rw [setGs_go]; exact b2, by rw [setGs_go]; exact b3⟩
theorem Inv_torn {K i z o : Int} {A : Ab} {j : Nat} (h : Inv K A) (hj : j < A.1.1.length) (hi : i = (j : Int)) (hz : 0 ≤ z ∧ z < (bkJ A.1 j).2.2.1) (hzn : z ∉ (bkJ A.1 j).2.2.2.2.2) (ho : o = -1 ∨ (0 ≤ o ∧ o < (bkJ A.1 j).2.2.1) ∧ o ∉ (bkJ A.1 j).2.2.2.2.2 ∧ o ≠ z) (hl : (bkJ A.1 j).2.2.2.2.2.length + (if o = -1 then 1 else 2) ≤ 60) : Inv K (tornA A j (if o = -1 then [z] else [z, o]) (i, z, o)) := by
  subst hi
  obtain ⟨g1, g2, g3, g4⟩ := gone_ok h.1 hj
  obtain ⟨t1, t2, t3⟩ := h.2.1.1
  have hmem : ∀ y, y ∈ (if o = -1 then [z] else [z, o]) → y = z ∨ (o ≠ -1 ∧ y = o) := fun y hy => by
    by_cases c : o = -1
    · rw [if_pos c] at hy; exact Or.inl (List.mem_singleton.mp hy)
    · rw [if_neg c] at hy
      rcases List.mem_cons.mp hy with q | q
      · exact Or.inl q
      · exact Or.inr ⟨c, List.mem_singleton.mp q⟩
  have hnew : ∀ y, y ∈ (if o = -1 then [z] else [z, o]) → y ∉ (bkJ A.1 j).2.2.2.2.2 ∧ 0 ≤ y ∧ y < (bkJ A.1 j).2.2.1 := fun y hy => by
    rcases hmem y hy with q | ⟨c, q⟩
    · subst q; exact ⟨hzn, hz⟩
    · subst q; exact ⟨(ho.resolve_left c).2.1, (ho.resolve_left c).1⟩
  have hnd2 : (if o = -1 then [z] else [z, o]).Nodup := by
    by_cases c : o = -1
    · rw [if_pos c]; simp
    · rw [if_neg c]; simp; exact fun q => (ho.resolve_left c).2.2 q.symm
  have hlen : (if o = -1 then [z] else [z, o]).length = if o = -1 then 1 else 2 := by split <;> rfl
  have hfl : flT [((j : Int), z, o)] = (if o = -1 then [z] else [z, o]).mapIdx (fun k y => ((j : Int), y, decide (k = 1))) := by
    rw [flT]
    by_cases c : o = -1
    · rw [if_pos c, if_pos c]; rfl
    · rw [if_neg c, if_neg c]; rfl
  refine Inv_go h hj (List.nodup_append.mpr ⟨g1, hnd2, fun x hx y hy e => (hnew y hy).1 (e ▸ hx)⟩) (by rw [List.length_append, hlen]; exact hl) (fun y hy => ?_) ⟨?_, ?_, ?_⟩
  · rcases List.mem_append.mp hy with q | q
    · exact g3 y q
    · exact (hnew y q).2
  · rw [flT_app, List.map_append]
    refine List.nodup_append.mpr ⟨t1, ?_, ?_⟩
    · have e : (flT [((j : Int), z, o)]).map (fun t => (t.1, t.2.1)) = (if o = -1 then [z] else [z, o]).map (fun y => ((j : Int), y)) := by
        rw [flT]
        by_cases c : o = -1
        · rw [if_pos c, if_pos c]; rfl
        · rw [if_neg c, if_neg c]; rfl
      rw [e]
      exact List.pairwise_map.mpr (hnd2.imp (fun hne q => hne (Prod.mk.inj q).2))
    · intro x hx y hy e
      obtain ⟨t, ht, e1⟩ := List.mem_map.mp hx
      obtain ⟨u, hu, e2⟩ := List.mem_map.mp hy
      obtain ⟨c1, c2, c3⟩ := t2 t ht
      have hu2 : u.1 = (j : Int) ∧ u.2.1 ∈ (if o = -1 then [z] else [z, o]) := by
        rw [flT] at hu
        by_cases c : o = -1
        · rw [if_pos c] at hu ⊢; simp [flT] at hu; subst hu; exact ⟨rfl, by simp⟩
        · rw [if_neg c] at hu ⊢; simp [flT] at hu; rcases hu with hu | hu <;> subst hu <;> exact ⟨rfl, by simp⟩
      have e3 : t.1 = u.1 ∧ t.2.1 = u.2.1 := by
        have := e1.trans (e.trans e2.symm)
        exact ⟨(Prod.mk.inj this).1, (Prod.mk.inj this).2⟩
      rw [e3.1, e3.2, hu2.1, Int.toNat_natCast] at c3
      exact (hnew _ hu2.2).1 c3
  · intro t ht
    rw [flT_app] at ht
    rcases List.mem_append.mp ht with q | q
    · obtain ⟨c1, c2, c3⟩ := t2 t q
      refine ⟨c1, by rw [setGo_len]; exact c2, ?_⟩
      rw [bkJ_go (by omega)]
      split
      · rename_i cj; rw [cj]; exact List.mem_append_left _ c3
      · exact c3
    · have hu2 : t.1 = (j : Int) ∧ t.2.1 ∈ (if o = -1 then [z] else [z, o]) := by
        rw [flT] at q
        by_cases c : o = -1
        · rw [if_pos c] at q ⊢; simp [flT] at q; subst q; exact ⟨rfl, by simp⟩
        · rw [if_neg c] at q ⊢; simp [flT] at q; rcases q with q | q <;> subst q <;> exact ⟨rfl, by simp⟩
      rw [hu2.1]
      refine ⟨by omega, by rw [setGo_len]; omega, ?_⟩
      rw [Int.toNat_natCast, bkJ_go hj, if_pos rfl]
      exact List.mem_append_right _ hu2.2
  · intro t ht
    rcases List.mem_append.mp ht with q | q
    · exact t3 t q
    · rw [List.mem_singleton.mp q]
      rcases ho with c | c
      · show -1 ≤ o; omega
      · show -1 ≤ o; omega
/-! the i-th leaf that is there -/
def cntT (h : Int → Bool) : Nat → Int → Nat
  | 0, _ => 0
  | n + 1, lo => cntT h n (lo + 1) + if h lo then 0 else 1
theorem thAt_ok {h : Int → Bool} : ∀ (n : Nat) (lo i : Int), 0 ≤ i → i < (cntT h n lo : Nat) → lo ≤ thAt h n lo i ∧ thAt h n lo i < lo + n ∧ h (thAt h n lo i) = false := by
  intro n
  induction n with
  | zero => intro lo i h0 hi; simp [cntT] at hi; omega
  | succ n ih =>
    intro lo i h0 hi
    rw [cntT] at hi
    rw [thAt]
    cases hl : h lo with
    | true =>
      rw [hl] at hi
      simp only [if_true] at hi ⊢
      have := ih (lo + 1) i h0 (by omega)
      exact ⟨by omega, by omega, this.2.2⟩
    | false =>
      rw [hl] at hi
      simp only [Bool.false_eq_true, if_false] at hi ⊢
      split
      · exact ⟨by omega, by omega, hl⟩
      · have := ih (lo + 1) (i - 1) (by omega) (by omega)
        exact ⟨by omega, by omega, this.2.2⟩
theorem cntT_congr {h h' : Int → Bool} : ∀ (n : Nat) (lo : Int), (∀ z, lo ≤ z → z < lo + n → h z = h' z) → cntT h n lo = cntT h' n lo := by
  intro n
  induction n with
  | zero => intro lo _; rfl
  | succ n ih =>
    intro lo hh
    rw [cntT, cntT, ih (lo + 1) (fun z a b => hh z (by omega) (by omega)), hh lo (by omega) (by omega)]
theorem cntT_g : ∀ (n : Nat) (lo : Int) (g : List Int), g.Nodup → (∀ z ∈ g, lo ≤ z ∧ z < lo + n) → cntT (fun z => decide (z ∈ g)) n lo + g.length = n := by
  intro n
  induction n with
  | zero =>
    intro lo g hn hr
    cases g with
    | nil => rfl
    | cons a r => have := hr a List.mem_cons_self; omega
  | succ n ih =>
    intro lo g hn hr
    rw [cntT]
    by_cases c : lo ∈ g
    · have h1 := ih (lo + 1) (g.erase lo) (hn.erase lo) (fun z hz => by
        obtain ⟨a, b⟩ := (hn.mem_erase_iff).mp hz
        have := hr z b
        omega)
      rw [List.length_erase_of_mem c] at h1
      have h2 := cntT_congr (h := fun z => decide (z ∈ g.erase lo)) (h' := fun z => decide (z ∈ g)) n (lo + 1) (fun z a b => decide_eq_decide.mpr ⟨fun q => ((hn.mem_erase_iff).mp q).2, fun q => (hn.mem_erase_iff).mpr ⟨by omega, q⟩⟩)
      rw [h2] at h1
      have hpos : 0 < g.length := List.length_pos_of_mem c
      rw [if_pos (decide_eq_true c)]
      omega
    · have h1 := ih (lo + 1) g hn (fun z hz => by
        have := hr z hz
        have : z ≠ lo := fun q => c (q ▸ hz)
        omega)
      rw [if_neg (by simp [c])]
      omega
/-- the leaf of a book that is the i-th there -/
def thB (b : Bk) (i : Int) : Int := thAt (fun z => decide (z ∈ b.2.2.2.2.2)) b.2.2.1.toNat 0 i
theorem thB_ok {b : Bk} (h1 : b.2.2.2.2.2.Nodup) (h2 : ∀ z ∈ b.2.2.2.2.2, 0 ≤ z ∧ z < b.2.2.1) (h3 : 0 ≤ b.2.2.1) {i : Int} (hi : 0 ≤ i) (hi2 : i < b.2.2.1 - (b.2.2.2.2.2.length : Nat)) : 0 ≤ thB b i ∧ thB b i < b.2.2.1 ∧ thB b i ∉ b.2.2.2.2.2 := by
  have hc := cntT_g b.2.2.1.toNat 0 b.2.2.2.2.2 h1 (fun z hz => by have := h2 z hz; omega)
  have := thAt_ok (h := fun z => decide (z ∈ b.2.2.2.2.2)) b.2.2.1.toNat 0 i hi (by omega)
  unfold thB
  exact ⟨this.1, by omega, of_decide_eq_false this.2.2⟩
