/-! leaves put back -/
def ixO (z : Int) : List Int → Nat
  | [] => 0
  | a :: r => if a = z then 0 else ixO z r + 1
theorem ixO_in {z : Int} : ∀ {g : List Int}, z ∈ g → ∃ h : ixO z g < g.length, g[ixO z g]'h = z ∧ ∀ j (hj : j < ixO z g), g[j]'(Nat.lt_trans hj h) ≠ z := by
  intro g
  induction g with
  | nil => intro h; cases h
  | cons a r ih =>
    intro h
    by_cases c : a = z
    · have e : ixO z (a :: r) = 0 := by rw [ixO, if_pos c]
      refine ⟨by rw [e]; simp, ?_, fun j hj => absurd hj (by rw [e]; omega)⟩
      simp only [e]; exact c
    · have e : ixO z (a :: r) = ixO z r + 1 := by rw [ixO, if_neg c]
      obtain ⟨h1, h2, h3⟩ := ih ((List.mem_cons.mp h).resolve_left (fun q => c q.symm))
      refine ⟨by rw [e]; simp; exact h1, ?_, fun j hj => ?_⟩
      · simp only [e, List.getElem_cons_succ]; exact h2
      · rw [e] at hj
        cases j with
        | zero => exact c
        | succ j => simp only [List.getElem_cons_succ]; exact h3 j (by omega)
/-- the last leaf in the place of leaf z -/
def rmS (g : List Int) (z : Int) : List Int := (g.set (ixO z g) (g.getD (g.length - 1) 0)).take (g.length - 1)
theorem rmS_len (g : List Int) (z : Int) : (rmS g z).length = g.length - 1 := by unfold rmS; simp
theorem rmS_get {g : List Int} {z : Int} {i : Nat} (hi : i < (rmS g z).length) : (rmS g z)[i]'hi = if i = ixO z g then g.getD (g.length - 1) 0 else g[i]'(by rw [rmS_len] at hi; omega) := by
  simp only [rmS, List.getElem_take, List.getElem_set]
  by_cases c : ixO z g = i
  · rw [if_pos c, if_pos c.symm]
  · rw [if_neg c, if_neg (fun q => c q.symm)]
theorem nd_ne {g : List Int} (h : g.Nodup) {i j : Nat} (hi : i < g.length) (hj : j < g.length) (hij : i ≠ j) : g[i]'hi ≠ g[j]'hj := by
  have hp := List.pairwise_iff_getElem.mp h
  rcases Nat.lt_or_ge i j with c | c
  · exact hp i j hi hj c
  · exact fun q => hp j i hj hi (by omega) q.symm
theorem nd_of {g : List Int} (h : ∀ i j (hi : i < g.length) (hj : j < g.length), i < j → g[i]'hi ≠ g[j]'hj) : g.Nodup := List.pairwise_iff_getElem.mpr h
theorem getD_last {g : List Int} (h : 0 < g.length) : g.getD (g.length - 1) 0 = g[g.length - 1]'(by omega) := by rw [List.getD_eq_getElem?_getD, List.getElem?_eq_getElem (by omega)]; rfl
theorem rmS_mem {g : List Int} {z : Int} (h : g.Nodup) (hz : z ∈ g) : ∀ x, x ∈ rmS g z ↔ x ∈ g ∧ x ≠ z := by
  intro x
  obtain ⟨h1, h2, h3⟩ := ixO_in hz
  have hl := getD_last (g := g) (by omega)
  constructor
  · intro hx
    obtain ⟨i, hi, e⟩ := List.getElem_of_mem hx
    rw [rmS_get] at e
    rw [rmS_len] at hi
    by_cases c : i = ixO z g
    · rw [if_pos c, hl] at e
      refine ⟨by rw [← e]; exact List.getElem_mem _, ?_⟩
      rw [← e]
      exact fun q => nd_ne h (i := g.length - 1) (j := ixO z g) (by omega) h1 (by omega) (q.trans h2.symm)
    · rw [if_neg c] at e
      refine ⟨by rw [← e]; exact List.getElem_mem _, ?_⟩
      rw [← e]
      exact fun q => nd_ne h (i := i) (j := ixO z g) (by omega) h1 c (q.trans h2.symm)
  · rintro ⟨hx, hne⟩
    obtain ⟨m, hm, e⟩ := List.getElem_of_mem hx
    have hmk : m ≠ ixO z g := by intro q; subst q; rw [h2] at e; exact hne e.symm
    by_cases c : m = g.length - 1
    · have hk : ixO z g < (rmS g z).length := by rw [rmS_len]; omega
      have := rmS_get hk
      rw [if_pos rfl, hl] at this
      subst c
      rw [← e, ← this]
      exact List.getElem_mem _
    · have hk : m < (rmS g z).length := by rw [rmS_len]; omega
      have := rmS_get hk
      rw [if_neg hmk] at this
      rw [← e, ← this]
      exact List.getElem_mem _
theorem rmS_nd {g : List Int} {z : Int} (h : g.Nodup) (hz : z ∈ g) : (rmS g z).Nodup := by
  obtain ⟨h1, h2, h3⟩ := ixO_in hz
  have hl := getD_last (g := g) (by omega)
  refine nd_of (fun i j hi hj hij => ?_)
  rw [rmS_get, rmS_get]
  rw [rmS_len] at hi hj
  by_cases c : i = ixO z g
  · rw [if_pos c, if_neg (by omega), hl]; exact nd_ne h _ _ (by omega)
  · rw [if_neg c]
    by_cases c2 : j = ixO z g
    · rw [if_pos c2, hl]; exact nd_ne h _ _ (by omega)
    · rw [if_neg c2]; exact nd_ne h _ _ (by omega)
theorem lsGive_ne {G : Wd} {a x : Nat} {z : Int} (h1 : x ≠ a) (h2 : x ≠ a + 1) : (lsGive G a z).1 x = G.1 x := by
  unfold lsGive
  split
  · funext j; simp only [upd2_eq]; rw [if_neg (by omega), if_neg (by omega)]
  · rfl
theorem lsGive_2 {G : Wd} {a : Nat} {z : Int} : (lsGive G a z).2 = G.2 := by unfold lsGive; split <;> rfl
theorem lsIs_give {G : Wd} {a : Nat} {g : List Int} {z : Int} (h : lsIs G a g) (hn : g.Nodup) (hz : z ∈ g) : lsIs (lsGive G a z) a (rmS g z) := by
  have hr := lsIs_range h hz
  have h0 : lsHas (G.1 (a + 1)) z = true := by rw [h.2 z, decide_eq_true hz]
  have e : lsGive G a z = uI (uI G (a + 1) (z / 32).toNat (iAnd (G.1 (a + 1) (z / 32).toNat) (iXor (iShl 1 (z % 32)) (-1)))) a 1 (G.1 a 1 - 1) := by rw [lsGive, if_pos ⟨hr.1, hr.2, h0⟩]
  have hlen := rmS_len g z
  have hpos : 0 < g.length := List.length_pos_of_mem hz
  rw [e]
  refine ⟨?_, fun y => ?_⟩
  · rw [iu, h.1, hlen]; omega
  have hm := md32 z
  have hf : ∀ j, (uI (uI G (a + 1) (z / 32).toNat (iAnd (G.1 (a + 1) (z / 32).toNat) (iXor (iShl 1 (z % 32)) (-1)))) a 1 (G.1 a 1 - 1)).1 (a + 1) j = if j = (z / 32).toNat then iAnd (G.1 (a + 1) (z / 32).toNat) (iXor (iShl 1 (z % 32)) (-1)) else G.1 (a + 1) j := fun j => by
    simp only [upd2_eq]
    rw [if_neg (by omega)]
    by_cases c : j = (z / 32).toNat
    · rw [if_pos ⟨trivial, c⟩, if_pos c]
    · rw [if_neg (by omega), if_neg c]
  have hy := h.2 y
  have hmem := rmS_mem hn hz y
  have hdec : decide (y ∈ rmS g z) = (decide (y ∈ g) && !decide (y = z)) := by
    rw [decide_eq_decide.mpr hmem]
    by_cases c1 : y ∈ g
    · by_cases c2 : y = z
      · rw [decide_eq_true c1, decide_eq_true c2, decide_eq_false (fun q => q.2 c2)]; rfl
      · rw [decide_eq_true c1, decide_eq_false c2, decide_eq_true ⟨c1, c2⟩]; rfl
    · rw [decide_eq_false c1, decide_eq_false (fun q => c1 q.1)]; rfl
  rw [hdec]
  unfold lsHas at hy ⊢
  rw [hf]
  by_cases c : 0 ≤ y ∧ y < 2016
  · simp only [c, and_self, decide_true, Bool.true_and] at hy ⊢
    by_cases c2 : (y / 32).toNat = (z / 32).toNat
    · rw [if_pos c2, hm.2, iAnd_bit, iXor_m1_bit _ (md32 y).1, iShl_bit hm.1 (md32 y).1, ← c2, hy]
      by_cases c3 : y = z
      · subst c3; simp
      · have : ¬ (y % 32).toNat = (z % 32).toNat := by omega
        simp [this, c3]
    · rw [if_neg c2, hy]
      have : y ≠ z := fun q => c2 (by rw [q])
      simp [this]
  · simp only [c, decide_false, Bool.false_and] at hy ⊢
    rw [← hy]; rfl
/-- what is gone once leaves are put back -/
def bkPut (g : List Int) (t : Tn) : List Int := if t.2.2 = -1 then rmS g t.2.1 else rmS (rmS g t.2.2) t.2.1
def lastT (A : Ab) : Tn := A.2.1.1.getD (A.2.1.1.length - 1) (0, 0, 0)
def putA (A : Ab) : Ab := (setGo A.1 (lastT A).1.toNat (bkPut (bkJ A.1 (lastT A).1.toNat).2.2.2.2.2 (lastT A)), (A.2.1.1.take (A.2.1.1.length - 1), A.2.1.2), A.2.2)
def putP (A : Ab) : Int × Int × Ab := if A.2.1.1.length = 0 then (0, -1, A) else (0, (if (lastT A).2.2 = -1 then 1 else 2), putA A)
theorem flT_mem {T : List Tn} {t : Tn} (h : t ∈ T) : (t.1, t.2.1, false) ∈ flT T ∧ (t.2.2 ≠ -1 → (t.1, t.2.2, true) ∈ flT T) := by
  obtain ⟨T1, T2, e⟩ := List.append_of_mem h
  rw [e, flT_app, flT]
  by_cases c : t.2.2 = -1
  · rw [if_pos c]
    exact ⟨by simp, fun q => absurd c q⟩
  · rw [if_neg c]
    exact ⟨by simp, fun q => by simp⟩
theorem lastT_in {A : Ab} (h : A.2.1.1.length ≠ 0) : lastT A = A.2.1.1[A.2.1.1.length - 1]'(by omega) := by unfold lastT; rw [List.getD_eq_getElem?_getD, List.getElem?_eq_getElem (by omega)]; rfl
theorem lastT_app {A : Ab} (h : A.2.1.1.length ≠ 0) : A.2.1.1 = A.2.1.1.take (A.2.1.1.length - 1) ++ [lastT A] := by
  rw [lastT_in h]
  have e := List.take_append_drop (A.2.1.1.length - 1) A.2.1.1
  rw [List.drop_eq_getElem_cons (by omega), show A.2.1.1.length - 1 + 1 = A.2.1.1.length by omega, List.drop_length] at e
  exact e.symm
/-- what is known of the last leaf torn -/
theorem lastT_ok {K : Int} {A : Ab} (hI : Inv K A) (h : A.2.1.1.length ≠ 0) : (0 ≤ (lastT A).1 ∧ (lastT A).1 < (A.1.1.length : Nat)) ∧ (lastT A).2.1 ∈ (bkJ A.1 (lastT A).1.toNat).2.2.2.2.2 ∧ -1 ≤ (lastT A).2.2 ∧ ((lastT A).2.2 ≠ -1 → (lastT A).2.2 ∈ (bkJ A.1 (lastT A).1.toNat).2.2.2.2.2 ∧ (lastT A).2.2 ≠ (lastT A).2.1) := by
  obtain ⟨n1, n2, n3⟩ := hI.2.1.1
  have hm : lastT A ∈ A.2.1.1 := by rw [lastT_in h]; exact List.getElem_mem _
  obtain ⟨m1, m2⟩ := flT_mem hm
  obtain ⟨a1, a2, a3⟩ := n2 _ m1
  refine ⟨⟨a1, a2⟩, a3, n3 _ hm, fun c => ⟨(n2 _ (m2 c)).2.2, fun q => ?_⟩⟩
  rw [lastT_app h, flT_app] at n1
  have e : flT [lastT A] = [((lastT A).1, (lastT A).2.1, false), ((lastT A).1, (lastT A).2.2, true)] := by rw [flT, if_neg c]; rfl
  rw [e, List.map_append] at n1
  have n2' := (List.nodup_append.mp n1).2.1
  simp [q] at n2'
