/-! THE READER, in pure words: w what stands at each token, v the number there; the token N is the text's end -/
abbrev PE : Type := Nat × Int × List Int
def pLoop (op : Int → Option Int) (w : Nat → Int) (p : PE → PE) : Nat → PE → PE
  | 0, s => s
  | k + 1, s => if s.2.1 ≠ 0 then s else match op (w s.1) with
    | none => s
    | some o => if (p (s.1 + 1, 0, s.2.2)).2.1 = 0 then pLoop op w p k ((p (s.1 + 1, 0, s.2.2)).1, 0, (p (s.1 + 1, 0, s.2.2)).2.2 ++ [o]) else p (s.1 + 1, 0, s.2.2)
def opP (x : Int) : Option Int := if x = 42 then some (-12) else if x = 47 then some (-13) else none
def opS (x : Int) : Option Int := if x = 43 then some (-10) else if x = 45 then some (-11) else none
def opA (x : Int) : Option Int := if x = 272 then some (-6) else none
def opO (x : Int) : Option Int := if x = 273 then some (-7) else none
def pSign (w : Nat → Int) (c : Int) (s : PE) : PE := if w s.1 = c then (s.1 + 1, 0, s.2.2) else (s.1, 1, s.2.2)
def pPart (w v : Nat → Int) (rec : PE → PE) (s : PE) : PE :=
  if w s.1 = 40 then (if (rec (s.1 + 1, 0, s.2.2)).2.1 = 0 then pSign w 41 (rec (s.1 + 1, 0, s.2.2)) else rec (s.1 + 1, 0, s.2.2))
  else if w s.1 = -2 then (if v s.1 ≤ 9999 then (s.1 + 1, 0, s.2.2 ++ [v s.1]) else (s.1, 2, s.2.2))
  else if w s.1 < 256 then (s.1, 1, s.2.2)
  else if w s.1 < 267 ∨ 270 < w s.1 then (s.1, 3, s.2.2)
  else (s.1 + 1, 0, s.2.2 ++ [266 - w s.1])
def pProd (w v : Nat → Int) (rec : PE → PE) (s : PE) : PE := pLoop opP w (pPart w v rec) 501 (pPart w v rec s)
def pSum (w v : Nat → Int) (rec : PE → PE) (s : PE) : PE := pLoop opS w (pProd w v rec) 501 (pProd w v rec s)
def pTst (w v : Nat → Int) (rec : PE → PE) (s : PE) : PE :=
  if (pSum w v rec s).2.1 ≠ 0 then pSum w v rec s
  else if w (pSum w v rec s).1 = 60 ∨ w (pSum w v rec s).1 = 61 then
    (if (pSum w v rec ((pSum w v rec s).1 + 1, 0, (pSum w v rec s).2.2)).2.1 = 0 then ((pSum w v rec ((pSum w v rec s).1 + 1, 0, (pSum w v rec s).2.2)).1, 0, (pSum w v rec ((pSum w v rec s).1 + 1, 0, (pSum w v rec s).2.2)).2.2 ++ [if w (pSum w v rec s).1 = 60 then -8 else -9]) else pSum w v rec ((pSum w v rec s).1 + 1, 0, (pSum w v rec s).2.2))
  else pSum w v rec s
/-- how many 'not' stand side by side, k at most -/
def pNots (w : Nat → Int) : Nat → Nat → Nat
  | 0, _ => 0
  | k + 1, i => if w i = 271 then 1 + pNots w k (i + 1) else 0
def pNot (w v : Nat → Int) (rec : PE → PE) (s : PE) : PE :=
  if pNots w 6 s.1 = 6 ∧ w (s.1 + 6) = 271 then (s.1 + 6, 2, s.2.2)
  else if (pTst w v rec (s.1 + pNots w 6 s.1, 0, s.2.2)).2.1 = 0 then ((pTst w v rec (s.1 + pNots w 6 s.1, 0, s.2.2)).1, 0, (pTst w v rec (s.1 + pNots w 6 s.1, 0, s.2.2)).2.2 ++ List.replicate (pNots w 6 s.1) (-5)) else pTst w v rec (s.1 + pNots w 6 s.1, 0, s.2.2)
def pAnd (w v : Nat → Int) (rec : PE → PE) (s : PE) : PE := pLoop opA w (pNot w v rec) 501 (pNot w v rec s)
def pOr (w v : Nat → Int) : Nat → PE → PE
  | 0, s => (s.1, if w s.1 = -2 ∨ w s.1 = 40 ∨ 256 ≤ w s.1 then 2 else 1, s.2.2)
  | k + 1, s => pLoop opO w (pAnd w v (pOr w v k)) 501 (pAnd w v (pOr w v k) s)
/-- signs that leave one number more, H numbers at most above what lies there -/
def okSeg (H : Nat) (cs : List Int) : Prop := ∀ (n : Nat) (r : List Int), n + H ≤ 64 → depL r (n + 1) → depL (cs ++ r) n
theorem okSeg_push {z : Int} (h : -4 ≤ z) : okSeg 1 [z] := fun n r hn hr => by
  show depL (z :: r) n
  rw [depL, if_pos h]; exact ⟨by omega, hr⟩
theorem okSeg_mono {H H' : Nat} {cs : List Int} (h : okSeg H cs) (hH : H ≤ H') : okSeg H' cs := fun n r hn hr => h n r (by omega) hr
theorem okSeg_bin {H : Nat} {a b : List Int} {o : Int} (ha : okSeg (H + 1) a) (hb : okSeg H b) (ho : o < -5) : okSeg (H + 1) (a ++ b ++ [o]) := fun n r hn hr => by
  rw [List.append_assoc, List.append_assoc]
  refine ha n _ hn (hb (n + 1) _ (by omega) ?_)
  show depL (o :: r) (n + 1 + 1)
  rw [depL, if_neg (by omega), if_neg (by omega)]
  exact ⟨by omega, hr⟩
theorem okSeg_nots {H : Nat} {a : List Int} (ha : okSeg H a) : ∀ k, okSeg H (a ++ List.replicate k (-5)) := by
  intro k
  induction k with
  | zero => simpa using ha
  | succ k ih =>
    intro n r hn hr
    rw [List.replicate_succ', ← List.append_assoc, List.append_assoc]
    refine ih n _ hn ?_
    show depL (-5 :: r) (n + 1)
    rw [depL, if_neg (by decide), if_pos rfl]
    exact ⟨by omega, hr⟩
/-- what the reader's tokens are -/
def pTok (w v : Nat → Int) (N : Nat) : Prop := (∀ j, j ≤ N → (w j = -1 ↔ j = N)) ∧ ∀ j, 0 ≤ v j ∧ v j ≤ 10000
/-- from token i with the signs c: where it ends, and what it has written -/
def pRes (N H i : Nat) (c : List Int) (s : PE) : Prop := i ≤ s.1 ∧ s.1 ≤ N ∧ 0 ≤ s.2.1 ∧ s.2.1 ≤ 5 ∧ (s.2.1 = 0 → i < s.1 ∧ ∃ cs, s.2.2 = c ++ cs ∧ okSeg H cs ∧ cs.length ≤ s.1 - i ∧ ∀ z ∈ cs, -13 ≤ z ∧ z ≤ 9999)
def PG (N H : Nat) (p : PE → PE) : Prop := ∀ (i : Nat) (c : List Int), i ≤ N → pRes N H i c (p (i, 0, c))
theorem pRes_mono {N H H' i : Nat} {c : List Int} {s : PE} (h : pRes N H i c s) (hH : H ≤ H') : pRes N H' i c s := ⟨h.1, h.2.1, h.2.2.1, h.2.2.2.1, fun q => by
  obtain ⟨a, cs, b1, b2, b3, b4⟩ := h.2.2.2.2 q
  exact ⟨a, cs, b1, okSeg_mono b2 hH, b3, b4⟩⟩
theorem pLoop_res {op : Int → Option Int} {w v : Nat → Int} {N H : Nat} {p : PE → PE} (hT : pTok w v N) (ho : ∀ x o, op x = some o → -13 ≤ o ∧ o < -5) (hn : op (-1) = none) (hp : PG N H p) {i : Nat} {c : List Int} : ∀ (k : Nat) (s : PE), pRes N (H + 1) i c s → pRes N (H + 1) i c (pLoop op w p k s) := by
  intro k
  induction k with
  | zero => intro s h; exact h
  | succ k ih =>
    intro s h
    rw [pLoop]
    by_cases h0 : s.2.1 = 0
    · rw [if_neg (not_not_intro h0)]
      cases ho2 : op (w s.1) with
      | none => exact h
      | some o =>
        obtain ⟨a1, a2, a3, a4, a5⟩ := h
        obtain ⟨a6, cs, e1, e2, e3, e4⟩ := a5 h0
        have hN : s.1 ≠ N := fun e => by
          have := (hT.1 s.1 a2).mpr e
          rw [this, hn] at ho2; cases ho2
        have hq := hp (s.1 + 1) s.2.2 (by omega)
        obtain ⟨b1, b2, b3, b4, b5⟩ := hq
        dsimp only
        by_cases hb : (p (s.1 + 1, 0, s.2.2)).2.1 = 0
        · rw [if_pos hb]
          obtain ⟨b6, ds, d1, d2, d3, d4⟩ := b5 hb
          have hoo := ho _ _ ho2
          refine ih _ ⟨by show i ≤ (p (s.1 + 1, 0, s.2.2)).1; omega, b2, (show (0 : Int) ≤ 0 by decide), (show (0 : Int) ≤ 5 by decide), fun _ => ⟨by show i < (p (s.1 + 1, 0, s.2.2)).1; omega, cs ++ ds ++ [o], ?_, okSeg_bin e2 d2 hoo.2, ?_, ?_⟩⟩
          · show (p (s.1 + 1, 0, s.2.2)).2.2 ++ [o] = _
            rw [d1, e1]; simp
          · show _ ≤ (p (s.1 + 1, 0, s.2.2)).1 - i
            simp; omega
          · intro z hz
            simp only [List.mem_append, List.mem_singleton] at hz
            rcases hz with (hz | hz) | hz
            · exact e4 z hz
            · exact d4 z hz
            · subst hz; omega
        · rw [if_neg hb]
          exact ⟨by omega, b2, b3, b4, fun q => absurd q hb⟩
    · rw [if_pos h0]; exact h
theorem opP_o : ∀ x o, opP x = some o → -13 ≤ o ∧ o < -5 := by
  intro x o h
  unfold opP at h
  split at h
  · cases h; decide
  · split at h
    · cases h; decide
    · cases h
theorem opS_o : ∀ x o, opS x = some o → -13 ≤ o ∧ o < -5 := by
  intro x o h
  unfold opS at h
  split at h
  · cases h; decide
  · split at h
    · cases h; decide
    · cases h
theorem opA_o : ∀ x o, opA x = some o → -13 ≤ o ∧ o < -5 := by
  intro x o h
  unfold opA at h
  split at h
  · cases h; decide
  · cases h
theorem opO_o : ∀ x o, opO x = some o → -13 ≤ o ∧ o < -5 := by
  intro x o h
  unfold opO at h
  split at h
  · cases h; decide
  · cases h
theorem pPart_res {w v : Nat → Int} {N H : Nat} {rec : PE → PE} (hT : pTok w v N) (hr : PG N H rec) (hH : 1 ≤ H) : PG N H (pPart w v rec) := by
  intro i c hi
  have hN : w i ≠ -1 → i < N := fun h => by
    have := (hT.1 i hi)
    rcases Nat.lt_or_ge i N with q | q
    · exact q
    · exact absurd (this.mpr (by omega)) h
  have hv := hT.2 i
  unfold pPart
  dsimp only
  by_cases h1 : w i = 40
  · rw [if_pos h1]
    have hi2 := hN (by omega)
    obtain ⟨b1, b2, b3, b4, b5⟩ := hr (i + 1) c (by omega)
    by_cases hb : (rec (i + 1, 0, c)).2.1 = 0
    · rw [if_pos hb, pSign]
      by_cases hc : w (rec (i + 1, 0, c)).1 = 41
      · rw [if_pos hc]
        obtain ⟨b6, ds, d1, d2, d3, d4⟩ := b5 hb
        have hN2 : (rec (i + 1, 0, c)).1 < N := by
          rcases Nat.lt_or_ge (rec (i + 1, 0, c)).1 N with q | q
          · exact q
          · have := (hT.1 _ b2).mpr (by omega); omega
        exact ⟨by show i ≤ (rec (i + 1, 0, c)).1 + 1; omega, by show (rec (i + 1, 0, c)).1 + 1 ≤ N; omega, (show (0 : Int) ≤ 0 by decide), (show (0 : Int) ≤ 5 by decide), fun _ => ⟨by show i < (rec (i + 1, 0, c)).1 + 1; omega, ds, d1, d2, by show _ ≤ (rec (i + 1, 0, c)).1 + 1 - i; omega, d4⟩⟩
      · rw [if_neg hc]
        exact ⟨by show i ≤ (rec (i + 1, 0, c)).1; omega, b2, by show (0 : Int) ≤ 1; decide, by show (1 : Int) ≤ 5; decide, fun q => by simp at q⟩
    · rw [if_neg hb]
      exact ⟨by omega, b2, b3, b4, fun q => absurd q hb⟩
  · rw [if_neg h1]
    by_cases h2 : w i = -2
    · rw [if_pos h2]
      have hi2 := hN (by omega)
      by_cases h3 : v i ≤ 9999
      · rw [if_pos h3]
        exact ⟨by show i ≤ i + 1; omega, hi2, (show (0 : Int) ≤ 0 by decide), (show (0 : Int) ≤ 5 by decide), fun _ => ⟨by show i < i + 1; omega, [v i], rfl, okSeg_mono (okSeg_push (by omega)) hH, by show 1 ≤ i + 1 - i; omega, fun z hz => by have := List.mem_singleton.mp hz; subst this; omega⟩⟩
      · rw [if_neg h3]
        exact ⟨Nat.le_refl _, hi, by show (0 : Int) ≤ 2; decide, by show (2 : Int) ≤ 5; decide, fun q => by simp at q⟩
    · rw [if_neg h2]
      by_cases h3 : w i < 256
      · rw [if_pos h3]
        exact ⟨Nat.le_refl _, hi, by show (0 : Int) ≤ 1; decide, by show (1 : Int) ≤ 5; decide, fun q => by simp at q⟩
      · rw [if_neg h3]
        by_cases h4 : w i < 267 ∨ 270 < w i
        · rw [if_pos h4]
          exact ⟨Nat.le_refl _, hi, by show (0 : Int) ≤ 3; decide, by show (3 : Int) ≤ 5; decide, fun q => by simp at q⟩
        · rw [if_neg h4]
          have hi2 := hN (by omega)
          exact ⟨by show i ≤ i + 1; omega, hi2, (show (0 : Int) ≤ 0 by decide), (show (0 : Int) ≤ 5 by decide), fun _ => ⟨by show i < i + 1; omega, [266 - w i], rfl, okSeg_mono (okSeg_push (by omega)) hH, by show 1 ≤ i + 1 - i; omega, fun z hz => by have := List.mem_singleton.mp hz; subst this; omega⟩⟩
theorem pProd_res {w v : Nat → Int} {N H : Nat} {rec : PE → PE} (hT : pTok w v N) (hr : PG N H rec) (hH : 1 ≤ H) : PG N (H + 1) (pProd w v rec) := fun i c hi =>
  pLoop_res hT opP_o rfl (pPart_res hT hr hH) 501 _ (pRes_mono (pPart_res hT hr hH i c hi) (by omega))
theorem pSum_res {w v : Nat → Int} {N H : Nat} {rec : PE → PE} (hT : pTok w v N) (hr : PG N H rec) (hH : 1 ≤ H) : PG N (H + 2) (pSum w v rec) := fun i c hi =>
  pLoop_res hT opS_o rfl (pProd_res hT hr hH) 501 _ (pRes_mono (pProd_res hT hr hH i c hi) (by omega))
theorem pTst_res {w v : Nat → Int} {N H : Nat} {rec : PE → PE} (hT : pTok w v N) (hr : PG N H rec) (hH : 1 ≤ H) : PG N (H + 3) (pTst w v rec) := by
  intro i c hi
  have h1 := pSum_res hT hr hH i c hi
  unfold pTst
  generalize hs : pSum w v rec (i, 0, c) = s at *
  by_cases hb : s.2.1 = 0
  · rw [if_neg (not_not_intro hb)]
    by_cases hc : w s.1 = 60 ∨ w s.1 = 61
    · rw [if_pos hc]
      obtain ⟨a1, a2, a3, a4, a5⟩ := h1
      obtain ⟨a6, cs, e1, e2, e3, e4⟩ := a5 hb
      have hN : s.1 < N := by
        rcases Nat.lt_or_ge s.1 N with q | q
        · exact q
        · have := (hT.1 _ a2).mpr (by omega); omega
      obtain ⟨b1, b2, b3, b4, b5⟩ := pSum_res hT hr hH (s.1 + 1) s.2.2 (by omega)
      generalize hs2 : pSum w v rec (s.1 + 1, 0, s.2.2) = s2 at *
      by_cases hb2 : s2.2.1 = 0
      · rw [if_pos hb2]
        obtain ⟨b6, ds, d1, d2, d3, d4⟩ := b5 hb2
        refine ⟨by show i ≤ s2.1; omega, b2, (show (0 : Int) ≤ 0 by decide), (show (0 : Int) ≤ 5 by decide), fun _ => ⟨by show i < s2.1; omega, cs ++ ds ++ [if w s.1 = 60 then -8 else -9], ?_, okSeg_bin (okSeg_mono e2 (by omega)) d2 (by split <;> decide), ?_, ?_⟩⟩
        · show s2.2.2 ++ _ = _
          rw [d1, e1]; simp
        · show _ ≤ s2.1 - i
          simp; omega
        · intro z hz
          simp only [List.mem_append, List.mem_singleton] at hz
          rcases hz with (hz | hz) | hz
          · exact e4 z hz
          · exact d4 z hz
          · subst hz; split <;> omega
      · rw [if_neg hb2]
        exact ⟨by omega, b2, b3, b4, fun q => absurd q hb2⟩
    · rw [if_neg hc]; exact pRes_mono h1 (by omega)
  · rw [if_pos hb]; exact pRes_mono h1 (by omega)
theorem pNots_le {w v : Nat → Int} {N : Nat} (hT : pTok w v N) : ∀ (k i : Nat), i ≤ N → i + pNots w k i ≤ N ∧ pNots w k i ≤ k := by
  intro k
  induction k with
  | zero => intro i hi; simp [pNots]; exact hi
  | succ k ih =>
    intro i hi
    rw [pNots]
    split
    · rename_i h
      have hN : i < N := by
        rcases Nat.lt_or_ge i N with q | q
        · exact q
        · have := (hT.1 i hi).mpr (by omega); omega
      have := ih (i + 1) (by omega)
      omega
    · exact ⟨by omega, by omega⟩
theorem pNot_res {w v : Nat → Int} {N H : Nat} {rec : PE → PE} (hT : pTok w v N) (hr : PG N H rec) (hH : 1 ≤ H) : PG N (H + 3) (pNot w v rec) := by
  intro i c hi
  have hk := pNots_le hT 6 i hi
  unfold pNot
  dsimp only
  by_cases h6 : pNots w 6 i = 6 ∧ w (i + 6) = 271
  · rw [if_pos h6]
    exact ⟨by show i ≤ i + 6; omega, by show i + 6 ≤ N; omega, by show (0 : Int) ≤ 2; decide, by show (2 : Int) ≤ 5; decide, fun q => by simp at q⟩
  · rw [if_neg h6]
    obtain ⟨b1, b2, b3, b4, b5⟩ := pTst_res hT hr hH (i + pNots w 6 i) c hk.1
    generalize hs2 : pTst w v rec (i + pNots w 6 i, 0, c) = s2 at *
    by_cases hb : s2.2.1 = 0
    · rw [if_pos hb]
      obtain ⟨b6, ds, d1, d2, d3, d4⟩ := b5 hb
      refine ⟨by show i ≤ s2.1; omega, b2, (show (0 : Int) ≤ 0 by decide), (show (0 : Int) ≤ 5 by decide), fun _ => ⟨by show i < s2.1; omega, ds ++ List.replicate (pNots w 6 i) (-5), ?_, okSeg_nots d2 _, ?_, ?_⟩⟩
      · show s2.2.2 ++ _ = _
        rw [d1]; simp
      · show _ ≤ s2.1 - i
        simp; omega
      · intro z hz
        simp only [List.mem_append] at hz
        rcases hz with hz | hz
        · exact d4 z hz
        · have := List.eq_of_mem_replicate hz; omega
    · rw [if_neg hb]
      exact ⟨by omega, b2, b3, b4, fun q => absurd q hb⟩
theorem pAnd_res {w v : Nat → Int} {N H : Nat} {rec : PE → PE} (hT : pTok w v N) (hr : PG N H rec) (hH : 1 ≤ H) : PG N (H + 4) (pAnd w v rec) := fun i c hi =>
  pLoop_res hT opA_o rfl (pNot_res hT hr hH) 501 _ (pRes_mono (pNot_res hT hr hH i c hi) (by omega))
theorem pOr_res {w v : Nat → Int} {N : Nat} (hT : pTok w v N) : ∀ k, PG N (1 + 5 * k) (pOr w v k) := by
  intro k
  induction k with
  | zero =>
    intro i c hi
    rw [pOr]
    refine ⟨Nat.le_refl _, hi, by dsimp only; split <;> decide, by dsimp only; split <;> decide, fun q => ?_⟩
    dsimp only at q
    split at q <;> cases q
  | succ k ih =>
    intro i c hi
    have h := pAnd_res hT ih (by omega)
    rw [pOr]
    exact pLoop_res (H := 1 + 5 * k + 4) hT opO_o rfl h 501 _ (pRes_mono (h i c hi) (by omega))
