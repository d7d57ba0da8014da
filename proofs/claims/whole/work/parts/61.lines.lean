/-! THE READER, in pure words: lines -/
abbrev Bk : Type := Int × Int × Int × Int × Int × List Int
abbrev Sh : Type := List Bk × List (Int × List Int) × List Int × Bool × List Int
abbrev PS : Type := Nat × Int × Sh
def pNum (w v : Nat → Int) (lo hi : Int) (i : Nat) : Int := if w i ≠ -2 then 1 else if v i < lo ∨ hi < v i then 2 else 0
def pIdx (w v : Nat → Int) (nb : Nat) (i : Nat) : Int := if w i ≠ -2 then 1 else if 9999 < v i then 2 else if (nb : Int) ≤ v i then 3 else 0
/-- a LEAF told: its fault -/
def pLf (v : Nat → Int) (lv : Int) (most : Nat) (i : Nat) (g : List Int) : Int := if 9999 < v i ∨ most ≤ g.length then 2 else if lv ≤ v i then 3 else if v i ∈ g then 4 else 0
def pLvs (w v : Nat → Int) (lv : Int) (most : Nat) : Nat → Nat → List Int → Nat × Int × List Int
  | 0, i, g => (i, 0, g)
  | k + 1, i, g => if w i = -2 then (if pLf v lv most i g ≠ 0 then (i, pLf v lv most i g, g) else pLvs w v lv most k (i + 1) (g ++ [v i])) else (i, 0, g)
def bkLv (S : Sh) (j : Nat) : Int := (S.1.getD j (0, 0, 0, 0, 0, [])).2.2.1
def bkGo (S : Sh) (j : Nat) : List Int := (S.1.getD j (0, 0, 0, 0, 0, [])).2.2.2.2.2
def setGo (S : Sh) (j : Nat) (g : List Int) : Sh := (S.1.modify j (fun b => (b.1, b.2.1, b.2.2.1, b.2.2.2.1, b.2.2.2.2.1, g)), S.2)
def pGone (w v : Nat → Int) (i : Nat) (S : Sh) : PS :=
  if pIdx w v S.1.length (i + 1) ≠ 0 then (i + 1, pIdx w v S.1.length (i + 1), S)
  else if w (i + 2) ≠ -2 then (i + 2, 1, S)
  else ((pLvs w v (bkLv S (v (i + 1)).toNat) 60 502 (i + 2) (bkGo S (v (i + 1)).toNat)).1, (pLvs w v (bkLv S (v (i + 1)).toNat) 60 502 (i + 2) (bkGo S (v (i + 1)).toNat)).2.1, setGo S (v (i + 1)).toNat (pLvs w v (bkLv S (v (i + 1)).toNat) 60 502 (i + 2) (bkGo S (v (i + 1)).toNat)).2.2)
def pCopy (w v : Nat → Int) (i : Nat) (S : Sh) : PS :=
  if 8 ≤ S.2.1.length then (i, 2, S)
  else if pIdx w v S.1.length (i + 1) ≠ 0 then (i + 1, pIdx w v S.1.length (i + 1), S)
  else ((pLvs w v (bkLv S (v (i + 1)).toNat) 30 501 (i + 2) []).1, (pLvs w v (bkLv S (v (i + 1)).toNat) 30 501 (i + 2) []).2.1, (S.1, S.2.1 ++ [(v (i + 1), (pLvs w v (bkLv S (v (i + 1)).toNat) 30 501 (i + 2) []).2.2)], S.2.2))
def pLdN (w v : Nat → Int) : Nat → Nat → List Int → Nat × Int × List Int
  | 0, i, a => (i, 0, a)
  | k + 1, i, a => if pNum w v 0 9999 i ≠ 0 then (i, pNum w v 0 9999 i, a) else pLdN w v k (i + 1) (a ++ [v i])
def pLead (w v : Nat → Int) (i : Nat) (S : Sh) : PS :=
  if S.2.2.2.1 then (i, 5, S) else ((pLdN w v 10 (i + 1) []).1, (pLdN w v 10 (i + 1) []).2.1, (S.1, S.2.1, (pLdN w v 10 (i + 1) []).2.2, true, S.2.2.2.2))
/-- a BOOK behind its kind and its mark -/
def pBk2 (w v : Nat → Int) (k mk : Int) (i : Nat) (S : Sh) : PS :=
  if k = 1 ∧ v i % 2 ≠ 0 then (i, 2, S)
  else if pNum w v 1 2000 i ≠ 0 then (i, pNum w v 1 2000 i, S)
  else if k ≠ 6 then (i + 1, 0, (S.1 ++ [(k, mk, v i, 0, 0, [])], S.2))
  else if w (i + 1) ≠ 263 then (i + 1, 1, S)
  else ((pOr w v 6 (i + 2, 0, S.2.2.2.2)).1, (pOr w v 6 (i + 2, 0, S.2.2.2.2)).2.1, (S.1 ++ [(k, mk, v i, ((S.2.2.2.2.length : Nat) : Int), (((pOr w v 6 (i + 2, 0, S.2.2.2.2)).2.2.length : Nat) : Int), ([] : List Int))], S.2.1, S.2.2.1, S.2.2.2.1, (pOr w v 6 (i + 2, 0, S.2.2.2.2)).2.2))
def pBook (w v : Nat → Int) (k : Int) (i : Nat) (S : Sh) : PS :=
  if 6 ≤ S.1.length then (i, 2, S)
  else if k = 2 then (if pNum w v 0 99 (i + 1) ≠ 0 then (i + 1, pNum w v 0 99 (i + 1), S) else pBk2 w v k (v (i + 1)) (i + 2) S)
  else if k = 5 then (if pNum w v 1 9 (i + 1) ≠ 0 then (i + 1, pNum w v 1 9 (i + 1), S) else pBk2 w v k (v (i + 1)) (i + 2) S)
  else pBk2 w v k 0 (i + 1) S
def pLine (w v : Nat → Int) (i : Nat) (S : Sh) : PS :=
  if w i = 264 then pGone w v i S else if w i = 265 then pCopy w v i S else if w i = 266 then pLead w v i S
  else if 256 ≤ w i ∧ w i ≤ 262 then pBook w v (w i - 256) i S else (i, 1, S)
def pLns (w v : Nat → Int) : Nat → Nat → Sh → PS
  | 0, i, S => (i, 0, S)
  | k + 1, i, S => if w i = -1 then (i, 0, S) else if (pLine w v i S).2.1 ≠ 0 then pLine w v i S
    else if w (pLine w v i S).1 = 59 then pLns w v k ((pLine w v i S).1 + 1) (pLine w v i S).2.2 else ((pLine w v i S).1, 1, (pLine w v i S).2.2)
def sh0 : Sh := ([], [], List.replicate 10 100, false, [])
/-- signs f .. t - 1 of a rule -/
def segC (c : List Int) (f t : Int) : List Int := (c.drop f.toNat).take (t - f).toNat
def okBk (c : List Int) (b : Bk) : Prop := (0 ≤ b.1 ∧ b.1 ≤ 6) ∧ (0 ≤ b.2.1 ∧ b.2.1 ≤ 99) ∧ (b.1 = 5 → 1 ≤ b.2.1 ∧ b.2.1 ≤ 9) ∧ (1 ≤ b.2.2.1 ∧ b.2.2.1 ≤ 2000) ∧ (0 ≤ b.2.2.2.1 ∧ b.2.2.2.1 ≤ b.2.2.2.2.1 ∧ b.2.2.2.2.1 ≤ (c.length : Nat)) ∧ (b.1 = 6 → depL (segC c b.2.2.2.1 b.2.2.2.2.1) 0) ∧ b.2.2.2.2.2.Nodup ∧ b.2.2.2.2.2.length ≤ 60 ∧ ∀ z ∈ b.2.2.2.2.2, 0 ≤ z ∧ z < b.2.2.1
def okCp (n : Nat) (q : Int × List Int) : Prop := (0 ≤ q.1 ∧ q.1 < (n : Nat)) ∧ q.2.Nodup ∧ q.2.length ≤ 30 ∧ ∀ z ∈ q.2, 0 ≤ z ∧ z < 2000
def okSh (i : Nat) (S : Sh) : Prop := S.1.length ≤ 6 ∧ (∀ b ∈ S.1, okBk S.2.2.2.2 b) ∧ S.2.1.length ≤ 8 ∧ (∀ q ∈ S.2.1, okCp S.1.length q) ∧ S.2.2.1.length = 10 ∧ (∀ z ∈ S.2.2.1, 0 ≤ z ∧ z ≤ 9999) ∧ S.2.2.2.2.length ≤ i ∧ ∀ z ∈ S.2.2.2.2, -13 ≤ z ∧ z ≤ 9999
theorem okBk_more {c : List Int} {b : Bk} (h : okBk c b) (d : List Int) : okBk (c ++ d) b := by
  obtain ⟨h1, h2, h3, h4, h5, h6, h7, h8, h9⟩ := h
  refine ⟨h1, h2, h3, h4, ⟨h5.1, h5.2.1, by simp; omega⟩, fun q => ?_, h7, h8, h9⟩
  have e : segC (c ++ d) b.2.2.2.1 b.2.2.2.2.1 = segC c b.2.2.2.1 b.2.2.2.2.1 := by
    unfold segC
    rw [List.drop_append_of_le_length (by omega), List.take_append_of_le_length (by simp; omega)]
  rw [e]; exact h6 q
/-- what a part of a text leaves -/
def pOk (N i : Nat) (r : PS) : Prop := i ≤ r.1 ∧ r.1 ≤ N ∧ 0 ≤ r.2.1 ∧ r.2.1 ≤ 5 ∧ (r.2.1 = 0 → i < r.1 ∧ okSh r.1 r.2.2)
theorem pLvs_res {w v : Nat → Int} {N : Nat} {lv : Int} {most : Nat} (hT : pTok w v N) : ∀ (k i : Nat) (g : List Int), i ≤ N → g.Nodup → g.length ≤ most → (∀ z ∈ g, 0 ≤ z ∧ z < lv) →
    i ≤ (pLvs w v lv most k i g).1 ∧ (pLvs w v lv most k i g).1 ≤ N ∧ 0 ≤ (pLvs w v lv most k i g).2.1 ∧ (pLvs w v lv most k i g).2.1 ≤ 5 ∧ (pLvs w v lv most k i g).2.2.Nodup ∧ (pLvs w v lv most k i g).2.2.length ≤ most ∧ ∀ z ∈ (pLvs w v lv most k i g).2.2, 0 ≤ z ∧ z < lv := by
  intro k
  induction k with
  | zero => intro i g hi h1 h2 h3; exact ⟨Nat.le_refl _, hi, by show (0 : Int) ≤ 0; decide, by show (0 : Int) ≤ 5; decide, h1, h2, h3⟩
  | succ k ih =>
    intro i g hi h1 h2 h3
    rw [pLvs]
    by_cases hw : w i = -2
    · rw [if_pos hw]
      by_cases hb : pLf v lv most i g = 0
      · rw [if_neg (not_not_intro hb)]
        have hv := hT.2 i
        have hN : i < N := by
          rcases Nat.lt_or_ge i N with q | q
          · exact q
          · have := (hT.1 i hi).mpr (by omega); omega
        unfold pLf at hb
        split at hb
        · cases hb
        · split at hb
          · cases hb
          · split at hb
            · cases hb
            · rename_i c1 c2 c3
              have := ih (i + 1) (g ++ [v i]) (by omega) (by
                rw [List.nodup_append]
                exact ⟨h1, by simp, fun a ha b hb2 e => by have := List.mem_singleton.mp hb2; subst this; subst e; exact c3 ha⟩) (by simp; omega) (fun z hz => by
                rcases List.mem_append.mp hz with h | h
                · exact h3 z h
                · have := List.mem_singleton.mp h; subst this; omega)
              exact ⟨by omega, this.2⟩
      · rw [if_pos hb]
        refine ⟨Nat.le_refl _, hi, ?_, ?_, h1, h2, h3⟩ <;> (dsimp only; unfold pLf; split <;> (try split) <;> (try split) <;> decide)
    · rw [if_neg hw]; exact ⟨Nat.le_refl _, hi, by show (0 : Int) ≤ 0; decide, by show (0 : Int) ≤ 5; decide, h1, h2, h3⟩
theorem pNum_R (w v : Nat → Int) (lo hi : Int) (i : Nat) : 0 ≤ pNum w v lo hi i ∧ pNum w v lo hi i ≤ 5 := by unfold pNum; split <;> (try split) <;> decide
theorem pNum_0 {w v : Nat → Int} {lo hi : Int} {i : Nat} (h : pNum w v lo hi i = 0) : w i = -2 ∧ lo ≤ v i ∧ v i ≤ hi := by
  unfold pNum at h
  split at h
  · cases h
  · split at h
    · cases h
    · rename_i a b; exact ⟨Classical.not_not.mp a, by omega, by omega⟩
theorem pIdx_R (w v : Nat → Int) (nb i : Nat) : 0 ≤ pIdx w v nb i ∧ pIdx w v nb i ≤ 5 := by unfold pIdx; split <;> (try split) <;> (try split) <;> decide
theorem pIdx_0 {w v : Nat → Int} {nb i : Nat} (h : pIdx w v nb i = 0) : w i = -2 ∧ v i < (nb : Int) := by
  unfold pIdx at h
  split at h
  · cases h
  · split at h
    · cases h
    · split at h
      · cases h
      · rename_i a b c; exact ⟨Classical.not_not.mp a, by omega⟩
theorem pTok_lt {w v : Nat → Int} {N i : Nat} (hT : pTok w v N) (hi : i ≤ N) (h : w i ≠ -1) : i < N := by
  rcases Nat.lt_or_ge i N with q | q
  · exact q
  · exact absurd ((hT.1 i hi).mpr (by omega)) h
theorem getD_mem {α : Type} {l : List α} {j : Nat} {d : α} (h : j < l.length) : l.getD j d ∈ l := by
  rw [List.getD_eq_getElem?_getD, List.getElem?_eq_getElem h]; exact List.getElem_mem h
theorem pGone_ok {w v : Nat → Int} {N i : Nat} {S : Sh} (hT : pTok w v N) (hi : i < N) (hS : okSh i S) : pOk N i (pGone w v i S) := by
  unfold pGone
  by_cases h1 : pIdx w v S.1.length (i + 1) = 0
  · rw [if_neg (not_not_intro h1)]
    obtain ⟨hw1, hv1⟩ := pIdx_0 h1
    have hi1 := pTok_lt hT (show i + 1 ≤ N by omega) (by omega)
    by_cases h2 : w (i + 2) = -2
    · rw [if_neg (not_not_intro h2)]
      have hi2 := pTok_lt hT (show i + 2 ≤ N by omega) (by omega)
      obtain ⟨s1, s2, s3, s4, s5, s6, s7, s8⟩ := hS
      have hj : (v (i + 1)).toNat < S.1.length := by have := hT.2 (i + 1); omega
      have hb := s2 _ (getD_mem (d := (0, 0, 0, 0, 0, [])) hj)
      obtain ⟨g1, g2, g3, g4, g5, g6, g7, g8, g9⟩ := hb
      have hr := pLvs_res (lv := bkLv S (v (i + 1)).toNat) (most := 60) hT 502 (i + 2) (bkGo S (v (i + 1)).toNat) (by omega) g7 g8 g9
      generalize pLvs w v (bkLv S (v (i + 1)).toNat) 60 502 (i + 2) (bkGo S (v (i + 1)).toNat) = r at *
      obtain ⟨r1, r2, r3, r4, r5, r6, r7⟩ := hr
      refine ⟨by show i ≤ r.1; omega, r2, r3, r4, fun _ => ⟨by show i < r.1; omega, ?_⟩⟩
      refine ⟨by simpa [setGo] using s1, fun b hb => ?_, s3, ?_, s5, s6, by show S.2.2.2.2.length ≤ r.1; omega, s8⟩
      · simp only [setGo] at hb ⊢
        obtain ⟨k, hk, rfl⟩ := List.mem_iff_getElem.mp hb
        rw [List.getElem_modify]
        split
        · rename_i e
          subst e
          have e2 : S.1.getD (v (i + 1)).toNat (0, 0, 0, 0, 0, []) = S.1[(v (i + 1)).toNat]'hj := by rw [List.getD_eq_getElem?_getD, List.getElem?_eq_getElem hj]; rfl
          rw [e2] at g1 g2 g3 g4 g5 g6
          simp only [bkLv, e2] at r7
          exact ⟨g1, g2, g3, g4, g5, g6, r5, r6, r7⟩
        · exact s2 _ (List.getElem_mem _)
      · intro q hq
        have := s4 q hq
        simpa [setGo] using this
    · rw [if_pos h2]
      exact ⟨by show i ≤ i + 2; omega, by show i + 2 ≤ N; omega, by show (0 : Int) ≤ 1; decide, by show (1 : Int) ≤ 5; decide, fun q => by simp at q⟩
  · rw [if_pos h1]
    have := pIdx_R w v S.1.length (i + 1)
    exact ⟨by show i ≤ i + 1; omega, by show i + 1 ≤ N; omega, this.1, this.2, fun q => absurd q h1⟩
theorem okCp_more {n m : Nat} {q : Int × List Int} (h : okCp n q) (hm : n ≤ m) : okCp m q := ⟨⟨h.1.1, by have := h.1.2; omega⟩, h.2⟩
theorem pCopy_ok {w v : Nat → Int} {N i : Nat} {S : Sh} (hT : pTok w v N) (hi : i < N) (hS : okSh i S) : pOk N i (pCopy w v i S) := by
  unfold pCopy
  by_cases h0 : 8 ≤ S.2.1.length
  · rw [if_pos h0]
    exact ⟨Nat.le_refl _, by show i ≤ N; omega, by show (0 : Int) ≤ 2; decide, by show (2 : Int) ≤ 5; decide, fun q => by simp at q⟩
  · rw [if_neg h0]
    by_cases h1 : pIdx w v S.1.length (i + 1) = 0
    · rw [if_neg (not_not_intro h1)]
      obtain ⟨hw1, hv1⟩ := pIdx_0 h1
      have hi1 := pTok_lt hT (show i + 1 ≤ N by omega) (by omega)
      obtain ⟨s1, s2, s3, s4, s5, s6, s7, s8⟩ := hS
      have hj : (v (i + 1)).toNat < S.1.length := by have := hT.2 (i + 1); omega
      have hb := s2 _ (getD_mem (d := (0, 0, 0, 0, 0, [])) hj)
      obtain ⟨g1, g2, g3, g4, g5, g6, g7, g8, g9⟩ := hb
      have hr := pLvs_res (lv := bkLv S (v (i + 1)).toNat) (most := 30) hT 501 (i + 2) [] (by omega) List.nodup_nil (by simp) (by simp)
      have hlv : bkLv S (v (i + 1)).toNat ≤ 2000 := g4.2
      generalize pLvs w v (bkLv S (v (i + 1)).toNat) 30 501 (i + 2) [] = r at *
      obtain ⟨r1, r2, r3, r4, r5, r6, r7⟩ := hr
      refine ⟨by show i ≤ r.1; omega, r2, r3, r4, fun _ => ⟨by show i < r.1; omega, s1, s2, by simp; omega, ?_, s5, s6, by show S.2.2.2.2.length ≤ r.1; omega, s8⟩⟩
      intro q hq
      rcases List.mem_append.mp hq with h | h
      · exact s4 q h
      · have := List.mem_singleton.mp h
        subst this
        exact ⟨⟨(hT.2 (i + 1)).1, hv1⟩, r5, r6, fun z hz => by have := r7 z hz; omega⟩
    · rw [if_pos h1]
      have := pIdx_R w v S.1.length (i + 1)
      exact ⟨by show i ≤ i + 1; omega, by show i + 1 ≤ N; omega, this.1, this.2, fun q => absurd q h1⟩
theorem pLdN_res {w v : Nat → Int} {N : Nat} (hT : pTok w v N) : ∀ (k i : Nat) (a : List Int), i ≤ N → a.length + k = 10 → (∀ z ∈ a, 0 ≤ z ∧ z ≤ 9999) →
    i ≤ (pLdN w v k i a).1 ∧ (pLdN w v k i a).1 ≤ N ∧ 0 ≤ (pLdN w v k i a).2.1 ∧ (pLdN w v k i a).2.1 ≤ 5 ∧ ((pLdN w v k i a).2.1 = 0 → (pLdN w v k i a).2.2.length = 10 ∧ ∀ z ∈ (pLdN w v k i a).2.2, 0 ≤ z ∧ z ≤ 9999) := by
  intro k
  induction k with
  | zero => intro i a hi h1 h2; exact ⟨Nat.le_refl _, hi, by show (0 : Int) ≤ 0; decide, by show (0 : Int) ≤ 5; decide, fun _ => ⟨by show a.length = 10; omega, h2⟩⟩
  | succ k ih =>
    intro i a hi h1 h2
    rw [pLdN]
    by_cases hb : pNum w v 0 9999 i = 0
    · rw [if_neg (not_not_intro hb)]
      obtain ⟨q1, q2, q3⟩ := pNum_0 hb
      have hN := pTok_lt hT hi (by omega)
      have := ih (i + 1) (a ++ [v i]) (by omega) (by simp; omega) (fun z hz => by
        rcases List.mem_append.mp hz with h | h
        · exact h2 z h
        · have := List.mem_singleton.mp h; subst this; omega)
      exact ⟨by omega, this.2⟩
    · rw [if_pos hb]
      have := pNum_R w v 0 9999 i
      exact ⟨Nat.le_refl _, hi, this.1, this.2, fun q => absurd q hb⟩
theorem pLead_ok {w v : Nat → Int} {N i : Nat} {S : Sh} (hT : pTok w v N) (hi : i < N) (hS : okSh i S) : pOk N i (pLead w v i S) := by
  unfold pLead
  by_cases h0 : S.2.2.2.1 = true
  · rw [if_pos h0]
    exact ⟨Nat.le_refl _, by show i ≤ N; omega, by show (0 : Int) ≤ 5; decide, by show (5 : Int) ≤ 5; decide, fun q => by simp at q⟩
  · rw [if_neg h0]
    have hr := pLdN_res hT 10 (i + 1) [] (by omega) (by simp) (by simp)
    generalize pLdN w v 10 (i + 1) [] = r at *
    obtain ⟨r1, r2, r3, r4, r5⟩ := hr
    obtain ⟨s1, s2, s3, s4, s5, s6, s7, s8⟩ := hS
    exact ⟨by show i ≤ r.1; omega, r2, r3, r4, fun q => ⟨by show i < r.1; omega, s1, s2, s3, s4, (r5 q).1, (r5 q).2, by show S.2.2.2.2.length ≤ r.1; omega, s8⟩⟩
theorem pBk2_ok {w v : Nat → Int} {N i i0 : Nat} {k mk : Int} {S : Sh} (hT : pTok w v N) (hi : i ≤ N) (hi0 : i0 < i) (hS : okSh i0 S) (h6 : S.1.length < 6) (hk : 0 ≤ k ∧ k ≤ 6) (hm : 0 ≤ mk ∧ mk ≤ 99) (hm5 : k = 5 → 1 ≤ mk ∧ mk ≤ 9) : pOk N i0 (pBk2 w v k mk i S) := by
  unfold pBk2
  obtain ⟨s1, s2, s3, s4, s5, s6, s7, s8⟩ := hS
  by_cases h1 : k = 1 ∧ v i % 2 ≠ 0
  · rw [if_pos h1]
    exact ⟨by show i0 ≤ i; omega, hi, by show (0 : Int) ≤ 2; decide, by show (2 : Int) ≤ 5; decide, fun q => by simp at q⟩
  · rw [if_neg h1]
    by_cases h2 : pNum w v 1 2000 i = 0
    · rw [if_neg (not_not_intro h2)]
      obtain ⟨q1, q2, q3⟩ := pNum_0 h2
      have hN := pTok_lt hT hi (by omega)
      by_cases h3 : k = 6
      · rw [if_neg (not_not_intro h3)]
        by_cases h4 : w (i + 1) = 263
        · rw [if_neg (not_not_intro h4)]
          have hN2 := pTok_lt hT (show i + 1 ≤ N by omega) (by omega)
          have hr := pOr_res hT 6 (i + 2) S.2.2.2.2 (by omega)
          generalize pOr w v 6 (i + 2, 0, S.2.2.2.2) = r at *
          obtain ⟨r1, r2, r3, r4, r5⟩ := hr
          refine ⟨by show i0 ≤ r.1; omega, r2, r3, r4, fun q => ?_⟩
          obtain ⟨r6, cs, e1, e2, e3, e4⟩ := r5 q
          refine ⟨by show i0 < r.1; omega, by simp; omega, ?_, s3, ?_, s5, s6, ?_, ?_⟩
          · intro b hb
            show okBk r.2.2 b
            rcases List.mem_append.mp hb with h | h
            · rw [e1]; exact okBk_more (s2 b h) cs
            · have := List.mem_singleton.mp h
              subst this
              refine ⟨hk, hm, hm5, ⟨q2, q3⟩, ⟨by show (0 : Int) ≤ (S.2.2.2.2.length : Nat); omega, by show ((S.2.2.2.2.length : Nat) : Int) ≤ (r.2.2.length : Nat); rw [e1]; simp; omega, Int.le_refl _⟩, fun _ => ?_, List.nodup_nil, by simp, by simp⟩
              have : segC r.2.2 (S.2.2.2.2.length : Nat) (r.2.2.length : Nat) = cs := by
                unfold segC
                rw [e1, show (((S.2.2.2.2.length : Nat) : Int)).toNat = S.2.2.2.2.length by omega, List.drop_left]
                exact List.take_of_length_le (by simp; omega)
              show depL (segC r.2.2 _ _) 0
              rw [this]
              have := e2 0 [] (by omega) (by show depL [] 1; rw [depL])
              simpa using this
          · intro q hq
            exact okCp_more (s4 q hq) (by simp)
          · show r.2.2.length ≤ r.1
            rw [e1]; simp; omega
          · intro z hz
            have hz : z ∈ r.2.2 := hz
            rw [e1] at hz
            rcases List.mem_append.mp hz with h | h
            · exact s8 z h
            · exact e4 z h
        · rw [if_pos h4]
          exact ⟨by show i0 ≤ i + 1; omega, by show i + 1 ≤ N; omega, by show (0 : Int) ≤ 1; decide, by show (1 : Int) ≤ 5; decide, fun q => by simp at q⟩
      · rw [if_pos h3]
        refine ⟨by show i0 ≤ i + 1; omega, by show i + 1 ≤ N; omega, (show (0 : Int) ≤ 0 by decide), (show (0 : Int) ≤ 5 by decide), fun _ => ⟨by show i0 < i + 1; omega, by simp; omega, ?_, s3, ?_, s5, s6, by show S.2.2.2.2.length ≤ i + 1; omega, s8⟩⟩
        · intro b hb
          rcases List.mem_append.mp hb with h | h
          · exact s2 b h
          · have := List.mem_singleton.mp h
            subst this
            exact ⟨hk, hm, hm5, ⟨q2, q3⟩, ⟨Int.le_refl _, Int.le_refl _, by show (0 : Int) ≤ (S.2.2.2.2.length : Nat); omega⟩, fun q => absurd q h3, List.nodup_nil, by simp, by simp⟩
        · intro q hq
          exact okCp_more (s4 q hq) (by simp)
    · rw [if_pos h2]
      have := pNum_R w v 1 2000 i
      exact ⟨by show i0 ≤ i; omega, hi, this.1, this.2, fun q => absurd q h2⟩
theorem pBook_ok {w v : Nat → Int} {N i : Nat} {k : Int} {S : Sh} (hT : pTok w v N) (hi : i < N) (hS : okSh i S) (hk : 0 ≤ k ∧ k ≤ 6) : pOk N i (pBook w v k i S) := by
  unfold pBook
  by_cases h0 : 6 ≤ S.1.length
  · rw [if_pos h0]
    exact ⟨Nat.le_refl _, by show i ≤ N; omega, by show (0 : Int) ≤ 2; decide, by show (2 : Int) ≤ 5; decide, fun q => by simp at q⟩
  · rw [if_neg h0]
    by_cases h2 : k = 2
    · rw [if_pos h2]
      by_cases hb : pNum w v 0 99 (i + 1) = 0
      · rw [if_neg (not_not_intro hb)]
        obtain ⟨q1, q2, q3⟩ := pNum_0 hb
        have hN := pTok_lt hT (show i + 1 ≤ N by omega) (by omega)
        exact pBk2_ok hT (by omega) (by omega) hS (by omega) hk ⟨q2, q3⟩ (by omega)
      · rw [if_pos hb]
        have := pNum_R w v 0 99 (i + 1)
        exact ⟨by show i ≤ i + 1; omega, by show i + 1 ≤ N; omega, this.1, this.2, fun q => absurd q hb⟩
    · rw [if_neg h2]
      by_cases h5 : k = 5
      · rw [if_pos h5]
        by_cases hb : pNum w v 1 9 (i + 1) = 0
        · rw [if_neg (not_not_intro hb)]
          obtain ⟨q1, q2, q3⟩ := pNum_0 hb
          have hN := pTok_lt hT (show i + 1 ≤ N by omega) (by omega)
          exact pBk2_ok hT (by omega) (by omega) hS (by omega) hk ⟨by omega, by omega⟩ (fun _ => ⟨q2, q3⟩)
        · rw [if_pos hb]
          have := pNum_R w v 1 9 (i + 1)
          exact ⟨by show i ≤ i + 1; omega, by show i + 1 ≤ N; omega, this.1, this.2, fun q => absurd q hb⟩
      · rw [if_neg h5]
        exact pBk2_ok hT (by omega) (by omega) hS (by omega) hk ⟨by decide, by decide⟩ (fun q => absurd q h5)
theorem pLine_ok {w v : Nat → Int} {N i : Nat} {S : Sh} (hT : pTok w v N) (hi : i < N) (hS : okSh i S) : pOk N i (pLine w v i S) := by
  unfold pLine
  split
  · exact pGone_ok hT hi hS
  · split
    · exact pCopy_ok hT hi hS
    · split
      · exact pLead_ok hT hi hS
      · split
        · exact pBook_ok hT hi hS (by omega)
        · exact ⟨Nat.le_refl _, by show i ≤ N; omega, by show (0 : Int) ≤ 1; decide, by show (1 : Int) ≤ 5; decide, fun q => by simp at q⟩
theorem okSh_more {i j : Nat} {S : Sh} (h : okSh i S) (hj : i ≤ j) : okSh j S := ⟨h.1, h.2.1, h.2.2.1, h.2.2.2.1, h.2.2.2.2.1, h.2.2.2.2.2.1, by have := h.2.2.2.2.2.2.1; omega, h.2.2.2.2.2.2.2⟩
theorem okSh0 : okSh 0 sh0 := ⟨by simp [sh0], by simp [sh0], by simp [sh0], by simp [sh0], by simp [sh0], by simp [sh0], by simp [sh0], by simp [sh0]⟩
/-- where the lines end -/
theorem pLns_ok {w v : Nat → Int} {N : Nat} (hT : pTok w v N) : ∀ (k i : Nat) (S : Sh), i ≤ N → N < i + k → okSh i S → (pLns w v k i S).1 ≤ N ∧ 0 ≤ (pLns w v k i S).2.1 ∧ (pLns w v k i S).2.1 ≤ 5 ∧ ((pLns w v k i S).2.1 = 0 → (pLns w v k i S).1 = N ∧ okSh N (pLns w v k i S).2.2) := by
  intro k
  induction k with
  | zero => intro i S hi hk; omega
  | succ k ih =>
    intro i S hi hk hS
    rw [pLns]
    by_cases h0 : w i = -1
    · rw [if_pos h0]
      obtain rfl := (hT.1 i hi).mp h0
      exact ⟨Nat.le_refl _, by show (0 : Int) ≤ 0; decide, by show (0 : Int) ≤ 5; decide, fun _ => ⟨rfl, hS⟩⟩
    · rw [if_neg h0]
      have hN := pTok_lt hT hi h0
      have hr := pLine_ok hT hN hS
      generalize pLine w v i S = r at *
      obtain ⟨r1, r2, r3, r4, r5⟩ := hr
      by_cases hb : r.2.1 = 0
      · rw [if_neg (not_not_intro hb)]
        by_cases hc : w r.1 = 59
        · rw [if_pos hc]
          have := pTok_lt hT r2 (by omega)
          exact ih (r.1 + 1) r.2.2 (by omega) (by have := (r5 hb).1; omega) (okSh_more (r5 hb).2 (by omega))
        · rw [if_neg hc]
          exact ⟨r2, by show (0 : Int) ≤ 1; decide, by show (1 : Int) ≤ 5; decide, fun q => by simp at q⟩
      · rw [if_pos hb]
        exact ⟨r2, r3, r4, fun q => absurd q hb⟩
