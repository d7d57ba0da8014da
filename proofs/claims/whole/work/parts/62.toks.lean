/-! THE TOKENS of a text, in pure words -/
def isLb (c : Int) : Bool := decide (97 ≤ c ∧ c ≤ 122)
def isDb (c : Int) : Bool := decide (48 ≤ c ∧ c ≤ 57)
def isBl (c : Int) : Bool := decide (c = 32 ∨ c = 10)
/-- the first place from p on, k places at most, where P doesn't hold -/
def runB (P : Int → Bool) (f : Nat → Int) : Nat → Nat → Nat
  | 0, p => p
  | k + 1, p => if P (f p) then runB P f k (p + 1) else p
theorem runB_le (P : Int → Bool) (f : Nat → Int) : ∀ (k p : Nat), p ≤ runB P f k p ∧ runB P f k p ≤ p + k := by
  intro k
  induction k with
  | zero => intro p; simp [runB]
  | succ k ih => intro p; rw [runB]; split; have := ih (p + 1); omega; omega
theorem runB_all (P : Int → Bool) (f : Nat → Int) : ∀ (k p j : Nat), p ≤ j → j < runB P f k p → P (f j) = true := by
  intro k
  induction k with
  | zero => intro p j h1 h2; rw [runB] at h2; omega
  | succ k ih =>
    intro p j h1 h2
    rw [runB] at h2
    split at h2
    · rename_i h
      rcases Nat.lt_or_ge p j with q | q
      · exact ih (p + 1) j q h2
      · obtain rfl : j = p := by omega
        exact h
    · omega
/-- the number of the first k figures from p on; 10000 from the fifth on -/
def valC (f : Nat → Int) (p : Nat) : Nat → Int
  | 0 => 0
  | k + 1 => if 4 ≤ k then 10000 else 10 * valC f p k + f (p + k) - 48
theorem valC_R {f : Nat → Int} {p : Nat} : ∀ k, (∀ j, j < k → isDb (f (p + j)) = true) → 0 ≤ valC f p k ∧ (valC f p k ≤ 9999 ∧ k ≤ 4 ∧ valC f p k < 10 ^ k ∨ valC f p k = 10000 ∧ 5 ≤ k) := by
  intro k
  induction k with
  | zero => intro h; simp [valC]
  | succ k ih =>
    intro h
    have h1 := ih (fun j hj => h j (by omega))
    have h2 := of_decide_eq_true (h k (by omega))
    rw [valC]
    split
    · exact ⟨by decide, Or.inr ⟨rfl, by omega⟩⟩
    · rw [Int.pow_succ]
      rcases (show k = 0 ∨ k = 1 ∨ k = 2 ∨ k = 3 by omega) with rfl | rfl | rfl | rfl <;> simp at h1 h2 ⊢ <;> omega
/-- the words, from 256 on -/
def wordT : List (List Int) := [[112, 108, 97, 105, 110], [115, 101, 119, 110], [114, 111, 109, 97, 110], [111, 100, 100], [101, 118, 101, 110], [115, 107, 105, 112], [116, 111, 108, 100], [98, 121], [103, 111, 110, 101], [99, 111, 112, 121], [108, 101, 97, 100], [112, 97, 103, 101], [108, 101, 97, 102], [115, 105, 100, 101], [108, 101, 97, 118, 101, 115], [110, 111, 116], [97, 110, 100], [111, 114]]
def wdEq (f : Nat → Int) : Nat → List Int → Bool
  | _, [] => true
  | p, c :: r => decide (f p = c) && wdEq f (p + 1) r
def isWd (f : Nat → Int) (p e : Nat) (t : List Int) : Bool := decide ((e : Int) - (p : Int) = (t.length : Nat)) && wdEq f p t
def wfind (f : Nat → Int) (p e : Nat) : List (List Int) → Int → Int
  | [], n => n
  | t :: r, n => if isWd f p e t then n else wfind f p e r (n + 1)
theorem wfind_R (f : Nat → Int) (p e : Nat) : ∀ (l : List (List Int)) (n : Int), n ≤ wfind f p e l n ∧ wfind f p e l n ≤ n + (l.length : Nat) := by
  intro l
  induction l with
  | nil => intro n; simp [wfind]
  | cons t r ih => intro n; rw [wfind]; split; simp; omega; have := ih (n + 1); simp; omega
/-- what a token is, its number, its place, its end -/
abbrev Tk : Type := Int × Int × Nat × Nat
def tokAt (f : Nat → Int) (n p : Nat) : Tk :=
  if isLb (f p) then (wfind f p (runB isLb f (n - p) p) wordT 256, 0, p, runB isLb f (n - p) p)
  else if isDb (f p) then (-2, valC f p (runB isDb f (n - p) p - p), p, runB isDb f (n - p) p)
  else (f p, 0, p, p + 1)
def toks (f : Nat → Int) (n : Nat) : Nat → Nat → List Tk
  | 0, _ => [(-1, 0, n, n)]
  | k + 1, p => if n ≤ p then [(-1, 0, n, n)] else if isBl (f p) then toks f n k (p + 1) else tokAt f n p :: toks f n k (tokAt f n p).2.2.2
theorem tokAt_end {f : Nat → Int} {n p : Nat} (h : p < n) : p < (tokAt f n p).2.2.2 ∧ (tokAt f n p).2.2.2 ≤ n := by
  unfold tokAt
  obtain ⟨m, hm⟩ : ∃ m, n - p = m + 1 := ⟨n - p - 1, by omega⟩
  split
  · rename_i c
    dsimp only
    rw [hm, runB, if_pos c]
    have := runB_le isLb f m (p + 1)
    omega
  · split
    · rename_i c
      dsimp only
      rw [hm, runB, if_pos c]
      have := runB_le isDb f m (p + 1)
      omega
    · dsimp only; omega
theorem toks_more {f : Nat → Int} {n : Nat} : ∀ (k j p : Nat), n - p ≤ k → n - p ≤ j → toks f n k p = toks f n j p := by
  intro k
  induction k with
  | zero =>
    intro j p h1 h2
    cases j with
    | zero => rfl
    | succ j => rw [toks, toks, if_pos (by omega)]
  | succ k ih =>
    intro j p h1 h2
    cases j with
    | zero => rw [toks, toks, if_pos (by omega)]
    | succ j =>
      rw [toks, toks]
      split
      · rfl
      · rename_i c
        have := tokAt_end (f := f) (show p < n by omega)
        split
        · exact ih j (p + 1) (by omega) (by omega)
        · rw [ih j _ (by omega) (by omega)]
/-- the tokens from place p on -/
def tk (f : Nat → Int) (n p : Nat) : List Tk := toks f n (n - p) p
theorem tk_end (f : Nat → Int) (n p : Nat) (h : n ≤ p) : tk f n p = [(-1, 0, n, n)] := by
  unfold tk; rw [show n - p = 0 by omega]; rfl
theorem tk_blank {f : Nat → Int} {n p : Nat} (h : p < n) (hb : isBl (f p) = true) : tk f n p = tk f n (p + 1) := by
  unfold tk
  obtain ⟨m, hm⟩ : ∃ m, n - p = m + 1 := ⟨n - p - 1, by omega⟩
  rw [hm, toks, if_neg (by omega), if_pos hb]
  exact toks_more _ _ _ (by omega) (by omega)
theorem tk_tok {f : Nat → Int} {n p : Nat} (h : p < n) (hb : isBl (f p) = false) : tk f n p = tokAt f n p :: tk f n (tokAt f n p).2.2.2 := by
  unfold tk
  obtain ⟨m, hm⟩ : ∃ m, n - p = m + 1 := ⟨n - p - 1, by omega⟩
  have := tokAt_end (f := f) h
  rw [hm, toks, if_neg (by omega), if_neg (by rw [hb]; decide)]
  congr 1
  exact toks_more _ _ _ (by omega) (by omega)
theorem tk_len (f : Nat → Int) (n : Nat) : ∀ (k p : Nat), n - p ≤ k → 1 ≤ (tk f n p).length ∧ (tk f n p).length ≤ n - p + 1 := by
  intro k
  induction k with
  | zero => intro p h; rw [tk_end f n p (by omega)]; simp
  | succ k ih =>
    intro p h
    rcases Nat.lt_or_ge p n with c | c
    · cases hb : isBl (f p) with
      | true => rw [tk_blank c hb]; have := ih (p + 1) (by omega); omega
      | false =>
        have h1 := tokAt_end (f := f) c
        have := ih (tokAt f n p).2.2.2 (by omega)
        rw [tk_tok c hb, List.length_cons]; omega
    · rw [tk_end f n p c]; simp
/-- what each token can be -/
def tkOk (n : Nat) (t : Tk) : Prop := (0 ≤ t.2.1 ∧ t.2.1 ≤ 10000) ∧ (t.1 ≠ -2 → t.2.1 = 0) ∧ (t.1 = -2 ∨ 0 ≤ t.1 ∧ t.1 ≤ 274) ∧ t.2.2.1 < t.2.2.2 ∧ t.2.2.2 ≤ n
theorem tokAt_ok {f : Nat → Int} {n p : Nat} (hf : ∀ j, j < n → 0 ≤ f j ∧ f j ≤ 255) (h : p < n) : tkOk n (tokAt f n p) := by
  have he := tokAt_end (f := f) h
  refine ⟨?_, ?_, ?_, ?_, he.2⟩
  · unfold tokAt
    split
    · exact ⟨by dsimp only; decide, by dsimp only; decide⟩
    · split
      · have := valC_R (f := f) (p := p) (runB isDb f (n - p) p - p) (fun j hj => runB_all isDb f (n - p) p (p + j) (by omega) (by omega))
        dsimp only
        omega
      · exact ⟨by dsimp only; decide, by dsimp only; decide⟩
  · unfold tokAt
    split
    · intro _; rfl
    · split
      · intro q; exact absurd rfl q
      · intro _; rfl
  · unfold tokAt
    split
    · have := wfind_R f p (runB isLb f (n - p) p) wordT 256
      have e : (wordT.length : Nat) = 18 := rfl
      rw [e] at this
      dsimp only; omega
    · split
      · exact Or.inl rfl
      · have := hf p h; dsimp only; omega
  · have : (tokAt f n p).2.2.1 = p := by unfold tokAt; split; rfl; split <;> rfl
    omega
theorem tk_ok {f : Nat → Int} {n : Nat} (hf : ∀ j, j < n → 0 ≤ f j ∧ f j ≤ 255) : ∀ (k p : Nat), n - p ≤ k → ∃ l, tk f n p = l ++ [(-1, 0, n, n)] ∧ ∀ t ∈ l, tkOk n t := by
  intro k
  induction k with
  | zero => intro p h; exact ⟨[], by rw [tk_end f n p (by omega)]; rfl, by simp⟩
  | succ k ih =>
    intro p h
    rcases Nat.lt_or_ge p n with c | c
    · cases hb : isBl (f p) with
      | true => rw [tk_blank c hb]; exact ih (p + 1) (by omega)
      | false =>
        have h1 := tokAt_end (f := f) c
        obtain ⟨l, e, hl⟩ := ih (tokAt f n p).2.2.2 (by omega)
        refine ⟨tokAt f n p :: l, by rw [tk_tok c hb, e]; rfl, fun t ht => ?_⟩
        rcases List.mem_cons.mp ht with q | q
        · rw [q]; exact tokAt_ok hf c
        · exact hl t q
    · exact ⟨[], by rw [tk_end f n p c]; rfl, by simp⟩
def tkW (L : List Tk) (j : Nat) : Int := (L.getD j (-1, 0, 0, 0)).1
def tkV (L : List Tk) (j : Nat) : Int := (L.getD j (-1, 0, 0, 0)).2.1
theorem tk_pTok {f : Nat → Int} {n : Nat} (hf : ∀ j, j < n → 0 ≤ f j ∧ f j ≤ 255) : pTok (tkW (tk f n 0)) (tkV (tk f n 0)) ((tk f n 0).length - 1) := by
  obtain ⟨l, e, hl⟩ := tk_ok hf n 0 (by omega)
  rw [e]
  have hlen : (l ++ [((-1 : Int), (0 : Int), n, n)]).length - 1 = l.length := by simp
  rw [hlen]
  constructor
  · intro j hj
    unfold tkW
    rw [List.getD_eq_getElem?_getD]
    rcases Nat.lt_or_ge j l.length with c | c
    · rw [List.getElem?_append_left c, List.getElem?_eq_getElem c]
      have := hl _ (List.getElem_mem c)
      constructor
      · intro q
        have h3 := this.2.2.1
        simp only [Option.getD_some] at q
        omega
      · intro q; omega
    · obtain rfl : j = l.length := by omega
      simp
  · intro j
    unfold tkV
    rw [List.getD_eq_getElem?_getD]
    rcases Nat.lt_or_ge j l.length with c | c
    · rw [List.getElem?_append_left c, List.getElem?_eq_getElem c]
      exact (hl _ (List.getElem_mem c)).1
    · rcases Nat.lt_or_ge j (l.length + 1) with c2 | c2
      · obtain rfl : j = l.length := by omega
        simp
      · rw [List.getElem?_eq_none (by simp; omega)]; simp
theorem tkV_0 {f : Nat → Int} {n : Nat} (hf : ∀ j, j < n → 0 ≤ f j ∧ f j ≤ 255) (j : Nat) (h : tkW (tk f n 0) j ≠ -2) : tkV (tk f n 0) j = 0 := by
  obtain ⟨l, e, hl⟩ := tk_ok hf n 0 (by omega)
  rw [e] at h ⊢
  unfold tkW at h
  unfold tkV
  rw [List.getD_eq_getElem?_getD] at h ⊢
  rcases Nat.lt_or_ge j l.length with c | c
  · rw [List.getElem?_append_left c, List.getElem?_eq_getElem c] at h ⊢
    exact (hl _ (List.getElem_mem c)).2.1 h
  · rcases Nat.lt_or_ge j (l.length + 1) with c2 | c2
    · obtain rfl : j = l.length := by omega
      simp
    · rw [List.getElem?_eq_none (by simp; omega)]; simp
