/-! the most even shares: the search is as good as all rows -/
def keepB (b q : SB) : SB := if q.1 < b.1 then q else b
def allL (w : Nat → Int) (ch : Nat) : Nat → Nat → (Nat → Int) → List Nat → List SB
  | 0, _, h, pre => [(mxH h (ch - 1) - mnH h (ch - 1), pre)]
  | r + 1, place, h, pre => (List.range ch).flatMap (fun c => allL w ch r (place + 1) (upd1 h c (h c + w place)) (pre ++ [c]))
theorem keep_id {b : SB} : ∀ (l : List SB), (∀ q ∈ l, b.1 ≤ q.1) → l.foldl keepB b = b := by
  intro l
  induction l with
  | nil => intro _; rfl
  | cons a r ih =>
    intro h
    have h1 := h a List.mem_cons_self
    rw [List.foldl_cons, show keepB b a = b from if_neg (by omega)]
    exact ih (fun q hq => h q (List.mem_cons_of_mem _ hq))
theorem keep_le : ∀ (l : List SB) (b : SB), (l.foldl keepB b).1 ≤ b.1 ∧ ∀ q ∈ l, (l.foldl keepB b).1 ≤ q.1 := by
  intro l
  induction l with
  | nil => intro b; exact ⟨Int.le_refl _, fun q hq => by cases hq⟩
  | cons a r ih =>
    intro b
    rw [List.foldl_cons]
    obtain ⟨h1, h2⟩ := ih (keepB b a)
    have h3 : (keepB b a).1 ≤ b.1 ∧ (keepB b a).1 ≤ a.1 := by unfold keepB; split <;> omega
    refine ⟨by omega, fun q hq => ?_⟩
    rcases List.mem_cons.mp hq with e | e
    · rw [e]; omega
    · exact h2 q e
theorem foldl_fm {α : Type} {f : α → List SB} : ∀ (l : List α) (b : SB), (l.flatMap f).foldl keepB b = l.foldl (fun b c => (f c).foldl keepB b) b := by
  intro l
  induction l with
  | nil => intro b; rfl
  | cons a r ih => intro b; rw [List.flatMap_cons, List.foldl_append, List.foldl_cons, ih]
theorem mxH_is (h : Nat → Int) : ∀ k, (∀ j, j ≤ k → h j ≤ mxH h k) ∧ ∃ j, j ≤ k ∧ h j = mxH h k := by
  intro k
  induction k with
  | zero => exact ⟨fun j hj => (by rw [show j = 0 by omega]; exact Int.le_refl _), 0, Nat.le_refl _, rfl⟩
  | succ k ih =>
    obtain ⟨h1, j, hj, h2⟩ := ih
    rw [mxH]
    unfold mx
    split
    · rename_i c
      exact ⟨fun i hi => by by_cases e : i = k + 1; subst e; exact Int.le_refl _; have := h1 i (by omega); omega, k + 1, Nat.le_refl _, rfl⟩
    · rename_i c
      exact ⟨fun i hi => by by_cases e : i = k + 1; subst e; omega; exact h1 i (by omega), j, by omega, h2⟩
theorem mnH_is (h : Nat → Int) : ∀ k, (∀ j, j ≤ k → mnH h k ≤ h j) ∧ ∃ j, j ≤ k ∧ h j = mnH h k := by
  intro k
  induction k with
  | zero => exact ⟨fun j hj => (by rw [show j = 0 by omega]; exact Int.le_refl _), 0, Nat.le_refl _, rfl⟩
  | succ k ih =>
    obtain ⟨h1, j, hj, h2⟩ := ih
    rw [mnH]
    unfold mn
    split
    · rename_i c
      exact ⟨fun i hi => by by_cases e : i = k + 1; subst e; exact Int.le_refl _; have := h1 i (by omega); omega, k + 1, Nat.le_refl _, rfl⟩
    · rename_i c
      exact ⟨fun i hi => by by_cases e : i = k + 1; subst e; omega; exact h1 i (by omega), j, by omega, h2⟩
/-- two children change places -/
def sw (a b j : Nat) : Nat := if j = a then b else if j = b then a else j
theorem sw_sw (a b j : Nat) : sw a b (sw a b j) = j := by unfold sw; split <;> split <;> (try split) <;> omega
theorem sw_lt {a b j n : Nat} (ha : a < n) (hb : b < n) (hj : j < n) : sw a b j < n := by unfold sw; split <;> (try split) <;> omega
theorem gap_sw {h : Nat → Int} {a b ch : Nat} (hc : 1 ≤ ch) (ha : a < ch) (hb : b < ch) : mxH (fun j => h (sw a b j)) (ch - 1) = mxH h (ch - 1) ∧ mnH (fun j => h (sw a b j)) (ch - 1) = mnH h (ch - 1) := by
  obtain ⟨a1, i, hi, a2⟩ := mxH_is h (ch - 1)
  obtain ⟨b1, j, hj, b2⟩ := mxH_is (fun j => h (sw a b j)) (ch - 1)
  obtain ⟨c1, k, hk, c2⟩ := mnH_is h (ch - 1)
  obtain ⟨d1, l, hl, d2⟩ := mnH_is (fun j => h (sw a b j)) (ch - 1)
  have s1 := sw_lt (n := ch) ha hb (j := i) (by omega)
  have s2 := sw_lt (n := ch) ha hb (j := j) (by omega)
  have s3 := sw_lt (n := ch) ha hb (j := k) (by omega)
  have s4 := sw_lt (n := ch) ha hb (j := l) (by omega)
  have e1 := b1 (sw a b i) (by omega)
  have e2 := a1 (sw a b j) (by omega)
  have e3 := d1 (sw a b k) (by omega)
  have e4 := c1 (sw a b l) (by omega)
  simp only [sw_sw] at e1 e3
  constructor <;> omega
theorem allL_sw {w : Nat → Int} {a b ch : Nat} (hc : 1 ≤ ch) (ha : a < ch) (hb : b < ch) : ∀ (r p : Nat) (h : Nat → Int) (pre pre' : List Nat), ∀ q ∈ allL w ch r p (fun j => h (sw a b j)) pre, ∃ q' ∈ allL w ch r p h pre', q'.1 = q.1 := by
  intro r
  induction r with
  | zero =>
    intro p h pre pre' q hq
    rw [allL] at hq
    have hq := List.mem_singleton.mp hq
    refine ⟨_, List.mem_singleton.mpr rfl, ?_⟩
    rw [hq]
    obtain ⟨e1, e2⟩ := gap_sw (h := h) hc ha hb
    show _ = mxH (fun j => h (sw a b j)) (ch - 1) - mnH (fun j => h (sw a b j)) (ch - 1)
    rw [e1, e2]
  | succ r ih =>
    intro p h pre pre' q hq
    rw [allL] at hq
    obtain ⟨c, hcm, hq2⟩ := List.mem_flatMap.mp hq
    have hcl := List.mem_range.mp hcm
    have e : upd1 (fun j => h (sw a b j)) c (h (sw a b c) + w p) = fun j => (upd1 h (sw a b c) (h (sw a b c) + w p)) (sw a b j) := by
      funext j
      unfold upd1
      by_cases q1 : j = c
      · subst q1; rw [if_pos rfl, if_pos rfl]
      · rw [if_neg q1, if_neg (fun e => q1 (by rw [← sw_sw a b j, e, sw_sw]))]
    rw [e] at hq2
    obtain ⟨q', h1, h2⟩ := ih (p + 1) _ _ (pre' ++ [sw a b c]) q hq2
    refine ⟨q', ?_, h2⟩
    rw [allL]
    exact List.mem_flatMap.mpr ⟨sw a b c, List.mem_range.mpr (sw_lt ha hb hcl), h1⟩
/-! hands add up -/
def smH (h : Nat → Int) : Nat → Int
  | 0 => 0
  | n + 1 => smH h n + h n
def smW (w : Nat → Int) (p : Nat) : Nat → Int
  | 0 => 0
  | r + 1 => w p + smW w (p + 1) r
theorem smH_upd {h : Nat → Int} {c : Nat} {z : Int} : ∀ n, smH (upd1 h c z) n = smH h n + if c < n then z - h c else 0 := by
  intro n
  induction n with
  | zero => rfl
  | succ n ih =>
    rw [smH, smH, ih]
    unfold upd1
    by_cases e : n = c
    · subst e; rw [if_pos rfl, if_neg (by omega), if_pos (by omega)]; omega
    · rw [if_neg e]
      by_cases e2 : c < n
      · rw [if_pos e2, if_pos (by omega)]; omega
      · rw [if_neg e2, if_neg (by omega)]; omega
theorem smH_one {h : Nat → Int} {m : Int} : ∀ n, (∀ j, j < n → m ≤ h j) → (n : Int) * m ≤ smH h n := by
  intro n
  induction n with
  | zero => intro _; rw [smH]; simp
  | succ n ih =>
    intro hh
    have h1 := ih (fun j hj => hh j (by omega))
    have h2 := hh n (by omega)
    rw [smH, show ((n + 1 : Nat) : Int) * m = (n : Int) * m + m by rw [Int.natCast_add, Int.add_mul]; simp]
    omega
/-- one child c set aside -/
theorem smH_but {h : Nat → Int} {m : Int} {c n : Nat} (hc : c < n) (hm : ∀ j, j < n → m ≤ h j) : ((n : Int) - 1) * m + h c ≤ smH h n := by
  have h1 := smH_one (h := upd1 h c m) (m := m) n (fun j hj => by unfold upd1; split; exact Int.le_refl _; exact hm j hj)
  rw [smH_upd, if_pos hc] at h1
  have : ((n : Int) - 1) * m = (n : Int) * m - m := by rw [Int.sub_mul]; simp
  omega
theorem gap_low {w : Nat → Int} {ch c : Nat} (hw : ∀ j, 0 ≤ w j) (hch : 2 ≤ ch) (hc : c < ch) : ∀ (r p : Nat) (h : Nat → Int) (pre : List Nat) (most total : Int), (∀ j, 0 ≤ h j) → most ≤ h c → total = smH h ch + smW w p r → ∀ q ∈ allL w ch r p h pre, 0 ≤ q.1 ∧ most - (total - most) / ((ch : Int) - 1) ≤ q.1 := by
  intro r
  induction r with
  | zero =>
    intro p h pre most total hh hm ht q hq
    have hq := List.mem_singleton.mp hq
    obtain ⟨a1, i, hi, a2⟩ := mxH_is h (ch - 1)
    obtain ⟨b1, j, hj, b2⟩ := mnH_is h (ch - 1)
    have h1 := a1 c (by omega)
    have h2 := b1 c (by omega)
    have h3 := smH_but (h := h) (m := mnH h (ch - 1)) (c := c) (n := ch) hc (fun j hj => b1 j (by omega))
    rw [smW, Int.add_zero] at ht
    rw [hq]
    refine ⟨by show 0 ≤ mxH h (ch - 1) - mnH h (ch - 1); omega, ?_⟩
    show _ ≤ mxH h (ch - 1) - mnH h (ch - 1)
    have h4 : mnH h (ch - 1) ≤ (total - most) / ((ch : Int) - 1) := by
      rw [Int.le_ediv_iff_mul_le (by omega), Int.mul_comm]
      omega
    omega
  | succ r ih =>
    intro p h pre most total hh hm ht q hq
    rw [allL] at hq
    obtain ⟨c', hcm, hq2⟩ := List.mem_flatMap.mp hq
    have hcl := List.mem_range.mp hcm
    refine ih (p + 1) _ _ most total (fun j => ?_) ?_ ?_ q hq2
    · unfold upd1; have := hw p; have := hh j; have := hh c'; split <;> omega
    · unfold upd1; have := hw p; split
      · rename_i e; rw [← e]; omega
      · exact hm
    · rw [smH_upd, if_pos hcl, ht, smW]; omega
theorem deal_all {w : Nat → Int} {ch : Nat} {total : Int} (hw : ∀ j, 0 ≤ w j) (hch : 2 ≤ ch) : ∀ (r p : Nat) (h : Nat → Int) (begun : Nat) (pre : List Nat) (b : SB), (∀ j, 0 ≤ h j) → (∀ j, begun ≤ j → h j = 0) → total = smH h ch + smW w p r → dealS w ch total r p h begun pre b = (allL w ch r p h pre).foldl keepB b := by
  intro r
  induction r with
  | zero => intro p h begun pre b hh hz ht; rfl
  | succ r ih =>
    intro p h begun pre b hh hz ht
    rw [dealS, allL, foldl_fm]
    have hup : ∀ c, ∀ j, 0 ≤ upd1 h c (h c + w p) j := fun c j => by unfold upd1; have := hw p; have := hh j; have := hh c; split <;> omega
    have htt : ∀ c, c < ch → total = smH (upd1 h c (h c + w p)) ch + smW w (p + 1) r := fun c hc => by rw [smH_upd, if_pos hc, ht, smW]; omega
    have step : ∀ c, c < min (begun + 1) ch → ∀ b, (if canBe ch total (h c + w p) b.1 = true then dealS w ch total r (p + 1) (upd1 h c (h c + w p)) (if c = begun then begun + 1 else begun) (pre ++ [c]) b else b) = (allL w ch r (p + 1) (upd1 h c (h c + w p)) (pre ++ [c])).foldl keepB b := fun c hc b => by
      have hcl : c < ch := by omega
      by_cases e : canBe ch total (h c + w p) b.1 = true
      · rw [if_pos e]
        refine ih (p + 1) _ _ _ b (hup c) (fun j hj => ?_) (htt c hcl)
        have hj2 : begun ≤ j ∧ j ≠ c := by split at hj <;> omega
        unfold upd1
        rw [if_neg hj2.2]
        exact hz j hj2.1
      · rw [if_neg e]
        refine (keep_id _ (fun q hq => ?_)).symm
        have hl := gap_low hw hch hcl r (p + 1) (upd1 h c (h c + w p)) (pre ++ [c]) (h c + w p) total (hup c) (by unfold upd1; rw [if_pos rfl]; exact Int.le_refl _) (htt c hcl) q hq
        have e' : ¬ (0 < b.1 ∧ 1 < ch ∧ (h c + w p) - (total - (h c + w p)).tdiv ((ch : Int) - 1) < b.1) := fun q => e (decide_eq_true q)
        have hnn : 0 ≤ total - (h c + w p) := by
          have h5 := smH_but (h := upd1 h c (h c + w p)) (m := 0) (c := c) (n := ch) hcl (fun j _ => hup c j)
          have h6 : upd1 h c (h c + w p) c = h c + w p := by unfold upd1; rw [if_pos rfl]
          have h7 : ∀ (r p : Nat), 0 ≤ smW w p r := by
            intro r
            induction r with
            | zero => intro p; exact Int.le_refl _
            | succ r ih => intro p; have := ih (p + 1); have := hw p; rw [smW]; omega
          have := h7 r (p + 1)
          have := htt c hcl
          rw [h6] at h5
          omega
        rw [td_nn hnn] at e'
        omega
    have main : ∀ (n m : Nat) (b : SB), m + n = ch → begun < m → (∀ q ∈ allL w ch r (p + 1) (upd1 h begun (h begun + w p)) (pre ++ [begun]), b.1 ≤ q.1) → (List.range' m n).foldl (fun b c => (allL w ch r (p + 1) (upd1 h c (h c + w p)) (pre ++ [c])).foldl keepB b) b = b := by
      intro n
      induction n with
      | zero => intro m b _ _ _; rfl
      | succ n ihn =>
        intro m b hmn hb hq
        rw [List.range'_succ, List.foldl_cons]
        have e : (allL w ch r (p + 1) (upd1 h m (h m + w p)) (pre ++ [m])).foldl keepB b = b := by
          refine keep_id _ (fun q hq2 => ?_)
          have e2 : upd1 h m (h m + w p) = fun j => (upd1 h begun (h begun + w p)) (sw begun m j) := by
            funext j
            rw [hz m (by omega), hz begun (by omega)]
            by_cases c1 : j = m
            · have es : sw begun m j = begun := by unfold sw; rw [if_neg (by omega), if_pos c1]
              rw [es, c1]
              unfold upd1
              rw [if_pos rfl, if_pos rfl]
            · by_cases c2 : j = begun
              · have es : sw begun m j = m := by unfold sw; rw [if_pos c2]
                rw [es]
                unfold upd1
                rw [if_neg c1, if_neg (by omega), hz m (by omega), hz j (by omega)]
              · have es : sw begun m j = j := by unfold sw; rw [if_neg c2, if_neg c1]
                rw [es]
                unfold upd1
                rw [if_neg c1, if_neg c2]
          rw [e2] at hq2
          obtain ⟨q', h1, h2⟩ := allL_sw (by omega) (a := begun) (b := m) (by omega) (by omega) r (p + 1) _ _ (pre ++ [begun]) q hq2
          rw [← h2]; exact hq q' h1
        rw [e]
        exact ihn (m + 1) b (by omega) (by omega) hq
    have fst : ∀ (l : List Nat) (b : SB), (∀ c ∈ l, c < min (begun + 1) ch) → l.foldl (fun b c => if canBe ch total (h c + w p) b.1 = true then dealS w ch total r (p + 1) (upd1 h c (h c + w p)) (if c = begun then begun + 1 else begun) (pre ++ [c]) b else b) b = l.foldl (fun b c => (allL w ch r (p + 1) (upd1 h c (h c + w p)) (pre ++ [c])).foldl keepB b) b := by
      intro l
      induction l with
      | nil => intro b _; rfl
      | cons a l ihl =>
        intro b hl
        rw [List.foldl_cons, List.foldl_cons, step a (hl a List.mem_cons_self) b]
        exact ihl _ (fun c hc => hl c (List.mem_cons_of_mem _ hc))
    rw [fst _ _ (fun c hc => List.mem_range.mp hc)]
    by_cases hbc : ch ≤ begun + 1
    · rw [Nat.min_eq_right hbc]
    · rw [Nat.min_eq_left (by omega)]
      have er : List.range ch = List.range (begun + 1) ++ List.range' (begun + 1) (ch - (begun + 1)) := by
        have := List.range'_append_1 (s := 0) (m := begun + 1) (n := ch - (begun + 1))
        rw [Nat.zero_add] at this
        rw [List.range_eq_range', List.range_eq_range', this]
        congr 1
        omega
      rw [er, List.foldl_append]
      refine (main _ (begun + 1) _ (by omega) (by omega) (fun q hq => ?_)).symm
      rw [List.range_succ, List.foldl_append, List.foldl_cons, List.foldl_nil]
      exact (keep_le _ _).2 q hq
