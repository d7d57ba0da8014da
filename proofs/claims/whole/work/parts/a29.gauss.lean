/-! Ways: a power's coefficient counts rows -/
theorem wyN_shift (f : Nat) : ∀ (j m : Nat) (s : Int), wyN (f + 1) j m s = wyN f j m (s - (m : Int)) := by
  intro j
  induction j with
  | zero => intro m s; rw [wyN, wyN]; by_cases h : m = 0 <;> simp [h]
  | succ j ih =>
    intro m s
    cases m with
    | zero => rw [wyN, wyN, ih]
    | succ m =>
      rw [wyN, wyN, ih, ih]
      congr 2
      omega
theorem wyN_shifts : ∀ (f j m : Nat) (s : Int), wyN f j m s = wyN 0 j m (s - (m : Int) * (f : Int)) := by
  intro f
  induction f with
  | zero => intro j m s; simp
  | succ f ih =>
    intro j m s
    rw [wyN_shift, ih]
    congr 1
    have : (m : Int) * ((f + 1 : Nat) : Int) = (m : Int) * (f : Int) + (m : Int) := by rw [Int.natCast_add, Int.mul_add]; simp
    omega
theorem wyN_small (f : Nat) : ∀ (j m : Nat) (s : Int), j < m → wyN f j m s = 0 := by
  intro j
  induction j with
  | zero => intro m s h; rw [wyN, if_neg (by omega)]
  | succ j ih =>
    intro m s h
    cases m with
    | zero => omega
    | succ m => rw [wyN, ih _ _ (by omega), ih _ _ (by omega)]; rfl
theorem wyA (N m : Nat) (s : Int) : wyN 0 (N + 1) (m + 1) s = wyN 0 N (m + 1) s + wyN 0 N m (s - (N : Int)) := by
  rw [wyN]; congr 2; simp
theorem wyB (N m : Nat) (s : Int) : wyN 0 (N + 1) (m + 1) s = wyN 0 N (m + 1) (s - (m : Int) - 1) + wyN 0 N m (s - (m : Int)) := by
  rw [wyN_first, wyN_shift, wyN_shift]
  congr 2
  · omega
  · simp
theorem wyN_sym : ∀ (N m : Nat) (s : Int), wyN 0 N m s = wyN 0 N m ((m : Int) * ((N : Int) - 1) - s) := by
  intro N
  induction N with
  | zero =>
    intro m s
    rw [wyN, wyN]
    by_cases h : m = 0
    · subst h; by_cases h2 : s = 0
      · subst h2; simp
      · rw [if_neg (fun q => h2 q.2), if_neg (fun q => h2 (by have := q.2; simp at this; omega))]
    · rw [if_neg (fun q => h q.1), if_neg (fun q => h q.1)]
  | succ N ih =>
    intro m s
    cases m with
    | zero => rw [wyN_zero, wyN_zero]; by_cases h : s = 0
              · subst h; simp
              · rw [if_neg h, if_neg (by simp; omega)]
    | succ m =>
      rw [wyA, wyB, ih (m + 1) s, ih m (s - (N : Int))]
      have e1 : ((m + 1 : Nat) : Int) * (((N + 1 : Nat) : Int) - 1) - s - (m : Int) - 1 = ((m + 1 : Nat) : Int) * ((N : Int) - 1) - s := by
        rw [show ((m + 1 : Nat) : Int) = (m : Int) + 1 by omega, show ((N + 1 : Nat) : Int) - 1 = (N : Int) by omega, Int.mul_sub, Int.mul_one]; omega
      have e2 : ((m + 1 : Nat) : Int) * (((N + 1 : Nat) : Int) - 1) - s - (m : Int) = (m : Int) * ((N : Int) - 1) - (s - (N : Int)) := by
        rw [show ((m + 1 : Nat) : Int) = (m : Int) + 1 by omega, show ((N + 1 : Nat) : Int) - 1 = (N : Int) by omega, Int.mul_sub, Int.mul_one, Int.add_mul, Int.one_mul]; omega
      rw [e1, e2]
theorem wyN_big {N m : Nat} {s : Int} (h : (m : Int) * ((N : Int) - 1) < s) : wyN 0 N m s = 0 := by
  rw [wyN_sym]; exact wyN_neg _ _ _ _ (by omega)
/-- 0 + 1 + .. + (m - 1) -/
def tri : Nat → Int
  | 0 => 0
  | m + 1 => tri m + (m : Int)
theorem tri_e : ∀ m : Nat, (m : Int) * ((m : Int) - 1) / 2 = tri m ∧ (m : Int) * ((m : Int) - 1) = 2 * tri m := by
  intro m
  induction m with
  | zero => decide
  | succ m ih =>
    have e : ((m + 1 : Nat) : Int) * (((m + 1 : Nat) : Int) - 1) = (m : Int) * ((m : Int) - 1) + 2 * (m : Int) := by
      rw [show ((m + 1 : Nat) : Int) = (m : Int) + 1 by omega]; grind
    rw [tri, e]
    omega
theorem wyN_co : ∀ (N k c : Nat) (s : Int), k + c = N → wyN 0 N k s = wyN 0 N c (tri N - s) := by
  intro N
  induction N with
  | zero =>
    intro k c s h
    obtain rfl : k = 0 := by omega
    obtain rfl : c = 0 := by omega
    rw [wyN, wyN, tri]
    by_cases h : s = 0
    · subst h; rfl
    · rw [if_neg (fun q => h q.2), if_neg (fun q => h (by omega))]
  | succ N ih =>
    intro k c s h
    rw [tri]
    cases k with
    | zero =>
      obtain rfl : c = N + 1 := by omega
      rw [wyA, wyN_small 0 N (N + 1) _ (by omega), wyN_zero]
      have := ih 0 N s (by omega)
      rw [wyN_zero] at this
      rw [this, show tri N + (N : Int) - s - (N : Int) = tri N - s by omega]; omega
    | succ k =>
      cases c with
      | zero =>
        obtain rfl : k = N := by omega
        rw [wyA, wyN_small 0 k (k + 1) _ (by omega), ih k 0 (s - (k : Int)) (by omega), wyN_zero, wyN_zero]
        by_cases h2 : s = tri k + (k : Int)
        · rw [if_pos (by omega), if_pos (by omega)]; rfl
        · rw [if_neg (by omega), if_neg (by omega)]; rfl
      | succ c =>
        rw [wyA N k, wyA N c, ih (k + 1) c s (by omega), ih k (c + 1) (s - (N : Int)) (by omega)]
        rw [show tri N + (N : Int) - s - (N : Int) = tri N - s by omega, show tri N - (s - (N : Int)) = tri N + (N : Int) - s by omega]
        omega
/-- rows of m leaves that are worth i more than the least -/
def gN (N m : Nat) (i : Int) : Int := wyN 0 N m (i + tri m)
theorem gA (N m : Nat) (i : Int) : gN (N + 1) (m + 1) i = gN N (m + 1) i + gN N m (i - (N : Int) + (m : Int)) := by
  unfold gN
  rw [wyA, tri]
  congr 2
  omega
theorem gB (N m : Nat) (i : Int) : gN (N + 1) (m + 1) i = gN N (m + 1) (i - (m : Int) - 1) + gN N m i := by
  unfold gN
  rw [wyB, tri]
  congr 2 <;> omega
theorem gN_neg : ∀ (N m : Nat) (i : Int), i < 0 → gN N m i = 0 := by
  intro N
  induction N with
  | zero =>
    intro m i h
    unfold gN
    rw [wyN]
    by_cases h2 : m = 0
    · subst h2; rw [if_neg (by rw [tri]; omega)]
    · rw [if_neg (fun q => h2 q.1)]
  | succ N ih =>
    intro m i h
    cases m with
    | zero => unfold gN; exact wyN_neg _ _ _ _ (by rw [tri]; omega)
    | succ m =>
      rw [gA, ih _ _ h]
      rcases Nat.lt_or_ge N m with c | c
      · unfold gN; rw [wyN_small 0 N m _ c]; rfl
      · rw [ih _ _ (by omega)]; rfl
theorem gC (N m : Nat) (i : Int) : gN (N + 1) (m + 1) i = gN N m i - gN N m (i - (N : Int) - 1) + gN (N + 1) (m + 1) (i - (m : Int) - 1) := by
  have h1 := gB N m i
  have h2 := gA N m (i - (m : Int) - 1)
  rw [show i - (m : Int) - 1 - (N : Int) + (m : Int) = i - (N : Int) - 1 by omega] at h2
  omega
theorem coS_g (m : Nat) : ∀ (t i : Nat), coS m t i = gN (m + t) t (i : Int) := by
  intro t
  induction t with
  | zero =>
    intro i
    unfold gN
    rw [wyN_zero, coS, tri]
    by_cases h : i = 0
    · subst h; rfl
    · show (if i = 0 then (1 : Int) else 0) = _; rw [if_neg h, if_neg (by omega)]
  | succ t ih =>
    intro i
    induction i using Nat.strongRecOn with
    | _ i ihi =>
      show divS (t + 1) (mulS (m + t + 1) (coS m t)) i = _
      rw [divS, show m + (t + 1) = (m + t) + 1 by omega, gC]
      have e1 : mulS (m + t + 1) (coS m t) i = gN (m + t) t (i : Int) - gN (m + t) t ((i : Int) - ((m + t : Nat) : Int) - 1) := by
        unfold mulS
        rw [ih]
        split
        · rw [ih]; congr 2; omega
        · rw [gN_neg (m + t) t ((i : Int) - ((m + t : Nat) : Int) - 1) (by omega)]; omega
      rw [e1]
      by_cases h : t + 1 ≤ i ∧ 0 < t + 1
      · rw [dif_pos h]
        have := ihi (i - (t + 1)) (by omega)
        have e2 : divS (t + 1) (mulS (m + t + 1) (coS m t)) (i - (t + 1)) = gN (m + t + 1) (t + 1) (((i - (t + 1) : Nat) : Nat) : Int) := by
          rw [show m + t + 1 = m + (t + 1) by omega]; exact this
        rw [e2]
        congr 2
        omega
      · rw [dif_neg h, gN_neg (m + t + 1) (t + 1) ((i : Int) - (t : Int) - 1) (by omega)]; omega
theorem gN_sym {k c : Nat} (i : Int) : gN (k + c) k i = gN (k + c) k ((k : Int) * (c : Int) - i) := by
  unfold gN
  rw [wyN_sym]
  congr 1
  have := (tri_e k).2
  have e : (k : Int) * (((k + c : Nat) : Int) - 1) = (k : Int) * ((k : Int) - 1) + (k : Int) * (c : Int) := by rw [show ((k + c : Nat) : Int) - 1 = ((k : Int) - 1) + (c : Int) by omega, Int.mul_add]
  omega
theorem tri_add (k c : Nat) : tri (k + c) = tri k + tri c + (k : Int) * (c : Int) := by
  have h1 := (tri_e k).2
  have h2 := (tri_e c).2
  have h3 := (tri_e (k + c)).2
  have e : ((k + c : Nat) : Int) * (((k + c : Nat) : Int) - 1) = (k : Int) * ((k : Int) - 1) + (c : Int) * ((c : Int) - 1) + 2 * ((k : Int) * (c : Int)) := by
    rw [show ((k + c : Nat) : Int) = (k : Int) + (c : Int) by omega]; grind
  omega
theorem gN_co {k c : Nat} (i : Int) : gN (k + c) k i = gN (k + c) c ((k : Int) * (c : Int) - i) := by
  unfold gN
  rw [wyN_co (k + c) k c _ rfl]
  congr 1
  have := tri_add k c
  omega
theorem rows_wy {k n : Nat} {t : Int} (hn : n ≤ 60) : rowsS (k : Nat) (n : Nat) t = wyN 0 n k t := by
  unfold rowsS
  rcases Nat.lt_or_ge n k with c | c
  · rw [if_pos (by omega), wyN_small 0 n k _ c]
  · obtain ⟨r, rfl⟩ : ∃ r, n = k + r := ⟨n - k, by omega⟩
    rw [if_neg (by omega), (tri_e k).1, show ((k + r : Nat) : Int) - (k : Int) = (r : Int) by omega]
    have hw : wyN 0 (k + r) k t = gN (k + r) k (t - tri k) := by unfold gN; congr 1; omega
    rw [hw]
    generalize t - tri k = i
    have hkr : 0 ≤ (k : Int) * (r : Int) := Int.mul_nonneg (by omega) (by omega)
    by_cases h : i < 0 ∨ (k : Int) * (r : Int) < i
    · rw [if_pos h]
      rcases h with h | h
      · rw [gN_neg _ _ _ h]
      · rw [gN_sym, gN_neg _ _ _ (by omega)]
    · rw [if_neg h, coS_g]
      have hi : ((min i ((k : Int) * (r : Int) - i)).toNat : Int) = min i ((k : Int) * (r : Int) - i) := by omega
      rw [hi]
      rcases Nat.lt_or_ge r k with q | q
      · have e1 : (min (k : Int) (r : Int)).toNat = r := by omega
        have e2 : ((k + r : Nat) : Int).toNat - r + r = k + r := by omega
        rw [e1, e2]
        rcases Int.lt_or_le i ((k : Int) * (r : Int) - i) with z | z
        · rw [Int.min_eq_left (by omega), gN_co i]
          rw [show k + r = r + k by omega, gN_sym, show (k : Int) * (r : Int) = (r : Int) * (k : Int) by rw [Int.mul_comm]]
        · rw [Int.min_eq_right (by omega), gN_co i]
      · have e1 : (min (k : Int) (r : Int)).toNat = k := by omega
        have e2 : ((k + r : Nat) : Int).toNat - k + k = k + r := by omega
        rw [e1, e2]
        rcases Int.lt_or_le i ((k : Int) * (r : Int) - i) with z | z
        · rw [Int.min_eq_left (by omega)]
        · rw [Int.min_eq_right (by omega), ← gN_sym]
