/-! Figures: what is printed on 1 .. n -/
theorem p_lt {f n pw : Int} (hp : 1 ≤ pw) (hn : 0 ≤ n) (h : n < pw) : n / pw = 0 ∧ n % pw = n := ⟨Int.ediv_eq_zero_of_lt hn h, Int.emod_eq_of_lt hn h⟩
theorem div_uni {n pw q r : Int} (hp : 1 ≤ pw) (h : n = pw * q + r) (hr : 0 ≤ r ∧ r < pw) : n / pw = q ∧ n % pw = r := by
  subst h
  constructor
  · rw [Int.add_comm, Int.add_mul_ediv_left _ _ (by omega), Int.ediv_eq_zero_of_lt hr.1 hr.2]; omega
  · rw [Int.add_comm, Int.add_mul_emod_self_left, Int.emod_eq_of_lt hr.1 hr.2]
theorem pAt_up {f n pw : Int} (hf : 0 ≤ f ∧ f ≤ 9) (hp : 1 ≤ pw) (hn : pw ≤ n) : pAt f (n + 1) pw = pAt f n pw + if (n + 1) / pw % 10 = f then 1 else 0 := by
  have h1 := Int.mul_ediv_add_emod n pw
  have h2 := Int.emod_nonneg n (show pw ≠ 0 by omega)
  have h3 := Int.emod_lt_of_pos n (show 0 < pw by omega)
  have hq1 : 1 ≤ n / pw := by
    have := Int.ediv_nonneg (show 0 ≤ n by omega) (show 0 ≤ pw by omega)
    rcases (show n / pw = 0 ∨ 1 ≤ n / pw by omega) with c | c
    · rw [c] at h1; simp at h1; omega
    · exact c
  generalize hq : n / pw = q at *
  generalize hr : n % pw = r at *
  by_cases c : r + 1 < pw
  · obtain ⟨e1, e2⟩ := div_uni (n := n + 1) (q := q) (r := r + 1) hp (by omega) ⟨by omega, c⟩
    unfold pAt
    rw [hq, hr, e1, e2]
    by_cases k1 : f < q % 10
    · rw [if_pos k1, if_pos k1, if_neg (show ¬ q % 10 = f by omega)]; omega
    · rw [if_neg k1, if_neg k1]
      by_cases k2 : q % 10 = f
      · rw [if_pos k2, if_pos k2, if_pos k2]; omega
      · rw [if_neg k2, if_neg k2, if_neg k2]; omega
  · have hm : pw * (q + 1) = pw * q + pw := by rw [Int.mul_add, Int.mul_one]
    obtain ⟨e1, e2⟩ := div_uni (n := n + 1) (q := q + 1) (r := 0) hp (by omega) ⟨by omega, by omega⟩
    unfold pAt
    rw [hq, hr, e1, e2]
    by_cases d : q % 10 = 9
    · have a1 : (q + 1) % 10 = 0 := by omega
      have a2 : (q + 1) / 10 = q / 10 + 1 := by omega
      rw [a1, a2, d, if_neg (show ¬ f < 0 by omega)]
      have e3 : (q / 10 + 1 - (if f = 0 then 1 else 0)) * pw = (q / 10 - (if f = 0 then 1 else 0)) * pw + pw := by
        rw [show q / 10 + 1 - (if f = 0 then (1 : Int) else 0) = (q / 10 - (if f = 0 then 1 else 0)) + 1 by omega, Int.add_mul, Int.one_mul]
      have e4 : (q / 10 - (if f = 0 then 1 else 0) + 1) * pw = (q / 10 - (if f = 0 then 1 else 0)) * pw + pw := by rw [Int.add_mul, Int.one_mul]
      rw [e3, e4]
      generalize (q / 10 - (if f = 0 then (1 : Int) else 0)) * pw = X
      by_cases k1 : f < 9
      · rw [if_pos k1]
        by_cases k2 : (0 : Int) = f
        · rw [if_pos k2, if_pos k2]; omega
        · rw [if_neg k2, if_neg k2]; omega
      · rw [if_neg k1, if_neg (show ¬ (0 : Int) = f by omega), if_pos (show (9 : Int) = f by omega), if_neg (show ¬ (0 : Int) = f by omega)]; omega
    · have a1 : (q + 1) % 10 = q % 10 + 1 := by omega
      have a2 : (q + 1) / 10 = q / 10 := by omega
      rw [a1, a2]
      have e4 : (q / 10 - (if f = 0 then 1 else 0) + 1) * pw = (q / 10 - (if f = 0 then 1 else 0)) * pw + pw := by rw [Int.add_mul, Int.one_mul]
      rw [e4]
      generalize (q / 10 - (if f = 0 then (1 : Int) else 0)) * pw = X
      by_cases k1 : f < q % 10
      · rw [if_pos k1, if_pos (by omega), if_neg (by omega)]; omega
      · rw [if_neg k1]
        by_cases k2 : q % 10 = f
        · rw [if_pos k2, if_pos (by omega), if_neg (by omega)]; omega
        · rw [if_neg k2]
          by_cases k3 : q % 10 + 1 = f
          · rw [if_neg (by omega), if_pos k3, if_pos k3]; omega
          · rw [if_neg (by omega), if_neg k3, if_neg k3]; omega
theorem pAt_one {f pw : Int} (hf : 0 ≤ f ∧ f ≤ 9) (hp : 1 ≤ pw) : pAt f pw pw = if pw / pw % 10 = f then 1 else 0 := by
  have e1 : pw / pw = 1 := Int.ediv_self (by omega)
  have e2 : pw % pw = 0 := Int.emod_self
  unfold pAt
  rw [e1, e2]
  simp only [show (1 : Int) % 10 = 1 by decide, show (1 : Int) / 10 = 0 by decide]
  by_cases k1 : f = 0
  · subst k1; simp
  · rw [if_neg (by omega)]
    by_cases k2 : (1 : Int) = f
    · rw [if_pos k2, if_pos k2, if_neg k1]; simp
    · rw [if_neg k2, if_neg k2, if_neg k1]; simp
def tenC (f m : Int) : Nat → Int → Int
  | 0, _ => 0
  | k + 1, pw => if m < pw then 0 else (if m / pw % 10 = f then 1 else 0) + tenC f m k (pw * 10)
theorem prC_0 {f n : Int} : ∀ (k : Nat) (pw : Int), n < pw → prC f n k pw = 0 := by
  intro k pw h
  cases k with
  | zero => rfl
  | succ k => rw [prC, if_pos h]
theorem tenC_0 {f n : Int} : ∀ (k : Nat) (pw : Int), n < pw → tenC f n k pw = 0 := by
  intro k pw h
  cases k with
  | zero => rfl
  | succ k => rw [tenC, if_pos h]
theorem prC_up {f n : Int} (hf : 0 ≤ f ∧ f ≤ 9) (hn : 0 ≤ n) : ∀ (k : Nat) (pw : Int), 1 ≤ pw → prC f (n + 1) k pw = prC f n k pw + tenC f (n + 1) k pw := by
  intro k
  induction k with
  | zero => intro pw _; rfl
  | succ k ih =>
    intro pw hp
    have e10 : ∀ m, prT f m pw = pAt f m pw := fun m => by unfold prT; rw [if_neg (by omega)]
    rw [prC, prC, tenC, e10, e10]
    by_cases h1 : n + 1 < pw
    · rw [if_pos h1, if_pos (by omega), if_pos h1]; rfl
    · rw [if_neg h1, if_neg h1]
      by_cases h2 : n < pw
      · have e : n + 1 = pw := by omega
        rw [if_pos h2, e, prC_0 k (pw * 10) (by omega), tenC_0 k (pw * 10) (by omega), pAt_one hf hp]; omega
      · rw [if_neg h2, ih (pw * 10) (by omega), pAt_up hf hp (by omega)]; omega
theorem ten_dgc {f m : Int} (hf : f ≠ 10) (hm : 0 ≤ m) : ∀ (k : Nat) (pw : Int), 1 ≤ pw → tenC f m k pw = dgc f k (m / pw) := by
  intro k
  induction k with
  | zero => intro pw _; rfl
  | succ k ih =>
    intro pw hp
    have hd := Int.ediv_nonneg hm (show 0 ≤ pw by omega)
    rw [tenC, dgc]
    by_cases h : m < pw
    · rw [if_pos h, Int.ediv_eq_zero_of_lt hm h, if_pos (by decide)]
    · have h1 : 1 ≤ m / pw := by
        rcases (show m / pw = 0 ∨ 1 ≤ m / pw by omega) with c | c
        · have h1 := Int.mul_ediv_add_emod m pw
          have h3 := Int.emod_lt_of_pos m (show 0 < pw by omega)
          rw [c] at h1; simp at h1; omega
        · exact c
      rw [if_neg h, if_neg (show ¬ m / pw ≤ 0 by omega), ih (pw * 10) (by omega), ← Int.ediv_ediv_of_nonneg (show 0 ≤ pw by omega)]
      by_cases c : m / pw % 10 = f
      · rw [if_pos c, if_pos (Or.inr c)]
      · rw [if_neg c, if_neg (fun q => by rcases q with q | q; exact hf q; exact c q)]
theorem dgc_more {f : Int} : ∀ (k : Nat) (m : Int), 0 ≤ m → m < 10 ^ k → dgc f k m = dgc f (k + 1) m := by
  intro k
  induction k with
  | zero => intro m h0 h; have : m = 0 := by simp at h; omega
            subst this; rfl
  | succ k ih =>
    intro m h0 h
    rw [dgc, dgc]
    rw [Int.pow_succ] at h
    rw [ih (m / 10) (by omega) (by omega)]
/-- what is printed, counted one by one -/
theorem prC_sS {f : Int} (hf : 0 ≤ f ∧ f ≤ 9) : ∀ n : Nat, n ≤ 1000000000 → prC f (n : Int) 18 1 = sS f n := by
  intro n
  induction n with
  | zero => intro _; exact prC_0 18 1 (by decide)
  | succ n ih =>
    intro h
    have e : ((n + 1 : Nat) : Int) = (n : Int) + 1 := by omega
    have e18 : (10 : Int) ^ 18 = 1000000000000000000 := by decide
    rw [e, prC_up hf (by omega) 18 1 (by decide), ih (by omega), ten_dgc (by omega) (by omega) 18 1 (by decide), Int.ediv_one, dgc_more 18 _ (by omega) (by rw [e18]; omega), sS_succ]
