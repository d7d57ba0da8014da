/-! Figures -/
theorem td_nn {x y : Int} (h : 0 ≤ x) : Int.tdiv x y = x / y := Int.tdiv_eq_ediv_of_nonneg h
theorem tm_nn {x y : Int} (h : 0 ≤ x) : Int.tmod x y = x % y := Int.tmod_eq_emod_of_nonneg h
/-- how often a figure (10: any) is written in n, k places at most -/
def dgc (f : Int) : Nat → Int → Int
  | 0, _ => 0
  | k + 1, n => if n ≤ 0 then 0 else (if f = 10 ∨ n % 10 = f then 1 else 0) + dgc f k (n / 10)
theorem dgc_nn (f : Int) : ∀ (k : Nat) (n : Int), 0 ≤ dgc f k n ∧ dgc f k n ≤ k := by
  intro k
  induction k with
  | zero => intro n; simp [dgc]
  | succ k ih =>
    intro n
    have := ih (n / 10)
    unfold dgc
    split
    · omega
    · split <;> omega
theorem dgc_neg (f : Int) (k : Nat) {n : Int} (h : n ≤ 0) : dgc f k n = 0 := by
  cases k with
  | zero => rfl
  | succ k => unfold dgc; rw [if_pos h]
theorem c_inNumber {κ : Kx} (hκ : KOK κ) {d : Nat} {f n : Int} {G : Wd} (hf : R32 f) (hn : R64 n) : Ct κ MX3_inNumber d 0 0 [VI f, VL n] (Wm G) (keepG G (VI (dgc f 19 n))) noX := by
  refine Ct_of hκ kX3_inNumber.1 rfl (Nat.le_of_ble_eq_true rfl) (ls := [some (VI f), some (VL n), none, none, none, none, none]) rfl (fun μ => ?_)
  refine V_ex sX3_inNumber_0 (by rfl) (by exact trivial) ?_
  suffices L : ∀ (k : Nat) (rest many place : Int), place = 19 - (k : Int) → k ≤ 19 → R64 rest → many + dgc f k rest = dgc f 19 n → V κ MX3_inNumber (rmD d 0 0) (keepG G (VI (dgc f 19 n))) noX 0 0 μ 0 0 (Wm G) 8 [some (VI f), some (VL n), none, some (VI many), some (VL rest), none, some (VI place)] [] from L 19 n 0 0 (by omega) (by omega) hn (by omega)
  intro k
  induction k with
  | zero =>
    intro rest many place hp hk hr he
    refine V_ex sX3_inNumber_8 (by rfl) (by exact trivial) ?_
    refine V_icmpge dX3_inNumber_12 (tgt := 57) (by decide) (by unfold R32; constructor <;> omega) (fun q => ?_) (fun q => ?_)
    · refine V_ex sX3_inNumber_57 (by rfl) (by exact trivial) ?_
      refine V_iret dX3_inNumber_58 rfl (by decide) ⟨by rw [← he]; simp [dgc], rfl⟩
    · omega
  | succ k ih =>
    intro rest many place hp hk hr he
    have stop : rest ≤ 0 → V κ MX3_inNumber (rmD d 0 0) (keepG G (VI (dgc f 19 n))) noX 0 0 μ 0 0 (Wm G) 57 [some (VI f), some (VL n), none, some (VI many), some (VL rest), none, some (VI place)] [] := fun h => by
      rw [dgc_neg f _ h] at he
      refine V_ex sX3_inNumber_57 (by rfl) (by exact trivial) ?_
      refine V_iret dX3_inNumber_58 rfl (by decide) ⟨by rw [← he]; simp, rfl⟩
    refine V_ex sX3_inNumber_8 (by rfl) (by exact trivial) ?_
    refine V_icmpge dX3_inNumber_12 (tgt := 57) (by decide) (by unfold R32; constructor <;> omega) (fun q => ?_) (fun q => ?_)
    · omega
    · refine V_ex sX3_inNumber_15 (by rfl) (by exact ⟨hr, r64_0⟩) ?_
      refine V_lifle dX3_inNumber_19 (tgt := 57) (by decide) (fun q2 => ?_) (fun q2 => ?_)
      · exact stop q2
      · have next : ∀ m2, m2 = many + (if f = 10 ∨ rest % 10 = f then 1 else 0) → V κ MX3_inNumber (rmD d 0 0) (keepG G (VI (dgc f 19 n))) noX 0 0 μ 0 0 (Wm G) 43 [some (VI f), some (VL n), none, some (VI m2), some (VL rest), none, some (VI place)] [] := fun m2 hm => by
          refine V_ex sX3_inNumber_43 (by rfl) (by exact ⟨hr, by unfold R64; omega, by decide⟩) ?_
          refine V_goto dX3_inNumber_54 (tgt := 8) (by decide) ?_
          rw [td_nn (by omega)]
          refine ih _ _ _ (by omega) (by omega) (by unfold R64 at *; omega) ?_
          unfold dgc at he
          rw [if_neg (by omega)] at he
          rw [← he, hm]; omega
        refine V_ex sX3_inNumber_22 (by rfl) (by exact trivial) ?_
        refine V_icmpeq dX3_inNumber_25 (tgt := 40) (by decide) (by exact ⟨hf, by unfold R32; omega⟩) (fun q3 => ?_) (fun q3 => ?_)
        · refine V_ex sX3_inNumber_40 (by rfl) (by exact trivial) ?_
          exact next _ (by rw [if_pos (Or.inl q3)])
        · refine V_ex sX3_inNumber_28 (by rfl) (by exact ⟨⟨hr, by unfold R64; omega, by decide⟩, hf, by unfold R64; rw [tm_nn (by omega)]; omega, by unfold R64; unfold R32 at hf; omega⟩) ?_
          rw [tm_nn (by omega)]
          refine V_lifne dX3_inNumber_37 (tgt := 43) (by decide) (fun q4 => ?_) (fun q4 => ?_)
          · exact next _ (by rw [if_neg (by omega)]; omega)
          · refine V_ex sX3_inNumber_40 (by rfl) (by exact trivial) ?_
            exact next _ (by rw [if_pos (Or.inr q4)])
