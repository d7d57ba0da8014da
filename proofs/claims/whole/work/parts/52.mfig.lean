/-! TornLeavesModel: figures -/
set_option maxRecDepth 100000 in
set_option maxHeartbeats 4000000 in
theorem c_mfiguresIn {κ : Kx} (hκ : KOK κ) {d : Nat} {v f : Int} {G : Wd} (hv : R64 v) (hf : R32 f) : Ct κ MX12_figuresIn d 0 0 [VL v, VI f] (Wm G) (keepG G (VI (dgc f 19 v))) noX := by
  refine Ct_of hκ kX12_figuresIn.1 rfl (Nat.le_of_ble_eq_true rfl) (ls := [some (VL v), none, some (VI f), none, none, none]) rfl (fun μ => ?_)
  have hf64 : R64 f := r32_64 hf
  refine V_ex sX12_figuresIn_0 (by rfl) (by first | exact trivial | exact Or.inl trivial | exact Or.inr rfl | exact Or.inl rfl) ?_
  suffices L : ∀ (k : Nat) (left acc : Int), k ≤ 19 → R64 left → left < 10 ^ k → acc + dgc f k left = dgc f 19 v → V κ MX12_figuresIn (rmD d 0 0) (keepG G (VI (dgc f 19 v))) noX 0 0 μ 0 0 (Wm G) 5 [some (VL v), none, some (VI f), some (VI acc), some (VL left), none] [] from L 19 v 0 (by omega) hv (by unfold R64 at hv; omega) (by omega)
  intro k
  have fin : ∀ (k : Nat) (left acc : Int), left ≤ 0 → acc + dgc f k left = dgc f 19 v → V κ MX12_figuresIn (rmD d 0 0) (keepG G (VI (dgc f 19 v))) noX 0 0 μ 0 0 (Wm G) 49 [some (VL v), none, some (VI f), some (VI acc), some (VL left), none] [] := fun k left acc h he => by
    rw [dgc_neg f k h] at he
    refine V_ex sX12_figuresIn_49 (by rfl) (by first | exact trivial | exact Or.inr rfl | exact Or.inl rfl | (simp only [ob, obA, R32, R64] at *; omega) | (simp only [ob, obA, R32, R64] at *; and_intros <;> omega)) ?_
    refine V_iret dX12_figuresIn_50 rfl (by decide) ⟨by rw [← he, Int.add_zero], rfl⟩
  induction k with
  | zero =>
    intro left acc hk hr hl he
    refine V_ex sX12_figuresIn_5 (by rfl) (by first | exact trivial | exact Or.inr rfl | exact Or.inl rfl | (simp only [ob, obA, R32, R64] at *; omega) | (simp only [ob, obA, R32, R64] at *; and_intros <;> omega)) ?_
    refine V_lifle dX12_figuresIn_9 (tgt := 49) (by decide) (fun q9 => ?_) (fun q9 => ?_)
    · exact fin 0 _ _ q9 he
    · omega
  | succ k ih =>
    intro left acc hk hr hl he
    rw [Int.pow_succ] at hl
    have next : ∀ z, 0 < left → z = (if f = 10 ∨ left % 10 = f then 1 else 0) → V κ MX12_figuresIn (rmD d 0 0) (keepG G (VI (dgc f 19 v))) noX 0 0 μ 0 0 (Wm G) 36 [some (VL v), none, some (VI f), some (VI acc), some (VL left), none] [VI z, VI acc] := fun z h0 hz => by
      refine V_ex sX12_figuresIn_36 (by rfl) (by exact ⟨hr, by unfold R64; omega, by decide⟩) ?_
      rw [td_nn (by omega)]
      refine V_goto dX12_figuresIn_46 (tgt := 5) (by decide) ?_
      refine ih _ _ (by omega) (by unfold R64 at *; omega) (by omega) ?_
      rw [← he, dgc, if_neg (by omega), hz]; omega
    refine V_ex sX12_figuresIn_5 (by rfl) (by first | exact trivial | exact Or.inr rfl | exact Or.inl rfl | (simp only [ob, obA, R32, R64] at *; omega) | (simp only [ob, obA, R32, R64] at *; and_intros <;> omega)) ?_
    refine V_lifle dX12_figuresIn_9 (tgt := 49) (by decide) (fun q9 => ?_) (fun q9 => ?_)
    · exact fin _ _ _ q9 he
    · refine V_ex sX12_figuresIn_12 (by rfl) (by first | exact trivial | exact Or.inr rfl | exact Or.inl rfl | (simp only [ob, obA, R32, R64] at *; omega) | (simp only [ob, obA, R32, R64] at *; and_intros <;> omega)) ?_
      refine V_icmpeq dX12_figuresIn_16 (tgt := 31) (by decide) (by simp only [R32, R64] at *; omega) (fun q16 => ?_) (fun q16 => ?_)
      · refine V_ex sX12_figuresIn_31 (by rfl) (by first | exact trivial | exact Or.inr rfl | exact Or.inl rfl | (simp only [ob, obA, R32, R64] at *; omega) | (simp only [ob, obA, R32, R64] at *; and_intros <;> omega)) ?_
        refine V_goto dX12_figuresIn_32 (tgt := 36) (by decide) ?_
        exact next _ q9 (by rw [if_pos (Or.inl q16)])
      · refine V_ex sX12_figuresIn_19 (by rfl) (by rw [tm_nn (by omega)]; exact ⟨⟨hr, by unfold R64; omega, by decide⟩, hf, by unfold R64; omega, hf64⟩) ?_
        rw [tm_nn (by omega)]
        refine V_lifne dX12_figuresIn_28 (tgt := 35) (by decide) (fun q28 => ?_) (fun q28 => ?_)
        · refine V_ex sX12_figuresIn_35 (by rfl) (by first | exact trivial | exact Or.inr rfl | exact Or.inl rfl | (simp only [ob, obA, R32, R64] at *; omega) | (simp only [ob, obA, R32, R64] at *; and_intros <;> omega)) ?_
          exact next _ q9 (by rw [if_neg (by omega)])
        · refine V_ex sX12_figuresIn_31 (by rfl) (by first | exact trivial | exact Or.inr rfl | exact Or.inl rfl | (simp only [ob, obA, R32, R64] at *; omega) | (simp only [ob, obA, R32, R64] at *; and_intros <;> omega)) ?_
          refine V_goto dX12_figuresIn_32 (tgt := 36) (by decide) ?_
          exact next _ q9 (by rw [if_pos (Or.inr q28)])
set_option maxRecDepth 100000 in
set_option maxHeartbeats 4000000 in
theorem c_mwithoutFigure {κ : Kx} (hκ : KOK κ) {d : Nat} {f n : Int} {G : Wd} (hf : R32 f) (hn : R64 n) (hn2 : n < 9 ^ 18) : Ct κ MX12_withoutFigure d 0 0 [VI f, VL n] (Wm G) (keepG G (VL (swC f 18 n 1))) noX := by
  refine Ct_of hκ kX12_withoutFigure.1 rfl (Nat.le_of_ble_eq_true rfl) (ls := [some (VI f), some (VL n), none, none, none, none, none, none, none, none, none]) rfl (fun μ => ?_)
  have hf64 : R64 f := r32_64 hf
  refine V_ex sX12_withoutFigure_0 (by rfl) (by first | exact trivial | exact Or.inl trivial | exact Or.inr rfl | exact Or.inl rfl) ?_
  suffices L : ∀ (k : Nat) (left num pw : Int) (x y : Option Vl), k ≤ 18 → R64 left → left < 9 ^ k → num + swC f k left pw = swC f 18 n 1 → V κ MX12_withoutFigure (rmD d 0 0) (keepG G (VL (swC f 18 n 1))) noX 0 0 μ 0 0 (Wm G) 8 [some (VI f), some (VL n), none, some (VL num), none, some (VL pw), none, some (VL left), none, x, y] [] from L 18 n 0 1 _ _ (by omega) hn hn2 (by omega)
  intro k
  have swC_neg : ∀ (k : Nat) (left pw : Int), left ≤ 0 → swC f k left pw = 0 := fun k left pw h => by
    cases k with
    | zero => rfl
    | succ k => rw [swC, if_pos h]
  have fin : ∀ (k : Nat) (left num pw : Int) (x y : Option Vl), left ≤ 0 → num + swC f k left pw = swC f 18 n 1 → V κ MX12_withoutFigure (rmD d 0 0) (keepG G (VL (swC f 18 n 1))) noX 0 0 μ 0 0 (Wm G) 65 [some (VI f), some (VL n), none, some (VL num), none, some (VL pw), none, some (VL left), none, x, y] [] := fun k left num pw x y h he => by
    rw [swC_neg k left pw h] at he
    refine V_ex sX12_withoutFigure_65 (by rfl) (by first | exact trivial | exact Or.inr rfl | exact Or.inl rfl | (simp only [ob, obA, R32, R64] at *; omega) | (simp only [ob, obA, R32, R64] at *; and_intros <;> omega)) ?_
    refine V_lret dX12_withoutFigure_66 rfl (by decide) ⟨by rw [← he, Int.add_zero], rfl⟩
  induction k with
  | zero =>
    intro left num pw x y hk hr hl he
    refine V_ex sX12_withoutFigure_8 (by rfl) (by first | exact trivial | exact Or.inr rfl | exact Or.inl rfl | (simp only [ob, obA, R32, R64] at *; omega) | (simp only [ob, obA, R32, R64] at *; and_intros <;> omega)) ?_
    refine V_lifle dX12_withoutFigure_12 (tgt := 65) (by decide) (fun q12 => ?_) (fun q12 => ?_)
    · exact fin 0 _ _ _ _ _ q12 he
    · omega
  | succ k ih =>
    intro left num pw x y hk hr hl he
    rw [Int.pow_succ] at hl
    have next : ∀ z u w, 0 < left → z = (if left % 9 < f then left % 9 else left % 9 + 1) → V κ MX12_withoutFigure (rmD d 0 0) (keepG G (VL (swC f 18 n 1))) noX 0 0 μ 0 0 (Wm G) 41 [some (VI f), some (VL n), none, some (VL num), none, some (VL pw), none, some (VL left), none, u, w] [VL z, VL num] := fun z u w h0 hz => by
      refine V_ex sX12_withoutFigure_41 (by rfl) (by exact ⟨hr, by unfold R64; omega, by decide⟩) ?_
      rw [td_nn (by omega)]
      refine V_goto dX12_withoutFigure_62 (tgt := 8) (by decide) ?_
      refine ih _ _ _ _ _ (by omega) (by unfold R64 at *; omega) (by omega) ?_
      rw [← he, swC, if_neg (by omega), hz]; omega
    refine V_ex sX12_withoutFigure_8 (by rfl) (by first | exact trivial | exact Or.inr rfl | exact Or.inl rfl | (simp only [ob, obA, R32, R64] at *; omega) | (simp only [ob, obA, R32, R64] at *; and_intros <;> omega)) ?_
    refine V_lifle dX12_withoutFigure_12 (tgt := 65) (by decide) (fun q12 => ?_) (fun q12 => ?_)
    · exact fin _ _ _ _ _ _ q12 he
    · refine V_ex sX12_withoutFigure_15 (by rfl) (by rw [tm_nn (by omega)]; exact ⟨⟨hr, by unfold R64; omega, by decide⟩, hf, by unfold R64; omega, hf64⟩) ?_
      rw [tm_nn (by omega)]
      refine V_lifge dX12_withoutFigure_29 (tgt := 37) (by decide) (fun q29 => ?_) (fun q29 => ?_)
      · refine V_ex sX12_withoutFigure_37 (by rfl) (by first | exact trivial | exact Or.inr rfl | exact Or.inl rfl | (simp only [ob, obA, R32, R64] at *; omega) | (simp only [ob, obA, R32, R64] at *; and_intros <;> omega)) ?_
        exact next _ _ _ q12 (by rw [if_neg (by omega)])
      · refine V_ex sX12_withoutFigure_32 (by rfl) (by first | exact trivial | exact Or.inr rfl | exact Or.inl rfl | (simp only [ob, obA, R32, R64] at *; omega) | (simp only [ob, obA, R32, R64] at *; and_intros <;> omega)) ?_
        refine V_goto dX12_withoutFigure_34 (tgt := 41) (by decide) ?_
        exact next _ _ _ q12 (by rw [if_pos q29])
set_option maxRecDepth 100000 in
set_option maxHeartbeats 4000000 in
theorem c_mrankWithout {κ : Kx} (hκ : KOK κ) {d : Nat} {f n : Int} {G : Wd} (hf : R32 f) (hn : R64 n) (hn2 : n < 10 ^ 18) : Ct κ MX12_rankWithout d 0 0 [VI f, VL n] (Wm G) (keepG G (VL (pwR (pwC f 18 n 1)))) noX := by
  refine Ct_of hκ kX12_rankWithout.1 rfl (Nat.le_of_ble_eq_true rfl) (ls := [some (VI f), some (VL n), none, none, none, none, none, none, none, none, none]) rfl (fun μ => ?_)
  have hf64 : R64 f := r32_64 hf
  refine V_ex sX12_rankWithout_0 (by rfl) (by first | exact trivial | exact Or.inl trivial | exact Or.inr rfl | exact Or.inl rfl) ?_
  suffices L : ∀ (k : Nat) (left num pw : Int) (x y : Option Vl), k ≤ 18 → R64 left → left < 10 ^ k → (pwC f k left pw).map (fun z => num + z) = pwC f 18 n 1 → V κ MX12_rankWithout (rmD d 0 0) (keepG G (VL (pwR (pwC f 18 n 1)))) noX 0 0 μ 0 0 (Wm G) 8 [some (VI f), some (VL n), none, some (VL num), none, some (VL pw), none, some (VL left), none, x, y] [] from L 18 n 0 1 _ _ (by omega) hn hn2 (by simp)
  intro k
  have pwC_neg : ∀ (k : Nat) (left pw : Int), left ≤ 0 → pwC f k left pw = some 0 := fun k left pw h => by
    cases k with
    | zero => rfl
    | succ k => rw [pwC, if_pos h]
  have fin : ∀ (k : Nat) (left num pw : Int) (x y : Option Vl), left ≤ 0 → (pwC f k left pw).map (fun z => num + z) = pwC f 18 n 1 → V κ MX12_rankWithout (rmD d 0 0) (keepG G (VL (pwR (pwC f 18 n 1)))) noX 0 0 μ 0 0 (Wm G) 77 [some (VI f), some (VL n), none, some (VL num), none, some (VL pw), none, some (VL left), none, x, y] [] := fun k left num pw x y h he => by
    rw [pwC_neg k left pw h] at he
    refine V_ex sX12_rankWithout_77 (by rfl) (by first | exact trivial | exact Or.inr rfl | exact Or.inl rfl | (simp only [ob, obA, R32, R64] at *; omega) | (simp only [ob, obA, R32, R64] at *; and_intros <;> omega)) ?_
    refine V_lret dX12_rankWithout_78 rfl (by decide) ⟨by rw [← he]; simp [pwR], rfl⟩
  induction k with
  | zero =>
    intro left num pw x y hk hr hl he
    refine V_ex sX12_rankWithout_8 (by rfl) (by first | exact trivial | exact Or.inr rfl | exact Or.inl rfl | (simp only [ob, obA, R32, R64] at *; omega) | (simp only [ob, obA, R32, R64] at *; and_intros <;> omega)) ?_
    refine V_lifle dX12_rankWithout_12 (tgt := 77) (by decide) (fun q12 => ?_) (fun q12 => ?_)
    · exact fin 0 _ _ _ _ _ q12 he
    · omega
  | succ k ih =>
    intro left num pw x y hk hr hl he
    rw [Int.pow_succ] at hl
    have next : ∀ z u w, 0 < left → ¬ left % 10 = f → z = (if f < left % 10 then left % 10 - 1 else left % 10) → V κ MX12_rankWithout (rmD d 0 0) (keepG G (VL (pwR (pwC f 18 n 1)))) noX 0 0 μ 0 0 (Wm G) 53 [some (VI f), some (VL n), none, some (VL num), none, some (VL pw), none, some (VL left), none, u, w] [VL z, VL num] := fun z u w h0 h1 hz => by
      refine V_ex sX12_rankWithout_53 (by rfl) (by exact ⟨hr, by unfold R64; omega, by decide⟩) ?_
      rw [td_nn (by omega)]
      refine V_goto dX12_rankWithout_74 (tgt := 8) (by decide) ?_
      refine ih _ _ _ _ _ (by omega) (by unfold R64 at *; omega) (by omega) ?_
      rw [← he, pwC, if_neg (by omega), if_neg h1, hz, Option.map_map]
      congr 1
      funext z
      simp only [Function.comp]
      omega
    refine V_ex sX12_rankWithout_8 (by rfl) (by first | exact trivial | exact Or.inr rfl | exact Or.inl rfl | (simp only [ob, obA, R32, R64] at *; omega) | (simp only [ob, obA, R32, R64] at *; and_intros <;> omega)) ?_
    refine V_lifle dX12_rankWithout_12 (tgt := 77) (by decide) (fun q12 => ?_) (fun q12 => ?_)
    · exact fin _ _ _ _ _ _ q12 he
    · refine V_ex sX12_rankWithout_15 (by rfl) (by rw [tm_nn (by omega)]; exact ⟨⟨hr, by unfold R64; omega, by decide⟩, hf, by unfold R64; omega, hf64⟩) ?_
      rw [tm_nn (by omega)]
      refine V_lifne dX12_rankWithout_28 (tgt := 35) (by decide) (fun q28 => ?_) (fun q28 => ?_)
      · refine V_ex sX12_rankWithout_35 (by rfl) (by exact ⟨hf, by unfold R64; omega, hf64⟩) ?_
        refine V_lifge dX12_rankWithout_41 (tgt := 49) (by decide) (fun q41 => ?_) (fun q41 => ?_)
        · refine V_ex sX12_rankWithout_49 (by rfl) (by first | exact trivial | exact Or.inr rfl | exact Or.inl rfl | (simp only [ob, obA, R32, R64] at *; omega) | (simp only [ob, obA, R32, R64] at *; and_intros <;> omega)) ?_
          exact next _ _ _ q12 q28 (by rw [if_pos (by omega)])
        · refine V_ex sX12_rankWithout_44 (by rfl) (by first | exact trivial | exact Or.inr rfl | exact Or.inl rfl | (simp only [ob, obA, R32, R64] at *; omega) | (simp only [ob, obA, R32, R64] at *; and_intros <;> omega)) ?_
          refine V_goto dX12_rankWithout_46 (tgt := 53) (by decide) ?_
          exact next _ _ _ q12 q28 (by rw [if_neg (by omega)])
      · refine V_ex sX12_rankWithout_31 (by rfl) (by first | exact trivial | exact Or.inr rfl | exact Or.inl rfl | (simp only [ob, obA, R32, R64] at *; omega) | (simp only [ob, obA, R32, R64] at *; and_intros <;> omega)) ?_
        refine V_lret dX12_rankWithout_34 rfl (by decide) ⟨by rw [← he, pwC, if_neg (by omega), if_pos q28]; rfl, rfl⟩
