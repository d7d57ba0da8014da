/-! THE MODEL: shelf -/
/-- what is kept: the lower halves -/
def mS0 (G : Wd) (S : Sh) : Prop := G.1 148 0 = (S.1.length : Nat) ∧ (∀ j (h : j < S.1.length), mBk G j (S.1[j]'h)) ∧ G.1 148 1 = (S.2.1.length : Nat) ∧ (∀ j (h : j < S.2.1.length), mCp G j (S.2.1[j]'h)) ∧ (∀ k (h : k < S.2.2.1.length), G.1 157 k = S.2.2.1[k]'h) ∧ ∀ k (h : k < S.2.2.2.2.length), G.1 160 k = sm (S.2.2.2.2[k]'h)
/-- the upper half of an array in its lower half -/
def hfT (h : Nat) (f : Nat → Int) : Nat → Int := fun j => if j < h then f (h + j) else f j
def half (a h : Nat) (G : Wd) : Wd := uA G a (hfT h (G.1 a))
theorem half_i {a h : Nat} {G : Wd} {j : Nat} : (half a h G).1 a j = if j < h then G.1 a (h + j) else G.1 a j := by unfold half hfT; simp
theorem half_n {a h : Nat} {G : Wd} {x j : Nat} (hx : x ≠ a) : (half a h G).1 x j = G.1 x j := by unfold half; simp [hx]
set_option maxRecDepth 100000 in
set_option maxHeartbeats 4000000 in
theorem c_mTakeHalf {κ : Kx} (hκ : KOK κ) {d a h : Nat} {G : Wd} (ha : LF.1 a = some (.inr (0, 2 * h))) (hh : h ≤ 10000) : Ct κ MX12_takeHalf d 0 0 [VR a] (Wm G) (voidG (half a h G)) noX := by
  refine Ct_of hκ kX12_takeHalf.1 rfl (Nat.le_of_ble_eq_true rfl) (ls := [some (VR a), none]) rfl (fun μ => ?_)
  have ed : (((2 * h : Nat) : Int)).tdiv 2 = (h : Int) := by rw [td_nn (by omega)]; omega
  have L : ∀ (k j : Nat) (jj : Int) (G1 : Wd), j + k = h → jj = (j : Int) → G1.2 = G.2 → (∀ x y, x ≠ a → G1.1 x y = G.1 x y) → (∀ y, G1.1 a y = if y < j then G.1 a (h + y) else G.1 a y) → V κ MX12_takeHalf (rmD d 0 0) (voidG (half a h G)) noX 0 0 μ 0 0 (Wm (G1)) 2 [some (VR a), some (VI jj)] [] := by
    intro k
    induction k with
    | zero =>
      intro j jj G1 hj hjj g2 gx ga
      obtain rfl : j = h := by omega
      refine V_ex sX12_takeHalf_2 (by simp only [Option.toList, List.cons_append, List.nil_append, exN, ex1, gI, gL, gR, pI, pL, pR, lget, lset1, lset2, kl, b2I, b2L, nob, ob32, ob64, xGet, xPut, xLen, xLd, xLdR, xSt, obA, true_and, and_true, and_self, eq_self, Nat.reduceEqDiff, Nat.zero_ne_one, reduceIte, Nat.reduceLeDiff, and_false, false_and, ha, ed, upd2_eq, Int.reduceToNat, Int.toNat_natCast]; rfl) (by first | exact trivial | exact Or.inr rfl | exact Or.inl rfl | (simp only [ob, obA, R32, R64] at *; omega) | (simp only [ob, obA, R32, R64] at *; and_intros <;> omega)) ?_
      refine V_icmpge dX12_takeHalf_7 (tgt := 27) (by decide) (by simp only [R32, R64] at *; omega) (fun q7 => ?_) (fun q7 => ?_)
      · refine V_vret dX12_takeHalf_27 rfl (by decide) ⟨rfl, congrArg Wm (uI_ext (fun x y => by by_cases c : x = a; subst c; rw [half_i]; exact ga y; rw [half_n c]; exact gx x y c) g2)⟩
      · omega
    | succ k ih =>
      intro j jj G1 hj hjj g2 gx ga
      subst hjj
      have e1 : ((h : Int) + (j : Int)).toNat = h + j := by omega
      have e2 : G1.1 a (h + j) = G.1 a (h + j) := by rw [ga, if_neg (by omega)]
      refine V_ex sX12_takeHalf_2 (by simp only [Option.toList, List.cons_append, List.nil_append, exN, ex1, gI, gL, gR, pI, pL, pR, lget, lset1, lset2, kl, b2I, b2L, nob, ob32, ob64, xGet, xPut, xLen, xLd, xLdR, xSt, obA, true_and, and_true, and_self, eq_self, Nat.reduceEqDiff, Nat.zero_ne_one, reduceIte, Nat.reduceLeDiff, and_false, false_and, ha, ed, upd2_eq, Int.reduceToNat, Int.toNat_natCast]; rfl) (by first | exact trivial | exact Or.inr rfl | exact Or.inl rfl | (simp only [ob, obA, R32, R64] at *; omega) | (simp only [ob, obA, R32, R64] at *; and_intros <;> omega)) ?_
      refine V_icmpge dX12_takeHalf_7 (tgt := 27) (by decide) (by simp only [R32, R64] at *; omega) (fun q7 => ?_) (fun q7 => ?_)
      · omega
      · refine V_ex sX12_takeHalf_10 (by simp only [Option.toList, List.cons_append, List.nil_append, exN, ex1, gI, gL, gR, pI, pL, pR, lget, lset1, lset2, kl, b2I, b2L, nob, ob32, ob64, xGet, xPut, xLen, xLd, xLdR, xSt, obA, true_and, and_true, and_self, eq_self, Nat.reduceEqDiff, Nat.zero_ne_one, reduceIte, Nat.reduceLeDiff, and_false, false_and, ha, ed, e1, e2, upd2_eq, Int.reduceToNat, Int.toNat_natCast]; rfl) (by (simp only [ob, obA, R32]; and_intros <;> omega)) ?_
        refine V_goto dX12_takeHalf_24 (tgt := 2) (by decide) ?_
        exact ih (j + 1) _ _ (by omega) (by omega) g2 (fun x y p => by rw [iv (by intro q; exact p q.1)]; exact gx x y p) (fun y => by by_cases c : y = j; subst c; rw [iu, if_pos (by omega)]; rw [iv (by intro q; exact c q.2), ga]; by_cases c2 : y < j; rw [if_pos c2, if_pos (by omega)]; rw [if_neg c2, if_neg (by omega)])
  refine V_ex sX12_takeHalf_0 (by rfl) (by first | exact trivial | exact Or.inr rfl | exact Or.inl rfl | (simp only [ob, obA, R32, R64] at *; omega) | (simp only [ob, obA, R32, R64] at *; and_intros <;> omega)) ?_
  exact L h 0 0 G (by omega) rfl rfl (fun _ _ _ => rfl) (fun y => by rw [if_neg (by omega)])
def takeG (G : Wd) : Wd := uI (uI (uI (uI (uI (uI (uI (half 160 500 (half 159 6 (half 158 6 (half 157 10 (half 156 240 (half 155 8 (half 154 8 (half 153 360 (half 152 6 (half 151 6 (half 150 6 (half 149 6 (half 148 2 G))))))))))))) 145 48 0) 145 57 (-1)) 145 58 (-1)) 145 34 0) 145 35 0) 145 36 0) 145 60 0
set_option maxRecDepth 100000 in
set_option maxHeartbeats 4000000 in
theorem c_mTake {κ : Kx} (hκ : KOK κ) {d : Nat} {G : Wd} (hd : 1 ≤ d) : Ct κ MX12_take d 0 0 [VR 145] (Wm G) (voidG (takeG G)) noX := by
  refine Ct_of hκ kX12_take.1 rfl (Nat.le_of_ble_eq_true rfl) (ls := [some (VR 145)]) rfl (fun μ => ?_)
  refine V_ex sX12_take_0 (by simp only [Option.toList, List.cons_append, List.nil_append, exN, ex1, gI, gL, gR, pI, pL, pR, lget, lset1, lset2, kl, b2I, b2L, nob, ob32, ob64, xGet, xPut, xLen, xLd, xLdR, xSt, obA, true_and, and_true, and_self, eq_self, Nat.reduceEqDiff, Nat.zero_ne_one, reduceIte, Nat.reduceLeDiff, and_false, false_and, show skd 11 3 = 2 from rfl, show LF.1 145 = some (.inl 11) from rfl, show LF.2 145 3 = some 148 from rfl, upd2_eq, Int.reduceToNat, Int.toNat_natCast]; rfl) (by first | exact trivial | exact Or.inr rfl | exact Or.inl rfl | (simp only [ob, obA, R32, R64] at *; omega) | (simp only [ob, obA, R32, R64] at *; and_intros <;> omega)) ?_
  refine V_callS (M := MX12_take) (N := MX12_takeHalf) dX12_take_4 lRX12_334 kX12_takeHalf rfl (c_mTakeHalf (d := 0) hκ (a := 148) (h := 2) rfl (by decide)) rfl rfl (Nat.le_of_ble_eq_true rfl) (fit_rm (by omega)) (⟨Nat.le_of_ble_eq_true rfl, Nat.le_of_ble_eq_true rfl⟩) (fun v Ω' hp => ?_) (fun _ _ h => h.elim)
  obtain ⟨rfl, rfl⟩ := hp
  refine V_ex sX12_take_7 (by simp only [Option.toList, List.cons_append, List.nil_append, exN, ex1, gI, gL, gR, pI, pL, pR, lget, lset1, lset2, kl, b2I, b2L, nob, ob32, ob64, xGet, xPut, xLen, xLd, xLdR, xSt, obA, true_and, and_true, and_self, eq_self, Nat.reduceEqDiff, Nat.zero_ne_one, reduceIte, Nat.reduceLeDiff, and_false, false_and, show skd 11 4 = 2 from rfl, show LF.1 145 = some (.inl 11) from rfl, show LF.2 145 4 = some 149 from rfl, upd2_eq, Int.reduceToNat, Int.toNat_natCast]; rfl) (by first | exact trivial | exact Or.inr rfl | exact Or.inl rfl | (simp only [ob, obA, R32, R64] at *; omega) | (simp only [ob, obA, R32, R64] at *; and_intros <;> omega)) ?_
  refine V_callS (M := MX12_take) (N := MX12_takeHalf) dX12_take_11 lRX12_334 kX12_takeHalf rfl (c_mTakeHalf (d := 0) hκ (a := 149) (h := 6) rfl (by decide)) rfl rfl (Nat.le_of_ble_eq_true rfl) (fit_rm (by omega)) (⟨Nat.le_of_ble_eq_true rfl, Nat.le_of_ble_eq_true rfl⟩) (fun v Ω' hp => ?_) (fun _ _ h => h.elim)
  obtain ⟨rfl, rfl⟩ := hp
  refine V_ex sX12_take_14 (by simp only [Option.toList, List.cons_append, List.nil_append, exN, ex1, gI, gL, gR, pI, pL, pR, lget, lset1, lset2, kl, b2I, b2L, nob, ob32, ob64, xGet, xPut, xLen, xLd, xLdR, xSt, obA, true_and, and_true, and_self, eq_self, Nat.reduceEqDiff, Nat.zero_ne_one, reduceIte, Nat.reduceLeDiff, and_false, false_and, show skd 11 5 = 2 from rfl, show LF.1 145 = some (.inl 11) from rfl, show LF.2 145 5 = some 150 from rfl, upd2_eq, Int.reduceToNat, Int.toNat_natCast]; rfl) (by first | exact trivial | exact Or.inr rfl | exact Or.inl rfl | (simp only [ob, obA, R32, R64] at *; omega) | (simp only [ob, obA, R32, R64] at *; and_intros <;> omega)) ?_
  refine V_callS (M := MX12_take) (N := MX12_takeHalf) dX12_take_18 lRX12_334 kX12_takeHalf rfl (c_mTakeHalf (d := 0) hκ (a := 150) (h := 6) rfl (by decide)) rfl rfl (Nat.le_of_ble_eq_true rfl) (fit_rm (by omega)) (⟨Nat.le_of_ble_eq_true rfl, Nat.le_of_ble_eq_true rfl⟩) (fun v Ω' hp => ?_) (fun _ _ h => h.elim)
  obtain ⟨rfl, rfl⟩ := hp
  refine V_ex sX12_take_21 (by simp only [Option.toList, List.cons_append, List.nil_append, exN, ex1, gI, gL, gR, pI, pL, pR, lget, lset1, lset2, kl, b2I, b2L, nob, ob32, ob64, xGet, xPut, xLen, xLd, xLdR, xSt, obA, true_and, and_true, and_self, eq_self, Nat.reduceEqDiff, Nat.zero_ne_one, reduceIte, Nat.reduceLeDiff, and_false, false_and, show skd 11 6 = 2 from rfl, show LF.1 145 = some (.inl 11) from rfl, show LF.2 145 6 = some 151 from rfl, upd2_eq, Int.reduceToNat, Int.toNat_natCast]; rfl) (by first | exact trivial | exact Or.inr rfl | exact Or.inl rfl | (simp only [ob, obA, R32, R64] at *; omega) | (simp only [ob, obA, R32, R64] at *; and_intros <;> omega)) ?_
  refine V_callS (M := MX12_take) (N := MX12_takeHalf) dX12_take_25 lRX12_334 kX12_takeHalf rfl (c_mTakeHalf (d := 0) hκ (a := 151) (h := 6) rfl (by decide)) rfl rfl (Nat.le_of_ble_eq_true rfl) (fit_rm (by omega)) (⟨Nat.le_of_ble_eq_true rfl, Nat.le_of_ble_eq_true rfl⟩) (fun v Ω' hp => ?_) (fun _ _ h => h.elim)
  obtain ⟨rfl, rfl⟩ := hp
  refine V_ex sX12_take_28 (by simp only [Option.toList, List.cons_append, List.nil_append, exN, ex1, gI, gL, gR, pI, pL, pR, lget, lset1, lset2, kl, b2I, b2L, nob, ob32, ob64, xGet, xPut, xLen, xLd, xLdR, xSt, obA, true_and, and_true, and_self, eq_self, Nat.reduceEqDiff, Nat.zero_ne_one, reduceIte, Nat.reduceLeDiff, and_false, false_and, show skd 11 7 = 2 from rfl, show LF.1 145 = some (.inl 11) from rfl, show LF.2 145 7 = some 152 from rfl, upd2_eq, Int.reduceToNat, Int.toNat_natCast]; rfl) (by first | exact trivial | exact Or.inr rfl | exact Or.inl rfl | (simp only [ob, obA, R32, R64] at *; omega) | (simp only [ob, obA, R32, R64] at *; and_intros <;> omega)) ?_
  refine V_callS (M := MX12_take) (N := MX12_takeHalf) dX12_take_32 lRX12_334 kX12_takeHalf rfl (c_mTakeHalf (d := 0) hκ (a := 152) (h := 6) rfl (by decide)) rfl rfl (Nat.le_of_ble_eq_true rfl) (fit_rm (by omega)) (⟨Nat.le_of_ble_eq_true rfl, Nat.le_of_ble_eq_true rfl⟩) (fun v Ω' hp => ?_) (fun _ _ h => h.elim)
  obtain ⟨rfl, rfl⟩ := hp
  refine V_ex sX12_take_35 (by simp only [Option.toList, List.cons_append, List.nil_append, exN, ex1, gI, gL, gR, pI, pL, pR, lget, lset1, lset2, kl, b2I, b2L, nob, ob32, ob64, xGet, xPut, xLen, xLd, xLdR, xSt, obA, true_and, and_true, and_self, eq_self, Nat.reduceEqDiff, Nat.zero_ne_one, reduceIte, Nat.reduceLeDiff, and_false, false_and, show skd 11 8 = 2 from rfl, show LF.1 145 = some (.inl 11) from rfl, show LF.2 145 8 = some 153 from rfl, upd2_eq, Int.reduceToNat, Int.toNat_natCast]; rfl) (by first | exact trivial | exact Or.inr rfl | exact Or.inl rfl | (simp only [ob, obA, R32, R64] at *; omega) | (simp only [ob, obA, R32, R64] at *; and_intros <;> omega)) ?_
  refine V_callS (M := MX12_take) (N := MX12_takeHalf) dX12_take_39 lRX12_334 kX12_takeHalf rfl (c_mTakeHalf (d := 0) hκ (a := 153) (h := 360) rfl (by decide)) rfl rfl (Nat.le_of_ble_eq_true rfl) (fit_rm (by omega)) (⟨Nat.le_of_ble_eq_true rfl, Nat.le_of_ble_eq_true rfl⟩) (fun v Ω' hp => ?_) (fun _ _ h => h.elim)
  obtain ⟨rfl, rfl⟩ := hp
  refine V_ex sX12_take_42 (by simp only [Option.toList, List.cons_append, List.nil_append, exN, ex1, gI, gL, gR, pI, pL, pR, lget, lset1, lset2, kl, b2I, b2L, nob, ob32, ob64, xGet, xPut, xLen, xLd, xLdR, xSt, obA, true_and, and_true, and_self, eq_self, Nat.reduceEqDiff, Nat.zero_ne_one, reduceIte, Nat.reduceLeDiff, and_false, false_and, show skd 11 9 = 2 from rfl, show LF.1 145 = some (.inl 11) from rfl, show LF.2 145 9 = some 154 from rfl, upd2_eq, Int.reduceToNat, Int.toNat_natCast]; rfl) (by first | exact trivial | exact Or.inr rfl | exact Or.inl rfl | (simp only [ob, obA, R32, R64] at *; omega) | (simp only [ob, obA, R32, R64] at *; and_intros <;> omega)) ?_
  refine V_callS (M := MX12_take) (N := MX12_takeHalf) dX12_take_46 lRX12_334 kX12_takeHalf rfl (c_mTakeHalf (d := 0) hκ (a := 154) (h := 8) rfl (by decide)) rfl rfl (Nat.le_of_ble_eq_true rfl) (fit_rm (by omega)) (⟨Nat.le_of_ble_eq_true rfl, Nat.le_of_ble_eq_true rfl⟩) (fun v Ω' hp => ?_) (fun _ _ h => h.elim)
  obtain ⟨rfl, rfl⟩ := hp
  refine V_ex sX12_take_49 (by simp only [Option.toList, List.cons_append, List.nil_append, exN, ex1, gI, gL, gR, pI, pL, pR, lget, lset1, lset2, kl, b2I, b2L, nob, ob32, ob64, xGet, xPut, xLen, xLd, xLdR, xSt, obA, true_and, and_true, and_self, eq_self, Nat.reduceEqDiff, Nat.zero_ne_one, reduceIte, Nat.reduceLeDiff, and_false, false_and, show skd 11 10 = 2 from rfl, show LF.1 145 = some (.inl 11) from rfl, show LF.2 145 10 = some 155 from rfl, upd2_eq, Int.reduceToNat, Int.toNat_natCast]; rfl) (by first | exact trivial | exact Or.inr rfl | exact Or.inl rfl | (simp only [ob, obA, R32, R64] at *; omega) | (simp only [ob, obA, R32, R64] at *; and_intros <;> omega)) ?_
  refine V_callS (M := MX12_take) (N := MX12_takeHalf) dX12_take_53 lRX12_334 kX12_takeHalf rfl (c_mTakeHalf (d := 0) hκ (a := 155) (h := 8) rfl (by decide)) rfl rfl (Nat.le_of_ble_eq_true rfl) (fit_rm (by omega)) (⟨Nat.le_of_ble_eq_true rfl, Nat.le_of_ble_eq_true rfl⟩) (fun v Ω' hp => ?_) (fun _ _ h => h.elim)
  obtain ⟨rfl, rfl⟩ := hp
  refine V_ex sX12_take_56 (by simp only [Option.toList, List.cons_append, List.nil_append, exN, ex1, gI, gL, gR, pI, pL, pR, lget, lset1, lset2, kl, b2I, b2L, nob, ob32, ob64, xGet, xPut, xLen, xLd, xLdR, xSt, obA, true_and, and_true, and_self, eq_self, Nat.reduceEqDiff, Nat.zero_ne_one, reduceIte, Nat.reduceLeDiff, and_false, false_and, show skd 11 11 = 2 from rfl, show LF.1 145 = some (.inl 11) from rfl, show LF.2 145 11 = some 156 from rfl, upd2_eq, Int.reduceToNat, Int.toNat_natCast]; rfl) (by first | exact trivial | exact Or.inr rfl | exact Or.inl rfl | (simp only [ob, obA, R32, R64] at *; omega) | (simp only [ob, obA, R32, R64] at *; and_intros <;> omega)) ?_
  refine V_callS (M := MX12_take) (N := MX12_takeHalf) dX12_take_60 lRX12_334 kX12_takeHalf rfl (c_mTakeHalf (d := 0) hκ (a := 156) (h := 240) rfl (by decide)) rfl rfl (Nat.le_of_ble_eq_true rfl) (fit_rm (by omega)) (⟨Nat.le_of_ble_eq_true rfl, Nat.le_of_ble_eq_true rfl⟩) (fun v Ω' hp => ?_) (fun _ _ h => h.elim)
  obtain ⟨rfl, rfl⟩ := hp
  refine V_ex sX12_take_63 (by simp only [Option.toList, List.cons_append, List.nil_append, exN, ex1, gI, gL, gR, pI, pL, pR, lget, lset1, lset2, kl, b2I, b2L, nob, ob32, ob64, xGet, xPut, xLen, xLd, xLdR, xSt, obA, true_and, and_true, and_self, eq_self, Nat.reduceEqDiff, Nat.zero_ne_one, reduceIte, Nat.reduceLeDiff, and_false, false_and, show skd 11 12 = 2 from rfl, show LF.1 145 = some (.inl 11) from rfl, show LF.2 145 12 = some 157 from rfl, upd2_eq, Int.reduceToNat, Int.toNat_natCast]; rfl) (by first | exact trivial | exact Or.inr rfl | exact Or.inl rfl | (simp only [ob, obA, R32, R64] at *; omega) | (simp only [ob, obA, R32, R64] at *; and_intros <;> omega)) ?_
  refine V_callS (M := MX12_take) (N := MX12_takeHalf) dX12_take_67 lRX12_334 kX12_takeHalf rfl (c_mTakeHalf (d := 0) hκ (a := 157) (h := 10) rfl (by decide)) rfl rfl (Nat.le_of_ble_eq_true rfl) (fit_rm (by omega)) (⟨Nat.le_of_ble_eq_true rfl, Nat.le_of_ble_eq_true rfl⟩) (fun v Ω' hp => ?_) (fun _ _ h => h.elim)
  obtain ⟨rfl, rfl⟩ := hp
  refine V_ex sX12_take_70 (by simp only [Option.toList, List.cons_append, List.nil_append, exN, ex1, gI, gL, gR, pI, pL, pR, lget, lset1, lset2, kl, b2I, b2L, nob, ob32, ob64, xGet, xPut, xLen, xLd, xLdR, xSt, obA, true_and, and_true, and_self, eq_self, Nat.reduceEqDiff, Nat.zero_ne_one, reduceIte, Nat.reduceLeDiff, and_false, false_and, show skd 11 13 = 2 from rfl, show LF.1 145 = some (.inl 11) from rfl, show LF.2 145 13 = some 158 from rfl, upd2_eq, Int.reduceToNat, Int.toNat_natCast]; rfl) (by first | exact trivial | exact Or.inr rfl | exact Or.inl rfl | (simp only [ob, obA, R32, R64] at *; omega) | (simp only [ob, obA, R32, R64] at *; and_intros <;> omega)) ?_
  refine V_callS (M := MX12_take) (N := MX12_takeHalf) dX12_take_74 lRX12_334 kX12_takeHalf rfl (c_mTakeHalf (d := 0) hκ (a := 158) (h := 6) rfl (by decide)) rfl rfl (Nat.le_of_ble_eq_true rfl) (fit_rm (by omega)) (⟨Nat.le_of_ble_eq_true rfl, Nat.le_of_ble_eq_true rfl⟩) (fun v Ω' hp => ?_) (fun _ _ h => h.elim)
  obtain ⟨rfl, rfl⟩ := hp
  refine V_ex sX12_take_77 (by simp only [Option.toList, List.cons_append, List.nil_append, exN, ex1, gI, gL, gR, pI, pL, pR, lget, lset1, lset2, kl, b2I, b2L, nob, ob32, ob64, xGet, xPut, xLen, xLd, xLdR, xSt, obA, true_and, and_true, and_self, eq_self, Nat.reduceEqDiff, Nat.zero_ne_one, reduceIte, Nat.reduceLeDiff, and_false, false_and, show skd 11 14 = 2 from rfl, show LF.1 145 = some (.inl 11) from rfl, show LF.2 145 14 = some 159 from rfl, upd2_eq, Int.reduceToNat, Int.toNat_natCast]; rfl) (by first | exact trivial | exact Or.inr rfl | exact Or.inl rfl | (simp only [ob, obA, R32, R64] at *; omega) | (simp only [ob, obA, R32, R64] at *; and_intros <;> omega)) ?_
  refine V_callS (M := MX12_take) (N := MX12_takeHalf) dX12_take_81 lRX12_334 kX12_takeHalf rfl (c_mTakeHalf (d := 0) hκ (a := 159) (h := 6) rfl (by decide)) rfl rfl (Nat.le_of_ble_eq_true rfl) (fit_rm (by omega)) (⟨Nat.le_of_ble_eq_true rfl, Nat.le_of_ble_eq_true rfl⟩) (fun v Ω' hp => ?_) (fun _ _ h => h.elim)
  obtain ⟨rfl, rfl⟩ := hp
  refine V_ex sX12_take_84 (by simp only [Option.toList, List.cons_append, List.nil_append, exN, ex1, gI, gL, gR, pI, pL, pR, lget, lset1, lset2, kl, b2I, b2L, nob, ob32, ob64, xGet, xPut, xLen, xLd, xLdR, xSt, obA, true_and, and_true, and_self, eq_self, Nat.reduceEqDiff, Nat.zero_ne_one, reduceIte, Nat.reduceLeDiff, and_false, false_and, show skd 11 15 = 2 from rfl, show LF.1 145 = some (.inl 11) from rfl, show LF.2 145 15 = some 160 from rfl, upd2_eq, Int.reduceToNat, Int.toNat_natCast]; rfl) (by first | exact trivial | exact Or.inr rfl | exact Or.inl rfl | (simp only [ob, obA, R32, R64] at *; omega) | (simp only [ob, obA, R32, R64] at *; and_intros <;> omega)) ?_
  refine V_callS (M := MX12_take) (N := MX12_takeHalf) dX12_take_88 lRX12_334 kX12_takeHalf rfl (c_mTakeHalf (d := 0) hκ (a := 160) (h := 500) rfl (by decide)) rfl rfl (Nat.le_of_ble_eq_true rfl) (fit_rm (by omega)) (⟨Nat.le_of_ble_eq_true rfl, Nat.le_of_ble_eq_true rfl⟩) (fun v Ω' hp => ?_) (fun _ _ h => h.elim)
  obtain ⟨rfl, rfl⟩ := hp
  refine V_ex sX12_take_91 (by simp only [Option.toList, List.cons_append, List.nil_append, exN, ex1, gI, gL, gR, pI, pL, pR, lget, lset1, lset2, kl, b2I, b2L, nob, ob32, ob64, xGet, xPut, xLen, xLd, xLdR, xSt, obA, true_and, and_true, and_self, eq_self, Nat.reduceEqDiff, Nat.zero_ne_one, reduceIte, Nat.reduceLeDiff, and_false, false_and, show skd 11 48 = 0 from rfl, show skd 11 57 = 0 from rfl, show skd 11 58 = 0 from rfl, show skd 11 34 = 0 from rfl, show skd 11 35 = 0 from rfl, show skd 11 36 = 0 from rfl, show skd 11 60 = 4 from rfl, show LF.1 145 = some (.inl 11) from rfl, upd2_eq, Int.reduceToNat, Int.toNat_natCast]; rfl) (by (simp only [ob, obA]; trivial)) ?_
  refine V_vret dX12_take_126 rfl (by decide) ⟨rfl, rfl⟩
/-- the cells that a shelf without a fault sets -/
def tkS (j : Nat) : Prop := j = 48 ∨ j = 57 ∨ j = 58 ∨ j = 34 ∨ j = 35 ∨ j = 36 ∨ j = 60
theorem takeG_2 (G : Wd) : (takeG G).2 = G.2 := rfl
theorem takeG_5 {G : Wd} {j : Nat} (h : ¬ tkS j) : (takeG G).1 145 j = G.1 145 j := by
  unfold tkS at h
  unfold takeG
  rw [iv (by omega), iv (by omega), iv (by omega), iv (by omega), iv (by omega), iv (by omega), iv (by omega)]
  rw [half_n (by decide), half_n (by decide), half_n (by decide), half_n (by decide), half_n (by decide), half_n (by decide), half_n (by decide), half_n (by decide), half_n (by decide), half_n (by decide), half_n (by decide), half_n (by decide), half_n (by decide)]
theorem takeG_x {G : Wd} {x j : Nat} (h : ¬ (148 ≤ x ∧ x ≤ 160)) (h5 : x ≠ 145) : (takeG G).1 x j = G.1 x j := by
  unfold takeG
  rw [iv (by omega), iv (by omega), iv (by omega), iv (by omega), iv (by omega), iv (by omega), iv (by omega)]
  rw [half_n (by omega), half_n (by omega), half_n (by omega), half_n (by omega), half_n (by omega), half_n (by omega), half_n (by omega), half_n (by omega), half_n (by omega), half_n (by omega), half_n (by omega), half_n (by omega), half_n (by omega)]
theorem takeG_S (G : Wd) : (takeG G).1 145 48 = 0 ∧ (takeG G).1 145 57 = -1 ∧ (takeG G).1 145 58 = -1 ∧ (takeG G).1 145 34 = 0 ∧ (takeG G).1 145 35 = 0 ∧ (takeG G).1 145 36 = 0 ∧ (takeG G).1 145 60 = 0 := by
  unfold takeG
  refine ⟨?_, ?_, ?_, ?_, ?_, ?_, ?_⟩ <;> simp [upd2_eq]
/-- the height of a half -/
def hHt (x : Nat) : Nat := match x with | 148 => 2 | 153 => 360 | 154 => 8 | 155 => 8 | 156 => 240 | 157 => 10 | 160 => 500 | _ => 6
theorem takeG_h {G : Wd} {x j : Nat} (hx : 148 ≤ x ∧ x ≤ 160) (hj : j < hHt x) : (takeG G).1 x j = G.1 x (hHt x + j) := by
  obtain ⟨y, rfl⟩ : ∃ y, x = 148 + y := ⟨x - 148, by omega⟩
  have hy : y < 13 := by omega
  unfold takeG
  rw [iv (by omega), iv (by omega), iv (by omega), iv (by omega), iv (by omega), iv (by omega), iv (by omega)]
  match y, hy with
  | 0, _ => simp only [half, hHt] at *; simp [hfT, hj]
  | 1, _ => simp only [half, hHt] at *; simp [hfT, hj]
  | 2, _ => simp only [half, hHt] at *; simp [hfT, hj]
  | 3, _ => simp only [half, hHt] at *; simp [hfT, hj]
  | 4, _ => simp only [half, hHt] at *; simp [hfT, hj]
  | 5, _ => simp only [half, hHt] at *; simp [hfT, hj]
  | 6, _ => simp only [half, hHt] at *; simp [hfT, hj]
  | 7, _ => simp only [half, hHt] at *; simp [hfT, hj]
  | 8, _ => simp only [half, hHt] at *; simp [hfT, hj]
  | 9, _ => simp only [half, hHt] at *; simp [hfT, hj]
  | 10, _ => simp only [half, hHt] at *; simp [hfT, hj]
  | 11, _ => simp only [half, hHt] at *; simp [hfT, hj]
  | 12, _ => simp only [half, hHt] at *; simp [hfT, hj]
  | y + 13, h => omega
theorem mS0_take {G : Wd} {S : Sh} {i : Nat} (h : mS1 G S) (hO : okSh i S) (hi : i ≤ 500) : mS0 (takeG G) S := by
  obtain ⟨h1, h2, h3, h4, h5, h6, h7⟩ := h
  obtain ⟨s1, s2, s3, s4, s5, s6, s7, s8⟩ := hO
  refine ⟨by rw [takeG_h (by omega) (by decide)]; exact h1, fun j hj => ?_, by rw [takeG_h (by omega) (by decide)]; exact h3, fun j hj => ?_, fun k hk => by rw [takeG_h (by omega) (by show k < 10; omega)]; exact h5 k hk, fun k hk => by rw [takeG_h (by omega) (by show k < 500; omega)]; exact h7 k hk⟩
  · obtain ⟨b1, b2, b3, b4, b5, b6⟩ := h2 j hj
    have hl := (s2 _ (List.getElem_mem hj)).2.2.2.2.2.2.2.1
    refine ⟨by rw [takeG_h (by omega) (by show j < 6; omega)]; exact b1, by rw [takeG_h (by omega) (by show j < 6; omega)]; exact b2, by rw [takeG_h (by omega) (by show j < 6; omega)]; exact b3, fun q => by rw [takeG_h (by omega) (by show j < 6; omega), takeG_h (by omega) (by show j < 6; omega)]; exact b4 q, by rw [takeG_h (by omega) (by show j < 6; omega)]; exact b5, fun k hk => ?_⟩
    rw [takeG_h (by omega) (by show _ < 360; omega), show hHt 153 + (60 * j + k) = 60 * (6 + j) + k by show 360 + (60 * j + k) = _; omega]
    exact b6 k hk
  · obtain ⟨b1, b2, b3⟩ := h4 j hj
    have hl := (s4 _ (List.getElem_mem hj)).2.2.1
    refine ⟨by rw [takeG_h (by omega) (by show j < 8; omega)]; exact b1, by rw [takeG_h (by omega) (by show j < 8; omega)]; exact b2, fun k hk => ?_⟩
    rw [takeG_h (by omega) (by show _ < 240; omega), show hHt 156 + (30 * j + k) = 30 * (8 + j) + k by show 240 + (30 * j + k) = _; omega]
    exact b3 k hk
