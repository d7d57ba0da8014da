/-! THE MODEL: a row of booleans copied -/
set_option maxRecDepth 100000 in
set_option maxHeartbeats 4000000 in
theorem c_mBeAs {κ : Kx} (hκ : KOK κ) {d a b n : Nat} {G : Wd} (ha : LF.1 a = some (.inr (2, n))) (hb : LF.1 b = some (.inr (2, n))) (hab : a ≠ b) (hn : n ≤ 10000) (hz : ∀ j, j < n → G.1 b j = 0 ∨ G.1 b j = 1) : Ct κ MX12_beAs d 0 0 [VR a, VR b] (Wm G) (voidG (beW G a b n)) noX := by
  refine Ct_of hκ kX12_beAs.1 rfl (Nat.le_of_ble_eq_true rfl) (ls := [some (VR a), some (VR b), none]) rfl (fun μ => ?_)
  have L : ∀ (k j : Nat) (jj : Int) (G1 : Wd), j + k = n → jj = (j : Int) → G1.2 = G.2 → (∀ x y, x ≠ a → G1.1 x y = G.1 x y) → (∀ y, G1.1 a y = if y < j then G.1 b y else G.1 a y) → V κ MX12_beAs (rmD d 0 0) (voidG (beW G a b n)) noX 0 0 μ 0 0 (Wm (G1)) 2 [some (VR a), some (VR b), some (VI jj)] [] := by
    intro k
    induction k with
    | zero =>
      intro j jj G1 hj hjj g2 gx ga
      obtain rfl : j = n := by omega
      refine V_ex sX12_beAs_2 (by simp only [Option.toList, List.cons_append, List.nil_append, exN, ex1, gI, gL, gR, pI, pL, pR, lget, lset1, lset2, kl, b2I, b2L, nob, ob32, ob64, xGet, xPut, xLen, xLd, xLdR, xSt, obA, true_and, and_true, and_self, eq_self, Nat.reduceEqDiff, Nat.zero_ne_one, reduceIte, Nat.reduceLeDiff, and_false, false_and, ha, upd2_eq, Int.reduceToNat, Int.toNat_natCast]; rfl) (by first | exact trivial | exact Or.inr rfl | exact Or.inl rfl | (simp only [ob, obA, R32, R64] at *; omega) | (simp only [ob, obA, R32, R64] at *; and_intros <;> omega) | (simp [ob, obA])) ?_
      refine V_icmpge dX12_beAs_5 (tgt := 20) (by decide) (by simp only [R32, R64] at *; omega) (fun q5 => ?_) (fun q5 => ?_)
      · refine V_vret dX12_beAs_20 rfl (by decide) ⟨rfl, congrArg Wm (uI_ext (fun x y => by by_cases c : x = a; subst c; rw [be_a]; exact ga y; rw [be_n c]; exact gx x y c) g2)⟩
      · omega
    | succ k ih =>
      intro j jj G1 hj hjj g2 gx ga
      subst hjj
      have e2 : G1.1 b j = G.1 b j := gx b j (fun q => hab q.symm)
      have hzj := hz j (by omega)
      refine V_ex sX12_beAs_2 (by simp only [Option.toList, List.cons_append, List.nil_append, exN, ex1, gI, gL, gR, pI, pL, pR, lget, lset1, lset2, kl, b2I, b2L, nob, ob32, ob64, xGet, xPut, xLen, xLd, xLdR, xSt, obA, true_and, and_true, and_self, eq_self, Nat.reduceEqDiff, Nat.zero_ne_one, reduceIte, Nat.reduceLeDiff, and_false, false_and, ha, upd2_eq, Int.reduceToNat, Int.toNat_natCast]; rfl) (by first | exact trivial | exact Or.inr rfl | exact Or.inl rfl | (simp only [ob, obA, R32, R64] at *; omega) | (simp only [ob, obA, R32, R64] at *; and_intros <;> omega) | (simp [ob, obA])) ?_
      refine V_icmpge dX12_beAs_5 (tgt := 20) (by decide) (by simp only [R32, R64] at *; omega) (fun q5 => ?_) (fun q5 => ?_)
      · omega
      · refine V_ex sX12_beAs_8 (by simp only [Option.toList, List.cons_append, List.nil_append, exN, ex1, gI, gL, gR, pI, pL, pR, lget, lset1, lset2, kl, b2I, b2L, nob, ob32, ob64, xGet, xPut, xLen, xLd, xLdR, xSt, obA, true_and, and_true, and_self, eq_self, Nat.reduceEqDiff, Nat.zero_ne_one, reduceIte, Nat.reduceLeDiff, and_false, false_and, ha, hb, e2, Int.toNat_natCast, upd2_eq, Int.reduceToNat, Int.toNat_natCast]; rfl) (by (simp only [ob, obA, R32]; and_intros <;> first | exact hzj | omega)) ?_
        refine V_goto dX12_beAs_17 (tgt := 2) (by decide) ?_
        exact ih (j + 1) _ _ (by omega) (by omega) g2 (fun x y p => by rw [iv (by intro q; exact p q.1)]; exact gx x y p) (fun y => by by_cases c : y = j; subst c; rw [iu, if_pos (by omega)]; rw [iv (by intro q; exact c q.2), ga]; by_cases c2 : y < j; rw [if_pos c2, if_pos (by omega)]; rw [if_neg c2, if_neg (by omega)])
  refine V_ex sX12_beAs_0 (by rfl) (by first | exact trivial | exact Or.inr rfl | exact Or.inl rfl | (simp only [ob, obA, R32, R64] at *; omega) | (simp only [ob, obA, R32, R64] at *; and_intros <;> omega) | (simp [ob, obA])) ?_
  exact L n 0 0 G (by omega) rfl rfl (fun _ _ _ => rfl) (fun y => by rw [if_neg (by omega)])
