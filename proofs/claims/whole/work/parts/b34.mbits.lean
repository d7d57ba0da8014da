/-! THE MODEL: the bits of a set -/
theorem bo_ok : ∀ n, n < 256 → n ≠ 0 → iAnd (n : Nat) ((n : Nat) - 1) = ((n &&& (n - 1) : Nat) : Int) ∧ n &&& (n - 1) < n ∧ bitsN (n &&& (n - 1)) + 1 = bitsN n := by decide +kernel
theorem bo_0 : bitsN 0 = 0 := by decide +kernel
set_option maxRecDepth 100000 in
set_option maxHeartbeats 4000000 in
theorem c_mBitsOf {κ : Kx} (hκ : KOK κ) {d n : Nat} {G : Wd} (hn : n < 256) : Ct κ MX12_bitsOf d 0 0 [VI (n : Nat)] (Wm G) (keepG G (VI (bitsN n : Nat))) noX := by
  refine Ct_of hκ kX12_bitsOf.1 rfl (Nat.le_of_ble_eq_true rfl) (ls := [some (VI (n : Nat)), none, none]) rfl (fun μ => ?_)
  have hle := bitsN_le n hn
  have L : ∀ (k m a : Nat), m ≤ k → m < 256 → a + bitsN m = bitsN n → V κ MX12_bitsOf (rmD d 0 0) (keepG G (VI (bitsN n : Nat))) noX 0 0 μ 0 0 (Wm (G)) 4 [some (VI (n : Nat)), some (VI (a : Nat)), some (VI (m : Nat))] [] := by
    intro k
    induction k with
    | zero =>
      intro m a hm hm2 he
      obtain rfl : m = 0 := by omega
      rw [bo_0] at he
      refine V_ex sX12_bitsOf_4 (by rfl) (by first | exact trivial | exact Or.inr rfl | exact Or.inl rfl | (simp only [ob, obA, R32, R64] at *; omega) | (simp only [ob, obA, R32, R64] at *; and_intros <;> omega) | (simp [ob, obA])) ?_
      refine V_ifeq dX12_bitsOf_5 (tgt := 20) (by decide) (by simp only [R32, R64] at *; omega) (fun q5 => ?_) (fun q5 => ?_)
      · refine V_ex sX12_bitsOf_20 (by rfl) (by first | exact trivial | exact Or.inr rfl | exact Or.inl rfl | (simp only [ob, obA, R32, R64] at *; omega) | (simp only [ob, obA, R32, R64] at *; and_intros <;> omega) | (simp [ob, obA])) ?_
        refine V_iret dX12_bitsOf_21 rfl (by decide) ⟨by rw [← he]; rfl, rfl⟩
      · omega
    | succ k ih =>
      intro m a hm hm2 he
      by_cases h0 : m = 0
      · subst h0
        rw [bo_0] at he
        refine V_ex sX12_bitsOf_4 (by rfl) (by first | exact trivial | exact Or.inr rfl | exact Or.inl rfl | (simp only [ob, obA, R32, R64] at *; omega) | (simp only [ob, obA, R32, R64] at *; and_intros <;> omega) | (simp [ob, obA])) ?_
        refine V_ifeq dX12_bitsOf_5 (tgt := 20) (by decide) (by simp only [R32, R64] at *; omega) (fun q5 => ?_) (fun q5 => ?_)
        · refine V_ex sX12_bitsOf_20 (by rfl) (by first | exact trivial | exact Or.inr rfl | exact Or.inl rfl | (simp only [ob, obA, R32, R64] at *; omega) | (simp only [ob, obA, R32, R64] at *; and_intros <;> omega) | (simp [ob, obA])) ?_
          refine V_iret dX12_bitsOf_21 rfl (by decide) ⟨by rw [← he]; rfl, rfl⟩
        · omega
      · obtain ⟨e1, e2, e3⟩ := bo_ok m hm2 h0
        have nx := ih (m &&& (m - 1)) (a + 1) (by omega) (by omega) (by omega)
        refine V_ex sX12_bitsOf_4 (by rfl) (by first | exact trivial | exact Or.inr rfl | exact Or.inl rfl | (simp only [ob, obA, R32, R64] at *; omega) | (simp only [ob, obA, R32, R64] at *; and_intros <;> omega) | (simp [ob, obA])) ?_
        refine V_ifeq dX12_bitsOf_5 (tgt := 20) (by decide) (by simp only [R32, R64] at *; omega) (fun q5 => ?_) (fun q5 => ?_)
        · omega
        · refine V_ex sX12_bitsOf_8 (by simp only [Option.toList, List.cons_append, List.nil_append, exN, ex1, gI, gL, gR, pI, pL, pR, lget, lset1, lset2, kl, b2I, b2L, nob, ob32, ob64, xGet, xPut, xLen, xLd, xLdR, xSt, obA, true_and, and_true, and_self, eq_self, Nat.reduceEqDiff, Nat.zero_ne_one, reduceIte, Nat.reduceLeDiff, and_false, false_and, e1, upd2_eq, Int.reduceToNat, Int.toNat_natCast]; rfl) (by first | exact trivial | exact Or.inr rfl | exact Or.inl rfl | (simp only [ob, obA, R32, R64] at *; omega) | (simp only [ob, obA, R32, R64] at *; and_intros <;> omega) | (simp [ob, obA])) ?_
          refine V_goto dX12_bitsOf_17 (tgt := 4) (by decide) ?_
          exact nx
  refine V_ex sX12_bitsOf_0 (by rfl) (by first | exact trivial | exact Or.inr rfl | exact Or.inl rfl | (simp only [ob, obA, R32, R64] at *; omega) | (simp only [ob, obA, R32, R64] at *; and_intros <;> omega) | (simp [ob, obA])) ?_
  exact L n n 0 (Nat.le_refl _) hn (by omega)
