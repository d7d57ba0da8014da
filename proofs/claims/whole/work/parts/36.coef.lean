/-! Ways: a power's coefficient -/
def mulS (u : Nat) (c : Nat → Int) : Nat → Int := fun i => if u ≤ i then c i - c (i - u) else c i
def divS (t : Nat) (c : Nat → Int) (i : Nat) : Int := if h : t ≤ i ∧ 0 < t then c i + divS t c (i - t) else c i
termination_by i
decreasing_by omega
def coS (m : Nat) : Nat → Nat → Int
  | 0 => fun i => if i = 0 then 1 else 0
  | t + 1 => divS (t + 1) (mulS (m + t + 1) (coS m t))
set_option maxRecDepth 100000 in
set_option maxHeartbeats 4000000 in
theorem c_coefficient {κ : Kx} (hκ : KOK κ) {d k n p : Nat} {G : Wd} (hk : k ≤ n) (hn : n ≤ 1000) (hp : p < 451) : Ct κ MX10_coefficient d 0 0 [VR 133, VI (k : Nat), VI (n : Nat), VI (p : Nat)] (Wm G) (fun v Ω' => v = some (VL (coS (n - k) k p)) ∧ ∃ G', Ω' = Wm G' ∧ Fs [] [134] G G') noX := by
  refine Ct_of hκ kX10_coefficient.1 rfl (Nat.le_of_ble_eq_true rfl) (ls := [some (VR 133), some (VI (k : Nat)), some (VI (n : Nat)), some (VI (p : Nat)), none, none, none]) rfl (fun μ => ?_)
  refine V_ex sX10_coefficient_0 (by rfl) (by first | exact trivial | exact Or.inl trivial | exact Or.inr rfl | exact Or.inl rfl) ?_
  refine V_iflt dX10_coefficient_1 (tgt := 13) (by decide) (by unfold R32; omega) (fun q => ?_) (fun q => ?_)
  · omega
  · refine V_ex sX10_coefficient_4 (by simp only [Option.toList, List.cons_append, List.nil_append, exN, ex1, gI, gL, gR, pI, pL, pR, lget, lset1, lset2, kl, b2I, b2L, nob, ob32, ob64, xGet, xPut, xLen, xLd, xLdR, xSt, obA, true_and, and_true, and_self, eq_self, Nat.reduceEqDiff, Nat.zero_ne_one, reduceIte, Nat.reduceLeDiff, and_false, false_and, show skd 9 0 = 2 from rfl, show LF.1 133 = some (.inl 9) from rfl, show LF.2 133 0 = some 134 from rfl, show LF.1 134 = some (.inr (1, 451)) from rfl]; rfl) (by first | exact trivial | exact Or.inl trivial | exact Or.inr rfl | exact Or.inl rfl) ?_
    refine V_icmplt dX10_coefficient_10 (tgt := 15) (by decide) (by unfold R32; constructor <;> omega) (fun q2 => ?_) (fun q2 => ?_)
    · refine V_ex sX10_coefficient_15 (by rfl) (by first | exact trivial | exact Or.inl trivial | exact Or.inr rfl | exact Or.inl rfl) ?_
      suffices L1 : ∀ (r i : Nat) (ii : Int) (G' : Wd), ii = (i : Int) → i + r = p + 1 → Fs [] [134] G G' → (∀ j, 1 ≤ j → j < i → G'.2.1 134 j = 0) → V κ MX10_coefficient (rmD d 0 0) (fun v Ω' => v = some (VL (coS (n - k) k p)) ∧ ∃ G', Ω' = Wm G' ∧ Fs [] [134] G G') noX 0 0 μ 0 0 (Wm G') 18 [some (VR 133), some (VI (k : Nat)), some (VI (n : Nat)), some (VI (p : Nat)), some (VI ii), none, none] [] from L1 p 1 1 G rfl (by omega) (Fs.refl _ _ _) (fun j h1 h2 => by omega)
      intro r
      induction r with
      | zero =>
        intro i ii G' hi hr f1 hz
        subst hi
        refine V_ex sX10_coefficient_18 (by rfl) (by first | exact trivial | exact Or.inl trivial | exact Or.inr rfl | exact Or.inl rfl) ?_
        refine V_icmpgt dX10_coefficient_21 (tgt := 38) (by decide) (by unfold R32; constructor <;> omega) (fun q3 => ?_) (fun q3 => ?_)
        · refine V_ex sX10_coefficient_38 (by simp only [Option.toList, List.cons_append, List.nil_append, exN, ex1, gI, gL, gR, pI, pL, pR, lget, lset1, lset2, kl, b2I, b2L, nob, ob32, ob64, xGet, xPut, xLen, xLd, xLdR, xSt, obA, true_and, and_true, and_self, eq_self, Nat.reduceEqDiff, Nat.zero_ne_one, reduceIte, Nat.reduceLeDiff, and_false, false_and, show skd 9 0 = 2 from rfl, show LF.1 133 = some (.inl 9) from rfl, show LF.2 133 0 = some 134 from rfl, show LF.1 134 = some (.inr (1, 451)) from rfl]; rfl) (by exact ⟨by omega, by omega⟩) ?_
          suffices L2 : ∀ (r t : Nat) (tt : Int) (G' : Wd) (x y : Option Vl), tt = (t : Int) + 1 → t + r = k → Fs [] [134] G G' → (∀ j, j ≤ p → G'.2.1 134 j = coS (n - k) t j) → V κ MX10_coefficient (rmD d 0 0) (fun v Ω' => v = some (VL (coS (n - k) k p)) ∧ ∃ G', Ω' = Wm G' ∧ Fs [] [134] G G') noX 0 0 μ 0 0 (Wm G') 48 [some (VR 133), some (VI (k : Nat)), some (VI (n : Nat)), some (VI (p : Nat)), some (VI tt), x, y] [] from
            L2 k 0 1 _ _ _ rfl (by omega) (f1.updL (by decide)) (fun j hj => by
              simp only [upd2_eq, coS]
              by_cases h0 : j = 0
              · simp [h0]
              · rw [if_neg (by simp; omega), if_neg h0]; exact hz j (by omega) (by omega))
          intro r
          induction r with
          | zero =>
            intro t tt G' x y ht hr f1 hc
            refine V_ex sX10_coefficient_48 (by rfl) (by first | exact trivial | exact Or.inl trivial | exact Or.inr rfl | exact Or.inl rfl) ?_
            refine V_icmpgt dX10_coefficient_51 (tgt := 145) (by decide) (by unfold R32; constructor <;> omega) (fun q4 => ?_) (fun q4 => ?_)
            · refine V_ex sX10_coefficient_145 (by simp only [Option.toList, List.cons_append, List.nil_append, exN, ex1, gI, gL, gR, pI, pL, pR, lget, lset1, lset2, kl, b2I, b2L, nob, ob32, ob64, xGet, xPut, xLen, xLd, xLdR, xSt, obA, true_and, and_true, and_self, eq_self, Nat.reduceEqDiff, Nat.zero_ne_one, reduceIte, Nat.reduceLeDiff, and_false, false_and, show skd 9 0 = 2 from rfl, show LF.1 133 = some (.inl 9) from rfl, show LF.2 133 0 = some 134 from rfl, show LF.1 134 = some (.inr (1, 451)) from rfl, Int.toNat_natCast]; rfl) (by exact ⟨by omega, by omega⟩) ?_
              refine V_lret dX10_coefficient_151 rfl (by decide) ⟨by rw [hc p (by omega), show t = k by omega], G', rfl, f1⟩
            · omega
          | succ r ih =>
            intro t tt G' x y ht hr f1 hc
            subst ht
            refine V_ex sX10_coefficient_48 (by rfl) (by first | exact trivial | exact Or.inl trivial | exact Or.inr rfl | exact Or.inl rfl) ?_
            refine V_icmpgt dX10_coefficient_51 (tgt := 145) (by decide) (by unfold R32; constructor <;> omega) (fun q4 => ?_) (fun q4 => ?_)
            · omega
            · have hup : (n : Int) - (k : Int) + ((t : Int) + 1) = ((n - k + t + 1 : Nat) : Int) := by omega
              -- the second inner loop
              have L4 : ∀ (r4 i : Nat) (ii : Int) (G4 : Wd) (u : Option Vl), ii = (i : Int) → t + 1 ≤ i → i ≤ 2000 → (i + r4 = p + 1 ∨ (r4 = 0 ∧ p < i)) → Fs [] [134] G G4 → (∀ j, j ≤ p → G4.2.1 134 j = if j < i then coS (n - k) (t + 1) j else mulS (n - k + t + 1) (coS (n - k) t) j) → V κ MX10_coefficient (rmD d 0 0) (fun v Ω' => v = some (VL (coS (n - k) k p)) ∧ ∃ G', Ω' = Wm G' ∧ Fs [] [134] G G') noX 0 0 μ 0 0 (Wm G4) 107 [some (VR 133), some (VI (k : Nat)), some (VI (n : Nat)), some (VI (p : Nat)), some (VI ((t : Int) + 1)), u, some (VI ii)] [] := by
                intro r4
                induction r4 with
                | zero =>
                  intro i ii G4 u hi hti hi2 hr4 f4 h4
                  refine V_ex sX10_coefficient_107 (by rfl) (by first | exact trivial | exact Or.inl trivial | exact Or.inr rfl | exact Or.inl rfl) ?_
                  refine V_icmpgt dX10_coefficient_110 (tgt := 139) (by decide) (by unfold R32; constructor <;> omega) (fun q5 => ?_) (fun q5 => ?_)
                  · refine V_ex sX10_coefficient_139 (by rfl) (by first | exact trivial | exact Or.inl trivial | exact Or.inr rfl | exact Or.inl rfl) ?_
                    refine V_goto dX10_coefficient_142 (tgt := 48) (by decide) ?_
                    exact ih (t + 1) _ G4 _ _ (by omega) (by omega) f4 (fun j hj => by rw [h4 j hj, if_pos (by omega)])
                  · omega
                | succ r4 ih4 =>
                  intro i ii G4 u hi hti hi2 hr4 f4 h4
                  subst hi
                  refine V_ex sX10_coefficient_107 (by rfl) (by first | exact trivial | exact Or.inl trivial | exact Or.inr rfl | exact Or.inl rfl) ?_
                  refine V_icmpgt dX10_coefficient_110 (tgt := 139) (by decide) (by unfold R32; constructor <;> omega) (fun q5 => ?_) (fun q5 => ?_)
                  · omega
                  · refine V_ex sX10_coefficient_113 (by simp only [Option.toList, List.cons_append, List.nil_append, exN, ex1, gI, gL, gR, pI, pL, pR, lget, lset1, lset2, kl, b2I, b2L, nob, ob32, ob64, xGet, xPut, xLen, xLd, xLdR, xSt, obA, true_and, and_true, and_self, eq_self, Nat.reduceEqDiff, Nat.zero_ne_one, reduceIte, Nat.reduceLeDiff, and_false, false_and, show skd 9 0 = 2 from rfl, show LF.1 133 = some (.inl 9) from rfl, show LF.2 133 0 = some 134 from rfl, show LF.1 134 = some (.inr (1, 451)) from rfl, Int.toNat_natCast]; rfl) (by show _ ∧ _; omega) ?_
                    refine V_goto dX10_coefficient_136 (tgt := 107) (by decide) ?_
                    refine ih4 (i + 1) _ _ _ (by omega) (by omega) (by omega) (by omega) (f4.updL (by decide)) (fun j hj => ?_)
                    simp only [upd2_eq]
                    have ei : ((i : Int) - ((t : Int) + 1)).toNat = i - (t + 1) := by omega
                    by_cases hji : j = i
                    · subst hji
                      rw [if_pos ⟨trivial, rfl⟩, if_pos (by omega), ei, h4 j hj, if_neg (by omega), h4 _ (by omega), if_pos (by omega)]
                      conv => rhs; rw [coS, divS, dif_pos ⟨by omega, by omega⟩]
                      rfl
                    · rw [if_neg (by omega), h4 j hj]
                      by_cases hj2 : j < i
                      · rw [if_pos hj2, if_pos (by omega)]
                      · rw [if_neg hj2, if_neg (by omega)]
              have L3 : ∀ (e : Nat) (ii : Int) (G3 : Wd), ii = (e : Int) - 1 → e ≤ p + 1 → Fs [] [134] G G3 → (∀ j, j ≤ p → G3.2.1 134 j = if e ≤ j then mulS (n - k + t + 1) (coS (n - k) t) j else coS (n - k) t j) → V κ MX10_coefficient (rmD d 0 0) (fun v Ω' => v = some (VL (coS (n - k) k p)) ∧ ∃ G', Ω' = Wm G' ∧ Fs [] [134] G G') noX 0 0 μ 0 0 (Wm G3) 65 [some (VR 133), some (VI (k : Nat)), some (VI (n : Nat)), some (VI (p : Nat)), some (VI ((t : Int) + 1)), some (VI ((n - k + t + 1 : Nat) : Int)), some (VI ii)] [] := by
                intro e
                have stop : ∀ (e : Nat) (ii : Int) (G3 : Wd), e ≤ n - k + t + 1 → e ≤ p + 1 → Fs [] [134] G G3 → (∀ j, j ≤ p → G3.2.1 134 j = if e ≤ j then mulS (n - k + t + 1) (coS (n - k) t) j else coS (n - k) t j) → V κ MX10_coefficient (rmD d 0 0) (fun v Ω' => v = some (VL (coS (n - k) k p)) ∧ ∃ G', Ω' = Wm G' ∧ Fs [] [134] G G') noX 0 0 μ 0 0 (Wm G3) 103 [some (VR 133), some (VI (k : Nat)), some (VI (n : Nat)), some (VI (p : Nat)), some (VI ((t : Int) + 1)), some (VI ((n - k + t + 1 : Nat) : Int)), some (VI ii)] [] := fun e ii G3 he hep f3 h3 => by
                  refine V_ex sX10_coefficient_103 (by rfl) (by first | exact trivial | exact Or.inl trivial | exact Or.inr rfl | exact Or.inl rfl) ?_
                  refine L4 (p - t) (t + 1) _ G3 _ (by omega) (by omega) (by omega) (by omega) f3 (fun j hj => ?_)
                  have em : mulS (n - k + t + 1) (coS (n - k) t) j = G3.2.1 134 j := by
                    rw [h3 j hj]
                    by_cases h5 : e ≤ j
                    · rw [if_pos h5]
                    · rw [if_neg h5, mulS, if_neg (by omega)]
                  rw [← em]
                  by_cases hjt : j < t + 1
                  · rw [if_pos hjt, coS, divS, dif_neg (by omega)]
                  · rw [if_neg hjt]
                induction e with
                | zero =>
                  intro ii G3 hii hep f3 h3
                  refine V_ex sX10_coefficient_65 (by rfl) (by first | exact trivial | exact Or.inl trivial | exact Or.inr rfl | exact Or.inl rfl) ?_
                  refine V_ifle dX10_coefficient_67 (tgt := 103) (by decide) (by unfold R32; omega) (fun q5 => ?_) (fun q5 => ?_)
                  · omega
                  · refine V_ex sX10_coefficient_70 (by rfl) (by first | exact trivial | exact Or.inl trivial | exact Or.inr rfl | exact Or.inl rfl) ?_
                    refine V_icmplt dX10_coefficient_74 (tgt := 103) (by decide) (by unfold R32; constructor <;> omega) (fun q6 => ?_) (fun q6 => ?_)
                    · exact stop 0 ii G3 (by omega) hep f3 h3
                    · omega
                | succ e ihe =>
                  intro ii G3 hii hep f3 h3
                  obtain rfl : ii = (e : Int) := by omega
                  refine V_ex sX10_coefficient_65 (by rfl) (by first | exact trivial | exact Or.inl trivial | exact Or.inr rfl | exact Or.inl rfl) ?_
                  refine V_ifle dX10_coefficient_67 (tgt := 103) (by decide) (by unfold R32; omega) (fun q5 => ?_) (fun q5 => ?_)
                  · omega
                  · refine V_ex sX10_coefficient_70 (by rfl) (by first | exact trivial | exact Or.inl trivial | exact Or.inr rfl | exact Or.inl rfl) ?_
                    refine V_icmplt dX10_coefficient_74 (tgt := 103) (by decide) (by unfold R32; constructor <;> omega) (fun q6 => ?_) (fun q6 => ?_)
                    · exact stop (e + 1) _ G3 (by omega) hep f3 h3
                    · refine V_ex sX10_coefficient_77 (by simp only [Option.toList, List.cons_append, List.nil_append, exN, ex1, gI, gL, gR, pI, pL, pR, lget, lset1, lset2, kl, b2I, b2L, nob, ob32, ob64, xGet, xPut, xLen, xLd, xLdR, xSt, obA, true_and, and_true, and_self, eq_self, Nat.reduceEqDiff, Nat.zero_ne_one, reduceIte, Nat.reduceLeDiff, and_false, false_and, show skd 9 0 = 2 from rfl, show LF.1 133 = some (.inl 9) from rfl, show LF.2 133 0 = some 134 from rfl, show LF.1 134 = some (.inr (1, 451)) from rfl, Int.toNat_natCast]; rfl) (by show _ ∧ _; omega) ?_
                      refine V_goto dX10_coefficient_100 (tgt := 65) (by decide) ?_
                      refine ihe _ _ (by omega) (by omega) (f3.updL (by decide)) (fun j hj => ?_)
                      simp only [upd2_eq]
                      have ei : ((e : Int) - ((n - k + t + 1 : Nat) : Int)).toNat = e - (n - k + t + 1) := by omega
                      by_cases hje : j = e
                      · subst hje
                        rw [if_pos ⟨trivial, rfl⟩, if_pos (by omega), ei, h3 j hj, if_neg (by omega), h3 _ (by omega), if_neg (by omega), mulS, if_pos (by omega)]
                      · rw [if_neg (by omega), h3 j hj]
                        by_cases hj2 : e ≤ j
                        · rw [if_pos (by omega), if_pos hj2]
                        · rw [if_neg (by omega), if_neg hj2]
              refine V_ex sX10_coefficient_54 (by rfl) (by first | exact trivial | exact Or.inl trivial | exact Or.inr rfl | exact Or.inl rfl) ?_
              rw [hup]
              exact L3 (p + 1) _ G' (by omega) (by omega) f1 (fun j hj => by rw [hc j hj, if_neg (by omega)])
        · omega
      | succ r ih =>
        intro i ii G' hi hr f1 hz
        subst hi
        refine V_ex sX10_coefficient_18 (by rfl) (by first | exact trivial | exact Or.inl trivial | exact Or.inr rfl | exact Or.inl rfl) ?_
        refine V_icmpgt dX10_coefficient_21 (tgt := 38) (by decide) (by unfold R32; constructor <;> omega) (fun q3 => ?_) (fun q3 => ?_)
        · omega
        · refine V_ex sX10_coefficient_24 (by simp only [Option.toList, List.cons_append, List.nil_append, exN, ex1, gI, gL, gR, pI, pL, pR, lget, lset1, lset2, kl, b2I, b2L, nob, ob32, ob64, xGet, xPut, xLen, xLd, xLdR, xSt, obA, true_and, and_true, and_self, eq_self, Nat.reduceEqDiff, Nat.zero_ne_one, reduceIte, Nat.reduceLeDiff, and_false, false_and, show skd 9 0 = 2 from rfl, show LF.1 133 = some (.inl 9) from rfl, show LF.2 133 0 = some 134 from rfl, show LF.1 134 = some (.inr (1, 451)) from rfl, Int.toNat_natCast]; rfl) (by exact ⟨by omega, by omega⟩) ?_
          refine V_goto dX10_coefficient_35 (tgt := 18) (by decide) ?_
          refine ih (i + 1) _ _ (by omega) (by omega) (f1.updL (by decide)) (fun j h1 h2 => ?_)
          simp only [upd2_eq]
          by_cases hji : j = i
          · simp [hji]
          · rw [if_neg (by omega)]; exact hz j h1 (by omega)
    · omega
