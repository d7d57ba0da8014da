/-! THE MODEL: feed -/
theorem fdS {w : Int} (h : R32 w) : ∀ k : Nat, k < 4 → iAnd (iShr w (24 - 8 * (k : Int))) 255 = fdB w k := by
  intro k hk
  rw [iAnd_255]
  rcases (show k = 0 ∨ k = 1 ∨ k = 2 ∨ k = 3 by omega) with rfl | rfl | rfl | rfl
  · rw [show (24 : Int) - 8 * ((0 : Nat) : Int) = 24 by decide, iShr_k h 24 24 (by decide)]; rfl
  · rw [show (24 : Int) - 8 * ((1 : Nat) : Int) = 16 by decide, iShr_k h 16 16 (by decide)]; rfl
  · rw [show (24 : Int) - 8 * ((2 : Nat) : Int) = 8 by decide, iShr_k h 8 8 (by decide)]; rfl
  · rw [show (24 : Int) - 8 * ((3 : Nat) : Int) = 0 by decide, iShr_k h 0 0 (by decide)]; show w / 1 % 256 = _; rw [Int.ediv_one]; rfl
/-- the tape's cells alone -/
def FTm (G G' : Wd) : Prop := G'.2 = G.2 ∧ ∀ x j, x ≠ 162 → ¬ (x = 145 ∧ (j = 2 ∨ j = 18)) → G'.1 x j = G.1 x j
theorem RM_t {G G' : Wd} {A : Ab} {f' : Nat → Int} {n' : Int} (h : RM G A) (f : FTm G G') (hn : G'.1 145 18 = n') (hf : ∀ j, j < 500 → G'.1 162 j = f' j) : RM G' (A.1, A.2.1, A.2.2.1, (A.2.2.2.1.1, n', f'), A.2.2.2.2) ∧ FrM G G' := by
  obtain ⟨r1, r2, r3, r4, r5, r6, r7, r8, r9⟩ := h
  have fi : ∀ x, x ≠ 162 → x ≠ 145 → G'.1 x = G.1 x := fun x a b => funext fun j => f.2 x j a (fun q => b q.1)
  have f5 : ∀ j, j ≠ 2 → j ≠ 18 → G'.1 145 j = G.1 145 j := fun j a b => f.2 145 j (by omega) (by omega)
  refine ⟨⟨mS0_c r1 (fun x a b => fi x (by omega) (by omega)), evM_c r2 (Or.inl rfl) (fun j hj => f5 j (by omega) (by omega)) (fun j _ => by rw [f.1]) (fun x hx => fi x (by omega) (by omega)), by rw [f5 60 (by omega) (by omega)]; exact r3, imM_c r4 (fun j hj => f5 j (by omega) (by omega)) (by rw [f.1]) (fun x hx => fi x (by omega) (by omega)), by rw [f5 28 (by omega) (by omega)]; exact r5, hn, hf, ?_, ?_⟩, fun x a => fi x (by omega) (by omega), fun x _ => by rw [f.1], by rw [f.1]⟩
  · rw [f5 57 (by omega) (by omega)]; exact kpO_c r8 (fi 176 (by omega) (by omega))
  · rw [f5 58 (by omega) (by omega)]; exact kpO_c r9 (fi 178 (by omega) (by omega))
set_option maxRecDepth 100000 in
set_option maxHeartbeats 4000000 in
theorem c_mxFeed {κ : Kx} (hκ : KOK κ) {d : Nat} {K a b c e g : Int} {A : Ab} {G : Wd} (hC : RM G A) (hI : Inv K A) (ha : R32 a) (hb : R32 b) (hc : R32 c) (he : R32 e) (hg : R32 g) (hd : 20 ≤ d) : Ct κ MX12_feed d 0 0 [VR 145, VI a, VI b, VI c, VI e, VI g] (Wm G) (mdP G (feedP A a b c e g).2.2 (some (VI (feedP A a b c e g).2.1)) (feedP A a b c e g).1) noX := by
  refine Ct_of hκ kX12_feed.1 rfl (Nat.le_of_ble_eq_true rfl) (ls := [some (VR 145), some (VI a), some (VI b), some (VI c), some (VI e), some (VI g), none, none]) rfl (fun μ => ?_)
  have e18 : upd2 G.1 145 2 0 145 18 = A.2.2.2.1.2.1 := (uv (by omega)).trans hC.2.2.2.2.2.1
  have ht := hI.2.2.2.2.1
  by_cases h5 : 500 < A.2.2.2.1.2.1 + 20
  · have ee : feedP A a b c e g = (0, -1, A) := by unfold feedP; rw [if_pos h5]
    refine V_ex sX12_feed_0 (by simp only [Option.toList, List.cons_append, List.nil_append, exN, ex1, gI, gL, gR, pI, pL, pR, lget, lset1, lset2, kl, b2I, b2L, nob, ob32, ob64, xGet, xPut, xLen, xLd, xLdR, xSt, obA, true_and, and_true, and_self, eq_self, Nat.reduceEqDiff, Nat.zero_ne_one, reduceIte, Nat.reduceLeDiff, and_false, false_and, show skd 11 2 = 0 from rfl, show skd 11 18 = 0 from rfl, show LF.1 145 = some (.inl 11) from rfl, e18, upd2_eq, Int.reduceToNat, Int.toNat_natCast]; rfl) (by first | exact trivial | exact Or.inr rfl | exact Or.inl rfl | (simp only [ob, obA, R32, R64] at *; omega) | (simp only [ob, obA, R32, R64] at *; and_intros <;> omega) | (simp [ob, obA])) ?_
    refine V_icmple dX12_feed_15 (tgt := 20) (by decide) (by simp only [R32, R64] at *; omega) (fun q15 => ?_) (fun q15 => ?_)
    · omega
    · refine V_ex sX12_feed_18 (by rfl) (by first | exact trivial | exact Or.inr rfl | exact Or.inl rfl | (simp only [ob, obA, R32, R64] at *; omega) | (simp only [ob, obA, R32, R64] at *; and_intros <;> omega) | (simp [ob, obA])) ?_
      refine V_iret dX12_feed_19 rfl (by decide) (by rw [ee]; exact md_0 hC rfl rfl)
  · have ee : feedP A a b c e g = (0, A.2.2.2.1.2.1 + 20, (A.1, A.2.1, A.2.2.1, (A.2.2.2.1.1, A.2.2.2.1.2.1 + 20, tpF A.2.2.2.1.2.2 A.2.2.2.1.2.1.toNat a b c e g), A.2.2.2.2)) := by unfold feedP; rw [if_neg h5]
    obtain ⟨n, hn⟩ : ∃ n : Nat, A.2.2.2.1.2.1 = (n : Int) := ⟨A.2.2.2.1.2.1.toNat, by omega⟩
    have hnt : A.2.2.2.1.2.1.toNat = n := by omega
    have L : ∀ (k i : Nat) (ii : Int) (G1 : Wd) (x : Option Vl), i + k = 20 → ii = (i : Int) → FTm G G1 → G1.1 145 2 = 0 → G1.1 145 18 = ((n + i : Nat) : Int) → (∀ y, G1.1 162 y = if n ≤ y ∧ y < n + i then fdB (match (y - n) / 4 with | 0 => a | 1 => b | 2 => c | 3 => e | _ => g) ((y - n) % 4) else G.1 162 y) → V κ MX12_feed (rmD d 0 0) (mdP G (feedP A a b c e g).2.2 (some (VI (feedP A a b c e g).2.1)) (feedP A a b c e g).1) noX 0 0 μ 0 0 (Wm (G1)) 23 [some (VR 145), some (VI a), some (VI b), some (VI c), some (VI e), some (VI g), some (VI ii), x] [] := by
      intro k
      induction k with
      | zero =>
        intro i ii G1 x hik hii f1 c0 h18 h162
        obtain rfl : i = 20 := by omega
        refine V_ex sX12_feed_23 (by rfl) (by first | exact trivial | exact Or.inr rfl | exact Or.inl rfl | (simp only [ob, obA, R32, R64] at *; omega) | (simp only [ob, obA, R32, R64] at *; and_intros <;> omega) | (simp [ob, obA])) ?_
        refine V_icmpge dX12_feed_27 (tgt := 120) (by decide) (by simp only [R32, R64] at *; omega) (fun q27 => ?_) (fun q27 => ?_)
        · refine V_ex sX12_feed_120 (by simp only [Option.toList, List.cons_append, List.nil_append, exN, ex1, gI, gL, gR, pI, pL, pR, lget, lset1, lset2, kl, b2I, b2L, nob, ob32, ob64, xGet, xPut, xLen, xLd, xLdR, xSt, obA, true_and, and_true, and_self, eq_self, Nat.reduceEqDiff, Nat.zero_ne_one, reduceIte, Nat.reduceLeDiff, and_false, false_and, show skd 11 18 = 0 from rfl, show LF.1 145 = some (.inl 11) from rfl, h18, upd2_eq, Int.reduceToNat, Int.toNat_natCast]; rfl) (by first | exact trivial | exact Or.inr rfl | exact Or.inl rfl | (simp only [ob, obA, R32, R64] at *; omega) | (simp only [ob, obA, R32, R64] at *; and_intros <;> omega) | (simp [ob, obA])) ?_
          refine V_iret dX12_feed_124 rfl (by decide) ?_
          rw [ee, hn, hnt] at *
          obtain ⟨z1, z2⟩ := RM_t (f' := tpF A.2.2.2.1.2.2 n a b c e g) (n' := (n : Int) + 20) hC f1 (by rw [h18]; omega) (fun y hy => by unfold tpF; rw [h162 y]; split; rfl; exact hC.2.2.2.2.2.2.1 y hy)
          exact ⟨by congr 2, G1, rfl, z1, z2, c0⟩
        · omega
      | succ k ih =>
        intro i ii G1 x hik hii f1 c0 h18 h162
        subst hii
        have tail : ∀ w, R32 w → w = (match i / 4 with | 0 => a | 1 => b | 2 => c | 3 => e | _ => g) → V κ MX12_feed (rmD d 0 0) (mdP G (feedP A a b c e g).2.2 (some (VI (feedP A a b c e g).2.1)) (feedP A a b c e g).1) noX 0 0 μ 0 0 (Wm (G1)) 76 [some (VR 145), some (VI a), some (VI b), some (VI c), some (VI e), some (VI g), some (VI (i : Nat)), x] [VI w] := fun w hw hwe => by
          have em : Int.tmod (i : Int) 4 = ((i % 4 : Nat) : Int) := by rw [tm_nn (by omega)]; omega
          have hfd := fdS hw (i % 4) (by omega)
          have b1 : ∀ v, upd2 G1.1 162 (n + i) v 145 18 = ((n + i : Nat) : Int) := fun v => by rw [uv (by omega)]; exact h18
          have en : ((n + i : Nat) : Int) + 1 = ((n + (i + 1) : Nat) : Int) := by omega
          have nx := ih (i + 1) ((i : Int) + 1) (uI (uI G1 162 (n + i) (fdB w (i % 4))) 145 18 ((n + (i + 1) : Nat) : Int)) (some (VI w)) (by omega) (by omega) ⟨f1.1, fun y z p q => by rw [iv (by omega), iv (by omega)]; exact f1.2 y z p q⟩ (by rw [iv (by omega), iv (by omega)]; exact c0) iu (fun y => by
            rw [iv (by omega)]
            by_cases cc : y = n + i
            · subst cc
              rw [iu, if_pos (by omega), show n + i - n = i by omega, hwe]
            · rw [iv (by omega), h162 y]
              by_cases c2 : n ≤ y ∧ y < n + i
              · rw [if_pos c2, if_pos (by omega)]
              · rw [if_neg c2, if_neg (by omega)])
          refine V_ex sX12_feed_76 (by simp only [Option.toList, List.cons_append, List.nil_append, exN, ex1, gI, gL, gR, pI, pL, pR, lget, lset1, lset2, kl, b2I, b2L, nob, ob32, ob64, xGet, xPut, xLen, xLd, xLdR, xSt, obA, true_and, and_true, and_self, eq_self, Nat.reduceEqDiff, Nat.zero_ne_one, reduceIte, Nat.reduceLeDiff, and_false, false_and, show skd 11 17 = 2 from rfl, show skd 11 18 = 0 from rfl, show LF.1 145 = some (.inl 11) from rfl, show LF.2 145 17 = some 162 from rfl, show LF.1 162 = some (.inr (0, 500)) from rfl, h18, em, hfd, b1, en, Int.toNat_natCast, upd2_eq, Int.reduceToNat, Int.toNat_natCast]; rfl) (by (simp only [ob, obA, R32]; and_intros <;> omega)) ?_
          refine V_goto dX12_feed_117 (tgt := 23) (by decide) ?_
          exact nx
        refine V_ex sX12_feed_23 (by rfl) (by first | exact trivial | exact Or.inr rfl | exact Or.inl rfl | (simp only [ob, obA, R32, R64] at *; omega) | (simp only [ob, obA, R32, R64] at *; and_intros <;> omega) | (simp [ob, obA])) ?_
        refine V_icmpge dX12_feed_27 (tgt := 120) (by decide) (by simp only [R32, R64] at *; omega) (fun q27 => ?_) (fun q27 => ?_)
        · omega
        · refine V_ex sX12_feed_30 (by rfl) (by first | exact trivial | exact Or.inr rfl | exact Or.inl rfl | (simp only [ob, obA, R32, R64] at *; omega) | (simp only [ob, obA, R32, R64] at *; and_intros <;> omega) | (simp [ob, obA])) ?_
          refine V_icmpge dX12_feed_33 (tgt := 40) (by decide) (by simp only [R32, R64] at *; omega) (fun q33 => ?_) (fun q33 => ?_)
          · refine V_ex sX12_feed_40 (by rfl) (by first | exact trivial | exact Or.inr rfl | exact Or.inl rfl | (simp only [ob, obA, R32, R64] at *; omega) | (simp only [ob, obA, R32, R64] at *; and_intros <;> omega) | (simp [ob, obA])) ?_
            refine V_icmpge dX12_feed_44 (tgt := 51) (by decide) (by simp only [R32, R64] at *; omega) (fun q44 => ?_) (fun q44 => ?_)
            · refine V_ex sX12_feed_51 (by rfl) (by first | exact trivial | exact Or.inr rfl | exact Or.inl rfl | (simp only [ob, obA, R32, R64] at *; omega) | (simp only [ob, obA, R32, R64] at *; and_intros <;> omega) | (simp [ob, obA])) ?_
              refine V_icmpge dX12_feed_55 (tgt := 62) (by decide) (by simp only [R32, R64] at *; omega) (fun q55 => ?_) (fun q55 => ?_)
              · refine V_ex sX12_feed_62 (by rfl) (by first | exact trivial | exact Or.inr rfl | exact Or.inl rfl | (simp only [ob, obA, R32, R64] at *; omega) | (simp only [ob, obA, R32, R64] at *; and_intros <;> omega) | (simp [ob, obA])) ?_
                refine V_icmpge dX12_feed_66 (tgt := 74) (by decide) (by simp only [R32, R64] at *; omega) (fun q66 => ?_) (fun q66 => ?_)
                · refine V_ex sX12_feed_74 (by rfl) (by first | exact trivial | exact Or.inr rfl | exact Or.inl rfl | (simp only [ob, obA, R32, R64] at *; omega) | (simp only [ob, obA, R32, R64] at *; and_intros <;> omega) | (simp [ob, obA])) ?_
                  exact tail g hg (by rw [show i / 4 = 4 by omega]; rfl)
                · refine V_ex sX12_feed_69 (by rfl) (by first | exact trivial | exact Or.inr rfl | exact Or.inl rfl | (simp only [ob, obA, R32, R64] at *; omega) | (simp only [ob, obA, R32, R64] at *; and_intros <;> omega) | (simp [ob, obA])) ?_
                  refine V_goto dX12_feed_71 (tgt := 76) (by decide) ?_
                  exact tail e he (by rw [show i / 4 = 3 by omega]; rfl)
              · refine V_ex sX12_feed_58 (by rfl) (by first | exact trivial | exact Or.inr rfl | exact Or.inl rfl | (simp only [ob, obA, R32, R64] at *; omega) | (simp only [ob, obA, R32, R64] at *; and_intros <;> omega) | (simp [ob, obA])) ?_
                refine V_goto dX12_feed_59 (tgt := 76) (by decide) ?_
                exact tail c hc (by rw [show i / 4 = 2 by omega]; rfl)
            · refine V_ex sX12_feed_47 (by rfl) (by first | exact trivial | exact Or.inr rfl | exact Or.inl rfl | (simp only [ob, obA, R32, R64] at *; omega) | (simp only [ob, obA, R32, R64] at *; and_intros <;> omega) | (simp [ob, obA])) ?_
              refine V_goto dX12_feed_48 (tgt := 76) (by decide) ?_
              exact tail b hb (by rw [show i / 4 = 1 by omega]; rfl)
          · refine V_ex sX12_feed_36 (by rfl) (by first | exact trivial | exact Or.inr rfl | exact Or.inl rfl | (simp only [ob, obA, R32, R64] at *; omega) | (simp only [ob, obA, R32, R64] at *; and_intros <;> omega) | (simp [ob, obA])) ?_
            refine V_goto dX12_feed_37 (tgt := 76) (by decide) ?_
            exact tail a ha (by rw [show i / 4 = 0 by omega]; rfl)
    refine V_ex sX12_feed_0 (by simp only [Option.toList, List.cons_append, List.nil_append, exN, ex1, gI, gL, gR, pI, pL, pR, lget, lset1, lset2, kl, b2I, b2L, nob, ob32, ob64, xGet, xPut, xLen, xLd, xLdR, xSt, obA, true_and, and_true, and_self, eq_self, Nat.reduceEqDiff, Nat.zero_ne_one, reduceIte, Nat.reduceLeDiff, and_false, false_and, show skd 11 2 = 0 from rfl, show skd 11 18 = 0 from rfl, show LF.1 145 = some (.inl 11) from rfl, e18, upd2_eq, Int.reduceToNat, Int.toNat_natCast]; rfl) (by first | exact trivial | exact Or.inr rfl | exact Or.inl rfl | (simp only [ob, obA, R32, R64] at *; omega) | (simp only [ob, obA, R32, R64] at *; and_intros <;> omega) | (simp [ob, obA])) ?_
    refine V_icmple dX12_feed_15 (tgt := 20) (by decide) (by simp only [R32, R64] at *; omega) (fun q15 => ?_) (fun q15 => ?_)
    · refine V_ex sX12_feed_20 (by rfl) (by first | exact trivial | exact Or.inr rfl | exact Or.inl rfl | (simp only [ob, obA, R32, R64] at *; omega) | (simp only [ob, obA, R32, R64] at *; and_intros <;> omega) | (simp [ob, obA])) ?_
      exact L 20 0 0 (uI G 145 2 0) _ (by omega) rfl ⟨rfl, fun y z p q => iv (by omega)⟩ iu (by rw [show n + 0 = n by omega, ← hn]; exact e18) (fun y => by rw [iv (by omega), if_neg (by omega)])
    · omega
