/-! THE MODEL: sum, figures, page, index, tells -/
theorem pwC_pos {f : Int} (hf : 1 ≤ f) : ∀ (k : Nat) (v pw z : Int), 1 ≤ pw → 1 ≤ v → v < 10 ^ k → pwC f k v pw = some z → 1 ≤ z := by
  have hnn : ∀ (k : Nat) (v pw z : Int), 1 ≤ pw → 0 ≤ v → pwC f k v pw = some z → 0 ≤ z := by
    intro k
    induction k with
    | zero => intro v pw z h h0 hz; rw [pwC] at hz; cases hz; exact Int.le_refl _
    | succ k ih =>
      intro v pw z h h0 hz
      rw [pwC] at hz
      split at hz
      · cases hz; exact Int.le_refl _
      · split at hz
        · cases hz
        · obtain ⟨y, hy, hyz⟩ := Option.map_eq_some_iff.mp hz
          have h3 := ih (v / 10) (pw * 9) y (by omega) (by omega) hy
          have h5 : (0 : Int) ≤ (if f < v % 10 then v % 10 - 1 else v % 10) := by split <;> omega
          have := Int.mul_nonneg h5 (show 0 ≤ pw by omega)
          omega
  intro k
  induction k with
  | zero => intro v pw z h h1 hv; simp at hv; omega
  | succ k ih =>
    intro v pw z h h1 hv hz
    rw [pwC, if_neg (by omega)] at hz
    split at hz
    · cases hz
    · rename_i hd
      obtain ⟨y, hy, hyz⟩ := Option.map_eq_some_iff.mp hz
      rw [Int.pow_succ] at hv
      have h3 := hnn k (v / 10) (pw * 9) y (by omega) (by omega) hy
      have h5 : (0 : Int) ≤ (if f < v % 10 then v % 10 - 1 else v % 10) := by split <;> omega
      by_cases c : v < 10
      · have h6 : (1 : Int) ≤ (if f < v % 10 then v % 10 - 1 else v % 10) := by split <;> omega
        have := Int.mul_le_mul h6 h (by omega) (by omega)
        omega
      · have h7 := ih (v / 10) (pw * 9) y (by omega) (by omega) (by omega) hy
        have := Int.mul_nonneg h5 (show 0 ≤ pw by omega)
        omega
theorem pgE_nz {c : List Int} {b : Bk} (hb : okBk c b) {n : Int} (hn : R32 n) : pgE c b n ≠ 0 := by
  have hf : ∀ (k p : Nat), 1 ≤ p → fstP c b n k p ≠ 0 := by
    intro k
    induction k with
    | zero => intro p h; show (-1 : Int) ≠ 0; decide
    | succ k ih =>
      intro p h
      rw [fstP]
      split
      · omega
      · exact ih (p + 1) (by omega)
  obtain ⟨h1, h2, h3, h4, -⟩ := hb
  unfold R32 at hn
  unfold pgE
  split
  · decide
  · split
    · exact hf _ _ (by omega)
    · unfold ownP
      split
      · omega
      · split
        · split
          · decide
          · rw [td_nn (by omega)]; omega
        · split
          · split
            · rename_i q
              rw [tm_nn (by omega)] at q
              rw [td_nn (by omega)]; omega
            · decide
          · split
            · rename_i q5
              cases hz : pwC b.2.1 18 n 1 with
              | none => show (-1 : Int) ≠ 0; decide
              | some z =>
                have e18 : (10 : Int) ^ 18 = 1000000000000000000 := by decide
                have := pwC_pos (h3 q5).1 18 n 1 z (by decide) (by omega) (by rw [e18]; omega) hz
                show z ≠ 0
                omega
            · omega
theorem fstP_R {c : List Int} {b : Bk} {n : Int} : ∀ (k p : Nat), p + k ≤ 5000 → R32 (fstP c b n k p) := by
  intro k
  induction k with
  | zero => intro p h; show R32 (-1); exact ⟨by decide, by decide⟩
  | succ k ih =>
    intro p h
    rw [fstP]
    split
    · unfold R32; omega
    · exact ih (p + 1) (by omega)
set_option maxRecDepth 100000 in
set_option maxHeartbeats 4000000 in
theorem c_mPageBy {κ : Kx} (hκ : KOK κ) {d j : Nat} {n : Int} {S : Sh} {G : Wd} (hM : mS0 G S) (hO : okSh 500 S) (hj : j < S.1.length) (h6 : (bkJ S j).1 = 6) (hn : R32 n) (hd : 2 ≤ d) : Ct κ MX12_pageByRule d 0 0 [VR 145, VI (j : Nat), VI n] (Wm G) (fun u Ω' => u = some (VI (fstP (cdS S) (bkJ S j) n (2 * (bkJ S j).2.2.1).toNat 1)) ∧ ∃ G', Ω' = Wm G' ∧ FM [] [163, 164] [] G G') noX := by
  refine Ct_of hκ kX12_pageByRule.1 rfl (Nat.le_of_ble_eq_true rfl) (ls := [some (VR 145), some (VI (j : Nat)), some (VI n), none]) rfl (fun μ => ?_)
  obtain ⟨m1, m2, m3, m4, m5, m6⟩ := mS0_b hM hj
  have hok := hO.2.1 _ (List.getElem_mem hj)
  rw [← bkJ_in hj] at hok
  have hlv := hok.2.2.2.1
  have hj6 : j < 6 := by have := hO.1; omega
  have L : ∀ (k p : Nat) (pp : Int) (G1 : Wd), (p : Int) + k = 2 * (bkJ S j).2.2.1 + 1 → 1 ≤ p → pp = (p : Int) → FM [] [163, 164] [] G G1 → fstP (cdS S) (bkJ S j) n k p = fstP (cdS S) (bkJ S j) n (2 * (bkJ S j).2.2.1).toNat 1 → V κ MX12_pageByRule (rmD d 0 0) (fun u Ω' => u = some (VI (fstP (cdS S) (bkJ S j) n (2 * (bkJ S j).2.2.1).toNat 1)) ∧ ∃ G', Ω' = Wm G' ∧ FM [] [163, 164] [] G G') noX 0 0 μ 0 0 (Wm (G1)) 2 [some (VR 145), some (VI (j : Nat)), some (VI n), some (VI pp)] [] := by
    intro k
    induction k with
    | zero =>
      intro p pp G1 hpk hp1 hpp f1 he
      have e3 : G1.1 151 j = (bkJ S j).2.2.1 := by rw [f1.i (by decide) (by decide)]; exact m3
      rw [fstP] at he
      refine V_ex sX12_pageByRule_2 (by simp only [Option.toList, List.cons_append, List.nil_append, exN, ex1, gI, gL, gR, pI, pL, pR, lget, lset1, lset2, kl, b2I, b2L, nob, ob32, ob64, xGet, xPut, xLen, xLd, xLdR, xSt, obA, true_and, and_true, and_self, eq_self, Nat.reduceEqDiff, Nat.zero_ne_one, reduceIte, Nat.reduceLeDiff, and_false, false_and, show skd 11 6 = 2 from rfl, show LF.1 145 = some (.inl 11) from rfl, show LF.2 145 6 = some 151 from rfl, show LF.1 151 = some (.inr (0, 12)) from rfl, e3, Int.toNat_natCast, upd2_eq, Int.reduceToNat, Int.toNat_natCast]; rfl) (by first | exact trivial | exact Or.inr rfl | exact Or.inl rfl | (simp only [ob, obA, R32, R64] at *; omega) | (simp only [ob, obA, R32, R64] at *; and_intros <;> omega) | (simp [ob, obA])) ?_
      refine V_icmpgt dX12_pageByRule_11 (tgt := 32) (by decide) (by simp only [R32, R64] at *; omega) (fun q11 => ?_) (fun q11 => ?_)
      · refine V_ex sX12_pageByRule_32 (by rfl) (by first | exact trivial | exact Or.inr rfl | exact Or.inl rfl | (simp only [ob, obA, R32, R64] at *; omega) | (simp only [ob, obA, R32, R64] at *; and_intros <;> omega) | (simp [ob, obA])) ?_
        refine V_iret dX12_pageByRule_33 rfl (by decide) ⟨by rw [← he], G1, rfl, f1⟩
      · omega
    | succ k ih =>
      intro p pp G1 hpk hp1 hpp f1 he
      subst hpp
      have e3 : G1.1 151 j = (bkJ S j).2.2.1 := by rw [f1.i (by decide) (by decide)]; exact m3
      have hM1 := mS0_c hM (fun x a b => f1.i (by simp; omega) (by omega))
      have hR : 0 ≤ numB (cdS S) (bkJ S j) (p : Int) ∧ numB (cdS S) (bkJ S j) (p : Int) ≤ 99999 := numB_R hok (p := (p : Int)) (by omega)
      have hRu := c_mRuleOf (κ := κ) hκ (d := d - 1) (p := p) hM1 hO hj h6 (by omega) (by omega)
      have enb : clT ((runL (bkJ S j).2.2.1 (p : Int) (segC (cdS S) (bkJ S j).2.2.2.1 (bkJ S j).2.2.2.2.1) []).headD 0) = numB (cdS S) (bkJ S j) (p : Int) := by unfold numB; rw [if_pos h6]
      rw [enb] at hRu
      rw [fstP] at he
      refine V_ex sX12_pageByRule_2 (by simp only [Option.toList, List.cons_append, List.nil_append, exN, ex1, gI, gL, gR, pI, pL, pR, lget, lset1, lset2, kl, b2I, b2L, nob, ob32, ob64, xGet, xPut, xLen, xLd, xLdR, xSt, obA, true_and, and_true, and_self, eq_self, Nat.reduceEqDiff, Nat.zero_ne_one, reduceIte, Nat.reduceLeDiff, and_false, false_and, show skd 11 6 = 2 from rfl, show LF.1 145 = some (.inl 11) from rfl, show LF.2 145 6 = some 151 from rfl, show LF.1 151 = some (.inr (0, 12)) from rfl, e3, Int.toNat_natCast, upd2_eq, Int.reduceToNat, Int.toNat_natCast]; rfl) (by first | exact trivial | exact Or.inr rfl | exact Or.inl rfl | (simp only [ob, obA, R32, R64] at *; omega) | (simp only [ob, obA, R32, R64] at *; and_intros <;> omega) | (simp [ob, obA])) ?_
      refine V_icmpgt dX12_pageByRule_11 (tgt := 32) (by decide) (by simp only [R32, R64] at *; omega) (fun q11 => ?_) (fun q11 => ?_)
      · omega
      · refine V_ex sX12_pageByRule_14 (by rfl) (by first | exact trivial | exact Or.inr rfl | exact Or.inl rfl | (simp only [ob, obA, R32, R64] at *; omega) | (simp only [ob, obA, R32, R64] at *; and_intros <;> omega) | (simp [ob, obA])) ?_
        refine V_callV (M := MX12_pageByRule) (N := MX12_ruleOf) dX12_pageByRule_17 lRX12_373 kX12_ruleOf rfl (rfl) rfl (hRu) rfl rfl (Nat.le_of_ble_eq_true rfl) (fit_rm (by omega)) (⟨Nat.le_of_ble_eq_true rfl, Nat.le_of_ble_eq_true rfl⟩) (fun v Ω' hp => ?_) (fun _ _ h => h.elim)
        obtain ⟨rfl, G2, rfl, f2⟩ := hp
        refine V_ex sX12_pageByRule_20 (by rfl) (by first | exact trivial | exact Or.inr rfl | exact Or.inl rfl | (simp only [ob, obA, R32, R64] at *; omega) | (simp only [ob, obA, R32, R64] at *; and_intros <;> omega) | (simp [ob, obA])) ?_
        refine V_icmpne dX12_pageByRule_21 (tgt := 26) (by decide) (by simp only [R32, R64] at *; omega) (fun q21 => ?_) (fun q21 => ?_)
        · refine V_ex sX12_pageByRule_26 (by rfl) (by first | exact trivial | exact Or.inr rfl | exact Or.inl rfl | (simp only [ob, obA, R32, R64] at *; omega) | (simp only [ob, obA, R32, R64] at *; and_intros <;> omega) | (simp [ob, obA])) ?_
          refine V_goto dX12_pageByRule_29 (tgt := 2) (by decide) ?_
          rw [if_neg q21] at he; exact ih (p + 1) ((p : Int) + 1) G2 (by omega) (by omega) (by omega) (f1.trans f2) he
        · refine V_ex sX12_pageByRule_24 (by rfl) (by first | exact trivial | exact Or.inr rfl | exact Or.inl rfl | (simp only [ob, obA, R32, R64] at *; omega) | (simp only [ob, obA, R32, R64] at *; and_intros <;> omega) | (simp [ob, obA])) ?_
          refine V_iret dX12_pageByRule_25 rfl (by decide) ⟨by rw [if_pos q21] at he; rw [← he], G2, rfl, f1.trans f2⟩
  refine V_ex sX12_pageByRule_0 (by rfl) (by first | exact trivial | exact Or.inr rfl | exact Or.inl rfl | (simp only [ob, obA, R32, R64] at *; omega) | (simp only [ob, obA, R32, R64] at *; and_intros <;> omega) | (simp [ob, obA])) ?_
  exact L (2 * (bkJ S j).2.2.1).toNat 1 1 G (by omega) (by omega) rfl (FM.refl _ _ _ _) rfl
set_option maxRecDepth 100000 in
set_option maxHeartbeats 4000000 in
theorem c_mPageOf {κ : Kx} (hκ : KOK κ) {d j : Nat} {n : Int} {S : Sh} {G : Wd} (hM : mS0 G S) (hO : okSh 500 S) (hj : j < S.1.length) (hn : R32 n) (hd : 3 ≤ d) : Ct κ MX12_pageOf d 0 0 [VR 145, VI (j : Nat), VI n] (Wm G) (fun u Ω' => u = some (VL (pgE (cdS S) (bkJ S j) n)) ∧ ∃ G', Ω' = Wm G' ∧ FM [] [163, 164] [] G G') noX := by
  refine Ct_of hκ kX12_pageOf.1 rfl (Nat.le_of_ble_eq_true rfl) (ls := [some (VR 145), some (VI (j : Nat)), some (VI n)]) rfl (fun μ => ?_)
  obtain ⟨m1, m2, m3, m4, m5, m6⟩ := mS0_b hM hj
  have hok := hO.2.1 _ (List.getElem_mem hj)
  rw [← bkJ_in hj] at hok
  obtain ⟨k1, k2, k3, k4, k5⟩ := hok
  have hj6 : j < 6 := by have := hO.1; omega
  have hkR : R32 (bkJ S j).1 := by unfold R32; omega
  have hz : ∀ v, ¬ n < 1 → (bkJ S j).1 ≠ 6 → v = ownP (bkJ S j).1 (bkJ S j).2.1 n → v = pgE (cdS S) (bkJ S j) n := fun v h1 h2 h3 => by unfold pgE; rw [if_neg h1, if_neg h2]; exact h3
  refine V_ex sX12_pageOf_0 (by rfl) (by first | exact trivial | exact Or.inr rfl | exact Or.inl rfl | (simp only [ob, obA, R32, R64] at *; omega) | (simp only [ob, obA, R32, R64] at *; and_intros <;> omega) | (simp [ob, obA])) ?_
  refine V_icmpge dX12_pageOf_2 (tgt := 9) (by decide) (by simp only [R32, R64] at *; omega) (fun q2 => ?_) (fun q2 => ?_)
  · refine V_ex sX12_pageOf_9 (by simp only [Option.toList, List.cons_append, List.nil_append, exN, ex1, gI, gL, gR, pI, pL, pR, lget, lset1, lset2, kl, b2I, b2L, nob, ob32, ob64, xGet, xPut, xLen, xLd, xLdR, xSt, obA, true_and, and_true, and_self, eq_self, Nat.reduceEqDiff, Nat.zero_ne_one, reduceIte, Nat.reduceLeDiff, and_false, false_and, show skd 11 4 = 2 from rfl, show LF.1 145 = some (.inl 11) from rfl, show LF.2 145 4 = some 149 from rfl, show LF.1 149 = some (.inr (0, 12)) from rfl, m1, m2, Int.toNat_natCast, upd2_eq, Int.reduceToNat, Int.toNat_natCast]; rfl) (by first | exact trivial | exact Or.inr rfl | exact Or.inl rfl | (simp only [ob, obA, R32, R64] at *; omega) | (simp only [ob, obA, R32, R64] at *; and_intros <;> omega) | (simp [ob, obA])) ?_
    refine V_tsw dX12_pageOf_15 (dt := 118) (tg := [48, 59, 81, 98, 110]) (hkR) (by decide) (by decide) (by decide) (fun q15 => ?_) ⟨fun q15 => ?_, fun q15 => ?_, fun q15 => ?_, fun q15 => ?_, fun q15 => ?_, trivial⟩
    · refine V_ex sX12_pageOf_118 (by rfl) (by first | exact trivial | exact Or.inr rfl | exact Or.inl rfl | (simp only [ob, obA, R32, R64] at *; omega) | (simp only [ob, obA, R32, R64] at *; and_intros <;> omega) | (simp [ob, obA])) ?_
      refine V_lret dX12_pageOf_120 rfl (by decide) ⟨congrArg (fun z => some (VL z)) (hz _ (by omega) (by omega) (by unfold ownP; rw [if_neg (by omega), if_neg (by omega), if_neg (by omega), if_neg (by omega)])), G, rfl, FM.refl _ _ _ _⟩
    · refine V_ex sX12_pageOf_48 (by simp only [Option.toList, List.cons_append, List.nil_append, exN, ex1, gI, gL, gR, pI, pL, pR, lget, lset1, lset2, kl, b2I, b2L, nob, ob32, ob64, xGet, xPut, xLen, xLd, xLdR, xSt, obA, true_and, and_true, and_self, eq_self, Nat.reduceEqDiff, Nat.zero_ne_one, reduceIte, Nat.reduceLeDiff, and_false, false_and, show skd 11 5 = 2 from rfl, show LF.1 145 = some (.inl 11) from rfl, show LF.2 145 5 = some 150 from rfl, show LF.1 150 = some (.inr (0, 12)) from rfl, m1, m2, Int.toNat_natCast, upd2_eq, Int.reduceToNat, Int.toNat_natCast]; rfl) (by first | exact trivial | exact Or.inr rfl | exact Or.inl rfl | (simp only [ob, obA, R32, R64] at *; omega) | (simp only [ob, obA, R32, R64] at *; and_intros <;> omega) | (simp [ob, obA])) ?_
      refine V_lret dX12_pageOf_58 rfl (by decide) ⟨congrArg (fun z => some (VL z)) (hz _ (by omega) (by omega) (by unfold ownP; rw [if_pos (by omega)])), G, rfl, FM.refl _ _ _ _⟩
    · refine V_ex sX12_pageOf_59 (by rfl) (by exact ⟨hn, by unfold R32; omega, by decide⟩) ?_
      rw [tm_nn (by omega)]
      refine V_icmpne dX12_pageOf_63 (tgt := 77) (by decide) (by simp only [R32, R64] at *; omega) (fun q63 => ?_) (fun q63 => ?_)
      · refine V_ex sX12_pageOf_77 (by rfl) (by first | exact trivial | exact Or.inr rfl | exact Or.inl rfl | (simp only [ob, obA, R32, R64] at *; omega) | (simp only [ob, obA, R32, R64] at *; and_intros <;> omega) | (simp [ob, obA])) ?_
        refine V_lret dX12_pageOf_80 rfl (by decide) ⟨congrArg (fun z => some (VL z)) (hz _ (by omega) (by omega) (by unfold ownP; rw [if_neg (by omega), if_pos (show (bkJ S j).1 = 3 by omega), tm_nn (by omega), if_pos (by omega)])), G, rfl, FM.refl _ _ _ _⟩
      · refine V_ex sX12_pageOf_66 (by rfl) (by exact ⟨hn, by unfold R64; unfold R32 at hn; omega, by unfold R64; omega, by decide⟩) ?_
        refine V_goto dX12_pageOf_74 (tgt := 80) (by decide) ?_
        refine V_lret dX12_pageOf_80 rfl (by decide) ⟨congrArg (fun z => some (VL z)) (hz _ (by omega) (by omega) (by unfold ownP; rw [if_neg (by omega), if_pos (show (bkJ S j).1 = 3 by omega), tm_nn (by omega), if_neg (by omega)])), G, rfl, FM.refl _ _ _ _⟩
    · refine V_ex sX12_pageOf_81 (by rfl) (by exact ⟨hn, by unfold R32; omega, by decide⟩) ?_
      rw [tm_nn (by omega)]
      refine V_ifne dX12_pageOf_84 (tgt := 94) (by decide) (by simp only [R32, R64] at *; omega) (fun q84 => ?_) (fun q84 => ?_)
      · refine V_ex sX12_pageOf_94 (by rfl) (by first | exact trivial | exact Or.inr rfl | exact Or.inl rfl | (simp only [ob, obA, R32, R64] at *; omega) | (simp only [ob, obA, R32, R64] at *; and_intros <;> omega) | (simp [ob, obA])) ?_
        refine V_lret dX12_pageOf_97 rfl (by decide) ⟨congrArg (fun z => some (VL z)) (hz _ (by omega) (by omega) (by unfold ownP; rw [if_neg (by omega), if_neg (by omega), if_pos (show (bkJ S j).1 = 4 by omega), tm_nn (by omega), if_neg (by omega)])), G, rfl, FM.refl _ _ _ _⟩
      · refine V_ex sX12_pageOf_87 (by rfl) (by (rw [td_nn (by omega)]; exact ⟨⟨hn, by unfold R32; omega, by decide⟩, by unfold R32 at *; omega⟩)) ?_
        refine V_goto dX12_pageOf_91 (tgt := 97) (by decide) ?_
        refine V_lret dX12_pageOf_97 rfl (by decide) ⟨congrArg (fun z => some (VL z)) (hz _ (by omega) (by omega) (by unfold ownP; rw [if_neg (by omega), if_neg (by omega), if_pos (show (bkJ S j).1 = 4 by omega), tm_nn (by omega), if_pos (by omega)])), G, rfl, FM.refl _ _ _ _⟩
    · refine V_ex sX12_pageOf_98 (by simp only [Option.toList, List.cons_append, List.nil_append, exN, ex1, gI, gL, gR, pI, pL, pR, lget, lset1, lset2, kl, b2I, b2L, nob, ob32, ob64, xGet, xPut, xLen, xLd, xLdR, xSt, obA, true_and, and_true, and_self, eq_self, Nat.reduceEqDiff, Nat.zero_ne_one, reduceIte, Nat.reduceLeDiff, and_false, false_and, show skd 11 5 = 2 from rfl, show LF.1 145 = some (.inl 11) from rfl, show LF.2 145 5 = some 150 from rfl, show LF.1 150 = some (.inr (0, 12)) from rfl, m1, m2, Int.toNat_natCast, upd2_eq, Int.reduceToNat, Int.toNat_natCast]; rfl) (by first | exact trivial | exact Or.inr rfl | exact Or.inl rfl | (simp only [ob, obA, R32, R64] at *; omega) | (simp only [ob, obA, R32, R64] at *; and_intros <;> omega) | (simp [ob, obA])) ?_
      refine V_callS (M := MX12_pageOf) (N := MX12_rankWithout) dX12_pageOf_106 lRX12_378 kX12_rankWithout rfl (c_mrankWithout (d := 2) hκ (by unfold R32; omega) (r32_64 hn) (by have e18 : (10 : Int) ^ 18 = 1000000000000000000 := (by decide); unfold R32 at hn; omega)) rfl rfl (Nat.le_of_ble_eq_true rfl) (fit_rm (by omega)) (⟨Nat.le_of_ble_eq_true rfl, Nat.le_of_ble_eq_true rfl⟩) (fun v Ω' hp => ?_) (fun _ _ h => h.elim)
      obtain ⟨rfl, rfl⟩ := hp
      refine V_lret dX12_pageOf_109 rfl (by decide) ⟨congrArg (fun z => some (VL z)) (hz _ (by omega) (by omega) (by unfold ownP; rw [if_neg (by omega), if_neg (by omega), if_neg (by omega), if_pos (by omega)])), G, rfl, FM.refl _ _ _ _⟩
    · refine V_ex sX12_pageOf_110 (by rfl) (by first | exact trivial | exact Or.inr rfl | exact Or.inl rfl | (simp only [ob, obA, R32, R64] at *; omega) | (simp only [ob, obA, R32, R64] at *; and_intros <;> omega) | (simp [ob, obA])) ?_
      refine V_callV (M := MX12_pageOf) (N := MX12_pageByRule) dX12_pageOf_113 lRX12_381 kX12_pageByRule rfl (rfl) rfl (c_mPageBy (d := 2) hκ hM hO hj (by omega) hn (by omega)) rfl rfl (Nat.le_of_ble_eq_true rfl) (fit_rm (by omega)) (⟨Nat.le_of_ble_eq_true rfl, Nat.le_of_ble_eq_true rfl⟩) (fun v Ω' hp => ?_) (fun _ _ h => h.elim)
      obtain ⟨rfl, G2, rfl, f2⟩ := hp
      refine V_ex sX12_pageOf_116 (by rfl) (by exact fstP_R _ _ (by omega)) ?_
      refine V_lret dX12_pageOf_117 rfl (by decide) ⟨by unfold pgE; rw [if_neg (show ¬ n < 1 by omega), if_pos (show (bkJ S j).1 = 6 by omega)], G2, rfl, f2⟩
  · refine V_ex sX12_pageOf_5 (by rfl) (by first | exact trivial | exact Or.inr rfl | exact Or.inl rfl | (simp only [ob, obA, R32, R64] at *; omega) | (simp only [ob, obA, R32, R64] at *; and_intros <;> omega) | (simp [ob, obA])) ?_
    refine V_lret dX12_pageOf_8 rfl (by decide) ⟨by unfold pgE; rw [if_pos q2], G, rfl, FM.refl _ _ _ _⟩
