/-! THE MODEL: sum, figures, page, index, tells as calls -/
theorem FN.s0 {G G1 : Wd} (f : FN G G1) (h : G1.1 145 2 = 0) {A : Ab} (hC : RM G A) {v u : Option Vl} {c : Int} (e : u = v) (k : 0 = c) : mdP G A v c u (Wm G1) := md_f hC f e (h.trans k)
theorem numB_Rc {S : Sh} (hO : okSh 500 S) {j : Nat} (hj : j < S.1.length) {p : Int} (hp : 1 ≤ p ∧ p ≤ 4000) : 0 ≤ numB (cdS S) (bkJ S j) p ∧ numB (cdS S) (bkJ S j) p ≤ 99999 := by
  have hok := hO.2.1 _ (List.getElem_mem hj)
  rw [← bkJ_in hj] at hok
  exact numB_R hok hp
set_option maxRecDepth 100000 in
set_option maxHeartbeats 4000000 in
theorem c_mxSum {κ : Kx} (hκ : KOK κ) {d : Nat} {K i : Int} {A : Ab} {G : Wd} (hC : RM G A) (hI : Inv K A) (hi : R32 i) (hd : 20 ≤ d) : Ct κ MX12_sum d 0 0 [VR 145, VI i] (Wm G) (mdP G A (some (VL (sumP A i).2)) (sumP A i).1) noX := by
  refine Ct_of hκ kX12_sum.1 rfl (Nat.le_of_ble_eq_true rfl) (ls := [some (VR 145), some (VI i), none, none, none]) rfl (fun μ => ?_)
  have hC1 := (RM_f hC (fn0 G 0)).1
  by_cases hin : inB A.1 i
  · obtain ⟨j, hj⟩ : ∃ j : Nat, i = (j : Int) := ⟨i.toNat, by have := hin.1; omega⟩
    subst hj
    have hj : j < A.1.1.length := by have := hin.2; omega
    obtain ⟨g1, g2, g3, g4, g5⟩ := gone_ok hI.1 hj
    have hj6 : j < 6 := by have := hI.1.1; omega
    have e : sumP A (j : Nat) = (0, sumLe (cdS A.1) (bkJ A.1 j) (bkJ A.1 j).2.2.1.toNat) := by unfold sumP; rw [if_neg (fun h => h hin)]; rfl
    have L : ∀ (k n : Nat) (nn : Int) (G1 : Wd), n + k = (bkJ A.1 j).2.2.1.toNat → nn = (n : Int) → FN G G1 → G1.1 145 2 = 0 → V κ MX12_sum (rmD d 0 0) (mdP G A (some (VL (sumP A (j : Nat)).2)) (sumP A (j : Nat)).1) noX 0 0 μ 0 0 (Wm (G1)) 25 [some (VR 145), some (VI (j : Nat)), some (VL (sumLe (cdS A.1) (bkJ A.1 j) n)), none, some (VI nn)] [] := by
      intro k
      induction k with
      | zero =>
        intro n nn G1 hnk hnn f1 c1
        obtain rfl : n = (bkJ A.1 j).2.2.1.toNat := by omega
        have hM1 := (RM_f hC f1).1.1
        have m3 := (mS0_b hM1 hj).2.2.1
        refine V_ex sX12_sum_25 (by simp only [Option.toList, List.cons_append, List.nil_append, exN, ex1, gI, gL, gR, pI, pL, pR, lget, lset1, lset2, kl, b2I, b2L, nob, ob32, ob64, xGet, xPut, xLen, xLd, xLdR, xSt, obA, true_and, and_true, and_self, eq_self, Nat.reduceEqDiff, Nat.zero_ne_one, reduceIte, Nat.reduceLeDiff, and_false, false_and, show skd 11 6 = 2 from rfl, show LF.1 145 = some (.inl 11) from rfl, show LF.2 145 6 = some 151 from rfl, show LF.1 151 = some (.inr (0, 12)) from rfl, m3, Int.toNat_natCast, upd2_eq, Int.reduceToNat, Int.toNat_natCast]; rfl) (by first | exact trivial | exact Or.inr rfl | exact Or.inl rfl | (simp only [ob, obA, R32, R64] at *; omega) | (simp only [ob, obA, R32, R64] at *; and_intros <;> omega) | (simp [ob, obA])) ?_
        refine V_icmpge dX12_sum_33 (tgt := 79) (by decide) (by simp only [R32, R64] at *; omega) (fun q33 => ?_) (fun q33 => ?_)
        · refine V_ex sX12_sum_79 (by rfl) (by first | exact trivial | exact Or.inr rfl | exact Or.inl rfl | (simp only [ob, obA, R32, R64] at *; omega) | (simp only [ob, obA, R32, R64] at *; and_intros <;> omega) | (simp [ob, obA])) ?_
          refine V_lret dX12_sum_80 rfl (by decide) (FN.s0 f1 c1 hC (by rw [e]) (by rw [e]))
        · omega
      | succ k ih =>
        intro n nn G1 hnk hnn f1 c1
        subst hnn
        have hM1 := (RM_f hC f1).1.1
        have m3 := (mS0_b hM1 hj).2.2.1
        have hs : sumLe (cdS A.1) (bkJ A.1 j) (n + 1) = sumLe (cdS A.1) (bkJ A.1 j) n + if (n : Int) ∈ (bkJ A.1 j).2.2.2.2.2 then 0 else lfB (cdS A.1) (bkJ A.1 j) (n : Int) := rfl
        have e1 : (2 : Int) * (n : Int) + 1 = ((2 * n + 1 : Nat) : Int) := by omega
        have e2 : (2 : Int) * (n : Int) + 2 = ((2 * n + 2 : Nat) : Int) := by omega
        have hR1 := numB_Rc hI.1 hj (p := ((2 * n + 1 : Nat) : Int)) (by omega)
        have hR2 := numB_Rc hI.1 hj (p := ((2 * n + 2 : Nat) : Int)) (by omega)
        have hlf : lfB (cdS A.1) (bkJ A.1 j) (n : Int) = numB (cdS A.1) (bkJ A.1 j) ((2 * n + 1 : Nat) : Int) + numB (cdS A.1) (bkJ A.1 j) ((2 * n + 2 : Nat) : Int) := by unfold lfB; rw [e1, e2]
        refine V_ex sX12_sum_25 (by simp only [Option.toList, List.cons_append, List.nil_append, exN, ex1, gI, gL, gR, pI, pL, pR, lget, lset1, lset2, kl, b2I, b2L, nob, ob32, ob64, xGet, xPut, xLen, xLd, xLdR, xSt, obA, true_and, and_true, and_self, eq_self, Nat.reduceEqDiff, Nat.zero_ne_one, reduceIte, Nat.reduceLeDiff, and_false, false_and, show skd 11 6 = 2 from rfl, show LF.1 145 = some (.inl 11) from rfl, show LF.2 145 6 = some 151 from rfl, show LF.1 151 = some (.inr (0, 12)) from rfl, m3, Int.toNat_natCast, upd2_eq, Int.reduceToNat, Int.toNat_natCast]; rfl) (by first | exact trivial | exact Or.inr rfl | exact Or.inl rfl | (simp only [ob, obA, R32, R64] at *; omega) | (simp only [ob, obA, R32, R64] at *; and_intros <;> omega) | (simp [ob, obA])) ?_
        refine V_icmpge dX12_sum_33 (tgt := 79) (by decide) (by simp only [R32, R64] at *; omega) (fun q33 => ?_) (fun q33 => ?_)
        · omega
        · refine V_ex sX12_sum_36 (by rfl) (by first | exact trivial | exact Or.inr rfl | exact Or.inl rfl | (simp only [ob, obA, R32, R64] at *; omega) | (simp only [ob, obA, R32, R64] at *; and_intros <;> omega) | (simp [ob, obA])) ?_
          refine V_callV (M := MX12_sum) (N := MX12_isOut) dX12_sum_40 lRX12_389 kX12_isOut rfl (rfl) rfl (c_mIsOut (d := 2) hκ hM1 hI.1 hj (by unfold R32; omega) (by omega)) rfl rfl (Nat.le_of_ble_eq_true rfl) (fit_rm (by omega)) (⟨Nat.le_of_ble_eq_true rfl, Nat.le_of_ble_eq_true rfl⟩) (fun v Ω' hp => ?_) (fun _ _ h => h.elim)
          obtain ⟨rfl, rfl⟩ := hp
          refine V_ifneB dX12_sum_43 (tgt := 73) (by decide) (fun q43 => ?_) (fun q43 => ?_)
          · refine V_ex sX12_sum_73 (by rfl) (by first | exact trivial | exact Or.inr rfl | exact Or.inl rfl | (simp only [ob, obA, R32, R64] at *; omega) | (simp only [ob, obA, R32, R64] at *; and_intros <;> omega) | (simp [ob, obA])) ?_
            refine V_goto dX12_sum_76 (tgt := 25) (by decide) ?_
            have q := ih (n + 1) ((n : Int) + 1) G1 (by omega) (by omega) f1 c1
            rw [hs, if_pos (of_decide_eq_true q43), Int.add_zero] at q
            exact q
          · refine V_ex sX12_sum_46 (by simp only [Option.toList, List.cons_append, List.nil_append, exN, ex1, gI, gL, gR, pI, pL, pR, lget, lset1, lset2, kl, b2I, b2L, nob, ob32, ob64, xGet, xPut, xLen, xLd, xLdR, xSt, obA, true_and, and_true, and_self, eq_self, Nat.reduceEqDiff, Nat.zero_ne_one, reduceIte, Nat.reduceLeDiff, and_false, false_and, e1, upd2_eq, Int.reduceToNat, Int.toNat_natCast]; rfl) (by first | exact trivial | exact Or.inr rfl | exact Or.inl rfl | (simp only [ob, obA, R32, R64] at *; omega) | (simp only [ob, obA, R32, R64] at *; and_intros <;> omega) | (simp [ob, obA])) ?_
            refine V_callV (M := MX12_sum) (N := MX12_numberOn) dX12_sum_55 lRX12_393 kX12_numberOn rfl (rfl) rfl (c_mNumOn (d := 2) hκ (p := 2 * n + 1) hM1 hI.1 hj (by omega) (by omega)) rfl rfl (Nat.le_of_ble_eq_true rfl) (fit_rm (by omega)) (⟨Nat.le_of_ble_eq_true rfl, Nat.le_of_ble_eq_true rfl⟩) (fun v Ω' hp => ?_) (fun _ _ h => h.elim)
            obtain ⟨rfl, G2, rfl, f2⟩ := hp
            obtain ⟨f12, c2⟩ := fn_c f1 f2
            have hM2 := (RM_f hC f12).1.1
            refine V_ex sX12_sum_58 (by simp only [Option.toList, List.cons_append, List.nil_append, exN, ex1, gI, gL, gR, pI, pL, pR, lget, lset1, lset2, kl, b2I, b2L, nob, ob32, ob64, xGet, xPut, xLen, xLd, xLdR, xSt, obA, true_and, and_true, and_self, eq_self, Nat.reduceEqDiff, Nat.zero_ne_one, reduceIte, Nat.reduceLeDiff, and_false, false_and, e2, upd2_eq, Int.reduceToNat, Int.toNat_natCast]; rfl) (by first | exact trivial | exact Or.inr rfl | exact Or.inl rfl | (simp only [ob, obA, R32, R64] at *; omega) | (simp only [ob, obA, R32, R64] at *; and_intros <;> omega) | (simp [ob, obA])) ?_
            refine V_callV (M := MX12_sum) (N := MX12_numberOn) dX12_sum_66 lRX12_393 kX12_numberOn rfl (rfl) rfl (c_mNumOn (d := 2) hκ (p := 2 * n + 2) hM2 hI.1 hj (by omega) (by omega)) rfl rfl (Nat.le_of_ble_eq_true rfl) (fit_rm (by omega)) (⟨Nat.le_of_ble_eq_true rfl, Nat.le_of_ble_eq_true rfl⟩) (fun v Ω' hp => ?_) (fun _ _ h => h.elim)
            obtain ⟨rfl, G3, rfl, f3⟩ := hp
            obtain ⟨f13, c3⟩ := fn_c f12 f3
            refine V_ex sX12_sum_69 (by rfl) (by first | exact trivial | exact Or.inr rfl | exact Or.inl rfl | (simp only [ob, obA, R32, R64] at *; omega) | (simp only [ob, obA, R32, R64] at *; and_intros <;> omega) | (simp [ob, obA])) ?_
            refine V_ex sX12_sum_73 (by rfl) (by first | exact trivial | exact Or.inr rfl | exact Or.inl rfl | (simp only [ob, obA, R32, R64] at *; omega) | (simp only [ob, obA, R32, R64] at *; and_intros <;> omega) | (simp [ob, obA])) ?_
            refine V_goto dX12_sum_76 (tgt := 25) (by decide) ?_
            have q := ih (n + 1) ((n : Int) + 1) G3 (by omega) (by omega) f13 (by rw [c3, c2, c1])
            rw [hs, if_neg (of_decide_eq_false q43), hlf] at q
            exact q
    refine V_ex sX12_sum_0 (by simp only [Option.toList, List.cons_append, List.nil_append, exN, ex1, gI, gL, gR, pI, pL, pR, lget, lset1, lset2, kl, b2I, b2L, nob, ob32, ob64, xGet, xPut, xLen, xLd, xLdR, xSt, obA, true_and, and_true, and_self, eq_self, Nat.reduceEqDiff, Nat.zero_ne_one, reduceIte, Nat.reduceLeDiff, and_false, false_and, show skd 11 2 = 0 from rfl, show LF.1 145 = some (.inl 11) from rfl, upd2_eq, Int.reduceToNat, Int.toNat_natCast]; rfl) (by first | exact trivial | exact Or.inr rfl | exact Or.inl rfl | (simp only [ob, obA, R32, R64] at *; omega) | (simp only [ob, obA, R32, R64] at *; and_intros <;> omega) | (simp [ob, obA])) ?_
    refine V_callV (M := MX12_sum) (N := MX12_isBook) dX12_sum_7 lRX12_386 kX12_isBook rfl (rfl) rfl (c_mIsBook (d := 2) hκ hC1.1 hI.1 hi (by omega)) rfl rfl (Nat.le_of_ble_eq_true rfl) (fit_rm (by omega)) (⟨Nat.le_of_ble_eq_true rfl, Nat.le_of_ble_eq_true rfl⟩) (fun v Ω' hp => ?_) (fun _ _ h => h.elim)
    obtain ⟨rfl, rfl⟩ := hp
    refine V_ifneB dX12_sum_10 (tgt := 20) (by decide) (fun q10 => ?_) (fun q10 => ?_)
    · refine V_ex sX12_sum_20 (by rfl) (by first | exact trivial | exact Or.inr rfl | exact Or.inl rfl | (simp only [ob, obA, R32, R64] at *; omega) | (simp only [ob, obA, R32, R64] at *; and_intros <;> omega) | (simp [ob, obA])) ?_
      exact L (bkJ A.1 j).2.2.1.toNat 0 0 _ (by omega) rfl (fn0 G 0) iu
    · exact absurd hin (of_decide_eq_false q10)
  · have e : sumP A i = (1, 0) := by unfold sumP; rw [if_pos hin]
    refine V_ex sX12_sum_0 (by simp only [Option.toList, List.cons_append, List.nil_append, exN, ex1, gI, gL, gR, pI, pL, pR, lget, lset1, lset2, kl, b2I, b2L, nob, ob32, ob64, xGet, xPut, xLen, xLd, xLdR, xSt, obA, true_and, and_true, and_self, eq_self, Nat.reduceEqDiff, Nat.zero_ne_one, reduceIte, Nat.reduceLeDiff, and_false, false_and, show skd 11 2 = 0 from rfl, show LF.1 145 = some (.inl 11) from rfl, upd2_eq, Int.reduceToNat, Int.toNat_natCast]; rfl) (by first | exact trivial | exact Or.inr rfl | exact Or.inl rfl | (simp only [ob, obA, R32, R64] at *; omega) | (simp only [ob, obA, R32, R64] at *; and_intros <;> omega) | (simp [ob, obA])) ?_
    refine V_callV (M := MX12_sum) (N := MX12_isBook) dX12_sum_7 lRX12_386 kX12_isBook rfl (rfl) rfl (c_mIsBook (d := 2) hκ hC1.1 hI.1 hi (by omega)) rfl rfl (Nat.le_of_ble_eq_true rfl) (fit_rm (by omega)) (⟨Nat.le_of_ble_eq_true rfl, Nat.le_of_ble_eq_true rfl⟩) (fun v Ω' hp => ?_) (fun _ _ h => h.elim)
    obtain ⟨rfl, rfl⟩ := hp
    refine V_ifneB dX12_sum_10 (tgt := 20) (by decide) (fun q10 => ?_) (fun q10 => ?_)
    · exact absurd (of_decide_eq_true q10) hin
    · refine V_ex sX12_sum_13 (by rfl) (by first | exact trivial | exact Or.inr rfl | exact Or.inl rfl | (simp only [ob, obA, R32, R64] at *; omega) | (simp only [ob, obA, R32, R64] at *; and_intros <;> omega) | (simp [ob, obA])) ?_
      refine V_callV (M := MX12_sum) (N := MX12_fail) dX12_sum_15 lRX12_324 kX12_fail rfl (rfl) rfl (c_mfail (d := 2) hκ) rfl rfl (Nat.le_of_ble_eq_true rfl) (fit_rm (by omega)) (⟨Nat.le_of_ble_eq_true rfl, Nat.le_of_ble_eq_true rfl⟩) (fun v Ω' hp => ?_) (fun _ _ h => h.elim)
      obtain ⟨rfl, rfl⟩ := hp
      refine V_ex sX12_sum_18 (by rfl) (by first | exact trivial | exact Or.inr rfl | exact Or.inl rfl | (simp only [ob, obA, R32, R64] at *; omega) | (simp only [ob, obA, R32, R64] at *; and_intros <;> omega) | (simp [ob, obA])) ?_
      refine V_lret dX12_sum_19 rfl (by decide) (md_1 hC (by rw [e]) (by rw [e]))
theorem figs_2 {c : List Int} {b : Bk} {f : Int} (n : Nat) : figs c b f (2 * (n + 1)) = figs c b f (2 * n) + if (n : Int) ∈ b.2.2.2.2.2 then 0 else dgc f 19 (numB c b ((2 * n + 1 : Nat) : Int)) + dgc f 19 (numB c b ((2 * n + 2 : Nat) : Int)) := by
  rw [show 2 * (n + 1) = 2 * n + 1 + 1 by omega, figs, figs]
  rw [show ((2 * n + 1 : Nat) : Int) / 2 = (n : Int) by omega, show ((2 * n : Nat) : Int) / 2 = (n : Int) by omega, show ((2 * n : Nat) : Int) + 1 = ((2 * n + 1 : Nat) : Int) by omega, show ((2 * n + 1 : Nat) : Int) + 1 = ((2 * n + 2 : Nat) : Int) by omega]
  split <;> omega
set_option maxRecDepth 100000 in
set_option maxHeartbeats 4000000 in
theorem c_mxFigures {κ : Kx} (hκ : KOK κ) {d : Nat} {K i f : Int} {A : Ab} {G : Wd} (hC : RM G A) (hI : Inv K A) (hi : R32 i) (hf : R32 f) (hd : 20 ≤ d) : Ct κ MX12_figures d 0 0 [VR 145, VI i, VI f] (Wm G) (mdP G A (some (VI (figuresP A i f).2)) (figuresP A i f).1) noX := by
  refine Ct_of hκ kX12_figures.1 rfl (Nat.le_of_ble_eq_true rfl) (ls := [some (VR 145), some (VI i), some (VI f), none, none]) rfl (fun μ => ?_)
  have hC1 := (RM_f hC (fn0 G 0)).1
  have hf64 := r32_64 hf
  by_cases hin : inB A.1 i
  · obtain ⟨j, hj⟩ : ∃ j : Nat, i = (j : Int) := ⟨i.toNat, by have := hin.1; omega⟩
    subst hj
    have hj : j < A.1.1.length := by have := hin.2; omega
    obtain ⟨g1, g2, g3, g4, g5⟩ := gone_ok hI.1 hj
    have hj6 : j < 6 := by have := hI.1.1; omega
    by_cases hff : 0 ≤ f ∧ f ≤ 10
    · have e : figuresP A (j : Nat) f = (0, figs (cdS A.1) (bkJ A.1 j) f (2 * (bkJ A.1 j).2.2.1).toNat) := by unfold figuresP; rw [if_neg (fun h => h ⟨hin, hff⟩)]; rfl
      have L : ∀ (k n : Nat) (nn : Int) (G1 : Wd), n + k = (bkJ A.1 j).2.2.1.toNat → nn = (n : Int) → FN G G1 → G1.1 145 2 = 0 → V κ MX12_figures (rmD d 0 0) (mdP G A (some (VI (figuresP A (j : Nat) f).2)) (figuresP A (j : Nat) f).1) noX 0 0 μ 0 0 (Wm (G1)) 36 [some (VR 145), some (VI (j : Nat)), some (VI f), some (VI (figs (cdS A.1) (bkJ A.1 j) f (2 * n))), some (VI nn)] [] := by
        intro k
        induction k with
        | zero =>
          intro n nn G1 hnk hnn f1 c1
          obtain rfl : n = (bkJ A.1 j).2.2.1.toNat := by omega
          have hM1 := (RM_f hC f1).1.1
          have m3 := (mS0_b hM1 hj).2.2.1
          have e2n : 2 * (bkJ A.1 j).2.2.1.toNat = (2 * (bkJ A.1 j).2.2.1).toNat := by omega
          rw [← e2n] at e
          refine V_ex sX12_figures_36 (by simp only [Option.toList, List.cons_append, List.nil_append, exN, ex1, gI, gL, gR, pI, pL, pR, lget, lset1, lset2, kl, b2I, b2L, nob, ob32, ob64, xGet, xPut, xLen, xLd, xLdR, xSt, obA, true_and, and_true, and_self, eq_self, Nat.reduceEqDiff, Nat.zero_ne_one, reduceIte, Nat.reduceLeDiff, and_false, false_and, show skd 11 6 = 2 from rfl, show LF.1 145 = some (.inl 11) from rfl, show LF.2 145 6 = some 151 from rfl, show LF.1 151 = some (.inr (0, 12)) from rfl, m3, Int.toNat_natCast, upd2_eq, Int.reduceToNat, Int.toNat_natCast]; rfl) (by first | exact trivial | exact Or.inr rfl | exact Or.inl rfl | (simp only [ob, obA, R32, R64] at *; omega) | (simp only [ob, obA, R32, R64] at *; and_intros <;> omega) | (simp [ob, obA])) ?_
          refine V_icmpge dX12_figures_44 (tgt := 99) (by decide) (by simp only [R32, R64] at *; omega) (fun q44 => ?_) (fun q44 => ?_)
          · refine V_ex sX12_figures_99 (by rfl) (by first | exact trivial | exact Or.inr rfl | exact Or.inl rfl | (simp only [ob, obA, R32, R64] at *; omega) | (simp only [ob, obA, R32, R64] at *; and_intros <;> omega) | (simp [ob, obA])) ?_
            refine V_iret dX12_figures_100 rfl (by decide) (FN.s0 f1 c1 hC (by rw [e]) (by rw [e]))
          · omega
        | succ k ih =>
          intro n nn G1 hnk hnn f1 c1
          subst hnn
          have hM1 := (RM_f hC f1).1.1
          have m3 := (mS0_b hM1 hj).2.2.1
          have hs := figs_2 (c := cdS A.1) (b := bkJ A.1 j) (f := f) n
          have e1 : (2 : Int) * (n : Int) + 1 = ((2 * n + 1 : Nat) : Int) := by omega
          have e2 : (2 : Int) * (n : Int) + 2 = ((2 * n + 2 : Nat) : Int) := by omega
          have hR1 := numB_Rc hI.1 hj (p := ((2 * n + 1 : Nat) : Int)) (by omega)
          have hR2 := numB_Rc hI.1 hj (p := ((2 * n + 2 : Nat) : Int)) (by omega)
          refine V_ex sX12_figures_36 (by simp only [Option.toList, List.cons_append, List.nil_append, exN, ex1, gI, gL, gR, pI, pL, pR, lget, lset1, lset2, kl, b2I, b2L, nob, ob32, ob64, xGet, xPut, xLen, xLd, xLdR, xSt, obA, true_and, and_true, and_self, eq_self, Nat.reduceEqDiff, Nat.zero_ne_one, reduceIte, Nat.reduceLeDiff, and_false, false_and, show skd 11 6 = 2 from rfl, show LF.1 145 = some (.inl 11) from rfl, show LF.2 145 6 = some 151 from rfl, show LF.1 151 = some (.inr (0, 12)) from rfl, m3, Int.toNat_natCast, upd2_eq, Int.reduceToNat, Int.toNat_natCast]; rfl) (by first | exact trivial | exact Or.inr rfl | exact Or.inl rfl | (simp only [ob, obA, R32, R64] at *; omega) | (simp only [ob, obA, R32, R64] at *; and_intros <;> omega) | (simp [ob, obA])) ?_
          refine V_icmpge dX12_figures_44 (tgt := 99) (by decide) (by simp only [R32, R64] at *; omega) (fun q44 => ?_) (fun q44 => ?_)
          · omega
          · refine V_ex sX12_figures_47 (by rfl) (by first | exact trivial | exact Or.inr rfl | exact Or.inl rfl | (simp only [ob, obA, R32, R64] at *; omega) | (simp only [ob, obA, R32, R64] at *; and_intros <;> omega) | (simp [ob, obA])) ?_
            refine V_callV (M := MX12_figures) (N := MX12_isOut) dX12_figures_51 lRX12_389 kX12_isOut rfl (rfl) rfl (c_mIsOut (d := 2) hκ hM1 hI.1 hj (by unfold R32; omega) (by omega)) rfl rfl (Nat.le_of_ble_eq_true rfl) (fit_rm (by omega)) (⟨Nat.le_of_ble_eq_true rfl, Nat.le_of_ble_eq_true rfl⟩) (fun v Ω' hp => ?_) (fun _ _ h => h.elim)
            obtain ⟨rfl, rfl⟩ := hp
            refine V_ifneB dX12_figures_54 (tgt := 93) (by decide) (fun q54 => ?_) (fun q54 => ?_)
            · refine V_ex sX12_figures_93 (by rfl) (by first | exact trivial | exact Or.inr rfl | exact Or.inl rfl | (simp only [ob, obA, R32, R64] at *; omega) | (simp only [ob, obA, R32, R64] at *; and_intros <;> omega) | (simp [ob, obA])) ?_
              refine V_goto dX12_figures_96 (tgt := 36) (by decide) ?_
              have q := ih (n + 1) ((n : Int) + 1) G1 (by omega) (by omega) f1 c1
              rw [hs, if_pos (of_decide_eq_true q54), Int.add_zero] at q
              exact q
            · refine V_ex sX12_figures_57 (by simp only [Option.toList, List.cons_append, List.nil_append, exN, ex1, gI, gL, gR, pI, pL, pR, lget, lset1, lset2, kl, b2I, b2L, nob, ob32, ob64, xGet, xPut, xLen, xLd, xLdR, xSt, obA, true_and, and_true, and_self, eq_self, Nat.reduceEqDiff, Nat.zero_ne_one, reduceIte, Nat.reduceLeDiff, and_false, false_and, e1, upd2_eq, Int.reduceToNat, Int.toNat_natCast]; rfl) (by first | exact trivial | exact Or.inr rfl | exact Or.inl rfl | (simp only [ob, obA, R32, R64] at *; omega) | (simp only [ob, obA, R32, R64] at *; and_intros <;> omega) | (simp [ob, obA])) ?_
              refine V_callV (M := MX12_figures) (N := MX12_numberOn) dX12_figures_66 lRX12_393 kX12_numberOn rfl (rfl) rfl (c_mNumOn (d := 2) hκ (p := 2 * n + 1) hM1 hI.1 hj (by omega) (by omega)) rfl rfl (Nat.le_of_ble_eq_true rfl) (fit_rm (by omega)) (⟨Nat.le_of_ble_eq_true rfl, Nat.le_of_ble_eq_true rfl⟩) (fun v Ω' hp => ?_) (fun _ _ h => h.elim)
              obtain ⟨rfl, G2, rfl, f2⟩ := hp
              obtain ⟨f12, c2⟩ := fn_c f1 f2
              have hM2 := (RM_f hC f12).1.1
              refine V_ex sX12_figures_69 (by rfl) (by first | exact trivial | exact Or.inr rfl | exact Or.inl rfl | (simp only [ob, obA, R32, R64] at *; omega) | (simp only [ob, obA, R32, R64] at *; and_intros <;> omega) | (simp [ob, obA])) ?_
              refine V_callS (M := MX12_figures) (N := MX12_figuresIn) dX12_figures_71 lRX12_400 kX12_figuresIn rfl (c_mfiguresIn (d := 0) hκ (by unfold R64; omega) hf) rfl rfl (Nat.le_of_ble_eq_true rfl) (fit_rm (by omega)) (⟨Nat.le_of_ble_eq_true rfl, Nat.le_of_ble_eq_true rfl⟩) (fun v Ω' hp => ?_) (fun _ _ h => h.elim)
              obtain ⟨rfl, rfl⟩ := hp
              refine V_ex sX12_figures_74 (by simp only [Option.toList, List.cons_append, List.nil_append, exN, ex1, gI, gL, gR, pI, pL, pR, lget, lset1, lset2, kl, b2I, b2L, nob, ob32, ob64, xGet, xPut, xLen, xLd, xLdR, xSt, obA, true_and, and_true, and_self, eq_self, Nat.reduceEqDiff, Nat.zero_ne_one, reduceIte, Nat.reduceLeDiff, and_false, false_and, e2, upd2_eq, Int.reduceToNat, Int.toNat_natCast]; rfl) (by first | exact trivial | exact Or.inr rfl | exact Or.inl rfl | (simp only [ob, obA, R32, R64] at *; omega) | (simp only [ob, obA, R32, R64] at *; and_intros <;> omega) | (simp [ob, obA])) ?_
              refine V_callV (M := MX12_figures) (N := MX12_numberOn) dX12_figures_82 lRX12_393 kX12_numberOn rfl (rfl) rfl (c_mNumOn (d := 2) hκ (p := 2 * n + 2) hM2 hI.1 hj (by omega) (by omega)) rfl rfl (Nat.le_of_ble_eq_true rfl) (fit_rm (by omega)) (⟨Nat.le_of_ble_eq_true rfl, Nat.le_of_ble_eq_true rfl⟩) (fun v Ω' hp => ?_) (fun _ _ h => h.elim)
              obtain ⟨rfl, G3, rfl, f3⟩ := hp
              obtain ⟨f13, c3⟩ := fn_c f12 f3
              refine V_ex sX12_figures_85 (by rfl) (by first | exact trivial | exact Or.inr rfl | exact Or.inl rfl | (simp only [ob, obA, R32, R64] at *; omega) | (simp only [ob, obA, R32, R64] at *; and_intros <;> omega) | (simp [ob, obA])) ?_
              refine V_callS (M := MX12_figures) (N := MX12_figuresIn) dX12_figures_87 lRX12_400 kX12_figuresIn rfl (c_mfiguresIn (d := 0) hκ (by unfold R64; omega) hf) rfl rfl (Nat.le_of_ble_eq_true rfl) (fit_rm (by omega)) (⟨Nat.le_of_ble_eq_true rfl, Nat.le_of_ble_eq_true rfl⟩) (fun v Ω' hp => ?_) (fun _ _ h => h.elim)
              obtain ⟨rfl, rfl⟩ := hp
              refine V_ex sX12_figures_90 (by rfl) (by first | exact trivial | exact Or.inr rfl | exact Or.inl rfl | (simp only [ob, obA, R32, R64] at *; omega) | (simp only [ob, obA, R32, R64] at *; and_intros <;> omega) | (simp [ob, obA])) ?_
              refine V_ex sX12_figures_93 (by rfl) (by first | exact trivial | exact Or.inr rfl | exact Or.inl rfl | (simp only [ob, obA, R32, R64] at *; omega) | (simp only [ob, obA, R32, R64] at *; and_intros <;> omega) | (simp [ob, obA])) ?_
              refine V_goto dX12_figures_96 (tgt := 36) (by decide) ?_
              have q := ih (n + 1) ((n : Int) + 1) G3 (by omega) (by omega) f13 (by rw [c3, c2, c1])
              rw [hs, if_neg (of_decide_eq_false q54)] at q
              exact q
      refine V_ex sX12_figures_0 (by simp only [Option.toList, List.cons_append, List.nil_append, exN, ex1, gI, gL, gR, pI, pL, pR, lget, lset1, lset2, kl, b2I, b2L, nob, ob32, ob64, xGet, xPut, xLen, xLd, xLdR, xSt, obA, true_and, and_true, and_self, eq_self, Nat.reduceEqDiff, Nat.zero_ne_one, reduceIte, Nat.reduceLeDiff, and_false, false_and, show skd 11 2 = 0 from rfl, show LF.1 145 = some (.inl 11) from rfl, upd2_eq, Int.reduceToNat, Int.toNat_natCast]; rfl) (by first | exact trivial | exact Or.inr rfl | exact Or.inl rfl | (simp only [ob, obA, R32, R64] at *; omega) | (simp only [ob, obA, R32, R64] at *; and_intros <;> omega) | (simp [ob, obA])) ?_
      refine V_callV (M := MX12_figures) (N := MX12_isBook) dX12_figures_7 lRX12_386 kX12_isBook rfl (rfl) rfl (c_mIsBook (d := 2) hκ hC1.1 hI.1 hi (by omega)) rfl rfl (Nat.le_of_ble_eq_true rfl) (fit_rm (by omega)) (⟨Nat.le_of_ble_eq_true rfl, Nat.le_of_ble_eq_true rfl⟩) (fun v Ω' hp => ?_) (fun _ _ h => h.elim)
      obtain ⟨rfl, rfl⟩ := hp
      refine V_ifeqB dX12_figures_10 (tgt := 25) (by decide) (fun q10 => ?_) (fun q10 => ?_)
      · exact absurd hin (of_decide_eq_false q10)
      · refine V_ex sX12_figures_13 (by rfl) (by first | exact trivial | exact Or.inr rfl | exact Or.inl rfl | (simp only [ob, obA, R32, R64] at *; omega) | (simp only [ob, obA, R32, R64] at *; and_intros <;> omega) | (simp [ob, obA])) ?_
        refine V_callS (M := MX12_figures) (N := MX12_isIn) dX12_figures_19 lRX12_178 kX12_isIn rfl (c_misIn (d := 2) hκ hf64 (by unfold R64; omega) (by unfold R64; omega)) rfl rfl (Nat.le_of_ble_eq_true rfl) (fit_rm (by omega)) (⟨Nat.le_of_ble_eq_true rfl, Nat.le_of_ble_eq_true rfl⟩) (fun v Ω' hp => ?_) (fun _ _ h => h.elim)
        obtain ⟨rfl, rfl⟩ := hp
        refine V_ifneB dX12_figures_22 (tgt := 31) (by decide) (fun q22 => ?_) (fun q22 => ?_)
        · refine V_ex sX12_figures_31 (by rfl) (by first | exact trivial | exact Or.inr rfl | exact Or.inl rfl | (simp only [ob, obA, R32, R64] at *; omega) | (simp only [ob, obA, R32, R64] at *; and_intros <;> omega) | (simp [ob, obA])) ?_
          exact L (bkJ A.1 j).2.2.1.toNat 0 0 _ (by omega) rfl (fn0 G 0) iu
        · exact absurd hff (of_decide_eq_false q22)
    · have e : figuresP A (j : Nat) f = (1, 0) := by unfold figuresP; rw [if_pos (fun q => hff q.2)]
      refine V_ex sX12_figures_0 (by simp only [Option.toList, List.cons_append, List.nil_append, exN, ex1, gI, gL, gR, pI, pL, pR, lget, lset1, lset2, kl, b2I, b2L, nob, ob32, ob64, xGet, xPut, xLen, xLd, xLdR, xSt, obA, true_and, and_true, and_self, eq_self, Nat.reduceEqDiff, Nat.zero_ne_one, reduceIte, Nat.reduceLeDiff, and_false, false_and, show skd 11 2 = 0 from rfl, show LF.1 145 = some (.inl 11) from rfl, upd2_eq, Int.reduceToNat, Int.toNat_natCast]; rfl) (by first | exact trivial | exact Or.inr rfl | exact Or.inl rfl | (simp only [ob, obA, R32, R64] at *; omega) | (simp only [ob, obA, R32, R64] at *; and_intros <;> omega) | (simp [ob, obA])) ?_
      refine V_callV (M := MX12_figures) (N := MX12_isBook) dX12_figures_7 lRX12_386 kX12_isBook rfl (rfl) rfl (c_mIsBook (d := 2) hκ hC1.1 hI.1 hi (by omega)) rfl rfl (Nat.le_of_ble_eq_true rfl) (fit_rm (by omega)) (⟨Nat.le_of_ble_eq_true rfl, Nat.le_of_ble_eq_true rfl⟩) (fun v Ω' hp => ?_) (fun _ _ h => h.elim)
      obtain ⟨rfl, rfl⟩ := hp
      refine V_ifeqB dX12_figures_10 (tgt := 25) (by decide) (fun q10 => ?_) (fun q10 => ?_)
      · exact absurd hin (of_decide_eq_false q10)
      · refine V_ex sX12_figures_13 (by rfl) (by first | exact trivial | exact Or.inr rfl | exact Or.inl rfl | (simp only [ob, obA, R32, R64] at *; omega) | (simp only [ob, obA, R32, R64] at *; and_intros <;> omega) | (simp [ob, obA])) ?_
        refine V_callS (M := MX12_figures) (N := MX12_isIn) dX12_figures_19 lRX12_178 kX12_isIn rfl (c_misIn (d := 2) hκ hf64 (by unfold R64; omega) (by unfold R64; omega)) rfl rfl (Nat.le_of_ble_eq_true rfl) (fit_rm (by omega)) (⟨Nat.le_of_ble_eq_true rfl, Nat.le_of_ble_eq_true rfl⟩) (fun v Ω' hp => ?_) (fun _ _ h => h.elim)
        obtain ⟨rfl, rfl⟩ := hp
        refine V_ifneB dX12_figures_22 (tgt := 31) (by decide) (fun q22 => ?_) (fun q22 => ?_)
        · exact absurd (of_decide_eq_true q22) hff
        · refine V_ex sX12_figures_25 (by rfl) (by first | exact trivial | exact Or.inr rfl | exact Or.inl rfl | (simp only [ob, obA, R32, R64] at *; omega) | (simp only [ob, obA, R32, R64] at *; and_intros <;> omega) | (simp [ob, obA])) ?_
          refine V_callV (M := MX12_figures) (N := MX12_fail) dX12_figures_27 lRX12_324 kX12_fail rfl (rfl) rfl (c_mfail (d := 2) hκ) rfl rfl (Nat.le_of_ble_eq_true rfl) (fit_rm (by omega)) (⟨Nat.le_of_ble_eq_true rfl, Nat.le_of_ble_eq_true rfl⟩) (fun v Ω' hp => ?_) (fun _ _ h => h.elim)
          obtain ⟨rfl, rfl⟩ := hp
          refine V_iret dX12_figures_30 rfl (by decide) (md_1 hC (by rw [e]) (by rw [e]))
  · have e : figuresP A i f = (1, 0) := by unfold figuresP; rw [if_pos (fun q => hin q.1)]
    refine V_ex sX12_figures_0 (by simp only [Option.toList, List.cons_append, List.nil_append, exN, ex1, gI, gL, gR, pI, pL, pR, lget, lset1, lset2, kl, b2I, b2L, nob, ob32, ob64, xGet, xPut, xLen, xLd, xLdR, xSt, obA, true_and, and_true, and_self, eq_self, Nat.reduceEqDiff, Nat.zero_ne_one, reduceIte, Nat.reduceLeDiff, and_false, false_and, show skd 11 2 = 0 from rfl, show LF.1 145 = some (.inl 11) from rfl, upd2_eq, Int.reduceToNat, Int.toNat_natCast]; rfl) (by first | exact trivial | exact Or.inr rfl | exact Or.inl rfl | (simp only [ob, obA, R32, R64] at *; omega) | (simp only [ob, obA, R32, R64] at *; and_intros <;> omega) | (simp [ob, obA])) ?_
    refine V_callV (M := MX12_figures) (N := MX12_isBook) dX12_figures_7 lRX12_386 kX12_isBook rfl (rfl) rfl (c_mIsBook (d := 2) hκ hC1.1 hI.1 hi (by omega)) rfl rfl (Nat.le_of_ble_eq_true rfl) (fit_rm (by omega)) (⟨Nat.le_of_ble_eq_true rfl, Nat.le_of_ble_eq_true rfl⟩) (fun v Ω' hp => ?_) (fun _ _ h => h.elim)
    obtain ⟨rfl, rfl⟩ := hp
    refine V_ifeqB dX12_figures_10 (tgt := 25) (by decide) (fun q10 => ?_) (fun q10 => ?_)
    · refine V_ex sX12_figures_25 (by rfl) (by first | exact trivial | exact Or.inr rfl | exact Or.inl rfl | (simp only [ob, obA, R32, R64] at *; omega) | (simp only [ob, obA, R32, R64] at *; and_intros <;> omega) | (simp [ob, obA])) ?_
      refine V_callV (M := MX12_figures) (N := MX12_fail) dX12_figures_27 lRX12_324 kX12_fail rfl (rfl) rfl (c_mfail (d := 2) hκ) rfl rfl (Nat.le_of_ble_eq_true rfl) (fit_rm (by omega)) (⟨Nat.le_of_ble_eq_true rfl, Nat.le_of_ble_eq_true rfl⟩) (fun v Ω' hp => ?_) (fun _ _ h => h.elim)
      obtain ⟨rfl, rfl⟩ := hp
      refine V_iret dX12_figures_30 rfl (by decide) (md_1 hC (by rw [e]) (by rw [e]))
    · exact absurd (of_decide_eq_true q10) hin
set_option maxRecDepth 100000 in
set_option maxHeartbeats 4000000 in
theorem c_mxPage {κ : Kx} (hκ : KOK κ) {d : Nat} {K i n : Int} {A : Ab} {G : Wd} (hC : RM G A) (hI : Inv K A) (hi : R32 i) (hn : R32 n) (hd : 20 ≤ d) : Ct κ MX12_page d 0 0 [VR 145, VI i, VI n] (Wm G) (mdP G A (some (VI (pageP A i n).2)) (pageP A i n).1) noX := by
  refine Ct_of hκ kX12_page.1 rfl (Nat.le_of_ble_eq_true rfl) (ls := [some (VR 145), some (VI i), some (VI n), none, none]) rfl (fun μ => ?_)
  have hC1 := (RM_f hC (fn0 G 0)).1
  by_cases hin : inB A.1 i
  · obtain ⟨j, hj⟩ : ∃ j : Nat, i = (j : Int) := ⟨i.toNat, by have := hin.1; omega⟩
    subst hj
    have hj : j < A.1.1.length := by have := hin.2; omega
    obtain ⟨g1, g2, g3, g4, g5⟩ := gone_ok hI.1 hj
    have hj6 : j < 6 := by have := hI.1.1; omega
    have hok := hI.1.2.1 _ (List.getElem_mem hj)
    rw [← bkJ_in hj] at hok
    have hpR : -1 ≤ pgE (cdS A.1) (bkJ A.1 j) n ∧ pgE (cdS A.1) (bkJ A.1 j) n ≤ 9223372036854775807 - 1000000 := pgE_R hok hn
    have hpz : pgE (cdS A.1) (bkJ A.1 j) n ≠ 0 := pgE_nz hok hn
    have e : pageP A (j : Nat) n = if pgE (cdS A.1) (bkJ A.1 j) n ≤ 2 * (bkJ A.1 j).2.2.1 then (0, pgE (cdS A.1) (bkJ A.1 j) n) else (0, -1) := by unfold pageP; rw [if_neg (fun h => h hin)]; rfl
    rw [e]
    generalize hz : pgE (cdS A.1) (bkJ A.1 j) n = z at *
    have hPO := c_mPageOf (κ := κ) hκ (d := 3) (j := j) (n := n) hC1.1 hI.1 hj hn (by omega)
    rw [hz] at hPO
    refine V_ex sX12_page_0 (by simp only [Option.toList, List.cons_append, List.nil_append, exN, ex1, gI, gL, gR, pI, pL, pR, lget, lset1, lset2, kl, b2I, b2L, nob, ob32, ob64, xGet, xPut, xLen, xLd, xLdR, xSt, obA, true_and, and_true, and_self, eq_self, Nat.reduceEqDiff, Nat.zero_ne_one, reduceIte, Nat.reduceLeDiff, and_false, false_and, show skd 11 2 = 0 from rfl, show LF.1 145 = some (.inl 11) from rfl, upd2_eq, Int.reduceToNat, Int.toNat_natCast]; rfl) (by first | exact trivial | exact Or.inr rfl | exact Or.inl rfl | (simp only [ob, obA, R32, R64] at *; omega) | (simp only [ob, obA, R32, R64] at *; and_intros <;> omega) | (simp [ob, obA])) ?_
    refine V_callV (M := MX12_page) (N := MX12_isBook) dX12_page_7 lRX12_386 kX12_isBook rfl (rfl) rfl (c_mIsBook (d := 2) hκ hC1.1 hI.1 hi (by omega)) rfl rfl (Nat.le_of_ble_eq_true rfl) (fit_rm (by omega)) (⟨Nat.le_of_ble_eq_true rfl, Nat.le_of_ble_eq_true rfl⟩) (fun v Ω' hp => ?_) (fun _ _ h => h.elim)
    obtain ⟨rfl, rfl⟩ := hp
    refine V_ifneB dX12_page_10 (tgt := 19) (by decide) (fun q10 => ?_) (fun q10 => ?_)
    · refine V_ex sX12_page_19 (by rfl) (by first | exact trivial | exact Or.inr rfl | exact Or.inl rfl | (simp only [ob, obA, R32, R64] at *; omega) | (simp only [ob, obA, R32, R64] at *; and_intros <;> omega) | (simp [ob, obA])) ?_
      refine V_callV (M := MX12_page) (N := MX12_pageOf) dX12_page_22 lRX12_396 kX12_pageOf rfl (rfl) rfl (hPO) rfl rfl (Nat.le_of_ble_eq_true rfl) (fit_rm (by omega)) (⟨Nat.le_of_ble_eq_true rfl, Nat.le_of_ble_eq_true rfl⟩) (fun v Ω' hp => ?_) (fun _ _ h => h.elim)
      obtain ⟨rfl, G2, rfl, f2⟩ := hp
      obtain ⟨f3, c3⟩ := fn_c (fn0 G 0) f2
      have m3 := (mS0_b (RM_f hC f3).1.1 hj).2.2.1
      refine V_ex sX12_page_25 (by simp only [Option.toList, List.cons_append, List.nil_append, exN, ex1, gI, gL, gR, pI, pL, pR, lget, lset1, lset2, kl, b2I, b2L, nob, ob32, ob64, xGet, xPut, xLen, xLd, xLdR, xSt, obA, true_and, and_true, and_self, eq_self, Nat.reduceEqDiff, Nat.zero_ne_one, reduceIte, Nat.reduceLeDiff, and_false, false_and, show skd 11 6 = 2 from rfl, show LF.1 145 = some (.inl 11) from rfl, show LF.2 145 6 = some 151 from rfl, show LF.1 151 = some (.inr (0, 12)) from rfl, m3, Int.toNat_natCast, upd2_eq, Int.reduceToNat, Int.toNat_natCast]; rfl) (by first | exact trivial | exact Or.inr rfl | exact Or.inl rfl | (simp only [ob, obA, R32, R64] at *; omega) | (simp only [ob, obA, R32, R64] at *; and_intros <;> omega) | (simp [ob, obA])) ?_
      refine V_callS (M := MX12_page) (N := MX12_isIn) dX12_page_37 lRX12_178 kX12_isIn rfl (c_misIn (d := 2) hκ (by unfold R64; omega) (by unfold R64; omega) (by unfold R64; omega)) rfl rfl (Nat.le_of_ble_eq_true rfl) (fit_rm (by omega)) (⟨Nat.le_of_ble_eq_true rfl, Nat.le_of_ble_eq_true rfl⟩) (fun v Ω' hp => ?_) (fun _ _ h => h.elim)
      obtain ⟨rfl, rfl⟩ := hp
      refine V_ifeqB dX12_page_40 (tgt := 48) (by decide) (fun q40 => ?_) (fun q40 => ?_)
      · refine V_ex sX12_page_48 (by rfl) (by first | exact trivial | exact Or.inr rfl | exact Or.inl rfl | (simp only [ob, obA, R32, R64] at *; omega) | (simp only [ob, obA, R32, R64] at *; and_intros <;> omega) | (simp [ob, obA])) ?_
        refine V_iret dX12_page_49 rfl (by decide) (by have h := of_decide_eq_false q40; by_cases hc : z ≤ 2 * (bkJ A.1 j).2.2.1; (obtain rfl : z = -1 := (by omega)); rw [if_pos hc]; exact FN.s0 f3 (c3.trans iu) hC rfl rfl; rw [if_neg hc]; exact FN.s0 f3 (c3.trans iu) hC rfl rfl)
      · refine V_ex sX12_page_43 (by rfl) (by first | exact trivial | exact Or.inr rfl | exact Or.inl rfl | (simp only [ob, obA, R32, R64] at *; omega) | (simp only [ob, obA, R32, R64] at *; and_intros <;> omega) | (simp [ob, obA])) ?_
        have q40' := of_decide_eq_true q40
        refine V_goto dX12_page_45 (tgt := 49) (by decide) ?_
        refine V_iret dX12_page_49 rfl (by decide) (by rw [if_pos (by omega)]; exact FN.s0 f3 (c3.trans iu) hC rfl rfl)
    · exact absurd hin (of_decide_eq_false q10)
  · have e : pageP A i n = (1, 0) := by unfold pageP; rw [if_pos hin]
    refine V_ex sX12_page_0 (by simp only [Option.toList, List.cons_append, List.nil_append, exN, ex1, gI, gL, gR, pI, pL, pR, lget, lset1, lset2, kl, b2I, b2L, nob, ob32, ob64, xGet, xPut, xLen, xLd, xLdR, xSt, obA, true_and, and_true, and_self, eq_self, Nat.reduceEqDiff, Nat.zero_ne_one, reduceIte, Nat.reduceLeDiff, and_false, false_and, show skd 11 2 = 0 from rfl, show LF.1 145 = some (.inl 11) from rfl, upd2_eq, Int.reduceToNat, Int.toNat_natCast]; rfl) (by first | exact trivial | exact Or.inr rfl | exact Or.inl rfl | (simp only [ob, obA, R32, R64] at *; omega) | (simp only [ob, obA, R32, R64] at *; and_intros <;> omega) | (simp [ob, obA])) ?_
    refine V_callV (M := MX12_page) (N := MX12_isBook) dX12_page_7 lRX12_386 kX12_isBook rfl (rfl) rfl (c_mIsBook (d := 2) hκ hC1.1 hI.1 hi (by omega)) rfl rfl (Nat.le_of_ble_eq_true rfl) (fit_rm (by omega)) (⟨Nat.le_of_ble_eq_true rfl, Nat.le_of_ble_eq_true rfl⟩) (fun v Ω' hp => ?_) (fun _ _ h => h.elim)
    obtain ⟨rfl, rfl⟩ := hp
    refine V_ifneB dX12_page_10 (tgt := 19) (by decide) (fun q10 => ?_) (fun q10 => ?_)
    · exact absurd (of_decide_eq_true q10) hin
    · refine V_ex sX12_page_13 (by rfl) (by first | exact trivial | exact Or.inr rfl | exact Or.inl rfl | (simp only [ob, obA, R32, R64] at *; omega) | (simp only [ob, obA, R32, R64] at *; and_intros <;> omega) | (simp [ob, obA])) ?_
      refine V_callV (M := MX12_page) (N := MX12_fail) dX12_page_15 lRX12_324 kX12_fail rfl (rfl) rfl (c_mfail (d := 2) hκ) rfl rfl (Nat.le_of_ble_eq_true rfl) (fit_rm (by omega)) (⟨Nat.le_of_ble_eq_true rfl, Nat.le_of_ble_eq_true rfl⟩) (fun v Ω' hp => ?_) (fun _ _ h => h.elim)
      obtain ⟨rfl, rfl⟩ := hp
      refine V_iret dX12_page_18 rfl (by decide) (md_1 hC (by rw [e]) (by rw [e]))
