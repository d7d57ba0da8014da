/-! TornLeaves: figures, index -/
set_option maxRecDepth 100000 in
set_option maxHeartbeats 4000000 in
theorem c_xFigures {κ : Kx} (hκ : KOK κ) {d s : Nat} {K i f : Int} {A : Ab} {G : Wd} (hC : RC G s A) (hI : Inv K A) (hR : aR G) (hi : R32 i) (hf : R32 f) (hd : 20 ≤ d) : Ct κ MX11_figures d 16 128 [VR 1, VI i, VI f] (Wm G) (cP G A ((figuresP A i f).1 = 0) (some (VI (figuresP A i f).2))) (cX G A ((figuresP A i f).1 = 1) NSE) := by
  refine Ct_of hκ kX11_figures.1 rfl (Nat.le_of_ble_eq_true rfl) (ls := [some (VR 1), some (VI i), some (VI f), none, none, none]) rfl (fun μ => ?_)
  have hN := RC_N hC hI.1 hR
  by_cases hin : inB A.1 i
  · obtain ⟨j, hj⟩ : ∃ j : Nat, i = (j : Int) := ⟨i.toNat, by have := hin.1; omega⟩
    subst hj
    have hj : j < A.1.1.length := by have := hin.2; omega
    obtain ⟨hB, hj6, hok, -⟩ := NC_b hN hj
    have hlv := hok.2.2.2.1
    by_cases hf1 : 0 ≤ f ∧ f ≤ 10
    · have e : figuresP A (j : Nat) f = (0, figs (cdS A.1) (bkJ A.1 j) f (2 * (bkJ A.1 j).2.2.1).toNat) := by unfold figuresP; rw [if_neg (fun h => h ⟨hin, hf1⟩)]; rfl
      have L : ∀ (k n : Nat) (pp : Int) (G1 : Wd) (cells slots : Nat), cells = 0 + 1 + 1 → slots = 0 + 6 + 6 → (n : Int) + k = 2 * (bkJ A.1 j).2.2.1 → pp = (n : Int) + 1 → ScN s G G1 → NC G1 s A.1 → V κ MX11_figures (rmD d 16 128) (cP G A ((figuresP A (j : Nat) f).1 = 0) (some (VI (figuresP A (j : Nat) f).2))) (cX G A ((figuresP A (j : Nat) f).1 = 1) NSE) 16 128 μ cells slots (Wm (G1)) 16 [some (VR 1), some (VI (j : Nat)), some (VI f), some (VR (s + 7 + 5 * j)), some (VI (figs (cdS A.1) (bkJ A.1 j) f n)), some (VI pp)] [] := by
        intro k
        induction k with
        | zero =>
          intro n pp G1 cells slots hcl hsl hnk hpp f1 n1
          subst hcl hsl
          obtain ⟨-, -, -, k0, k2, k1, -, kg⟩ := NC_b n1 hj
          have en : n = (2 * (bkJ A.1 j).2.2.1).toNat := by omega
          refine V_ex sX11_figures_16 (by simp only [Option.toList, List.cons_append, List.nil_append, exN, ex1, gI, gL, gR, pI, pL, pR, lget, lset1, lset2, kl, b2I, b2L, nob, ob32, ob64, xGet, xPut, xLen, xLd, xLdR, xSt, obA, true_and, and_true, and_self, eq_self, Nat.reduceEqDiff, Nat.zero_ne_one, reduceIte, Nat.reduceLeDiff, and_false, false_and, show skd 0 1 = 0 from rfl, hB.1, k1, upd2_eq, Int.reduceToNat, Int.toNat_natCast]; rfl) (by first | exact trivial | exact Or.inr rfl | exact Or.inl rfl | (simp only [ob, obA, R32, R64] at *; omega) | (simp only [ob, obA, R32, R64] at *; and_intros <;> omega)) ?_
          refine V_icmpgt dX11_figures_24 (tgt := 66) (by decide) (by simp only [R32, R64] at *; omega) (fun q24 => ?_) (fun q24 => ?_)
          · refine V_ex sX11_figures_66 (by rfl) (by first | exact trivial | exact Or.inr rfl | exact Or.inl rfl | (simp only [ob, obA, R32, R64] at *; omega) | (simp only [ob, obA, R32, R64] at *; and_intros <;> omega)) ?_
            refine V_iret dX11_figures_68 rfl (by decide) (cP_n hC hI.1 f1 n1 (by rw [e]) (by rw [e, en]))
          · omega
        | succ k ih =>
          intro n pp G1 cells slots hcl hsl hnk hpp f1 n1
          subst hcl hsl
          obtain rfl : pp = ((n + 1 : Nat) : Int) := by omega
          obtain ⟨-, -, -, k0, k2, k1, -, kg⟩ := NC_b n1 hj
          have hR := numB_R hok (p := ((n + 1 : Nat) : Int)) (by omega)
          have eh : (((n + 1 : Nat) : Int) - 1) / 2 = (n : Int) / 2 := by omega
          have hH := c_has (κ := κ) hκ (d := 3) (leaf := (n : Int) / 2) (G := G1) hB.2.2.1 (by unfold R32; omega)
          rw [kg.2] at hH
          have hs : figs (cdS A.1) (bkJ A.1 j) f (n + 1) = figs (cdS A.1) (bkJ A.1 j) f n + if ((n : Int) / 2) ∈ (bkJ A.1 j).2.2.2.2.2 then 0 else dgc f 19 (numB (cdS A.1) (bkJ A.1 j) ((n + 1 : Nat) : Int)) := by rw [figs]; congr 2
          refine V_ex sX11_figures_16 (by simp only [Option.toList, List.cons_append, List.nil_append, exN, ex1, gI, gL, gR, pI, pL, pR, lget, lset1, lset2, kl, b2I, b2L, nob, ob32, ob64, xGet, xPut, xLen, xLd, xLdR, xSt, obA, true_and, and_true, and_self, eq_self, Nat.reduceEqDiff, Nat.zero_ne_one, reduceIte, Nat.reduceLeDiff, and_false, false_and, show skd 0 1 = 0 from rfl, hB.1, k1, upd2_eq, Int.reduceToNat, Int.toNat_natCast]; rfl) (by first | exact trivial | exact Or.inr rfl | exact Or.inl rfl | (simp only [ob, obA, R32, R64] at *; omega) | (simp only [ob, obA, R32, R64] at *; and_intros <;> omega)) ?_
          refine V_icmpgt dX11_figures_24 (tgt := 66) (by decide) (by simp only [R32, R64] at *; omega) (fun q24 => ?_) (fun q24 => ?_)
          · omega
          · refine V_ex sX11_figures_27 (by simp only [Option.toList, List.cons_append, List.nil_append, exN, ex1, gI, gL, gR, pI, pL, pR, lget, lset1, lset2, kl, b2I, b2L, nob, ob32, ob64, xGet, xPut, xLen, xLd, xLdR, xSt, obA, true_and, and_true, and_self, eq_self, Nat.reduceEqDiff, Nat.zero_ne_one, reduceIte, Nat.reduceLeDiff, and_false, false_and, show skd 0 5 = 2 from rfl, hB.1, hB.2.1, hB.1, k1, upd2_eq, Int.reduceToNat, Int.toNat_natCast]; rfl) (by first | exact trivial | exact Or.inr rfl | exact Or.inl rfl | (simp only [ob, obA, R32, R64] at *; omega) | (simp only [ob, obA, R32, R64] at *; and_intros <;> omega)) ?_
            refine V_callS (M := MX11_figures) (N := MX11_leafOf) dX11_figures_33 lRX11_245 kX11_leafOf rfl (c_leafOf (d := 0) hκ (p := ((n + 1 : Nat) : Int)) (by omega) (by unfold R32; omega)) rfl rfl (Nat.le_of_ble_eq_true rfl) (fit_rm (by omega)) (⟨Nat.le_of_ble_eq_true rfl, Nat.le_of_ble_eq_true rfl⟩) (fun v Ω' hp => ?_) (fun _ _ h => h.elim)
            obtain ⟨rfl, rfl⟩ := hp
            rw [eh]
            refine V_callV (M := MX11_figures) (N := MX5_has) dX11_figures_36 lRX11_202 kX5_has rfl (hB.2.2.1.1) rfl (hH) rfl rfl (Nat.le_of_ble_eq_true rfl) (fit_rm (by omega)) (⟨Nat.le_of_ble_eq_true rfl, Nat.le_of_ble_eq_true rfl⟩) (fun v Ω' hp => ?_) (fun _ _ h => h.elim)
            obtain ⟨rfl, rfl⟩ := hp
            refine V_ifneB dX11_figures_39 (tgt := 60) (by decide) (fun q39 => ?_) (fun q39 => ?_)
            · refine V_ex sX11_figures_60 (by rfl) (by first | exact trivial | exact Or.inr rfl | exact Or.inl rfl | (simp only [ob, obA, R32, R64] at *; omega) | (simp only [ob, obA, R32, R64] at *; and_intros <;> omega)) ?_
              refine V_goto dX11_figures_63 (tgt := 16) (by decide) ?_
              have ee := ih (n + 1) (((n + 1 : Nat) : Int) + 1) G1 _ _ rfl rfl (by omega) (by omega) f1 n1
              rw [hs, if_pos (of_decide_eq_true q39), Int.add_zero] at ee
              exact ee
            · refine V_ex sX11_figures_42 (by rfl) (by first | exact trivial | exact Or.inr rfl | exact Or.inl rfl | (simp only [ob, obA, R32, R64] at *; omega) | (simp only [ob, obA, R32, R64] at *; and_intros <;> omega)) ?_
              refine V_callV (M := MX11_figures) (N := MX11_numberOn) dX11_figures_50 lRX11_208 kX11_numberOn rfl (rfl) rfl (c_numOn (d := 7) hκ n1 hj (p := n + 1) (by omega) (by omega)) rfl rfl (Nat.le_of_ble_eq_true rfl) (fit_rm (by omega)) (⟨Nat.le_of_ble_eq_true rfl, Nat.le_of_ble_eq_true rfl⟩) (fun v Ω' hp => ?_) (fun _ _ h => h.elim)
              obtain ⟨rfl, G2, rfl, f2, n2⟩ := hp
              refine V_ex sX11_figures_53 (by rfl) (by first | exact trivial | exact Or.inr rfl | exact Or.inl rfl | (simp only [ob, obA, R32, R64] at *; omega) | (simp only [ob, obA, R32, R64] at *; and_intros <;> omega)) ?_
              refine V_callS (M := MX11_figures) (N := MX3_inNumber) dX11_figures_54 lRX11_248 kX3_inNumber rfl (c_inNumber (d := 0) hκ hf (by unfold R64; omega)) rfl rfl (Nat.le_of_ble_eq_true rfl) (fit_rm (by omega)) (⟨Nat.le_of_ble_eq_true rfl, Nat.le_of_ble_eq_true rfl⟩) (fun v Ω' hp => ?_) (fun _ _ h => h.elim)
              obtain ⟨rfl, rfl⟩ := hp
              refine V_ex sX11_figures_57 (by rfl) (by first | exact trivial | exact Or.inr rfl | exact Or.inl rfl | (simp only [ob, obA, R32, R64] at *; omega) | (simp only [ob, obA, R32, R64] at *; and_intros <;> omega)) ?_
              refine V_ex sX11_figures_60 (by rfl) (by first | exact trivial | exact Or.inr rfl | exact Or.inl rfl | (simp only [ob, obA, R32, R64] at *; omega) | (simp only [ob, obA, R32, R64] at *; and_intros <;> omega)) ?_
              refine V_goto dX11_figures_63 (tgt := 16) (by decide) ?_
              have ee := ih (n + 1) (((n + 1 : Nat) : Int) + 1) G2 _ _ rfl rfl (by omega) (by omega) (f1.trans f2) n2
              rw [hs, if_neg (of_decide_eq_false q39)] at ee
              exact ee
      refine V_ex sX11_figures_0 (by rfl) (by first | exact trivial | exact Or.inr rfl | exact Or.inl rfl | (simp only [ob, obA, R32, R64] at *; omega) | (simp only [ob, obA, R32, R64] at *; and_intros <;> omega)) ?_
      refine V_callV (M := MX11_figures) (N := MX11_needBook) dX11_figures_2 lRX11_154 kX11_needBook rfl (rfl) rfl (c_nBook (d := 6) hκ hN hi (by omega)) rfl rfl (Nat.le_of_ble_eq_true rfl) (fit_rm (by omega)) (⟨Nat.le_of_ble_eq_true rfl, Nat.le_of_ble_eq_true rfl⟩) (fun v Ω' hp => ?_) (fun E Ω' h => absurd hin h.1)
      obtain ⟨-, rfl, rfl⟩ := hp
      rw [Int.toNat_natCast]
      refine V_ex sX11_figures_5 (by rfl) (by first | exact trivial | exact Or.inr rfl | exact Or.inl rfl | (simp only [ob, obA, R32, R64] at *; omega) | (simp only [ob, obA, R32, R64] at *; and_intros <;> omega)) ?_
      refine V_callS (M := MX11_figures) (N := MX11_needFigure) dX11_figures_7 lRX11_242 kX11_needFigure rfl (c_needFigure (d := 6) hκ hf (by omega)) rfl rfl (Nat.le_of_ble_eq_true rfl) (fit_rm (by omega)) (⟨Nat.le_of_ble_eq_true rfl, Nat.le_of_ble_eq_true rfl⟩) (fun v Ω' hp => ?_) (fun E Ω' h => absurd hf1 h.1)
      obtain ⟨-, rfl, rfl⟩ := hp
      refine V_ex sX11_figures_10 (by rfl) (by first | exact trivial | exact Or.inr rfl | exact Or.inl rfl | (simp only [ob, obA, R32, R64] at *; omega) | (simp only [ob, obA, R32, R64] at *; and_intros <;> omega)) ?_
      exact L (2 * (bkJ A.1 j).2.2.1).toNat 0 1 G _ _ rfl rfl (by omega) (by omega) (ScN.refl s G) hN
    · have e : figuresP A (j : Nat) f = (1, 0) := by unfold figuresP; rw [if_pos (fun h => hf1 h.2)]
      refine V_ex sX11_figures_0 (by rfl) (by first | exact trivial | exact Or.inr rfl | exact Or.inl rfl | (simp only [ob, obA, R32, R64] at *; omega) | (simp only [ob, obA, R32, R64] at *; and_intros <;> omega)) ?_
      refine V_callV (M := MX11_figures) (N := MX11_needBook) dX11_figures_2 lRX11_154 kX11_needBook rfl (rfl) rfl (c_nBook (d := 6) hκ hN hi (by omega)) rfl rfl (Nat.le_of_ble_eq_true rfl) (fit_rm (by omega)) (⟨Nat.le_of_ble_eq_true rfl, Nat.le_of_ble_eq_true rfl⟩) (fun v Ω' hp => ?_) (fun E Ω' h => absurd hin h.1)
      obtain ⟨-, rfl, rfl⟩ := hp
      rw [Int.toNat_natCast]
      refine V_ex sX11_figures_5 (by rfl) (by first | exact trivial | exact Or.inr rfl | exact Or.inl rfl | (simp only [ob, obA, R32, R64] at *; omega) | (simp only [ob, obA, R32, R64] at *; and_intros <;> omega)) ?_
      refine V_callS (M := MX11_figures) (N := MX11_needFigure) dX11_figures_7 lRX11_242 kX11_needFigure rfl (c_needFigure (d := 6) hκ hf (by omega)) rfl rfl (Nat.le_of_ble_eq_true rfl) (fit_rm (by omega)) (⟨Nat.le_of_ble_eq_true rfl, Nat.le_of_ble_eq_true rfl⟩) (fun v Ω' hp => ?_) (fun E Ω' h => ⟨by rw [h.2.1, h.2.2]; exact cX_0 hC (by rw [e]), rfl, Nat.le_of_ble_eq_true rfl, Nat.le_of_ble_eq_true rfl⟩)
      skip
      exact absurd hp.1 hf1
  · have e : figuresP A i f = (1, 0) := by unfold figuresP; rw [if_pos (fun h => hin h.1)]
    refine V_ex sX11_figures_0 (by rfl) (by first | exact trivial | exact Or.inr rfl | exact Or.inl rfl | (simp only [ob, obA, R32, R64] at *; omega) | (simp only [ob, obA, R32, R64] at *; and_intros <;> omega)) ?_
    refine V_callV (M := MX11_figures) (N := MX11_needBook) dX11_figures_2 lRX11_154 kX11_needBook rfl (rfl) rfl (c_nBook (d := 6) hκ hN hi (by omega)) rfl rfl (Nat.le_of_ble_eq_true rfl) (fit_rm (by omega)) (⟨Nat.le_of_ble_eq_true rfl, Nat.le_of_ble_eq_true rfl⟩) (fun v Ω' hp => ?_) (fun E Ω' h => ⟨by rw [h.2.1, h.2.2]; exact cX_0 hC (by rw [e]), rfl, Nat.le_of_ble_eq_true rfl, Nat.le_of_ble_eq_true rfl⟩)
    skip
    exact absurd hp.1 hin
set_option maxRecDepth 100000 in
set_option maxHeartbeats 4000000 in
theorem c_xIndex {κ : Kx} (hκ : KOK κ) {d s : Nat} {K i n : Int} {A : Ab} {G : Wd} (hC : RC G s A) (hI : Inv K A) (hR : aR G) (hi : R32 i) (hn : R32 n) (hd : 20 ≤ d) : Ct κ MX11_index d 16 128 [VR 1, VI i, VI n] (Wm G) (cP G A ((indexP A i n).1 = 0) (some (VI (indexP A i n).2))) (cX G A ((indexP A i n).1 = 1) NSE) := by
  refine Ct_of hκ kX11_index.1 rfl (Nat.le_of_ble_eq_true rfl) (ls := [some (VR 1), some (VI i), some (VI n), none, none, none, none, none]) rfl (fun μ => ?_)
  have hN := RC_N hC hI.1 hR
  by_cases hin : inB A.1 i
  · obtain ⟨j, hj⟩ : ∃ j : Nat, i = (j : Int) := ⟨i.toNat, by have := hin.1; omega⟩
    subst hj
    have hj : j < A.1.1.length := by have := hin.2; omega
    obtain ⟨hB, hj6, hok, -⟩ := NC_b hN hj
    have hlv := hok.2.2.2.1
    have hk6 := hok.1
    have hz := pgE_R hok hn
    have e : indexP A (j : Nat) n = (0, idxV (bkJ A.1 j) (pgE (cdS A.1) (bkJ A.1 j) n)) := by unfold indexP; rw [if_neg (fun h => h hin)]; rfl
    have hP := fun G1 (n1 : NC G1 s A.1) => c_pgE (κ := κ) hκ (d := 7) (n := n) n1 hj hn (by omega)
    generalize pgE (cdS A.1) (bkJ A.1 j) n = z at *
    have fin : ∀ (G1 : Wd) (v : Int), ScN s G G1 → NC G1 s A.1 → idxV (bkJ A.1 j) z = v → cP G A ((indexP A (j : Nat) n).1 = 0) (some (VI (indexP A (j : Nat) n).2)) (some (VI v)) (Wm G1) := fun G1 v f1 n1 hv => cP_n hC hI.1 f1 n1 (by rw [e]) (by rw [e]; exact viE hv.symm)
    have big : 1 ≤ z → ∀ (G1 : Wd) (lv : Int), ScN s G G1 → NC G1 s A.1 → lv = (if (bkJ A.1 j).1 = 1 ∧ (z + 1) / 2 % 2 ≠ 0 then (z + 1) / 2 + 1 else (z + 1) / 2) → V κ MX11_index (rmD d 16 128) (cP G A ((indexP A (j : Nat) n).1 = 0) (some (VI (indexP A (j : Nat) n).2))) (cX G A ((indexP A (j : Nat) n).1 = 1) NSE) 16 128 μ (0 + 1 + 0) (0 + 6 + 0) (Wm (G1)) 59 [some (VR 1), some (VI (j : Nat)), some (VI n), some (VR (s + 7 + 5 * j)), some (VL z), none, some (VL lv), none] [] := fun hz1 G1 lv f1 n1 hlvv => by
      obtain ⟨-, -, -, k0, k2, k1, -⟩ := NC_b n1 hj
      have hiv : idxV (bkJ A.1 j) z = if (bkJ A.1 j).2.2.1 < lv then lv - (bkJ A.1 j).2.2.1 else 0 := by unfold idxV; rw [if_neg (by omega), ← hlvv]
      have hlR : 0 ≤ lv ∧ lv ≤ z + 1 := by rw [hlvv]; split <;> omega
      refine V_ex sX11_index_59 (by simp only [Option.toList, List.cons_append, List.nil_append, exN, ex1, gI, gL, gR, pI, pL, pR, lget, lset1, lset2, kl, b2I, b2L, nob, ob32, ob64, xGet, xPut, xLen, xLd, xLdR, xSt, obA, true_and, and_true, and_self, eq_self, Nat.reduceEqDiff, Nat.zero_ne_one, reduceIte, Nat.reduceLeDiff, and_false, false_and, show skd 0 1 = 0 from rfl, hB.1, k1, upd2_eq, Int.reduceToNat, Int.toNat_natCast]; rfl) (by first | exact trivial | exact Or.inr rfl | exact Or.inl rfl | (simp only [ob, obA, R32, R64] at *; omega) | (simp only [ob, obA, R32, R64] at *; and_intros <;> omega)) ?_
      refine V_lifle dX11_index_67 (tgt := 82) (by decide) (fun q67 => ?_) (fun q67 => ?_)
      · refine V_ex sX11_index_82 (by rfl) (by first | exact trivial | exact Or.inr rfl | exact Or.inl rfl | (simp only [ob, obA, R32, R64] at *; omega) | (simp only [ob, obA, R32, R64] at *; and_intros <;> omega)) ?_
        refine V_iret dX11_index_83 rfl (by decide) (fin G1 _ f1 n1 (by rw [hiv, if_neg (by omega)]))
      · refine V_ex sX11_index_70 (by simp only [Option.toList, List.cons_append, List.nil_append, exN, ex1, gI, gL, gR, pI, pL, pR, lget, lset1, lset2, kl, b2I, b2L, nob, ob32, ob64, xGet, xPut, xLen, xLd, xLdR, xSt, obA, true_and, and_true, and_self, eq_self, Nat.reduceEqDiff, Nat.zero_ne_one, reduceIte, Nat.reduceLeDiff, and_false, false_and, show skd 0 1 = 0 from rfl, hB.1, k1, upd2_eq, Int.reduceToNat, Int.toNat_natCast]; rfl) (by first | exact trivial | exact Or.inr rfl | exact Or.inl rfl | (simp only [ob, obA, R32, R64] at *; omega) | (simp only [ob, obA, R32, R64] at *; and_intros <;> omega)) ?_
        refine V_goto dX11_index_79 (tgt := 83) (by decide) ?_
        refine V_iret dX11_index_83 rfl (by decide) (fin G1 _ f1 n1 (by rw [hiv, if_pos (by omega)]))
    refine V_ex sX11_index_0 (by rfl) (by first | exact trivial | exact Or.inr rfl | exact Or.inl rfl | (simp only [ob, obA, R32, R64] at *; omega) | (simp only [ob, obA, R32, R64] at *; and_intros <;> omega)) ?_
    refine V_callV (M := MX11_index) (N := MX11_needBook) dX11_index_2 lRX11_154 kX11_needBook rfl (rfl) rfl (c_nBook (d := 6) hκ hN hi (by omega)) rfl rfl (Nat.le_of_ble_eq_true rfl) (fit_rm (by omega)) (⟨Nat.le_of_ble_eq_true rfl, Nat.le_of_ble_eq_true rfl⟩) (fun v Ω' hp => ?_) (fun E Ω' h => absurd hin h.1)
    obtain ⟨-, rfl, rfl⟩ := hp
    rw [Int.toNat_natCast]
    refine V_ex sX11_index_5 (by rfl) (by first | exact trivial | exact Or.inr rfl | exact Or.inl rfl | (simp only [ob, obA, R32, R64] at *; omega) | (simp only [ob, obA, R32, R64] at *; and_intros <;> omega)) ?_
    refine V_callV (M := MX11_index) (N := MX11_pageEver) dX11_index_10 lRX11_223 kX11_pageEver rfl (rfl) rfl (hP G hN) rfl rfl (Nat.le_of_ble_eq_true rfl) (fit_rm (by omega)) (⟨Nat.le_of_ble_eq_true rfl, Nat.le_of_ble_eq_true rfl⟩) (fun v Ω' hp => ?_) (fun _ _ h => h.elim)
    obtain ⟨rfl, G1, rfl, f1, n1⟩ := hp
    obtain ⟨-, -, -, k0, k2, k1, -⟩ := NC_b n1 hj
    refine V_ex sX11_index_13 (by rfl) (by first | exact trivial | exact Or.inr rfl | exact Or.inl rfl | (simp only [ob, obA, R32, R64] at *; omega) | (simp only [ob, obA, R32, R64] at *; and_intros <;> omega)) ?_
    refine V_lifge dX11_index_19 (tgt := 24) (by decide) (fun q19 => ?_) (fun q19 => ?_)
    · have ed : (z + 1).tdiv 2 = (z + 1) / 2 := td_nn (by omega)
      have em : ((z + 1) / 2).tmod 2 = (z + 1) / 2 % 2 := tm_nn (by omega)
      refine V_ex sX11_index_24 (by simp only [Option.toList, List.cons_append, List.nil_append, exN, ex1, gI, gL, gR, pI, pL, pR, lget, lset1, lset2, kl, b2I, b2L, nob, ob32, ob64, xGet, xPut, xLen, xLd, xLdR, xSt, obA, true_and, and_true, and_self, eq_self, Nat.reduceEqDiff, Nat.zero_ne_one, reduceIte, Nat.reduceLeDiff, and_false, false_and, show skd 0 0 = 0 from rfl, hB.1, k0, ed, upd2_eq, Int.reduceToNat, Int.toNat_natCast]; rfl) (by first | exact trivial | exact Or.inr rfl | exact Or.inl rfl | (simp only [ob, obA, R32, R64] at *; omega) | (simp only [ob, obA, R32, R64] at *; and_intros <;> omega)) ?_
      refine V_icmpne dX11_index_39 (tgt := 59) (by decide) (by simp only [R32, R64] at *; omega) (fun q39 => ?_) (fun q39 => ?_)
      · exact big (by omega) G1 _ f1 n1 (by rw [if_neg (by omega)])
      · refine V_ex sX11_index_42 (by simp only [Option.toList, List.cons_append, List.nil_append, exN, ex1, gI, gL, gR, pI, pL, pR, lget, lset1, lset2, kl, b2I, b2L, nob, ob32, ob64, xGet, xPut, xLen, xLd, xLdR, xSt, obA, true_and, and_true, and_self, eq_self, Nat.reduceEqDiff, Nat.zero_ne_one, reduceIte, Nat.reduceLeDiff, and_false, false_and, em, upd2_eq, Int.reduceToNat, Int.toNat_natCast]; rfl) (by first | exact trivial | exact Or.inr rfl | exact Or.inl rfl | (simp only [ob, obA, R32, R64] at *; omega) | (simp only [ob, obA, R32, R64] at *; and_intros <;> omega)) ?_
        refine V_lifeq dX11_index_50 (tgt := 59) (by decide) (fun q50 => ?_) (fun q50 => ?_)
        · exact big (by omega) G1 _ f1 n1 (by rw [if_neg (by omega)])
        · refine V_ex sX11_index_53 (by rfl) (by first | exact trivial | exact Or.inr rfl | exact Or.inl rfl | (simp only [ob, obA, R32, R64] at *; omega) | (simp only [ob, obA, R32, R64] at *; and_intros <;> omega)) ?_
          exact big (by omega) G1 _ f1 n1 (by rw [if_pos (by omega)])
    · refine V_ex sX11_index_22 (by rfl) (by first | exact trivial | exact Or.inr rfl | exact Or.inl rfl | (simp only [ob, obA, R32, R64] at *; omega) | (simp only [ob, obA, R32, R64] at *; and_intros <;> omega)) ?_
      refine V_iret dX11_index_23 rfl (by decide) (fin G1 _ f1 n1 (by unfold idxV; rw [if_pos (by omega)]))
  · have e : indexP A i n = (1, 0) := by unfold indexP; rw [if_pos hin]
    refine V_ex sX11_index_0 (by rfl) (by first | exact trivial | exact Or.inr rfl | exact Or.inl rfl | (simp only [ob, obA, R32, R64] at *; omega) | (simp only [ob, obA, R32, R64] at *; and_intros <;> omega)) ?_
    refine V_callV (M := MX11_index) (N := MX11_needBook) dX11_index_2 lRX11_154 kX11_needBook rfl (rfl) rfl (c_nBook (d := 6) hκ hN hi (by omega)) rfl rfl (Nat.le_of_ble_eq_true rfl) (fit_rm (by omega)) (⟨Nat.le_of_ble_eq_true rfl, Nat.le_of_ble_eq_true rfl⟩) (fun v Ω' hp => ?_) (fun E Ω' h => ⟨by rw [h.2.1, h.2.2]; exact cX_0 hC (by rw [e]), rfl, Nat.le_of_ble_eq_true rfl, Nat.le_of_ble_eq_true rfl⟩)
    skip
    exact absurd hp.1 hin
