/-! TornLeaves: least -/
theorem wsL_at {S : Sh} {j n k : Nat} (h : k < (thL (bkJ S j).2.2.2.2.2 n).length) : lw (wsL S j n) k = lfB (cdS S) (bkJ S j) ((thL (bkJ S j).2.2.2.2.2 n)[k]'h) := by
  unfold lw wsL
  rw [List.getD_eq_getElem?_getD, List.getElem?_map, List.getElem?_eq_getElem h]; rfl
theorem leastP_5 {A : Ab} {j : Nat} {out : Int} (hin : inB A.1 (j : Nat)) (hk2 : 0 ≤ out ∧ out ≤ 1000000000000000000) (h30 : ¬ 30 < (bkJ A.1 j).2.2.1 - ((bkJ A.1 j).2.2.2.2.2.length : Nat)) : leastP A (j : Nat) out = match lstS A.1 j (sumLe (cdS A.1) (bkJ A.1 j) (bkJ A.1 j).2.2.1.toNat - out) with | some l => (0, (l.length : Nat), leastA A (lstL A.1 j l)) | none => (0, -1, A) := by
  have h30' : ¬ 30 < (bkA A (j : Nat)).2.2.1 - ((bkA A (j : Nat)).2.2.2.2.2.length : Nat) := h30
  unfold leastP
  rw [if_neg (fun h => h hin), if_neg (fun h => h hk2), if_neg h30']
  rfl
set_option maxRecDepth 100000 in
set_option maxHeartbeats 4000000 in
theorem c_xLeast {κ : Kx} (hκ : KOK κ) {d s : Nat} {K i out : Int} {A : Ab} {G : Wd} (hC : RC G s A) (hI : Inv K A) (hR : aR G) (hi : R32 i) (ho : R64 out) (hd : 30 ≤ d) : Ct κ MX11_least d 16 128 [VR 1, VI i, VL out] (Wm G) (cP G (leastP A i out).2.2 ((leastP A i out).1 = 0) (some (VI (leastP A i out).2.1))) (cX2 G A (leastP A i out).1) := by
  refine Ct_of hκ kX11_least.1 rfl (Nat.le_of_ble_eq_true rfl) (ls := [some (VR 1), some (VI i), some (VL out), none, none, none]) rfl (fun μ => ?_)
  have hN := RC_N hC hI.1 hR
  have hs8 : s = 8 ∨ s = 61 := hC.1.2.2
  by_cases hin : inB A.1 i
  · obtain ⟨j, hj⟩ : ∃ j : Nat, i = (j : Int) := ⟨i.toNat, by have := hin.1; omega⟩
    subst hj
    have hj : j < A.1.1.length := by have := hin.2; omega
    obtain ⟨hB, hj6, hok, k0, k2, k1, -, kg⟩ := NC_b hN hj
    obtain ⟨g1, g2, g3, g4, g5⟩ := gone_ok hI.1 hj
    have hTh := c_there (κ := κ) hκ (d := 29) (G := G) hB (by omega)
    rw [kg.1, k1] at hTh
    by_cases hk2 : 0 ≤ out ∧ out ≤ 1000000000000000000
    · by_cases h30 : 30 < (bkJ A.1 j).2.2.1 - ((bkJ A.1 j).2.2.2.2.2.length : Nat)
      · have e : leastP A (j : Nat) out = (0, -2, A) := by have h30' : 30 < (bkA A (j : Nat)).2.2.1 - ((bkA A (j : Nat)).2.2.2.2.2.length : Nat) := h30; unfold leastP; rw [if_neg (fun h => h hin), if_neg (fun h => h hk2), if_pos h30']
        refine V_ex sX11_least_0 (by rfl) (by first | exact trivial | exact Or.inr rfl | exact Or.inl rfl | (simp only [ob, obA, R32, R64] at *; omega) | (simp only [ob, obA, R32, R64] at *; and_intros <;> omega) | (simp [ob, obA])) ?_
        refine V_callV (M := MX11_least) (N := MX11_needBook) dX11_least_2 lRX11_154 kX11_needBook rfl (rfl) rfl (c_nBook (d := 29) hκ hN hi (by omega)) rfl rfl (Nat.le_of_ble_eq_true rfl) (fit_rm (by omega)) (⟨Nat.le_of_ble_eq_true rfl, Nat.le_of_ble_eq_true rfl⟩) (fun v Ω' hp => ?_) (fun E Ω' h => absurd hin h.1)
        obtain ⟨-, rfl, rfl⟩ := hp
        rw [Int.toNat_natCast]
        refine V_ex sX11_least_5 (by rfl) (by first | exact trivial | exact Or.inr rfl | exact Or.inl rfl | (simp only [ob, obA, R32, R64] at *; omega) | (simp only [ob, obA, R32, R64] at *; and_intros <;> omega) | (simp [ob, obA])) ?_
        refine V_callS (M := MX11_least) (N := MX11_needWithin) dX11_least_12 lRX11_281 kX11_needWithin rfl (c_needWithin (d := 29) hκ ho (by unfold R64; omega) (by unfold R64; omega) (by omega)) rfl rfl (Nat.le_of_ble_eq_true rfl) (fit_rm (by omega)) (⟨Nat.le_of_ble_eq_true rfl, Nat.le_of_ble_eq_true rfl⟩) (fun v Ω' hp => ?_) (fun E Ω' h => absurd hk2 h.1)
        obtain ⟨-, rfl, rfl⟩ := hp
        refine V_ex sX11_least_15 (by rfl) (by first | exact trivial | exact Or.inr rfl | exact Or.inl rfl | (simp only [ob, obA, R32, R64] at *; omega) | (simp only [ob, obA, R32, R64] at *; and_intros <;> omega) | (simp [ob, obA])) ?_
        refine V_callV (M := MX11_least) (N := MX0_there) dX11_least_17 lRX11_285 kX0_there rfl (hB.1) rfl (hTh) rfl rfl (Nat.le_of_ble_eq_true rfl) (fit_rm (by omega)) (⟨Nat.le_of_ble_eq_true rfl, Nat.le_of_ble_eq_true rfl⟩) (fun v Ω' hp => ?_) (fun _ _ h => h.elim)
        obtain ⟨rfl, rfl⟩ := hp
        refine V_ex sX11_least_20 (by rfl) (by first | exact trivial | exact Or.inr rfl | exact Or.inl rfl | (simp only [ob, obA, R32, R64] at *; omega) | (simp only [ob, obA, R32, R64] at *; and_intros <;> omega) | (simp [ob, obA])) ?_
        refine V_icmple dX11_least_22 (tgt := 28) (by decide) (by simp only [R32, R64] at *; omega) (fun q22 => ?_) (fun q22 => ?_)
        · omega
        · refine V_ex sX11_least_25 (by rfl) (by first | exact trivial | exact Or.inr rfl | exact Or.inl rfl | (simp only [ob, obA, R32, R64] at *; omega) | (simp only [ob, obA, R32, R64] at *; and_intros <;> omega) | (simp [ob, obA])) ?_
          refine V_iret dX11_least_27 rfl (by decide) (by rw [e]; exact cP_0 hC rfl rfl)
      · obtain ⟨n, hn⟩ : ∃ n : Nat, n = (bkJ A.1 j).2.2.1.toNat := ⟨_, rfl⟩
        have hnI : (n : Int) = (bkJ A.1 j).2.2.1 := by omega
        have e := leastP_5 hin hk2 h30
        have hlen := thL_len (g := (bkJ A.1 j).2.2.2.2.2) (n := n) g1 (fun z hz => by have := g3 z hz; omega)
        have hW30 : ∀ m, m ≤ n → (thL (bkJ A.1 j).2.2.2.2.2 m).length ≤ 30 := fun m hm => by
          have := thL_le (bkJ A.1 j).2.2.2.2.2 m (n - m)
          rw [show m + (n - m) = n by omega] at this
          omega
        have hsR := sumLe_R hok n (by omega)
        rw [← hn] at e
        have L : ∀ (k m : Nat) (mm : Int) (G1 : Wd), m + k = n → mm = (m : Int) → ChN s G G1 → NC G1 s A.1 → olW G1 (thL (bkJ A.1 j).2.2.2.2.2 m) (lfB (cdS A.1) (bkJ A.1 j)) → V κ MX11_least (rmD d 16 128) (cP G (leastP A (j : Nat) out).2.2 ((leastP A (j : Nat) out).1 = 0) (some (VI (leastP A (j : Nat) out).2.1))) (cX2 G A (leastP A (j : Nat) out).1) 16 128 μ (0 + 1 + 1 + 0 + 0) (0 + 6 + 6 + 0 + 0) (Wm (G1)) 38 [some (VR 1), some (VI (j : Nat)), some (VL out), none, some (VR (s + 7 + 5 * j)), some (VI mm)] [] := by
          intro k
          induction k with
          | zero =>
            intro m mm G1 hmk hmm f1 n1 o1
            obtain rfl : m = n := by omega
            obtain ⟨-, -, -, k0', k2', k1', -, kg'⟩ := NC_b n1 hj
            have hl30 := hW30 m (Nat.le_refl _)
            refine V_ex sX11_least_38 (by simp only [Option.toList, List.cons_append, List.nil_append, exN, ex1, gI, gL, gR, pI, pL, pR, lget, lset1, lset2, kl, b2I, b2L, nob, ob32, ob64, xGet, xPut, xLen, xLd, xLdR, xSt, obA, true_and, and_true, and_self, eq_self, Nat.reduceEqDiff, Nat.zero_ne_one, reduceIte, Nat.reduceLeDiff, and_false, false_and, show skd 0 1 = 0 from rfl, hB.1, k1', upd2_eq, Int.reduceToNat, Int.toNat_natCast]; rfl) (by first | exact trivial | exact Or.inr rfl | exact Or.inl rfl | (simp only [ob, obA, R32, R64] at *; omega) | (simp only [ob, obA, R32, R64] at *; and_intros <;> omega) | (simp [ob, obA])) ?_
            refine V_icmpge dX11_least_45 (tgt := 85) (by decide) (by simp only [R32, R64] at *; omega) (fun q45 => ?_) (fun q45 => ?_)
            · refine V_ex sX11_least_85 (by simp only [Option.toList, List.cons_append, List.nil_append, exN, ex1, gI, gL, gR, pI, pL, pR, lget, lset1, lset2, kl, b2I, b2L, nob, ob32, ob64, xGet, xPut, xLen, xLd, xLdR, xSt, obA, true_and, and_true, and_self, eq_self, Nat.reduceEqDiff, Nat.zero_ne_one, reduceIte, Nat.reduceLeDiff, and_false, false_and, show skd 10 14 = 2 from rfl, show LF.1 1 = some (.inl 10) from rfl, show LF.2 1 14 = some 140 from rfl, hB.1, k1', upd2_eq, Int.reduceToNat, Int.toNat_natCast]; rfl) (by first | exact trivial | exact Or.inr rfl | exact Or.inl rfl | (simp only [ob, obA, R32, R64] at *; omega) | (simp only [ob, obA, R32, R64] at *; and_intros <;> omega) | (simp [ob, obA])) ?_
              refine V_callV (M := MX11_least) (N := MX11_sumLeft) dX11_least_93 lRX11_235 kX11_sumLeft rfl (rfl) rfl (c_sumL (d := 29) hκ n1 hj (by omega)) rfl rfl (Nat.le_of_ble_eq_true rfl) (fit_rm (by omega)) (⟨Nat.le_of_ble_eq_true rfl, Nat.le_of_ble_eq_true rfl⟩) (fun v Ω' hp => ?_) (fun _ _ h => h.elim)
              obtain ⟨rfl, G2, rfl, f2, n2⟩ := hp
              rw [← hn]
              have f12 : ChN s G G2 := f1.trans (ChN.n f2)
              have o2 : olW G2 (thL (bkJ A.1 j).2.2.2.2.2 m) (lfB (cdS A.1) (bkJ A.1 j)) := by
                obtain ⟨b1, b2, b3, b4⟩ := o1
                have e0 : ∀ y, G2.1 140 y = G1.1 140 y := fun y => f2.2 _ _ (by omega) (by omega) (by omega)
                have e1 : ∀ y, G2.1 141 y = G1.1 141 y := fun y => f2.2 _ _ (by omega) (by omega) (by omega)
                have e2 : ∀ y, G2.1 142 y = G1.1 142 y := fun y => f2.2 _ _ (by omega) (by omega) (by omega)
                exact ⟨by rw [e0]; exact b1, fun y hy => by rw [e1, e2]; exact b2 y hy, fun y => by rw [e2]; exact b3 y, fun y => by rw [e1]; exact b4 y⟩
              obtain ⟨b1, b2, b3, b4⟩ := o2
              have hCh := c_choose (κ := κ) hκ (d := 29) (many := (thL (bkJ A.1 j).2.2.2.2.2 m).length) (out := sumLe (cdS A.1) (bkJ A.1 j) m - out) (G := G2) hl30 b1 (fun y => ⟨(b3 y).1, by have := b3 y; unfold R32; omega⟩) (fun y => (b4 y).1) (by unfold R64; omega) (by omega)
              rw [leastS_c (w' := lw (wsL A.1 j m)) (fun y hy => by rw [(b2 y hy).2, wsL_at hy])] at hCh
              have hlS : lstS A.1 j (sumLe (cdS A.1) (bkJ A.1 j) m - out) = leastS (lw (wsL A.1 j m)) (thL (bkJ A.1 j).2.2.2.2.2 m).length (sumLe (cdS A.1) (bkJ A.1 j) m - out) 5 0 := by unfold lstS; rw [← hn, wsL_len]
              rw [← hlS] at hCh
              refine V_ex sX11_least_96 (by rfl) (by first | exact trivial | exact Or.inr rfl | exact Or.inl rfl | (simp only [ob, obA, R32, R64] at *; omega) | (simp only [ob, obA, R32, R64] at *; and_intros <;> omega) | (simp [ob, obA])) ?_
              refine V_callV (M := MX11_least) (N := MX1_choose) dX11_least_98 lRX11_456 kX1_choose rfl (rfl) rfl (hCh) rfl rfl (Nat.le_of_ble_eq_true rfl) (fit_rm (by omega)) (⟨Nat.le_of_ble_eq_true rfl, Nat.le_of_ble_eq_true rfl⟩) (fun v Ω' hp => ?_) (fun _ _ h => h.elim)
              obtain ⟨rfl, G3, rfl, f3, e4, er⟩ := hp
              refine V_iret dX11_least_101 rfl (by decide) ?_
              
              have hG3 : ∀ x j, x < 145 → x ≠ s + 6 → x ≠ 128 → ¬ (x = s ∧ j = 10) → x ≠ 140 → x ≠ 141 → x ≠ 142 → x ≠ 143 → x ≠ 144 → G3.1 x j = G.1 x j := fun x y a b c d e f g h i => by
                rw [f3.2 x (by simp; omega)]; exact f12.2 x y b c d (by omega) f g
              have fin : ∀ o2, kpO G3 (G3.1 140 5) 144 o2 → RC G3 s (A.1, A.2.1, A.2.2.1, A.2.2.2.1, A.2.2.2.2.1, o2) := fun o2 ho2 => by
                refine RC_k hC hI.1 (by rw [f3.1, f12.1]) (fun x y a b c d e f => ?_) ?_ ?_ ?_ ?_ ?_ ho2
                · by_cases h5 : x = 140
                  · subst h5; unfold sc at b; exact absurd rfl (by omega : ¬ (140 : Nat) = 140)
                  · unfold sc at b; exact hG3 x y a (by omega) (by omega) (by omega) h5 (by omega) (by omega) (by omega) f
                · exact cacheC_c n2.2.2.2.2.2 (f3.2 128 (by decide))
                · intro y; rw [hG3 136 y (by omega) (by omega) (by omega) (by omega) (by omega) (by omega) (by omega) (by omega) (by omega)]; exact hC.2.2.2.2.2.2.2.2.2.2.2.1 y
                · intro y; rw [f3.2 142 (by decide)]; exact b3 y
                · intro y; rw [f3.2 141 (by decide)]; exact b4 y
                · rw [hG3 135 8 (by omega) (by omega) (by omega) (by omega) (by omega) (by omega) (by omega) (by omega) (by omega)]
                  exact kpO_c hC.2.2.2.2.2.2.2.2.2.1 (funext fun y => hG3 139 y (by omega) (by omega) (by omega) (by omega) (by omega) (by omega) (by omega) (by omega) (by omega))
              have frc : FrC G G3 := ⟨fun x a => by rw [f3.2 x (by simp; omega)]; exact funext fun y => f12.2 x y (by omega) (by omega) (by omega) (by omega) (by omega) (by omega), fun x _ => by rw [f3.1, f12.1]⟩
              cases hl : lstS A.1 j (sumLe (cdS A.1) (bkJ A.1 j) m - out) with
              | none =>
                rw [hl] at e er
                rw [e]
                refine ⟨rfl, rfl, G3, s, rfl, ?_, frc⟩
                refine fin A.2.2.2.2.2 ?_
                rw [er.1, f12.2 140 5 (by omega) (by omega) (by omega) (by omega) (by omega) (by omega)]
                exact kpO_c hC.2.2.2.2.2.2.2.2.2.2.1 (by rw [er.2]; exact funext fun y => f12.2 144 y (by omega) (by omega) (by omega) (by omega) (by omega) (by omega))
              | some l =>
                rw [hl] at e er
                rw [e]
                refine ⟨rfl, rfl, G3, s, rfl, ?_, frc⟩
                refine fin (some (lstL A.1 j l)) ⟨by rw [er.1]; unfold lstL; rw [List.length_map], fun y hy => ?_⟩
                have hll := leastS_len 5 0 l (hlS.symm.trans hl)
                have hy2 : y < l.length := by unfold lstL at hy; rw [List.length_map] at hy; exact hy
                have hat := rowIs_at er.2 y (by rw [List.length_map]; exact hy2)
                have hly := hll.2 _ (List.getElem_mem hy2)
                rw [Nat.zero_add] at hat
                rw [hat]
                rw [List.getElem_map, show (lstL A.1 j l)[y]'hy = (thL (bkJ A.1 j).2.2.2.2.2 (bkJ A.1 j).2.2.1.toNat).getD (l[y]'hy2) 0 from List.getElem_map _, ← hn, List.getD_eq_getElem?_getD, List.getElem?_eq_getElem hly, (b2 _ hly).1]
                have := (b4 l[y]).1
                rw [(b2 _ hly).1] at this
                show ((((thL (bkJ A.1 j).2.2.2.2.2 m)[l[y]]'hly).toNat : Nat) : Int) = (thL (bkJ A.1 j).2.2.2.2.2 m)[l[y]]'hly
                omega
            · omega
          | succ k ih =>
            intro m mm G1 hmk hmm f1 n1 o1
            subst hmm
            obtain ⟨-, -, -, k0', k2', k1', -, kg'⟩ := NC_b n1 hj
            have hz := lfB_R hok (i := (m : Int)) (by omega)
            have hH := c_has (κ := κ) hκ (d := 29) (leaf := (m : Int)) (G := G1) hB.2.2.1 (by unfold R32; omega)
            rw [kg'.2 (m : Int)] at hH
            refine V_ex sX11_least_38 (by simp only [Option.toList, List.cons_append, List.nil_append, exN, ex1, gI, gL, gR, pI, pL, pR, lget, lset1, lset2, kl, b2I, b2L, nob, ob32, ob64, xGet, xPut, xLen, xLd, xLdR, xSt, obA, true_and, and_true, and_self, eq_self, Nat.reduceEqDiff, Nat.zero_ne_one, reduceIte, Nat.reduceLeDiff, and_false, false_and, show skd 0 1 = 0 from rfl, hB.1, k1', upd2_eq, Int.reduceToNat, Int.toNat_natCast]; rfl) (by first | exact trivial | exact Or.inr rfl | exact Or.inl rfl | (simp only [ob, obA, R32, R64] at *; omega) | (simp only [ob, obA, R32, R64] at *; and_intros <;> omega) | (simp [ob, obA])) ?_
            refine V_icmpge dX11_least_45 (tgt := 85) (by decide) (by simp only [R32, R64] at *; omega) (fun q45 => ?_) (fun q45 => ?_)
            · omega
            · refine V_ex sX11_least_48 (by simp only [Option.toList, List.cons_append, List.nil_append, exN, ex1, gI, gL, gR, pI, pL, pR, lget, lset1, lset2, kl, b2I, b2L, nob, ob32, ob64, xGet, xPut, xLen, xLd, xLdR, xSt, obA, true_and, and_true, and_self, eq_self, Nat.reduceEqDiff, Nat.zero_ne_one, reduceIte, Nat.reduceLeDiff, and_false, false_and, show skd 0 5 = 2 from rfl, hB.1, hB.2.1, hB.1, k1', upd2_eq, Int.reduceToNat, Int.toNat_natCast]; rfl) (by first | exact trivial | exact Or.inr rfl | exact Or.inl rfl | (simp only [ob, obA, R32, R64] at *; omega) | (simp only [ob, obA, R32, R64] at *; and_intros <;> omega) | (simp [ob, obA])) ?_
              refine V_callV (M := MX11_least) (N := MX5_has) dX11_least_55 lRX11_202 kX5_has rfl (hB.2.2.1.1) rfl (hH) rfl rfl (Nat.le_of_ble_eq_true rfl) (fit_rm (by omega)) (⟨Nat.le_of_ble_eq_true rfl, Nat.le_of_ble_eq_true rfl⟩) (fun v Ω' hp => ?_) (fun _ _ h => h.elim)
              obtain ⟨rfl, rfl⟩ := hp
              refine V_ifneB dX11_least_58 (tgt := 79) (by decide) (fun q58 => ?_) (fun q58 => ?_)
              · refine V_ex sX11_least_79 (by rfl) (by first | exact trivial | exact Or.inr rfl | exact Or.inl rfl | (simp only [ob, obA, R32, R64] at *; omega) | (simp only [ob, obA, R32, R64] at *; and_intros <;> omega) | (simp [ob, obA])) ?_
                refine V_goto dX11_least_82 (tgt := 38) (by decide) ?_
                exact ih (m + 1) ((m : Int) + 1) G1 (by omega) (by omega) f1 n1 (by rw [thL, if_pos (of_decide_eq_true q58), List.append_nil]; exact o1)
              · refine V_ex sX11_least_61 (by simp only [Option.toList, List.cons_append, List.nil_append, exN, ex1, gI, gL, gR, pI, pL, pR, lget, lset1, lset2, kl, b2I, b2L, nob, ob32, ob64, xGet, xPut, xLen, xLd, xLdR, xSt, obA, true_and, and_true, and_self, eq_self, Nat.reduceEqDiff, Nat.zero_ne_one, reduceIte, Nat.reduceLeDiff, and_false, false_and, show skd 10 14 = 2 from rfl, show LF.1 1 = some (.inl 10) from rfl, show LF.2 1 14 = some 140 from rfl, hB.1, k1', upd2_eq, Int.reduceToNat, Int.toNat_natCast]; rfl) (by first | exact trivial | exact Or.inr rfl | exact Or.inl rfl | (simp only [ob, obA, R32, R64] at *; omega) | (simp only [ob, obA, R32, R64] at *; and_intros <;> omega) | (simp [ob, obA])) ?_
                refine V_callV (M := MX11_least) (N := MX11_leafSum) dX11_least_73 lRX11_239 kX11_leafSum rfl (rfl) rfl (c_leafS (d := 29) hκ n1 hj (i := m) (by omega) (by omega)) rfl rfl (Nat.le_of_ble_eq_true rfl) (fit_rm (by omega)) (⟨Nat.le_of_ble_eq_true rfl, Nat.le_of_ble_eq_true rfl⟩) (fun v Ω' hp => ?_) (fun _ _ h => h.elim)
                obtain ⟨rfl, G2, rfl, f2, n2⟩ := hp
                have o2 : olW G2 (thL (bkJ A.1 j).2.2.2.2.2 m) (lfB (cdS A.1) (bkJ A.1 j)) := by
                  obtain ⟨b1, b2, b3, b4⟩ := o1
                  have e0 : ∀ y, G2.1 140 y = G1.1 140 y := fun y => f2.2 _ _ (by omega) (by omega) (by omega)
                  have e1 : ∀ y, G2.1 141 y = G1.1 141 y := fun y => f2.2 _ _ (by omega) (by omega) (by omega)
                  have e2 : ∀ y, G2.1 142 y = G1.1 142 y := fun y => f2.2 _ _ (by omega) (by omega) (by omega)
                  exact ⟨by rw [e0]; exact b1, fun y hy => by rw [e1, e2]; exact b2 y hy, fun y => by rw [e2]; exact b3 y, fun y => by rw [e1]; exact b4 y⟩
                have hmn : thL (bkJ A.1 j).2.2.2.2.2 (m + 1) = thL (bkJ A.1 j).2.2.2.2.2 m ++ [(m : Int)] := by rw [thL, if_neg (of_decide_eq_false q58)]
                have hlm := hW30 (m + 1) (by omega)
                have hlm2 : (thL (bkJ A.1 j).2.2.2.2.2 m).length < 30 := by rw [hmn, List.length_append, List.length_singleton] at hlm; omega
                have o3 := olW_add o2 (l := (m : Int)) (by omega) (by omega)
                have hOf := c_chOffer (κ := κ) hκ (d := 29) (l := (m : Int)) (z := lfB (cdS A.1) (bkJ A.1 j) (m : Int)) (G := G2) ⟨by rw [o2.1]; omega, by rw [o2.1]; omega⟩ (by omega)
                rw [← hmn] at o3
                have f3 : ChN s G (chW G2 (m : Int) (lfB (cdS A.1) (bkJ A.1 j) (m : Int))) := (f1.trans (ChN.n f2)).trans ⟨rfl, fun x y _ _ _ h5 h6 h7 => by simp only [upd2_eq]; rw [if_neg (by omega), if_neg (by omega), if_neg (by omega)]⟩
                have n3 : NC (chW G2 (m : Int) (lfB (cdS A.1) (bkJ A.1 j) (m : Int))) s A.1 := NC_f n2 rfl (fun x hx => by funext y; simp only [upd2_eq]; rw [if_neg (by omega), if_neg (by omega), if_neg (by omega)])
                refine V_callV (M := MX11_least) (N := MX1_offer) dX11_least_76 lRX11_453 kX1_offer rfl (rfl) rfl (hOf) rfl rfl (Nat.le_of_ble_eq_true rfl) (fit_rm (by omega)) (⟨Nat.le_of_ble_eq_true rfl, Nat.le_of_ble_eq_true rfl⟩) (fun v Ω' hp => ?_) (fun _ _ h => h.elim)
                obtain ⟨rfl, rfl⟩ := hp
                refine V_ex sX11_least_79 (by rfl) (by first | exact trivial | exact Or.inr rfl | exact Or.inl rfl | (simp only [ob, obA, R32, R64] at *; omega) | (simp only [ob, obA, R32, R64] at *; and_intros <;> omega) | (simp [ob, obA])) ?_
                refine V_goto dX11_least_82 (tgt := 38) (by decide) ?_
                exact ih (m + 1) ((m : Int) + 1) _ (by omega) (by omega) f3 n3 o3
        refine V_ex sX11_least_0 (by rfl) (by first | exact trivial | exact Or.inr rfl | exact Or.inl rfl | (simp only [ob, obA, R32, R64] at *; omega) | (simp only [ob, obA, R32, R64] at *; and_intros <;> omega) | (simp [ob, obA])) ?_
        refine V_callV (M := MX11_least) (N := MX11_needBook) dX11_least_2 lRX11_154 kX11_needBook rfl (rfl) rfl (c_nBook (d := 29) hκ hN hi (by omega)) rfl rfl (Nat.le_of_ble_eq_true rfl) (fit_rm (by omega)) (⟨Nat.le_of_ble_eq_true rfl, Nat.le_of_ble_eq_true rfl⟩) (fun v Ω' hp => ?_) (fun E Ω' h => absurd hin h.1)
        obtain ⟨-, rfl, rfl⟩ := hp
        rw [Int.toNat_natCast]
        refine V_ex sX11_least_5 (by rfl) (by first | exact trivial | exact Or.inr rfl | exact Or.inl rfl | (simp only [ob, obA, R32, R64] at *; omega) | (simp only [ob, obA, R32, R64] at *; and_intros <;> omega) | (simp [ob, obA])) ?_
        refine V_callS (M := MX11_least) (N := MX11_needWithin) dX11_least_12 lRX11_281 kX11_needWithin rfl (c_needWithin (d := 29) hκ ho (by unfold R64; omega) (by unfold R64; omega) (by omega)) rfl rfl (Nat.le_of_ble_eq_true rfl) (fit_rm (by omega)) (⟨Nat.le_of_ble_eq_true rfl, Nat.le_of_ble_eq_true rfl⟩) (fun v Ω' hp => ?_) (fun E Ω' h => absurd hk2 h.1)
        obtain ⟨-, rfl, rfl⟩ := hp
        refine V_ex sX11_least_15 (by rfl) (by first | exact trivial | exact Or.inr rfl | exact Or.inl rfl | (simp only [ob, obA, R32, R64] at *; omega) | (simp only [ob, obA, R32, R64] at *; and_intros <;> omega) | (simp [ob, obA])) ?_
        refine V_callV (M := MX11_least) (N := MX0_there) dX11_least_17 lRX11_285 kX0_there rfl (hB.1) rfl (hTh) rfl rfl (Nat.le_of_ble_eq_true rfl) (fit_rm (by omega)) (⟨Nat.le_of_ble_eq_true rfl, Nat.le_of_ble_eq_true rfl⟩) (fun v Ω' hp => ?_) (fun _ _ h => h.elim)
        obtain ⟨rfl, rfl⟩ := hp
        refine V_ex sX11_least_20 (by rfl) (by first | exact trivial | exact Or.inr rfl | exact Or.inl rfl | (simp only [ob, obA, R32, R64] at *; omega) | (simp only [ob, obA, R32, R64] at *; and_intros <;> omega) | (simp [ob, obA])) ?_
        refine V_icmple dX11_least_22 (tgt := 28) (by decide) (by simp only [R32, R64] at *; omega) (fun q22 => ?_) (fun q22 => ?_)
        · refine V_ex sX11_least_28 (by simp only [Option.toList, List.cons_append, List.nil_append, exN, ex1, gI, gL, gR, pI, pL, pR, lget, lset1, lset2, kl, b2I, b2L, nob, ob32, ob64, xGet, xPut, xLen, xLd, xLdR, xSt, obA, true_and, and_true, and_self, eq_self, Nat.reduceEqDiff, Nat.zero_ne_one, reduceIte, Nat.reduceLeDiff, and_false, false_and, show skd 10 14 = 2 from rfl, show LF.1 1 = some (.inl 10) from rfl, show LF.2 1 14 = some 140 from rfl, upd2_eq, Int.reduceToNat, Int.toNat_natCast]; rfl) (by first | exact trivial | exact Or.inr rfl | exact Or.inl rfl | (simp only [ob, obA, R32, R64] at *; omega) | (simp only [ob, obA, R32, R64] at *; and_intros <;> omega) | (simp [ob, obA])) ?_
          refine V_callV (M := MX11_least) (N := MX1_open) dX11_least_32 lRX11_451 kX1_open rfl (rfl) rfl (c_chOpen hκ) rfl rfl (Nat.le_of_ble_eq_true rfl) (fit_rm (by omega)) (⟨Nat.le_of_ble_eq_true rfl, Nat.le_of_ble_eq_true rfl⟩) (fun v Ω' hp => ?_) (fun _ _ h => h.elim)
          obtain ⟨rfl, rfl⟩ := hp
          refine V_ex sX11_least_35 (by rfl) (by first | exact trivial | exact Or.inr rfl | exact Or.inl rfl | (simp only [ob, obA, R32, R64] at *; omega) | (simp only [ob, obA, R32, R64] at *; and_intros <;> omega) | (simp [ob, obA])) ?_
          exact L n 0 0 (uI G 140 2 0) (by omega) rfl ⟨rfl, fun x y _ _ _ h5 h6 _ => by simp only [upd2_eq]; rw [if_neg (by omega)]⟩ (NC_f hN rfl (fun x hx => by funext y; simp only [upd2_eq]; rw [if_neg (by omega)])) ⟨by simp [upd2_eq]; rfl, fun k h => absurd h (Nat.not_lt_zero _), fun y => by simp only [upd2_eq]; rw [if_neg (by omega)]; exact hC.2.2.2.2.2.2.2.2.2.2.2.2.1 y, fun y => by simp only [upd2_eq]; rw [if_neg (by omega)]; exact hC.2.2.2.2.2.2.2.2.2.2.2.2.2 y⟩
        · omega
    · have e : leastP A (j : Nat) out = (2, 0, A) := by unfold leastP; rw [if_neg (fun h => h hin), if_pos hk2]
      refine V_ex sX11_least_0 (by rfl) (by first | exact trivial | exact Or.inr rfl | exact Or.inl rfl | (simp only [ob, obA, R32, R64] at *; omega) | (simp only [ob, obA, R32, R64] at *; and_intros <;> omega) | (simp [ob, obA])) ?_
      refine V_callV (M := MX11_least) (N := MX11_needBook) dX11_least_2 lRX11_154 kX11_needBook rfl (rfl) rfl (c_nBook (d := 29) hκ hN hi (by omega)) rfl rfl (Nat.le_of_ble_eq_true rfl) (fit_rm (by omega)) (⟨Nat.le_of_ble_eq_true rfl, Nat.le_of_ble_eq_true rfl⟩) (fun v Ω' hp => ?_) (fun E Ω' h => absurd hin h.1)
      obtain ⟨-, rfl, rfl⟩ := hp
      rw [Int.toNat_natCast]
      refine V_ex sX11_least_5 (by rfl) (by first | exact trivial | exact Or.inr rfl | exact Or.inl rfl | (simp only [ob, obA, R32, R64] at *; omega) | (simp only [ob, obA, R32, R64] at *; and_intros <;> omega) | (simp [ob, obA])) ?_
      refine V_callS (M := MX11_least) (N := MX11_needWithin) dX11_least_12 lRX11_281 kX11_needWithin rfl (c_needWithin (d := 29) hκ ho (by unfold R64; omega) (by unfold R64; omega) (by omega)) rfl rfl (Nat.le_of_ble_eq_true rfl) (fit_rm (by omega)) (⟨Nat.le_of_ble_eq_true rfl, Nat.le_of_ble_eq_true rfl⟩) (fun v Ω' hp => ?_) (fun E Ω' h => ⟨by rw [h.2.1, h.2.2]; exact cX2_2 hC (by rw [e]), rfl, Nat.le_of_ble_eq_true rfl, Nat.le_of_ble_eq_true rfl⟩)
      skip
      exact absurd hp.1 hk2
  · have e : leastP A i out = (1, 0, A) := by unfold leastP; rw [if_pos hin]
    refine V_ex sX11_least_0 (by rfl) (by first | exact trivial | exact Or.inr rfl | exact Or.inl rfl | (simp only [ob, obA, R32, R64] at *; omega) | (simp only [ob, obA, R32, R64] at *; and_intros <;> omega) | (simp [ob, obA])) ?_
    refine V_callV (M := MX11_least) (N := MX11_needBook) dX11_least_2 lRX11_154 kX11_needBook rfl (rfl) rfl (c_nBook (d := 29) hκ hN hi (by omega)) rfl rfl (Nat.le_of_ble_eq_true rfl) (fit_rm (by omega)) (⟨Nat.le_of_ble_eq_true rfl, Nat.le_of_ble_eq_true rfl⟩) (fun v Ω' hp => ?_) (fun E Ω' h => ⟨by rw [h.2.1, h.2.2]; exact cX2_1 hC (by rw [e]), rfl, Nat.le_of_ble_eq_true rfl, Nat.le_of_ble_eq_true rfl⟩)
    skip
    exact absurd hp.1 hin
