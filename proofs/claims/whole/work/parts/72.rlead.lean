/-! ShelfReader: the lead; a book's mark and leaves -/
theorem pLdN_len {w v : Nat → Int} : ∀ (k i : Nat) (a : List Int), (pLdN w v k i a).2.1 = 0 → (pLdN w v k i a).2.2.length = a.length + k := by
  intro k
  induction k with
  | zero => intro i a h; rfl
  | succ k ih =>
    intro i a h
    rw [pLdN] at h ⊢
    by_cases q : pNum w v 0 9999 i = 0
    · rw [if_neg (not_not_intro q)] at h ⊢
      rw [ih _ _ h]; simp; omega
    · rw [if_pos q] at h; exact absurd h q
set_option maxRecDepth 100000 in
set_option maxHeartbeats 4000000 in
theorem c_rLead {κ : Kx} (hκ : KOK κ) {d s N : Nat} {w v : Nat → Int} {S : Sh} (hE : eE s w v N) {G : Wd} {i : Nat} (h : lH s w v N G i S) (hd : 3 ≤ d) : Ct κ MX8_readLead d 0 0 [VR 3, VR s] (Wm G) (lP s G (pLead w v i S)) noX := by
  refine Ct_of hκ kX8_readLead.1 rfl (Nat.le_of_ble_eq_true rfl) (ls := [some (VR 3), some (VR s), none]) rfl (fun μ => ?_)
  obtain ⟨hS, hT, hN, hw⟩ := hE
  obtain ⟨hr, hi, hiN, hC, hO⟩ := h
  have hC0 := hC
  obtain ⟨h1, h2, h3, -, -, h6, -⟩ := hC
  obtain ⟨s1, s2, s3, -⟩ := hO
  have h8 := sh_8 hS
  have h1S := (sh_facts hS).1
  by_cases hl : S.2.2.2.1 = true
  · have hP : pLead w v i S = (i, 5, S) := by rw [pLead, if_pos hl]
    rw [hl] at h6
    have h6 : G.1 s 6 = 1 := h6
    refine V_ex sX8_readLead_0 (by simp only [Option.toList, List.cons_append, List.nil_append, exN, ex1, gI, gL, gR, pI, pL, pR, lget, lset1, lset2, kl, b2I, b2L, nob, ob32, ob64, xGet, xPut, xLen, xLd, xLdR, xSt, obA, true_and, and_true, and_self, eq_self, Nat.reduceEqDiff, Nat.zero_ne_one, reduceIte, Nat.reduceLeDiff, and_false, false_and, show skd 6 6 = 4 from rfl, h6, upd2_eq, Int.reduceToNat, Int.toNat_natCast]; rfl) (by first | exact trivial | exact Or.inr rfl | exact Or.inl rfl | (simp only [ob, obA, R32, R64] at *; omega) | (simp only [ob, obA, R32, R64] at *; and_intros <;> omega)) ?_
    refine V_ifeq dX8_readLead_4 (tgt := 13) (by decide) (by simp only [R32, R64] at *; omega) (fun q4 => ?_) (fun q4 => ?_)
    · omega
    · refine V_ex sX8_readLead_7 (by rfl) (by first | exact trivial | exact Or.inr rfl | exact Or.inl rfl | (simp only [ob, obA, R32, R64] at *; omega) | (simp only [ob, obA, R32, R64] at *; and_intros <;> omega)) ?_
      refine V_callV (M := MX8_readLead) (N := MX8_refuse) dX8_readLead_9 lRX8_49 kX8_refuse rfl (rfl) rfl (c_rRefuse (d := 2) hκ) rfl rfl (Nat.le_of_ble_eq_true rfl) (fit_rm (by omega)) (⟨Nat.le_of_ble_eq_true rfl, Nat.le_of_ble_eq_true rfl⟩) (fun v Ω' hp => ?_) (fun _ _ h => h.elim)
      obtain ⟨rfl, rfl⟩ := hp
      refine V_zret dX8_readLead_12 rfl (by first | exact Or.inl rfl | exact Or.inr rfl | exact b2i_01 _) (by decide) (by rw [hP]; exact lP_no (show (5 : Int) ≠ 0 by decide) (FS.fnd s _ _) (by rw [at_fnd (by omega)]; exact hi) of_fnd)
  · have hl' : S.2.2.2.1 = false := by simpa using hl
    have hP : pLead w v i S = ((pLdN w v 10 (i + 1) []).1, (pLdN w v 10 (i + 1) []).2.1, (S.1, S.2.1, (pLdN w v 10 (i + 1) []).2.2, true, S.2.2.2.2)) := by rw [pLead, if_neg hl]
    rw [hl'] at h6
    have h6 : G.1 s 6 = 0 := h6
    have L : ∀ (k q : Nat) (ii : Int) (a : List Int) (G1 : Wd), ii = 10 - (k : Int) → k ≤ 10 → (∀ x j, x ≠ s + 4 → ¬ (x = s ∧ j = 6) → ¬ (x = 4 ∧ j = 6) → G1.1 x j = G.1 x j) → G1.2 = G.2 → G1.1 s 6 = 1 → G1.1 4 6 = (q : Nat) → q ≤ N → a.length = 10 - k → (∀ j (h : j < a.length), G1.1 (s + 4) j = a[j]'h) → pLdN w v k q a = pLdN w v 10 (i + 1) [] → V κ MX8_readLead (rmD d 0 0) (lP s G (pLead w v i S)) noX 0 0 μ 0 0 (Wm G1) 27 [some (VR 3), some (VR s), some (VI ii)] [] := by
      intro k
      induction k with
      | zero =>
        intro q ii a G1 hii hk fr f2 f6 hq hqN hlen hel he
        rw [pLdN] at he
        refine V_ex sX8_readLead_27 (by rfl) (by first | exact trivial | exact Or.inr rfl | exact Or.inl rfl | (simp only [ob, obA, R32, R64] at *; omega) | (simp only [ob, obA, R32, R64] at *; and_intros <;> omega)) ?_
        refine V_icmpge dX8_readLead_30 (tgt := 64) (by decide) (by simp only [R32, R64] at *; omega) (fun q30 => ?_) (fun q30 => ?_)
        · refine V_ex sX8_readLead_64 (by rfl) (by first | exact trivial | exact Or.inr rfl | exact Or.inl rfl | (simp only [ob, obA, R32, R64] at *; omega) | (simp only [ob, obA, R32, R64] at *; and_intros <;> omega)) ?_
          refine V_zret dX8_readLead_65 rfl (by first | exact Or.inl rfl | exact Or.inr rfl | exact b2i_01 _) (by decide) ?_
          rw [hP, ← he]
          refine lP_ok (show ((0 : Int)) = 0 from rfl) ⟨f2, fun x j p b c => fr x j (by omega) (by omega) b⟩ hq (fr _ _ (by omega) (by omega) (by omega)) ?_
          exact ShC_ld hC0 s3 s1 (fun x k p r b c => fr x k b c (by omega)) hel f6
        · omega
      | succ k ih =>
        intro q ii a G1 hii hk fr f2 f6 hq hqN hlen hel he
        have hr1 : rdT G1 w v N := fun j hj => by rw [fr _ _ (by omega) (by omega) (by omega), fr _ _ (by omega) (by omega) (by omega)]; exact hr j hj
        have e7 := (hr1 q hqN).2
        have hvq := hT.2 q
        have iin : ii.toNat = a.length := by omega
        generalize hG2 : uI G1 (s + 4) ii.toNat (v q) = G2
        have hr2 : rdT G2 w v N := fun j hj => by
          rw [← hG2]; simp only [upd2_eq]; rw [if_neg (by omega), if_neg (by omega)]; exact hr1 j hj
        have hq2 : G2.1 4 6 = (q : Nat) := by rw [← hG2]; simp only [upd2_eq]; rw [if_neg (by omega)]; exact hq
        have fr2 : ∀ x j, x ≠ s + 4 → ¬ (x = s ∧ j = 6) → ¬ (x = 4 ∧ j = 6) → G2.1 x j = G.1 x j := fun x j p b c => by rw [← hG2]; simp only [upd2_eq]; rw [if_neg (by omega)]; exact fr x j p b c
        have f22 : G2.2 = G.2 := by rw [← hG2]; exact f2
        have f62 : G2.1 s 6 = 1 := by rw [← hG2]; simp only [upd2_eq]; rw [if_neg (by omega)]; exact f6
        have el2 : ∀ j (h : j < (a ++ [v q]).length), G2.1 (s + 4) j = (a ++ [v q])[j]'h := fun j hj => by
          rw [← hG2, iin]; simp only [upd2_eq]
          simp at hj
          by_cases e : j < a.length
          · rw [if_neg (by omega), List.getElem_append_left e]; exact hel j e
          · obtain rfl : j = a.length := by omega
            rw [if_pos ⟨trivial, rfl⟩]; simp
        rw [pLdN] at he
        refine V_ex sX8_readLead_27 (by rfl) (by first | exact trivial | exact Or.inr rfl | exact Or.inl rfl | (simp only [ob, obA, R32, R64] at *; omega) | (simp only [ob, obA, R32, R64] at *; and_intros <;> omega)) ?_
        refine V_icmpge dX8_readLead_30 (tgt := 64) (by decide) (by simp only [R32, R64] at *; omega) (fun q30 => ?_) (fun q30 => ?_)
        · omega
        · refine V_ex sX8_readLead_33 (by simp only [Option.toList, List.cons_append, List.nil_append, exN, ex1, gI, gL, gR, pI, pL, pR, lget, lset1, lset2, kl, b2I, b2L, nob, ob32, ob64, xGet, xPut, xLen, xLd, xLdR, xSt, obA, true_and, and_true, and_self, eq_self, Nat.reduceEqDiff, Nat.zero_ne_one, reduceIte, Nat.reduceLeDiff, and_false, false_and, show skd 7 0 = 2 from rfl, show LF.1 3 = some (.inl 7) from rfl, show LF.2 3 0 = some 4 from rfl, upd2_eq, Int.reduceToNat, Int.toNat_natCast]; rfl) (by first | exact trivial | exact Or.inr rfl | exact Or.inl rfl | (simp only [ob, obA, R32, R64] at *; omega) | (simp only [ob, obA, R32, R64] at *; and_intros <;> omega)) ?_
          refine V_callV (M := MX8_readLead) (N := MX9_numberTold) dX8_readLead_39 lRX8_99 kX9_numberTold rfl (rfl) rfl (c_tNumberTold (d := 0) hκ hq (by omega)) rfl rfl (Nat.le_of_ble_eq_true rfl) (fit_rm (by omega)) (⟨Nat.le_of_ble_eq_true rfl, Nat.le_of_ble_eq_true rfl⟩) (fun v Ω' hp => ?_) (fun _ _ h => h.elim)
          obtain ⟨rfl, rfl⟩ := hp
          rw [e7]
          refine V_callV (M := MX8_readLead) (N := MX7_tellLead) dX8_readLead_42 lRX8_155 kX7_tellLead rfl (h1S) rfl (c_tellLead (d := 2) hκ hS (by omega) (by omega)) rfl rfl (Nat.le_of_ble_eq_true rfl) (fit_rm (by omega)) (⟨Nat.le_of_ble_eq_true rfl, Nat.le_of_ble_eq_true rfl⟩) (fun v Ω' hp => ?_) (fun _ _ h => h.elim)
          obtain ⟨rfl, rfl⟩ := hp
          rw [hG2]
          refine V_ex sX8_readLead_45 (by rfl) (by first | exact trivial | exact Or.inr rfl | exact Or.inl rfl | (simp only [ob, obA, R32, R64] at *; omega) | (simp only [ob, obA, R32, R64] at *; and_intros <;> omega)) ?_
          refine V_callV (M := MX8_readLead) (N := MX8_readWithin) dX8_readLead_50 lRX8_105 kX8_readWithin rfl (rfl) rfl (c_rWithin (d := 2) hκ hr2 hT hq2 hqN hN hw (by unfold R32; omega) (by unfold R32; omega) (by omega)) rfl rfl (Nat.le_of_ble_eq_true rfl) (fit_rm (by omega)) (⟨Nat.le_of_ble_eq_true rfl, Nat.le_of_ble_eq_true rfl⟩) (fun v Ω' hp => ?_) (fun _ _ h => h.elim)
          obtain ⟨rfl, rfl⟩ := hp
          refine V_ifneB dX8_readLead_53 (tgt := 58) (by decide) (fun q53 => ?_) (fun q53 => ?_)
          · have hb := of_decide_eq_true q53
            rw [if_pos hb]
            rw [if_neg (not_not_intro hb)] at he
            have hq1 := pTok_lt hT hqN (by have := (pNum_0 hb).1; omega)
            refine V_ex sX8_readLead_58 (by rfl) (by first | exact trivial | exact Or.inr rfl | exact Or.inl rfl | (simp only [ob, obA, R32, R64] at *; omega) | (simp only [ob, obA, R32, R64] at *; and_intros <;> omega)) ?_
            refine V_goto dX8_readLead_61 (tgt := 27) (by decide) ?_
            exact ih (q + 1) _ (a ++ [v q]) (uI G2 4 6 ((q : Int) + 1)) (by omega) (by omega) (fun x j p b c => by rw [at_cur c]; exact fr2 x j p b c) f22 (by rw [at_cur (by omega)]; exact f62) (by rw [of_cur]; omega) (by omega) (by simp; omega) (fun j hj => by rw [at_cur (by omega)]; exact el2 j hj) he
          · have hb := of_decide_eq_false q53
            rw [if_neg hb]
            rw [if_pos hb] at he
            refine V_ex sX8_readLead_56 (by rfl) (by first | exact trivial | exact Or.inr rfl | exact Or.inl rfl | (simp only [ob, obA, R32, R64] at *; omega) | (simp only [ob, obA, R32, R64] at *; and_intros <;> omega)) ?_
            refine V_zret dX8_readLead_57 rfl (by first | exact Or.inl rfl | exact Or.inr rfl | exact b2i_01 _) (by decide) ?_
            rw [hP, ← he]
            exact lP_no hb ⟨f22, fun x j p b c => by rw [at_fnd c]; exact fr2 x j (by omega) (by omega) b⟩ (by rw [at_fnd (by omega)]; exact hq2) of_fnd
    refine V_ex sX8_readLead_0 (by simp only [Option.toList, List.cons_append, List.nil_append, exN, ex1, gI, gL, gR, pI, pL, pR, lget, lset1, lset2, kl, b2I, b2L, nob, ob32, ob64, xGet, xPut, xLen, xLd, xLdR, xSt, obA, true_and, and_true, and_self, eq_self, Nat.reduceEqDiff, Nat.zero_ne_one, reduceIte, Nat.reduceLeDiff, and_false, false_and, show skd 6 6 = 4 from rfl, h6, upd2_eq, Int.reduceToNat, Int.toNat_natCast]; rfl) (by first | exact trivial | exact Or.inr rfl | exact Or.inl rfl | (simp only [ob, obA, R32, R64] at *; omega) | (simp only [ob, obA, R32, R64] at *; and_intros <;> omega)) ?_
    refine V_ifeq dX8_readLead_4 (tgt := 13) (by decide) (by simp only [R32, R64] at *; omega) (fun q4 => ?_) (fun q4 => ?_)
    · refine V_ex sX8_readLead_13 (by simp only [Option.toList, List.cons_append, List.nil_append, exN, ex1, gI, gL, gR, pI, pL, pR, lget, lset1, lset2, kl, b2I, b2L, nob, ob32, ob64, xGet, xPut, xLen, xLd, xLdR, xSt, obA, true_and, and_true, and_self, eq_self, Nat.reduceEqDiff, Nat.zero_ne_one, reduceIte, Nat.reduceLeDiff, and_false, false_and, show skd 6 6 = 4 from rfl, show skd 7 0 = 2 from rfl, show LF.1 3 = some (.inl 7) from rfl, show LF.2 3 0 = some 4 from rfl, upd2_eq, Int.reduceToNat, Int.toNat_natCast]; rfl) (by exact ⟨h1S, Or.inr trivial⟩) ?_
      refine V_callV (M := MX8_readLead) (N := MX9_advance) dX8_readLead_22 lRX8_52 kX9_advance rfl (rfl) rfl (c_tAdvance (d := 2) hκ) rfl rfl (Nat.le_of_ble_eq_true rfl) (fit_rm (by omega)) (⟨Nat.le_of_ble_eq_true rfl, Nat.le_of_ble_eq_true rfl⟩) (fun v Ω' hp => ?_) (fun _ _ h => h.elim)
      obtain ⟨rfl, rfl⟩ := hp
      rw [show (uI G s 6 1).1 4 6 = (i : Nat) by simp only [upd2_eq]; rw [if_neg (by omega)]; exact hi]
      refine V_ex sX8_readLead_25 (by rfl) (by first | exact trivial | exact Or.inr rfl | exact Or.inl rfl | (simp only [ob, obA, R32, R64] at *; omega) | (simp only [ob, obA, R32, R64] at *; and_intros <;> omega)) ?_
      refine L 10 (i + 1) 0 [] (uI (uI G s 6 1) 4 6 ((i : Int) + 1)) (by omega) (by omega) (fun x j p b c => ?_) rfl ?_ ?_ (by omega) rfl (fun j hj => absurd hj (by simp)) rfl
      · simp only [upd2_eq]; rw [if_neg c, if_neg b]
      · simp only [upd2_eq]; rw [if_neg (by omega), if_pos ⟨trivial, trivial⟩]
      · simp only [upd2_eq]; rw [if_pos ⟨trivial, trivial⟩]; omega
    · omega
def rMk (w v : Nat → Int) (k : Int) (i : Nat) : Int := if k = 2 then pNum w v 0 99 i else if k = 5 then pNum w v 1 9 i else 0
def rLc (w v : Nat → Int) (k : Int) (i : Nat) : Int := if k = 1 ∧ v i % 2 ≠ 0 then 2 else pNum w v 1 2000 i
def mkW (w v : Nat → Int) (b : Nat) (k : Int) (i : Nat) (G : Wd) : Wd := if k ≠ 2 ∧ k ≠ 5 then G else if rMk w v k i = 0 then uI (uI G b 2 (v i)) 4 6 ((i : Int) + 1) else uI (uI G b 2 (v i)) 3 1 (rMk w v k i)
def lcW (w v : Nat → Int) (b : Nat) (k : Int) (i : Nat) (G : Wd) : Wd := if rLc w v k i = 0 then uI (uI G b 1 (v i)) 4 6 ((i : Int) + 1) else uI (uI G b 1 (v i)) 3 1 (rLc w v k i)
set_option maxRecDepth 100000 in
set_option maxHeartbeats 4000000 in
theorem c_rMark {κ : Kx} (hκ : KOK κ) {d i N b : Nat} {k : Int} {w v : Nat → Int} {G : Wd} (hr : rdT G w v N) (hT : pTok w v N) (hi : G.1 4 6 = (i : Nat)) (hiN : i ≤ N) (hN : N ≤ 500) (hw : wOk w N) (hB : BKa b) (hb8 : 8 ≤ b) (hk : G.1 b 0 = k) (hk2 : R32 k) (hd : 2 ≤ d) : Ct κ MX8_readMark d 0 0 [VR 3, VR b] (Wm G) (fun u Ω' => u = some (VI (b2i (decide (rMk w v k i = 0)))) ∧ Ω' = Wm (mkW w v b k i G)) noX := by
  refine Ct_of hκ kX8_readMark.1 rfl (Nat.le_of_ble_eq_true rfl) (ls := [some (VR 3), some (VR b)]) rfl (fun μ => ?_)
  have h1B := hB.1
  have e7 := (hr i hiN).2
  have hvi := hT.2 i
  have hr1 : rdT (uI G b 2 (v i)) w v N := fun j hj => by simp only [upd2_eq]; rw [if_neg (by omega), if_neg (by omega)]; exact hr j hj
  have hi1 : (uI G b 2 (v i)).1 4 6 = (i : Nat) := by simp only [upd2_eq]; rw [if_neg (by omega)]; exact hi
  have hk1 : (uI G b 2 (v i)).1 b 0 = k := by simp only [upd2_eq]; rw [if_neg (by omega)]; exact hk
  have hk1' : upd2 G.1 b 2 (v i) b 0 = k := hk1
  refine V_ex sX8_readMark_0 (by simp only [Option.toList, List.cons_append, List.nil_append, exN, ex1, gI, gL, gR, pI, pL, pR, lget, lset1, lset2, kl, b2I, b2L, nob, ob32, ob64, xGet, xPut, xLen, xLd, xLdR, xSt, obA, true_and, and_true, and_self, eq_self, Nat.reduceEqDiff, Nat.zero_ne_one, reduceIte, Nat.reduceLeDiff, and_false, false_and, show skd 0 0 = 0 from rfl, hk, hk1', e7, upd2_eq, Int.reduceToNat, Int.toNat_natCast]; rfl) (by first | exact trivial | exact Or.inr rfl | exact Or.inl rfl | (simp only [ob, obA, R32, R64] at *; omega) | (simp only [ob, obA, R32, R64] at *; and_intros <;> omega)) ?_
  refine V_icmpeq dX8_readMark_5 (tgt := 18) (by decide) (by simp only [R32, R64] at *; omega) (fun q5 => ?_) (fun q5 => ?_)
  · refine V_ex sX8_readMark_18 (by simp only [Option.toList, List.cons_append, List.nil_append, exN, ex1, gI, gL, gR, pI, pL, pR, lget, lset1, lset2, kl, b2I, b2L, nob, ob32, ob64, xGet, xPut, xLen, xLd, xLdR, xSt, obA, true_and, and_true, and_self, eq_self, Nat.reduceEqDiff, Nat.zero_ne_one, reduceIte, Nat.reduceLeDiff, and_false, false_and, show skd 7 0 = 2 from rfl, show LF.1 3 = some (.inl 7) from rfl, show LF.2 3 0 = some 4 from rfl, hk, hk1', e7, upd2_eq, Int.reduceToNat, Int.toNat_natCast]; rfl) (by first | exact trivial | exact Or.inr rfl | exact Or.inl rfl | (simp only [ob, obA, R32, R64] at *; omega) | (simp only [ob, obA, R32, R64] at *; and_intros <;> omega)) ?_
    refine V_callV (M := MX8_readMark) (N := MX9_numberTold) dX8_readMark_23 lRX8_99 kX9_numberTold rfl (rfl) rfl (c_tNumberTold (d := 0) hκ hi (by omega)) rfl rfl (Nat.le_of_ble_eq_true rfl) (fit_rm (by omega)) (⟨Nat.le_of_ble_eq_true rfl, Nat.le_of_ble_eq_true rfl⟩) (fun v Ω' hp => ?_) (fun _ _ h => h.elim)
    obtain ⟨rfl, rfl⟩ := hp
    rw [e7]
    refine V_ex sX8_readMark_26 (by simp only [Option.toList, List.cons_append, List.nil_append, exN, ex1, gI, gL, gR, pI, pL, pR, lget, lset1, lset2, kl, b2I, b2L, nob, ob32, ob64, xGet, xPut, xLen, xLd, xLdR, xSt, obA, true_and, and_true, and_self, eq_self, Nat.reduceEqDiff, Nat.zero_ne_one, reduceIte, Nat.reduceLeDiff, and_false, false_and, show skd 0 2 = 0 from rfl, show skd 0 0 = 0 from rfl, hk, hk1', e7, upd2_eq, Int.reduceToNat, Int.toNat_natCast]; rfl) (by first | exact trivial | exact Or.inr rfl | exact Or.inl rfl | (simp only [ob, obA, R32, R64] at *; omega) | (simp only [ob, obA, R32, R64] at *; and_intros <;> omega)) ?_
    refine V_icmpne dX8_readMark_34 (tgt := 47) (by decide) (by simp only [R32, R64] at *; omega) (fun q34 => ?_) (fun q34 => ?_)
    · omega
    · refine V_ex sX8_readMark_37 (by rfl) (by first | exact trivial | exact Or.inr rfl | exact Or.inl rfl | (simp only [ob, obA, R32, R64] at *; omega) | (simp only [ob, obA, R32, R64] at *; and_intros <;> omega)) ?_
      refine V_callV (M := MX8_readMark) (N := MX8_readWithin) dX8_readMark_41 lRX8_105 kX8_readWithin rfl (rfl) rfl (c_rWithin (d := 1) hκ hr1 hT hi1 hiN hN hw (by unfold R32; omega) (by unfold R32; omega) (by omega)) rfl rfl (Nat.le_of_ble_eq_true rfl) (fit_rm (by omega)) (⟨Nat.le_of_ble_eq_true rfl, Nat.le_of_ble_eq_true rfl⟩) (fun v Ω' hp => ?_) (fun _ _ h => h.elim)
      obtain ⟨rfl, rfl⟩ := hp
      refine V_goto dX8_readMark_44 (tgt := 54) (by decide) ?_
      refine V_zret dX8_readMark_54 rfl (by first | exact Or.inl rfl | exact Or.inr rfl | exact b2i_01 _) (by decide) ?_
      first
        | (have k2 : k = 2 := by omega
           subst k2
           refine ⟨by simp [rMk], ?_⟩
           simp [mkW, rMk])
        | (have k5 : k = 5 := by omega
           subst k5
           refine ⟨by simp [rMk], ?_⟩
           simp [mkW, rMk])
        | (refine ⟨?_, ?_⟩
           · rw [rMk, if_neg (by omega), if_neg (by omega)]; rfl
           · rw [mkW, if_pos (by omega)])
  · refine V_ex sX8_readMark_8 (by simp only [Option.toList, List.cons_append, List.nil_append, exN, ex1, gI, gL, gR, pI, pL, pR, lget, lset1, lset2, kl, b2I, b2L, nob, ob32, ob64, xGet, xPut, xLen, xLd, xLdR, xSt, obA, true_and, and_true, and_self, eq_self, Nat.reduceEqDiff, Nat.zero_ne_one, reduceIte, Nat.reduceLeDiff, and_false, false_and, show skd 0 0 = 0 from rfl, hk, hk1', e7, upd2_eq, Int.reduceToNat, Int.toNat_natCast]; rfl) (by first | exact trivial | exact Or.inr rfl | exact Or.inl rfl | (simp only [ob, obA, R32, R64] at *; omega) | (simp only [ob, obA, R32, R64] at *; and_intros <;> omega)) ?_
    refine V_icmpeq dX8_readMark_13 (tgt := 18) (by decide) (by simp only [R32, R64] at *; omega) (fun q13 => ?_) (fun q13 => ?_)
    · refine V_ex sX8_readMark_18 (by simp only [Option.toList, List.cons_append, List.nil_append, exN, ex1, gI, gL, gR, pI, pL, pR, lget, lset1, lset2, kl, b2I, b2L, nob, ob32, ob64, xGet, xPut, xLen, xLd, xLdR, xSt, obA, true_and, and_true, and_self, eq_self, Nat.reduceEqDiff, Nat.zero_ne_one, reduceIte, Nat.reduceLeDiff, and_false, false_and, show skd 7 0 = 2 from rfl, show LF.1 3 = some (.inl 7) from rfl, show LF.2 3 0 = some 4 from rfl, hk, hk1', e7, upd2_eq, Int.reduceToNat, Int.toNat_natCast]; rfl) (by first | exact trivial | exact Or.inr rfl | exact Or.inl rfl | (simp only [ob, obA, R32, R64] at *; omega) | (simp only [ob, obA, R32, R64] at *; and_intros <;> omega)) ?_
      refine V_callV (M := MX8_readMark) (N := MX9_numberTold) dX8_readMark_23 lRX8_99 kX9_numberTold rfl (rfl) rfl (c_tNumberTold (d := 0) hκ hi (by omega)) rfl rfl (Nat.le_of_ble_eq_true rfl) (fit_rm (by omega)) (⟨Nat.le_of_ble_eq_true rfl, Nat.le_of_ble_eq_true rfl⟩) (fun v Ω' hp => ?_) (fun _ _ h => h.elim)
      obtain ⟨rfl, rfl⟩ := hp
      rw [e7]
      refine V_ex sX8_readMark_26 (by simp only [Option.toList, List.cons_append, List.nil_append, exN, ex1, gI, gL, gR, pI, pL, pR, lget, lset1, lset2, kl, b2I, b2L, nob, ob32, ob64, xGet, xPut, xLen, xLd, xLdR, xSt, obA, true_and, and_true, and_self, eq_self, Nat.reduceEqDiff, Nat.zero_ne_one, reduceIte, Nat.reduceLeDiff, and_false, false_and, show skd 0 2 = 0 from rfl, show skd 0 0 = 0 from rfl, hk, hk1', e7, upd2_eq, Int.reduceToNat, Int.toNat_natCast]; rfl) (by first | exact trivial | exact Or.inr rfl | exact Or.inl rfl | (simp only [ob, obA, R32, R64] at *; omega) | (simp only [ob, obA, R32, R64] at *; and_intros <;> omega)) ?_
      refine V_icmpne dX8_readMark_34 (tgt := 47) (by decide) (by simp only [R32, R64] at *; omega) (fun q34 => ?_) (fun q34 => ?_)
      · refine V_ex sX8_readMark_47 (by rfl) (by first | exact trivial | exact Or.inr rfl | exact Or.inl rfl | (simp only [ob, obA, R32, R64] at *; omega) | (simp only [ob, obA, R32, R64] at *; and_intros <;> omega)) ?_
        refine V_callV (M := MX8_readMark) (N := MX8_readWithin) dX8_readMark_51 lRX8_105 kX8_readWithin rfl (rfl) rfl (c_rWithin (d := 1) hκ hr1 hT hi1 hiN hN hw (by unfold R32; omega) (by unfold R32; omega) (by omega)) rfl rfl (Nat.le_of_ble_eq_true rfl) (fit_rm (by omega)) (⟨Nat.le_of_ble_eq_true rfl, Nat.le_of_ble_eq_true rfl⟩) (fun v Ω' hp => ?_) (fun _ _ h => h.elim)
        obtain ⟨rfl, rfl⟩ := hp
        refine V_zret dX8_readMark_54 rfl (by first | exact Or.inl rfl | exact Or.inr rfl | exact b2i_01 _) (by decide) ?_
        first
          | (have k2 : k = 2 := by omega
             subst k2
             refine ⟨by simp [rMk], ?_⟩
             simp [mkW, rMk])
          | (have k5 : k = 5 := by omega
             subst k5
             refine ⟨by simp [rMk], ?_⟩
             simp [mkW, rMk])
          | (refine ⟨?_, ?_⟩
             · rw [rMk, if_neg (by omega), if_neg (by omega)]; rfl
             · rw [mkW, if_pos (by omega)])
      · omega
    · refine V_ex sX8_readMark_16 (by rfl) (by first | exact trivial | exact Or.inr rfl | exact Or.inl rfl | (simp only [ob, obA, R32, R64] at *; omega) | (simp only [ob, obA, R32, R64] at *; and_intros <;> omega)) ?_
      refine V_zret dX8_readMark_17 rfl (by first | exact Or.inl rfl | exact Or.inr rfl | exact b2i_01 _) (by decide) ?_
      first
        | (have k2 : k = 2 := by omega
           subst k2
           refine ⟨by simp [rMk], ?_⟩
           simp [mkW, rMk])
        | (have k5 : k = 5 := by omega
           subst k5
           refine ⟨by simp [rMk], ?_⟩
           simp [mkW, rMk])
        | (refine ⟨?_, ?_⟩
           · rw [rMk, if_neg (by omega), if_neg (by omega)]; rfl
           · rw [mkW, if_pos (by omega)])
set_option maxRecDepth 100000 in
set_option maxHeartbeats 4000000 in
theorem c_rLeafCount {κ : Kx} (hκ : KOK κ) {d i N b : Nat} {k : Int} {w v : Nat → Int} {G : Wd} (hr : rdT G w v N) (hT : pTok w v N) (hi : G.1 4 6 = (i : Nat)) (hiN : i ≤ N) (hN : N ≤ 500) (hw : wOk w N) (hB : BKa b) (hb8 : 8 ≤ b) (hk : G.1 b 0 = k) (hk2 : R32 k) (hd : 2 ≤ d) : Ct κ MX8_readLeafCount d 0 0 [VR 3, VR b] (Wm G) (fun u Ω' => u = some (VI (b2i (decide (rLc w v k i = 0)))) ∧ Ω' = Wm (lcW w v b k i G)) noX := by
  refine Ct_of hκ kX8_readLeafCount.1 rfl (Nat.le_of_ble_eq_true rfl) (ls := [some (VR 3), some (VR b)]) rfl (fun μ => ?_)
  have h1B := hB.1
  have e7 := (hr i hiN).2
  have hvi := hT.2 i
  have hr1 : rdT (uI G b 1 (v i)) w v N := fun j hj => by simp only [upd2_eq]; rw [if_neg (by omega), if_neg (by omega)]; exact hr j hj
  have hi1 : (uI G b 1 (v i)).1 4 6 = (i : Nat) := by simp only [upd2_eq]; rw [if_neg (by omega)]; exact hi
  have hk1 : upd2 G.1 b 1 (v i) b 0 = k := by simp only [upd2_eq]; rw [if_neg (by omega)]; exact hk
  have hl1 : upd2 G.1 b 1 (v i) b 1 = v i := by simp only [upd2_eq]; rw [if_pos ⟨trivial, trivial⟩]
  have hm : Int.tmod (v i) 2 = v i % 2 := Int.tmod_eq_emod_of_nonneg hvi.1
  refine V_ex sX8_readLeafCount_0 (by simp only [Option.toList, List.cons_append, List.nil_append, exN, ex1, gI, gL, gR, pI, pL, pR, lget, lset1, lset2, kl, b2I, b2L, nob, ob32, ob64, xGet, xPut, xLen, xLd, xLdR, xSt, obA, true_and, and_true, and_self, eq_self, Nat.reduceEqDiff, Nat.zero_ne_one, reduceIte, Nat.reduceLeDiff, and_false, false_and, show skd 7 0 = 2 from rfl, show LF.1 3 = some (.inl 7) from rfl, show LF.2 3 0 = some 4 from rfl, hk, hk1, hl1, upd2_eq, Int.reduceToNat, Int.toNat_natCast]; rfl) (by first | exact trivial | exact Or.inr rfl | exact Or.inl rfl | (simp only [ob, obA, R32, R64] at *; omega) | (simp only [ob, obA, R32, R64] at *; and_intros <;> omega)) ?_
  refine V_callV (M := MX8_readLeafCount) (N := MX9_numberTold) dX8_readLeafCount_5 lRX8_99 kX9_numberTold rfl (rfl) rfl (c_tNumberTold (d := 0) hκ hi (by omega)) rfl rfl (Nat.le_of_ble_eq_true rfl) (fit_rm (by omega)) (⟨Nat.le_of_ble_eq_true rfl, Nat.le_of_ble_eq_true rfl⟩) (fun v Ω' hp => ?_) (fun _ _ h => h.elim)
  obtain ⟨rfl, rfl⟩ := hp
  rw [e7]
  refine V_ex sX8_readLeafCount_8 (by simp only [Option.toList, List.cons_append, List.nil_append, exN, ex1, gI, gL, gR, pI, pL, pR, lget, lset1, lset2, kl, b2I, b2L, nob, ob32, ob64, xGet, xPut, xLen, xLd, xLdR, xSt, obA, true_and, and_true, and_self, eq_self, Nat.reduceEqDiff, Nat.zero_ne_one, reduceIte, Nat.reduceLeDiff, and_false, false_and, show skd 0 1 = 0 from rfl, show skd 0 0 = 0 from rfl, hk, hk1, hl1, upd2_eq, Int.reduceToNat, Int.toNat_natCast]; rfl) (by first | exact trivial | exact Or.inr rfl | exact Or.inl rfl | (simp only [ob, obA, R32, R64] at *; omega) | (simp only [ob, obA, R32, R64] at *; and_intros <;> omega)) ?_
  refine V_icmpne dX8_readLeafCount_16 (tgt := 34) (by decide) (by simp only [R32, R64] at *; omega) (fun q16 => ?_) (fun q16 => ?_)
  · refine V_ex sX8_readLeafCount_34 (by rfl) (by first | exact trivial | exact Or.inr rfl | exact Or.inl rfl | (simp only [ob, obA, R32, R64] at *; omega) | (simp only [ob, obA, R32, R64] at *; and_intros <;> omega)) ?_
    refine V_callV (M := MX8_readLeafCount) (N := MX8_readWithin) dX8_readLeafCount_39 lRX8_105 kX8_readWithin rfl (rfl) rfl (c_rWithin (d := 1) hκ hr1 hT hi1 hiN hN hw (by unfold R32; omega) (by unfold R32; omega) (by omega)) rfl rfl (Nat.le_of_ble_eq_true rfl) (fit_rm (by omega)) (⟨Nat.le_of_ble_eq_true rfl, Nat.le_of_ble_eq_true rfl⟩) (fun v Ω' hp => ?_) (fun _ _ h => h.elim)
    obtain ⟨rfl, rfl⟩ := hp
    refine V_zret dX8_readLeafCount_42 rfl (by first | exact Or.inl rfl | exact Or.inr rfl | exact b2i_01 _) (by decide) ?_
    have h0 : rLc w v k i = pNum w v 1 2000 i := by rw [rLc, if_neg (by omega)]
    exact ⟨by rw [h0], by rw [lcW, h0]⟩
  · refine V_ex sX8_readLeafCount_19 (by simp only [Option.toList, List.cons_append, List.nil_append, exN, ex1, gI, gL, gR, pI, pL, pR, lget, lset1, lset2, kl, b2I, b2L, nob, ob32, ob64, xGet, xPut, xLen, xLd, xLdR, xSt, obA, true_and, and_true, and_self, eq_self, Nat.reduceEqDiff, Nat.zero_ne_one, reduceIte, Nat.reduceLeDiff, and_false, false_and, show skd 0 1 = 0 from rfl, hk, hk1, hl1, upd2_eq, Int.reduceToNat, Int.toNat_natCast]; rfl) (by first | exact trivial | exact Or.inr rfl | exact Or.inl rfl | (simp only [ob, obA, R32, R64] at *; omega) | (simp only [ob, obA, R32, R64] at *; and_intros <;> omega)) ?_
    refine V_ifeq dX8_readLeafCount_25 (tgt := 34) (by decide) (by simp only [R32, R64] at *; omega) (fun q25 => ?_) (fun q25 => ?_)
    · refine V_ex sX8_readLeafCount_34 (by rfl) (by first | exact trivial | exact Or.inr rfl | exact Or.inl rfl | (simp only [ob, obA, R32, R64] at *; omega) | (simp only [ob, obA, R32, R64] at *; and_intros <;> omega)) ?_
      refine V_callV (M := MX8_readLeafCount) (N := MX8_readWithin) dX8_readLeafCount_39 lRX8_105 kX8_readWithin rfl (rfl) rfl (c_rWithin (d := 1) hκ hr1 hT hi1 hiN hN hw (by unfold R32; omega) (by unfold R32; omega) (by omega)) rfl rfl (Nat.le_of_ble_eq_true rfl) (fit_rm (by omega)) (⟨Nat.le_of_ble_eq_true rfl, Nat.le_of_ble_eq_true rfl⟩) (fun v Ω' hp => ?_) (fun _ _ h => h.elim)
      obtain ⟨rfl, rfl⟩ := hp
      refine V_zret dX8_readLeafCount_42 rfl (by first | exact Or.inl rfl | exact Or.inr rfl | exact b2i_01 _) (by decide) ?_
      have h0 : rLc w v k i = pNum w v 1 2000 i := by rw [rLc, if_neg (by omega)]
      exact ⟨by rw [h0], by rw [lcW, h0]⟩
    · refine V_ex sX8_readLeafCount_28 (by rfl) (by first | exact trivial | exact Or.inr rfl | exact Or.inl rfl | (simp only [ob, obA, R32, R64] at *; omega) | (simp only [ob, obA, R32, R64] at *; and_intros <;> omega)) ?_
      refine V_callV (M := MX8_readLeafCount) (N := MX8_refuse) dX8_readLeafCount_30 lRX8_49 kX8_refuse rfl (rfl) rfl (c_rRefuse (d := 1) hκ) rfl rfl (Nat.le_of_ble_eq_true rfl) (fit_rm (by omega)) (⟨Nat.le_of_ble_eq_true rfl, Nat.le_of_ble_eq_true rfl⟩) (fun v Ω' hp => ?_) (fun _ _ h => h.elim)
      obtain ⟨rfl, rfl⟩ := hp
      refine V_zret dX8_readLeafCount_33 rfl (by first | exact Or.inl rfl | exact Or.inr rfl | exact b2i_01 _) (by decide) ?_
      have h0 : rLc w v k i = 2 := by rw [rLc, if_pos (by omega)]
      exact ⟨by rw [h0]; rfl, by rw [lcW, h0]; rfl⟩
