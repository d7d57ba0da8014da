/-! TornLeaves: book, isThere, number, page, sum, figures, index -/
abbrev bkA (A : Ab) (i : Int) : Bk := bkJ A.1 i.toNat
def bookP (A : Ab) (i w : Int) : Int × Int := if ¬ inB A.1 i then (1, 0) else if w = 0 then (0, (bkA A i).1) else if w = 1 then (0, (bkA A i).2.2.1) else if w = 2 then (0, ((bkA A i).2.2.2.2.2.length : Nat)) else if w = 3 then (0, (bkA A i).2.1) else (1, 0)
def isThereP (A : Ab) (i l : Int) : Int × Int := if ¬ (inB A.1 i ∧ 0 ≤ l ∧ l < (bkA A i).2.2.1) then (1, 0) else (0, b2i (!decide (l ∈ (bkA A i).2.2.2.2.2)))
def numberP (A : Ab) (i p : Int) : Int × Int := if ¬ (inB A.1 i ∧ 1 ≤ p ∧ p ≤ 2 * (bkA A i).2.2.1) then (1, 0) else (0, numB (cdS A.1) (bkA A i) p)
def pageP (A : Ab) (i n : Int) : Int × Int := if ¬ inB A.1 i then (1, 0) else if pgE (cdS A.1) (bkA A i) n ≤ 2 * (bkA A i).2.2.1 then (0, pgE (cdS A.1) (bkA A i) n) else (0, -1)
def sumP (A : Ab) (i : Int) : Int × Int := if ¬ inB A.1 i then (1, 0) else (0, sumLe (cdS A.1) (bkA A i) (bkA A i).2.2.1.toNat)
def figuresP (A : Ab) (i f : Int) : Int × Int := if ¬ (inB A.1 i ∧ 0 ≤ f ∧ f ≤ 10) then (1, 0) else (0, figs (cdS A.1) (bkA A i) f (2 * (bkA A i).2.2.1).toNat)
def idxV (b : Bk) (z : Int) : Int := if z < 1 then -1 else if b.2.2.1 < (if b.1 = 1 ∧ (z + 1) / 2 % 2 ≠ 0 then (z + 1) / 2 + 1 else (z + 1) / 2) then (if b.1 = 1 ∧ (z + 1) / 2 % 2 ≠ 0 then (z + 1) / 2 + 1 else (z + 1) / 2) - b.2.2.1 else 0
def indexP (A : Ab) (i n : Int) : Int × Int := if ¬ inB A.1 i then (1, 0) else (0, idxV (bkA A i) (pgE (cdS A.1) (bkA A i) n))
set_option maxRecDepth 100000 in
set_option maxHeartbeats 4000000 in
theorem c_xBook {κ : Kx} (hκ : KOK κ) {d s : Nat} {K i w : Int} {A : Ab} {G : Wd} (hC : RC G s A) (hI : Inv K A) (hR : aR G) (hi : R32 i) (hw : R32 w) (hd : 20 ≤ d) : Ct κ MX11_book d 16 128 [VR 1, VI i, VI w] (Wm G) (cP G A ((bookP A i w).1 = 0) (some (VI (bookP A i w).2))) (cX G A ((bookP A i w).1 = 1) NSE) := by
  refine Ct_of hκ kX11_book.1 rfl (Nat.le_of_ble_eq_true rfl) (ls := [some (VR 1), some (VI i), some (VI w), none]) rfl (fun μ => ?_)
  have hN := RC_N hC hI.1 hR
  by_cases hin : inB A.1 i
  · have hj : i.toNat < A.1.1.length := by have := hin.1; have := hin.2; omega
    obtain ⟨hB, hj6, hok, k0, k2, k1, -, kg⟩ := NC_b hN hj
    refine V_ex sX11_book_0 (by rfl) (by first | exact trivial | exact Or.inr rfl | exact Or.inl rfl | (simp only [ob, obA, R32, R64] at *; omega) | (simp only [ob, obA, R32, R64] at *; and_intros <;> omega)) ?_
    refine V_callV (M := MX11_book) (N := MX11_needBook) dX11_book_2 lRX11_154 kX11_needBook rfl (rfl) rfl (c_nBook (d := 6) hκ hN hi (by omega)) rfl rfl (Nat.le_of_ble_eq_true rfl) (fit_rm (by omega)) (⟨Nat.le_of_ble_eq_true rfl, Nat.le_of_ble_eq_true rfl⟩) (fun v Ω' hp => ?_) (fun E Ω' h => absurd hin h.1)
    obtain ⟨-, rfl, rfl⟩ := hp
    refine V_ex sX11_book_5 (by rfl) (by first | exact trivial | exact Or.inr rfl | exact Or.inl rfl | (simp only [ob, obA, R32, R64] at *; omega) | (simp only [ob, obA, R32, R64] at *; and_intros <;> omega)) ?_
    refine V_tsw dX11_book_7 (dt := 59) (tg := [36, 41, 46, 54]) (by simp only [R32, R64] at *; omega) (by decide) (by decide) (by decide) (fun q7 => ?_) ⟨fun q7 => ?_, fun q7 => ?_, fun q7 => ?_, fun q7 => ?_, trivial⟩
    · refine V_throw (M := MX11_book) (is := 196) (text := "nothing such is told of a book") tC_nse (by decide +kernel) dX11_book_59 (by decide +kernel) dX11_book_63 dX11_book_65 dX11_book_68 rfl (Nat.le_of_ble_eq_true rfl) ⟨by show 6 ≤ d; omega, by show 100 ≤ 100 + 40 * d; omega⟩ ⟨Nat.le_of_ble_eq_true rfl, Nat.le_of_ble_eq_true rfl⟩ ⟨Nat.le_of_ble_eq_true rfl, Nat.le_of_ble_eq_true rfl⟩ (by have e : bookP A i w = (1, 0) := by unfold bookP; rw [if_neg (fun h => h hin), if_neg (by omega), if_neg (by omega), if_neg (by omega), if_neg (by omega)];;     exact cX_0 hC (by rw [e]))
    · refine V_ex sX11_book_36 (by simp only [Option.toList, List.cons_append, List.nil_append, exN, ex1, gI, gL, gR, pI, pL, pR, lget, lset1, lset2, kl, b2I, b2L, nob, ob32, ob64, xGet, xPut, xLen, xLd, xLdR, xSt, obA, true_and, and_true, and_self, eq_self, Nat.reduceEqDiff, Nat.zero_ne_one, reduceIte, Nat.reduceLeDiff, and_false, false_and, show skd 0 0 = 0 from rfl, hB.1, k0, k1, k2, upd2_eq, Int.reduceToNat, Int.toNat_natCast]; rfl) (by first | exact trivial | exact Or.inr rfl | exact Or.inl rfl | (simp only [ob, obA, R32, R64] at *; omega) | (simp only [ob, obA, R32, R64] at *; and_intros <;> omega)) ?_
      refine V_iret dX11_book_40 rfl (by decide) (by have e : bookP A i w = (0, (bkA A i).1) := by unfold bookP; rw [if_neg (fun h => h hin), if_pos (by omega)];;     exact cP_0 hC (by rw [e]) (by rw [e]))
    · refine V_ex sX11_book_41 (by simp only [Option.toList, List.cons_append, List.nil_append, exN, ex1, gI, gL, gR, pI, pL, pR, lget, lset1, lset2, kl, b2I, b2L, nob, ob32, ob64, xGet, xPut, xLen, xLd, xLdR, xSt, obA, true_and, and_true, and_self, eq_self, Nat.reduceEqDiff, Nat.zero_ne_one, reduceIte, Nat.reduceLeDiff, and_false, false_and, show skd 0 1 = 0 from rfl, hB.1, k0, k1, k2, upd2_eq, Int.reduceToNat, Int.toNat_natCast]; rfl) (by first | exact trivial | exact Or.inr rfl | exact Or.inl rfl | (simp only [ob, obA, R32, R64] at *; omega) | (simp only [ob, obA, R32, R64] at *; and_intros <;> omega)) ?_
      refine V_iret dX11_book_45 rfl (by decide) (by have e : bookP A i w = (0, (bkA A i).2.2.1) := by unfold bookP; rw [if_neg (fun h => h hin), if_neg (by omega), if_pos (by omega)];;     exact cP_0 hC (by rw [e]) (by rw [e]))
    · refine V_ex sX11_book_46 (by simp only [Option.toList, List.cons_append, List.nil_append, exN, ex1, gI, gL, gR, pI, pL, pR, lget, lset1, lset2, kl, b2I, b2L, nob, ob32, ob64, xGet, xPut, xLen, xLd, xLdR, xSt, obA, true_and, and_true, and_self, eq_self, Nat.reduceEqDiff, Nat.zero_ne_one, reduceIte, Nat.reduceLeDiff, and_false, false_and, show skd 0 5 = 2 from rfl, hB.1, hB.2.1, hB.1, k0, k1, k2, upd2_eq, Int.reduceToNat, Int.toNat_natCast]; rfl) (by first | exact trivial | exact Or.inr rfl | exact Or.inl rfl | (simp only [ob, obA, R32, R64] at *; omega) | (simp only [ob, obA, R32, R64] at *; and_intros <;> omega)) ?_
      refine V_callV (M := MX11_book) (N := MX5_size) dX11_book_50 lRX11_188 kX5_size rfl (hB.2.2.1.1) rfl (c_size (d := 3) hκ hB.2.2.1) rfl rfl (Nat.le_of_ble_eq_true rfl) (fit_rm (by omega)) (⟨Nat.le_of_ble_eq_true rfl, Nat.le_of_ble_eq_true rfl⟩) (fun v Ω' hp => ?_) (fun _ _ h => h.elim)
      obtain ⟨rfl, rfl⟩ := hp
      refine V_iret dX11_book_53 rfl (by decide) (by have e : bookP A i w = (0, (((bkA A i).2.2.2.2.2.length : Nat) : Int)) := by unfold bookP; rw [if_neg (fun h => h hin), if_neg (by omega), if_neg (by omega), if_pos (by omega)];;     exact cP_0 hC (by rw [e]) (by rw [e]; exact viE kg.1))
    · refine V_ex sX11_book_54 (by simp only [Option.toList, List.cons_append, List.nil_append, exN, ex1, gI, gL, gR, pI, pL, pR, lget, lset1, lset2, kl, b2I, b2L, nob, ob32, ob64, xGet, xPut, xLen, xLd, xLdR, xSt, obA, true_and, and_true, and_self, eq_self, Nat.reduceEqDiff, Nat.zero_ne_one, reduceIte, Nat.reduceLeDiff, and_false, false_and, show skd 0 2 = 0 from rfl, hB.1, k0, k1, k2, upd2_eq, Int.reduceToNat, Int.toNat_natCast]; rfl) (by first | exact trivial | exact Or.inr rfl | exact Or.inl rfl | (simp only [ob, obA, R32, R64] at *; omega) | (simp only [ob, obA, R32, R64] at *; and_intros <;> omega)) ?_
      refine V_iret dX11_book_58 rfl (by decide) (by have e : bookP A i w = (0, (bkA A i).2.1) := by unfold bookP; rw [if_neg (fun h => h hin), if_neg (by omega), if_neg (by omega), if_neg (by omega), if_pos (by omega)];;     exact cP_0 hC (by rw [e]) (by rw [e]))
  · have e : bookP A i w = (1, 0) := by unfold bookP; rw [if_pos hin]
    refine V_ex sX11_book_0 (by rfl) (by first | exact trivial | exact Or.inr rfl | exact Or.inl rfl | (simp only [ob, obA, R32, R64] at *; omega) | (simp only [ob, obA, R32, R64] at *; and_intros <;> omega)) ?_
    refine V_callV (M := MX11_book) (N := MX11_needBook) dX11_book_2 lRX11_154 kX11_needBook rfl (rfl) rfl (c_nBook (d := 6) hκ hN hi (by omega)) rfl rfl (Nat.le_of_ble_eq_true rfl) (fit_rm (by omega)) (⟨Nat.le_of_ble_eq_true rfl, Nat.le_of_ble_eq_true rfl⟩) (fun v Ω' hp => ?_) (fun E Ω' h => ⟨by rw [h.2.1, h.2.2]; exact cX_0 hC (by rw [e]), rfl, Nat.le_of_ble_eq_true rfl, Nat.le_of_ble_eq_true rfl⟩)
    skip
    exact absurd hp.1 hin
set_option maxRecDepth 100000 in
set_option maxHeartbeats 4000000 in
theorem c_xIsThere {κ : Kx} (hκ : KOK κ) {d s : Nat} {K i l : Int} {A : Ab} {G : Wd} (hC : RC G s A) (hI : Inv K A) (hR : aR G) (hi : R32 i) (hl : R32 l) (hd : 20 ≤ d) : Ct κ MX11_isThere d 16 128 [VR 1, VI i, VI l] (Wm G) (cP G A ((isThereP A i l).1 = 0) (some (VI (isThereP A i l).2))) (cX G A ((isThereP A i l).1 = 1) NSE) := by
  refine Ct_of hκ kX11_isThere.1 rfl (Nat.le_of_ble_eq_true rfl) (ls := [some (VR 1), some (VI i), some (VI l)]) rfl (fun μ => ?_)
  have hN := RC_N hC hI.1 hR
  by_cases hin : inB A.1 i ∧ 0 ≤ l ∧ l < (bkA A i).2.2.1
  · have e : isThereP A i l = (0, b2i (!decide (l ∈ (bkA A i).2.2.2.2.2))) := by unfold isThereP; rw [if_neg (fun h => h hin)]
    have hj : i.toNat < A.1.1.length := by have := hin.1.1; have := hin.1.2; omega
    obtain ⟨hB, hj6, hok, k0, k2, k1, -, kg⟩ := NC_b hN hj
    have hH := c_has (κ := κ) hκ (d := 3) (leaf := l) (G := G) hB.2.2.1 hl
    rw [kg.2 l] at hH
    refine V_ex sX11_isThere_0 (by rfl) (by first | exact trivial | exact Or.inr rfl | exact Or.inl rfl | (simp only [ob, obA, R32, R64] at *; omega) | (simp only [ob, obA, R32, R64] at *; and_intros <;> omega)) ?_
    refine V_callV (M := MX11_isThere) (N := MX11_needLeaf) dX11_isThere_3 lRX11_198 kX11_needLeaf rfl (rfl) rfl (c_nLeaf (d := 7) hκ hN hi hl (by omega)) rfl rfl (Nat.le_of_ble_eq_true rfl) (fit_rm (by omega)) (⟨Nat.le_of_ble_eq_true rfl, Nat.le_of_ble_eq_true rfl⟩) (fun v Ω' hp => ?_) (fun E Ω' h => absurd hin h.1)
    obtain ⟨-, rfl, rfl⟩ := hp
    refine V_ex sX11_isThere_6 (by simp only [Option.toList, List.cons_append, List.nil_append, exN, ex1, gI, gL, gR, pI, pL, pR, lget, lset1, lset2, kl, b2I, b2L, nob, ob32, ob64, xGet, xPut, xLen, xLd, xLdR, xSt, obA, true_and, and_true, and_self, eq_self, Nat.reduceEqDiff, Nat.zero_ne_one, reduceIte, Nat.reduceLeDiff, and_false, false_and, show skd 0 5 = 2 from rfl, hB.1, hB.2.1, upd2_eq, Int.reduceToNat, Int.toNat_natCast]; rfl) (by first | exact trivial | exact Or.inr rfl | exact Or.inl rfl | (simp only [ob, obA, R32, R64] at *; omega) | (simp only [ob, obA, R32, R64] at *; and_intros <;> omega)) ?_
    refine V_callV (M := MX11_isThere) (N := MX5_has) dX11_isThere_10 lRX11_202 kX5_has rfl (hB.2.2.1.1) rfl (hH) rfl rfl (Nat.le_of_ble_eq_true rfl) (fit_rm (by omega)) (⟨Nat.le_of_ble_eq_true rfl, Nat.le_of_ble_eq_true rfl⟩) (fun v Ω' hp => ?_) (fun _ _ h => h.elim)
    obtain ⟨rfl, rfl⟩ := hp
    refine V_ifneB dX11_isThere_13 (tgt := 20) (by decide) (fun q13 => ?_) (fun q13 => ?_)
    · refine V_ex sX11_isThere_20 (by rfl) (by first | exact trivial | exact Or.inr rfl | exact Or.inl rfl | (simp only [ob, obA, R32, R64] at *; omega) | (simp only [ob, obA, R32, R64] at *; and_intros <;> omega)) ?_
      refine V_zret dX11_isThere_21 rfl (by first | exact Or.inl rfl | exact Or.inr rfl | exact b2i_01 _) (by decide) (cP_0 hC (by rw [e]) (by rw [e, q13]; rfl))
    · refine V_ex sX11_isThere_16 (by rfl) (by first | exact trivial | exact Or.inr rfl | exact Or.inl rfl | (simp only [ob, obA, R32, R64] at *; omega) | (simp only [ob, obA, R32, R64] at *; and_intros <;> omega)) ?_
      refine V_goto dX11_isThere_17 (tgt := 21) (by decide) ?_
      refine V_zret dX11_isThere_21 rfl (by first | exact Or.inl rfl | exact Or.inr rfl | exact b2i_01 _) (by decide) (cP_0 hC (by rw [e]) (by rw [e, q13]; rfl))
  · have e : isThereP A i l = (1, 0) := by unfold isThereP; rw [if_pos hin]
    refine V_ex sX11_isThere_0 (by rfl) (by first | exact trivial | exact Or.inr rfl | exact Or.inl rfl | (simp only [ob, obA, R32, R64] at *; omega) | (simp only [ob, obA, R32, R64] at *; and_intros <;> omega)) ?_
    refine V_callV (M := MX11_isThere) (N := MX11_needLeaf) dX11_isThere_3 lRX11_198 kX11_needLeaf rfl (rfl) rfl (c_nLeaf (d := 7) hκ hN hi hl (by omega)) rfl rfl (Nat.le_of_ble_eq_true rfl) (fit_rm (by omega)) (⟨Nat.le_of_ble_eq_true rfl, Nat.le_of_ble_eq_true rfl⟩) (fun v Ω' hp => ?_) (fun E Ω' h => ⟨by rw [h.2.1, h.2.2]; exact cX_0 hC (by rw [e]), rfl, Nat.le_of_ble_eq_true rfl, Nat.le_of_ble_eq_true rfl⟩)
    skip
    exact absurd hp.1 hin
set_option maxRecDepth 100000 in
set_option maxHeartbeats 4000000 in
theorem c_xNumber {κ : Kx} (hκ : KOK κ) {d s : Nat} {K i l : Int} {A : Ab} {G : Wd} (hC : RC G s A) (hI : Inv K A) (hR : aR G) (hi : R32 i) (hl : R32 l) (hd : 20 ≤ d) : Ct κ MX11_number d 16 128 [VR 1, VI i, VI l] (Wm G) (cP G A ((numberP A i l).1 = 0) (some (VI (numberP A i l).2))) (cX G A ((numberP A i l).1 = 1) NSE) := by
  refine Ct_of hκ kX11_number.1 rfl (Nat.le_of_ble_eq_true rfl) (ls := [some (VR 1), some (VI i), some (VI l)]) rfl (fun μ => ?_)
  have hN := RC_N hC hI.1 hR
  by_cases hin : inB A.1 i ∧ 1 ≤ l ∧ l ≤ 2 * (bkA A i).2.2.1
  · have e : numberP A i l = (0, numB (cdS A.1) (bkA A i) l) := by unfold numberP; rw [if_neg (fun h => h hin)]
    obtain ⟨j, hj⟩ : ∃ j : Nat, i = (j : Int) := ⟨i.toNat, by have := hin.1.1; omega⟩
    subst hj
    obtain ⟨p, hp⟩ : ∃ p : Nat, l = (p : Int) := ⟨l.toNat, by omega⟩
    subst hp
    have hj : j < A.1.1.length := by have := hin.1.1; have := hin.1.2; omega
    obtain ⟨hB, hj6, hok, -⟩ := NC_b hN hj
    have hlv := hok.2.2.2.1
    have hpp : 1 ≤ (p : Int) ∧ (p : Int) ≤ 2 * (bkJ A.1 j).2.2.1 := hin.2
    refine V_ex sX11_number_0 (by rfl) (by first | exact trivial | exact Or.inr rfl | exact Or.inl rfl | (simp only [ob, obA, R32, R64] at *; omega) | (simp only [ob, obA, R32, R64] at *; and_intros <;> omega)) ?_
    refine V_callV (M := MX11_number) (N := MX11_needPage) dX11_number_5 lRX11_205 kX11_needPage rfl (rfl) rfl (c_nPage (d := 7) hκ hN hi hl (by omega)) rfl rfl (Nat.le_of_ble_eq_true rfl) (fit_rm (by omega)) (⟨Nat.le_of_ble_eq_true rfl, Nat.le_of_ble_eq_true rfl⟩) (fun v Ω' hp => ?_) (fun E Ω' h => absurd hin h.1)
    obtain ⟨-, rfl, rfl⟩ := hp
    rw [Int.toNat_natCast]
    refine V_ex sX11_number_8 (by rfl) (by first | exact trivial | exact Or.inr rfl | exact Or.inl rfl | (simp only [ob, obA, R32, R64] at *; omega) | (simp only [ob, obA, R32, R64] at *; and_intros <;> omega)) ?_
    refine V_callV (M := MX11_number) (N := MX11_numberOn) dX11_number_9 lRX11_208 kX11_numberOn rfl (rfl) rfl (c_numOn (d := 7) hκ hN hj (p := p) (by omega) (by omega)) rfl rfl (Nat.le_of_ble_eq_true rfl) (fit_rm (by omega)) (⟨Nat.le_of_ble_eq_true rfl, Nat.le_of_ble_eq_true rfl⟩) (fun v Ω' hp => ?_) (fun _ _ h => h.elim)
    obtain ⟨rfl, G1, rfl, f1, n1⟩ := hp
    refine V_iret dX11_number_12 rfl (by decide) (cP_n hC hI.1 f1 n1 (by rw [e]) (by rw [e]; rfl))
  · have e : numberP A i l = (1, 0) := by unfold numberP; rw [if_pos hin]
    refine V_ex sX11_number_0 (by rfl) (by first | exact trivial | exact Or.inr rfl | exact Or.inl rfl | (simp only [ob, obA, R32, R64] at *; omega) | (simp only [ob, obA, R32, R64] at *; and_intros <;> omega)) ?_
    refine V_callV (M := MX11_number) (N := MX11_needPage) dX11_number_5 lRX11_205 kX11_needPage rfl (rfl) rfl (c_nPage (d := 7) hκ hN hi hl (by omega)) rfl rfl (Nat.le_of_ble_eq_true rfl) (fit_rm (by omega)) (⟨Nat.le_of_ble_eq_true rfl, Nat.le_of_ble_eq_true rfl⟩) (fun v Ω' hp => ?_) (fun E Ω' h => ⟨by rw [h.2.1, h.2.2]; exact cX_0 hC (by rw [e]), rfl, Nat.le_of_ble_eq_true rfl, Nat.le_of_ble_eq_true rfl⟩)
    skip
    exact absurd hp.1 hin
set_option maxRecDepth 100000 in
set_option maxHeartbeats 4000000 in
theorem c_xSum {κ : Kx} (hκ : KOK κ) {d s : Nat} {K i : Int} {A : Ab} {G : Wd} (hC : RC G s A) (hI : Inv K A) (hR : aR G) (hi : R32 i) (hd : 20 ≤ d) : Ct κ MX11_sum d 16 128 [VR 1, VI i] (Wm G) (cP G A ((sumP A i).1 = 0) (some (VL (sumP A i).2))) (cX G A ((sumP A i).1 = 1) NSE) := by
  refine Ct_of hκ kX11_sum.1 rfl (Nat.le_of_ble_eq_true rfl) (ls := [some (VR 1), some (VI i)]) rfl (fun μ => ?_)
  have hN := RC_N hC hI.1 hR
  by_cases hin : inB A.1 i
  · have e : sumP A i = (0, sumLe (cdS A.1) (bkA A i) (bkA A i).2.2.1.toNat) := by unfold sumP; rw [if_neg (fun h => h hin)]
    obtain ⟨j, hj⟩ : ∃ j : Nat, i = (j : Int) := ⟨i.toNat, by have := hin.1; omega⟩
    subst hj
    have hj : j < A.1.1.length := by have := hin.2; omega
    refine V_ex sX11_sum_0 (by rfl) (by first | exact trivial | exact Or.inr rfl | exact Or.inl rfl | (simp only [ob, obA, R32, R64] at *; omega) | (simp only [ob, obA, R32, R64] at *; and_intros <;> omega)) ?_
    refine V_callV (M := MX11_sum) (N := MX11_needBook) dX11_sum_4 lRX11_154 kX11_needBook rfl (rfl) rfl (c_nBook (d := 6) hκ hN hi (by omega)) rfl rfl (Nat.le_of_ble_eq_true rfl) (fit_rm (by omega)) (⟨Nat.le_of_ble_eq_true rfl, Nat.le_of_ble_eq_true rfl⟩) (fun v Ω' hp => ?_) (fun E Ω' h => absurd hin h.1)
    obtain ⟨-, rfl, rfl⟩ := hp
    rw [Int.toNat_natCast]
    refine V_callV (M := MX11_sum) (N := MX11_sumLeft) dX11_sum_7 lRX11_235 kX11_sumLeft rfl (rfl) rfl (c_sumL (d := 7) hκ hN hj (by omega)) rfl rfl (Nat.le_of_ble_eq_true rfl) (fit_rm (by omega)) (⟨Nat.le_of_ble_eq_true rfl, Nat.le_of_ble_eq_true rfl⟩) (fun v Ω' hp => ?_) (fun _ _ h => h.elim)
    obtain ⟨rfl, G1, rfl, f1, n1⟩ := hp
    refine V_lret dX11_sum_10 rfl (by decide) (cP_n hC hI.1 f1 n1 (by rw [e]) (by rw [e]; rfl))
  · have e : sumP A i = (1, 0) := by unfold sumP; rw [if_pos hin]
    refine V_ex sX11_sum_0 (by rfl) (by first | exact trivial | exact Or.inr rfl | exact Or.inl rfl | (simp only [ob, obA, R32, R64] at *; omega) | (simp only [ob, obA, R32, R64] at *; and_intros <;> omega)) ?_
    refine V_callV (M := MX11_sum) (N := MX11_needBook) dX11_sum_4 lRX11_154 kX11_needBook rfl (rfl) rfl (c_nBook (d := 6) hκ hN hi (by omega)) rfl rfl (Nat.le_of_ble_eq_true rfl) (fit_rm (by omega)) (⟨Nat.le_of_ble_eq_true rfl, Nat.le_of_ble_eq_true rfl⟩) (fun v Ω' hp => ?_) (fun E Ω' h => ⟨by rw [h.2.1, h.2.2]; exact cX_0 hC (by rw [e]), rfl, Nat.le_of_ble_eq_true rfl, Nat.le_of_ble_eq_true rfl⟩)
    skip
    exact absurd hp.1 hin
theorem pgE_R {c : List Int} {b : Bk} (hb : okBk c b) {n : Int} (hn : R32 n) : -1 ≤ pgE c b n ∧ pgE c b n ≤ 9223372036854775807 - 1000000 := by
  have hf : ∀ (k p : Nat), p + k ≤ 5000 → -1 ≤ fstP c b n k p ∧ fstP c b n k p ≤ 5000 := by
    intro k
    induction k with
    | zero => intro p h; exact ⟨Int.le_refl _, by show (-1 : Int) ≤ 5000; decide⟩
    | succ k ih =>
      intro p h
      rw [fstP]
      split
      · omega
      · exact ih (p + 1) (by omega)
  obtain ⟨h1, h2, h3, h4, -⟩ := hb
  unfold R32 at hn
  unfold pgE
  split
  · omega
  · split
    · have := hf (2 * b.2.2.1).toNat 1 (by omega); omega
    · unfold ownP
      split
      · omega
      · split
        · split
          · omega
          · rw [td_nn (by omega)]; omega
        · split
          · split
            · rw [td_nn (by omega)]; omega
            · omega
          · split
            · have hp : ∀ (k : Nat) (v pw : Int), 0 ≤ pw → 0 ≤ v → v < 10 ^ k → ∀ z, pwC b.2.1 k v pw = some z → 0 ≤ z ∧ z ≤ v * pw := by
                intro k
                induction k with
                | zero => intro v pw h h0 hv z hz; rw [pwC] at hz; cases hz; exact ⟨Int.le_refl _, Int.mul_nonneg h0 h⟩
                | succ k ih =>
                  intro v pw h h0 hv z hz
                  rw [pwC] at hz
                  split at hz
                  · cases hz; exact ⟨Int.le_refl _, Int.mul_nonneg h0 h⟩
                  · split at hz
                    · cases hz
                    · obtain ⟨y, hy, hyz⟩ := Option.map_eq_some_iff.mp hz
                      have h3 := ih (v / 10) (pw * 9) (by omega) (by omega) (by rw [Int.pow_succ] at hv; omega) y hy
                      have h5 : (0 : Int) ≤ (if b.2.1 < v % 10 then v % 10 - 1 else v % 10) ∧ (if b.2.1 < v % 10 then v % 10 - 1 else v % 10) ≤ v % 10 := by split <;> omega
                      generalize (if b.2.1 < v % 10 then v % 10 - 1 else v % 10) = dg at *
                      have h6 : 0 ≤ dg * pw ∧ dg * pw ≤ (v % 10) * pw := ⟨Int.mul_nonneg h5.1 h, Int.mul_le_mul_of_nonneg_right h5.2 h⟩
                      have h7 : v / 10 * (pw * 9) ≤ v / 10 * (pw * 10) := Int.mul_le_mul_of_nonneg_left (by omega) (by omega)
                      have h8 : v / 10 * (pw * 10) + v % 10 * pw = v * pw := by
                        have : v = v / 10 * 10 + v % 10 := by omega
                        conv => rhs; rw [this]
                        grind
                      omega
              cases hz : pwC b.2.1 18 n 1 with
              | none => show -1 ≤ (-1 : Int) ∧ (-1 : Int) ≤ _; omega
              | some z => have := hp 18 n 1 (by omega) (by omega) (by omega) z hz; show -1 ≤ z ∧ z ≤ _; omega
            · omega
set_option maxRecDepth 100000 in
set_option maxHeartbeats 4000000 in
theorem c_xPage {κ : Kx} (hκ : KOK κ) {d s : Nat} {K i n : Int} {A : Ab} {G : Wd} (hC : RC G s A) (hI : Inv K A) (hR : aR G) (hi : R32 i) (hn : R32 n) (hd : 20 ≤ d) : Ct κ MX11_page d 16 128 [VR 1, VI i, VI n] (Wm G) (cP G A ((pageP A i n).1 = 0) (some (VI (pageP A i n).2))) (cX G A ((pageP A i n).1 = 1) NSE) := by
  refine Ct_of hκ kX11_page.1 rfl (Nat.le_of_ble_eq_true rfl) (ls := [some (VR 1), some (VI i), some (VI n), none, none, none]) rfl (fun μ => ?_)
  have hN := RC_N hC hI.1 hR
  by_cases hin : inB A.1 i
  · obtain ⟨j, hj⟩ : ∃ j : Nat, i = (j : Int) := ⟨i.toNat, by have := hin.1; omega⟩
    subst hj
    have hj : j < A.1.1.length := by have := hin.2; omega
    obtain ⟨hB, hj6, hok, -⟩ := NC_b hN hj
    have hlv := hok.2.2.2.1
    have hz := pgE_R hok hn
    have e : pageP A (j : Nat) n = if pgE (cdS A.1) (bkJ A.1 j) n ≤ 2 * (bkJ A.1 j).2.2.1 then (0, pgE (cdS A.1) (bkJ A.1 j) n) else (0, -1) := by unfold pageP; rw [if_neg (fun h => h hin)]; rfl
    have hP := fun G1 (n1 : NC G1 s A.1) => c_pgE (κ := κ) hκ (d := 7) (n := n) n1 hj hn (by omega)
    generalize pgE (cdS A.1) (bkJ A.1 j) n = z at *
    refine V_ex sX11_page_0 (by rfl) (by first | exact trivial | exact Or.inr rfl | exact Or.inl rfl | (simp only [ob, obA, R32, R64] at *; omega) | (simp only [ob, obA, R32, R64] at *; and_intros <;> omega)) ?_
    refine V_callV (M := MX11_page) (N := MX11_needBook) dX11_page_2 lRX11_154 kX11_needBook rfl (rfl) rfl (c_nBook (d := 6) hκ hN hi (by omega)) rfl rfl (Nat.le_of_ble_eq_true rfl) (fit_rm (by omega)) (⟨Nat.le_of_ble_eq_true rfl, Nat.le_of_ble_eq_true rfl⟩) (fun v Ω' hp => ?_) (fun E Ω' h => absurd hin h.1)
    obtain ⟨-, rfl, rfl⟩ := hp
    rw [Int.toNat_natCast]
    refine V_ex sX11_page_5 (by rfl) (by first | exact trivial | exact Or.inr rfl | exact Or.inl rfl | (simp only [ob, obA, R32, R64] at *; omega) | (simp only [ob, obA, R32, R64] at *; and_intros <;> omega)) ?_
    refine V_callV (M := MX11_page) (N := MX11_pageEver) dX11_page_10 lRX11_223 kX11_pageEver rfl (rfl) rfl (hP G hN) rfl rfl (Nat.le_of_ble_eq_true rfl) (fit_rm (by omega)) (⟨Nat.le_of_ble_eq_true rfl, Nat.le_of_ble_eq_true rfl⟩) (fun v Ω' hp => ?_) (fun _ _ h => h.elim)
    obtain ⟨rfl, G1, rfl, f1, n1⟩ := hp
    obtain ⟨-, -, -, k0, k2, k1, -⟩ := NC_b n1 hj
    refine V_ex sX11_page_13 (by simp only [Option.toList, List.cons_append, List.nil_append, exN, ex1, gI, gL, gR, pI, pL, pR, lget, lset1, lset2, kl, b2I, b2L, nob, ob32, ob64, xGet, xPut, xLen, xLd, xLdR, xSt, obA, true_and, and_true, and_self, eq_self, Nat.reduceEqDiff, Nat.zero_ne_one, reduceIte, Nat.reduceLeDiff, and_false, false_and, show skd 0 1 = 0 from rfl, hB.1, k1, upd2_eq, Int.reduceToNat, Int.toNat_natCast]; rfl) (by first | exact trivial | exact Or.inr rfl | exact Or.inl rfl | (simp only [ob, obA, R32, R64] at *; omega) | (simp only [ob, obA, R32, R64] at *; and_intros <;> omega)) ?_
    refine V_lifgt dX11_page_27 (tgt := 36) (by decide) (fun q27 => ?_) (fun q27 => ?_)
    · refine V_ex sX11_page_36 (by rfl) (by first | exact trivial | exact Or.inr rfl | exact Or.inl rfl | (simp only [ob, obA, R32, R64] at *; omega) | (simp only [ob, obA, R32, R64] at *; and_intros <;> omega)) ?_
      refine V_iret dX11_page_37 rfl (by decide) (cP_n hC hI.1 f1 n1 (by rw [e, if_neg (by omega)]) (by rw [e, if_neg (by omega)]))
    · refine V_ex sX11_page_30 (by rfl) (by first | exact trivial | exact Or.inr rfl | exact Or.inl rfl | (simp only [ob, obA, R32, R64] at *; omega) | (simp only [ob, obA, R32, R64] at *; and_intros <;> omega)) ?_
      refine V_goto dX11_page_33 (tgt := 37) (by decide) ?_
      refine V_iret dX11_page_37 rfl (by decide) (cP_n hC hI.1 f1 n1 (by rw [e, if_pos (by omega)]) (by rw [e, if_pos (by omega)]))
  · have e : pageP A i n = (1, 0) := by unfold pageP; rw [if_pos hin]
    refine V_ex sX11_page_0 (by rfl) (by first | exact trivial | exact Or.inr rfl | exact Or.inl rfl | (simp only [ob, obA, R32, R64] at *; omega) | (simp only [ob, obA, R32, R64] at *; and_intros <;> omega)) ?_
    refine V_callV (M := MX11_page) (N := MX11_needBook) dX11_page_2 lRX11_154 kX11_needBook rfl (rfl) rfl (c_nBook (d := 6) hκ hN hi (by omega)) rfl rfl (Nat.le_of_ble_eq_true rfl) (fit_rm (by omega)) (⟨Nat.le_of_ble_eq_true rfl, Nat.le_of_ble_eq_true rfl⟩) (fun v Ω' hp => ?_) (fun E Ω' h => ⟨by rw [h.2.1, h.2.2]; exact cX_0 hC (by rw [e]), rfl, Nat.le_of_ble_eq_true rfl, Nat.le_of_ble_eq_true rfl⟩)
    skip
    exact absurd hp.1 hin
