/-! TornLeaves: tear, sheet asked for -/
theorem FrC.u (G : Wd) {a k : Nat} (z : Int) (h : a < 145) : FrC G (uI G a k z) := ⟨fun x b => by funext j; exact iv (by omega), fun x _ => rfl⟩
theorem FrC.ntw {s j : Nat} (G : Wd) (hs : s = 8 ∨ s = 61) (hj : j < 6) (i z o : Int) : FrC G (ntW (twW G (s + 7 + 5 * j + 1) z o) i z o) := by
  refine ⟨fun x b => ?_, fun x _ => ?_⟩
  · rw [← twW_ne (G := G) (a := s + 7 + 5 * j + 1) (z := z) (o := o) (x := x) (by omega) (by omega)]
    unfold ntW
    funext y
    rw [iv (by omega), iv (by omega), iv (by omega), iv (by omega)]
  · show (twW G (s + 7 + 5 * j + 1) z o).2.1 x = _
    rw [twW_2]
theorem gone_len {G : Wd} {s j : Nat} {A : Ab} {ls : List Int} {t : Tn} (h : RC G s (tornA A j ls t)) (hj : j < A.1.1.length) : G.1 (s + 7 + 5 * j + 1) 1 = (((bkJ A.1 j).2.2.2.2.2.length + ls.length : Nat) : Int) := by
  have hj2 : j < (tornA A j ls t).1.1.length := by show j < (setGo _ _ _).1.length; rw [setGo_len]; exact hj
  obtain ⟨b1, b2, b3, b4, kg⟩ := h.2.1.2.1 j hj2
  rw [← bkJ_in hj2] at kg
  have e : bkJ (tornA A j ls t).1 j = bkGo' (bkJ A.1 j) ((bkJ A.1 j).2.2.2.2.2 ++ ls) := by
    show bkJ (setGo _ _ _) j = _
    rw [bkJ_go hj, if_pos rfl]
  rw [e] at kg
  have := kg.1
  simpa using this
def tearP (A : Ab) (i l : Int) : Int × Int × Ab := if ¬ (inB A.1 i ∧ 0 ≤ l ∧ l < (bkA A i).2.2.1) then (1, 0, A) else if l ∈ (bkA A i).2.2.2.2.2 ∨ 60 ≤ (bkA A i).2.2.2.2.2.length then (0, -1, refA A 1) else (0, (((bkA A i).2.2.2.2.2.length + 1 : Nat) : Int), tornA A i.toNat [l] (i, l, -1))
set_option maxRecDepth 100000 in
set_option maxHeartbeats 4000000 in
theorem c_xTear {κ : Kx} (hκ : KOK κ) {d s : Nat} {K i l : Int} {A : Ab} {G : Wd} (hC : RC G s A) (hI : Inv K A) (hR : aR G) (hi : R32 i) (hl : R32 l) (hd : 20 ≤ d) : Ct κ MX11_tear d 16 128 [VR 1, VI i, VI l] (Wm G) (cP G (tearP A i l).2.2 ((tearP A i l).1 = 0) (some (VI (tearP A i l).2.1))) (cX G A ((tearP A i l).1 = 1) NSE) := by
  refine Ct_of hκ kX11_tear.1 rfl (Nat.le_of_ble_eq_true rfl) (ls := [some (VR 1), some (VI i), some (VI l), none]) rfl (fun μ => ?_)
  have hN := RC_N hC hI.1 hR
  by_cases hin : inB A.1 i ∧ 0 ≤ l ∧ l < (bkA A i).2.2.1
  · obtain ⟨j, hj⟩ : ∃ j : Nat, i = (j : Int) := ⟨i.toNat, by have := hin.1.1; omega⟩
    subst hj
    have hj : j < A.1.1.length := by have := hin.1.2; omega
    obtain ⟨hB, hj6, hok, k0, k2, k1, -, kg⟩ := NC_b hN hj
    have hlv := hok.2.2.2.1
    have h60 := hok.2.2.2.2.2.2.2.1
    have hll : 0 ≤ l ∧ l < (bkJ A.1 j).2.2.1 := hin.2
    have hT := (T_lt hI hj).1
    have h114 : G.1 114 3 = (A.2.1.1.length : Nat) := hC.2.2.2.1.1
    have hH := c_has (κ := κ) hκ (d := 3) (leaf := l) (G := G) hB.2.2.1 hl
    rw [kg.2 l] at hH
    have hSz := c_size (κ := κ) hκ (d := 3) (G := G) hB.2.2.1
    rw [kg.1] at hSz
    have rf : l ∈ (bkJ A.1 j).2.2.2.2.2 ∨ 60 ≤ (bkJ A.1 j).2.2.2.2.2.length → cP G (tearP A (j : Nat) l).2.2 ((tearP A (j : Nat) l).1 = 0) (some (VI (tearP A (j : Nat) l).2.1)) (some (VI (-1))) (Wm (uI G 120 1 (G.1 120 1 + 1))) := fun q => by
      have e : tearP A (j : Nat) l = (0, -1, refA A 1) := by unfold tearP; rw [if_neg (fun h => h hin)]; exact if_pos q
      rw [e]
      exact ⟨rfl, rfl, _, s, rfl, RC_ref hC hI (by omega), FrC.u G _ (by omega)⟩
    refine V_ex sX11_tear_0 (by rfl) (by first | exact trivial | exact Or.inr rfl | exact Or.inl rfl | (simp only [ob, obA, R32, R64] at *; omega) | (simp only [ob, obA, R32, R64] at *; and_intros <;> omega)) ?_
    refine V_callV (M := MX11_tear) (N := MX11_needLeaf) dX11_tear_3 lRX11_198 kX11_needLeaf rfl (rfl) rfl (c_nLeaf (d := 7) hκ hN hi hl (by omega)) rfl rfl (Nat.le_of_ble_eq_true rfl) (fit_rm (by omega)) (⟨Nat.le_of_ble_eq_true rfl, Nat.le_of_ble_eq_true rfl⟩) (fun v Ω' hp => ?_) (fun E Ω' h => absurd hin h.1)
    obtain ⟨-, rfl, rfl⟩ := hp
    rw [Int.toNat_natCast]
    refine V_ex sX11_tear_6 (by simp only [Option.toList, List.cons_append, List.nil_append, exN, ex1, gI, gL, gR, pI, pL, pR, lget, lset1, lset2, kl, b2I, b2L, nob, ob32, ob64, xGet, xPut, xLen, xLd, xLdR, xSt, obA, true_and, and_true, and_self, eq_self, Nat.reduceEqDiff, Nat.zero_ne_one, reduceIte, Nat.reduceLeDiff, and_false, false_and, show skd 0 5 = 2 from rfl, hB.1, hB.2.1, upd2_eq, Int.reduceToNat, Int.toNat_natCast]; rfl) (by first | exact trivial | exact Or.inr rfl | exact Or.inl rfl | (simp only [ob, obA, R32, R64] at *; omega) | (simp only [ob, obA, R32, R64] at *; and_intros <;> omega)) ?_
    refine V_callV (M := MX11_tear) (N := MX5_has) dX11_tear_12 lRX11_202 kX5_has rfl (hB.2.2.1.1) rfl (hH) rfl rfl (Nat.le_of_ble_eq_true rfl) (fit_rm (by omega)) (⟨Nat.le_of_ble_eq_true rfl, Nat.le_of_ble_eq_true rfl⟩) (fun v Ω' hp => ?_) (fun _ _ h => h.elim)
    obtain ⟨rfl, rfl⟩ := hp
    refine V_ifneB dX11_tear_15 (tgt := 30) (by decide) (fun q15 => ?_) (fun q15 => ?_)
    · refine V_ex sX11_tear_30 (by simp only [Option.toList, List.cons_append, List.nil_append, exN, ex1, gI, gL, gR, pI, pL, pR, lget, lset1, lset2, kl, b2I, b2L, nob, ob32, ob64, xGet, xPut, xLen, xLd, xLdR, xSt, obA, true_and, and_true, and_self, eq_self, Nat.reduceEqDiff, Nat.zero_ne_one, reduceIte, Nat.reduceLeDiff, and_false, false_and, show skd 10 6 = 2 from rfl, show LF.1 1 = some (.inl 10) from rfl, show LF.2 1 6 = some 114 from rfl, hB.1, hB.2.1, upd2_eq, Int.reduceToNat, Int.toNat_natCast]; rfl) (by first | exact trivial | exact Or.inr rfl | exact Or.inl rfl | (simp only [ob, obA, R32, R64] at *; omega) | (simp only [ob, obA, R32, R64] at *; and_intros <;> omega)) ?_
      refine V_callV (M := MX11_tear) (N := MX2_refuse) dX11_tear_35 lRX11_106 kX2_refuse rfl (rfl) rfl (c_refuse (d := 3) hκ (e := 114) (w := 1) (Or.inl rfl) (by omega) (by omega)) rfl rfl (Nat.le_of_ble_eq_true rfl) (fit_rm (by omega)) (⟨Nat.le_of_ble_eq_true rfl, Nat.le_of_ble_eq_true rfl⟩) (fun v Ω' hp => ?_) (fun _ _ h => h.elim)
      obtain ⟨rfl, rfl⟩ := hp
      refine V_iret dX11_tear_38 rfl (by decide) (rf (Or.inl (of_decide_eq_true q15)))
    · refine V_ex sX11_tear_18 (by simp only [Option.toList, List.cons_append, List.nil_append, exN, ex1, gI, gL, gR, pI, pL, pR, lget, lset1, lset2, kl, b2I, b2L, nob, ob32, ob64, xGet, xPut, xLen, xLd, xLdR, xSt, obA, true_and, and_true, and_self, eq_self, Nat.reduceEqDiff, Nat.zero_ne_one, reduceIte, Nat.reduceLeDiff, and_false, false_and, show skd 0 5 = 2 from rfl, hB.1, hB.2.1, upd2_eq, Int.reduceToNat, Int.toNat_natCast]; rfl) (by first | exact trivial | exact Or.inr rfl | exact Or.inl rfl | (simp only [ob, obA, R32, R64] at *; omega) | (simp only [ob, obA, R32, R64] at *; and_intros <;> omega)) ?_
      refine V_callV (M := MX11_tear) (N := MX5_size) dX11_tear_22 lRX11_188 kX5_size rfl (hB.2.2.1.1) rfl (hSz) rfl rfl (Nat.le_of_ble_eq_true rfl) (fit_rm (by omega)) (⟨Nat.le_of_ble_eq_true rfl, Nat.le_of_ble_eq_true rfl⟩) (fun v Ω' hp => ?_) (fun _ _ h => h.elim)
      obtain ⟨rfl, rfl⟩ := hp
      refine V_ex sX11_tear_25 (by rfl) (by first | exact trivial | exact Or.inr rfl | exact Or.inl rfl | (simp only [ob, obA, R32, R64] at *; omega) | (simp only [ob, obA, R32, R64] at *; and_intros <;> omega)) ?_
      refine V_icmplt dX11_tear_27 (tgt := 39) (by decide) (by simp only [R32, R64] at *; omega) (fun q27 => ?_) (fun q27 => ?_)
      · refine V_ex sX11_tear_39 (by rfl) (by first | exact trivial | exact Or.inr rfl | exact Or.inl rfl | (simp only [ob, obA, R32, R64] at *; omega) | (simp only [ob, obA, R32, R64] at *; and_intros <;> omega)) ?_
        refine V_callV (M := MX11_tear) (N := MX11_tearOut) dX11_tear_44 lRX11_254 kX11_tearOut rfl (rfl) rfl (c_tearO (d := 5) hκ hN hj hl (by unfold R32; decide) (by rw [h114]; omega) (by omega)) rfl rfl (Nat.le_of_ble_eq_true rfl) (fit_rm (by omega)) (⟨Nat.le_of_ble_eq_true rfl, Nat.le_of_ble_eq_true rfl⟩) (fun v Ω' hp => ?_) (fun _ _ h => h.elim)
        obtain ⟨rfl, rfl⟩ := hp
        have hln : l ∉ (bkJ A.1 j).2.2.2.2.2 := of_decide_eq_false q15
        have hC1 := RC_torn (i := (j : Int)) (o := -1) hC hI hj (by omega) hln (Or.inl rfl)
        rw [if_pos rfl] at hC1
        have hFr := FrC.ntw G hC.1.2.2 hj6 (j : Int) l (-1)
        have hgl := gone_len hC1 hj
        generalize ntW (twW G (s + 7 + 5 * j + 1) l (-1)) (j : Int) l (-1) = G1 at *
        have hSz1 := c_size (κ := κ) hκ (d := 3) (G := G1) hB.2.2.1
        rw [hgl] at hSz1
        refine V_ex sX11_tear_47 (by simp only [Option.toList, List.cons_append, List.nil_append, exN, ex1, gI, gL, gR, pI, pL, pR, lget, lset1, lset2, kl, b2I, b2L, nob, ob32, ob64, xGet, xPut, xLen, xLd, xLdR, xSt, obA, true_and, and_true, and_self, eq_self, Nat.reduceEqDiff, Nat.zero_ne_one, reduceIte, Nat.reduceLeDiff, and_false, false_and, show skd 0 5 = 2 from rfl, hB.1, hB.2.1, upd2_eq, Int.reduceToNat, Int.toNat_natCast]; rfl) (by first | exact trivial | exact Or.inr rfl | exact Or.inl rfl | (simp only [ob, obA, R32, R64] at *; omega) | (simp only [ob, obA, R32, R64] at *; and_intros <;> omega)) ?_
        refine V_callV (M := MX11_tear) (N := MX5_size) dX11_tear_51 lRX11_188 kX5_size rfl (hB.2.2.1.1) rfl (hSz1) rfl rfl (Nat.le_of_ble_eq_true rfl) (fit_rm (by omega)) (⟨Nat.le_of_ble_eq_true rfl, Nat.le_of_ble_eq_true rfl⟩) (fun v Ω' hp => ?_) (fun _ _ h => h.elim)
        obtain ⟨rfl, rfl⟩ := hp
        refine V_iret dX11_tear_54 rfl (by decide) ?_
        have e : tearP A (j : Nat) l = (0, (((bkJ A.1 j).2.2.2.2.2.length + 1 : Nat) : Int), tornA A j [l] ((j : Int), l, -1)) := by unfold tearP; rw [if_neg (fun h => h hin)]; exact if_neg (fun q => by rcases q with q | q; exact hln q; (have q : 60 ≤ (bkJ A.1 j).2.2.2.2.2.length := q); omega)
        rw [e]
        exact ⟨rfl, rfl, G1, s, rfl, hC1, hFr⟩
      · refine V_ex sX11_tear_30 (by simp only [Option.toList, List.cons_append, List.nil_append, exN, ex1, gI, gL, gR, pI, pL, pR, lget, lset1, lset2, kl, b2I, b2L, nob, ob32, ob64, xGet, xPut, xLen, xLd, xLdR, xSt, obA, true_and, and_true, and_self, eq_self, Nat.reduceEqDiff, Nat.zero_ne_one, reduceIte, Nat.reduceLeDiff, and_false, false_and, show skd 10 6 = 2 from rfl, show LF.1 1 = some (.inl 10) from rfl, show LF.2 1 6 = some 114 from rfl, hB.1, hB.2.1, upd2_eq, Int.reduceToNat, Int.toNat_natCast]; rfl) (by first | exact trivial | exact Or.inr rfl | exact Or.inl rfl | (simp only [ob, obA, R32, R64] at *; omega) | (simp only [ob, obA, R32, R64] at *; and_intros <;> omega)) ?_
        refine V_callV (M := MX11_tear) (N := MX2_refuse) dX11_tear_35 lRX11_106 kX2_refuse rfl (rfl) rfl (c_refuse (d := 3) hκ (e := 114) (w := 1) (Or.inl rfl) (by omega) (by omega)) rfl rfl (Nat.le_of_ble_eq_true rfl) (fit_rm (by omega)) (⟨Nat.le_of_ble_eq_true rfl, Nat.le_of_ble_eq_true rfl⟩) (fun v Ω' hp => ?_) (fun _ _ h => h.elim)
        obtain ⟨rfl, rfl⟩ := hp
        refine V_iret dX11_tear_38 rfl (by decide) (rf (Or.inr (by omega)))
  · have e : tearP A i l = (1, 0, A) := by unfold tearP; rw [if_pos hin]
    refine V_ex sX11_tear_0 (by rfl) (by first | exact trivial | exact Or.inr rfl | exact Or.inl rfl | (simp only [ob, obA, R32, R64] at *; omega) | (simp only [ob, obA, R32, R64] at *; and_intros <;> omega)) ?_
    refine V_callV (M := MX11_tear) (N := MX11_needLeaf) dX11_tear_3 lRX11_198 kX11_needLeaf rfl (rfl) rfl (c_nLeaf (d := 7) hκ hN hi hl (by omega)) rfl rfl (Nat.le_of_ble_eq_true rfl) (fit_rm (by omega)) (⟨Nat.le_of_ble_eq_true rfl, Nat.le_of_ble_eq_true rfl⟩) (fun v Ω' hp => ?_) (fun E Ω' h => ⟨by rw [h.2.1, h.2.2]; exact cX_0 hC (by rw [e]), rfl, Nat.le_of_ble_eq_true rfl, Nat.le_of_ble_eq_true rfl⟩)
    skip
    exact absurd hp.1 hin
def sheetP (A : Ab) (i h : Int) : Int × Int × Ab := if ¬ (inB A.1 i ∧ 0 ≤ h ∧ h < (bkA A i).2.2.1 / 2) then (1, 0, A) else if (bkA A i).2.2.1 % 2 ≠ 0 ∨ h ∈ (bkA A i).2.2.2.2.2 ∨ (bkA A i).2.2.1 - 1 - h ∈ (bkA A i).2.2.2.2.2 ∨ 58 < (bkA A i).2.2.2.2.2.length then (0, -1, refA A 1) else (0, (((bkA A i).2.2.2.2.2.length + 2 : Nat) : Int), tornA A i.toNat [h, (bkA A i).2.2.1 - 1 - h] (i, h, (bkA A i).2.2.1 - 1 - h))
set_option maxRecDepth 100000 in
set_option maxHeartbeats 4000000 in
theorem c_xSheet {κ : Kx} (hκ : KOK κ) {d s : Nat} {K i l : Int} {A : Ab} {G : Wd} (hC : RC G s A) (hI : Inv K A) (hR : aR G) (hi : R32 i) (hl : R32 l) (hd : 20 ≤ d) : Ct κ MX11_sheet d 16 128 [VR 1, VI i, VI l] (Wm G) (cP G (sheetP A i l).2.2 ((sheetP A i l).1 = 0) (some (VI (sheetP A i l).2.1))) (cX G A ((sheetP A i l).1 = 1) NSE) := by
  refine Ct_of hκ kX11_sheet.1 rfl (Nat.le_of_ble_eq_true rfl) (ls := [some (VR 1), some (VI i), some (VI l), none, none]) rfl (fun μ => ?_)
  have hN := RC_N hC hI.1 hR
  by_cases hin0 : inB A.1 i
  · obtain ⟨j, hj⟩ : ∃ j : Nat, i = (j : Int) := ⟨i.toNat, by have := hin0.1; omega⟩
    subst hj
    have hj : j < A.1.1.length := by have := hin0.2; omega
    obtain ⟨hB, hj6, hok, k0, k2, k1, -, kg⟩ := NC_b hN hj
    have hlv := hok.2.2.2.1
    have h60 := hok.2.2.2.2.2.2.2.1
    have hT := (T_lt hI hj).1
    have h114 : G.1 114 3 = (A.2.1.1.length : Nat) := hC.2.2.2.1.1
    have ed : (bkJ A.1 j).2.2.1.tdiv 2 = (bkJ A.1 j).2.2.1 / 2 := td_nn (by omega)
    have em : (bkJ A.1 j).2.2.1.tmod 2 = (bkJ A.1 j).2.2.1 % 2 := tm_nn (by omega)
    have no : ¬ (0 ≤ l ∧ l < (bkJ A.1 j).2.2.1 / 2) → cX G A ((sheetP A (j : Nat) l).1 = 1) NSE NSE (Wm G) := fun q => by
      have e : sheetP A (j : Nat) l = (1, 0, A) := by unfold sheetP; rw [if_pos (fun h => q h.2)]
      exact cX_0 hC (by rw [e])
    by_cases hin : 0 ≤ l ∧ l < (bkJ A.1 j).2.2.1 / 2
    · have hH := c_has (κ := κ) hκ (d := 3) (leaf := l) (G := G) hB.2.2.1 hl
      rw [kg.2 l] at hH
      have hoR : R32 ((bkJ A.1 j).2.2.1 - 1 - l) := by unfold R32; omega
      have hH2 := c_has (κ := κ) hκ (d := 3) (leaf := (bkJ A.1 j).2.2.1 - 1 - l) (G := G) hB.2.2.1 hoR
      rw [kg.2] at hH2
      have hSz := c_size (κ := κ) hκ (d := 3) (G := G) hB.2.2.1
      rw [kg.1] at hSz
      have rf : (bkJ A.1 j).2.2.1 % 2 ≠ 0 ∨ l ∈ (bkJ A.1 j).2.2.2.2.2 ∨ (bkJ A.1 j).2.2.1 - 1 - l ∈ (bkJ A.1 j).2.2.2.2.2 ∨ 58 < (bkJ A.1 j).2.2.2.2.2.length → cP G (sheetP A (j : Nat) l).2.2 ((sheetP A (j : Nat) l).1 = 0) (some (VI (sheetP A (j : Nat) l).2.1)) (some (VI (-1))) (Wm (uI G 120 1 (G.1 120 1 + 1))) := fun q => by
        have e : sheetP A (j : Nat) l = (0, -1, refA A 1) := by unfold sheetP; rw [if_neg (fun h => h ⟨hin0, hin⟩)]; exact if_pos q
        rw [e]
        exact ⟨rfl, rfl, _, s, rfl, RC_ref hC hI (by omega), FrC.u G _ (by omega)⟩
      refine V_ex sX11_sheet_0 (by rfl) (by first | exact trivial | exact Or.inr rfl | exact Or.inl rfl | (simp only [ob, obA, R32, R64] at *; omega) | (simp only [ob, obA, R32, R64] at *; and_intros <;> omega)) ?_
      refine V_callV (M := MX11_sheet) (N := MX11_needBook) dX11_sheet_2 lRX11_154 kX11_needBook rfl (rfl) rfl (c_nBook (d := 6) hκ hN hi (by omega)) rfl rfl (Nat.le_of_ble_eq_true rfl) (fit_rm (by omega)) (⟨Nat.le_of_ble_eq_true rfl, Nat.le_of_ble_eq_true rfl⟩) (fun v Ω' hp => ?_) (fun E Ω' h => absurd hin0 h.1)
      obtain ⟨-, rfl, rfl⟩ := hp
      rw [Int.toNat_natCast]
      refine V_ex sX11_sheet_5 (by rfl) (by first | exact trivial | exact Or.inr rfl | exact Or.inl rfl | (simp only [ob, obA, R32, R64] at *; omega) | (simp only [ob, obA, R32, R64] at *; and_intros <;> omega)) ?_
      refine V_iflt dX11_sheet_7 (tgt := 20) (by decide) (by simp only [R32, R64] at *; omega) (fun q7 => ?_) (fun q7 => ?_)
      · omega
      · refine V_ex sX11_sheet_10 (by simp only [Option.toList, List.cons_append, List.nil_append, exN, ex1, gI, gL, gR, pI, pL, pR, lget, lset1, lset2, kl, b2I, b2L, nob, ob32, ob64, xGet, xPut, xLen, xLd, xLdR, xSt, obA, true_and, and_true, and_self, eq_self, Nat.reduceEqDiff, Nat.zero_ne_one, reduceIte, Nat.reduceLeDiff, and_false, false_and, show skd 0 1 = 0 from rfl, hB.1, hB.2.1, k1, ed, em, upd2_eq, Int.reduceToNat, Int.toNat_natCast]; rfl) (by first | exact trivial | exact Or.inr rfl | exact Or.inl rfl | (simp only [ob, obA, R32, R64] at *; omega) | (simp only [ob, obA, R32, R64] at *; and_intros <;> omega)) ?_
        refine V_icmplt dX11_sheet_17 (tgt := 31) (by decide) (by simp only [R32, R64] at *; omega) (fun q17 => ?_) (fun q17 => ?_)
        · refine V_ex sX11_sheet_31 (by simp only [Option.toList, List.cons_append, List.nil_append, exN, ex1, gI, gL, gR, pI, pL, pR, lget, lset1, lset2, kl, b2I, b2L, nob, ob32, ob64, xGet, xPut, xLen, xLd, xLdR, xSt, obA, true_and, and_true, and_self, eq_self, Nat.reduceEqDiff, Nat.zero_ne_one, reduceIte, Nat.reduceLeDiff, and_false, false_and, show skd 0 1 = 0 from rfl, hB.1, hB.2.1, k1, ed, em, upd2_eq, Int.reduceToNat, Int.toNat_natCast]; rfl) (by first | exact trivial | exact Or.inr rfl | exact Or.inl rfl | (simp only [ob, obA, R32, R64] at *; omega) | (simp only [ob, obA, R32, R64] at *; and_intros <;> omega)) ?_
          refine V_ifne dX11_sheet_47 (tgt := 85) (by decide) (by simp only [R32, R64] at *; omega) (fun q47 => ?_) (fun q47 => ?_)
          · refine V_ex sX11_sheet_85 (by simp only [Option.toList, List.cons_append, List.nil_append, exN, ex1, gI, gL, gR, pI, pL, pR, lget, lset1, lset2, kl, b2I, b2L, nob, ob32, ob64, xGet, xPut, xLen, xLd, xLdR, xSt, obA, true_and, and_true, and_self, eq_self, Nat.reduceEqDiff, Nat.zero_ne_one, reduceIte, Nat.reduceLeDiff, and_false, false_and, show skd 10 6 = 2 from rfl, show LF.1 1 = some (.inl 10) from rfl, show LF.2 1 6 = some 114 from rfl, hB.1, hB.2.1, k1, ed, em, upd2_eq, Int.reduceToNat, Int.toNat_natCast]; rfl) (by first | exact trivial | exact Or.inr rfl | exact Or.inl rfl | (simp only [ob, obA, R32, R64] at *; omega) | (simp only [ob, obA, R32, R64] at *; and_intros <;> omega)) ?_
            refine V_callV (M := MX11_sheet) (N := MX2_refuse) dX11_sheet_90 lRX11_106 kX2_refuse rfl (rfl) rfl (c_refuse (d := 3) hκ (e := 114) (w := 1) (Or.inl rfl) (by omega) (by omega)) rfl rfl (Nat.le_of_ble_eq_true rfl) (fit_rm (by omega)) (⟨Nat.le_of_ble_eq_true rfl, Nat.le_of_ble_eq_true rfl⟩) (fun v Ω' hp => ?_) (fun _ _ h => h.elim)
            obtain ⟨rfl, rfl⟩ := hp
            refine V_iret dX11_sheet_93 rfl (by decide) (rf (Or.inl q47))
          · refine V_ex sX11_sheet_50 (by simp only [Option.toList, List.cons_append, List.nil_append, exN, ex1, gI, gL, gR, pI, pL, pR, lget, lset1, lset2, kl, b2I, b2L, nob, ob32, ob64, xGet, xPut, xLen, xLd, xLdR, xSt, obA, true_and, and_true, and_self, eq_self, Nat.reduceEqDiff, Nat.zero_ne_one, reduceIte, Nat.reduceLeDiff, and_false, false_and, show skd 0 5 = 2 from rfl, hB.1, hB.2.1, k1, ed, em, upd2_eq, Int.reduceToNat, Int.toNat_natCast]; rfl) (by first | exact trivial | exact Or.inr rfl | exact Or.inl rfl | (simp only [ob, obA, R32, R64] at *; omega) | (simp only [ob, obA, R32, R64] at *; and_intros <;> omega)) ?_
            refine V_callV (M := MX11_sheet) (N := MX5_has) dX11_sheet_55 lRX11_202 kX5_has rfl (hB.2.2.1.1) rfl (hH) rfl rfl (Nat.le_of_ble_eq_true rfl) (fit_rm (by omega)) (⟨Nat.le_of_ble_eq_true rfl, Nat.le_of_ble_eq_true rfl⟩) (fun v Ω' hp => ?_) (fun _ _ h => h.elim)
            obtain ⟨rfl, rfl⟩ := hp
            refine V_ifneB dX11_sheet_58 (tgt := 85) (by decide) (fun q58 => ?_) (fun q58 => ?_)
            · refine V_ex sX11_sheet_85 (by simp only [Option.toList, List.cons_append, List.nil_append, exN, ex1, gI, gL, gR, pI, pL, pR, lget, lset1, lset2, kl, b2I, b2L, nob, ob32, ob64, xGet, xPut, xLen, xLd, xLdR, xSt, obA, true_and, and_true, and_self, eq_self, Nat.reduceEqDiff, Nat.zero_ne_one, reduceIte, Nat.reduceLeDiff, and_false, false_and, show skd 10 6 = 2 from rfl, show LF.1 1 = some (.inl 10) from rfl, show LF.2 1 6 = some 114 from rfl, hB.1, hB.2.1, k1, ed, em, upd2_eq, Int.reduceToNat, Int.toNat_natCast]; rfl) (by first | exact trivial | exact Or.inr rfl | exact Or.inl rfl | (simp only [ob, obA, R32, R64] at *; omega) | (simp only [ob, obA, R32, R64] at *; and_intros <;> omega)) ?_
              refine V_callV (M := MX11_sheet) (N := MX2_refuse) dX11_sheet_90 lRX11_106 kX2_refuse rfl (rfl) rfl (c_refuse (d := 3) hκ (e := 114) (w := 1) (Or.inl rfl) (by omega) (by omega)) rfl rfl (Nat.le_of_ble_eq_true rfl) (fit_rm (by omega)) (⟨Nat.le_of_ble_eq_true rfl, Nat.le_of_ble_eq_true rfl⟩) (fun v Ω' hp => ?_) (fun _ _ h => h.elim)
              obtain ⟨rfl, rfl⟩ := hp
              refine V_iret dX11_sheet_93 rfl (by decide) (rf (Or.inr (Or.inl (of_decide_eq_true q58))))
            · refine V_ex sX11_sheet_61 (by simp only [Option.toList, List.cons_append, List.nil_append, exN, ex1, gI, gL, gR, pI, pL, pR, lget, lset1, lset2, kl, b2I, b2L, nob, ob32, ob64, xGet, xPut, xLen, xLd, xLdR, xSt, obA, true_and, and_true, and_self, eq_self, Nat.reduceEqDiff, Nat.zero_ne_one, reduceIte, Nat.reduceLeDiff, and_false, false_and, show skd 0 5 = 2 from rfl, hB.1, hB.2.1, k1, ed, em, upd2_eq, Int.reduceToNat, Int.toNat_natCast]; rfl) (by first | exact trivial | exact Or.inr rfl | exact Or.inl rfl | (simp only [ob, obA, R32, R64] at *; omega) | (simp only [ob, obA, R32, R64] at *; and_intros <;> omega)) ?_
              refine V_callV (M := MX11_sheet) (N := MX5_has) dX11_sheet_67 lRX11_202 kX5_has rfl (hB.2.2.1.1) rfl (hH2) rfl rfl (Nat.le_of_ble_eq_true rfl) (fit_rm (by omega)) (⟨Nat.le_of_ble_eq_true rfl, Nat.le_of_ble_eq_true rfl⟩) (fun v Ω' hp => ?_) (fun _ _ h => h.elim)
              obtain ⟨rfl, rfl⟩ := hp
              refine V_ifneB dX11_sheet_70 (tgt := 85) (by decide) (fun q70 => ?_) (fun q70 => ?_)
              · refine V_ex sX11_sheet_85 (by simp only [Option.toList, List.cons_append, List.nil_append, exN, ex1, gI, gL, gR, pI, pL, pR, lget, lset1, lset2, kl, b2I, b2L, nob, ob32, ob64, xGet, xPut, xLen, xLd, xLdR, xSt, obA, true_and, and_true, and_self, eq_self, Nat.reduceEqDiff, Nat.zero_ne_one, reduceIte, Nat.reduceLeDiff, and_false, false_and, show skd 10 6 = 2 from rfl, show LF.1 1 = some (.inl 10) from rfl, show LF.2 1 6 = some 114 from rfl, hB.1, hB.2.1, k1, ed, em, upd2_eq, Int.reduceToNat, Int.toNat_natCast]; rfl) (by first | exact trivial | exact Or.inr rfl | exact Or.inl rfl | (simp only [ob, obA, R32, R64] at *; omega) | (simp only [ob, obA, R32, R64] at *; and_intros <;> omega)) ?_
                refine V_callV (M := MX11_sheet) (N := MX2_refuse) dX11_sheet_90 lRX11_106 kX2_refuse rfl (rfl) rfl (c_refuse (d := 3) hκ (e := 114) (w := 1) (Or.inl rfl) (by omega) (by omega)) rfl rfl (Nat.le_of_ble_eq_true rfl) (fit_rm (by omega)) (⟨Nat.le_of_ble_eq_true rfl, Nat.le_of_ble_eq_true rfl⟩) (fun v Ω' hp => ?_) (fun _ _ h => h.elim)
                obtain ⟨rfl, rfl⟩ := hp
                refine V_iret dX11_sheet_93 rfl (by decide) (rf (Or.inr (Or.inr (Or.inl (of_decide_eq_true q70)))))
              · refine V_ex sX11_sheet_73 (by simp only [Option.toList, List.cons_append, List.nil_append, exN, ex1, gI, gL, gR, pI, pL, pR, lget, lset1, lset2, kl, b2I, b2L, nob, ob32, ob64, xGet, xPut, xLen, xLd, xLdR, xSt, obA, true_and, and_true, and_self, eq_self, Nat.reduceEqDiff, Nat.zero_ne_one, reduceIte, Nat.reduceLeDiff, and_false, false_and, show skd 0 5 = 2 from rfl, hB.1, hB.2.1, k1, ed, em, upd2_eq, Int.reduceToNat, Int.toNat_natCast]; rfl) (by first | exact trivial | exact Or.inr rfl | exact Or.inl rfl | (simp only [ob, obA, R32, R64] at *; omega) | (simp only [ob, obA, R32, R64] at *; and_intros <;> omega)) ?_
                refine V_callV (M := MX11_sheet) (N := MX5_size) dX11_sheet_77 lRX11_188 kX5_size rfl (hB.2.2.1.1) rfl (hSz) rfl rfl (Nat.le_of_ble_eq_true rfl) (fit_rm (by omega)) (⟨Nat.le_of_ble_eq_true rfl, Nat.le_of_ble_eq_true rfl⟩) (fun v Ω' hp => ?_) (fun _ _ h => h.elim)
                obtain ⟨rfl, rfl⟩ := hp
                refine V_ex sX11_sheet_80 (by rfl) (by first | exact trivial | exact Or.inr rfl | exact Or.inl rfl | (simp only [ob, obA, R32, R64] at *; omega) | (simp only [ob, obA, R32, R64] at *; and_intros <;> omega)) ?_
                refine V_icmple dX11_sheet_82 (tgt := 94) (by decide) (by simp only [R32, R64] at *; omega) (fun q82 => ?_) (fun q82 => ?_)
                · refine V_ex sX11_sheet_94 (by rfl) (by first | exact trivial | exact Or.inr rfl | exact Or.inl rfl | (simp only [ob, obA, R32, R64] at *; omega) | (simp only [ob, obA, R32, R64] at *; and_intros <;> omega)) ?_
                  refine V_callV (M := MX11_sheet) (N := MX11_tearOut) dX11_sheet_100 lRX11_254 kX11_tearOut rfl (rfl) rfl (c_tearO (d := 5) hκ hN hj hl hoR (by rw [h114]; omega) (by omega)) rfl rfl (Nat.le_of_ble_eq_true rfl) (fit_rm (by omega)) (⟨Nat.le_of_ble_eq_true rfl, Nat.le_of_ble_eq_true rfl⟩) (fun v Ω' hp => ?_) (fun _ _ h => h.elim)
                  obtain ⟨rfl, rfl⟩ := hp
                  have hln : l ∉ (bkJ A.1 j).2.2.2.2.2 := of_decide_eq_false q58
                  have hon : (bkJ A.1 j).2.2.1 - 1 - l ∉ (bkJ A.1 j).2.2.2.2.2 := of_decide_eq_false q70
                  have hC1 := RC_torn (i := (j : Int)) (z := l) (o := (bkJ A.1 j).2.2.1 - 1 - l) hC hI hj (by omega) hln (Or.inr ⟨by omega, hon, by omega⟩)
                  rw [if_neg (by omega)] at hC1
                  have hFr := FrC.ntw G hC.1.2.2 hj6 (j : Int) l ((bkJ A.1 j).2.2.1 - 1 - l)
                  have hgl := gone_len hC1 hj
                  generalize ntW (twW G (s + 7 + 5 * j + 1) l ((bkJ A.1 j).2.2.1 - 1 - l)) (j : Int) l ((bkJ A.1 j).2.2.1 - 1 - l) = G1 at *
                  have hSz1 := c_size (κ := κ) hκ (d := 3) (G := G1) hB.2.2.1
                  rw [hgl] at hSz1
                  refine V_ex sX11_sheet_103 (by simp only [Option.toList, List.cons_append, List.nil_append, exN, ex1, gI, gL, gR, pI, pL, pR, lget, lset1, lset2, kl, b2I, b2L, nob, ob32, ob64, xGet, xPut, xLen, xLd, xLdR, xSt, obA, true_and, and_true, and_self, eq_self, Nat.reduceEqDiff, Nat.zero_ne_one, reduceIte, Nat.reduceLeDiff, and_false, false_and, show skd 0 5 = 2 from rfl, hB.1, hB.2.1, k1, ed, em, upd2_eq, Int.reduceToNat, Int.toNat_natCast]; rfl) (by first | exact trivial | exact Or.inr rfl | exact Or.inl rfl | (simp only [ob, obA, R32, R64] at *; omega) | (simp only [ob, obA, R32, R64] at *; and_intros <;> omega)) ?_
                  refine V_callV (M := MX11_sheet) (N := MX5_size) dX11_sheet_107 lRX11_188 kX5_size rfl (hB.2.2.1.1) rfl (hSz1) rfl rfl (Nat.le_of_ble_eq_true rfl) (fit_rm (by omega)) (⟨Nat.le_of_ble_eq_true rfl, Nat.le_of_ble_eq_true rfl⟩) (fun v Ω' hp => ?_) (fun _ _ h => h.elim)
                  obtain ⟨rfl, rfl⟩ := hp
                  refine V_iret dX11_sheet_110 rfl (by decide) ?_
                  have e : sheetP A (j : Nat) l = (0, (((bkJ A.1 j).2.2.2.2.2.length + 2 : Nat) : Int), tornA A j [l, (bkJ A.1 j).2.2.1 - 1 - l] ((j : Int), l, (bkJ A.1 j).2.2.1 - 1 - l)) := by unfold sheetP; rw [if_neg (fun h => h ⟨hin0, hin⟩)]; exact if_neg (fun q => by rcases q with q | q | q | q; exact q q47; exact hln q; exact hon q; (have q : 58 < (bkJ A.1 j).2.2.2.2.2.length := q); omega)
                  rw [e]
                  exact ⟨rfl, rfl, G1, s, rfl, hC1, hFr⟩
                · refine V_ex sX11_sheet_85 (by simp only [Option.toList, List.cons_append, List.nil_append, exN, ex1, gI, gL, gR, pI, pL, pR, lget, lset1, lset2, kl, b2I, b2L, nob, ob32, ob64, xGet, xPut, xLen, xLd, xLdR, xSt, obA, true_and, and_true, and_self, eq_self, Nat.reduceEqDiff, Nat.zero_ne_one, reduceIte, Nat.reduceLeDiff, and_false, false_and, show skd 10 6 = 2 from rfl, show LF.1 1 = some (.inl 10) from rfl, show LF.2 1 6 = some 114 from rfl, hB.1, hB.2.1, k1, ed, em, upd2_eq, Int.reduceToNat, Int.toNat_natCast]; rfl) (by first | exact trivial | exact Or.inr rfl | exact Or.inl rfl | (simp only [ob, obA, R32, R64] at *; omega) | (simp only [ob, obA, R32, R64] at *; and_intros <;> omega)) ?_
                  refine V_callV (M := MX11_sheet) (N := MX2_refuse) dX11_sheet_90 lRX11_106 kX2_refuse rfl (rfl) rfl (c_refuse (d := 3) hκ (e := 114) (w := 1) (Or.inl rfl) (by omega) (by omega)) rfl rfl (Nat.le_of_ble_eq_true rfl) (fit_rm (by omega)) (⟨Nat.le_of_ble_eq_true rfl, Nat.le_of_ble_eq_true rfl⟩) (fun v Ω' hp => ?_) (fun _ _ h => h.elim)
                  obtain ⟨rfl, rfl⟩ := hp
                  refine V_iret dX11_sheet_93 rfl (by decide) (rf (Or.inr (Or.inr (Or.inr (by omega)))))
        · omega
    · refine V_ex sX11_sheet_0 (by rfl) (by first | exact trivial | exact Or.inr rfl | exact Or.inl rfl | (simp only [ob, obA, R32, R64] at *; omega) | (simp only [ob, obA, R32, R64] at *; and_intros <;> omega)) ?_
      refine V_callV (M := MX11_sheet) (N := MX11_needBook) dX11_sheet_2 lRX11_154 kX11_needBook rfl (rfl) rfl (c_nBook (d := 6) hκ hN hi (by omega)) rfl rfl (Nat.le_of_ble_eq_true rfl) (fit_rm (by omega)) (⟨Nat.le_of_ble_eq_true rfl, Nat.le_of_ble_eq_true rfl⟩) (fun v Ω' hp => ?_) (fun E Ω' h => absurd hin0 h.1)
      obtain ⟨-, rfl, rfl⟩ := hp
      rw [Int.toNat_natCast]
      refine V_ex sX11_sheet_5 (by rfl) (by first | exact trivial | exact Or.inr rfl | exact Or.inl rfl | (simp only [ob, obA, R32, R64] at *; omega) | (simp only [ob, obA, R32, R64] at *; and_intros <;> omega)) ?_
      refine V_iflt dX11_sheet_7 (tgt := 20) (by decide) (by simp only [R32, R64] at *; omega) (fun q7 => ?_) (fun q7 => ?_)
      · refine V_throwW (M := MX11_sheet) (is := 265) (text := "no such sheet") tC_nse (by decide +kernel) dX11_sheet_20 (by decide +kernel) dX11_sheet_24 dX11_sheet_27 dX11_sheet_30 rfl (Nat.le_of_ble_eq_true rfl) ⟨by show 6 ≤ d; omega, by show 100 ≤ 100 + 40 * d; omega⟩ ⟨Nat.le_of_ble_eq_true rfl, Nat.le_of_ble_eq_true rfl⟩ ⟨Nat.le_of_ble_eq_true rfl, Nat.le_of_ble_eq_true rfl⟩ (no hin)
      · refine V_ex sX11_sheet_10 (by simp only [Option.toList, List.cons_append, List.nil_append, exN, ex1, gI, gL, gR, pI, pL, pR, lget, lset1, lset2, kl, b2I, b2L, nob, ob32, ob64, xGet, xPut, xLen, xLd, xLdR, xSt, obA, true_and, and_true, and_self, eq_self, Nat.reduceEqDiff, Nat.zero_ne_one, reduceIte, Nat.reduceLeDiff, and_false, false_and, show skd 0 1 = 0 from rfl, hB.1, hB.2.1, k1, ed, em, upd2_eq, Int.reduceToNat, Int.toNat_natCast]; rfl) (by first | exact trivial | exact Or.inr rfl | exact Or.inl rfl | (simp only [ob, obA, R32, R64] at *; omega) | (simp only [ob, obA, R32, R64] at *; and_intros <;> omega)) ?_
        refine V_icmplt dX11_sheet_17 (tgt := 31) (by decide) (by simp only [R32, R64] at *; omega) (fun q17 => ?_) (fun q17 => ?_)
        · omega
        · refine V_throwW (M := MX11_sheet) (is := 265) (text := "no such sheet") tC_nse (by decide +kernel) dX11_sheet_20 (by decide +kernel) dX11_sheet_24 dX11_sheet_27 dX11_sheet_30 rfl (Nat.le_of_ble_eq_true rfl) ⟨by show 6 ≤ d; omega, by show 100 ≤ 100 + 40 * d; omega⟩ ⟨Nat.le_of_ble_eq_true rfl, Nat.le_of_ble_eq_true rfl⟩ ⟨Nat.le_of_ble_eq_true rfl, Nat.le_of_ble_eq_true rfl⟩ (no hin)
  · have e : sheetP A i l = (1, 0, A) := by unfold sheetP; rw [if_pos (fun h => hin0 h.1)]
    refine V_ex sX11_sheet_0 (by rfl) (by first | exact trivial | exact Or.inr rfl | exact Or.inl rfl | (simp only [ob, obA, R32, R64] at *; omega) | (simp only [ob, obA, R32, R64] at *; and_intros <;> omega)) ?_
    refine V_callV (M := MX11_sheet) (N := MX11_needBook) dX11_sheet_2 lRX11_154 kX11_needBook rfl (rfl) rfl (c_nBook (d := 6) hκ hN hi (by omega)) rfl rfl (Nat.le_of_ble_eq_true rfl) (fit_rm (by omega)) (⟨Nat.le_of_ble_eq_true rfl, Nat.le_of_ble_eq_true rfl⟩) (fun v Ω' hp => ?_) (fun E Ω' h => ⟨by rw [h.2.1, h.2.2]; exact cX_0 hC (by rw [e]), rfl, Nat.le_of_ble_eq_true rfl, Nat.le_of_ble_eq_true rfl⟩)
    skip
    exact absurd hp.1 hin0
