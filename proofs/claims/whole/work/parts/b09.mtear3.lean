/-! THE MODEL: tear, sheet as calls -/
theorem RM_0 {G : Wd} {A : Ab} (h : RM G A) (z : Int) : RM (uI G 145 2 z) A := (RM_f h (fn0 G z)).1
theorem md_z {G G' : Wd} {A : Ab} {v u : Option Vl} {code : Int} (h : RM G' A) (f : FZm G G') (e : u = v) (c : G'.1 145 2 = code) : mdP G A v code u (Wm G') := ⟨e, G', rfl, h, f.f, c⟩
theorem fz0 (G : Wd) (z : Int) : FZm G (uI G 145 2 z) := (FZm.refl G).u (by omega)
theorem md_ref {G G1 : Wd} {A : Ab} {K : Int} {k : Nat} {v u : Option Vl} (h : RM G1 A) (hI : Inv K A) (hk : k < 4) (f : FZm G G1) (e : u = v) (c : G1.1 145 2 = 0) : mdP G (refA A k) v 0 u (Wm (uI G1 161 k (G1.1 161 k + 1))) := md_z (RM_ref h hI hk) (f.u (by omega)) e (by rw [iv (by omega)]; exact c)
set_option maxRecDepth 100000 in
set_option maxHeartbeats 4000000 in
theorem c_mxTear {κ : Kx} (hκ : KOK κ) {d : Nat} {K i l : Int} {A : Ab} {G : Wd} (hC : RM G A) (hI : Inv K A) (hi : R32 i) (hl : R32 l) (hd : 20 ≤ d) : Ct κ MX12_tear d 0 0 [VR 145, VI i, VI l] (Wm G) (mdP G (tearP A i l).2.2 (some (VI (tearP A i l).2.1)) (tearP A i l).1) noX := by
  refine Ct_of hκ kX12_tear.1 rfl (Nat.le_of_ble_eq_true rfl) (ls := [some (VR 145), some (VI i), some (VI l)]) rfl (fun μ => ?_)
  have hC1 := RM_0 hC 0
  have hl64 := r32_64 hl
  by_cases hin : inB A.1 i
  · obtain ⟨j, hj⟩ : ∃ j : Nat, i = (j : Int) := ⟨i.toNat, by have := hin.1; omega⟩
    subst hj
    have hj : j < A.1.1.length := by have := hin.2; omega
    obtain ⟨m1, m2, m3, m4, m5, m6⟩ := mS0_b hC.1 hj
    obtain ⟨g1, g2, g3, g4, g5⟩ := gone_ok hI.1 hj
    have hj6 : j < 6 := by have := hI.1.1; omega
    have hTl := (T_lt hI hj).2
    have en : ¬ (0 ≤ l ∧ l ≤ (bkJ A.1 j).2.2.1 - 1) → tearP A (j : Nat) l = (1, 0, A) := fun h => by unfold tearP; rw [if_pos (fun q => h ⟨q.2.1, by have h3 : l < (bkJ A.1 j).2.2.1 := q.2.2; omega⟩)]
    have er : (0 ≤ l ∧ l ≤ (bkJ A.1 j).2.2.1 - 1) → (l ∈ (bkJ A.1 j).2.2.2.2.2 ∨ 60 ≤ (bkJ A.1 j).2.2.2.2.2.length) → tearP A (j : Nat) l = (0, -1, refA A 1) := fun h h2 => by unfold tearP; rw [if_neg (fun q => q ⟨hin, h.1, by show l < (bkJ A.1 j).2.2.1; omega⟩)]; exact if_pos h2
    have ey : (0 ≤ l ∧ l ≤ (bkJ A.1 j).2.2.1 - 1) → ¬ (l ∈ (bkJ A.1 j).2.2.2.2.2 ∨ 60 ≤ (bkJ A.1 j).2.2.2.2.2.length) → tearP A (j : Nat) l = (0, (((bkJ A.1 j).2.2.2.2.2.length + 1 : Nat) : Int), tornA A j [l] ((j : Int), l, -1)) := fun h h2 => by unfold tearP; rw [if_neg (fun q => q ⟨hin, h.1, by show l < (bkJ A.1 j).2.2.1; omega⟩)]; exact if_neg h2
    have h34 : (uI G 145 2 0).1 145 34 = ((flT A.2.1.1).length : Nat) := hC1.2.1.1
    have m5' : (uI G 145 2 0).1 152 j = ((bkJ A.1 j).2.2.2.2.2.length : Nat) := (mS0_b hC1.1 hj).2.2.2.2.1
    refine V_ex sX12_tear_0 (by simp only [Option.toList, List.cons_append, List.nil_append, exN, ex1, gI, gL, gR, pI, pL, pR, lget, lset1, lset2, kl, b2I, b2L, nob, ob32, ob64, xGet, xPut, xLen, xLd, xLdR, xSt, obA, true_and, and_true, and_self, eq_self, Nat.reduceEqDiff, Nat.zero_ne_one, reduceIte, Nat.reduceLeDiff, and_false, false_and, show skd 11 2 = 0 from rfl, show LF.1 145 = some (.inl 11) from rfl, upd2_eq, Int.reduceToNat, Int.toNat_natCast]; rfl) (by first | exact trivial | exact Or.inr rfl | exact Or.inl rfl | (simp only [ob, obA, R32, R64] at *; omega) | (simp only [ob, obA, R32, R64] at *; and_intros <;> omega) | (simp [ob, obA])) ?_
    refine V_callV (M := MX12_tear) (N := MX12_isBook) dX12_tear_7 lRX12_386 kX12_isBook rfl (rfl) rfl (c_mIsBook (d := 2) hκ hC1.1 hI.1 hi (by omega)) rfl rfl (Nat.le_of_ble_eq_true rfl) (fit_rm (by omega)) (⟨Nat.le_of_ble_eq_true rfl, Nat.le_of_ble_eq_true rfl⟩) (fun v Ω' hp => ?_) (fun _ _ h => h.elim)
    obtain ⟨rfl, rfl⟩ := hp
    refine V_ifeqB dX12_tear_10 (tgt := 31) (by decide) (fun q10 => ?_) (fun q10 => ?_)
    · exact absurd hin (of_decide_eq_false q10)
    · refine V_ex sX12_tear_13 (by simp only [Option.toList, List.cons_append, List.nil_append, exN, ex1, gI, gL, gR, pI, pL, pR, lget, lset1, lset2, kl, b2I, b2L, nob, ob32, ob64, xGet, xPut, xLen, xLd, xLdR, xSt, obA, true_and, and_true, and_self, eq_self, Nat.reduceEqDiff, Nat.zero_ne_one, reduceIte, Nat.reduceLeDiff, and_false, false_and, show skd 11 6 = 2 from rfl, show LF.1 145 = some (.inl 11) from rfl, show LF.2 145 6 = some 151 from rfl, show LF.1 151 = some (.inr (0, 12)) from rfl, asn (show 151 ≠ 145 by decide), m3, Int.toNat_natCast, upd2_eq, Int.reduceToNat, Int.toNat_natCast]; rfl) (by first | exact trivial | exact Or.inr rfl | exact Or.inl rfl | (simp only [ob, obA, R32, R64] at *; omega) | (simp only [ob, obA, R32, R64] at *; and_intros <;> omega) | (simp [ob, obA])) ?_
      refine V_callS (M := MX12_tear) (N := MX12_isIn) dX12_tear_25 lRX12_178 kX12_isIn rfl (c_misIn (d := 2) hκ hl64 (by unfold R64; omega) (by unfold R64; omega)) rfl rfl (Nat.le_of_ble_eq_true rfl) (fit_rm (by omega)) (⟨Nat.le_of_ble_eq_true rfl, Nat.le_of_ble_eq_true rfl⟩) (fun v Ω' hp => ?_) (fun _ _ h => h.elim)
      obtain ⟨rfl, rfl⟩ := hp
      refine V_ifneB dX12_tear_28 (tgt := 37) (by decide) (fun q28 => ?_) (fun q28 => ?_)
      · refine V_ex sX12_tear_37 (by rfl) (by first | exact trivial | exact Or.inr rfl | exact Or.inl rfl | (simp only [ob, obA, R32, R64] at *; omega) | (simp only [ob, obA, R32, R64] at *; and_intros <;> omega) | (simp [ob, obA])) ?_
        refine V_callV (M := MX12_tear) (N := MX12_isOut) dX12_tear_40 lRX12_389 kX12_isOut rfl (rfl) rfl (c_mIsOut (d := 2) hκ hC1.1 hI.1 hj hl (by omega)) rfl rfl (Nat.le_of_ble_eq_true rfl) (fit_rm (by omega)) (⟨Nat.le_of_ble_eq_true rfl, Nat.le_of_ble_eq_true rfl⟩) (fun v Ω' hp => ?_) (fun _ _ h => h.elim)
        obtain ⟨rfl, rfl⟩ := hp
        refine V_ifneB dX12_tear_43 (tgt := 57) (by decide) (fun q43 => ?_) (fun q43 => ?_)
        · refine V_ex sX12_tear_57 (by rfl) (by first | exact trivial | exact Or.inr rfl | exact Or.inl rfl | (simp only [ob, obA, R32, R64] at *; omega) | (simp only [ob, obA, R32, R64] at *; and_intros <;> omega) | (simp [ob, obA])) ?_
          refine V_callV (M := MX12_tear) (N := MX12_refuse) dX12_tear_59 lRX12_404 kX12_refuse rfl (rfl) rfl (c_mRefuse (d := 2) (k := 1) hκ (by decide)) rfl rfl (Nat.le_of_ble_eq_true rfl) (fit_rm (by omega)) (⟨Nat.le_of_ble_eq_true rfl, Nat.le_of_ble_eq_true rfl⟩) (fun v Ω' hp => ?_) (fun _ _ h => h.elim)
          obtain ⟨rfl, rfl⟩ := hp
          refine V_iret dX12_tear_62 rfl (by decide) (by rw [er (of_decide_eq_true q28) (Or.inl (of_decide_eq_true q43))]; exact md_ref hC1 hI (by decide) (fz0 G 0) rfl iu)
        · refine V_ex sX12_tear_46 (by simp only [Option.toList, List.cons_append, List.nil_append, exN, ex1, gI, gL, gR, pI, pL, pR, lget, lset1, lset2, kl, b2I, b2L, nob, ob32, ob64, xGet, xPut, xLen, xLd, xLdR, xSt, obA, true_and, and_true, and_self, eq_self, Nat.reduceEqDiff, Nat.zero_ne_one, reduceIte, Nat.reduceLeDiff, and_false, false_and, show skd 11 7 = 2 from rfl, show LF.1 145 = some (.inl 11) from rfl, show LF.2 145 7 = some 152 from rfl, show LF.1 152 = some (.inr (0, 12)) from rfl, asn (show 152 ≠ 145 by decide), m5, Int.toNat_natCast, upd2_eq, Int.reduceToNat, Int.toNat_natCast]; rfl) (by first | exact trivial | exact Or.inr rfl | exact Or.inl rfl | (simp only [ob, obA, R32, R64] at *; omega) | (simp only [ob, obA, R32, R64] at *; and_intros <;> omega) | (simp [ob, obA])) ?_
          refine V_icmpne dX12_tear_54 (tgt := 63) (by decide) (by simp only [R32, R64] at *; omega) (fun q54 => ?_) (fun q54 => ?_)
          · refine V_ex sX12_tear_63 (by rfl) (by first | exact trivial | exact Or.inr rfl | exact Or.inl rfl | (simp only [ob, obA, R32, R64] at *; omega) | (simp only [ob, obA, R32, R64] at *; and_intros <;> omega) | (simp [ob, obA])) ?_
            refine V_callV (M := MX12_tear) (N := MX12_tearOut) dX12_tear_67 lRX12_407 kX12_tearOut rfl (rfl) rfl (c_mTearOut (d := 2) (sec := false) (j := j) (n := (bkJ A.1 j).2.2.2.2.2.length) (t := (flT A.2.1.1).length) (l := l) (G := uI G 145 2 0) hκ hj6 m5' (by omega) h34 (by omega)) rfl rfl (Nat.le_of_ble_eq_true rfl) (fit_rm (by omega)) (⟨Nat.le_of_ble_eq_true rfl, Nat.le_of_ble_eq_true rfl⟩) (fun v Ω' hp => ?_) (fun _ _ h => h.elim)
            obtain ⟨rfl, rfl⟩ := hp
            have hC2 := RM_tw (l := l) hC1 hI hj (by omega)
            have e9 : (toW (uI G 145 2 0) j (bkJ A.1 j).2.2.2.2.2.length (flT A.2.1.1).length l false).1 152 j = ((bkJ A.1 j).2.2.2.2.2.length : Int) + 1 := by rw [tw_152, if_pos rfl]
            have e2 : (toW (uI G 145 2 0) j (bkJ A.1 j).2.2.2.2.2.length (flT A.2.1.1).length l false).1 145 2 = 0 := (tw_5.2.2 145 2 (by omega) (by omega) (by omega) (by omega)).trans iu
            have hfz := (fz0 G 0).trans (tw_fe (uI G 145 2 0) j (bkJ A.1 j).2.2.2.2.2.length (flT A.2.1.1).length l false)
            generalize toW (uI G 145 2 0) j (bkJ A.1 j).2.2.2.2.2.length (flT A.2.1.1).length l false = G2 at *
            refine V_ex sX12_tear_70 (by simp only [Option.toList, List.cons_append, List.nil_append, exN, ex1, gI, gL, gR, pI, pL, pR, lget, lset1, lset2, kl, b2I, b2L, nob, ob32, ob64, xGet, xPut, xLen, xLd, xLdR, xSt, obA, true_and, and_true, and_self, eq_self, Nat.reduceEqDiff, Nat.zero_ne_one, reduceIte, Nat.reduceLeDiff, and_false, false_and, show skd 11 7 = 2 from rfl, show LF.1 145 = some (.inl 11) from rfl, show LF.2 145 7 = some 152 from rfl, show LF.1 152 = some (.inr (0, 12)) from rfl, e9, Int.toNat_natCast, upd2_eq, Int.reduceToNat, Int.toNat_natCast]; rfl) (by first | exact trivial | exact Or.inr rfl | exact Or.inl rfl | (simp only [ob, obA, R32, R64] at *; omega) | (simp only [ob, obA, R32, R64] at *; and_intros <;> omega) | (simp [ob, obA])) ?_
            refine V_iret dX12_tear_76 rfl (by decide) (by rw [ey (of_decide_eq_true q28) (fun q => by rcases q with q | q; exact absurd q (of_decide_eq_false q43); omega)]; exact md_z hC2 hfz (by simp) e2)
          · refine V_ex sX12_tear_57 (by rfl) (by first | exact trivial | exact Or.inr rfl | exact Or.inl rfl | (simp only [ob, obA, R32, R64] at *; omega) | (simp only [ob, obA, R32, R64] at *; and_intros <;> omega) | (simp [ob, obA])) ?_
            refine V_callV (M := MX12_tear) (N := MX12_refuse) dX12_tear_59 lRX12_404 kX12_refuse rfl (rfl) rfl (c_mRefuse (d := 2) (k := 1) hκ (by decide)) rfl rfl (Nat.le_of_ble_eq_true rfl) (fit_rm (by omega)) (⟨Nat.le_of_ble_eq_true rfl, Nat.le_of_ble_eq_true rfl⟩) (fun v Ω' hp => ?_) (fun _ _ h => h.elim)
            obtain ⟨rfl, rfl⟩ := hp
            refine V_iret dX12_tear_62 rfl (by decide) (by rw [er (of_decide_eq_true q28) (Or.inr (by omega))]; exact md_ref hC1 hI (by decide) (fz0 G 0) rfl iu)
      · refine V_ex sX12_tear_31 (by rfl) (by first | exact trivial | exact Or.inr rfl | exact Or.inl rfl | (simp only [ob, obA, R32, R64] at *; omega) | (simp only [ob, obA, R32, R64] at *; and_intros <;> omega) | (simp [ob, obA])) ?_
        refine V_callV (M := MX12_tear) (N := MX12_fail) dX12_tear_33 lRX12_324 kX12_fail rfl (rfl) rfl (c_mfail (d := 2) hκ) rfl rfl (Nat.le_of_ble_eq_true rfl) (fit_rm (by omega)) (⟨Nat.le_of_ble_eq_true rfl, Nat.le_of_ble_eq_true rfl⟩) (fun v Ω' hp => ?_) (fun _ _ h => h.elim)
        obtain ⟨rfl, rfl⟩ := hp
        refine V_iret dX12_tear_36 rfl (by decide) (by rw [en (of_decide_eq_false q28)]; exact md_1 hC rfl rfl)
  · have e : tearP A i l = (1, 0, A) := by unfold tearP; rw [if_pos (fun q => hin q.1)]
    refine V_ex sX12_tear_0 (by simp only [Option.toList, List.cons_append, List.nil_append, exN, ex1, gI, gL, gR, pI, pL, pR, lget, lset1, lset2, kl, b2I, b2L, nob, ob32, ob64, xGet, xPut, xLen, xLd, xLdR, xSt, obA, true_and, and_true, and_self, eq_self, Nat.reduceEqDiff, Nat.zero_ne_one, reduceIte, Nat.reduceLeDiff, and_false, false_and, show skd 11 2 = 0 from rfl, show LF.1 145 = some (.inl 11) from rfl, upd2_eq, Int.reduceToNat, Int.toNat_natCast]; rfl) (by first | exact trivial | exact Or.inr rfl | exact Or.inl rfl | (simp only [ob, obA, R32, R64] at *; omega) | (simp only [ob, obA, R32, R64] at *; and_intros <;> omega) | (simp [ob, obA])) ?_
    refine V_callV (M := MX12_tear) (N := MX12_isBook) dX12_tear_7 lRX12_386 kX12_isBook rfl (rfl) rfl (c_mIsBook (d := 2) hκ hC1.1 hI.1 hi (by omega)) rfl rfl (Nat.le_of_ble_eq_true rfl) (fit_rm (by omega)) (⟨Nat.le_of_ble_eq_true rfl, Nat.le_of_ble_eq_true rfl⟩) (fun v Ω' hp => ?_) (fun _ _ h => h.elim)
    obtain ⟨rfl, rfl⟩ := hp
    refine V_ifeqB dX12_tear_10 (tgt := 31) (by decide) (fun q10 => ?_) (fun q10 => ?_)
    · refine V_ex sX12_tear_31 (by rfl) (by first | exact trivial | exact Or.inr rfl | exact Or.inl rfl | (simp only [ob, obA, R32, R64] at *; omega) | (simp only [ob, obA, R32, R64] at *; and_intros <;> omega) | (simp [ob, obA])) ?_
      refine V_callV (M := MX12_tear) (N := MX12_fail) dX12_tear_33 lRX12_324 kX12_fail rfl (rfl) rfl (c_mfail (d := 2) hκ) rfl rfl (Nat.le_of_ble_eq_true rfl) (fit_rm (by omega)) (⟨Nat.le_of_ble_eq_true rfl, Nat.le_of_ble_eq_true rfl⟩) (fun v Ω' hp => ?_) (fun _ _ h => h.elim)
      obtain ⟨rfl, rfl⟩ := hp
      refine V_iret dX12_tear_36 rfl (by decide) (by rw [e]; exact md_1 hC rfl rfl)
    · exact absurd (of_decide_eq_true q10) hin
set_option maxRecDepth 100000 in
set_option maxHeartbeats 4000000 in
theorem c_mxSheet {κ : Kx} (hκ : KOK κ) {d : Nat} {K i h : Int} {A : Ab} {G : Wd} (hC : RM G A) (hI : Inv K A) (hi : R32 i) (hh : R32 h) (hd : 20 ≤ d) : Ct κ MX12_sheet d 0 0 [VR 145, VI i, VI h] (Wm G) (mdP G (sheetP A i h).2.2 (some (VI (sheetP A i h).2.1)) (sheetP A i h).1) noX := by
  refine Ct_of hκ kX12_sheet.1 rfl (Nat.le_of_ble_eq_true rfl) (ls := [some (VR 145), some (VI i), some (VI h), none]) rfl (fun μ => ?_)
  have hC1 := RM_0 hC 0
  have hh64 := r32_64 hh
  by_cases hin : inB A.1 i
  · obtain ⟨j, hj⟩ : ∃ j : Nat, i = (j : Int) := ⟨i.toNat, by have := hin.1; omega⟩
    subst hj
    have hj : j < A.1.1.length := by have := hin.2; omega
    obtain ⟨m1, m2, m3, m4, m5, m6⟩ := mS0_b hC.1 hj
    obtain ⟨g1, g2, g3, g4, g5⟩ := gone_ok hI.1 hj
    have hj6 : j < 6 := by have := hI.1.1; omega
    have hTl := (T_lt hI hj).2
    have en : ¬ (0 ≤ h ∧ h ≤ (bkJ A.1 j).2.2.1 / 2 - 1) → sheetP A (j : Nat) h = (1, 0, A) := fun hx => by unfold sheetP; rw [if_pos (fun q => hx ⟨q.2.1, by have h3 : h < (bkJ A.1 j).2.2.1 / 2 := q.2.2; omega⟩)]
    have er : (0 ≤ h ∧ h ≤ (bkJ A.1 j).2.2.1 / 2 - 1) → ((bkJ A.1 j).2.2.1 % 2 ≠ 0 ∨ h ∈ (bkJ A.1 j).2.2.2.2.2 ∨ (bkJ A.1 j).2.2.1 - 1 - h ∈ (bkJ A.1 j).2.2.2.2.2 ∨ 58 < (bkJ A.1 j).2.2.2.2.2.length) → sheetP A (j : Nat) h = (0, -1, refA A 1) := fun hx h2 => by unfold sheetP; rw [if_neg (fun q => q ⟨hin, hx.1, by show h < (bkJ A.1 j).2.2.1 / 2; omega⟩)]; exact if_pos h2
    have ey : (0 ≤ h ∧ h ≤ (bkJ A.1 j).2.2.1 / 2 - 1) → ¬ ((bkJ A.1 j).2.2.1 % 2 ≠ 0 ∨ h ∈ (bkJ A.1 j).2.2.2.2.2 ∨ (bkJ A.1 j).2.2.1 - 1 - h ∈ (bkJ A.1 j).2.2.2.2.2 ∨ 58 < (bkJ A.1 j).2.2.2.2.2.length) → sheetP A (j : Nat) h = (0, (((bkJ A.1 j).2.2.2.2.2.length + 2 : Nat) : Int), tornA A j [h, (bkJ A.1 j).2.2.1 - 1 - h] ((j : Int), h, (bkJ A.1 j).2.2.1 - 1 - h)) := fun hx h2 => by unfold sheetP; rw [if_neg (fun q => q ⟨hin, hx.1, by show h < (bkJ A.1 j).2.2.1 / 2; omega⟩)]; exact if_neg h2
    have h34 : (uI G 145 2 0).1 145 34 = ((flT A.2.1.1).length : Nat) := hC1.2.1.1
    have m5' : (uI G 145 2 0).1 152 j = ((bkJ A.1 j).2.2.2.2.2.length : Nat) := (mS0_b hC1.1 hj).2.2.2.2.1
    have hO1 := c_mIsOut (κ := κ) hκ (d := 2) (j := j) (l := (bkJ A.1 j).2.2.1 - 1 - h) (G := uI G 145 2 0) hC1.1 hI.1 hj
    refine V_ex sX12_sheet_0 (by simp only [Option.toList, List.cons_append, List.nil_append, exN, ex1, gI, gL, gR, pI, pL, pR, lget, lset1, lset2, kl, b2I, b2L, nob, ob32, ob64, xGet, xPut, xLen, xLd, xLdR, xSt, obA, true_and, and_true, and_self, eq_self, Nat.reduceEqDiff, Nat.zero_ne_one, reduceIte, Nat.reduceLeDiff, and_false, false_and, show skd 11 2 = 0 from rfl, show LF.1 145 = some (.inl 11) from rfl, upd2_eq, Int.reduceToNat, Int.toNat_natCast]; rfl) (by first | exact trivial | exact Or.inr rfl | exact Or.inl rfl | (simp only [ob, obA, R32, R64] at *; omega) | (simp only [ob, obA, R32, R64] at *; and_intros <;> omega) | (simp [ob, obA])) ?_
    refine V_callV (M := MX12_sheet) (N := MX12_isBook) dX12_sheet_7 lRX12_386 kX12_isBook rfl (rfl) rfl (c_mIsBook (d := 2) hκ hC1.1 hI.1 hi (by omega)) rfl rfl (Nat.le_of_ble_eq_true rfl) (fit_rm (by omega)) (⟨Nat.le_of_ble_eq_true rfl, Nat.le_of_ble_eq_true rfl⟩) (fun v Ω' hp => ?_) (fun _ _ h => h.elim)
    obtain ⟨rfl, rfl⟩ := hp
    refine V_ifeqB dX12_sheet_10 (tgt := 33) (by decide) (fun q10 => ?_) (fun q10 => ?_)
    · exact absurd hin (of_decide_eq_false q10)
    · refine V_ex sX12_sheet_13 (by simp only [Option.toList, List.cons_append, List.nil_append, exN, ex1, gI, gL, gR, pI, pL, pR, lget, lset1, lset2, kl, b2I, b2L, nob, ob32, ob64, xGet, xPut, xLen, xLd, xLdR, xSt, obA, true_and, and_true, and_self, eq_self, Nat.reduceEqDiff, Nat.zero_ne_one, reduceIte, Nat.reduceLeDiff, and_false, false_and, show skd 11 6 = 2 from rfl, show LF.1 145 = some (.inl 11) from rfl, show LF.2 145 6 = some 151 from rfl, show LF.1 151 = some (.inr (0, 12)) from rfl, asn (show 151 ≠ 145 by decide), m3, Int.toNat_natCast, upd2_eq, Int.reduceToNat, Int.toNat_natCast]; rfl) (by (unfold R32 at hh; rw [td_nn (by omega)]; simp only [ob, obA, R32]; and_intros <;> omega)) ?_
      rw [td_nn (by omega)]
      refine V_callS (M := MX12_sheet) (N := MX12_isIn) dX12_sheet_27 lRX12_178 kX12_isIn rfl (c_misIn (d := 2) hκ hh64 (by unfold R64; omega) (by unfold R64; omega)) rfl rfl (Nat.le_of_ble_eq_true rfl) (fit_rm (by omega)) (⟨Nat.le_of_ble_eq_true rfl, Nat.le_of_ble_eq_true rfl⟩) (fun v Ω' hp => ?_) (fun _ _ h => h.elim)
      obtain ⟨rfl, rfl⟩ := hp
      refine V_ifneB dX12_sheet_30 (tgt := 39) (by decide) (fun q30 => ?_) (fun q30 => ?_)
      · have hx := of_decide_eq_true q30
        refine V_ex sX12_sheet_39 (by simp only [Option.toList, List.cons_append, List.nil_append, exN, ex1, gI, gL, gR, pI, pL, pR, lget, lset1, lset2, kl, b2I, b2L, nob, ob32, ob64, xGet, xPut, xLen, xLd, xLdR, xSt, obA, true_and, and_true, and_self, eq_self, Nat.reduceEqDiff, Nat.zero_ne_one, reduceIte, Nat.reduceLeDiff, and_false, false_and, show skd 11 6 = 2 from rfl, show LF.1 145 = some (.inl 11) from rfl, show LF.2 145 6 = some 151 from rfl, show LF.1 151 = some (.inr (0, 12)) from rfl, asn (show 151 ≠ 145 by decide), m3, Int.toNat_natCast, upd2_eq, Int.reduceToNat, Int.toNat_natCast]; rfl) (by (simp only [ob, obA, R32]; and_intros <;> omega)) ?_
        rw [tm_nn (by omega)]
        refine V_icmpeq dX12_sheet_59 (tgt := 91) (by decide) (by simp only [R32, R64] at *; omega) (fun q59 => ?_) (fun q59 => ?_)
        · refine V_ex sX12_sheet_91 (by rfl) (by first | exact trivial | exact Or.inr rfl | exact Or.inl rfl | (simp only [ob, obA, R32, R64] at *; omega) | (simp only [ob, obA, R32, R64] at *; and_intros <;> omega) | (simp [ob, obA])) ?_
          refine V_callV (M := MX12_sheet) (N := MX12_refuse) dX12_sheet_93 lRX12_404 kX12_refuse rfl (rfl) rfl (c_mRefuse (d := 2) (k := 1) hκ (by decide)) rfl rfl (Nat.le_of_ble_eq_true rfl) (fit_rm (by omega)) (⟨Nat.le_of_ble_eq_true rfl, Nat.le_of_ble_eq_true rfl⟩) (fun v Ω' hp => ?_) (fun _ _ h => h.elim)
          obtain ⟨rfl, rfl⟩ := hp
          refine V_iret dX12_sheet_96 rfl (by decide) (by rw [er hx (Or.inl (by omega))]; exact md_ref hC1 hI (by decide) (fz0 G 0) rfl iu)
        · refine V_ex sX12_sheet_62 (by rfl) (by first | exact trivial | exact Or.inr rfl | exact Or.inl rfl | (simp only [ob, obA, R32, R64] at *; omega) | (simp only [ob, obA, R32, R64] at *; and_intros <;> omega) | (simp [ob, obA])) ?_
          refine V_callV (M := MX12_sheet) (N := MX12_isOut) dX12_sheet_65 lRX12_389 kX12_isOut rfl (rfl) rfl (c_mIsOut (d := 2) hκ hC1.1 hI.1 hj hh (by omega)) rfl rfl (Nat.le_of_ble_eq_true rfl) (fit_rm (by omega)) (⟨Nat.le_of_ble_eq_true rfl, Nat.le_of_ble_eq_true rfl⟩) (fun v Ω' hp => ?_) (fun _ _ h => h.elim)
          obtain ⟨rfl, rfl⟩ := hp
          refine V_ifneB dX12_sheet_68 (tgt := 91) (by decide) (fun q68 => ?_) (fun q68 => ?_)
          · refine V_ex sX12_sheet_91 (by rfl) (by first | exact trivial | exact Or.inr rfl | exact Or.inl rfl | (simp only [ob, obA, R32, R64] at *; omega) | (simp only [ob, obA, R32, R64] at *; and_intros <;> omega) | (simp [ob, obA])) ?_
            refine V_callV (M := MX12_sheet) (N := MX12_refuse) dX12_sheet_93 lRX12_404 kX12_refuse rfl (rfl) rfl (c_mRefuse (d := 2) (k := 1) hκ (by decide)) rfl rfl (Nat.le_of_ble_eq_true rfl) (fit_rm (by omega)) (⟨Nat.le_of_ble_eq_true rfl, Nat.le_of_ble_eq_true rfl⟩) (fun v Ω' hp => ?_) (fun _ _ h => h.elim)
            obtain ⟨rfl, rfl⟩ := hp
            refine V_iret dX12_sheet_96 rfl (by decide) (by rw [er hx (Or.inr (Or.inl (of_decide_eq_true q68)))]; exact md_ref hC1 hI (by decide) (fz0 G 0) rfl iu)
          · refine V_ex sX12_sheet_71 (by rfl) (by first | exact trivial | exact Or.inr rfl | exact Or.inl rfl | (simp only [ob, obA, R32, R64] at *; omega) | (simp only [ob, obA, R32, R64] at *; and_intros <;> omega) | (simp [ob, obA])) ?_
            refine V_callV (M := MX12_sheet) (N := MX12_isOut) dX12_sheet_74 lRX12_389 kX12_isOut rfl (rfl) rfl (hO1 (by unfold R32; omega) (by omega)) rfl rfl (Nat.le_of_ble_eq_true rfl) (fit_rm (by omega)) (⟨Nat.le_of_ble_eq_true rfl, Nat.le_of_ble_eq_true rfl⟩) (fun v Ω' hp => ?_) (fun _ _ h => h.elim)
            obtain ⟨rfl, rfl⟩ := hp
            refine V_ifneB dX12_sheet_77 (tgt := 91) (by decide) (fun q77 => ?_) (fun q77 => ?_)
            · refine V_ex sX12_sheet_91 (by rfl) (by first | exact trivial | exact Or.inr rfl | exact Or.inl rfl | (simp only [ob, obA, R32, R64] at *; omega) | (simp only [ob, obA, R32, R64] at *; and_intros <;> omega) | (simp [ob, obA])) ?_
              refine V_callV (M := MX12_sheet) (N := MX12_refuse) dX12_sheet_93 lRX12_404 kX12_refuse rfl (rfl) rfl (c_mRefuse (d := 2) (k := 1) hκ (by decide)) rfl rfl (Nat.le_of_ble_eq_true rfl) (fit_rm (by omega)) (⟨Nat.le_of_ble_eq_true rfl, Nat.le_of_ble_eq_true rfl⟩) (fun v Ω' hp => ?_) (fun _ _ h => h.elim)
              obtain ⟨rfl, rfl⟩ := hp
              refine V_iret dX12_sheet_96 rfl (by decide) (by rw [er hx (Or.inr (Or.inr (Or.inl (of_decide_eq_true q77))))]; exact md_ref hC1 hI (by decide) (fz0 G 0) rfl iu)
            · refine V_ex sX12_sheet_80 (by simp only [Option.toList, List.cons_append, List.nil_append, exN, ex1, gI, gL, gR, pI, pL, pR, lget, lset1, lset2, kl, b2I, b2L, nob, ob32, ob64, xGet, xPut, xLen, xLd, xLdR, xSt, obA, true_and, and_true, and_self, eq_self, Nat.reduceEqDiff, Nat.zero_ne_one, reduceIte, Nat.reduceLeDiff, and_false, false_and, show skd 11 7 = 2 from rfl, show LF.1 145 = some (.inl 11) from rfl, show LF.2 145 7 = some 152 from rfl, show LF.1 152 = some (.inr (0, 12)) from rfl, asn (show 152 ≠ 145 by decide), m5, Int.toNat_natCast, upd2_eq, Int.reduceToNat, Int.toNat_natCast]; rfl) (by first | exact trivial | exact Or.inr rfl | exact Or.inl rfl | (simp only [ob, obA, R32, R64] at *; omega) | (simp only [ob, obA, R32, R64] at *; and_intros <;> omega) | (simp [ob, obA])) ?_
              refine V_icmple dX12_sheet_88 (tgt := 97) (by decide) (by simp only [R32, R64] at *; omega) (fun q88 => ?_) (fun q88 => ?_)
              · refine V_ex sX12_sheet_97 (by rfl) (by first | exact trivial | exact Or.inr rfl | exact Or.inl rfl | (simp only [ob, obA, R32, R64] at *; omega) | (simp only [ob, obA, R32, R64] at *; and_intros <;> omega) | (simp [ob, obA])) ?_
                refine V_callV (M := MX12_sheet) (N := MX12_tearOut) dX12_sheet_101 lRX12_407 kX12_tearOut rfl (rfl) rfl (c_mTearOut (d := 2) (sec := false) (j := j) (n := (bkJ A.1 j).2.2.2.2.2.length) (t := (flT A.2.1.1).length) (l := h) (G := uI G 145 2 0) hκ hj6 m5' (by omega) h34 (by omega)) rfl rfl (Nat.le_of_ble_eq_true rfl) (fit_rm (by omega)) (⟨Nat.le_of_ble_eq_true rfl, Nat.le_of_ble_eq_true rfl⟩) (fun v Ω' hp => ?_) (fun _ _ h => h.elim)
                obtain ⟨rfl, rfl⟩ := hp
                have hC2 := RM_sheet (z := h) (o := (bkJ A.1 j).2.2.1 - 1 - h) hC1 hI hj (by omega) (by omega)
                have e9 : (toW (uI G 145 2 0) j (bkJ A.1 j).2.2.2.2.2.length (flT A.2.1.1).length h false).1 152 j = (((bkJ A.1 j).2.2.2.2.2.length + 1 : Nat) : Int) := by rw [tw_152, if_pos rfl]; omega
                have e34 : (toW (uI G 145 2 0) j (bkJ A.1 j).2.2.2.2.2.length (flT A.2.1.1).length h false).1 145 34 = (((flT A.2.1.1).length + 1 : Nat) : Int) := by rw [tw_5.1]; omega
                have e2 : (toW (uI G 145 2 0) j (bkJ A.1 j).2.2.2.2.2.length (flT A.2.1.1).length h false).1 145 2 = 0 := (tw_5.2.2 145 2 (by omega) (by omega) (by omega) (by omega)).trans iu
                have hfz := (fz0 G 0).trans (tw_fe (uI G 145 2 0) j (bkJ A.1 j).2.2.2.2.2.length (flT A.2.1.1).length h false)
                generalize toW (uI G 145 2 0) j (bkJ A.1 j).2.2.2.2.2.length (flT A.2.1.1).length h false = G2 at *
                refine V_ex sX12_sheet_104 (by rfl) (by first | exact trivial | exact Or.inr rfl | exact Or.inl rfl | (simp only [ob, obA, R32, R64] at *; omega) | (simp only [ob, obA, R32, R64] at *; and_intros <;> omega) | (simp [ob, obA])) ?_
                refine V_callV (M := MX12_sheet) (N := MX12_tearOut) dX12_sheet_108 lRX12_407 kX12_tearOut rfl (rfl) rfl (c_mTearOut (d := 2) (sec := true) (j := j) (n := (bkJ A.1 j).2.2.2.2.2.length + 1) (t := (flT A.2.1.1).length + 1) (l := (bkJ A.1 j).2.2.1 - 1 - h) (G := G2) hκ hj6 e9 (by omega) e34 (by omega)) rfl rfl (Nat.le_of_ble_eq_true rfl) (fit_rm (by omega)) (⟨Nat.le_of_ble_eq_true rfl, Nat.le_of_ble_eq_true rfl⟩) (fun v Ω' hp => ?_) (fun _ _ h => h.elim)
                obtain ⟨rfl, rfl⟩ := hp
                have e8 : (toW G2 j ((bkJ A.1 j).2.2.2.2.2.length + 1) ((flT A.2.1.1).length + 1) ((bkJ A.1 j).2.2.1 - 1 - h) true).1 152 j = (((bkJ A.1 j).2.2.2.2.2.length + 2 : Nat) : Int) := by rw [tw_152, if_pos rfl]; omega
                have e3 : (toW G2 j ((bkJ A.1 j).2.2.2.2.2.length + 1) ((flT A.2.1.1).length + 1) ((bkJ A.1 j).2.2.1 - 1 - h) true).1 145 2 = 0 := (tw_5.2.2 145 2 (by omega) (by omega) (by omega) (by omega)).trans e2
                have hfz2 := hfz.trans (tw_fe G2 j ((bkJ A.1 j).2.2.2.2.2.length + 1) ((flT A.2.1.1).length + 1) ((bkJ A.1 j).2.2.1 - 1 - h) true)
                generalize toW G2 j ((bkJ A.1 j).2.2.2.2.2.length + 1) ((flT A.2.1.1).length + 1) ((bkJ A.1 j).2.2.1 - 1 - h) true = G3 at *
                refine V_ex sX12_sheet_111 (by simp only [Option.toList, List.cons_append, List.nil_append, exN, ex1, gI, gL, gR, pI, pL, pR, lget, lset1, lset2, kl, b2I, b2L, nob, ob32, ob64, xGet, xPut, xLen, xLd, xLdR, xSt, obA, true_and, and_true, and_self, eq_self, Nat.reduceEqDiff, Nat.zero_ne_one, reduceIte, Nat.reduceLeDiff, and_false, false_and, show skd 11 7 = 2 from rfl, show LF.1 145 = some (.inl 11) from rfl, show LF.2 145 7 = some 152 from rfl, show LF.1 152 = some (.inr (0, 12)) from rfl, e8, Int.toNat_natCast, upd2_eq, Int.reduceToNat, Int.toNat_natCast]; rfl) (by first | exact trivial | exact Or.inr rfl | exact Or.inl rfl | (simp only [ob, obA, R32, R64] at *; omega) | (simp only [ob, obA, R32, R64] at *; and_intros <;> omega) | (simp [ob, obA])) ?_
                refine V_iret dX12_sheet_117 rfl (by decide) (by rw [ey hx (fun q => by rcases q with q | q | q | q; omega; exact absurd q (of_decide_eq_false q68); exact absurd q (of_decide_eq_false q77); omega)]; exact md_z hC2 hfz2 rfl e3)
              · refine V_ex sX12_sheet_91 (by rfl) (by first | exact trivial | exact Or.inr rfl | exact Or.inl rfl | (simp only [ob, obA, R32, R64] at *; omega) | (simp only [ob, obA, R32, R64] at *; and_intros <;> omega) | (simp [ob, obA])) ?_
                refine V_callV (M := MX12_sheet) (N := MX12_refuse) dX12_sheet_93 lRX12_404 kX12_refuse rfl (rfl) rfl (c_mRefuse (d := 2) (k := 1) hκ (by decide)) rfl rfl (Nat.le_of_ble_eq_true rfl) (fit_rm (by omega)) (⟨Nat.le_of_ble_eq_true rfl, Nat.le_of_ble_eq_true rfl⟩) (fun v Ω' hp => ?_) (fun _ _ h => h.elim)
                obtain ⟨rfl, rfl⟩ := hp
                refine V_iret dX12_sheet_96 rfl (by decide) (by rw [er hx (Or.inr (Or.inr (Or.inr (by omega))))]; exact md_ref hC1 hI (by decide) (fz0 G 0) rfl iu)
      · refine V_ex sX12_sheet_33 (by rfl) (by first | exact trivial | exact Or.inr rfl | exact Or.inl rfl | (simp only [ob, obA, R32, R64] at *; omega) | (simp only [ob, obA, R32, R64] at *; and_intros <;> omega) | (simp [ob, obA])) ?_
        refine V_callV (M := MX12_sheet) (N := MX12_fail) dX12_sheet_35 lRX12_324 kX12_fail rfl (rfl) rfl (c_mfail (d := 2) hκ) rfl rfl (Nat.le_of_ble_eq_true rfl) (fit_rm (by omega)) (⟨Nat.le_of_ble_eq_true rfl, Nat.le_of_ble_eq_true rfl⟩) (fun v Ω' hp => ?_) (fun _ _ h => h.elim)
        obtain ⟨rfl, rfl⟩ := hp
        refine V_iret dX12_sheet_38 rfl (by decide) (by rw [en (of_decide_eq_false q30)]; exact md_1 hC rfl rfl)
  · have e : sheetP A i h = (1, 0, A) := by unfold sheetP; rw [if_pos (fun q => hin q.1)]
    refine V_ex sX12_sheet_0 (by simp only [Option.toList, List.cons_append, List.nil_append, exN, ex1, gI, gL, gR, pI, pL, pR, lget, lset1, lset2, kl, b2I, b2L, nob, ob32, ob64, xGet, xPut, xLen, xLd, xLdR, xSt, obA, true_and, and_true, and_self, eq_self, Nat.reduceEqDiff, Nat.zero_ne_one, reduceIte, Nat.reduceLeDiff, and_false, false_and, show skd 11 2 = 0 from rfl, show LF.1 145 = some (.inl 11) from rfl, upd2_eq, Int.reduceToNat, Int.toNat_natCast]; rfl) (by first | exact trivial | exact Or.inr rfl | exact Or.inl rfl | (simp only [ob, obA, R32, R64] at *; omega) | (simp only [ob, obA, R32, R64] at *; and_intros <;> omega) | (simp [ob, obA])) ?_
    refine V_callV (M := MX12_sheet) (N := MX12_isBook) dX12_sheet_7 lRX12_386 kX12_isBook rfl (rfl) rfl (c_mIsBook (d := 2) hκ hC1.1 hI.1 hi (by omega)) rfl rfl (Nat.le_of_ble_eq_true rfl) (fit_rm (by omega)) (⟨Nat.le_of_ble_eq_true rfl, Nat.le_of_ble_eq_true rfl⟩) (fun v Ω' hp => ?_) (fun _ _ h => h.elim)
    obtain ⟨rfl, rfl⟩ := hp
    refine V_ifeqB dX12_sheet_10 (tgt := 33) (by decide) (fun q10 => ?_) (fun q10 => ?_)
    · refine V_ex sX12_sheet_33 (by rfl) (by first | exact trivial | exact Or.inr rfl | exact Or.inl rfl | (simp only [ob, obA, R32, R64] at *; omega) | (simp only [ob, obA, R32, R64] at *; and_intros <;> omega) | (simp [ob, obA])) ?_
      refine V_callV (M := MX12_sheet) (N := MX12_fail) dX12_sheet_35 lRX12_324 kX12_fail rfl (rfl) rfl (c_mfail (d := 2) hκ) rfl rfl (Nat.le_of_ble_eq_true rfl) (fit_rm (by omega)) (⟨Nat.le_of_ble_eq_true rfl, Nat.le_of_ble_eq_true rfl⟩) (fun v Ω' hp => ?_) (fun _ _ h => h.elim)
      obtain ⟨rfl, rfl⟩ := hp
      refine V_iret dX12_sheet_38 rfl (by decide) (by rw [e]; exact md_1 hC rfl rfl)
    · exact absurd (of_decide_eq_true q10) hin
