/-! THE MODEL: calls that only tell -/
theorem as5 {f : Nat → Nat → Int} {k j : Nat} {z : Int} (h : j ≠ k) : upd2 f 145 k z 145 j = f 145 j := by rw [upd2_eq, if_neg (fun q => h q.2)]
theorem fn0 (G : Wd) (z : Int) : FN G (uI G 145 2 z) := (FM.refl _ _ _ G).s (by decide)
theorem fn00 (G : Wd) (z w : Int) : FN G (uI (uI G 145 2 z) 145 2 w) := (fn0 G z).s (by decide)
theorem md_0 {G : Wd} {A : Ab} {v u : Option Vl} {code : Int} (h : RM G A) (e : u = v) (c : 0 = code) : mdP G A v code u (Wm (uI G 145 2 0)) := md_f h (fn0 G 0) e (by rw [← c]; exact iu)
theorem md_1 {G : Wd} {A : Ab} {v u : Option Vl} {code k : Int} (h : RM G A) (e : u = v) (c : k = code) : mdP G A v code u (Wm (uI (uI G 145 2 0) 145 2 k)) := md_f h (fn00 G 0 k) e (by rw [← c]; exact iu)
theorem fn_c {G G1 G2 : Wd} (f : FN G G1) (g : FM [] [163, 164] [] G1 G2) : FN G G2 ∧ G2.1 145 2 = G1.1 145 2 := ⟨f.trans (FN.of g), g.i5 (by decide) (by decide)⟩
set_option maxRecDepth 100000 in
set_option maxHeartbeats 4000000 in
theorem c_mxCount {κ : Kx} (hκ : KOK κ) {d : Nat} {K w : Int} {A : Ab} {G : Wd} (hC : RM G A) (hI : Inv K A) (hw : R32 w) (hd : 20 ≤ d) : Ct κ MX12_count d 0 0 [VR 145, VI w] (Wm G) (mdP G A (some (VI (countP A w).2)) (countP A w).1) noX := by
  refine Ct_of hκ kX12_count.1 rfl (Nat.le_of_ble_eq_true rfl) (ls := [some (VR 145), some (VI w)]) rfl (fun μ => ?_)
  obtain ⟨r1, r2, r3, r4, r5, r6, r7, r8, r9⟩ := hC
  have hC : RM G A := ⟨r1, r2, r3, r4, r5, r6, r7, r8, r9⟩
  have hO := hI.1
  have v1 : G.1 145 35 = (A.2.1.1.length : Nat) := r2.2.2.1
  have v2 : G.1 145 36 = A.2.1.2.1.2.1 := r2.2.2.2.1
  have v3 : G.1 145 48 = (A.2.1.2.2.1.length : Nat) := r2.2.2.2.2.2.1
  have v4 : ∀ i, i < 4 → G.1 161 i = A.2.1.2.2.2.getD i 0 := r2.2.2.2.2.2.2.2
  have t0 : G.1 148 0 = (A.1.1.length : Nat) := r1.1
  have t1 : G.1 148 1 = (A.1.2.1.length : Nat) := r1.2.2.1
  by_cases hl : 10 ≤ w ∧ w < 20
  · have e : countP A w = (0, A.1.2.2.1.getD (w - 10).toNat 0) := by unfold countP; rw [if_pos hl]
    have e10 : A.1.2.2.1.length = 10 := hO.2.2.2.2.1
    have h10 : (w - 10).toNat < A.1.2.2.1.length := by omega
    have ev : G.1 157 (w - 10).toNat = A.1.2.2.1.getD (w - 10).toNat 0 := by
      rw [r1.2.2.2.2.1 _ h10, List.getD_eq_getElem?_getD, List.getElem?_eq_getElem h10]; rfl
    refine V_ex sX12_count_0 (by simp only [Option.toList, List.cons_append, List.nil_append, exN, ex1, gI, gL, gR, pI, pL, pR, lget, lset1, lset2, kl, b2I, b2L, nob, ob32, ob64, xGet, xPut, xLen, xLd, xLdR, xSt, obA, true_and, and_true, and_self, eq_self, Nat.reduceEqDiff, Nat.zero_ne_one, reduceIte, Nat.reduceLeDiff, and_false, false_and, show skd 11 2 = 0 from rfl, show LF.1 145 = some (.inl 11) from rfl, upd2_eq, Int.reduceToNat, Int.toNat_natCast]; rfl) (by first | exact trivial | exact Or.inr rfl | exact Or.inl rfl | (simp only [ob, obA, R32, R64] at *; omega) | (simp only [ob, obA, R32, R64] at *; and_intros <;> omega) | (simp [ob, obA])) ?_
    refine V_callS (M := MX12_count) (N := MX12_isIn) dX12_count_13 lRX12_178 kX12_isIn rfl (c_misIn (d := 2) hκ (by simp only [R32, R64] at *; omega) (by unfold R64; omega) (by unfold R64; omega)) rfl rfl (Nat.le_of_ble_eq_true rfl) (fit_rm (by omega)) (⟨Nat.le_of_ble_eq_true rfl, Nat.le_of_ble_eq_true rfl⟩) (fun v Ω' hp => ?_) (fun _ _ h => h.elim)
    obtain ⟨rfl, rfl⟩ := hp
    refine V_ifeqB dX12_count_16 (tgt := 29) (by decide) (fun q16 => ?_) (fun q16 => ?_)
    · have := of_decide_eq_false q16
      omega
    · refine V_ex sX12_count_19 (by simp only [Option.toList, List.cons_append, List.nil_append, exN, ex1, gI, gL, gR, pI, pL, pR, lget, lset1, lset2, kl, b2I, b2L, nob, ob32, ob64, xGet, xPut, xLen, xLd, xLdR, xSt, obA, true_and, and_true, and_self, eq_self, Nat.reduceEqDiff, Nat.zero_ne_one, reduceIte, Nat.reduceLeDiff, and_false, false_and, show skd 11 12 = 2 from rfl, show LF.1 145 = some (.inl 11) from rfl, show LF.2 145 12 = some 157 from rfl, show LF.1 157 = some (.inr (0, 20)) from rfl, asn (show 157 ≠ 145 by decide), ev, upd2_eq, Int.reduceToNat, Int.toNat_natCast]; rfl) (by first | exact trivial | exact Or.inr rfl | exact Or.inl rfl | (simp only [ob, obA, R32, R64] at *; omega) | (simp only [ob, obA, R32, R64] at *; and_intros <;> omega) | (simp [ob, obA])) ?_
      refine V_iret dX12_count_28 rfl (by decide) (md_0 hC (by rw [e]) (by rw [e]))
  · refine V_ex sX12_count_0 (by simp only [Option.toList, List.cons_append, List.nil_append, exN, ex1, gI, gL, gR, pI, pL, pR, lget, lset1, lset2, kl, b2I, b2L, nob, ob32, ob64, xGet, xPut, xLen, xLd, xLdR, xSt, obA, true_and, and_true, and_self, eq_self, Nat.reduceEqDiff, Nat.zero_ne_one, reduceIte, Nat.reduceLeDiff, and_false, false_and, show skd 11 2 = 0 from rfl, show LF.1 145 = some (.inl 11) from rfl, upd2_eq, Int.reduceToNat, Int.toNat_natCast]; rfl) (by first | exact trivial | exact Or.inr rfl | exact Or.inl rfl | (simp only [ob, obA, R32, R64] at *; omega) | (simp only [ob, obA, R32, R64] at *; and_intros <;> omega) | (simp [ob, obA])) ?_
    refine V_callS (M := MX12_count) (N := MX12_isIn) dX12_count_13 lRX12_178 kX12_isIn rfl (c_misIn (d := 2) hκ (by simp only [R32, R64] at *; omega) (by unfold R64; omega) (by unfold R64; omega)) rfl rfl (Nat.le_of_ble_eq_true rfl) (fit_rm (by omega)) (⟨Nat.le_of_ble_eq_true rfl, Nat.le_of_ble_eq_true rfl⟩) (fun v Ω' hp => ?_) (fun _ _ h => h.elim)
    obtain ⟨rfl, rfl⟩ := hp
    refine V_ifeqB dX12_count_16 (tgt := 29) (by decide) (fun q16 => ?_) (fun q16 => ?_)
    · refine V_ex sX12_count_29 (by rfl) (by first | exact trivial | exact Or.inr rfl | exact Or.inl rfl | (simp only [ob, obA, R32, R64] at *; omega) | (simp only [ob, obA, R32, R64] at *; and_intros <;> omega) | (simp [ob, obA])) ?_
      refine V_tsw dX12_count_30 (dt := 120) (tg := [84, 84, 91, 96, 101, 106, 106, 106, 106, 115]) (by simp only [R32, R64] at *; omega) (by decide) (by decide) (by decide) (fun q30 => ?_) ⟨fun q30 => ?_, fun q30 => ?_, fun q30 => ?_, fun q30 => ?_, fun q30 => ?_, fun q30 => ?_, fun q30 => ?_, fun q30 => ?_, fun q30 => ?_, fun q30 => ?_, trivial⟩
      · refine V_ex sX12_count_120 (by rfl) (by first | exact trivial | exact Or.inr rfl | exact Or.inl rfl | (simp only [ob, obA, R32, R64] at *; omega) | (simp only [ob, obA, R32, R64] at *; and_intros <;> omega) | (simp [ob, obA])) ?_
        refine V_callV (M := MX12_count) (N := MX12_fail) dX12_count_122 lRX12_324 kX12_fail rfl (rfl) rfl (c_mfail (d := 2) hκ) rfl rfl (Nat.le_of_ble_eq_true rfl) (fit_rm (by omega)) (⟨Nat.le_of_ble_eq_true rfl, Nat.le_of_ble_eq_true rfl⟩) (fun v Ω' hp => ?_) (fun _ _ h => h.elim)
        obtain ⟨rfl, rfl⟩ := hp
        refine V_iret dX12_count_125 rfl (by decide) ?_
        have e : countP A w = (1, 0) := by
          unfold countP
          rw [if_neg hl, if_neg (by omega), if_neg (by omega), if_neg (by omega), if_neg (by omega), if_neg (by omega), if_neg (by omega), if_neg (by omega)]
        exact md_1 hC (by rw [e]) (by rw [e])
      · have hw0 : w = 0 ∨ w = 1 := by omega
        have ev : G.1 148 w.toNat = (countP A w).2 ∧ (countP A w).1 = 0 := by rcases hw0 with h | h <;> subst h; exact ⟨t0, rfl⟩; exact ⟨t1, rfl⟩
        refine V_ex sX12_count_84 (by simp only [Option.toList, List.cons_append, List.nil_append, exN, ex1, gI, gL, gR, pI, pL, pR, lget, lset1, lset2, kl, b2I, b2L, nob, ob32, ob64, xGet, xPut, xLen, xLd, xLdR, xSt, obA, true_and, and_true, and_self, eq_self, Nat.reduceEqDiff, Nat.zero_ne_one, reduceIte, Nat.reduceLeDiff, and_false, false_and, show skd 11 3 = 2 from rfl, show LF.1 145 = some (.inl 11) from rfl, show LF.2 145 3 = some 148 from rfl, show LF.1 148 = some (.inr (0, 4)) from rfl, asn (show 148 ≠ 145 by decide), ev.1, upd2_eq, Int.reduceToNat, Int.toNat_natCast]; rfl) (by first | exact trivial | exact Or.inr rfl | exact Or.inl rfl | (simp only [ob, obA, R32, R64] at *; omega) | (simp only [ob, obA, R32, R64] at *; and_intros <;> omega) | (simp [ob, obA])) ?_
        refine V_iret dX12_count_90 rfl (by decide) (md_0 hC rfl ev.2.symm)
      · have hw0 : w = 0 ∨ w = 1 := by omega
        have ev : G.1 148 w.toNat = (countP A w).2 ∧ (countP A w).1 = 0 := by rcases hw0 with h | h <;> subst h; exact ⟨t0, rfl⟩; exact ⟨t1, rfl⟩
        refine V_ex sX12_count_84 (by simp only [Option.toList, List.cons_append, List.nil_append, exN, ex1, gI, gL, gR, pI, pL, pR, lget, lset1, lset2, kl, b2I, b2L, nob, ob32, ob64, xGet, xPut, xLen, xLd, xLdR, xSt, obA, true_and, and_true, and_self, eq_self, Nat.reduceEqDiff, Nat.zero_ne_one, reduceIte, Nat.reduceLeDiff, and_false, false_and, show skd 11 3 = 2 from rfl, show LF.1 145 = some (.inl 11) from rfl, show LF.2 145 3 = some 148 from rfl, show LF.1 148 = some (.inr (0, 4)) from rfl, asn (show 148 ≠ 145 by decide), ev.1, upd2_eq, Int.reduceToNat, Int.toNat_natCast]; rfl) (by first | exact trivial | exact Or.inr rfl | exact Or.inl rfl | (simp only [ob, obA, R32, R64] at *; omega) | (simp only [ob, obA, R32, R64] at *; and_intros <;> omega) | (simp [ob, obA])) ?_
        refine V_iret dX12_count_90 rfl (by decide) (md_0 hC rfl ev.2.symm)
      · refine V_ex sX12_count_91 (by simp only [Option.toList, List.cons_append, List.nil_append, exN, ex1, gI, gL, gR, pI, pL, pR, lget, lset1, lset2, kl, b2I, b2L, nob, ob32, ob64, xGet, xPut, xLen, xLd, xLdR, xSt, obA, true_and, and_true, and_self, eq_self, Nat.reduceEqDiff, Nat.zero_ne_one, reduceIte, Nat.reduceLeDiff, and_false, false_and, show skd 11 35 = 0 from rfl, show LF.1 145 = some (.inl 11) from rfl, as5 (show 35 ≠ 2 by decide), v1, upd2_eq, Int.reduceToNat, Int.toNat_natCast]; rfl) (by first | exact trivial | exact Or.inr rfl | exact Or.inl rfl | (simp only [ob, obA, R32, R64] at *; omega) | (simp only [ob, obA, R32, R64] at *; and_intros <;> omega) | (simp [ob, obA])) ?_
        refine V_iret dX12_count_95 rfl (by decide) (by obtain rfl : w = 2 := (by omega); exact md_0 hC rfl rfl)
      · refine V_ex sX12_count_96 (by simp only [Option.toList, List.cons_append, List.nil_append, exN, ex1, gI, gL, gR, pI, pL, pR, lget, lset1, lset2, kl, b2I, b2L, nob, ob32, ob64, xGet, xPut, xLen, xLd, xLdR, xSt, obA, true_and, and_true, and_self, eq_self, Nat.reduceEqDiff, Nat.zero_ne_one, reduceIte, Nat.reduceLeDiff, and_false, false_and, show skd 11 36 = 0 from rfl, show LF.1 145 = some (.inl 11) from rfl, as5 (show 36 ≠ 2 by decide), v2, upd2_eq, Int.reduceToNat, Int.toNat_natCast]; rfl) (by first | exact trivial | exact Or.inr rfl | exact Or.inl rfl | (simp only [ob, obA, R32, R64] at *; omega) | (simp only [ob, obA, R32, R64] at *; and_intros <;> omega) | (simp [ob, obA])) ?_
        refine V_iret dX12_count_100 rfl (by decide) (by obtain rfl : w = 3 := (by omega); exact md_0 hC rfl rfl)
      · refine V_ex sX12_count_101 (by simp only [Option.toList, List.cons_append, List.nil_append, exN, ex1, gI, gL, gR, pI, pL, pR, lget, lset1, lset2, kl, b2I, b2L, nob, ob32, ob64, xGet, xPut, xLen, xLd, xLdR, xSt, obA, true_and, and_true, and_self, eq_self, Nat.reduceEqDiff, Nat.zero_ne_one, reduceIte, Nat.reduceLeDiff, and_false, false_and, show skd 11 18 = 0 from rfl, show LF.1 145 = some (.inl 11) from rfl, as5 (show 18 ≠ 2 by decide), r6, upd2_eq, Int.reduceToNat, Int.toNat_natCast]; rfl) (by first | exact trivial | exact Or.inr rfl | exact Or.inl rfl | (simp only [ob, obA, R32, R64] at *; omega) | (simp only [ob, obA, R32, R64] at *; and_intros <;> omega) | (simp [ob, obA])) ?_
        refine V_iret dX12_count_105 rfl (by decide) (by obtain rfl : w = 4 := (by omega); exact md_0 hC rfl rfl)
      · have ev : G.1 161 (w - 5).toNat = (countP A w).2 ∧ (countP A w).1 = 0 := by rcases (show w = 5 ∨ w = 6 ∨ w = 7 ∨ w = 8 by omega) with h | h | h | h <;> subst h; exact ⟨v4 0 (by omega), rfl⟩; exact ⟨v4 1 (by omega), rfl⟩; exact ⟨v4 2 (by omega), rfl⟩; exact ⟨v4 3 (by omega), rfl⟩
        refine V_ex sX12_count_106 (by simp only [Option.toList, List.cons_append, List.nil_append, exN, ex1, gI, gL, gR, pI, pL, pR, lget, lset1, lset2, kl, b2I, b2L, nob, ob32, ob64, xGet, xPut, xLen, xLd, xLdR, xSt, obA, true_and, and_true, and_self, eq_self, Nat.reduceEqDiff, Nat.zero_ne_one, reduceIte, Nat.reduceLeDiff, and_false, false_and, show skd 11 16 = 2 from rfl, show LF.1 145 = some (.inl 11) from rfl, show LF.2 145 16 = some 161 from rfl, show LF.1 161 = some (.inr (0, 4)) from rfl, asn (show 161 ≠ 145 by decide), ev.1, upd2_eq, Int.reduceToNat, Int.toNat_natCast]; rfl) (by first | exact trivial | exact Or.inr rfl | exact Or.inl rfl | (simp only [ob, obA, R32, R64] at *; omega) | (simp only [ob, obA, R32, R64] at *; and_intros <;> omega) | (simp [ob, obA])) ?_
        refine V_iret dX12_count_114 rfl (by decide) (md_0 hC rfl ev.2.symm)
      · have ev : G.1 161 (w - 5).toNat = (countP A w).2 ∧ (countP A w).1 = 0 := by rcases (show w = 5 ∨ w = 6 ∨ w = 7 ∨ w = 8 by omega) with h | h | h | h <;> subst h; exact ⟨v4 0 (by omega), rfl⟩; exact ⟨v4 1 (by omega), rfl⟩; exact ⟨v4 2 (by omega), rfl⟩; exact ⟨v4 3 (by omega), rfl⟩
        refine V_ex sX12_count_106 (by simp only [Option.toList, List.cons_append, List.nil_append, exN, ex1, gI, gL, gR, pI, pL, pR, lget, lset1, lset2, kl, b2I, b2L, nob, ob32, ob64, xGet, xPut, xLen, xLd, xLdR, xSt, obA, true_and, and_true, and_self, eq_self, Nat.reduceEqDiff, Nat.zero_ne_one, reduceIte, Nat.reduceLeDiff, and_false, false_and, show skd 11 16 = 2 from rfl, show LF.1 145 = some (.inl 11) from rfl, show LF.2 145 16 = some 161 from rfl, show LF.1 161 = some (.inr (0, 4)) from rfl, asn (show 161 ≠ 145 by decide), ev.1, upd2_eq, Int.reduceToNat, Int.toNat_natCast]; rfl) (by first | exact trivial | exact Or.inr rfl | exact Or.inl rfl | (simp only [ob, obA, R32, R64] at *; omega) | (simp only [ob, obA, R32, R64] at *; and_intros <;> omega) | (simp [ob, obA])) ?_
        refine V_iret dX12_count_114 rfl (by decide) (md_0 hC rfl ev.2.symm)
      · have ev : G.1 161 (w - 5).toNat = (countP A w).2 ∧ (countP A w).1 = 0 := by rcases (show w = 5 ∨ w = 6 ∨ w = 7 ∨ w = 8 by omega) with h | h | h | h <;> subst h; exact ⟨v4 0 (by omega), rfl⟩; exact ⟨v4 1 (by omega), rfl⟩; exact ⟨v4 2 (by omega), rfl⟩; exact ⟨v4 3 (by omega), rfl⟩
        refine V_ex sX12_count_106 (by simp only [Option.toList, List.cons_append, List.nil_append, exN, ex1, gI, gL, gR, pI, pL, pR, lget, lset1, lset2, kl, b2I, b2L, nob, ob32, ob64, xGet, xPut, xLen, xLd, xLdR, xSt, obA, true_and, and_true, and_self, eq_self, Nat.reduceEqDiff, Nat.zero_ne_one, reduceIte, Nat.reduceLeDiff, and_false, false_and, show skd 11 16 = 2 from rfl, show LF.1 145 = some (.inl 11) from rfl, show LF.2 145 16 = some 161 from rfl, show LF.1 161 = some (.inr (0, 4)) from rfl, asn (show 161 ≠ 145 by decide), ev.1, upd2_eq, Int.reduceToNat, Int.toNat_natCast]; rfl) (by first | exact trivial | exact Or.inr rfl | exact Or.inl rfl | (simp only [ob, obA, R32, R64] at *; omega) | (simp only [ob, obA, R32, R64] at *; and_intros <;> omega) | (simp [ob, obA])) ?_
        refine V_iret dX12_count_114 rfl (by decide) (md_0 hC rfl ev.2.symm)
      · have ev : G.1 161 (w - 5).toNat = (countP A w).2 ∧ (countP A w).1 = 0 := by rcases (show w = 5 ∨ w = 6 ∨ w = 7 ∨ w = 8 by omega) with h | h | h | h <;> subst h; exact ⟨v4 0 (by omega), rfl⟩; exact ⟨v4 1 (by omega), rfl⟩; exact ⟨v4 2 (by omega), rfl⟩; exact ⟨v4 3 (by omega), rfl⟩
        refine V_ex sX12_count_106 (by simp only [Option.toList, List.cons_append, List.nil_append, exN, ex1, gI, gL, gR, pI, pL, pR, lget, lset1, lset2, kl, b2I, b2L, nob, ob32, ob64, xGet, xPut, xLen, xLd, xLdR, xSt, obA, true_and, and_true, and_self, eq_self, Nat.reduceEqDiff, Nat.zero_ne_one, reduceIte, Nat.reduceLeDiff, and_false, false_and, show skd 11 16 = 2 from rfl, show LF.1 145 = some (.inl 11) from rfl, show LF.2 145 16 = some 161 from rfl, show LF.1 161 = some (.inr (0, 4)) from rfl, asn (show 161 ≠ 145 by decide), ev.1, upd2_eq, Int.reduceToNat, Int.toNat_natCast]; rfl) (by first | exact trivial | exact Or.inr rfl | exact Or.inl rfl | (simp only [ob, obA, R32, R64] at *; omega) | (simp only [ob, obA, R32, R64] at *; and_intros <;> omega) | (simp [ob, obA])) ?_
        refine V_iret dX12_count_114 rfl (by decide) (md_0 hC rfl ev.2.symm)
      · refine V_ex sX12_count_115 (by simp only [Option.toList, List.cons_append, List.nil_append, exN, ex1, gI, gL, gR, pI, pL, pR, lget, lset1, lset2, kl, b2I, b2L, nob, ob32, ob64, xGet, xPut, xLen, xLd, xLdR, xSt, obA, true_and, and_true, and_self, eq_self, Nat.reduceEqDiff, Nat.zero_ne_one, reduceIte, Nat.reduceLeDiff, and_false, false_and, show skd 11 48 = 0 from rfl, show LF.1 145 = some (.inl 11) from rfl, as5 (show 48 ≠ 2 by decide), v3, upd2_eq, Int.reduceToNat, Int.toNat_natCast]; rfl) (by first | exact trivial | exact Or.inr rfl | exact Or.inl rfl | (simp only [ob, obA, R32, R64] at *; omega) | (simp only [ob, obA, R32, R64] at *; and_intros <;> omega) | (simp [ob, obA])) ?_
        refine V_iret dX12_count_119 rfl (by decide) (by obtain rfl : w = 9 := (by omega); exact md_0 hC rfl rfl)
    · have := of_decide_eq_true q16
      omega
set_option maxRecDepth 100000 in
set_option maxHeartbeats 4000000 in
theorem c_mxBook {κ : Kx} (hκ : KOK κ) {d : Nat} {K i w : Int} {A : Ab} {G : Wd} (hC : RM G A) (hI : Inv K A) (hi : R32 i) (hw : R32 w) (hd : 20 ≤ d) : Ct κ MX12_book d 0 0 [VR 145, VI i, VI w] (Wm G) (mdP G A (some (VI (bookP A i w).2)) (bookP A i w).1) noX := by
  refine Ct_of hκ kX12_book.1 rfl (Nat.le_of_ble_eq_true rfl) (ls := [some (VR 145), some (VI i), some (VI w)]) rfl (fun μ => ?_)
  have hC1 := (RM_f hC (fn0 G 0)).1
  by_cases hin : inB A.1 i
  · obtain ⟨j, hj⟩ : ∃ j : Nat, i = (j : Int) := ⟨i.toNat, by have := hin.1; omega⟩
    subst hj
    have hj : j < A.1.1.length := by have := hin.2; omega
    obtain ⟨m1, m2, m3, m4, m5, m6⟩ := mS0_b hC.1 hj
    have hj6 : j < 6 := by have := hI.1.1; omega
    have e : bookP A (j : Nat) w = if w = 0 then (0, (bkJ A.1 j).1) else if w = 1 then (0, (bkJ A.1 j).2.2.1) else if w = 2 then (0, ((bkJ A.1 j).2.2.2.2.2.length : Nat)) else if w = 3 then (0, (bkJ A.1 j).2.1) else (1, 0) := by unfold bookP; rw [if_neg (fun h => h hin)]; rfl
    rw [e]
    refine V_ex sX12_book_0 (by simp only [Option.toList, List.cons_append, List.nil_append, exN, ex1, gI, gL, gR, pI, pL, pR, lget, lset1, lset2, kl, b2I, b2L, nob, ob32, ob64, xGet, xPut, xLen, xLd, xLdR, xSt, obA, true_and, and_true, and_self, eq_self, Nat.reduceEqDiff, Nat.zero_ne_one, reduceIte, Nat.reduceLeDiff, and_false, false_and, show skd 11 2 = 0 from rfl, show LF.1 145 = some (.inl 11) from rfl, asn (show 149 ≠ 145 by decide), asn (show 150 ≠ 145 by decide), asn (show 151 ≠ 145 by decide), asn (show 152 ≠ 145 by decide), m1, m2, m3, m5, Int.toNat_natCast, upd2_eq, Int.reduceToNat, Int.toNat_natCast]; rfl) (by first | exact trivial | exact Or.inr rfl | exact Or.inl rfl | (simp only [ob, obA, R32, R64] at *; omega) | (simp only [ob, obA, R32, R64] at *; and_intros <;> omega) | (simp [ob, obA])) ?_
    refine V_callV (M := MX12_book) (N := MX12_isBook) dX12_book_7 lRX12_386 kX12_isBook rfl (rfl) rfl (c_mIsBook (d := 2) hκ hC1.1 hI.1 hi (by omega)) rfl rfl (Nat.le_of_ble_eq_true rfl) (fit_rm (by omega)) (⟨Nat.le_of_ble_eq_true rfl, Nat.le_of_ble_eq_true rfl⟩) (fun v Ω' hp => ?_) (fun _ _ h => h.elim)
    obtain ⟨rfl, rfl⟩ := hp
    refine V_ifneB dX12_book_10 (tgt := 19) (by decide) (fun q10 => ?_) (fun q10 => ?_)
    · refine V_ex sX12_book_19 (by rfl) (by first | exact trivial | exact Or.inr rfl | exact Or.inl rfl | (simp only [ob, obA, R32, R64] at *; omega) | (simp only [ob, obA, R32, R64] at *; and_intros <;> omega) | (simp [ob, obA])) ?_
      refine V_ifne dX12_book_20 (tgt := 32) (by decide) (by simp only [R32, R64] at *; omega) (fun q20 => ?_) (fun q20 => ?_)
      · refine V_ex sX12_book_32 (by rfl) (by first | exact trivial | exact Or.inr rfl | exact Or.inl rfl | (simp only [ob, obA, R32, R64] at *; omega) | (simp only [ob, obA, R32, R64] at *; and_intros <;> omega) | (simp [ob, obA])) ?_
        refine V_icmpne dX12_book_34 (tgt := 46) (by decide) (by simp only [R32, R64] at *; omega) (fun q34 => ?_) (fun q34 => ?_)
        · refine V_ex sX12_book_46 (by rfl) (by first | exact trivial | exact Or.inr rfl | exact Or.inl rfl | (simp only [ob, obA, R32, R64] at *; omega) | (simp only [ob, obA, R32, R64] at *; and_intros <;> omega) | (simp [ob, obA])) ?_
          refine V_icmpne dX12_book_48 (tgt := 60) (by decide) (by simp only [R32, R64] at *; omega) (fun q48 => ?_) (fun q48 => ?_)
          · refine V_ex sX12_book_60 (by rfl) (by first | exact trivial | exact Or.inr rfl | exact Or.inl rfl | (simp only [ob, obA, R32, R64] at *; omega) | (simp only [ob, obA, R32, R64] at *; and_intros <;> omega) | (simp [ob, obA])) ?_
            refine V_icmpne dX12_book_62 (tgt := 74) (by decide) (by simp only [R32, R64] at *; omega) (fun q62 => ?_) (fun q62 => ?_)
            · refine V_ex sX12_book_74 (by rfl) (by first | exact trivial | exact Or.inr rfl | exact Or.inl rfl | (simp only [ob, obA, R32, R64] at *; omega) | (simp only [ob, obA, R32, R64] at *; and_intros <;> omega) | (simp [ob, obA])) ?_
              refine V_callV (M := MX12_book) (N := MX12_fail) dX12_book_76 lRX12_324 kX12_fail rfl (rfl) rfl (c_mfail (d := 2) hκ) rfl rfl (Nat.le_of_ble_eq_true rfl) (fit_rm (by omega)) (⟨Nat.le_of_ble_eq_true rfl, Nat.le_of_ble_eq_true rfl⟩) (fun v Ω' hp => ?_) (fun _ _ h => h.elim)
              obtain ⟨rfl, rfl⟩ := hp
              refine V_iret dX12_book_79 rfl (by decide) (by rw [if_neg q20, if_neg q34, if_neg q48, if_neg q62]; exact md_1 hC rfl rfl)
            · refine V_ex sX12_book_65 (by simp only [Option.toList, List.cons_append, List.nil_append, exN, ex1, gI, gL, gR, pI, pL, pR, lget, lset1, lset2, kl, b2I, b2L, nob, ob32, ob64, xGet, xPut, xLen, xLd, xLdR, xSt, obA, true_and, and_true, and_self, eq_self, Nat.reduceEqDiff, Nat.zero_ne_one, reduceIte, Nat.reduceLeDiff, and_false, false_and, show skd 11 5 = 2 from rfl, show LF.1 145 = some (.inl 11) from rfl, show LF.2 145 5 = some 150 from rfl, show LF.1 150 = some (.inr (0, 12)) from rfl, asn (show 149 ≠ 145 by decide), asn (show 150 ≠ 145 by decide), asn (show 151 ≠ 145 by decide), asn (show 152 ≠ 145 by decide), m1, m2, m3, m5, Int.toNat_natCast, upd2_eq, Int.reduceToNat, Int.toNat_natCast]; rfl) (by first | exact trivial | exact Or.inr rfl | exact Or.inl rfl | (simp only [ob, obA, R32, R64] at *; omega) | (simp only [ob, obA, R32, R64] at *; and_intros <;> omega) | (simp [ob, obA])) ?_
              refine V_goto dX12_book_71 (tgt := 79) (by decide) ?_
              refine V_iret dX12_book_79 rfl (by decide) (by rw [if_neg q20, if_neg q34, if_neg q48, if_pos q62]; exact md_0 hC rfl rfl)
          · refine V_ex sX12_book_51 (by simp only [Option.toList, List.cons_append, List.nil_append, exN, ex1, gI, gL, gR, pI, pL, pR, lget, lset1, lset2, kl, b2I, b2L, nob, ob32, ob64, xGet, xPut, xLen, xLd, xLdR, xSt, obA, true_and, and_true, and_self, eq_self, Nat.reduceEqDiff, Nat.zero_ne_one, reduceIte, Nat.reduceLeDiff, and_false, false_and, show skd 11 7 = 2 from rfl, show LF.1 145 = some (.inl 11) from rfl, show LF.2 145 7 = some 152 from rfl, show LF.1 152 = some (.inr (0, 12)) from rfl, asn (show 149 ≠ 145 by decide), asn (show 150 ≠ 145 by decide), asn (show 151 ≠ 145 by decide), asn (show 152 ≠ 145 by decide), m1, m2, m3, m5, Int.toNat_natCast, upd2_eq, Int.reduceToNat, Int.toNat_natCast]; rfl) (by first | exact trivial | exact Or.inr rfl | exact Or.inl rfl | (simp only [ob, obA, R32, R64] at *; omega) | (simp only [ob, obA, R32, R64] at *; and_intros <;> omega) | (simp [ob, obA])) ?_
            refine V_goto dX12_book_57 (tgt := 79) (by decide) ?_
            refine V_iret dX12_book_79 rfl (by decide) (by rw [if_neg q20, if_neg q34, if_pos q48]; exact md_0 hC rfl rfl)
        · refine V_ex sX12_book_37 (by simp only [Option.toList, List.cons_append, List.nil_append, exN, ex1, gI, gL, gR, pI, pL, pR, lget, lset1, lset2, kl, b2I, b2L, nob, ob32, ob64, xGet, xPut, xLen, xLd, xLdR, xSt, obA, true_and, and_true, and_self, eq_self, Nat.reduceEqDiff, Nat.zero_ne_one, reduceIte, Nat.reduceLeDiff, and_false, false_and, show skd 11 6 = 2 from rfl, show LF.1 145 = some (.inl 11) from rfl, show LF.2 145 6 = some 151 from rfl, show LF.1 151 = some (.inr (0, 12)) from rfl, asn (show 149 ≠ 145 by decide), asn (show 150 ≠ 145 by decide), asn (show 151 ≠ 145 by decide), asn (show 152 ≠ 145 by decide), m1, m2, m3, m5, Int.toNat_natCast, upd2_eq, Int.reduceToNat, Int.toNat_natCast]; rfl) (by first | exact trivial | exact Or.inr rfl | exact Or.inl rfl | (simp only [ob, obA, R32, R64] at *; omega) | (simp only [ob, obA, R32, R64] at *; and_intros <;> omega) | (simp [ob, obA])) ?_
          refine V_goto dX12_book_43 (tgt := 79) (by decide) ?_
          refine V_iret dX12_book_79 rfl (by decide) (by rw [if_neg q20, if_pos q34]; exact md_0 hC rfl rfl)
      · refine V_ex sX12_book_23 (by simp only [Option.toList, List.cons_append, List.nil_append, exN, ex1, gI, gL, gR, pI, pL, pR, lget, lset1, lset2, kl, b2I, b2L, nob, ob32, ob64, xGet, xPut, xLen, xLd, xLdR, xSt, obA, true_and, and_true, and_self, eq_self, Nat.reduceEqDiff, Nat.zero_ne_one, reduceIte, Nat.reduceLeDiff, and_false, false_and, show skd 11 4 = 2 from rfl, show LF.1 145 = some (.inl 11) from rfl, show LF.2 145 4 = some 149 from rfl, show LF.1 149 = some (.inr (0, 12)) from rfl, asn (show 149 ≠ 145 by decide), asn (show 150 ≠ 145 by decide), asn (show 151 ≠ 145 by decide), asn (show 152 ≠ 145 by decide), m1, m2, m3, m5, Int.toNat_natCast, upd2_eq, Int.reduceToNat, Int.toNat_natCast]; rfl) (by first | exact trivial | exact Or.inr rfl | exact Or.inl rfl | (simp only [ob, obA, R32, R64] at *; omega) | (simp only [ob, obA, R32, R64] at *; and_intros <;> omega) | (simp [ob, obA])) ?_
        refine V_goto dX12_book_29 (tgt := 79) (by decide) ?_
        refine V_iret dX12_book_79 rfl (by decide) (by rw [if_pos q20]; exact md_0 hC rfl rfl)
    · exact absurd hin (of_decide_eq_false q10)
  · have e : bookP A i w = (1, 0) := by unfold bookP; rw [if_pos hin]
    refine V_ex sX12_book_0 (by simp only [Option.toList, List.cons_append, List.nil_append, exN, ex1, gI, gL, gR, pI, pL, pR, lget, lset1, lset2, kl, b2I, b2L, nob, ob32, ob64, xGet, xPut, xLen, xLd, xLdR, xSt, obA, true_and, and_true, and_self, eq_self, Nat.reduceEqDiff, Nat.zero_ne_one, reduceIte, Nat.reduceLeDiff, and_false, false_and, show skd 11 2 = 0 from rfl, show LF.1 145 = some (.inl 11) from rfl, upd2_eq, Int.reduceToNat, Int.toNat_natCast]; rfl) (by first | exact trivial | exact Or.inr rfl | exact Or.inl rfl | (simp only [ob, obA, R32, R64] at *; omega) | (simp only [ob, obA, R32, R64] at *; and_intros <;> omega) | (simp [ob, obA])) ?_
    refine V_callV (M := MX12_book) (N := MX12_isBook) dX12_book_7 lRX12_386 kX12_isBook rfl (rfl) rfl (c_mIsBook (d := 2) hκ hC1.1 hI.1 hi (by omega)) rfl rfl (Nat.le_of_ble_eq_true rfl) (fit_rm (by omega)) (⟨Nat.le_of_ble_eq_true rfl, Nat.le_of_ble_eq_true rfl⟩) (fun v Ω' hp => ?_) (fun _ _ h => h.elim)
    obtain ⟨rfl, rfl⟩ := hp
    refine V_ifneB dX12_book_10 (tgt := 19) (by decide) (fun q10 => ?_) (fun q10 => ?_)
    · exact absurd (of_decide_eq_true q10) hin
    · refine V_ex sX12_book_13 (by rfl) (by first | exact trivial | exact Or.inr rfl | exact Or.inl rfl | (simp only [ob, obA, R32, R64] at *; omega) | (simp only [ob, obA, R32, R64] at *; and_intros <;> omega) | (simp [ob, obA])) ?_
      refine V_callV (M := MX12_book) (N := MX12_fail) dX12_book_15 lRX12_324 kX12_fail rfl (rfl) rfl (c_mfail (d := 2) hκ) rfl rfl (Nat.le_of_ble_eq_true rfl) (fit_rm (by omega)) (⟨Nat.le_of_ble_eq_true rfl, Nat.le_of_ble_eq_true rfl⟩) (fun v Ω' hp => ?_) (fun _ _ h => h.elim)
      obtain ⟨rfl, rfl⟩ := hp
      refine V_iret dX12_book_18 rfl (by decide) (md_1 hC (by rw [e]) (by rw [e]))
set_option maxRecDepth 100000 in
set_option maxHeartbeats 4000000 in
theorem c_mxIsThere {κ : Kx} (hκ : KOK κ) {d : Nat} {K i l : Int} {A : Ab} {G : Wd} (hC : RM G A) (hI : Inv K A) (hi : R32 i) (hl : R32 l) (hd : 20 ≤ d) : Ct κ MX12_isThere d 0 0 [VR 145, VI i, VI l] (Wm G) (mdP G A (some (VI (isThereP A i l).2)) (isThereP A i l).1) noX := by
  refine Ct_of hκ kX12_isThere.1 rfl (Nat.le_of_ble_eq_true rfl) (ls := [some (VR 145), some (VI i), some (VI l)]) rfl (fun μ => ?_)
  have hC1 := (RM_f hC (fn0 G 0)).1
  have hl64 := r32_64 hl
  by_cases hin : inB A.1 i
  · obtain ⟨j, hj⟩ : ∃ j : Nat, i = (j : Int) := ⟨i.toNat, by have := hin.1; omega⟩
    subst hj
    have hj : j < A.1.1.length := by have := hin.2; omega
    obtain ⟨m1, m2, m3, m4, m5, m6⟩ := mS0_b hC.1 hj
    obtain ⟨g1, g2, g3, g4, g5⟩ := gone_ok hI.1 hj
    have hj6 : j < 6 := by have := hI.1.1; omega
    have en : ¬ (0 ≤ l ∧ l ≤ (bkJ A.1 j).2.2.1 - 1) → isThereP A (j : Nat) l = (1, 0) := fun h => by unfold isThereP; rw [if_pos (fun q => h ⟨q.2.1, by have h3 : l < (bkJ A.1 j).2.2.1 := q.2.2; omega⟩)]
    have ey : (0 ≤ l ∧ l ≤ (bkJ A.1 j).2.2.1 - 1) → isThereP A (j : Nat) l = (0, b2i (!decide (l ∈ (bkJ A.1 j).2.2.2.2.2))) := fun h => by unfold isThereP; rw [if_neg (fun q => q ⟨hin, h.1, by show l < (bkJ A.1 j).2.2.1; omega⟩)]; rfl
    refine V_ex sX12_isThere_0 (by simp only [Option.toList, List.cons_append, List.nil_append, exN, ex1, gI, gL, gR, pI, pL, pR, lget, lset1, lset2, kl, b2I, b2L, nob, ob32, ob64, xGet, xPut, xLen, xLd, xLdR, xSt, obA, true_and, and_true, and_self, eq_self, Nat.reduceEqDiff, Nat.zero_ne_one, reduceIte, Nat.reduceLeDiff, and_false, false_and, show skd 11 2 = 0 from rfl, show LF.1 145 = some (.inl 11) from rfl, upd2_eq, Int.reduceToNat, Int.toNat_natCast]; rfl) (by first | exact trivial | exact Or.inr rfl | exact Or.inl rfl | (simp only [ob, obA, R32, R64] at *; omega) | (simp only [ob, obA, R32, R64] at *; and_intros <;> omega) | (simp [ob, obA])) ?_
    refine V_callV (M := MX12_isThere) (N := MX12_isBook) dX12_isThere_7 lRX12_386 kX12_isBook rfl (rfl) rfl (c_mIsBook (d := 2) hκ hC1.1 hI.1 hi (by omega)) rfl rfl (Nat.le_of_ble_eq_true rfl) (fit_rm (by omega)) (⟨Nat.le_of_ble_eq_true rfl, Nat.le_of_ble_eq_true rfl⟩) (fun v Ω' hp => ?_) (fun _ _ h => h.elim)
    obtain ⟨rfl, rfl⟩ := hp
    refine V_ifeqB dX12_isThere_10 (tgt := 31) (by decide) (fun q10 => ?_) (fun q10 => ?_)
    · exact absurd hin (of_decide_eq_false q10)
    · refine V_ex sX12_isThere_13 (by simp only [Option.toList, List.cons_append, List.nil_append, exN, ex1, gI, gL, gR, pI, pL, pR, lget, lset1, lset2, kl, b2I, b2L, nob, ob32, ob64, xGet, xPut, xLen, xLd, xLdR, xSt, obA, true_and, and_true, and_self, eq_self, Nat.reduceEqDiff, Nat.zero_ne_one, reduceIte, Nat.reduceLeDiff, and_false, false_and, show skd 11 6 = 2 from rfl, show LF.1 145 = some (.inl 11) from rfl, show LF.2 145 6 = some 151 from rfl, show LF.1 151 = some (.inr (0, 12)) from rfl, asn (show 151 ≠ 145 by decide), m3, Int.toNat_natCast, upd2_eq, Int.reduceToNat, Int.toNat_natCast]; rfl) (by first | exact trivial | exact Or.inr rfl | exact Or.inl rfl | (simp only [ob, obA, R32, R64] at *; omega) | (simp only [ob, obA, R32, R64] at *; and_intros <;> omega) | (simp [ob, obA])) ?_
      refine V_callS (M := MX12_isThere) (N := MX12_isIn) dX12_isThere_25 lRX12_178 kX12_isIn rfl (c_misIn (d := 2) hκ hl64 (by unfold R64; omega) (by unfold R64; omega)) rfl rfl (Nat.le_of_ble_eq_true rfl) (fit_rm (by omega)) (⟨Nat.le_of_ble_eq_true rfl, Nat.le_of_ble_eq_true rfl⟩) (fun v Ω' hp => ?_) (fun _ _ h => h.elim)
      obtain ⟨rfl, rfl⟩ := hp
      refine V_ifneB dX12_isThere_28 (tgt := 38) (by decide) (fun q28 => ?_) (fun q28 => ?_)
      · refine V_ex sX12_isThere_38 (by rfl) (by first | exact trivial | exact Or.inr rfl | exact Or.inl rfl | (simp only [ob, obA, R32, R64] at *; omega) | (simp only [ob, obA, R32, R64] at *; and_intros <;> omega) | (simp [ob, obA])) ?_
        refine V_callV (M := MX12_isThere) (N := MX12_isOut) dX12_isThere_41 lRX12_389 kX12_isOut rfl (rfl) rfl (c_mIsOut (d := 2) hκ hC1.1 hI.1 hj hl (by omega)) rfl rfl (Nat.le_of_ble_eq_true rfl) (fit_rm (by omega)) (⟨Nat.le_of_ble_eq_true rfl, Nat.le_of_ble_eq_true rfl⟩) (fun v Ω' hp => ?_) (fun _ _ h => h.elim)
        obtain ⟨rfl, rfl⟩ := hp
        refine V_ifneB dX12_isThere_44 (tgt := 51) (by decide) (fun q44 => ?_) (fun q44 => ?_)
        · refine V_ex sX12_isThere_51 (by rfl) (by first | exact trivial | exact Or.inr rfl | exact Or.inl rfl | (simp only [ob, obA, R32, R64] at *; omega) | (simp only [ob, obA, R32, R64] at *; and_intros <;> omega) | (simp [ob, obA])) ?_
          refine V_zret dX12_isThere_52 rfl (by first | exact Or.inl rfl | exact Or.inr rfl | exact b2i_01 _) (by decide) (by rw [ey (of_decide_eq_true q28), q44]; exact md_0 hC rfl rfl)
        · refine V_ex sX12_isThere_47 (by rfl) (by first | exact trivial | exact Or.inr rfl | exact Or.inl rfl | (simp only [ob, obA, R32, R64] at *; omega) | (simp only [ob, obA, R32, R64] at *; and_intros <;> omega) | (simp [ob, obA])) ?_
          refine V_goto dX12_isThere_48 (tgt := 52) (by decide) ?_
          refine V_zret dX12_isThere_52 rfl (by first | exact Or.inl rfl | exact Or.inr rfl | exact b2i_01 _) (by decide) (by rw [ey (of_decide_eq_true q28), q44]; exact md_0 hC rfl rfl)
      · refine V_ex sX12_isThere_31 (by simp only [Option.toList, List.cons_append, List.nil_append, exN, ex1, gI, gL, gR, pI, pL, pR, lget, lset1, lset2, kl, b2I, b2L, nob, ob32, ob64, xGet, xPut, xLen, xLd, xLdR, xSt, obA, true_and, and_true, and_self, eq_self, Nat.reduceEqDiff, Nat.zero_ne_one, reduceIte, Nat.reduceLeDiff, and_false, false_and, show skd 11 2 = 0 from rfl, show LF.1 145 = some (.inl 11) from rfl, upd2_eq, Int.reduceToNat, Int.toNat_natCast]; rfl) (by first | exact trivial | exact Or.inr rfl | exact Or.inl rfl | (simp only [ob, obA, R32, R64] at *; omega) | (simp only [ob, obA, R32, R64] at *; and_intros <;> omega) | (simp [ob, obA])) ?_
        refine V_zret dX12_isThere_37 rfl (by first | exact Or.inl rfl | exact Or.inr rfl | exact b2i_01 _) (by decide) (by rw [en (of_decide_eq_false q28)]; exact md_1 hC rfl rfl)
  · have e : isThereP A i l = (1, 0) := by unfold isThereP; rw [if_pos (fun q => hin q.1)]
    refine V_ex sX12_isThere_0 (by simp only [Option.toList, List.cons_append, List.nil_append, exN, ex1, gI, gL, gR, pI, pL, pR, lget, lset1, lset2, kl, b2I, b2L, nob, ob32, ob64, xGet, xPut, xLen, xLd, xLdR, xSt, obA, true_and, and_true, and_self, eq_self, Nat.reduceEqDiff, Nat.zero_ne_one, reduceIte, Nat.reduceLeDiff, and_false, false_and, show skd 11 2 = 0 from rfl, show LF.1 145 = some (.inl 11) from rfl, upd2_eq, Int.reduceToNat, Int.toNat_natCast]; rfl) (by first | exact trivial | exact Or.inr rfl | exact Or.inl rfl | (simp only [ob, obA, R32, R64] at *; omega) | (simp only [ob, obA, R32, R64] at *; and_intros <;> omega) | (simp [ob, obA])) ?_
    refine V_callV (M := MX12_isThere) (N := MX12_isBook) dX12_isThere_7 lRX12_386 kX12_isBook rfl (rfl) rfl (c_mIsBook (d := 2) hκ hC1.1 hI.1 hi (by omega)) rfl rfl (Nat.le_of_ble_eq_true rfl) (fit_rm (by omega)) (⟨Nat.le_of_ble_eq_true rfl, Nat.le_of_ble_eq_true rfl⟩) (fun v Ω' hp => ?_) (fun _ _ h => h.elim)
    obtain ⟨rfl, rfl⟩ := hp
    refine V_ifeqB dX12_isThere_10 (tgt := 31) (by decide) (fun q10 => ?_) (fun q10 => ?_)
    · refine V_ex sX12_isThere_31 (by simp only [Option.toList, List.cons_append, List.nil_append, exN, ex1, gI, gL, gR, pI, pL, pR, lget, lset1, lset2, kl, b2I, b2L, nob, ob32, ob64, xGet, xPut, xLen, xLd, xLdR, xSt, obA, true_and, and_true, and_self, eq_self, Nat.reduceEqDiff, Nat.zero_ne_one, reduceIte, Nat.reduceLeDiff, and_false, false_and, show skd 11 2 = 0 from rfl, show LF.1 145 = some (.inl 11) from rfl, upd2_eq, Int.reduceToNat, Int.toNat_natCast]; rfl) (by first | exact trivial | exact Or.inr rfl | exact Or.inl rfl | (simp only [ob, obA, R32, R64] at *; omega) | (simp only [ob, obA, R32, R64] at *; and_intros <;> omega) | (simp [ob, obA])) ?_
      refine V_zret dX12_isThere_37 rfl (by first | exact Or.inl rfl | exact Or.inr rfl | exact b2i_01 _) (by decide) (md_1 hC (by rw [e]) (by rw [e]))
    · exact absurd (of_decide_eq_true q10) hin
set_option maxRecDepth 100000 in
set_option maxHeartbeats 4000000 in
theorem c_mxNumber {κ : Kx} (hκ : KOK κ) {d : Nat} {K i p : Int} {A : Ab} {G : Wd} (hC : RM G A) (hI : Inv K A) (hi : R32 i) (hp : R32 p) (hd : 20 ≤ d) : Ct κ MX12_number d 0 0 [VR 145, VI i, VI p] (Wm G) (mdP G A (some (VI (numberP A i p).2)) (numberP A i p).1) noX := by
  refine Ct_of hκ kX12_number.1 rfl (Nat.le_of_ble_eq_true rfl) (ls := [some (VR 145), some (VI i), some (VI p)]) rfl (fun μ => ?_)
  have hC1 := (RM_f hC (fn0 G 0)).1
  have hp64 := r32_64 hp
  by_cases hin : inB A.1 i
  · obtain ⟨j, hj⟩ : ∃ j : Nat, i = (j : Int) := ⟨i.toNat, by have := hin.1; omega⟩
    subst hj
    have hj : j < A.1.1.length := by have := hin.2; omega
    obtain ⟨m1, m2, m3, m4, m5, m6⟩ := mS0_b hC.1 hj
    obtain ⟨g1, g2, g3, g4, g5⟩ := gone_ok hI.1 hj
    have hj6 : j < 6 := by have := hI.1.1; omega
    by_cases hpp : 1 ≤ p ∧ p ≤ 2 * (bkJ A.1 j).2.2.1
    · obtain ⟨q, rfl⟩ : ∃ q : Nat, p = (q : Int) := ⟨p.toNat, by omega⟩
      have e : numberP A (j : Nat) (q : Nat) = (0, numB (cdS A.1) (bkJ A.1 j) (q : Int)) := by unfold numberP; rw [if_neg (fun h => h ⟨hin, hpp⟩)]; rfl
      refine V_ex sX12_number_0 (by simp only [Option.toList, List.cons_append, List.nil_append, exN, ex1, gI, gL, gR, pI, pL, pR, lget, lset1, lset2, kl, b2I, b2L, nob, ob32, ob64, xGet, xPut, xLen, xLd, xLdR, xSt, obA, true_and, and_true, and_self, eq_self, Nat.reduceEqDiff, Nat.zero_ne_one, reduceIte, Nat.reduceLeDiff, and_false, false_and, show skd 11 2 = 0 from rfl, show LF.1 145 = some (.inl 11) from rfl, upd2_eq, Int.reduceToNat, Int.toNat_natCast]; rfl) (by first | exact trivial | exact Or.inr rfl | exact Or.inl rfl | (simp only [ob, obA, R32, R64] at *; omega) | (simp only [ob, obA, R32, R64] at *; and_intros <;> omega) | (simp [ob, obA])) ?_
      refine V_callV (M := MX12_number) (N := MX12_isBook) dX12_number_7 lRX12_386 kX12_isBook rfl (rfl) rfl (c_mIsBook (d := 2) hκ hC1.1 hI.1 hi (by omega)) rfl rfl (Nat.le_of_ble_eq_true rfl) (fit_rm (by omega)) (⟨Nat.le_of_ble_eq_true rfl, Nat.le_of_ble_eq_true rfl⟩) (fun v Ω' hp => ?_) (fun _ _ h => h.elim)
      obtain ⟨rfl, rfl⟩ := hp
      refine V_ifeqB dX12_number_10 (tgt := 40) (by decide) (fun q10 => ?_) (fun q10 => ?_)
      · exact absurd hin (of_decide_eq_false q10)
      · refine V_ex sX12_number_13 (by simp only [Option.toList, List.cons_append, List.nil_append, exN, ex1, gI, gL, gR, pI, pL, pR, lget, lset1, lset2, kl, b2I, b2L, nob, ob32, ob64, xGet, xPut, xLen, xLd, xLdR, xSt, obA, true_and, and_true, and_self, eq_self, Nat.reduceEqDiff, Nat.zero_ne_one, reduceIte, Nat.reduceLeDiff, and_false, false_and, show skd 11 6 = 2 from rfl, show LF.1 145 = some (.inl 11) from rfl, show LF.2 145 6 = some 151 from rfl, show LF.1 151 = some (.inr (0, 12)) from rfl, asn (show 151 ≠ 145 by decide), m3, Int.toNat_natCast, upd2_eq, Int.reduceToNat, Int.toNat_natCast]; rfl) (by first | exact trivial | exact Or.inr rfl | exact Or.inl rfl | (simp only [ob, obA, R32, R64] at *; omega) | (simp only [ob, obA, R32, R64] at *; and_intros <;> omega) | (simp [ob, obA])) ?_
        refine V_callS (M := MX12_number) (N := MX12_isIn) dX12_number_25 lRX12_178 kX12_isIn rfl (c_misIn (d := 2) hκ hp64 (by unfold R64; omega) (by unfold R64; omega)) rfl rfl (Nat.le_of_ble_eq_true rfl) (fit_rm (by omega)) (⟨Nat.le_of_ble_eq_true rfl, Nat.le_of_ble_eq_true rfl⟩) (fun v Ω' hp => ?_) (fun _ _ h => h.elim)
        obtain ⟨rfl, rfl⟩ := hp
        refine V_ifeqB dX12_number_28 (tgt := 40) (by decide) (fun q28 => ?_) (fun q28 => ?_)
        · exact absurd hpp (of_decide_eq_false q28)
        · refine V_ex sX12_number_31 (by rfl) (by first | exact trivial | exact Or.inr rfl | exact Or.inl rfl | (simp only [ob, obA, R32, R64] at *; omega) | (simp only [ob, obA, R32, R64] at *; and_intros <;> omega) | (simp [ob, obA])) ?_
          refine V_callV (M := MX12_number) (N := MX12_numberOn) dX12_number_34 lRX12_393 kX12_numberOn rfl (rfl) rfl (c_mNumOn (d := 2) hκ (p := q) hC1.1 hI.1 hj (by omega) (by omega)) rfl rfl (Nat.le_of_ble_eq_true rfl) (fit_rm (by omega)) (⟨Nat.le_of_ble_eq_true rfl, Nat.le_of_ble_eq_true rfl⟩) (fun v Ω' hp => ?_) (fun _ _ h => h.elim)
          obtain ⟨rfl, G2, rfl, f2⟩ := hp
          obtain ⟨f3, c3⟩ := fn_c (fn0 G 0) f2
          refine V_goto dX12_number_37 (tgt := 45) (by decide) ?_
          refine V_iret dX12_number_45 rfl (by decide) (by rw [e]; exact md_f hC f3 rfl (by rw [c3]; exact iu))
    · have e : numberP A (j : Nat) p = (1, 0) := by unfold numberP; rw [if_pos (fun q => hpp q.2)]
      refine V_ex sX12_number_0 (by simp only [Option.toList, List.cons_append, List.nil_append, exN, ex1, gI, gL, gR, pI, pL, pR, lget, lset1, lset2, kl, b2I, b2L, nob, ob32, ob64, xGet, xPut, xLen, xLd, xLdR, xSt, obA, true_and, and_true, and_self, eq_self, Nat.reduceEqDiff, Nat.zero_ne_one, reduceIte, Nat.reduceLeDiff, and_false, false_and, show skd 11 2 = 0 from rfl, show LF.1 145 = some (.inl 11) from rfl, upd2_eq, Int.reduceToNat, Int.toNat_natCast]; rfl) (by first | exact trivial | exact Or.inr rfl | exact Or.inl rfl | (simp only [ob, obA, R32, R64] at *; omega) | (simp only [ob, obA, R32, R64] at *; and_intros <;> omega) | (simp [ob, obA])) ?_
      refine V_callV (M := MX12_number) (N := MX12_isBook) dX12_number_7 lRX12_386 kX12_isBook rfl (rfl) rfl (c_mIsBook (d := 2) hκ hC1.1 hI.1 hi (by omega)) rfl rfl (Nat.le_of_ble_eq_true rfl) (fit_rm (by omega)) (⟨Nat.le_of_ble_eq_true rfl, Nat.le_of_ble_eq_true rfl⟩) (fun v Ω' hp => ?_) (fun _ _ h => h.elim)
      obtain ⟨rfl, rfl⟩ := hp
      refine V_ifeqB dX12_number_10 (tgt := 40) (by decide) (fun q10 => ?_) (fun q10 => ?_)
      · exact absurd hin (of_decide_eq_false q10)
      · refine V_ex sX12_number_13 (by simp only [Option.toList, List.cons_append, List.nil_append, exN, ex1, gI, gL, gR, pI, pL, pR, lget, lset1, lset2, kl, b2I, b2L, nob, ob32, ob64, xGet, xPut, xLen, xLd, xLdR, xSt, obA, true_and, and_true, and_self, eq_self, Nat.reduceEqDiff, Nat.zero_ne_one, reduceIte, Nat.reduceLeDiff, and_false, false_and, show skd 11 6 = 2 from rfl, show LF.1 145 = some (.inl 11) from rfl, show LF.2 145 6 = some 151 from rfl, show LF.1 151 = some (.inr (0, 12)) from rfl, asn (show 151 ≠ 145 by decide), m3, Int.toNat_natCast, upd2_eq, Int.reduceToNat, Int.toNat_natCast]; rfl) (by first | exact trivial | exact Or.inr rfl | exact Or.inl rfl | (simp only [ob, obA, R32, R64] at *; omega) | (simp only [ob, obA, R32, R64] at *; and_intros <;> omega) | (simp [ob, obA])) ?_
        refine V_callS (M := MX12_number) (N := MX12_isIn) dX12_number_25 lRX12_178 kX12_isIn rfl (c_misIn (d := 2) hκ hp64 (by unfold R64; omega) (by unfold R64; omega)) rfl rfl (Nat.le_of_ble_eq_true rfl) (fit_rm (by omega)) (⟨Nat.le_of_ble_eq_true rfl, Nat.le_of_ble_eq_true rfl⟩) (fun v Ω' hp => ?_) (fun _ _ h => h.elim)
        obtain ⟨rfl, rfl⟩ := hp
        refine V_ifeqB dX12_number_28 (tgt := 40) (by decide) (fun q28 => ?_) (fun q28 => ?_)
        · refine V_ex sX12_number_40 (by rfl) (by first | exact trivial | exact Or.inr rfl | exact Or.inl rfl | (simp only [ob, obA, R32, R64] at *; omega) | (simp only [ob, obA, R32, R64] at *; and_intros <;> omega) | (simp [ob, obA])) ?_
          refine V_callV (M := MX12_number) (N := MX12_fail) dX12_number_42 lRX12_324 kX12_fail rfl (rfl) rfl (c_mfail (d := 2) hκ) rfl rfl (Nat.le_of_ble_eq_true rfl) (fit_rm (by omega)) (⟨Nat.le_of_ble_eq_true rfl, Nat.le_of_ble_eq_true rfl⟩) (fun v Ω' hp => ?_) (fun _ _ h => h.elim)
          obtain ⟨rfl, rfl⟩ := hp
          refine V_iret dX12_number_45 rfl (by decide) (md_1 hC (by rw [e]) (by rw [e]))
        · exact absurd (of_decide_eq_true q28) hpp
  · have e : numberP A i p = (1, 0) := by unfold numberP; rw [if_pos (fun q => hin q.1)]
    refine V_ex sX12_number_0 (by simp only [Option.toList, List.cons_append, List.nil_append, exN, ex1, gI, gL, gR, pI, pL, pR, lget, lset1, lset2, kl, b2I, b2L, nob, ob32, ob64, xGet, xPut, xLen, xLd, xLdR, xSt, obA, true_and, and_true, and_self, eq_self, Nat.reduceEqDiff, Nat.zero_ne_one, reduceIte, Nat.reduceLeDiff, and_false, false_and, show skd 11 2 = 0 from rfl, show LF.1 145 = some (.inl 11) from rfl, upd2_eq, Int.reduceToNat, Int.toNat_natCast]; rfl) (by first | exact trivial | exact Or.inr rfl | exact Or.inl rfl | (simp only [ob, obA, R32, R64] at *; omega) | (simp only [ob, obA, R32, R64] at *; and_intros <;> omega) | (simp [ob, obA])) ?_
    refine V_callV (M := MX12_number) (N := MX12_isBook) dX12_number_7 lRX12_386 kX12_isBook rfl (rfl) rfl (c_mIsBook (d := 2) hκ hC1.1 hI.1 hi (by omega)) rfl rfl (Nat.le_of_ble_eq_true rfl) (fit_rm (by omega)) (⟨Nat.le_of_ble_eq_true rfl, Nat.le_of_ble_eq_true rfl⟩) (fun v Ω' hp => ?_) (fun _ _ h => h.elim)
    obtain ⟨rfl, rfl⟩ := hp
    refine V_ifeqB dX12_number_10 (tgt := 40) (by decide) (fun q10 => ?_) (fun q10 => ?_)
    · refine V_ex sX12_number_40 (by rfl) (by first | exact trivial | exact Or.inr rfl | exact Or.inl rfl | (simp only [ob, obA, R32, R64] at *; omega) | (simp only [ob, obA, R32, R64] at *; and_intros <;> omega) | (simp [ob, obA])) ?_
      refine V_callV (M := MX12_number) (N := MX12_fail) dX12_number_42 lRX12_324 kX12_fail rfl (rfl) rfl (c_mfail (d := 2) hκ) rfl rfl (Nat.le_of_ble_eq_true rfl) (fit_rm (by omega)) (⟨Nat.le_of_ble_eq_true rfl, Nat.le_of_ble_eq_true rfl⟩) (fun v Ω' hp => ?_) (fun _ _ h => h.elim)
      obtain ⟨rfl, rfl⟩ := hp
      refine V_iret dX12_number_45 rfl (by decide) (md_1 hC (by rw [e]) (by rw [e]))
    · exact absurd (of_decide_eq_true q10) hin
