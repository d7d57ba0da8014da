/-! TornLeaves: way -/
theorem wayP_5 {s k n i : Int} (h1 : 1 ≤ s ∧ s ≤ 1000000000000000000) (h2 : 1 ≤ k ∧ k ≤ 60) (h3 : 1 ≤ n ∧ n ≤ 30) : wayP s k n i = if i < 0 ∨ rowsS k n (leafTot s k n) ≤ i then (1, 0) else (0, wayF n.toNat 0 k.toNat (leafTot s k n) i 0) := by
  obtain ⟨t1, t2, t3⟩ := leafTot_60 h1 h2 (show 1 ≤ n ∧ n ≤ 60 by omega)
  rw [wayP, if_neg (not_not_intro ⟨h1, h2, h3⟩), rows_wyI (by omega) (by omega)]
  have hw : ¬ (n < k ∨ leafTot s k n = -1) → wyS 0 n k (leafTot s k n) = wyN 0 n.toNat k.toNat (leafTot s k n) := fun h => by
    rw [wyS, show (n - ((0 : Nat) : Int)).toNat = n.toNat by omega]
    by_cases c : k < 0 ∨ leafTot s k n < 0 ∨ 1799 < leafTot s k n
    · rw [if_pos c]
      rcases c with c | c | c
      · omega
      · rw [wyN_neg _ _ _ _ c]
      · refine (wyN_big ?_).symm
        have := Int.mul_le_mul (show (k.toNat : Int) ≤ 60 by omega) (show (n.toNat : Int) - 1 ≤ 29 by omega) (by omega) (by decide)
        omega
    · rw [if_neg c]
  have hz : (n < k ∨ leafTot s k n = -1) → wyN 0 n.toNat k.toNat (leafTot s k n) = 0 := fun h => by
    rcases h with h | h
    · exact wyN_small _ _ _ _ (by omega)
    · rw [h]; exact wyN_neg _ _ _ _ (by omega)
  by_cases c : n < k ∨ leafTot s k n = -1
  · rw [if_pos (Or.inl c), hz c, if_pos (by omega)]
  · rw [hw c]
    by_cases c2 : i < 0 ∨ wyN 0 n.toNat k.toNat (leafTot s k n) ≤ i
    · rw [if_pos (Or.inr c2), if_pos c2]
    · rw [if_neg (fun q => by rcases q with q | q; exact c q; exact c2 q), if_neg c2]
set_option maxRecDepth 100000 in
set_option maxHeartbeats 4000000 in
theorem c_xWay {κ : Kx} (hκ : KOK κ) {d s0 : Nat} {K s k n i : Int} {A : Ab} {G : Wd} (hC : RC G s0 A) (hI : Inv K A) (hR : aR G) (hs : R64 s) (hk : R32 k) (hn : R32 n) (hi : R64 i) (hd : 20 ≤ d) : Ct κ MX11_way d 16 128 [VR 1, VL s, VI k, VI n, VL i] (Wm G) (cP G A ((wayP s k n i).1 = 0) (some (VL (wayP s k n i).2))) (cX2 G A (wayP s k n i).1) := by
  refine Ct_of hκ kX11_way.1 rfl (Nat.le_of_ble_eq_true rfl) (ls := [some (VR 1), some (VL s), none, some (VI k), some (VI n), some (VL i), none, none, none]) rfl (fun μ => ?_)
  have hk64 : R64 k := r32_64 hk
  have hn64 : R64 n := r32_64 hn
  refine V_ex sX11_way_0 (by rfl) (by first | exact trivial | exact Or.inr rfl | exact Or.inl rfl | (simp only [ob, obA, R32, R64] at *; omega) | (simp only [ob, obA, R32, R64] at *; and_intros <;> omega) | (simp [ob, obA])) ?_
  refine V_callS (M := MX11_way) (N := MX11_needSum) dX11_way_1 lRX11_308 kX11_needSum rfl (c_needSum (d := 6) hκ hs (by omega)) rfl rfl (Nat.le_of_ble_eq_true rfl) (fit_rm (by omega)) (⟨Nat.le_of_ble_eq_true rfl, Nat.le_of_ble_eq_true rfl⟩) (fun v Ω' hp => ?_) (fun E Ω' h => ⟨by rw [h.2.1, h.2.2]; exact cX2_2 hC (by rw [wayP, if_pos (fun q => h.1 q.1)]), rfl, Nat.le_of_ble_eq_true rfl, Nat.le_of_ble_eq_true rfl⟩)
  obtain ⟨h1, rfl, rfl⟩ := hp
  refine V_ex sX11_way_4 (by rfl) (by first | exact trivial | exact Or.inr rfl | exact Or.inl rfl | (simp only [ob, obA, R32, R64] at *; omega) | (simp only [ob, obA, R32, R64] at *; and_intros <;> omega) | (simp [ob, obA])) ?_
  refine V_callS (M := MX11_way) (N := MX11_needWithin) dX11_way_10 lRX11_281 kX11_needWithin rfl (c_needWithin (d := 6) hκ hk64 (by unfold R64; omega) (by unfold R64; omega) (by omega)) rfl rfl (Nat.le_of_ble_eq_true rfl) (fit_rm (by omega)) (⟨Nat.le_of_ble_eq_true rfl, Nat.le_of_ble_eq_true rfl⟩) (fun v Ω' hp => ?_) (fun E Ω' h => ⟨by rw [h.2.1, h.2.2]; exact cX2_2 hC (by rw [wayP, if_pos (fun q => h.1 q.2.1)]), rfl, Nat.le_of_ble_eq_true rfl, Nat.le_of_ble_eq_true rfl⟩)
  obtain ⟨h2, rfl, rfl⟩ := hp
  refine V_ex sX11_way_13 (by rfl) (by first | exact trivial | exact Or.inr rfl | exact Or.inl rfl | (simp only [ob, obA, R32, R64] at *; omega) | (simp only [ob, obA, R32, R64] at *; and_intros <;> omega) | (simp [ob, obA])) ?_
  refine V_callS (M := MX11_way) (N := MX11_needWithin) dX11_way_20 lRX11_281 kX11_needWithin rfl (c_needWithin (d := 6) hκ hn64 (by unfold R64; omega) (by unfold R64; omega) (by omega)) rfl rfl (Nat.le_of_ble_eq_true rfl) (fit_rm (by omega)) (⟨Nat.le_of_ble_eq_true rfl, Nat.le_of_ble_eq_true rfl⟩) (fun v Ω' hp => ?_) (fun E Ω' h => ⟨by rw [h.2.1, h.2.2]; exact cX2_2 hC (by rw [wayP, if_pos (fun q => h.1 q.2.2)]), rfl, Nat.le_of_ble_eq_true rfl, Nat.le_of_ble_eq_true rfl⟩)
  obtain ⟨h3, rfl, rfl⟩ := hp
  obtain ⟨t1, t2, t3⟩ := leafTot_60 h1 h2 (show 1 ≤ n ∧ n ≤ 60 by omega)
  have e := wayP_5 (i := i) h1 h2 h3
  refine V_ex sX11_way_23 (by rfl) (by first | exact trivial | exact Or.inr rfl | exact Or.inl rfl | (simp only [ob, obA, R32, R64] at *; omega) | (simp only [ob, obA, R32, R64] at *; and_intros <;> omega) | (simp [ob, obA])) ?_
  refine V_callS (M := MX11_way) (N := MX10_leafTotal) dX11_way_28 lRX11_339 kX10_leafTotal rfl (c_leafTotal (d := 6) hκ hk t1) rfl rfl (Nat.le_of_ble_eq_true rfl) (fit_rm (by omega)) (⟨Nat.le_of_ble_eq_true rfl, Nat.le_of_ble_eq_true rfl⟩) (fun v Ω' hp => ?_) (fun _ _ h => h.elim)
  obtain ⟨rfl, rfl⟩ := hp
  refine V_ex sX11_way_31 (by rfl) (by exact ⟨hi, by unfold R64; omega⟩) ?_
  refine V_liflt dX11_way_37 (tgt := 58) (by decide) (fun q37 => ?_) (fun q37 => ?_)
  · refine V_throwW (M := MX11_way) (is := 349) (text := "no such way") tC_nse (by decide +kernel) dX11_way_58 (by decide +kernel) dX11_way_62 dX11_way_65 dX11_way_68 rfl (Nat.le_of_ble_eq_true rfl) ⟨by show 6 ≤ d; omega, by show 100 ≤ 100 + 40 * d; omega⟩ ⟨Nat.le_of_ble_eq_true rfl, Nat.le_of_ble_eq_true rfl⟩ ⟨Nat.le_of_ble_eq_true rfl, Nat.le_of_ble_eq_true rfl⟩ (cX2_1 hC (by rw [e, if_pos (Or.inl q37)]))
  · refine V_ex sX11_way_40 (by simp only [Option.toList, List.cons_append, List.nil_append, exN, ex1, gI, gL, gR, pI, pL, pR, lget, lset1, lset2, kl, b2I, b2L, nob, ob32, ob64, xGet, xPut, xLen, xLd, xLdR, xSt, obA, true_and, and_true, and_self, eq_self, Nat.reduceEqDiff, Nat.zero_ne_one, reduceIte, Nat.reduceLeDiff, and_false, false_and, show skd 10 12 = 2 from rfl, show LF.1 1 = some (.inl 10) from rfl, show LF.2 1 12 = some 133 from rfl, upd2_eq, Int.reduceToNat, Int.toNat_natCast]; rfl) (by first | exact trivial | exact Or.inr rfl | exact Or.inl rfl | (simp only [ob, obA, R32, R64] at *; omega) | (simp only [ob, obA, R32, R64] at *; and_intros <;> omega) | (simp [ob, obA])) ?_
    refine V_callV (M := MX11_way) (N := MX10_rows) dX11_way_51 lRX11_343 kX10_rows rfl (rfl) rfl (c_rows (d := 6) hκ hk hn ⟨by omega, by omega⟩ (by omega)) rfl rfl (Nat.le_of_ble_eq_true rfl) (fit_rm (by omega)) (⟨Nat.le_of_ble_eq_true rfl, Nat.le_of_ble_eq_true rfl⟩) (fun v Ω' hp => ?_) (fun _ _ h => h.elim)
    obtain ⟨rfl, G1, rfl, f1⟩ := hp
    have hrR : 0 ≤ rowsS k n (leafTot s k n) ∧ rowsS k n (leafTot s k n) ≤ 1152921504606846976 := by
      rw [rows_wyI (by omega) (by omega)]
      have q1 := wyN_R 0 n.toNat k.toNat (leafTot s k n)
      have q2 : (2 : Nat) ^ n.toNat ≤ 2 ^ 60 := Nat.pow_le_pow_right (by decide) (by omega)
      have q3 : ((2 ^ n.toNat : Nat) : Int) = (2 : Int) ^ n.toNat := by simp
      omega
    refine V_ex sX11_way_54 (by rfl) (by exact ⟨hi, by unfold R64; omega⟩) ?_
    refine V_liflt dX11_way_55 (tgt := 69) (by decide) (fun q55 => ?_) (fun q55 => ?_)
    · have hRA := c_rowAt (κ := κ) hκ (d := 6) (k := k.toNat) (n := n.toNat) (t := leafTot s k n) (i := i) (G := G1) (by omega) (by omega) ⟨by omega, by omega⟩ (by omega) (by rw [← rows_wyI (by omega) (by omega)]; exact q55) (by omega)
      rw [Int.toNat_of_nonneg (show 0 ≤ k by omega), Int.toNat_of_nonneg (show 0 ≤ n by omega)] at hRA
      refine V_ex sX11_way_69 (by simp only [Option.toList, List.cons_append, List.nil_append, exN, ex1, gI, gL, gR, pI, pL, pR, lget, lset1, lset2, kl, b2I, b2L, nob, ob32, ob64, xGet, xPut, xLen, xLd, xLdR, xSt, obA, true_and, and_true, and_self, eq_self, Nat.reduceEqDiff, Nat.zero_ne_one, reduceIte, Nat.reduceLeDiff, and_false, false_and, show skd 10 12 = 2 from rfl, show LF.1 1 = some (.inl 10) from rfl, show LF.2 1 12 = some 133 from rfl, upd2_eq, Int.reduceToNat, Int.toNat_natCast]; rfl) (by first | exact trivial | exact Or.inr rfl | exact Or.inl rfl | (simp only [ob, obA, R32, R64] at *; omega) | (simp only [ob, obA, R32, R64] at *; and_intros <;> omega) | (simp [ob, obA])) ?_
      refine V_callV (M := MX11_way) (N := MX10_rowAt) dX11_way_80 lRX11_351 kX10_rowAt rfl (rfl) rfl (hRA) rfl rfl (Nat.le_of_ble_eq_true rfl) (fit_rm (by omega)) (⟨Nat.le_of_ble_eq_true rfl, Nat.le_of_ble_eq_true rfl⟩) (fun v Ω' hp => ?_) (fun _ _ h => h.elim)
      obtain ⟨rfl, G2, rfl, f2⟩ := hp
      refine V_lret dX11_way_83 rfl (by decide) (by rw [e, if_neg (by omega)]; exact cP_s hC hI.1 ((f1.trans f2).mono (by simp) (by simp)) rfl rfl)
    · refine V_throwW (M := MX11_way) (is := 349) (text := "no such way") tC_nse (by decide +kernel) dX11_way_58 (by decide +kernel) dX11_way_62 dX11_way_65 dX11_way_68 rfl (Nat.le_of_ble_eq_true rfl) ⟨by show 6 ≤ d; omega, by show 100 ≤ 100 + 40 * d; omega⟩ ⟨Nat.le_of_ble_eq_true rfl, Nat.le_of_ble_eq_true rfl⟩ ⟨Nat.le_of_ble_eq_true rfl, Nat.le_of_ble_eq_true rfl⟩ ((by have := RC_s hC hI.1 (f1.mono (by simp) (by simp)); exact ⟨Or.inl ⟨by rw [e, if_pos (Or.inr q55)], rfl⟩, G1, s0, rfl, this.1, this.2⟩))
