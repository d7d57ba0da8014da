/-! TornLeaves: ways, way -/
theorem waysV_w {s k n : Int} (hk : 1 ≤ k ∧ k ≤ 60) (hn : 1 ≤ n ∧ n ≤ 60) (ht : leafTot s k n ≤ 100000) : waysV s k n = wyN 0 n.toNat k.toNat (leafTot s k n) := by
  unfold waysV
  by_cases h : n < k ∨ leafTot s k n = -1
  · rw [if_pos h]
    rcases h with h | h
    · rw [wyN_small _ _ _ _ (by omega)]
    · rw [h, wyN_neg _ _ _ _ (by omega)]
  · rw [if_neg h]
    have lim : ∀ (m : Nat) (t : Int), m ≤ 30 → 1799 < t → wyN 0 n.toNat m t = 0 := fun m t hm ht => wyN_big (by
      have := Int.mul_le_mul (show (m : Int) ≤ 30 by omega) (show (n.toNat : Int) - 1 ≤ 59 by omega) (by omega) (by decide); omega)
    by_cases h2 : n < 2 * k
    · rw [if_pos h2, wyS, show (n - ((0 : Nat) : Int)).toNat = n.toNat by omega]
      have hc := wyN_co n.toNat k.toNat (n - k).toNat (leafTot s k n) (by omega)
      have ht := (tri_e n.toNat).1
      rw [Int.toNat_of_nonneg (by omega)] at ht
      rw [← ht] at hc
      by_cases h3 : n - k < 0 ∨ n * (n - 1) / 2 - leafTot s k n < 0 ∨ 1799 < n * (n - 1) / 2 - leafTot s k n
      · rw [if_pos h3, hc]
        rcases h3 with h3 | h3 | h3
        · omega
        · rw [wyN_neg _ _ _ _ h3]
        · rw [lim _ _ (by omega) h3]
      · rw [if_neg h3, hc]
    · rw [if_neg h2, wyS, show (n - ((0 : Nat) : Int)).toNat = n.toNat by omega]
      by_cases h3 : k < 0 ∨ leafTot s k n < 0 ∨ 1799 < leafTot s k n
      · rw [if_pos h3]
        rcases h3 with h3 | h3 | h3
        · omega
        · rw [wyN_neg _ _ _ _ h3]
        · rw [lim _ _ (by omega) h3]
      · rw [if_neg h3]
theorem rows_wyI {k n t : Int} (hk : 0 ≤ k) (hn : 0 ≤ n ∧ n ≤ 60) : rowsS k n t = wyN 0 n.toNat k.toNat t := by
  have := rows_wy (k := k.toNat) (n := n.toNat) (t := t) (by omega)
  rw [Int.toNat_of_nonneg hk, Int.toNat_of_nonneg hn.1] at this
  exact this
theorem leafTot_60 {s k n : Int} (hs : 1 ≤ s ∧ s ≤ 1000000000000000000) (hk : 1 ≤ k ∧ k ≤ 60) (hn : 1 ≤ n ∧ n ≤ 60) : R64 (n * (2 * n + 1) - s - 3 * k) ∧ -1 ≤ leafTot s k n ∧ leafTot s k n ≤ 100000 := by
  have hnn := mul_bd (A := 60) (B := 121) (show 0 ≤ n by omega) (by omega) (show 0 ≤ 2 * n + 1 by omega) (by omega)
  refine ⟨by unfold R64; omega, ?_⟩
  unfold leafTot
  split <;> omega
set_option maxRecDepth 100000 in
set_option maxHeartbeats 4000000 in
theorem c_xWays {κ : Kx} (hκ : KOK κ) {d s0 : Nat} {K s k n : Int} {A : Ab} {G : Wd} (hC : RC G s0 A) (hI : Inv K A) (hR : aR G) (hs : R64 s) (hk : R32 k) (hn : R32 n) (hd : 20 ≤ d) : Ct κ MX11_ways d 16 128 [VR 1, VL s, VI k, VI n] (Wm G) (cP G A ((waysP s k n).1 = 0) (some (VL (waysP s k n).2))) (cX G A ((waysP s k n).1 = 1) IAE) := by
  refine Ct_of hκ kX11_ways.1 rfl (Nat.le_of_ble_eq_true rfl) (ls := [some (VR 1), some (VL s), none, some (VI k), some (VI n)]) rfl (fun μ => ?_)
  have hk64 : R64 k := r32_64 hk
  have hn64 : R64 n := r32_64 hn
  refine V_ex sX11_ways_0 (by rfl) (by first | exact trivial | exact Or.inr rfl | exact Or.inl rfl | (simp only [ob, obA, R32, R64] at *; omega) | (simp only [ob, obA, R32, R64] at *; and_intros <;> omega) | (simp [ob, obA])) ?_
  refine V_callS (M := MX11_ways) (N := MX11_needSum) dX11_ways_1 lRX11_308 kX11_needSum rfl (c_needSum (d := 6) hκ hs (by omega)) rfl rfl (Nat.le_of_ble_eq_true rfl) (fit_rm (by omega)) (⟨Nat.le_of_ble_eq_true rfl, Nat.le_of_ble_eq_true rfl⟩) (fun v Ω' hp => ?_) (fun E Ω' h => ⟨by rw [h.2.1, h.2.2]; exact cX_0 hC (by rw [waysP, if_pos (fun q => h.1 q.1)]), rfl, Nat.le_of_ble_eq_true rfl, Nat.le_of_ble_eq_true rfl⟩)
  obtain ⟨h1, rfl, rfl⟩ := hp
  refine V_ex sX11_ways_4 (by rfl) (by first | exact trivial | exact Or.inr rfl | exact Or.inl rfl | (simp only [ob, obA, R32, R64] at *; omega) | (simp only [ob, obA, R32, R64] at *; and_intros <;> omega) | (simp [ob, obA])) ?_
  refine V_callS (M := MX11_ways) (N := MX11_needWithin) dX11_ways_10 lRX11_281 kX11_needWithin rfl (c_needWithin (d := 6) hκ hk64 (by unfold R64; omega) (by unfold R64; omega) (by omega)) rfl rfl (Nat.le_of_ble_eq_true rfl) (fit_rm (by omega)) (⟨Nat.le_of_ble_eq_true rfl, Nat.le_of_ble_eq_true rfl⟩) (fun v Ω' hp => ?_) (fun E Ω' h => ⟨by rw [h.2.1, h.2.2]; exact cX_0 hC (by rw [waysP, if_pos (fun q => h.1 q.2.1)]), rfl, Nat.le_of_ble_eq_true rfl, Nat.le_of_ble_eq_true rfl⟩)
  obtain ⟨h2, rfl, rfl⟩ := hp
  refine V_ex sX11_ways_13 (by rfl) (by first | exact trivial | exact Or.inr rfl | exact Or.inl rfl | (simp only [ob, obA, R32, R64] at *; omega) | (simp only [ob, obA, R32, R64] at *; and_intros <;> omega) | (simp [ob, obA])) ?_
  refine V_callS (M := MX11_ways) (N := MX11_needWithin) dX11_ways_20 lRX11_281 kX11_needWithin rfl (c_needWithin (d := 6) hκ hn64 (by unfold R64; omega) (by unfold R64; omega) (by omega)) rfl rfl (Nat.le_of_ble_eq_true rfl) (fit_rm (by omega)) (⟨Nat.le_of_ble_eq_true rfl, Nat.le_of_ble_eq_true rfl⟩) (fun v Ω' hp => ?_) (fun E Ω' h => ⟨by rw [h.2.1, h.2.2]; exact cX_0 hC (by rw [waysP, if_pos (fun q => h.1 q.2.2)]), rfl, Nat.le_of_ble_eq_true rfl, Nat.le_of_ble_eq_true rfl⟩)
  obtain ⟨h3, rfl, rfl⟩ := hp
  obtain ⟨t1, t2, t3⟩ := leafTot_60 h1 h2 h3
  refine V_ex sX11_ways_23 (by simp only [Option.toList, List.cons_append, List.nil_append, exN, ex1, gI, gL, gR, pI, pL, pR, lget, lset1, lset2, kl, b2I, b2L, nob, ob32, ob64, xGet, xPut, xLen, xLd, xLdR, xSt, obA, true_and, and_true, and_self, eq_self, Nat.reduceEqDiff, Nat.zero_ne_one, reduceIte, Nat.reduceLeDiff, and_false, false_and, show skd 10 12 = 2 from rfl, show LF.1 1 = some (.inl 10) from rfl, show LF.2 1 12 = some 133 from rfl, upd2_eq, Int.reduceToNat, Int.toNat_natCast]; rfl) (by first | exact trivial | exact Or.inr rfl | exact Or.inl rfl | (simp only [ob, obA, R32, R64] at *; omega) | (simp only [ob, obA, R32, R64] at *; and_intros <;> omega) | (simp [ob, obA])) ?_
  refine V_callS (M := MX11_ways) (N := MX10_leafTotal) dX11_ways_35 lRX11_339 kX10_leafTotal rfl (c_leafTotal (d := 6) hκ hk t1) rfl rfl (Nat.le_of_ble_eq_true rfl) (fit_rm (by omega)) (⟨Nat.le_of_ble_eq_true rfl, Nat.le_of_ble_eq_true rfl⟩) (fun v Ω' hp => ?_) (fun _ _ h => h.elim)
  obtain ⟨rfl, rfl⟩ := hp
  refine V_callV (M := MX11_ways) (N := MX10_rows) dX11_ways_38 lRX11_343 kX10_rows rfl (rfl) rfl (c_rows (d := 6) hκ hk hn ⟨by omega, by omega⟩ (by omega)) rfl rfl (Nat.le_of_ble_eq_true rfl) (fit_rm (by omega)) (⟨Nat.le_of_ble_eq_true rfl, Nat.le_of_ble_eq_true rfl⟩) (fun v Ω' hp => ?_) (fun _ _ h => h.elim)
  obtain ⟨rfl, G1, rfl, f1⟩ := hp
  refine V_lret dX11_ways_41 rfl (by decide) (by rw [waysP, if_neg (not_not_intro ⟨h1, h2, h3⟩), waysV_w h2 h3 t3, rows_wyI (by omega) (by omega)]; exact cP_s hC hI.1 (f1.mono (by simp) (by simp)) rfl rfl)
set_option maxRecDepth 100000 in
set_option maxHeartbeats 4000000 in
theorem c_rowAt {κ : Kx} (hκ : KOK κ) {d k n : Nat} {t i : Int} {G : Wd} (hn : n ≤ 30) (hk : k ≤ 60) (ht : -1 ≤ t ∧ t ≤ 100000) (hi : 0 ≤ i) (hi2 : i < wyN 0 n k t) (hd : 2 ≤ d) : Ct κ MX10_rowAt d 0 0 [VR 133, VI (k : Nat), VI (n : Nat), VL t, VL i] (Wm G) (fun v Ω' => v = some (VL (wayF n 0 k t i 0)) ∧ ∃ G', Ω' = Wm G' ∧ Fs [] [134] G G') noX := by
  refine Ct_of hκ kX10_rowAt.1 rfl (Nat.le_of_ble_eq_true rfl) (ls := [some (VR 133), some (VI (k : Nat)), some (VI (n : Nat)), some (VL t), none, some (VL i), none, none, none, none, none, none, none, none, none, none, none]) rfl (fun μ => ?_)
  have fin : ∀ (j f : Nat) (out r b : Int) (G1 : Wd) (x : Option Vl), f ≤ 30 → wayF j f 0 out r b = wayF n 0 k t i 0 → Fs [] [134] G G1 → V κ MX10_rowAt (rmD d 0 0) (fun v Ω' => v = some (VL (wayF n 0 k t i 0)) ∧ ∃ G', Ω' = Wm G' ∧ Fs [] [134] G G') noX 0 0 μ 0 0 (Wm (G1)) 16 [some (VR 133), some (VI (k : Nat)), some (VI (n : Nat)), some (VL t), none, some (VL i), none, some (VL b), none, some (VL r), none, some (VL out), none, some (VI (0 : Nat)), some (VI (f : Nat)), x, none] [] := fun j f out r b G1 x hf hF f1 => by
    rw [wayF_0] at hF
    refine V_ex sX10_rowAt_16 (by rfl) (by first | exact trivial | exact Or.inr rfl | exact Or.inl rfl | (simp only [ob, obA, R32, R64] at *; omega) | (simp only [ob, obA, R32, R64] at *; and_intros <;> omega) | (simp [ob, obA])) ?_
    refine V_icmpge dX10_rowAt_19 (tgt := 105) (by decide) (by simp only [R32, R64] at *; omega) (fun q19 => ?_) (fun q19 => ?_)
    · refine V_ex sX10_rowAt_105 (by rfl) (by first | exact trivial | exact Or.inr rfl | exact Or.inl rfl | (simp only [ob, obA, R32, R64] at *; omega) | (simp only [ob, obA, R32, R64] at *; and_intros <;> omega) | (simp [ob, obA])) ?_
      refine V_lret dX10_rowAt_107 rfl (by decide) ⟨by rw [hF], G1, rfl, f1⟩
    · refine V_ex sX10_rowAt_22 (by rfl) (by first | exact trivial | exact Or.inr rfl | exact Or.inl rfl | (simp only [ob, obA, R32, R64] at *; omega) | (simp only [ob, obA, R32, R64] at *; and_intros <;> omega) | (simp [ob, obA])) ?_
      refine V_ifle dX10_rowAt_24 (tgt := 105) (by decide) (by simp only [R32, R64] at *; omega) (fun q24 => ?_) (fun q24 => ?_)
      · refine V_ex sX10_rowAt_105 (by rfl) (by first | exact trivial | exact Or.inr rfl | exact Or.inl rfl | (simp only [ob, obA, R32, R64] at *; omega) | (simp only [ob, obA, R32, R64] at *; and_intros <;> omega) | (simp [ob, obA])) ?_
        refine V_lret dX10_rowAt_107 rfl (by decide) ⟨by rw [hF], G1, rfl, f1⟩
      · omega
  have L : ∀ (j f m : Nat) (out r b : Int) (G1 : Wd) (x : Option Vl), j + f = n → 0 ≤ r → r < wyN f j m out → out ≤ 100000 → -1 - 30 * (f : Int) ≤ out → m ≤ 60 → wayF j f m out r b = wayF n 0 k t i 0 → Fs [] [134] G G1 → V κ MX10_rowAt (rmD d 0 0) (fun v Ω' => v = some (VL (wayF n 0 k t i 0)) ∧ ∃ G', Ω' = Wm G' ∧ Fs [] [134] G G') noX 0 0 μ 0 0 (Wm (G1)) 16 [some (VR 133), some (VI (k : Nat)), some (VI (n : Nat)), some (VL t), none, some (VL i), none, some (VL b), none, some (VL r), none, some (VL out), none, some (VI (m : Nat)), some (VI (f : Nat)), x, none] [] := by
    intro j
    induction j with
    | zero =>
      intro f m out r b G1 x hjf hr0 hr ho ho2 hm hF f1
      cases m with
      | zero => exact fin 0 f out r b G1 x (by omega) hF f1
      | succ m => rw [wyN, if_neg (by omega)] at hr; omega
    | succ j ih =>
      intro f m out r b G1 x hjf hr0 hr ho ho2 hm hF f1
      cases m with
      | zero => exact fin (j + 1) f out r b G1 x (by omega) hF f1
      | succ m =>
        have h2 : ∀ a b : Nat, ∀ z : Int, a ≤ 30 → 0 ≤ wyN b a m z ∧ wyN b a m z ≤ 2 ^ 30 := fun a b z ha => by
          have h1 : (2 : Nat) ^ a ≤ 2 ^ 30 := Nat.pow_le_pow_right (by decide) ha
          have h3 : ((2 ^ a : Nat) : Int) = (2 : Int) ^ a := by simp
          have := wyN_R b a m z
          omega
        have h2' : ∀ a b : Nat, ∀ z : Int, a ≤ 30 → 0 ≤ wyN b a (m + 1) z ∧ wyN b a (m + 1) z ≤ 2 ^ 30 := fun a b z ha => by
          have h1 : (2 : Nat) ^ a ≤ 2 ^ 30 := Nat.pow_le_pow_right (by decide) ha
          have h3 : ((2 ^ a : Nat) : Int) = (2 : Int) ^ a := by simp
          have := wyN_R b a (m + 1) z
          omega
        have hRr := h2' (j + 1) f out (by omega)
        have hRb := h2 j (f + 1) (out - (f : Int)) (by omega)
        have hRc := h2' j (f + 1) out (by omega)
        have hmf := mul_bd (A := 60) (B := 31) (show 0 ≤ (m : Int) by omega) (by omega) (show 0 ≤ (f : Int) + 1 by omega) (by omega)
        have hby : rowsS (m : Nat) (j : Nat) (out - (f : Int) - (m : Int) * ((f : Int) + 1)) = wyN (f + 1) j m (out - (f : Int)) := by
          rw [rows_wy (by omega), wyN_shifts (f + 1)]; congr 2
        have e1 : ((m + 1 : Nat) : Int) - 1 = (m : Int) := by omega
        have e2 : (n : Int) - (f : Int) - 1 = (j : Int) := by omega
        rw [wyN_first] at hr
        rw [wayF] at hF
        have hRw := c_rows (κ := κ) hκ (d := 1) (k := (m : Int)) (n := (j : Int)) (t := out - (f : Int) - (m : Int) * ((f : Int) + 1)) (G := G1) (by unfold R32; omega) (by unfold R32; omega) ⟨by omega, by omega⟩ (by omega)
        rw [hby] at hRw
        refine V_ex sX10_rowAt_16 (by rfl) (by first | exact trivial | exact Or.inr rfl | exact Or.inl rfl | (simp only [ob, obA, R32, R64] at *; omega) | (simp only [ob, obA, R32, R64] at *; and_intros <;> omega) | (simp [ob, obA])) ?_
        refine V_icmpge dX10_rowAt_19 (tgt := 105) (by decide) (by simp only [R32, R64] at *; omega) (fun q19 => ?_) (fun q19 => ?_)
        · omega
        · refine V_ex sX10_rowAt_22 (by rfl) (by first | exact trivial | exact Or.inr rfl | exact Or.inl rfl | (simp only [ob, obA, R32, R64] at *; omega) | (simp only [ob, obA, R32, R64] at *; and_intros <;> omega) | (simp [ob, obA])) ?_
          refine V_ifle dX10_rowAt_24 (tgt := 105) (by decide) (by simp only [R32, R64] at *; omega) (fun q24 => ?_) (fun q24 => ?_)
          · omega
          · refine V_ex sX10_rowAt_27 (by simp only [Option.toList, List.cons_append, List.nil_append, exN, ex1, gI, gL, gR, pI, pL, pR, lget, lset1, lset2, kl, b2I, b2L, nob, ob32, ob64, xGet, xPut, xLen, xLd, xLdR, xSt, obA, true_and, and_true, and_self, eq_self, Nat.reduceEqDiff, Nat.zero_ne_one, reduceIte, Nat.reduceLeDiff, and_false, false_and, e1, e2, upd2_eq, Int.reduceToNat, Int.toNat_natCast]; rfl) (by first | exact trivial | exact Or.inr rfl | exact Or.inl rfl | (simp only [ob, obA, R32, R64] at *; omega) | (simp only [ob, obA, R32, R64] at *; and_intros <;> omega) | (simp [ob, obA])) ?_
            refine V_callV (M := MX10_rowAt) (N := MX10_rows) dX10_rowAt_56 lRX10_42 kX10_rows rfl (rfl) rfl (hRw) rfl rfl (Nat.le_of_ble_eq_true rfl) (fit_rm (by omega)) (⟨Nat.le_of_ble_eq_true rfl, Nat.le_of_ble_eq_true rfl⟩) (fun v Ω' hp => ?_) (fun _ _ h => h.elim)
            obtain ⟨rfl, G2, rfl, f2⟩ := hp
            refine V_ex sX10_rowAt_59 (by rfl) (by first | exact trivial | exact Or.inr rfl | exact Or.inl rfl | (simp only [ob, obA, R32, R64] at *; omega) | (simp only [ob, obA, R32, R64] at *; and_intros <;> omega) | (simp [ob, obA])) ?_
            refine V_lifge dX10_rowAt_66 (tgt := 92) (by decide) (fun q66 => ?_) (fun q66 => ?_)
            · refine V_ex sX10_rowAt_92 (by rfl) (by first | exact trivial | exact Or.inr rfl | exact Or.inl rfl | (simp only [ob, obA, R32, R64] at *; omega) | (simp only [ob, obA, R32, R64] at *; and_intros <;> omega) | (simp [ob, obA])) ?_
              refine V_ex sX10_rowAt_99 (by rfl) (by first | exact trivial | exact Or.inr rfl | exact Or.inl rfl | (simp only [ob, obA, R32, R64] at *; omega) | (simp only [ob, obA, R32, R64] at *; and_intros <;> omega) | (simp [ob, obA])) ?_
              refine V_goto dX10_rowAt_102 (tgt := 16) (by decide) ?_
              refine ih (f + 1) (m + 1) _ _ _ G2 _ (by omega) (by omega) (by omega) ho (by omega) hm ?_ (f1.trans f2)
              rw [← hF, if_neg (by omega)]
            · refine V_ex sX10_rowAt_69 (by rfl) (by first | exact trivial | exact Or.inr rfl | exact Or.inl rfl | (simp only [ob, obA, R32, R64] at *; omega) | (simp only [ob, obA, R32, R64] at *; and_intros <;> omega) | (simp [ob, obA])) ?_
              refine V_goto dX10_rowAt_89 (tgt := 99) (by decide) ?_
              refine V_ex sX10_rowAt_99 (by rfl) (by first | exact trivial | exact Or.inr rfl | exact Or.inl rfl | (simp only [ob, obA, R32, R64] at *; omega) | (simp only [ob, obA, R32, R64] at *; and_intros <;> omega) | (simp [ob, obA])) ?_
              refine V_goto dX10_rowAt_102 (tgt := 16) (by decide) ?_
              rw [show ((m + 1 : Nat) : Int) + -1 = ((m : Nat) : Int) by omega]
              refine ih (f + 1) m _ _ _ G2 _ (by omega) hr0 q66 (by omega) (by omega) (by omega) ?_ (f1.trans f2)
              rw [← hF, if_pos q66]
  refine V_ex sX10_rowAt_0 (by rfl) (by first | exact trivial | exact Or.inr rfl | exact Or.inl rfl | (simp only [ob, obA, R32, R64] at *; omega) | (simp only [ob, obA, R32, R64] at *; and_intros <;> omega) | (simp [ob, obA])) ?_
  exact L n 0 k t i 0 G _ (by omega) hi hi2 (by omega) (by omega) (by omega) rfl (Fs.refl _ _ _)
