/-! TornLeaves: skip, between, fits, leaf, said, tells -/
theorem RC_s {G G' : Wd} {s : Nat} {A : Ab} (h : RC G s A) (hO : okSh 500 A.1) (f : Fs [130] [131, 132, 134] G G') : RC G' s A ∧ FrC G G' := by
  have hs : s = 8 ∨ s = 61 := h.1.2.2
  have fx : ∀ x, x ≠ 130 → G'.1 x = G.1 x := fun x a => f.2.1 x (by simp; exact a)
  exact ⟨RC_c h hO.1 hO.2.2.1 f.1 (fun x j a b => by rw [fx x (by unfold sc at b; omega)]) (cacheC_c h.2.2.1 (fx _ (by decide))) (fun j => by rw [fx _ (by decide)]; exact h.2.2.2.2.2.2.2.2.2.2.2.1 j) (fun j => by rw [fx _ (by decide)]; exact h.2.2.2.2.2.2.2.2.2.2.2.2.1 j) (fun j => by rw [fx _ (by decide)]; exact h.2.2.2.2.2.2.2.2.2.2.2.2.2 j), fun x a => fx x (by omega), fun x a => f.2.2 x (by simp; omega)⟩
theorem cP_s {G G' : Wd} {s : Nat} {A : Ab} {ok : Prop} {r r' : Option Vl} (h : RC G s A) (hO : okSh 500 A.1) (f : Fs [130] [131, 132, 134] G G') (k : ok) (e : r' = r) : cP G A ok r r' (Wm G') := ⟨k, e, G', s, rfl, (RC_s h hO f).1, (RC_s h hO f).2⟩
theorem cX2_s {G G' : Wd} {s : Nat} {A : Ab} {k : Int} (h : RC G s A) (hO : okSh 500 A.1) (f : Fs [130] [131, 132, 134] G G') (e : k = 1) : cX2 G A k NSE (Wm G') := ⟨Or.inl ⟨e, rfl⟩, G', s, rfl, (RC_s h hO f).1, (RC_s h hO f).2⟩
set_option maxRecDepth 100000 in
set_option maxHeartbeats 4000000 in
theorem c_xSkip {κ : Kx} (hκ : KOK κ) {d s : Nat} {K f n w : Int} {A : Ab} {G : Wd} (hC : RC G s A) (hI : Inv K A) (hR : aR G) (hf : R32 f) (hn : R64 n) (hw : R32 w) (hd : 20 ≤ d) : Ct κ MX11_skip d 16 128 [VR 1, VI f, VL n, VI w] (Wm G) (cP G A ((skipP f n w).1 = 0) (some (VL (skipP f n w).2))) (cX G A ((skipP f n w).1 = 1) IAE) := by
  refine Ct_of hκ kX11_skip.1 rfl (Nat.le_of_ble_eq_true rfl) (ls := [some (VR 1), some (VI f), some (VL n), none, some (VI w)]) rfl (fun μ => ?_)
  have hf64 : R64 f := r32_64 hf
  refine V_ex sX11_skip_0 (by rfl) (by first | exact trivial | exact Or.inr rfl | exact Or.inl rfl | (simp only [ob, obA, R32, R64] at *; omega) | (simp only [ob, obA, R32, R64] at *; and_intros <;> omega) | (simp [ob, obA])) ?_
  refine V_callS (M := MX11_skip) (N := MX11_needWithin) dX11_skip_6 lRX11_281 kX11_needWithin rfl (c_needWithin (d := 6) hκ hf64 (by unfold R64; omega) (by unfold R64; omega) (by omega)) rfl rfl (Nat.le_of_ble_eq_true rfl) (fit_rm (by omega)) (⟨Nat.le_of_ble_eq_true rfl, Nat.le_of_ble_eq_true rfl⟩) (fun v Ω' hp => ?_) (fun E Ω' h => ⟨by rw [h.2.1, h.2.2]; exact cX_0 hC (by rw [skipP, if_pos (fun q => h.1 q.1)]), rfl, Nat.le_of_ble_eq_true rfl, Nat.le_of_ble_eq_true rfl⟩)
  obtain ⟨h1, rfl, rfl⟩ := hp
  refine V_ex sX11_skip_9 (by rfl) (by first | exact trivial | exact Or.inr rfl | exact Or.inl rfl | (simp only [ob, obA, R32, R64] at *; omega) | (simp only [ob, obA, R32, R64] at *; and_intros <;> omega) | (simp [ob, obA])) ?_
  refine V_callS (M := MX11_skip) (N := MX11_needWithin) dX11_skip_14 lRX11_281 kX11_needWithin rfl (c_needWithin (d := 6) hκ hn (by unfold R64; omega) (by unfold R64; omega) (by omega)) rfl rfl (Nat.le_of_ble_eq_true rfl) (fit_rm (by omega)) (⟨Nat.le_of_ble_eq_true rfl, Nat.le_of_ble_eq_true rfl⟩) (fun v Ω' hp => ?_) (fun E Ω' h => ⟨by rw [h.2.1, h.2.2]; exact cX_0 hC (by rw [skipP, if_pos (fun q => h.1 q.2)]), rfl, Nat.le_of_ble_eq_true rfl, Nat.le_of_ble_eq_true rfl⟩)
  obtain ⟨h2, rfl, rfl⟩ := hp
  refine V_ex sX11_skip_17 (by rfl) (by first | exact trivial | exact Or.inr rfl | exact Or.inl rfl | (simp only [ob, obA, R32, R64] at *; omega) | (simp only [ob, obA, R32, R64] at *; and_intros <;> omega) | (simp [ob, obA])) ?_
  refine V_ifeq dX11_skip_19 (tgt := 30) (by decide) (by simp only [R32, R64] at *; omega) (fun q19 => ?_) (fun q19 => ?_)
  · refine V_ex sX11_skip_30 (by rfl) (by first | exact trivial | exact Or.inr rfl | exact Or.inl rfl | (simp only [ob, obA, R32, R64] at *; omega) | (simp only [ob, obA, R32, R64] at *; and_intros <;> omega) | (simp [ob, obA])) ?_
    refine V_callS (M := MX11_skip) (N := MX3_standsWithout) dX11_skip_32 lRX11_390 kX3_standsWithout rfl (c_standsWithout (d := 6) hκ hf hn) rfl rfl (Nat.le_of_ble_eq_true rfl) (fit_rm (by omega)) (⟨Nat.le_of_ble_eq_true rfl, Nat.le_of_ble_eq_true rfl⟩) (fun v Ω' hp => ?_) (fun _ _ h => h.elim)
    obtain ⟨rfl, rfl⟩ := hp
    refine V_lret dX11_skip_35 rfl (by decide) (by rw [skipP, if_neg (not_not_intro ⟨h1, h2⟩), if_pos q19]; exact cP_0 hC rfl rfl)
  · refine V_ex sX11_skip_22 (by rfl) (by first | exact trivial | exact Or.inr rfl | exact Or.inl rfl | (simp only [ob, obA, R32, R64] at *; omega) | (simp only [ob, obA, R32, R64] at *; and_intros <;> omega) | (simp [ob, obA])) ?_
    refine V_callS (M := MX11_skip) (N := MX3_placeWithout) dX11_skip_24 lRX11_387 kX3_placeWithout rfl (c_placeWithout (d := 6) hκ hf hn) rfl rfl (Nat.le_of_ble_eq_true rfl) (fit_rm (by omega)) (⟨Nat.le_of_ble_eq_true rfl, Nat.le_of_ble_eq_true rfl⟩) (fun v Ω' hp => ?_) (fun _ _ h => h.elim)
    obtain ⟨rfl, rfl⟩ := hp
    refine V_goto dX11_skip_27 (tgt := 35) (by decide) ?_
    refine V_lret dX11_skip_35 rfl (by decide) (by rw [skipP, if_neg (not_not_intro ⟨h1, h2⟩), if_neg q19]; exact cP_0 hC rfl rfl)
set_option maxRecDepth 100000 in
set_option maxHeartbeats 4000000 in
theorem c_xBetween {κ : Kx} (hκ : KOK κ) {d s : Nat} {K a b f : Int} {A : Ab} {G : Wd} (hC : RC G s A) (hI : Inv K A) (hR : aR G) (ha : R64 a) (hb : R64 b) (hf : R32 f) (hd : 20 ≤ d) : Ct κ MX11_between d 16 128 [VR 1, VL a, VL b, VI f] (Wm G) (cP G A ((betweenP a b f).1 = 0) (some (VL (betweenP a b f).2))) (cX2 G A (betweenP a b f).1) := by
  refine Ct_of hκ kX11_between.1 rfl (Nat.le_of_ble_eq_true rfl) (ls := [some (VR 1), some (VL a), none, some (VL b), none, some (VI f)]) rfl (fun μ => ?_)
  refine V_ex sX11_between_0 (by rfl) (by first | exact trivial | exact Or.inr rfl | exact Or.inl rfl | (simp only [ob, obA, R32, R64] at *; omega) | (simp only [ob, obA, R32, R64] at *; and_intros <;> omega) | (simp [ob, obA])) ?_
  refine V_callS (M := MX11_between) (N := MX11_needFigure) dX11_between_2 lRX11_242 kX11_needFigure rfl (c_needFigure (d := 6) hκ hf (by omega)) rfl rfl (Nat.le_of_ble_eq_true rfl) (fit_rm (by omega)) (⟨Nat.le_of_ble_eq_true rfl, Nat.le_of_ble_eq_true rfl⟩) (fun v Ω' hp => ?_) (fun E Ω' h => ⟨by rw [h.2.1, h.2.2]; exact cX2_1 hC (by rw [betweenP, if_pos h.1]), rfl, Nat.le_of_ble_eq_true rfl, Nat.le_of_ble_eq_true rfl⟩)
  obtain ⟨h1, rfl, rfl⟩ := hp
  refine V_ex sX11_between_5 (by rfl) (by first | exact trivial | exact Or.inr rfl | exact Or.inl rfl | (simp only [ob, obA, R32, R64] at *; omega) | (simp only [ob, obA, R32, R64] at *; and_intros <;> omega) | (simp [ob, obA])) ?_
  refine V_callS (M := MX11_between) (N := MX11_needWithin) dX11_between_10 lRX11_281 kX11_needWithin rfl (c_needWithin (d := 6) hκ hb (by unfold R64; omega) (by unfold R64; omega) (by omega)) rfl rfl (Nat.le_of_ble_eq_true rfl) (fit_rm (by omega)) (⟨Nat.le_of_ble_eq_true rfl, Nat.le_of_ble_eq_true rfl⟩) (fun v Ω' hp => ?_) (fun E Ω' h => ⟨by rw [h.2.1, h.2.2]; exact cX2_2 hC (by rw [betweenP, if_neg (not_not_intro h1), if_pos (fun q => h.1 ⟨by omega, q.2.2⟩)]), rfl, Nat.le_of_ble_eq_true rfl, Nat.le_of_ble_eq_true rfl⟩)
  obtain ⟨h2, rfl, rfl⟩ := hp
  refine V_ex sX11_between_13 (by rfl) (by first | exact trivial | exact Or.inr rfl | exact Or.inl rfl | (simp only [ob, obA, R32, R64] at *; omega) | (simp only [ob, obA, R32, R64] at *; and_intros <;> omega) | (simp [ob, obA])) ?_
  refine V_callS (M := MX11_between) (N := MX11_needWithin) dX11_between_16 lRX11_281 kX11_needWithin rfl (c_needWithin (d := 6) hκ ha (by unfold R64; omega) hb (by omega)) rfl rfl (Nat.le_of_ble_eq_true rfl) (fit_rm (by omega)) (⟨Nat.le_of_ble_eq_true rfl, Nat.le_of_ble_eq_true rfl⟩) (fun v Ω' hp => ?_) (fun E Ω' h => ⟨by rw [h.2.1, h.2.2]; exact cX2_2 hC (by rw [betweenP, if_neg (not_not_intro h1), if_pos (fun q => h.1 ⟨q.1, q.2.1⟩)]), rfl, Nat.le_of_ble_eq_true rfl, Nat.le_of_ble_eq_true rfl⟩)
  obtain ⟨h3, rfl, rfl⟩ := hp
  refine V_ex sX11_between_19 (by rfl) (by first | exact trivial | exact Or.inr rfl | exact Or.inl rfl | (simp only [ob, obA, R32, R64] at *; omega) | (simp only [ob, obA, R32, R64] at *; and_intros <;> omega) | (simp [ob, obA])) ?_
  refine V_callS (M := MX11_between) (N := MX3_printed) dX11_between_22 lRX11_379 kX3_printed rfl (c_printed (d := 6) hκ hf (by omega) hb (by omega)) rfl rfl (Nat.le_of_ble_eq_true rfl) (fit_rm (by omega)) (⟨Nat.le_of_ble_eq_true rfl, Nat.le_of_ble_eq_true rfl⟩) (fun v Ω' hp => ?_) (fun _ _ h => h.elim)
  obtain ⟨rfl, rfl⟩ := hp
  refine V_ex sX11_between_25 (by rfl) (by first | exact trivial | exact Or.inr rfl | exact Or.inl rfl | (simp only [ob, obA, R32, R64] at *; omega) | (simp only [ob, obA, R32, R64] at *; and_intros <;> omega) | (simp [ob, obA])) ?_
  refine V_callS (M := MX11_between) (N := MX3_printed) dX11_between_30 lRX11_379 kX3_printed rfl (c_printed (d := 6) hκ hf (by omega) (by unfold R64; omega) (by omega)) rfl rfl (Nat.le_of_ble_eq_true rfl) (fit_rm (by omega)) (⟨Nat.le_of_ble_eq_true rfl, Nat.le_of_ble_eq_true rfl⟩) (fun v Ω' hp => ?_) (fun _ _ h => h.elim)
  obtain ⟨rfl, rfl⟩ := hp
  refine V_ex sX11_between_33 (by rfl) (by first | exact trivial | exact Or.inr rfl | exact Or.inl rfl | (simp only [ob, obA, R32, R64] at *; omega) | (simp only [ob, obA, R32, R64] at *; and_intros <;> omega) | (simp [ob, obA])) ?_
  refine V_lret dX11_between_34 rfl (by decide) (by rw [betweenP, if_neg (not_not_intro h1), if_neg (not_not_intro ⟨h3.1, h3.2, h2.2⟩)]; exact cP_0 hC rfl rfl)
set_option maxRecDepth 100000 in
set_option maxHeartbeats 4000000 in
theorem c_needFit {κ : Kx} (hκ : KOK κ) {d n : Nat} {i : Int} {G : Wd} (hi : R32 i) (hn : G.1 130 2 = (n : Nat)) (h4 : n ≤ 6) (hd : 7 ≤ d) : Ct κ MX11_needFit d 1 6 [VR 1, VI i] (Wm G) (fun v Ω' => (0 ≤ i ∧ i < (n : Nat)) ∧ voidG G v Ω') (exE (¬ (0 ≤ i ∧ i < (n : Nat))) NSE G) := by
  refine Ct_of hκ kX11_needFit.1 rfl (Nat.le_of_ble_eq_true rfl) (ls := [some (VR 1), some (VI i)]) rfl (fun μ => ?_)
  refine V_ex sX11_needFit_0 (by rfl) (by first | exact trivial | exact Or.inr rfl | exact Or.inl rfl | (simp only [ob, obA, R32, R64] at *; omega) | (simp only [ob, obA, R32, R64] at *; and_intros <;> omega) | (simp [ob, obA])) ?_
  refine V_iflt dX11_needFit_1 (tgt := 15) (by decide) (by simp only [R32, R64] at *; omega) (fun q1 => ?_) (fun q1 => ?_)
  · refine V_throwW (M := MX11_needFit) (is := 327) (text := "no such fit") tC_nse (by decide +kernel) dX11_needFit_15 (by decide +kernel) dX11_needFit_19 dX11_needFit_22 dX11_needFit_25 rfl (Nat.le_of_ble_eq_true rfl) ⟨by show 6 ≤ d; omega, by show 100 ≤ 100 + 40 * d; omega⟩ ⟨Nat.le_of_ble_eq_true rfl, Nat.le_of_ble_eq_true rfl⟩ ⟨Nat.le_of_ble_eq_true rfl, Nat.le_of_ble_eq_true rfl⟩ (⟨by omega, rfl, rfl⟩)
  · refine V_ex sX11_needFit_4 (by simp only [Option.toList, List.cons_append, List.nil_append, exN, ex1, gI, gL, gR, pI, pL, pR, lget, lset1, lset2, kl, b2I, b2L, nob, ob32, ob64, xGet, xPut, xLen, xLd, xLdR, xSt, obA, true_and, and_true, and_self, eq_self, Nat.reduceEqDiff, Nat.zero_ne_one, reduceIte, Nat.reduceLeDiff, and_false, false_and, show skd 10 11 = 2 from rfl, show skd 3 2 = 0 from rfl, show LF.1 1 = some (.inl 10) from rfl, show LF.2 1 11 = some 130 from rfl, show LF.1 130 = some (.inl 3) from rfl, hn, upd2_eq, Int.reduceToNat, Int.toNat_natCast]; rfl) (by first | exact trivial | exact Or.inr rfl | exact Or.inl rfl | (simp only [ob, obA, R32, R64] at *; omega) | (simp only [ob, obA, R32, R64] at *; and_intros <;> omega) | (simp [ob, obA])) ?_
    refine V_icmplt dX11_needFit_12 (tgt := 26) (by decide) (by simp only [R32, R64] at *; omega) (fun q12 => ?_) (fun q12 => ?_)
    · refine V_vret dX11_needFit_26 rfl (by decide) ⟨⟨by omega, by omega⟩, rfl, rfl⟩
    · refine V_throwW (M := MX11_needFit) (is := 327) (text := "no such fit") tC_nse (by decide +kernel) dX11_needFit_15 (by decide +kernel) dX11_needFit_19 dX11_needFit_22 dX11_needFit_25 rfl (Nat.le_of_ble_eq_true rfl) ⟨by show 6 ≤ d; omega, by show 100 ≤ 100 + 40 * d; omega⟩ ⟨Nat.le_of_ble_eq_true rfl, Nat.le_of_ble_eq_true rfl⟩ ⟨Nat.le_of_ble_eq_true rfl, Nat.le_of_ble_eq_true rfl⟩ (⟨by omega, rfl, rfl⟩)
theorem find_is {G G' : Wd} {s r : Int} (hr : isMost s r) (h : fitsAre G' (fitA s (r + 1) ++ fitB s (r + 1) ++ fitA s (r + 2) ++ fitB s (r + 2))) : fitsAre G' (fitL s) := by
  unfold fitL; rw [theR_eq hr]; exact h
set_option maxRecDepth 100000 in
set_option maxHeartbeats 4000000 in
theorem c_fnd {κ : Kx} (hκ : KOK κ) {d : Nat} {s : Int} {G : Wd} (hs : 1 ≤ s ∧ s ≤ 1000000000000000000) (hd : 2 ≤ d) : Ct κ MX4_find d 0 0 [VR 130, VL s] (Wm G) (fun v Ω' => v = none ∧ ∃ G', Ω' = Wm G' ∧ Fs [130] [131, 132, 134] G G' ∧ fitsAre G' (fitL s) ∧ isMost s (theR s)) noX :=
  (c_find hκ hs hd).mono (fun v Ω' h => by
    obtain ⟨rfl, G1, r, rfl, f1, hr, a1⟩ := h
    exact ⟨rfl, G1, rfl, f1.mono (by simp) (by simp), find_is (G := G) hr a1, by rw [theR_eq hr]; exact hr⟩) (fun E Ω' h => h)
set_option maxRecDepth 100000 in
set_option maxHeartbeats 4000000 in
theorem c_xFits {κ : Kx} (hκ : KOK κ) {d s0 : Nat} {K s i : Int} {A : Ab} {G : Wd} (hC : RC G s0 A) (hI : Inv K A) (hR : aR G) (hs : R64 s) (hi : R32 i) (hd : 20 ≤ d) : Ct κ MX11_fits d 16 128 [VR 1, VL s, VI i] (Wm G) (cP G A ((fitsP s i).1 = 0) (some (VL (fitsP s i).2))) (cX2 G A (fitsP s i).1) := by
  refine Ct_of hκ kX11_fits.1 rfl (Nat.le_of_ble_eq_true rfl) (ls := [some (VR 1), some (VL s), none, some (VI i)]) rfl (fun μ => ?_)
  refine V_ex sX11_fits_0 (by rfl) (by first | exact trivial | exact Or.inr rfl | exact Or.inl rfl | (simp only [ob, obA, R32, R64] at *; omega) | (simp only [ob, obA, R32, R64] at *; and_intros <;> omega) | (simp [ob, obA])) ?_
  refine V_callS (M := MX11_fits) (N := MX11_needSum) dX11_fits_1 lRX11_308 kX11_needSum rfl (c_needSum (d := 6) hκ hs (by omega)) rfl rfl (Nat.le_of_ble_eq_true rfl) (fit_rm (by omega)) (⟨Nat.le_of_ble_eq_true rfl, Nat.le_of_ble_eq_true rfl⟩) (fun v Ω' hp => ?_) (fun E Ω' h => ⟨by rw [h.2.1, h.2.2]; exact cX2_2 hC (by rw [fitsP, if_pos h.1]), rfl, Nat.le_of_ble_eq_true rfl, Nat.le_of_ble_eq_true rfl⟩)
  obtain ⟨h1, rfl, rfl⟩ := hp
  refine V_ex sX11_fits_4 (by simp only [Option.toList, List.cons_append, List.nil_append, exN, ex1, gI, gL, gR, pI, pL, pR, lget, lset1, lset2, kl, b2I, b2L, nob, ob32, ob64, xGet, xPut, xLen, xLd, xLdR, xSt, obA, true_and, and_true, and_self, eq_self, Nat.reduceEqDiff, Nat.zero_ne_one, reduceIte, Nat.reduceLeDiff, and_false, false_and, show skd 10 11 = 2 from rfl, show LF.1 1 = some (.inl 10) from rfl, show LF.2 1 11 = some 130 from rfl, upd2_eq, Int.reduceToNat, Int.toNat_natCast]; rfl) (by first | exact trivial | exact Or.inr rfl | exact Or.inl rfl | (simp only [ob, obA, R32, R64] at *; omega) | (simp only [ob, obA, R32, R64] at *; and_intros <;> omega) | (simp [ob, obA])) ?_
  refine V_callV (M := MX11_fits) (N := MX4_find) dX11_fits_9 lRX11_312 kX4_find rfl (rfl) rfl (c_fnd (d := 6) hκ h1 (by omega)) rfl rfl (Nat.le_of_ble_eq_true rfl) (fit_rm (by omega)) (⟨Nat.le_of_ble_eq_true rfl, Nat.le_of_ble_eq_true rfl⟩) (fun v Ω' hp => ?_) (fun _ _ h => h.elim)
  obtain ⟨rfl, G1, rfl, f1, a1, hm⟩ := hp
  have hlen := a1.1
  have hl4 := a1.2.1
  refine V_ex sX11_fits_12 (by rfl) (by first | exact trivial | exact Or.inr rfl | exact Or.inl rfl | (simp only [ob, obA, R32, R64] at *; omega) | (simp only [ob, obA, R32, R64] at *; and_intros <;> omega) | (simp [ob, obA])) ?_
  refine V_icmpne dX11_fits_14 (tgt := 26) (by decide) (by simp only [R32, R64] at *; omega) (fun q14 => ?_) (fun q14 => ?_)
  · refine V_ex sX11_fits_26 (by rfl) (by first | exact trivial | exact Or.inr rfl | exact Or.inl rfl | (simp only [ob, obA, R32, R64] at *; omega) | (simp only [ob, obA, R32, R64] at *; and_intros <;> omega) | (simp [ob, obA])) ?_
    refine V_callV (M := MX11_fits) (N := MX11_needFit) dX11_fits_28 lRX11_318 kX11_needFit rfl (rfl) rfl (c_needFit (d := 7) hκ hi hlen (by omega) (by omega)) rfl rfl (Nat.le_of_ble_eq_true rfl) (fit_rm (by omega)) (⟨Nat.le_of_ble_eq_true rfl, Nat.le_of_ble_eq_true rfl⟩) (fun v Ω' hp => ?_) (fun E Ω' h => ⟨by rw [h.2.1, h.2.2]; exact cX2_s hC hI.1 f1 (by rw [fitsP, if_neg (not_not_intro h1), if_neg q14, dif_neg (fun q => h.1 ⟨q.2, by omega⟩)]), rfl, Nat.le_of_ble_eq_true rfl, Nat.le_of_ble_eq_true rfl⟩)
    obtain ⟨h2, rfl, rfl⟩ := hp
    have hi2 : i.toNat < (fitL s).length := by omega
    have hPA := c_fiPagesAt (κ := κ) hκ (d := 6) (i := i.toNat) a1 hi2
    rw [Int.toNat_of_nonneg h2.1] at hPA
    refine V_ex sX11_fits_31 (by simp only [Option.toList, List.cons_append, List.nil_append, exN, ex1, gI, gL, gR, pI, pL, pR, lget, lset1, lset2, kl, b2I, b2L, nob, ob32, ob64, xGet, xPut, xLen, xLd, xLdR, xSt, obA, true_and, and_true, and_self, eq_self, Nat.reduceEqDiff, Nat.zero_ne_one, reduceIte, Nat.reduceLeDiff, and_false, false_and, show skd 10 11 = 2 from rfl, show LF.1 1 = some (.inl 10) from rfl, show LF.2 1 11 = some 130 from rfl, upd2_eq, Int.reduceToNat, Int.toNat_natCast]; rfl) (by first | exact trivial | exact Or.inr rfl | exact Or.inl rfl | (simp only [ob, obA, R32, R64] at *; omega) | (simp only [ob, obA, R32, R64] at *; and_intros <;> omega) | (simp [ob, obA])) ?_
    refine V_callV (M := MX11_fits) (N := MX4_pagesAt) dX11_fits_36 lRX11_321 kX4_pagesAt rfl (rfl) rfl (hPA) rfl rfl (Nat.le_of_ble_eq_true rfl) (fit_rm (by omega)) (⟨Nat.le_of_ble_eq_true rfl, Nat.le_of_ble_eq_true rfl⟩) (fun v Ω' hp => ?_) (fun _ _ h => h.elim)
    obtain ⟨rfl, rfl⟩ := hp
    refine V_lret dX11_fits_39 rfl (by decide) (by rw [fitsP, if_neg (not_not_intro h1), if_neg q14, dif_pos ⟨hi2, h2.1⟩]; exact cP_s hC hI.1 f1 rfl rfl)
  · refine V_ex sX11_fits_17 (by simp only [Option.toList, List.cons_append, List.nil_append, exN, ex1, gI, gL, gR, pI, pL, pR, lget, lset1, lset2, kl, b2I, b2L, nob, ob32, ob64, xGet, xPut, xLen, xLd, xLdR, xSt, obA, true_and, and_true, and_self, eq_self, Nat.reduceEqDiff, Nat.zero_ne_one, reduceIte, Nat.reduceLeDiff, and_false, false_and, show skd 10 11 = 2 from rfl, show skd 3 2 = 0 from rfl, show LF.1 1 = some (.inl 10) from rfl, show LF.2 1 11 = some 130 from rfl, show LF.1 130 = some (.inl 3) from rfl, hlen, upd2_eq, Int.reduceToNat, Int.toNat_natCast]; rfl) (by simp only [ob, R32]; omega) ?_
    refine V_lret dX11_fits_25 rfl (by decide) (by rw [fitsP, if_neg (not_not_intro h1), if_pos q14]; exact cP_s hC hI.1 f1 rfl rfl)
set_option maxRecDepth 100000 in
set_option maxHeartbeats 4000000 in
theorem c_xLeaf {κ : Kx} (hκ : KOK κ) {d s0 : Nat} {K s i : Int} {A : Ab} {G : Wd} (hC : RC G s0 A) (hI : Inv K A) (hR : aR G) (hs : R64 s) (hi : R32 i) (hd : 20 ≤ d) : Ct κ MX11_leaf d 16 128 [VR 1, VL s, VI i] (Wm G) (cP G A ((leafP s i).1 = 0) (some (VL (leafP s i).2))) (cX2 G A (leafP s i).1) := by
  refine Ct_of hκ kX11_leaf.1 rfl (Nat.le_of_ble_eq_true rfl) (ls := [some (VR 1), some (VL s), none, some (VI i)]) rfl (fun μ => ?_)
  refine V_ex sX11_leaf_0 (by rfl) (by first | exact trivial | exact Or.inr rfl | exact Or.inl rfl | (simp only [ob, obA, R32, R64] at *; omega) | (simp only [ob, obA, R32, R64] at *; and_intros <;> omega) | (simp [ob, obA])) ?_
  refine V_callS (M := MX11_leaf) (N := MX11_needSum) dX11_leaf_1 lRX11_308 kX11_needSum rfl (c_needSum (d := 6) hκ hs (by omega)) rfl rfl (Nat.le_of_ble_eq_true rfl) (fit_rm (by omega)) (⟨Nat.le_of_ble_eq_true rfl, Nat.le_of_ble_eq_true rfl⟩) (fun v Ω' hp => ?_) (fun E Ω' h => ⟨by rw [h.2.1, h.2.2]; exact cX2_2 hC (by rw [leafP, if_pos h.1]), rfl, Nat.le_of_ble_eq_true rfl, Nat.le_of_ble_eq_true rfl⟩)
  obtain ⟨h1, rfl, rfl⟩ := hp
  refine V_ex sX11_leaf_4 (by simp only [Option.toList, List.cons_append, List.nil_append, exN, ex1, gI, gL, gR, pI, pL, pR, lget, lset1, lset2, kl, b2I, b2L, nob, ob32, ob64, xGet, xPut, xLen, xLd, xLdR, xSt, obA, true_and, and_true, and_self, eq_self, Nat.reduceEqDiff, Nat.zero_ne_one, reduceIte, Nat.reduceLeDiff, and_false, false_and, show skd 10 11 = 2 from rfl, show LF.1 1 = some (.inl 10) from rfl, show LF.2 1 11 = some 130 from rfl, upd2_eq, Int.reduceToNat, Int.toNat_natCast]; rfl) (by first | exact trivial | exact Or.inr rfl | exact Or.inl rfl | (simp only [ob, obA, R32, R64] at *; omega) | (simp only [ob, obA, R32, R64] at *; and_intros <;> omega) | (simp [ob, obA])) ?_
  refine V_callV (M := MX11_leaf) (N := MX4_find) dX11_leaf_9 lRX11_312 kX4_find rfl (rfl) rfl (c_fnd (d := 6) hκ h1 (by omega)) rfl rfl (Nat.le_of_ble_eq_true rfl) (fit_rm (by omega)) (⟨Nat.le_of_ble_eq_true rfl, Nat.le_of_ble_eq_true rfl⟩) (fun v Ω' hp => ?_) (fun _ _ h => h.elim)
  obtain ⟨rfl, G1, rfl, f1, a1, hm⟩ := hp
  have hlen := a1.1
  have hl4 := a1.2.1
  refine V_ex sX11_leaf_12 (by rfl) (by first | exact trivial | exact Or.inr rfl | exact Or.inl rfl | (simp only [ob, obA, R32, R64] at *; omega) | (simp only [ob, obA, R32, R64] at *; and_intros <;> omega) | (simp [ob, obA])) ?_
  refine V_callV (M := MX11_leaf) (N := MX11_needFit) dX11_leaf_14 lRX11_318 kX11_needFit rfl (rfl) rfl (c_needFit (d := 7) hκ hi hlen (by omega) (by omega)) rfl rfl (Nat.le_of_ble_eq_true rfl) (fit_rm (by omega)) (⟨Nat.le_of_ble_eq_true rfl, Nat.le_of_ble_eq_true rfl⟩) (fun v Ω' hp => ?_) (fun E Ω' h => ⟨by rw [h.2.1, h.2.2]; exact cX2_s hC hI.1 f1 (by rw [leafP, if_neg (not_not_intro h1), dif_neg (fun q => h.1 ⟨q.2, by omega⟩)]), rfl, Nat.le_of_ble_eq_true rfl, Nat.le_of_ble_eq_true rfl⟩)
  obtain ⟨h2, rfl, rfl⟩ := hp
  have hi2 : i.toNat < (fitL s).length := by omega
  have hPA := c_fiLeafAt (κ := κ) hκ (d := 6) (i := i.toNat) a1 hi2
  rw [Int.toNat_of_nonneg h2.1] at hPA
  refine V_ex sX11_leaf_17 (by simp only [Option.toList, List.cons_append, List.nil_append, exN, ex1, gI, gL, gR, pI, pL, pR, lget, lset1, lset2, kl, b2I, b2L, nob, ob32, ob64, xGet, xPut, xLen, xLd, xLdR, xSt, obA, true_and, and_true, and_self, eq_self, Nat.reduceEqDiff, Nat.zero_ne_one, reduceIte, Nat.reduceLeDiff, and_false, false_and, show skd 10 11 = 2 from rfl, show LF.1 1 = some (.inl 10) from rfl, show LF.2 1 11 = some 130 from rfl, upd2_eq, Int.reduceToNat, Int.toNat_natCast]; rfl) (by first | exact trivial | exact Or.inr rfl | exact Or.inl rfl | (simp only [ob, obA, R32, R64] at *; omega) | (simp only [ob, obA, R32, R64] at *; and_intros <;> omega) | (simp [ob, obA])) ?_
  refine V_callV (M := MX11_leaf) (N := MX4_leafAt) dX11_leaf_22 lRX11_324 kX4_leafAt rfl (rfl) rfl (hPA) rfl rfl (Nat.le_of_ble_eq_true rfl) (fit_rm (by omega)) (⟨Nat.le_of_ble_eq_true rfl, Nat.le_of_ble_eq_true rfl⟩) (fun v Ω' hp => ?_) (fun _ _ h => h.elim)
  obtain ⟨rfl, rfl⟩ := hp
  refine V_lret dX11_leaf_25 rfl (by decide) (by rw [leafP, if_neg (not_not_intro h1), dif_pos ⟨hi2, h2.1⟩]; exact cP_s hC hI.1 f1 rfl rfl)
set_option maxRecDepth 100000 in
set_option maxHeartbeats 4000000 in
theorem c_xSaid {κ : Kx} (hκ : KOK κ) {d s0 : Nat} {K s f m : Int} {A : Ab} {G : Wd} (hC : RC G s0 A) (hI : Inv K A) (hR : aR G) (hs : R64 s) (hf : R32 f) (hm : R64 m) (hd : 20 ≤ d) : Ct κ MX11_said d 16 128 [VR 1, VL s, VI f, VL m] (Wm G) (cP G A ((saidP s f m).1 = 0) (some (VI (saidP s f m).2))) (cX2 G A (saidP s f m).1) := by
  refine Ct_of hκ kX11_said.1 rfl (Nat.le_of_ble_eq_true rfl) (ls := [some (VR 1), some (VL s), none, some (VI f), some (VL m), none, none, none]) rfl (fun μ => ?_)
  have loop : ∀ (G1 : Wd), Fs [130] [131, 132, 134] G G1 → fitsAre G1 (fitL s) → (1 ≤ s ∧ s ≤ 1000000000000000000) → (0 ≤ f ∧ f ≤ 10) → (∀ q ∈ fitL s, (0 ≤ q.1 ∧ q.1 ≤ 2000000000) ∧ 0 ≤ q.2 ∧ q.2 ≤ 2000000000) → ∀ (k i : Nat) (ii acc : Int), i + k = (fitL s).length → ii = i → acc + cntL f m ((fitL s).drop i) = cntL f m (fitL s) → V κ MX11_said (rmD d 16 128) (cP G A ((saidP s f m).1 = 0) (some (VI (saidP s f m).2))) (cX2 G A (saidP s f m).1) 16 128 μ (0 + 1 + 1 + 0) (0 + 6 + 6 + 0) (Wm (G1)) 22 [some (VR 1), some (VL s), none, some (VI f), some (VL m), none, some (VI acc), some (VI ii)] [] := fun G1 g1 a1 hsum hfig hok k => by
    have hlen := a1.1
    have hl6 := a1.2.1
    induction k with
    | zero =>
      intro i ii acc hik hii hacc
      subst hii
      rw [List.drop_of_length_le (by omega)] at hacc
      refine V_ex sX11_said_22 (by simp only [Option.toList, List.cons_append, List.nil_append, exN, ex1, gI, gL, gR, pI, pL, pR, lget, lset1, lset2, kl, b2I, b2L, nob, ob32, ob64, xGet, xPut, xLen, xLd, xLdR, xSt, obA, true_and, and_true, and_self, eq_self, Nat.reduceEqDiff, Nat.zero_ne_one, reduceIte, Nat.reduceLeDiff, and_false, false_and, show skd 10 11 = 2 from rfl, show skd 3 2 = 0 from rfl, show LF.1 1 = some (.inl 10) from rfl, show LF.2 1 11 = some 130 from rfl, show LF.1 130 = some (.inl 3) from rfl, hlen, upd2_eq, Int.reduceToNat, Int.toNat_natCast]; rfl) (by first | exact trivial | exact Or.inr rfl | exact Or.inl rfl | (simp only [ob, obA, R32, R64] at *; omega) | (simp only [ob, obA, R32, R64] at *; and_intros <;> omega) | (simp [ob, obA])) ?_
      refine V_icmpge dX11_said_31 (tgt := 59) (by decide) (by simp only [R32, R64] at *; omega) (fun q31 => ?_) (fun q31 => ?_)
      · refine V_ex sX11_said_59 (by rfl) (by first | exact trivial | exact Or.inr rfl | exact Or.inl rfl | (simp only [ob, obA, R32, R64] at *; omega) | (simp only [ob, obA, R32, R64] at *; and_intros <;> omega) | (simp [ob, obA])) ?_
        refine V_iret dX11_said_61 rfl (by decide) (by rw [saidP, if_neg (not_not_intro hsum), if_neg (not_not_intro hfig), ← hacc, cntL, Int.add_zero]; exact cP_s hC hI.1 g1 rfl rfl)
      · omega
    | succ k ih =>
      intro i ii acc hik hii hacc
      subst hii
      have hi2 : i < (fitL s).length := by omega
      rw [List.drop_eq_getElem_cons hi2, cntL] at hacc
      have hq := hok _ (List.getElem_mem hi2)
      have hsay := sayF_R (f := f) (q := (fitL s)[i]'hi2) (by omega) hq.1 hq.2
      refine V_ex sX11_said_22 (by simp only [Option.toList, List.cons_append, List.nil_append, exN, ex1, gI, gL, gR, pI, pL, pR, lget, lset1, lset2, kl, b2I, b2L, nob, ob32, ob64, xGet, xPut, xLen, xLd, xLdR, xSt, obA, true_and, and_true, and_self, eq_self, Nat.reduceEqDiff, Nat.zero_ne_one, reduceIte, Nat.reduceLeDiff, and_false, false_and, show skd 10 11 = 2 from rfl, show skd 3 2 = 0 from rfl, show LF.1 1 = some (.inl 10) from rfl, show LF.2 1 11 = some 130 from rfl, show LF.1 130 = some (.inl 3) from rfl, hlen, upd2_eq, Int.reduceToNat, Int.toNat_natCast]; rfl) (by first | exact trivial | exact Or.inr rfl | exact Or.inl rfl | (simp only [ob, obA, R32, R64] at *; omega) | (simp only [ob, obA, R32, R64] at *; and_intros <;> omega) | (simp [ob, obA])) ?_
      refine V_icmpge dX11_said_31 (tgt := 59) (by decide) (by simp only [R32, R64] at *; omega) (fun q31 => ?_) (fun q31 => ?_)
      · omega
      · refine V_ex sX11_said_34 (by simp only [Option.toList, List.cons_append, List.nil_append, exN, ex1, gI, gL, gR, pI, pL, pR, lget, lset1, lset2, kl, b2I, b2L, nob, ob32, ob64, xGet, xPut, xLen, xLd, xLdR, xSt, obA, true_and, and_true, and_self, eq_self, Nat.reduceEqDiff, Nat.zero_ne_one, reduceIte, Nat.reduceLeDiff, and_false, false_and, show skd 10 11 = 2 from rfl, show LF.1 1 = some (.inl 10) from rfl, show LF.2 1 11 = some 130 from rfl, upd2_eq, Int.reduceToNat, Int.toNat_natCast]; rfl) (by first | exact trivial | exact Or.inr rfl | exact Or.inl rfl | (simp only [ob, obA, R32, R64] at *; omega) | (simp only [ob, obA, R32, R64] at *; and_intros <;> omega) | (simp [ob, obA])) ?_
        refine V_callV (M := MX11_said) (N := MX4_saying) dX11_said_41 lRX11_357 kX4_saying rfl (rfl) rfl (c_fiSaying (d := 6) hκ a1 hi2 (by omega) hq.1 hq.2 (by omega)) rfl rfl (Nat.le_of_ble_eq_true rfl) (fit_rm (by omega)) (⟨Nat.le_of_ble_eq_true rfl, Nat.le_of_ble_eq_true rfl⟩) (fun v Ω' hp => ?_) (fun _ _ h => h.elim)
        obtain ⟨rfl, rfl⟩ := hp
        refine V_ex sX11_said_44 (by rfl) (by exact ⟨hsay, hm⟩) ?_
        refine V_lifne dX11_said_47 (tgt := 53) (by decide) (fun q47 => ?_) (fun q47 => ?_)
        · refine V_ex sX11_said_53 (by rfl) (by first | exact trivial | exact Or.inr rfl | exact Or.inl rfl | (simp only [ob, obA, R32, R64] at *; omega) | (simp only [ob, obA, R32, R64] at *; and_intros <;> omega) | (simp [ob, obA])) ?_
          refine V_goto dX11_said_56 (tgt := 22) (by decide) ?_
          exact ih (i + 1) _ _ (by omega) (by omega) (by rw [← hacc, if_neg q47]; omega)
        · refine V_ex sX11_said_50 (by rfl) (by first | exact trivial | exact Or.inr rfl | exact Or.inl rfl | (simp only [ob, obA, R32, R64] at *; omega) | (simp only [ob, obA, R32, R64] at *; and_intros <;> omega) | (simp [ob, obA])) ?_
          refine V_ex sX11_said_53 (by rfl) (by first | exact trivial | exact Or.inr rfl | exact Or.inl rfl | (simp only [ob, obA, R32, R64] at *; omega) | (simp only [ob, obA, R32, R64] at *; and_intros <;> omega) | (simp [ob, obA])) ?_
          refine V_goto dX11_said_56 (tgt := 22) (by decide) ?_
          exact ih (i + 1) _ _ (by omega) (by omega) (by rw [← hacc, if_pos q47]; omega)
  refine V_ex sX11_said_0 (by rfl) (by first | exact trivial | exact Or.inr rfl | exact Or.inl rfl | (simp only [ob, obA, R32, R64] at *; omega) | (simp only [ob, obA, R32, R64] at *; and_intros <;> omega) | (simp [ob, obA])) ?_
  refine V_callS (M := MX11_said) (N := MX11_needSum) dX11_said_1 lRX11_308 kX11_needSum rfl (c_needSum (d := 6) hκ hs (by omega)) rfl rfl (Nat.le_of_ble_eq_true rfl) (fit_rm (by omega)) (⟨Nat.le_of_ble_eq_true rfl, Nat.le_of_ble_eq_true rfl⟩) (fun v Ω' hp => ?_) (fun E Ω' h => ⟨by rw [h.2.1, h.2.2]; exact cX2_2 hC (by rw [saidP, if_pos h.1]), rfl, Nat.le_of_ble_eq_true rfl, Nat.le_of_ble_eq_true rfl⟩)
  obtain ⟨h1, rfl, rfl⟩ := hp
  refine V_ex sX11_said_4 (by rfl) (by first | exact trivial | exact Or.inr rfl | exact Or.inl rfl | (simp only [ob, obA, R32, R64] at *; omega) | (simp only [ob, obA, R32, R64] at *; and_intros <;> omega) | (simp [ob, obA])) ?_
  refine V_callS (M := MX11_said) (N := MX11_needFigure) dX11_said_5 lRX11_242 kX11_needFigure rfl (c_needFigure (d := 6) hκ hf (by omega)) rfl rfl (Nat.le_of_ble_eq_true rfl) (fit_rm (by omega)) (⟨Nat.le_of_ble_eq_true rfl, Nat.le_of_ble_eq_true rfl⟩) (fun v Ω' hp => ?_) (fun E Ω' h => ⟨by rw [h.2.1, h.2.2]; exact cX2_1 hC (by rw [saidP, if_neg (not_not_intro h1), if_pos h.1]), rfl, Nat.le_of_ble_eq_true rfl, Nat.le_of_ble_eq_true rfl⟩)
  obtain ⟨h2, rfl, rfl⟩ := hp
  refine V_ex sX11_said_8 (by simp only [Option.toList, List.cons_append, List.nil_append, exN, ex1, gI, gL, gR, pI, pL, pR, lget, lset1, lset2, kl, b2I, b2L, nob, ob32, ob64, xGet, xPut, xLen, xLd, xLdR, xSt, obA, true_and, and_true, and_self, eq_self, Nat.reduceEqDiff, Nat.zero_ne_one, reduceIte, Nat.reduceLeDiff, and_false, false_and, show skd 10 11 = 2 from rfl, show LF.1 1 = some (.inl 10) from rfl, show LF.2 1 11 = some 130 from rfl, upd2_eq, Int.reduceToNat, Int.toNat_natCast]; rfl) (by first | exact trivial | exact Or.inr rfl | exact Or.inl rfl | (simp only [ob, obA, R32, R64] at *; omega) | (simp only [ob, obA, R32, R64] at *; and_intros <;> omega) | (simp [ob, obA])) ?_
  refine V_callV (M := MX11_said) (N := MX4_find) dX11_said_13 lRX11_312 kX4_find rfl (rfl) rfl (c_fnd (d := 6) hκ h1 (by omega)) rfl rfl (Nat.le_of_ble_eq_true rfl) (fit_rm (by omega)) (⟨Nat.le_of_ble_eq_true rfl, Nat.le_of_ble_eq_true rfl⟩) (fun v Ω' hp => ?_) (fun _ _ h => h.elim)
  obtain ⟨rfl, G1, rfl, f1, a1, hm0⟩ := hp
  refine V_ex sX11_said_16 (by rfl) (by first | exact trivial | exact Or.inr rfl | exact Or.inl rfl | (simp only [ob, obA, R32, R64] at *; omega) | (simp only [ob, obA, R32, R64] at *; and_intros <;> omega) | (simp [ob, obA])) ?_
  exact loop G1 f1 a1 h1 h2 (fitL_ok hm0 h1) (fitL s).length 0 0 0 (by omega) rfl (by simp)
/-- the first thing to say that tells all fits apart -/
def tellV (L : List (Int × Int)) : Nat → Int → Int
  | 0, _ => -1
  | k + 1, w => if unlike w L (L.length - 1) 1 = true then w else tellV L k (w + 1)
noncomputable def tellsP (s : Int) : Int × Int := if ¬ (1 ≤ s ∧ s ≤ 1000000000000000000) then (1, 0) else (0, tellV (fitL s) 12 0)
set_option maxRecDepth 100000 in
set_option maxHeartbeats 4000000 in
theorem c_xTells {κ : Kx} (hκ : KOK κ) {d s0 : Nat} {K s : Int} {A : Ab} {G : Wd} (hC : RC G s0 A) (hI : Inv K A) (hR : aR G) (hs : R64 s) (hd : 20 ≤ d) : Ct κ MX11_tells d 16 128 [VR 1, VL s] (Wm G) (cP G A ((tellsP s).1 = 0) (some (VI (tellsP s).2))) (cX G A ((tellsP s).1 = 1) IAE) := by
  refine Ct_of hκ kX11_tells.1 rfl (Nat.le_of_ble_eq_true rfl) (ls := [some (VR 1), some (VL s), none, none]) rfl (fun μ => ?_)
  have loop : ∀ (G1 : Wd), Fs [130] [131, 132, 134] G G1 → fitsAre G1 (fitL s) → (1 ≤ s ∧ s ≤ 1000000000000000000) → (∀ q ∈ fitL s, (0 ≤ q.1 ∧ q.1 ≤ 2000000000) ∧ 0 ≤ q.2 ∧ q.2 ≤ 2000000000) → ∀ (k : Nat) (ii : Int), ii + k = 12 → 0 ≤ ii → tellV (fitL s) k ii = tellV (fitL s) 12 0 → V κ MX11_tells (rmD d 16 128) (cP G A ((tellsP s).1 = 0) (some (VI (tellsP s).2))) (cX G A ((tellsP s).1 = 1) IAE) 16 128 μ (0 + 1 + 0) (0 + 6 + 0) (Wm (G1)) 14 [some (VR 1), some (VL s), none, some (VI ii)] [] := fun G1 g1 a1 hsum hok k => by
    induction k with
    | zero =>
      intro ii hik hi0 he
      refine V_ex sX11_tells_14 (by rfl) (by first | exact trivial | exact Or.inr rfl | exact Or.inl rfl | (simp only [ob, obA, R32, R64] at *; omega) | (simp only [ob, obA, R32, R64] at *; and_intros <;> omega) | (simp [ob, obA])) ?_
      refine V_icmpgt dX11_tells_17 (tgt := 39) (by decide) (by simp only [R32, R64] at *; omega) (fun q17 => ?_) (fun q17 => ?_)
      · refine V_ex sX11_tells_39 (by rfl) (by first | exact trivial | exact Or.inr rfl | exact Or.inl rfl | (simp only [ob, obA, R32, R64] at *; omega) | (simp only [ob, obA, R32, R64] at *; and_intros <;> omega) | (simp [ob, obA])) ?_
        refine V_iret dX11_tells_40 rfl (by decide) (by rw [tellsP, if_neg (not_not_intro hsum), ← he]; exact cP_s hC hI.1 g1 rfl rfl)
      · omega
    | succ k ih =>
      intro ii hik hi0 he
      rw [tellV] at he
      refine V_ex sX11_tells_14 (by rfl) (by first | exact trivial | exact Or.inr rfl | exact Or.inl rfl | (simp only [ob, obA, R32, R64] at *; omega) | (simp only [ob, obA, R32, R64] at *; and_intros <;> omega) | (simp [ob, obA])) ?_
      refine V_icmpgt dX11_tells_17 (tgt := 39) (by decide) (by simp only [R32, R64] at *; omega) (fun q17 => ?_) (fun q17 => ?_)
      · omega
      · refine V_ex sX11_tells_20 (by simp only [Option.toList, List.cons_append, List.nil_append, exN, ex1, gI, gL, gR, pI, pL, pR, lget, lset1, lset2, kl, b2I, b2L, nob, ob32, ob64, xGet, xPut, xLen, xLd, xLdR, xSt, obA, true_and, and_true, and_self, eq_self, Nat.reduceEqDiff, Nat.zero_ne_one, reduceIte, Nat.reduceLeDiff, and_false, false_and, show skd 10 11 = 2 from rfl, show LF.1 1 = some (.inl 10) from rfl, show LF.2 1 11 = some 130 from rfl, upd2_eq, Int.reduceToNat, Int.toNat_natCast]; rfl) (by first | exact trivial | exact Or.inr rfl | exact Or.inl rfl | (simp only [ob, obA, R32, R64] at *; omega) | (simp only [ob, obA, R32, R64] at *; and_intros <;> omega) | (simp [ob, obA])) ?_
        refine V_callV (M := MX11_tells) (N := MX4_areUnlike) dX11_tells_25 lRX11_361 kX4_areUnlike rfl (rfl) rfl (c_areUnlike (d := 6) hκ a1 (by omega) hok (by omega)) rfl rfl (Nat.le_of_ble_eq_true rfl) (fit_rm (by omega)) (⟨Nat.le_of_ble_eq_true rfl, Nat.le_of_ble_eq_true rfl⟩) (fun v Ω' hp => ?_) (fun _ _ h => h.elim)
        obtain ⟨rfl, rfl⟩ := hp
        refine V_ifeqB dX11_tells_28 (tgt := 33) (by decide) (fun q28 => ?_) (fun q28 => ?_)
        · refine V_ex sX11_tells_33 (by rfl) (by first | exact trivial | exact Or.inr rfl | exact Or.inl rfl | (simp only [ob, obA, R32, R64] at *; omega) | (simp only [ob, obA, R32, R64] at *; and_intros <;> omega) | (simp [ob, obA])) ?_
          refine V_goto dX11_tells_36 (tgt := 14) (by decide) ?_
          exact ih (ii + 1) (by omega) (by omega) (by rw [← he, if_neg (by rw [q28]; decide)])
        · refine V_ex sX11_tells_31 (by rfl) (by first | exact trivial | exact Or.inr rfl | exact Or.inl rfl | (simp only [ob, obA, R32, R64] at *; omega) | (simp only [ob, obA, R32, R64] at *; and_intros <;> omega) | (simp [ob, obA])) ?_
          refine V_iret dX11_tells_32 rfl (by decide) (by rw [if_pos q28] at he; rw [tellsP, if_neg (not_not_intro hsum), ← he]; exact cP_s hC hI.1 g1 rfl rfl)
  refine V_ex sX11_tells_0 (by rfl) (by first | exact trivial | exact Or.inr rfl | exact Or.inl rfl | (simp only [ob, obA, R32, R64] at *; omega) | (simp only [ob, obA, R32, R64] at *; and_intros <;> omega) | (simp [ob, obA])) ?_
  refine V_callS (M := MX11_tells) (N := MX11_needSum) dX11_tells_1 lRX11_308 kX11_needSum rfl (c_needSum (d := 6) hκ hs (by omega)) rfl rfl (Nat.le_of_ble_eq_true rfl) (fit_rm (by omega)) (⟨Nat.le_of_ble_eq_true rfl, Nat.le_of_ble_eq_true rfl⟩) (fun v Ω' hp => ?_) (fun E Ω' h => ⟨by rw [h.2.1, h.2.2]; exact cX_0 hC (by rw [tellsP, if_pos h.1]), rfl, Nat.le_of_ble_eq_true rfl, Nat.le_of_ble_eq_true rfl⟩)
  obtain ⟨h1, rfl, rfl⟩ := hp
  refine V_ex sX11_tells_4 (by simp only [Option.toList, List.cons_append, List.nil_append, exN, ex1, gI, gL, gR, pI, pL, pR, lget, lset1, lset2, kl, b2I, b2L, nob, ob32, ob64, xGet, xPut, xLen, xLd, xLdR, xSt, obA, true_and, and_true, and_self, eq_self, Nat.reduceEqDiff, Nat.zero_ne_one, reduceIte, Nat.reduceLeDiff, and_false, false_and, show skd 10 11 = 2 from rfl, show LF.1 1 = some (.inl 10) from rfl, show LF.2 1 11 = some 130 from rfl, upd2_eq, Int.reduceToNat, Int.toNat_natCast]; rfl) (by first | exact trivial | exact Or.inr rfl | exact Or.inl rfl | (simp only [ob, obA, R32, R64] at *; omega) | (simp only [ob, obA, R32, R64] at *; and_intros <;> omega) | (simp [ob, obA])) ?_
  refine V_callV (M := MX11_tells) (N := MX4_find) dX11_tells_9 lRX11_312 kX4_find rfl (rfl) rfl (c_fnd (d := 6) hκ h1 (by omega)) rfl rfl (Nat.le_of_ble_eq_true rfl) (fit_rm (by omega)) (⟨Nat.le_of_ble_eq_true rfl, Nat.le_of_ble_eq_true rfl⟩) (fun v Ω' hp => ?_) (fun _ _ h => h.elim)
  obtain ⟨rfl, G1, rfl, f1, a1, hm0⟩ := hp
  refine V_ex sX11_tells_12 (by rfl) (by first | exact trivial | exact Or.inr rfl | exact Or.inl rfl | (simp only [ob, obA, R32, R64] at *; omega) | (simp only [ob, obA, R32, R64] at *; and_intros <;> omega) | (simp [ob, obA])) ?_
  exact loop G1 f1 a1 h1 (fitL_ok hm0 h1) 12 0 (by omega) (by omega) rfl
