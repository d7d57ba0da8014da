/-! TornLeaves: the number on a page -/
/-- the same but the stack of shelf s and the numbers kept -/
def ScN (s : Nat) (G G' : Wd) : Prop := G'.2 = G.2 ∧ ∀ x j, x ≠ s + 6 → x ≠ 128 → ¬ (x = s ∧ j = 10) → G'.1 x j = G.1 x j
theorem ScN.refl (s : Nat) (G : Wd) : ScN s G G := ⟨rfl, fun _ _ _ _ _ => rfl⟩
theorem ScN.trans {s : Nat} {G G' G'' : Wd} (h : ScN s G G') (h' : ScN s G' G'') : ScN s G G'' := ⟨h'.1.trans h.1, fun x j a b c => (h'.2 x j a b c).trans (h.2 x j a b c)⟩
theorem ShC_N {G G' : Wd} {s : Nat} {S : Sh} (hS : SHa s) (h : ShC G s S) (hc : S.2.1.length ≤ 8) (hb : S.1.length ≤ 6) (f : ∀ x j, s ≤ x → x ≤ s + 52 → x ≠ s + 6 → ¬ (x = s ∧ j = 10) → G'.1 x j = G.1 x j) : ShC G' s S := by
  obtain ⟨h1, h2, h3, h4, h5, h6, h7, h8⟩ := h
  have ff : ∀ x, s < x → x ≤ s + 52 → x ≠ s + 6 → G'.1 x = G.1 x := fun x a b c => by funext j; exact f x j (by omega) b c (by omega)
  exact ⟨by rw [f _ _ (by omega) (by omega) (by omega) (by omega)]; exact h1, fun j hj => bkC_congr (h2 j hj) (fun x a b => ff x (by omega) (by omega) (by omega)), by rw [f _ _ (by omega) (by omega) (by omega) (by omega)]; exact h3, fun j hj => cpC_congr (h4 j hj) (f _ _ (by omega) (by omega) (by omega) (by omega)) (ff _ (by omega) (by omega) (by omega)) (ff _ (by omega) (by omega) (by omega)), fun j hj => by rw [ff _ (by omega) (by omega) (by omega)]; exact h5 j hj, by rw [f _ _ (by omega) (by omega) (by omega) (by omega)]; exact h6, by rw [f _ _ (by omega) (by omega) (by omega) (by omega)]; exact h7, fun k hk => by rw [ff _ (by omega) (by omega) (by omega)]; exact h8 k hk⟩
/-- what numbers need -/
def NC (G : Wd) (s : Nat) (S : Sh) : Prop := G.2.2 1 3 = s ∧ SHa s ∧ ShC G s S ∧ okSh 500 S ∧ (∀ j, R32 (G.1 (s + 5) j)) ∧ cacheC G S
theorem NC_c {G G' : Wd} {s : Nat} {S : Sh} (h : NC G s S) (f : ScN s G G') (hc : cacheC G' S) : NC G' s S := by
  obtain ⟨h1, h2, h3, h4, h5, h6⟩ := h
  have h128 : s + 52 < 128 ∧ s + 6 ≠ 128 := by rcases h2 with rfl | rfl <;> decide
  exact ⟨by rw [f.1]; exact h1, h2, ShC_N h2 h3 h4.2.2.1 h4.1 (fun x j a b c d => f.2 x j c (by omega) d), h4, fun j => by rw [f.2 _ _ (by omega) (by omega) (by omega)]; exact h5 j, hc⟩
theorem NC_b {G : Wd} {s j : Nat} {S : Sh} (h : NC G s S) (hj : j < S.1.length) : BKa (s + 7 + 5 * j) ∧ j < 6 ∧ okBk (cdS S) (bkJ S j) ∧ bkC G (s + 7 + 5 * j) (bkJ S j) := by
  obtain ⟨h1, h2, h3, h4, h5, h6⟩ := h
  have h7 := h4.1
  rw [bkJ_in hj]
  exact ⟨(sh_books h2 j (by omega)).2, by omega, h4.2.1 _ (List.getElem_mem hj), h3.2.1 j hj⟩
set_option maxRecDepth 100000 in
set_option maxHeartbeats 4000000 in
theorem c_numOn {κ : Kx} (hκ : KOK κ) {d s j p : Nat} {S : Sh} {G : Wd} (hN : NC G s S) (hj : j < S.1.length) (hp : 1 ≤ p ∧ p ≤ 4000) (hd : 4 ≤ d) : Ct κ MX11_numberOn d 0 0 [VR 1, VI (j : Nat), VR (s + 7 + 5 * j), VI (p : Nat)] (Wm G) (fun v Ω' => v = some (VI (numB (cdS S) (bkJ S j) (p : Int))) ∧ ∃ G', Ω' = Wm G' ∧ ScN s G G' ∧ NC G' s S) noX := by
  refine Ct_of hκ kX11_numberOn.1 rfl (Nat.le_of_ble_eq_true rfl) (ls := [some (VR 1), some (VI (j : Nat)), some (VR (s + 7 + 5 * j)), some (VI (p : Nat)), none, none]) rfl (fun μ => ?_)
  have hp0 := hp
  obtain ⟨hB, hj6, hok, k0, k2, k1, k34, kg⟩ := NC_b hN hj
  have hR := numB_R hok (p := (p : Int)) (by omega)
  have hN0 := hN
  obtain ⟨h1, hS, h3, h4, h5, h6⟩ := hN
  have hs128 : s + 52 < 128 ∧ s + 6 ≠ 128 := by rcases hS with rfl | rfl <;> decide
  have hcd := h3.2.2.2.2.2.2
  generalize hb : bkJ S j = b at *
  obtain ⟨o1, o2, o3, o4, o5, o6, o7, o8, o9⟩ := hok
  obtain ⟨c, hc⟩ : ∃ c : Nat, c = j * 4000 + p - 1 := ⟨_, rfl⟩
  have hcI : (j : Int) * 4000 + (p : Int) - 1 = (c : Int) := by omega
  have hc24 : c < 24000 := by omega
  have hcR : R32 (c : Int) := by unfold R32; omega
  by_cases hk : b.1 = 6
  · obtain ⟨k3, k4⟩ := k34 hk
    have hnb : numB (cdS S) b (p : Int) = clT ((runL b.2.2.1 p (segC (cdS S) b.2.2.2.1 b.2.2.2.2.1) []).headD 0) := by unfold numB; rw [if_pos hk]
    have hseg : opsL (G.1 (s + 5)) (b.2.2.2.2.1 - b.2.2.2.1).toNat b.2.2.2.1.toNat = segC (cdS S) b.2.2.2.1 b.2.2.2.2.1 := opsL_seg hcd o5.1 o5.2.1 o5.2.2
    have hT := c_toldNumber (κ := κ) hκ (d := 3) (s := s) (a := s + 7 + 5 * j) (p := (p : Int)) (G := G) hS hB ⟨by omega, by omega⟩ (by omega) (by unfold R32; omega) (by rw [k1]; unfold R32; omega) (by rw [k3, k4]; have : (cdS S).length ≤ 500 := h4.2.2.2.2.2.2.1; omega) h5 (by rw [k3, k4, hseg]; exact o6 hk) (by omega)
    rw [k1, k3, k4, hseg, ← hnb] at hT
    have hke := h6 j hj (by rw [hb]; exact hk) p hp0.1 hp0.2
    rw [hb, ← hc] at hke
    generalize hnb' : numB (cdS S) b (p : Int) = z at *
    generalize h128 : G.1 128 c = y at *
    refine V_ex sX11_numberOn_0 (by simp only [Option.toList, List.cons_append, List.nil_append, exN, ex1, gI, gL, gR, pI, pL, pR, lget, lset1, lset2, kl, b2I, b2L, nob, ob32, ob64, xGet, xPut, xLen, xLd, xLdR, xSt, obA, true_and, and_true, and_self, eq_self, Nat.reduceEqDiff, Nat.zero_ne_one, reduceIte, Nat.reduceLeDiff, and_false, false_and, show skd 0 0 = 0 from rfl, hB.1, k0, upd2_eq, Int.reduceToNat, Int.toNat_natCast]; rfl) (by first | exact trivial | exact Or.inr rfl | exact Or.inl rfl | (simp only [ob, obA, R32, R64] at *; omega) | (simp only [ob, obA, R32, R64] at *; and_intros <;> omega)) ?_
    refine V_icmpeq dX11_numberOn_6 (tgt := 15) (by decide) (by simp only [R32, R64] at *; omega) (fun q6 => ?_) (fun q6 => ?_)
    · refine V_ex sX11_numberOn_15 (by simp only [Option.toList, List.cons_append, List.nil_append, exN, ex1, gI, gL, gR, pI, pL, pR, lget, lset1, lset2, kl, b2I, b2L, nob, ob32, ob64, xGet, xPut, xLen, xLd, xLdR, xSt, obA, true_and, and_true, and_self, eq_self, Nat.reduceEqDiff, Nat.zero_ne_one, reduceIte, Nat.reduceLeDiff, and_false, false_and, show skd 10 9 = 2 from rfl, show LF.1 1 = some (.inl 10) from rfl, show LF.2 1 9 = some 128 from rfl, upd2_eq, Int.reduceToNat, Int.toNat_natCast]; rfl) (by first | exact trivial | exact Or.inr rfl | exact Or.inl rfl | (simp only [ob, obA, R32, R64] at *; omega) | (simp only [ob, obA, R32, R64] at *; and_intros <;> omega)) ?_
      rw [hcI]
      refine V_callS (M := MX11_numberOn) (N := MX11_at) dX11_numberOn_32 lRX11_215 kX11_at rfl (c_at (d := 3) hκ (a := 128) (n := 24000) rfl (by decide) hcR) rfl rfl (Nat.le_of_ble_eq_true rfl) (fit_rm (by omega)) (⟨Nat.le_of_ble_eq_true rfl, Nat.le_of_ble_eq_true rfl⟩) (fun v Ω' hp => ?_) (fun _ _ h => h.elim)
      obtain ⟨rfl, rfl⟩ := hp
      rw [rAt_nat c rfl hc24, h128]
      refine V_ex sX11_numberOn_35 (by rfl) (by first | exact trivial | exact Or.inr rfl | exact Or.inl rfl | (simp only [ob, obA, R32, R64] at *; omega) | (simp only [ob, obA, R32, R64] at *; and_intros <;> omega)) ?_
      refine V_ifne dX11_numberOn_39 (tgt := 66) (by decide) (by unfold R32; omega) (fun q39 => ?_) (fun q39 => ?_)
      · refine V_ex sX11_numberOn_66 (by rfl) (by first | exact trivial | exact Or.inr rfl | exact Or.inl rfl | (simp only [ob, obA, R32, R64] at *; omega) | (simp only [ob, obA, R32, R64] at *; and_intros <;> omega)) ?_
        refine V_iret dX11_numberOn_70 rfl (by decide) ⟨by rcases hke with h | h; exact absurd h q39; rw [h, Int.add_sub_cancel], G, rfl, ScN.refl _ _, hN0⟩
      · refine V_ex sX11_numberOn_42 (by simp only [Option.toList, List.cons_append, List.nil_append, exN, ex1, gI, gL, gR, pI, pL, pR, lget, lset1, lset2, kl, b2I, b2L, nob, ob32, ob64, xGet, xPut, xLen, xLd, xLdR, xSt, obA, true_and, and_true, and_self, eq_self, Nat.reduceEqDiff, Nat.zero_ne_one, reduceIte, Nat.reduceLeDiff, and_false, false_and, show skd 10 3 = 3 from rfl, show LF.1 1 = some (.inl 10) from rfl, h1, upd2_eq, Int.reduceToNat, Int.toNat_natCast]; rfl) (by first | exact trivial | exact Or.inr rfl | exact Or.inl rfl | (simp only [ob, obA, R32, R64] at *; omega) | (simp only [ob, obA, R32, R64] at *; and_intros <;> omega)) ?_
        refine V_callV (M := MX11_numberOn) (N := MX7_toldNumber) dX11_numberOn_48 lRX11_219 kX7_toldNumber rfl ((sh_facts hS).1) rfl (hT) rfl rfl (Nat.le_of_ble_eq_true rfl) (fit_rm (by omega)) (⟨Nat.le_of_ble_eq_true rfl, Nat.le_of_ble_eq_true rfl⟩) (fun v Ω' hp => ?_) (fun _ _ h => h.elim)
        obtain ⟨rfl, G1, rfl, f1⟩ := hp
        refine V_ex sX11_numberOn_51 (by simp only [Option.toList, List.cons_append, List.nil_append, exN, ex1, gI, gL, gR, pI, pL, pR, lget, lset1, lset2, kl, b2I, b2L, nob, ob32, ob64, xGet, xPut, xLen, xLd, xLdR, xSt, obA, true_and, and_true, and_self, eq_self, Nat.reduceEqDiff, Nat.zero_ne_one, reduceIte, Nat.reduceLeDiff, and_false, false_and, show skd 10 9 = 2 from rfl, show LF.1 1 = some (.inl 10) from rfl, show LF.2 1 9 = some 128 from rfl, upd2_eq, Int.reduceToNat, Int.toNat_natCast]; rfl) (by first | exact trivial | exact Or.inr rfl | exact Or.inl rfl | (simp only [ob, obA, R32, R64] at *; omega) | (simp only [ob, obA, R32, R64] at *; and_intros <;> omega)) ?_
        refine V_callS (M := MX11_numberOn) (N := MX11_setAt) dX11_numberOn_63 lRX11_87 kX11_setAt rfl (c_setAt (d := 3) hκ (a := 128) (n := 24000) rfl (by decide) hcR) rfl rfl (Nat.le_of_ble_eq_true rfl) (fit_rm (by omega)) (⟨Nat.le_of_ble_eq_true rfl, Nat.le_of_ble_eq_true rfl⟩) (fun v Ω' hp => ?_) (fun _ _ h => h.elim)
        obtain ⟨rfl, rfl⟩ := hp
        rw [rSet_nat c rfl hc24]
        refine V_ex sX11_numberOn_66 (by rfl) (by first | exact trivial | exact Or.inr rfl | exact Or.inl rfl | (simp only [ob, obA, R32, R64] at *; omega) | (simp only [ob, obA, R32, R64] at *; and_intros <;> omega)) ?_
        refine V_iret dX11_numberOn_70 rfl (by decide) ?_
        have f2 : ScN s G (uI G1 128 c (z + 1)) := ⟨f1.1, fun x k h1 h2 h3 => by simp only [upd2_eq]; rw [if_neg (by omega)]; exact f1.2 x k h1 h3⟩
        refine ⟨by rw [Int.add_sub_cancel], _, rfl, f2, NC_c hN0 f2 ?_⟩
        intro j2 hj2 h62 p2 hp1 hp2
        have hj26 : j2 < 6 := by have := h4.1; omega
        by_cases hx : j2 * 4000 + p2 - 1 = c
        · obtain rfl : j2 = j := by omega
          obtain rfl : p2 = p := by omega
          rw [hx, iu, hb, hnb']; exact Or.inr rfl
        · rw [iv (by omega), f1.2 _ _ (by omega) (by omega)]
          exact h6 j2 hj2 h62 p2 hp1 hp2
    · exact absurd hk q6
  · have hnb : numB (cdS S) b (p : Int) = ownN b.1 b.2.1 p := by unfold numB; rw [if_neg hk]
    have hO := c_ownNumber (κ := κ) hκ (d := 3) (a := s + 7 + 5 * j) (p := (p : Int)) (G := G) hB (by unfold R32; omega) (by rw [k0]; unfold R32; omega) (by rw [k2]; unfold R32; omega) (by omega)
    rw [k0, k2, ← hnb] at hO
    refine V_ex sX11_numberOn_0 (by simp only [Option.toList, List.cons_append, List.nil_append, exN, ex1, gI, gL, gR, pI, pL, pR, lget, lset1, lset2, kl, b2I, b2L, nob, ob32, ob64, xGet, xPut, xLen, xLd, xLdR, xSt, obA, true_and, and_true, and_self, eq_self, Nat.reduceEqDiff, Nat.zero_ne_one, reduceIte, Nat.reduceLeDiff, and_false, false_and, show skd 0 0 = 0 from rfl, hB.1, k0, upd2_eq, Int.reduceToNat, Int.toNat_natCast]; rfl) (by first | exact trivial | exact Or.inr rfl | exact Or.inl rfl | (simp only [ob, obA, R32, R64] at *; omega) | (simp only [ob, obA, R32, R64] at *; and_intros <;> omega)) ?_
    refine V_icmpeq dX11_numberOn_6 (tgt := 15) (by decide) (by simp only [R32, R64] at *; omega) (fun q6 => ?_) (fun q6 => ?_)
    · exact absurd q6 hk
    · refine V_ex sX11_numberOn_9 (by rfl) (by first | exact trivial | exact Or.inr rfl | exact Or.inl rfl | (simp only [ob, obA, R32, R64] at *; omega) | (simp only [ob, obA, R32, R64] at *; and_intros <;> omega)) ?_
      refine V_callV (M := MX11_numberOn) (N := MX0_ownNumber) dX11_numberOn_11 lRX11_212 kX0_ownNumber rfl (hB.1) rfl (hO) rfl rfl (Nat.le_of_ble_eq_true rfl) (fit_rm (by omega)) (⟨Nat.le_of_ble_eq_true rfl, Nat.le_of_ble_eq_true rfl⟩) (fun v Ω' hp => ?_) (fun _ _ h => h.elim)
      obtain ⟨rfl, rfl⟩ := hp
      refine V_iret dX11_numberOn_14 rfl (by decide) ⟨rfl, G, rfl, ScN.refl _ _, hN0⟩
