/-! THE MODEL's reader: rows of leaves -/
/-- the same but the reader's cells and the row fr .. of the array a -/
def FLm (a fr most : Nat) (G G' : Wd) : Prop := G'.2 = G.2 ∧ ∀ x j, ¬ (x = 145 ∧ (j = 19 ∨ j = 21 ∨ j = 22 ∨ j = 24 ∨ j = 25 ∨ j = 26 ∨ j = 27)) → ¬ (x = a ∧ fr ≤ j ∧ j < fr + most) → G'.1 x j = G.1 x j
theorem FLm.refl (a fr most : Nat) (G : Wd) : FLm a fr most G G := ⟨rfl, fun _ _ _ _ => rfl⟩
theorem FLm.trans {a fr most : Nat} {G G' G'' : Wd} (h : FLm a fr most G G') (h' : FLm a fr most G' G'') : FLm a fr most G G'' := ⟨h'.1.trans h.1, fun x j p q => (h'.2 x j p q).trans (h.2 x j p q)⟩
theorem FLm.m {a fr most : Nat} {G G' : Wd} (h : Fm G G') : FLm a fr most G G' := ⟨h.1, fun x j p _ => h.2 x j (by omega)⟩
theorem FLm.ct {a fr most : Nat} {f : Nat → Int} {n i : Nat} {k : Int} (G : Wd) : FLm a fr most G (ctW f n i k G) := ⟨rfl, fun x j p q => by unfold ctW; rw [iv (by omega), iv (by omega)]⟩
theorem FLm.st {a fr most : Nat} (G : Wd) {k : Nat} (z : Int) (h1 : fr ≤ k) (h2 : k < fr + most) : FLm a fr most G (uI G a k z) := ⟨rfl, fun x j p q => by rw [iv (by intro e; exact q ⟨e.1, by omega, by omega⟩)]⟩
def lvP (f : Nat → Int) (n a fr most : Nat) (G : Wd) (r : Nat × Int × List Int) : Option Vl → Om → Prop := fun u Ω' => ∃ G', Ω' = Wm G' ∧ FLm a fr most G G' ∧ (r.2.1 = 0 → mI f n G' r.1 ∧ u = some (VI (r.2.2.length : Nat)) ∧ ∀ j (h : j < r.2.2.length), G'.1 a (fr + j) = r.2.2[j]'h) ∧ (r.2.1 ≠ 0 → G'.1 145 26 = r.2.1 ∧ G'.1 145 27 = (tkB (tk f n 0) r.1 : Nat) ∧ ∃ z, u = some (VI z))
set_option maxRecDepth 100000 in
set_option maxHeartbeats 4000000 in
theorem c_mLeaves {κ : Kx} (hκ : KOK κ) {d n i a sz bk fr most : Nat} {lv : Int} {f : Nat → Int} {g : List Int} {G : Wd} (h : mI f n G i) (ha : LF.1 a = some (.inr (0, sz))) (hsz : fr + most ≤ sz) (hsz2 : sz ≤ 10000) (ha2 : 150 < a ∧ a ≠ 151 ∧ a ≠ 162) (hbk : bk < 6) (hlv : G.1 151 (6 + bk) = lv) (hlv2 : 0 ≤ lv ∧ lv ≤ 2000) (hg : ∀ j (hj : j < g.length), G.1 a (fr + j) = g[j]'hj) (hgm : g.length ≤ most) (hgR : ∀ z ∈ g, R32 z) (hd : 2 ≤ d) (K : Nat) (hK : (tk f n 0).length ≤ i + K) : Ct κ MX12_readLeaves d 0 0 [VR 145, VI (bk : Nat), VR a, VI (fr : Nat), VI (g.length : Nat), VI (most : Nat)] (Wm G) (lvP f n a fr most G (pLvs (tkW (tk f n 0)) (tkV (tk f n 0)) lv most K i g)) noX := by
  refine Ct_of hκ kX12_readLeaves.1 rfl (Nat.le_of_ble_eq_true rfl) (ls := [some (VR 145), some (VI (bk : Nat)), some (VR a), some (VI (fr : Nat)), some (VI (g.length : Nat)), some (VI (most : Nat)), none, none]) rfl (fun μ => ?_)
  have L : ∀ (k i1 : Nat) (g1 : List Int) (G1 : Wd) (x : Option Vl), FLm a fr most G G1 → mI f n G1 i1 → (∀ j (hj : j < g1.length), G1.1 a (fr + j) = g1[j]'hj) → g1.length ≤ most → (∀ z ∈ g1, R32 z) → (tk f n 0).length ≤ i1 + k → pLvs (tkW (tk f n 0)) (tkV (tk f n 0)) lv most k i1 g1 = pLvs (tkW (tk f n 0)) (tkV (tk f n 0)) lv most K i g → V κ MX12_readLeaves (rmD d 0 0) (lvP f n a fr most G (pLvs (tkW (tk f n 0)) (tkV (tk f n 0)) lv most K i g)) noX 0 0 μ 0 0 (Wm (G1)) 4 [some (VR 145), some (VI (bk : Nat)), some (VR a), some (VI (fr : Nat)), some (VI (g.length : Nat)), some (VI (most : Nat)), some (VI (g1.length : Nat)), x] [] := by
    intro k
    induction k with
    | zero =>
      intro i1 g1 G1 x f1 hI1 hg1 hgm1 hgR1 hk he
      have := (mI_lt hI1).1
      have := (tk_len f n n 0 (by omega)).1
      omega
    | succ k ih =>
      intro i1 g1 G1 x f1 hI1 hg1 hgm1 hgR1 hk he
      obtain ⟨h26, h21⟩ := mI_26 hI1
      obtain ⟨j1, j2, j3, j4, j5, j6⟩ := mI_lt hI1
      have hkd := kd_R (tkW (tk f n 0) i1)
      have hlv1 : G1.1 151 (6 + bk) = lv := by rw [f1.2 _ _ (by omega) (by omega)]; exact hlv
      have h26k : ∀ k : Int, (ctW f n i1 k G1).1 145 26 = k := fun k => ct_26
      have h27k : ∀ k : Int, (ctW f n i1 k G1).1 145 27 = (tkB (tk f n 0) i1 : Nat) := fun k => by unfold ctW; rw [iu]
      by_cases hw : tkW (tk f n 0) i1 = -2
      · have h21b : G1.1 145 21 = 2 := by rw [h21, hw]; decide
        by_cases hf : pLf (tkV (tk f n 0)) lv most i1 g1 = 0
        · -- a leaf is taken
          have hf1 : ¬ (9999 < tkV (tk f n 0) i1 ∨ most ≤ g1.length) := fun q => by rw [pLf, if_pos q] at hf; exact absurd hf (by decide)
          have hf2 : ¬ lv ≤ tkV (tk f n 0) i1 := fun q => by rw [pLf, if_neg hf1, if_pos q] at hf; exact absurd hf (by decide)
          have hf3 : ¬ tkV (tk f n 0) i1 ∈ g1 := fun q => by rw [pLf, if_neg hf1, if_neg hf2, if_pos q] at hf; exact absurd hf (by decide)
          have hx : pNum (tkW (tk f n 0)) (tkV (tk f n 0)) 0 9999 i1 = 0 := by rw [pNum, if_neg (by omega), if_neg (by omega)]
          have hN := c_iNumNow hκ (d := 1) (lo := 0) (hh := 9999) hI1 (by omega) (by omega) (by omega)
          rw [if_pos hx, if_pos hx] at hN
          have hA := c_mAmong (κ := κ) hκ (d := 0) (v := tkV (tk f n 0) i1) (G := G1) ha (fr := fr) (m := g1.length) (by omega) (by omega) (by unfold R32; omega) (fun j hj => by rw [hg1 j hj]; exact hgR1 _ (List.getElem_mem hj))
          rw [amg_list hg1, decide_eq_false hf3] at hA
          have e1 : ((fr : Int) + (g1.length : Nat)).toNat = fr + g1.length := by omega
          have e2 : (6 + (bk : Int)).toNat = 6 + bk := by omega
          have he' : pLvs (tkW (tk f n 0)) (tkV (tk f n 0)) lv most (k + 1) i1 g1 = pLvs (tkW (tk f n 0)) (tkV (tk f n 0)) lv most k (i1 + 1) (g1 ++ [tkV (tk f n 0) i1]) := by rw [pLvs, if_pos hw, if_neg (by omega)]
          rw [he'] at he
          generalize hv : tkV (tk f n 0) i1 = v at *
          have i3 : mI f n (uI G1 a (fr + g1.length) v) i1 := mI_keep (fun j p q r => iv (by omega)) (by funext j; exact iv (by omega)) hI1
          refine V_ex sX12_readLeaves_4 (by simp only [Option.toList, List.cons_append, List.nil_append, exN, ex1, gI, gL, gR, pI, pL, pR, lget, lset1, lset2, kl, b2I, b2L, nob, ob32, ob64, xGet, xPut, xLen, xLd, xLdR, xSt, obA, true_and, and_true, and_self, eq_self, Nat.reduceEqDiff, Nat.zero_ne_one, reduceIte, Nat.reduceLeDiff, and_false, false_and, show skd 11 26 = 0 from rfl, show LF.1 145 = some (.inl 11) from rfl, upd2_eq, Int.reduceToNat, Int.toNat_natCast]; rfl) (by first | exact trivial | exact Or.inr rfl | exact Or.inl rfl | (simp only [ob, obA, R32, R64] at *; omega) | (simp only [ob, obA, R32, R64] at *; and_intros <;> omega)) ?_
          refine V_ifne dX12_readLeaves_8 (tgt := 122) (by decide) (by rw [h26]; unfold R32; decide) (fun q8 => ?_) (fun q8 => ?_)
          · exact absurd h26 q8
          · refine V_ex sX12_readLeaves_11 (by simp only [Option.toList, List.cons_append, List.nil_append, exN, ex1, gI, gL, gR, pI, pL, pR, lget, lset1, lset2, kl, b2I, b2L, nob, ob32, ob64, xGet, xPut, xLen, xLd, xLdR, xSt, obA, true_and, and_true, and_self, eq_self, Nat.reduceEqDiff, Nat.zero_ne_one, reduceIte, Nat.reduceLeDiff, and_false, false_and, show skd 11 21 = 0 from rfl, show LF.1 145 = some (.inl 11) from rfl, upd2_eq, Int.reduceToNat, Int.toNat_natCast]; rfl) (by first | exact trivial | exact Or.inr rfl | exact Or.inl rfl | (simp only [ob, obA, R32, R64] at *; omega) | (simp only [ob, obA, R32, R64] at *; and_intros <;> omega)) ?_
            refine V_icmpne dX12_readLeaves_16 (tgt := 122) (by decide) (by rw [h21b]; unfold R32; decide) (fun q16 => ?_) (fun q16 => ?_)
            · exact absurd h21b q16
            · refine V_ex sX12_readLeaves_19 (by rfl) (by first | exact trivial | exact Or.inr rfl | exact Or.inl rfl | (simp only [ob, obA, R32, R64] at *; omega) | (simp only [ob, obA, R32, R64] at *; and_intros <;> omega)) ?_
              refine V_icmpne dX12_readLeaves_23 (tgt := 31) (by decide) (by simp only [R32, R64] at *; omega) (fun q23 => ?_) (fun q23 => ?_)
              · refine V_ex sX12_readLeaves_31 (by rfl) (by first | exact trivial | exact Or.inr rfl | exact Or.inl rfl | (simp only [ob, obA, R32, R64] at *; omega) | (simp only [ob, obA, R32, R64] at *; and_intros <;> omega)) ?_
                refine V_callV (M := MX12_readLeaves) (N := MX12_numberNow) dX12_readLeaves_36 lRX12_252 kX12_numberNow rfl (rfl) rfl (hN) rfl rfl (Nat.le_of_ble_eq_true rfl) (fit_rm (by omega)) (⟨Nat.le_of_ble_eq_true rfl, Nat.le_of_ble_eq_true rfl⟩) (fun v Ω' hp => ?_) (fun _ _ h => h.elim)
                obtain ⟨rfl, rfl⟩ := hp
                refine V_ex sX12_readLeaves_39 (by simp only [Option.toList, List.cons_append, List.nil_append, exN, ex1, gI, gL, gR, pI, pL, pR, lget, lset1, lset2, kl, b2I, b2L, nob, ob32, ob64, xGet, xPut, xLen, xLd, xLdR, xSt, obA, true_and, and_true, and_self, eq_self, Nat.reduceEqDiff, Nat.zero_ne_one, reduceIte, Nat.reduceLeDiff, and_false, false_and, show skd 11 26 = 0 from rfl, show LF.1 145 = some (.inl 11) from rfl, upd2_eq, Int.reduceToNat, Int.toNat_natCast]; rfl) (by first | exact trivial | exact Or.inr rfl | exact Or.inl rfl | (simp only [ob, obA, R32, R64] at *; omega) | (simp only [ob, obA, R32, R64] at *; and_intros <;> omega)) ?_
                refine V_ifne dX12_readLeaves_45 (tgt := 70) (by decide) (by rw [h26]; unfold R32; decide) (fun q45 => ?_) (fun q45 => ?_)
                · exact absurd h26 q45
                · refine V_ex sX12_readLeaves_48 (by simp only [Option.toList, List.cons_append, List.nil_append, exN, ex1, gI, gL, gR, pI, pL, pR, lget, lset1, lset2, kl, b2I, b2L, nob, ob32, ob64, xGet, xPut, xLen, xLd, xLdR, xSt, obA, true_and, and_true, and_self, eq_self, Nat.reduceEqDiff, Nat.zero_ne_one, reduceIte, Nat.reduceLeDiff, and_false, false_and, show skd 11 6 = 2 from rfl, show LF.1 145 = some (.inl 11) from rfl, show LF.2 145 6 = some 151 from rfl, show LF.1 151 = some (.inr (0, 12)) from rfl, e2, hlv1, upd2_eq, Int.reduceToNat, Int.toNat_natCast]; rfl) (by first | exact trivial | exact Or.inr rfl | exact Or.inl rfl | (simp only [ob, obA, R32, R64] at *; omega) | (simp only [ob, obA, R32, R64] at *; and_intros <;> omega)) ?_
                  refine V_icmplt dX12_readLeaves_59 (tgt := 70) (by decide) (by simp only [R32, R64] at *; omega) (fun q59 => ?_) (fun q59 => ?_)
                  · refine V_ex sX12_readLeaves_70 (by simp only [Option.toList, List.cons_append, List.nil_append, exN, ex1, gI, gL, gR, pI, pL, pR, lget, lset1, lset2, kl, b2I, b2L, nob, ob32, ob64, xGet, xPut, xLen, xLd, xLdR, xSt, obA, true_and, and_true, and_self, eq_self, Nat.reduceEqDiff, Nat.zero_ne_one, reduceIte, Nat.reduceLeDiff, and_false, false_and, show skd 11 26 = 0 from rfl, show LF.1 145 = some (.inl 11) from rfl, upd2_eq, Int.reduceToNat, Int.toNat_natCast]; rfl) (by first | exact trivial | exact Or.inr rfl | exact Or.inl rfl | (simp only [ob, obA, R32, R64] at *; omega) | (simp only [ob, obA, R32, R64] at *; and_intros <;> omega)) ?_
                    refine V_ifne dX12_readLeaves_74 (tgt := 94) (by decide) (by rw [h26]; unfold R32; decide) (fun q74 => ?_) (fun q74 => ?_)
                    · exact absurd h26 q74
                    · refine V_ex sX12_readLeaves_77 (by rfl) (by first | exact trivial | exact Or.inr rfl | exact Or.inl rfl | (simp only [ob, obA, R32, R64] at *; omega) | (simp only [ob, obA, R32, R64] at *; and_intros <;> omega)) ?_
                      refine V_callS (M := MX12_readLeaves) (N := MX12_isAmong) dX12_readLeaves_83 lRX12_295 kX12_isAmong rfl (hA) rfl rfl (Nat.le_of_ble_eq_true rfl) (fit_rm (by omega)) (⟨Nat.le_of_ble_eq_true rfl, Nat.le_of_ble_eq_true rfl⟩) (fun v Ω' hp => ?_) (fun _ _ h => h.elim)
                      obtain ⟨rfl, rfl⟩ := hp
                      refine V_ifeqB dX12_readLeaves_86 (tgt := 94) (by decide) (fun q86 => ?_) (fun q86 => ?_)
                      · refine V_ex sX12_readLeaves_94 (by simp only [Option.toList, List.cons_append, List.nil_append, exN, ex1, gI, gL, gR, pI, pL, pR, lget, lset1, lset2, kl, b2I, b2L, nob, ob32, ob64, xGet, xPut, xLen, xLd, xLdR, xSt, obA, true_and, and_true, and_self, eq_self, Nat.reduceEqDiff, Nat.zero_ne_one, reduceIte, Nat.reduceLeDiff, and_false, false_and, show skd 11 26 = 0 from rfl, show LF.1 145 = some (.inl 11) from rfl, upd2_eq, Int.reduceToNat, Int.toNat_natCast]; rfl) (by first | exact trivial | exact Or.inr rfl | exact Or.inl rfl | (simp only [ob, obA, R32, R64] at *; omega) | (simp only [ob, obA, R32, R64] at *; and_intros <;> omega)) ?_
                        refine V_ifeq dX12_readLeaves_98 (tgt := 104) (by decide) (by rw [h26]; unfold R32; decide) (fun q98 => ?_) (fun q98 => ?_)
                        · refine V_ex sX12_readLeaves_104 (by simp only [Option.toList, List.cons_append, List.nil_append, exN, ex1, gI, gL, gR, pI, pL, pR, lget, lset1, lset2, kl, b2I, b2L, nob, ob32, ob64, xGet, xPut, xLen, xLd, xLdR, xSt, obA, true_and, and_true, and_self, eq_self, Nat.reduceEqDiff, Nat.zero_ne_one, reduceIte, Nat.reduceLeDiff, and_false, false_and, ha, e1, upd2_eq, Int.reduceToNat, Int.toNat_natCast]; rfl) (by first | exact trivial | exact Or.inr rfl | exact Or.inl rfl | (simp only [ob, obA, R32, R64] at *; omega) | (simp only [ob, obA, R32, R64] at *; and_intros <;> omega)) ?_
                          refine V_callV (M := MX12_readLeaves) (N := MX12_stepOn) dX12_readLeaves_116 lRX12_249 kX12_stepOn rfl (rfl) rfl (c_iNext (d := 1) hκ i3 (by omega) (by omega)) rfl rfl (Nat.le_of_ble_eq_true rfl) (fit_rm (by omega)) (⟨Nat.le_of_ble_eq_true rfl, Nat.le_of_ble_eq_true rfl⟩) (fun v Ω' hp => ?_) (fun _ _ h => h.elim)
                          obtain ⟨rfl, G2, rfl, f2, i2⟩ := hp
                          refine V_goto dX12_readLeaves_119 (tgt := 4) (by decide) ?_
                          rw [show ((g1.length : Nat) : Int) + 1 = ((g1 ++ [v]).length : Nat) by simp]
                          exact ih (i1 + 1) (g1 ++ [v]) G2 _ ((f1.trans (FLm.st G1 v (by omega) (by omega))).trans (FLm.m f2)) i2 (fun j hj => by
                            rw [f2.2 _ _ (by omega)]
                            simp only [List.length_append, List.length_singleton] at hj
                            rcases Nat.lt_or_ge j g1.length with q | q
                            · rw [iv (by omega), hg1 j q, List.getElem_append_left q]
                            · obtain rfl : j = g1.length := by omega
                              rw [iu, List.getElem_concat_length rfl]) (by simp; omega) (fun z hz => by
                            rcases List.mem_append.mp hz with q | q
                            · exact hgR1 z q
                            · rw [List.mem_singleton.mp q]; unfold R32; omega) (by omega) he
                        · exact absurd h26 q98
                      · exact absurd q86 (by decide)
                  · omega
              · omega
        · -- a leaf is refused
          have he' : pLvs (tkW (tk f n 0)) (tkV (tk f n 0)) lv most (k + 1) i1 g1 = (i1, pLf (tkV (tk f n 0)) lv most i1 g1, g1) := by rw [pLvs, if_pos hw, if_pos hf]
          rw [he'] at he
          have stop : ∀ (kk : Int) (y : Option Vl), kk = pLf (tkV (tk f n 0)) lv most i1 g1 → 0 < kk → kk < 10 → V κ MX12_readLeaves (rmD d 0 0) (lvP f n a fr most G (pLvs (tkW (tk f n 0)) (tkV (tk f n 0)) lv most K i g)) noX 0 0 μ 0 0 (Wm (ctW f n i1 kk G1)) 94 [some (VR 145), some (VI (bk : Nat)), some (VR a), some (VI (fr : Nat)), some (VI (g.length : Nat)), some (VI (most : Nat)), some (VI (g1.length : Nat)), y] [] := fun kk y hkk h0 h10 => by
            refine V_ex sX12_readLeaves_94 (by simp only [Option.toList, List.cons_append, List.nil_append, exN, ex1, gI, gL, gR, pI, pL, pR, lget, lset1, lset2, kl, b2I, b2L, nob, ob32, ob64, xGet, xPut, xLen, xLd, xLdR, xSt, obA, true_and, and_true, and_self, eq_self, Nat.reduceEqDiff, Nat.zero_ne_one, reduceIte, Nat.reduceLeDiff, and_false, false_and, show skd 11 26 = 0 from rfl, show LF.1 145 = some (.inl 11) from rfl, upd2_eq, Int.reduceToNat, Int.toNat_natCast]; rfl) (by first | exact trivial | exact Or.inr rfl | exact Or.inl rfl | (simp only [ob, obA, R32, R64] at *; omega) | (simp only [ob, obA, R32, R64] at *; and_intros <;> omega)) ?_
            refine V_ifeq dX12_readLeaves_98 (tgt := 104) (by decide) (by rw [h26k]; unfold R32; omega) (fun q98 => ?_) (fun q98 => ?_)
            · rw [h26k] at q98; omega
            · refine V_ex sX12_readLeaves_101 (by rfl) (by first | exact trivial | exact Or.inr rfl | exact Or.inl rfl | (simp only [ob, obA, R32, R64] at *; omega) | (simp only [ob, obA, R32, R64] at *; and_intros <;> omega)) ?_
              refine V_iret dX12_readLeaves_103 rfl (by decide) (by rw [← he]; exact ⟨_, rfl, f1.trans (FLm.ct G1), fun q => absurd q hf, fun _ => ⟨by rw [h26k]; exact hkk, h27k kk, _, rfl⟩⟩)
          by_cases hm : most ≤ g1.length
          · have hkk : (2 : Int) = pLf (tkV (tk f n 0)) lv most i1 g1 := by rw [pLf, if_pos (Or.inr hm)]
            have hb2 : (ctW f n i1 2 G1).1 145 26 ≠ 0 := by rw [h26k]; decide
            have hR2 : R32 ((ctW f n i1 2 G1).1 145 26) := by rw [h26k]; unfold R32; decide
            refine V_ex sX12_readLeaves_4 (by simp only [Option.toList, List.cons_append, List.nil_append, exN, ex1, gI, gL, gR, pI, pL, pR, lget, lset1, lset2, kl, b2I, b2L, nob, ob32, ob64, xGet, xPut, xLen, xLd, xLdR, xSt, obA, true_and, and_true, and_self, eq_self, Nat.reduceEqDiff, Nat.zero_ne_one, reduceIte, Nat.reduceLeDiff, and_false, false_and, show skd 11 26 = 0 from rfl, show LF.1 145 = some (.inl 11) from rfl, upd2_eq, Int.reduceToNat, Int.toNat_natCast]; rfl) (by first | exact trivial | exact Or.inr rfl | exact Or.inl rfl | (simp only [ob, obA, R32, R64] at *; omega) | (simp only [ob, obA, R32, R64] at *; and_intros <;> omega)) ?_
            refine V_ifne dX12_readLeaves_8 (tgt := 122) (by decide) (by rw [h26]; unfold R32; decide) (fun q8 => ?_) (fun q8 => ?_)
            · exact absurd h26 q8
            · refine V_ex sX12_readLeaves_11 (by simp only [Option.toList, List.cons_append, List.nil_append, exN, ex1, gI, gL, gR, pI, pL, pR, lget, lset1, lset2, kl, b2I, b2L, nob, ob32, ob64, xGet, xPut, xLen, xLd, xLdR, xSt, obA, true_and, and_true, and_self, eq_self, Nat.reduceEqDiff, Nat.zero_ne_one, reduceIte, Nat.reduceLeDiff, and_false, false_and, show skd 11 21 = 0 from rfl, show LF.1 145 = some (.inl 11) from rfl, upd2_eq, Int.reduceToNat, Int.toNat_natCast]; rfl) (by first | exact trivial | exact Or.inr rfl | exact Or.inl rfl | (simp only [ob, obA, R32, R64] at *; omega) | (simp only [ob, obA, R32, R64] at *; and_intros <;> omega)) ?_
              refine V_icmpne dX12_readLeaves_16 (tgt := 122) (by decide) (by rw [h21b]; unfold R32; decide) (fun q16 => ?_) (fun q16 => ?_)
              · exact absurd h21b q16
              · refine V_ex sX12_readLeaves_19 (by rfl) (by first | exact trivial | exact Or.inr rfl | exact Or.inl rfl | (simp only [ob, obA, R32, R64] at *; omega) | (simp only [ob, obA, R32, R64] at *; and_intros <;> omega)) ?_
                refine V_icmpne dX12_readLeaves_23 (tgt := 31) (by decide) (by simp only [R32, R64] at *; omega) (fun q23 => ?_) (fun q23 => ?_)
                · omega
                · refine V_ex sX12_readLeaves_26 (by rfl) (by first | exact trivial | exact Or.inr rfl | exact Or.inl rfl | (simp only [ob, obA, R32, R64] at *; omega) | (simp only [ob, obA, R32, R64] at *; and_intros <;> omega)) ?_
                  refine V_callV (M := MX12_readLeaves) (N := MX12_cant) dX12_readLeaves_28 lRX12_245 kX12_cant rfl (rfl) rfl (c_iCant (d := 0) hκ hI1) rfl rfl (Nat.le_of_ble_eq_true rfl) (fit_rm (by omega)) (⟨Nat.le_of_ble_eq_true rfl, Nat.le_of_ble_eq_true rfl⟩) (fun v Ω' hp => ?_) (fun _ _ h => h.elim)
                  obtain ⟨rfl, rfl⟩ := hp
                  refine V_ex sX12_readLeaves_31 (by rfl) (by first | exact trivial | exact Or.inr rfl | exact Or.inl rfl | (simp only [ob, obA, R32, R64] at *; omega) | (simp only [ob, obA, R32, R64] at *; and_intros <;> omega)) ?_
                  refine V_callV (M := MX12_readLeaves) (N := MX12_numberNow) dX12_readLeaves_36 lRX12_252 kX12_numberNow rfl (rfl) rfl (c_mNumNow0 (d := 0) hκ hb2 hR2) rfl rfl (Nat.le_of_ble_eq_true rfl) (fit_rm (by omega)) (⟨Nat.le_of_ble_eq_true rfl, Nat.le_of_ble_eq_true rfl⟩) (fun v Ω' hp => ?_) (fun _ _ h => h.elim)
                  obtain ⟨rfl, rfl⟩ := hp
                  refine V_ex sX12_readLeaves_39 (by simp only [Option.toList, List.cons_append, List.nil_append, exN, ex1, gI, gL, gR, pI, pL, pR, lget, lset1, lset2, kl, b2I, b2L, nob, ob32, ob64, xGet, xPut, xLen, xLd, xLdR, xSt, obA, true_and, and_true, and_self, eq_self, Nat.reduceEqDiff, Nat.zero_ne_one, reduceIte, Nat.reduceLeDiff, and_false, false_and, show skd 11 26 = 0 from rfl, show LF.1 145 = some (.inl 11) from rfl, upd2_eq, Int.reduceToNat, Int.toNat_natCast]; rfl) (by first | exact trivial | exact Or.inr rfl | exact Or.inl rfl | (simp only [ob, obA, R32, R64] at *; omega) | (simp only [ob, obA, R32, R64] at *; and_intros <;> omega)) ?_
                  refine V_ifne dX12_readLeaves_45 (tgt := 70) (by decide) (by exact hR2) (fun q45 => ?_) (fun q45 => ?_)
                  · refine V_ex sX12_readLeaves_70 (by simp only [Option.toList, List.cons_append, List.nil_append, exN, ex1, gI, gL, gR, pI, pL, pR, lget, lset1, lset2, kl, b2I, b2L, nob, ob32, ob64, xGet, xPut, xLen, xLd, xLdR, xSt, obA, true_and, and_true, and_self, eq_self, Nat.reduceEqDiff, Nat.zero_ne_one, reduceIte, Nat.reduceLeDiff, and_false, false_and, show skd 11 26 = 0 from rfl, show LF.1 145 = some (.inl 11) from rfl, upd2_eq, Int.reduceToNat, Int.toNat_natCast]; rfl) (by first | exact trivial | exact Or.inr rfl | exact Or.inl rfl | (simp only [ob, obA, R32, R64] at *; omega) | (simp only [ob, obA, R32, R64] at *; and_intros <;> omega)) ?_
                    refine V_ifne dX12_readLeaves_74 (tgt := 94) (by decide) (by exact hR2) (fun q74 => ?_) (fun q74 => ?_)
                    · exact stop 2 _ hkk (by decide) (by decide)
                    · exact absurd q74 hb2
                  · exact absurd q45 hb2
          · by_cases h9 : 9999 < tkV (tk f n 0) i1
            · have hkk : (2 : Int) = pLf (tkV (tk f n 0)) lv most i1 g1 := by rw [pLf, if_pos (Or.inl h9)]
              have hb2 : (ctW f n i1 2 G1).1 145 26 ≠ 0 := by rw [h26k]; decide
              have hR2 : R32 ((ctW f n i1 2 G1).1 145 26) := by rw [h26k]; unfold R32; decide
              have hx : pNum (tkW (tk f n 0)) (tkV (tk f n 0)) 0 9999 i1 = 2 := by rw [pNum, if_neg (by omega), if_pos (by omega)]
              have hN := c_iNumNow hκ (d := 1) (lo := 0) (hh := 9999) hI1 (by omega) (by omega) (by omega)
              rw [hx, if_neg (by decide), if_neg (by decide)] at hN
              refine V_ex sX12_readLeaves_4 (by simp only [Option.toList, List.cons_append, List.nil_append, exN, ex1, gI, gL, gR, pI, pL, pR, lget, lset1, lset2, kl, b2I, b2L, nob, ob32, ob64, xGet, xPut, xLen, xLd, xLdR, xSt, obA, true_and, and_true, and_self, eq_self, Nat.reduceEqDiff, Nat.zero_ne_one, reduceIte, Nat.reduceLeDiff, and_false, false_and, show skd 11 26 = 0 from rfl, show LF.1 145 = some (.inl 11) from rfl, upd2_eq, Int.reduceToNat, Int.toNat_natCast]; rfl) (by first | exact trivial | exact Or.inr rfl | exact Or.inl rfl | (simp only [ob, obA, R32, R64] at *; omega) | (simp only [ob, obA, R32, R64] at *; and_intros <;> omega)) ?_
              refine V_ifne dX12_readLeaves_8 (tgt := 122) (by decide) (by rw [h26]; unfold R32; decide) (fun q8 => ?_) (fun q8 => ?_)
              · exact absurd h26 q8
              · refine V_ex sX12_readLeaves_11 (by simp only [Option.toList, List.cons_append, List.nil_append, exN, ex1, gI, gL, gR, pI, pL, pR, lget, lset1, lset2, kl, b2I, b2L, nob, ob32, ob64, xGet, xPut, xLen, xLd, xLdR, xSt, obA, true_and, and_true, and_self, eq_self, Nat.reduceEqDiff, Nat.zero_ne_one, reduceIte, Nat.reduceLeDiff, and_false, false_and, show skd 11 21 = 0 from rfl, show LF.1 145 = some (.inl 11) from rfl, upd2_eq, Int.reduceToNat, Int.toNat_natCast]; rfl) (by first | exact trivial | exact Or.inr rfl | exact Or.inl rfl | (simp only [ob, obA, R32, R64] at *; omega) | (simp only [ob, obA, R32, R64] at *; and_intros <;> omega)) ?_
                refine V_icmpne dX12_readLeaves_16 (tgt := 122) (by decide) (by rw [h21b]; unfold R32; decide) (fun q16 => ?_) (fun q16 => ?_)
                · exact absurd h21b q16
                · refine V_ex sX12_readLeaves_19 (by rfl) (by first | exact trivial | exact Or.inr rfl | exact Or.inl rfl | (simp only [ob, obA, R32, R64] at *; omega) | (simp only [ob, obA, R32, R64] at *; and_intros <;> omega)) ?_
                  refine V_icmpne dX12_readLeaves_23 (tgt := 31) (by decide) (by simp only [R32, R64] at *; omega) (fun q23 => ?_) (fun q23 => ?_)
                  · refine V_ex sX12_readLeaves_31 (by rfl) (by first | exact trivial | exact Or.inr rfl | exact Or.inl rfl | (simp only [ob, obA, R32, R64] at *; omega) | (simp only [ob, obA, R32, R64] at *; and_intros <;> omega)) ?_
                    refine V_callV (M := MX12_readLeaves) (N := MX12_numberNow) dX12_readLeaves_36 lRX12_252 kX12_numberNow rfl (rfl) rfl (hN) rfl rfl (Nat.le_of_ble_eq_true rfl) (fit_rm (by omega)) (⟨Nat.le_of_ble_eq_true rfl, Nat.le_of_ble_eq_true rfl⟩) (fun v Ω' hp => ?_) (fun _ _ h => h.elim)
                    obtain ⟨rfl, rfl⟩ := hp
                    refine V_ex sX12_readLeaves_39 (by simp only [Option.toList, List.cons_append, List.nil_append, exN, ex1, gI, gL, gR, pI, pL, pR, lget, lset1, lset2, kl, b2I, b2L, nob, ob32, ob64, xGet, xPut, xLen, xLd, xLdR, xSt, obA, true_and, and_true, and_self, eq_self, Nat.reduceEqDiff, Nat.zero_ne_one, reduceIte, Nat.reduceLeDiff, and_false, false_and, show skd 11 26 = 0 from rfl, show LF.1 145 = some (.inl 11) from rfl, upd2_eq, Int.reduceToNat, Int.toNat_natCast]; rfl) (by first | exact trivial | exact Or.inr rfl | exact Or.inl rfl | (simp only [ob, obA, R32, R64] at *; omega) | (simp only [ob, obA, R32, R64] at *; and_intros <;> omega)) ?_
                    refine V_ifne dX12_readLeaves_45 (tgt := 70) (by decide) (by exact hR2) (fun q45 => ?_) (fun q45 => ?_)
                    · refine V_ex sX12_readLeaves_70 (by simp only [Option.toList, List.cons_append, List.nil_append, exN, ex1, gI, gL, gR, pI, pL, pR, lget, lset1, lset2, kl, b2I, b2L, nob, ob32, ob64, xGet, xPut, xLen, xLd, xLdR, xSt, obA, true_and, and_true, and_self, eq_self, Nat.reduceEqDiff, Nat.zero_ne_one, reduceIte, Nat.reduceLeDiff, and_false, false_and, show skd 11 26 = 0 from rfl, show LF.1 145 = some (.inl 11) from rfl, upd2_eq, Int.reduceToNat, Int.toNat_natCast]; rfl) (by first | exact trivial | exact Or.inr rfl | exact Or.inl rfl | (simp only [ob, obA, R32, R64] at *; omega) | (simp only [ob, obA, R32, R64] at *; and_intros <;> omega)) ?_
                      refine V_ifne dX12_readLeaves_74 (tgt := 94) (by decide) (by exact hR2) (fun q74 => ?_) (fun q74 => ?_)
                      · exact stop 2 _ hkk (by decide) (by decide)
                      · exact absurd q74 hb2
                    · exact absurd q45 hb2
                  · omega
            · have hx : pNum (tkW (tk f n 0)) (tkV (tk f n 0)) 0 9999 i1 = 0 := by rw [pNum, if_neg (by omega), if_neg (by omega)]
              have hN := c_iNumNow hκ (d := 1) (lo := 0) (hh := 9999) hI1 (by omega) (by omega) (by omega)
              rw [if_pos hx, if_pos hx] at hN
              have hA := c_mAmong (κ := κ) hκ (d := 0) (v := tkV (tk f n 0) i1) (G := G1) ha (fr := fr) (m := g1.length) (by omega) (by omega) (by unfold R32; omega) (fun j hj => by rw [hg1 j hj]; exact hgR1 _ (List.getElem_mem hj))
              rw [amg_list hg1] at hA
              have e2 : (6 + (bk : Int)).toNat = 6 + bk := by omega
              by_cases hl : lv ≤ tkV (tk f n 0) i1
              · have hkk : (3 : Int) = pLf (tkV (tk f n 0)) lv most i1 g1 := by rw [pLf, if_neg (by omega), if_pos hl]
                refine V_ex sX12_readLeaves_4 (by simp only [Option.toList, List.cons_append, List.nil_append, exN, ex1, gI, gL, gR, pI, pL, pR, lget, lset1, lset2, kl, b2I, b2L, nob, ob32, ob64, xGet, xPut, xLen, xLd, xLdR, xSt, obA, true_and, and_true, and_self, eq_self, Nat.reduceEqDiff, Nat.zero_ne_one, reduceIte, Nat.reduceLeDiff, and_false, false_and, show skd 11 26 = 0 from rfl, show LF.1 145 = some (.inl 11) from rfl, upd2_eq, Int.reduceToNat, Int.toNat_natCast]; rfl) (by first | exact trivial | exact Or.inr rfl | exact Or.inl rfl | (simp only [ob, obA, R32, R64] at *; omega) | (simp only [ob, obA, R32, R64] at *; and_intros <;> omega)) ?_
                refine V_ifne dX12_readLeaves_8 (tgt := 122) (by decide) (by rw [h26]; unfold R32; decide) (fun q8 => ?_) (fun q8 => ?_)
                · exact absurd h26 q8
                · refine V_ex sX12_readLeaves_11 (by simp only [Option.toList, List.cons_append, List.nil_append, exN, ex1, gI, gL, gR, pI, pL, pR, lget, lset1, lset2, kl, b2I, b2L, nob, ob32, ob64, xGet, xPut, xLen, xLd, xLdR, xSt, obA, true_and, and_true, and_self, eq_self, Nat.reduceEqDiff, Nat.zero_ne_one, reduceIte, Nat.reduceLeDiff, and_false, false_and, show skd 11 21 = 0 from rfl, show LF.1 145 = some (.inl 11) from rfl, upd2_eq, Int.reduceToNat, Int.toNat_natCast]; rfl) (by first | exact trivial | exact Or.inr rfl | exact Or.inl rfl | (simp only [ob, obA, R32, R64] at *; omega) | (simp only [ob, obA, R32, R64] at *; and_intros <;> omega)) ?_
                  refine V_icmpne dX12_readLeaves_16 (tgt := 122) (by decide) (by rw [h21b]; unfold R32; decide) (fun q16 => ?_) (fun q16 => ?_)
                  · exact absurd h21b q16
                  · refine V_ex sX12_readLeaves_19 (by rfl) (by first | exact trivial | exact Or.inr rfl | exact Or.inl rfl | (simp only [ob, obA, R32, R64] at *; omega) | (simp only [ob, obA, R32, R64] at *; and_intros <;> omega)) ?_
                    refine V_icmpne dX12_readLeaves_23 (tgt := 31) (by decide) (by simp only [R32, R64] at *; omega) (fun q23 => ?_) (fun q23 => ?_)
                    · refine V_ex sX12_readLeaves_31 (by rfl) (by first | exact trivial | exact Or.inr rfl | exact Or.inl rfl | (simp only [ob, obA, R32, R64] at *; omega) | (simp only [ob, obA, R32, R64] at *; and_intros <;> omega)) ?_
                      refine V_callV (M := MX12_readLeaves) (N := MX12_numberNow) dX12_readLeaves_36 lRX12_252 kX12_numberNow rfl (rfl) rfl (hN) rfl rfl (Nat.le_of_ble_eq_true rfl) (fit_rm (by omega)) (⟨Nat.le_of_ble_eq_true rfl, Nat.le_of_ble_eq_true rfl⟩) (fun v Ω' hp => ?_) (fun _ _ h => h.elim)
                      obtain ⟨rfl, rfl⟩ := hp
                      refine V_ex sX12_readLeaves_39 (by simp only [Option.toList, List.cons_append, List.nil_append, exN, ex1, gI, gL, gR, pI, pL, pR, lget, lset1, lset2, kl, b2I, b2L, nob, ob32, ob64, xGet, xPut, xLen, xLd, xLdR, xSt, obA, true_and, and_true, and_self, eq_self, Nat.reduceEqDiff, Nat.zero_ne_one, reduceIte, Nat.reduceLeDiff, and_false, false_and, show skd 11 26 = 0 from rfl, show LF.1 145 = some (.inl 11) from rfl, upd2_eq, Int.reduceToNat, Int.toNat_natCast]; rfl) (by first | exact trivial | exact Or.inr rfl | exact Or.inl rfl | (simp only [ob, obA, R32, R64] at *; omega) | (simp only [ob, obA, R32, R64] at *; and_intros <;> omega)) ?_
                      refine V_ifne dX12_readLeaves_45 (tgt := 70) (by decide) (by rw [h26]; unfold R32; decide) (fun q45 => ?_) (fun q45 => ?_)
                      · exact absurd h26 q45
                      · refine V_ex sX12_readLeaves_48 (by simp only [Option.toList, List.cons_append, List.nil_append, exN, ex1, gI, gL, gR, pI, pL, pR, lget, lset1, lset2, kl, b2I, b2L, nob, ob32, ob64, xGet, xPut, xLen, xLd, xLdR, xSt, obA, true_and, and_true, and_self, eq_self, Nat.reduceEqDiff, Nat.zero_ne_one, reduceIte, Nat.reduceLeDiff, and_false, false_and, show skd 11 6 = 2 from rfl, show LF.1 145 = some (.inl 11) from rfl, show LF.2 145 6 = some 151 from rfl, show LF.1 151 = some (.inr (0, 12)) from rfl, e2, hlv1, upd2_eq, Int.reduceToNat, Int.toNat_natCast]; rfl) (by first | exact trivial | exact Or.inr rfl | exact Or.inl rfl | (simp only [ob, obA, R32, R64] at *; omega) | (simp only [ob, obA, R32, R64] at *; and_intros <;> omega)) ?_
                        refine V_icmplt dX12_readLeaves_59 (tgt := 70) (by decide) (by simp only [R32, R64] at *; omega) (fun q59 => ?_) (fun q59 => ?_)
                        · omega
                        · refine V_ex sX12_readLeaves_62 (by rfl) (by first | exact trivial | exact Or.inr rfl | exact Or.inl rfl | (simp only [ob, obA, R32, R64] at *; omega) | (simp only [ob, obA, R32, R64] at *; and_intros <;> omega)) ?_
                          refine V_callV (M := MX12_readLeaves) (N := MX12_cant) dX12_readLeaves_64 lRX12_245 kX12_cant rfl (rfl) rfl (c_iCant (d := 0) hκ hI1) rfl rfl (Nat.le_of_ble_eq_true rfl) (fit_rm (by omega)) (⟨Nat.le_of_ble_eq_true rfl, Nat.le_of_ble_eq_true rfl⟩) (fun v Ω' hp => ?_) (fun _ _ h => h.elim)
                          obtain ⟨rfl, rfl⟩ := hp
                          refine V_goto dX12_readLeaves_67 (tgt := 94) (by decide) ?_
                          exact stop 3 _ hkk (by decide) (by decide)
                    · omega
              · have hin : tkV (tk f n 0) i1 ∈ g1 := by
                  rcases Classical.em (tkV (tk f n 0) i1 ∈ g1) with q | q
                  · exact q
                  · exact absurd (by rw [pLf, if_neg (by omega), if_neg hl, if_neg q]) hf
                have hkk : (4 : Int) = pLf (tkV (tk f n 0)) lv most i1 g1 := by rw [pLf, if_neg (by omega), if_neg hl, if_pos hin]
                rw [decide_eq_true hin] at hA
                refine V_ex sX12_readLeaves_4 (by simp only [Option.toList, List.cons_append, List.nil_append, exN, ex1, gI, gL, gR, pI, pL, pR, lget, lset1, lset2, kl, b2I, b2L, nob, ob32, ob64, xGet, xPut, xLen, xLd, xLdR, xSt, obA, true_and, and_true, and_self, eq_self, Nat.reduceEqDiff, Nat.zero_ne_one, reduceIte, Nat.reduceLeDiff, and_false, false_and, show skd 11 26 = 0 from rfl, show LF.1 145 = some (.inl 11) from rfl, upd2_eq, Int.reduceToNat, Int.toNat_natCast]; rfl) (by first | exact trivial | exact Or.inr rfl | exact Or.inl rfl | (simp only [ob, obA, R32, R64] at *; omega) | (simp only [ob, obA, R32, R64] at *; and_intros <;> omega)) ?_
                refine V_ifne dX12_readLeaves_8 (tgt := 122) (by decide) (by rw [h26]; unfold R32; decide) (fun q8 => ?_) (fun q8 => ?_)
                · exact absurd h26 q8
                · refine V_ex sX12_readLeaves_11 (by simp only [Option.toList, List.cons_append, List.nil_append, exN, ex1, gI, gL, gR, pI, pL, pR, lget, lset1, lset2, kl, b2I, b2L, nob, ob32, ob64, xGet, xPut, xLen, xLd, xLdR, xSt, obA, true_and, and_true, and_self, eq_self, Nat.reduceEqDiff, Nat.zero_ne_one, reduceIte, Nat.reduceLeDiff, and_false, false_and, show skd 11 21 = 0 from rfl, show LF.1 145 = some (.inl 11) from rfl, upd2_eq, Int.reduceToNat, Int.toNat_natCast]; rfl) (by first | exact trivial | exact Or.inr rfl | exact Or.inl rfl | (simp only [ob, obA, R32, R64] at *; omega) | (simp only [ob, obA, R32, R64] at *; and_intros <;> omega)) ?_
                  refine V_icmpne dX12_readLeaves_16 (tgt := 122) (by decide) (by rw [h21b]; unfold R32; decide) (fun q16 => ?_) (fun q16 => ?_)
                  · exact absurd h21b q16
                  · refine V_ex sX12_readLeaves_19 (by rfl) (by first | exact trivial | exact Or.inr rfl | exact Or.inl rfl | (simp only [ob, obA, R32, R64] at *; omega) | (simp only [ob, obA, R32, R64] at *; and_intros <;> omega)) ?_
                    refine V_icmpne dX12_readLeaves_23 (tgt := 31) (by decide) (by simp only [R32, R64] at *; omega) (fun q23 => ?_) (fun q23 => ?_)
                    · refine V_ex sX12_readLeaves_31 (by rfl) (by first | exact trivial | exact Or.inr rfl | exact Or.inl rfl | (simp only [ob, obA, R32, R64] at *; omega) | (simp only [ob, obA, R32, R64] at *; and_intros <;> omega)) ?_
                      refine V_callV (M := MX12_readLeaves) (N := MX12_numberNow) dX12_readLeaves_36 lRX12_252 kX12_numberNow rfl (rfl) rfl (hN) rfl rfl (Nat.le_of_ble_eq_true rfl) (fit_rm (by omega)) (⟨Nat.le_of_ble_eq_true rfl, Nat.le_of_ble_eq_true rfl⟩) (fun v Ω' hp => ?_) (fun _ _ h => h.elim)
                      obtain ⟨rfl, rfl⟩ := hp
                      refine V_ex sX12_readLeaves_39 (by simp only [Option.toList, List.cons_append, List.nil_append, exN, ex1, gI, gL, gR, pI, pL, pR, lget, lset1, lset2, kl, b2I, b2L, nob, ob32, ob64, xGet, xPut, xLen, xLd, xLdR, xSt, obA, true_and, and_true, and_self, eq_self, Nat.reduceEqDiff, Nat.zero_ne_one, reduceIte, Nat.reduceLeDiff, and_false, false_and, show skd 11 26 = 0 from rfl, show LF.1 145 = some (.inl 11) from rfl, upd2_eq, Int.reduceToNat, Int.toNat_natCast]; rfl) (by first | exact trivial | exact Or.inr rfl | exact Or.inl rfl | (simp only [ob, obA, R32, R64] at *; omega) | (simp only [ob, obA, R32, R64] at *; and_intros <;> omega)) ?_
                      refine V_ifne dX12_readLeaves_45 (tgt := 70) (by decide) (by rw [h26]; unfold R32; decide) (fun q45 => ?_) (fun q45 => ?_)
                      · exact absurd h26 q45
                      · refine V_ex sX12_readLeaves_48 (by simp only [Option.toList, List.cons_append, List.nil_append, exN, ex1, gI, gL, gR, pI, pL, pR, lget, lset1, lset2, kl, b2I, b2L, nob, ob32, ob64, xGet, xPut, xLen, xLd, xLdR, xSt, obA, true_and, and_true, and_self, eq_self, Nat.reduceEqDiff, Nat.zero_ne_one, reduceIte, Nat.reduceLeDiff, and_false, false_and, show skd 11 6 = 2 from rfl, show LF.1 145 = some (.inl 11) from rfl, show LF.2 145 6 = some 151 from rfl, show LF.1 151 = some (.inr (0, 12)) from rfl, e2, hlv1, upd2_eq, Int.reduceToNat, Int.toNat_natCast]; rfl) (by first | exact trivial | exact Or.inr rfl | exact Or.inl rfl | (simp only [ob, obA, R32, R64] at *; omega) | (simp only [ob, obA, R32, R64] at *; and_intros <;> omega)) ?_
                        refine V_icmplt dX12_readLeaves_59 (tgt := 70) (by decide) (by simp only [R32, R64] at *; omega) (fun q59 => ?_) (fun q59 => ?_)
                        · refine V_ex sX12_readLeaves_70 (by simp only [Option.toList, List.cons_append, List.nil_append, exN, ex1, gI, gL, gR, pI, pL, pR, lget, lset1, lset2, kl, b2I, b2L, nob, ob32, ob64, xGet, xPut, xLen, xLd, xLdR, xSt, obA, true_and, and_true, and_self, eq_self, Nat.reduceEqDiff, Nat.zero_ne_one, reduceIte, Nat.reduceLeDiff, and_false, false_and, show skd 11 26 = 0 from rfl, show LF.1 145 = some (.inl 11) from rfl, upd2_eq, Int.reduceToNat, Int.toNat_natCast]; rfl) (by first | exact trivial | exact Or.inr rfl | exact Or.inl rfl | (simp only [ob, obA, R32, R64] at *; omega) | (simp only [ob, obA, R32, R64] at *; and_intros <;> omega)) ?_
                          refine V_ifne dX12_readLeaves_74 (tgt := 94) (by decide) (by rw [h26]; unfold R32; decide) (fun q74 => ?_) (fun q74 => ?_)
                          · exact absurd h26 q74
                          · refine V_ex sX12_readLeaves_77 (by rfl) (by first | exact trivial | exact Or.inr rfl | exact Or.inl rfl | (simp only [ob, obA, R32, R64] at *; omega) | (simp only [ob, obA, R32, R64] at *; and_intros <;> omega)) ?_
                            refine V_callS (M := MX12_readLeaves) (N := MX12_isAmong) dX12_readLeaves_83 lRX12_295 kX12_isAmong rfl (hA) rfl rfl (Nat.le_of_ble_eq_true rfl) (fit_rm (by omega)) (⟨Nat.le_of_ble_eq_true rfl, Nat.le_of_ble_eq_true rfl⟩) (fun v Ω' hp => ?_) (fun _ _ h => h.elim)
                            obtain ⟨rfl, rfl⟩ := hp
                            refine V_ifeqB dX12_readLeaves_86 (tgt := 94) (by decide) (fun q86 => ?_) (fun q86 => ?_)
                            · exact absurd q86 (by decide)
                            · refine V_ex sX12_readLeaves_89 (by rfl) (by first | exact trivial | exact Or.inr rfl | exact Or.inl rfl | (simp only [ob, obA, R32, R64] at *; omega) | (simp only [ob, obA, R32, R64] at *; and_intros <;> omega)) ?_
                              refine V_callV (M := MX12_readLeaves) (N := MX12_cant) dX12_readLeaves_91 lRX12_245 kX12_cant rfl (rfl) rfl (c_iCant (d := 0) hκ hI1) rfl rfl (Nat.le_of_ble_eq_true rfl) (fit_rm (by omega)) (⟨Nat.le_of_ble_eq_true rfl, Nat.le_of_ble_eq_true rfl⟩) (fun v Ω' hp => ?_) (fun _ _ h => h.elim)
                              obtain ⟨rfl, rfl⟩ := hp
                              exact stop 4 _ hkk (by decide) (by decide)
                        · omega
                    · omega
      · have he' : pLvs (tkW (tk f n 0)) (tkV (tk f n 0)) lv most (k + 1) i1 g1 = (i1, 0, g1) := by rw [pLvs, if_neg hw]
        rw [he'] at he
        refine V_ex sX12_readLeaves_4 (by simp only [Option.toList, List.cons_append, List.nil_append, exN, ex1, gI, gL, gR, pI, pL, pR, lget, lset1, lset2, kl, b2I, b2L, nob, ob32, ob64, xGet, xPut, xLen, xLd, xLdR, xSt, obA, true_and, and_true, and_self, eq_self, Nat.reduceEqDiff, Nat.zero_ne_one, reduceIte, Nat.reduceLeDiff, and_false, false_and, show skd 11 26 = 0 from rfl, show LF.1 145 = some (.inl 11) from rfl, upd2_eq, Int.reduceToNat, Int.toNat_natCast]; rfl) (by first | exact trivial | exact Or.inr rfl | exact Or.inl rfl | (simp only [ob, obA, R32, R64] at *; omega) | (simp only [ob, obA, R32, R64] at *; and_intros <;> omega)) ?_
        refine V_ifne dX12_readLeaves_8 (tgt := 122) (by decide) (by rw [h26]; unfold R32; decide) (fun q8 => ?_) (fun q8 => ?_)
        · exact absurd h26 q8
        · refine V_ex sX12_readLeaves_11 (by simp only [Option.toList, List.cons_append, List.nil_append, exN, ex1, gI, gL, gR, pI, pL, pR, lget, lset1, lset2, kl, b2I, b2L, nob, ob32, ob64, xGet, xPut, xLen, xLd, xLdR, xSt, obA, true_and, and_true, and_self, eq_self, Nat.reduceEqDiff, Nat.zero_ne_one, reduceIte, Nat.reduceLeDiff, and_false, false_and, show skd 11 21 = 0 from rfl, show LF.1 145 = some (.inl 11) from rfl, upd2_eq, Int.reduceToNat, Int.toNat_natCast]; rfl) (by first | exact trivial | exact Or.inr rfl | exact Or.inl rfl | (simp only [ob, obA, R32, R64] at *; omega) | (simp only [ob, obA, R32, R64] at *; and_intros <;> omega)) ?_
          refine V_icmpne dX12_readLeaves_16 (tgt := 122) (by decide) (by rw [h21]; unfold R32; omega) (fun q16 => ?_) (fun q16 => ?_)
          · refine V_ex sX12_readLeaves_122 (by rfl) (by first | exact trivial | exact Or.inr rfl | exact Or.inl rfl | (simp only [ob, obA, R32, R64] at *; omega) | (simp only [ob, obA, R32, R64] at *; and_intros <;> omega)) ?_
            refine V_iret dX12_readLeaves_124 rfl (by decide) (by rw [← he]; exact ⟨G1, rfl, f1, fun _ => ⟨hI1, rfl, hg1⟩, fun q => absurd rfl q⟩)
          · rw [h21, kd_2] at q16; exact absurd q16 hw
  refine V_ex sX12_readLeaves_0 (by rfl) (by first | exact trivial | exact Or.inr rfl | exact Or.inl rfl | (simp only [ob, obA, R32, R64] at *; omega) | (simp only [ob, obA, R32, R64] at *; and_intros <;> omega)) ?_
  exact L K i g G _ (FLm.refl _ _ _ _) h hg hgm hgR hK rfl
