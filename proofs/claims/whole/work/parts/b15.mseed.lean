/-! THE MODEL: seed -/
theorem skV_s (v : Int) : iAnd (iShr v 16) 32767 = skV v := by
  have : iShr v 16 = iShr (w32 v) 16 := by unfold iShr; rw [w32_of]
  rw [this, iShr_k (w32_R v) 16 16 (by decide), iAnd_32767]; rfl
set_option maxRecDepth 100000 in
set_option maxHeartbeats 4000000 in
theorem c_mxSeed {κ : Kx} (hκ : KOK κ) {d : Nat} {K i v k : Int} {A : Ab} {G : Wd} (hC : RM G A) (hI : Inv K A) (hi : R32 i) (hk : R32 k) (hd : 20 ≤ d) : Ct κ MX12_seed d 0 0 [VR 145, VI i, VI v, VI k] (Wm G) (mdP G (seedP A i v k).2.2 (some (VI (seedP A i v k).2.1)) (seedP A i v k).1) noX := by
  refine Ct_of hκ kX12_seed.1 rfl (Nat.le_of_ble_eq_true rfl) (ls := [some (VR 145), some (VI i), some (VI v), some (VI k), none, none, none, none]) rfl (fun μ => ?_)
  have hC1 := RM_0 hC 0
  have hk64 := r32_64 hk
  by_cases hin : inB A.1 i
  · obtain ⟨j, hj⟩ : ∃ j : Nat, i = (j : Int) := ⟨i.toNat, by have := hin.1; omega⟩
    subst hj
    have hj : j < A.1.1.length := by have := hin.2; omega
    obtain ⟨m1, m2, m3, m4, m5, m6⟩ := mS0_b hC.1 hj
    obtain ⟨g1, g2, g3, g4, g5⟩ := gone_ok hI.1 hj
    have hj6 : j < 6 := by have := hI.1.1; omega
    by_cases hk2 : 0 ≤ k ∧ k ≤ 60
    · have er : (60 < ((bkJ A.1 j).2.2.2.2.2.length : Nat) + k ∨ (bkJ A.1 j).2.2.1 - ((bkJ A.1 j).2.2.2.2.2.length : Nat) < k) → seedP A (j : Nat) v k = (0, -1, refA A 1) := fun h => by unfold seedP; rw [if_neg (fun q => q hin), if_neg (fun q => q hk2)]; exact if_pos h
      have ey : ¬ (60 < ((bkJ A.1 j).2.2.2.2.2.length : Nat) + k ∨ (bkJ A.1 j).2.2.1 - ((bkJ A.1 j).2.2.2.2.2.length : Nat) < k) → seedP A (j : Nat) v k = (0, (((bkJ A.1 j).2.2.2.2.2.length + k.toNat : Nat) : Int), seedL j k.toNat v A) := fun h => by unfold seedP; rw [if_neg (fun q => q hin), if_neg (fun q => q hk2)]; exact if_neg h
      have L : ¬ (60 < ((bkJ A.1 j).2.2.2.2.2.length : Nat) + k ∨ (bkJ A.1 j).2.2.1 - ((bkJ A.1 j).2.2.2.2.2.length : Nat) < k) → ∀ (r : Nat) (ii v1 : Int) (A1 : Ab) (G1 : Wd) (x y : Option Vl), ii + r = k → 0 ≤ ii → RM G1 A1 → Inv K A1 → FrM G G1 → G1.1 145 2 = 0 → A1.1.1.length = A.1.1.length → (bkJ A1.1 j).2.2.1 = (bkJ A.1 j).2.2.1 → (bkJ A1.1 j).2.2.2.2.2.length + r = (bkJ A.1 j).2.2.2.2.2.length + k.toNat → seedL j r v1 A1 = seedL j k.toNat v A → V κ MX12_seed (rmD d 0 0) (mdP G (seedP A (j : Nat) v k).2.2 (some (VI (seedP A (j : Nat) v k).2.1)) (seedP A (j : Nat) v k).1) noX 0 0 μ 0 0 (Wm (G1)) 79 [some (VR 145), some (VI (j : Nat)), some (VI v), some (VI k), some (VI v1), some (VI ii), x, y] [] := by
        intro hy r
        induction r with
        | zero =>
          intro ii v1 A1 G1 x y hir hi0 hR1 hI1 fr c0 hl1 hlv1 hg1 he
          have hj1 : j < A1.1.1.length := by omega
          have m51 := (mS0_b hR1.1 hj1).2.2.2.2.1
          rw [seedL] at he
          have eg : ((bkJ A1.1 j).2.2.2.2.2.length : Int) = (((bkJ A.1 j).2.2.2.2.2.length + k.toNat : Nat) : Int) := by omega
          refine V_ex sX12_seed_79 (by rfl) (by first | exact trivial | exact Or.inr rfl | exact Or.inl rfl | (simp only [ob, obA, R32, R64] at *; omega) | (simp only [ob, obA, R32, R64] at *; and_intros <;> omega) | (simp [ob, obA])) ?_
          refine V_icmpge dX12_seed_82 (tgt := 180) (by decide) (by simp only [R32, R64] at *; omega) (fun q82 => ?_) (fun q82 => ?_)
          · refine V_ex sX12_seed_180 (by simp only [Option.toList, List.cons_append, List.nil_append, exN, ex1, gI, gL, gR, pI, pL, pR, lget, lset1, lset2, kl, b2I, b2L, nob, ob32, ob64, xGet, xPut, xLen, xLd, xLdR, xSt, obA, true_and, and_true, and_self, eq_self, Nat.reduceEqDiff, Nat.zero_ne_one, reduceIte, Nat.reduceLeDiff, and_false, false_and, show skd 11 7 = 2 from rfl, show LF.1 145 = some (.inl 11) from rfl, show LF.2 145 7 = some 152 from rfl, show LF.1 152 = some (.inr (0, 12)) from rfl, m51, Int.toNat_natCast, upd2_eq, Int.reduceToNat, Int.toNat_natCast]; rfl) (by first | exact trivial | exact Or.inr rfl | exact Or.inl rfl | (simp only [ob, obA, R32, R64] at *; omega) | (simp only [ob, obA, R32, R64] at *; and_intros <;> omega) | (simp [ob, obA])) ?_
            refine V_iret dX12_seed_186 rfl (by decide) (by rw [ey hy, ← he]; exact ⟨congrArg (fun t => some (VI t)) eg, G1, rfl, hR1, fr, c0⟩)
          · omega
        | succ r ih =>
          intro ii v1 A1 G1 x y hir hi0 hR1 hI1 fr c0 hl1 hlv1 hg1 he
          have hj1 : j < A1.1.1.length := by omega
          have hmb := mS0_b hR1.1 hj1
          have m31 := hmb.2.2.1
          have m51 := hmb.2.2.2.2.1
          obtain ⟨w1, w2, w3, w4, w5⟩ := gone_ok hI1.1 hj1
          have hsk := skV_R (v1 * 1103515245 + 12345)
          have hss := skV_s (v1 * 1103515245 + 12345)
          have ht0 : 0 < (bkJ A1.1 j).2.2.1 - ((bkJ A1.1 j).2.2.2.2.2.length : Nat) := by rw [hlv1]; omega
          have hmod : (skV (v1 * 1103515245 + 12345)).tmod ((bkJ A1.1 j).2.2.1 - ((bkJ A1.1 j).2.2.2.2.2.length : Nat)) = skV (v1 * 1103515245 + 12345) % ((bkJ A1.1 j).2.2.1 - ((bkJ A1.1 j).2.2.2.2.2.length : Nat)) := tm_nn (by omega)
          have hm0 := Int.emod_nonneg (skV (v1 * 1103515245 + 12345)) (show (bkJ A1.1 j).2.2.1 - ((bkJ A1.1 j).2.2.2.2.2.length : Nat) ≠ 0 by omega)
          have hm1 := Int.emod_lt_of_pos (skV (v1 * 1103515245 + 12345)) ht0
          have hz := thB_ok (b := bkJ A1.1 j) w1 w3 (by omega) hm0 hm1
          have hzz : seedZ A1 j (v1 * 1103515245 + 12345) = thB (bkJ A1.1 j) (skV (v1 * 1103515245 + 12345) % ((bkJ A1.1 j).2.2.1 - ((bkJ A1.1 j).2.2.2.2.2.length : Nat))) := rfl
          rw [seedL, hzz] at he
          generalize hsk2 : skV (v1 * 1103515245 + 12345) % ((bkJ A1.1 j).2.2.1 - ((bkJ A1.1 j).2.2.2.2.2.length : Nat)) = sk at *
          obtain ⟨z, hzd⟩ : ∃ z, z = thB (bkJ A1.1 j) sk := ⟨_, rfl⟩
          rw [← hzd] at hz he
          have hTl := (T_lt hI1 hj1).2
          have h34 : G1.1 145 34 = ((flT A1.2.1.1).length : Nat) := hR1.2.1.1
          have hC2 := RM_tw (l := z) hR1 hI1 hj1 (by omega)
          have hI2 := Inv_torn (i := (j : Int)) (z := z) (o := -1) hI1 hj1 rfl ⟨hz.1, hz.2.1⟩ hz.2.2 (Or.inl rfl) (by rw [if_pos rfl]; omega)
          rw [if_pos rfl] at hI2
          have hTo := c_mTearOut (κ := κ) hκ (d := 2) (sec := false) (j := j) (n := (bkJ A1.1 j).2.2.2.2.2.length) (t := (flT A1.2.1.1).length) (l := z) (G := G1) hj6 m51 (by omega) h34 (by omega)
          have e2 : (toW G1 j (bkJ A1.1 j).2.2.2.2.2.length (flT A1.2.1.1).length z false).1 145 2 = 0 := (tw_5.2.2 145 2 (by omega) (by omega) (by omega) (by omega)).trans c0
          have hfr2 := fr.trans (tw_fe G1 j (bkJ A1.1 j).2.2.2.2.2.length (flT A1.2.1.1).length z false).f
          generalize toW G1 j (bkJ A1.1 j).2.2.2.2.2.length (flT A1.2.1.1).length z false = G2 at *
          generalize hA2 : tornA A1 j [z] ((j : Int), z, -1) = A2 at *
          have hb2 : bkJ A2.1 j = bkGo' (bkJ A1.1 j) ((bkJ A1.1 j).2.2.2.2.2 ++ [z]) := by
            rw [← hA2]; show bkJ (setGo _ _ _) j = _; rw [bkJ_go hj1, if_pos rfl]
          have hl2 : A2.1.1.length = A.1.1.length := by rw [← hA2, ← hl1]; exact setGo_len _ _ _
          have nx : ∀ x y, V κ MX12_seed (rmD d 0 0) (mdP G (seedP A (j : Nat) v k).2.2 (some (VI (seedP A (j : Nat) v k).2.1)) (seedP A (j : Nat) v k).1) noX 0 0 μ 0 0 (Wm (G2)) 79 [some (VR 145), some (VI (j : Nat)), some (VI v), some (VI k), some (VI (v1 * 1103515245 + 12345)), some (VI (ii + 1)), x, y] [] := fun x y => ih (ii + 1) (v1 * 1103515245 + 12345) A2 G2 x y (by omega) (by omega) hC2 hI2 hfr2 e2 hl2 (by rw [hb2]; exact hlv1) (by rw [hb2]; show ((bkJ A1.1 j).2.2.2.2.2 ++ [z]).length + r = _; rw [List.length_append]; simp only [List.length_singleton]; omega) he
          have L2 : ∀ (q lo : Nat) (ll s : Int), ll = (lo : Int) → lo + q = (bkJ A1.1 j).2.2.1.toNat → 0 ≤ s → s ≤ 40000 → thAt (fun y => decide (y ∈ (bkJ A1.1 j).2.2.2.2.2)) q (lo : Int) s = z → V κ MX12_seed (rmD d 0 0) (mdP G (seedP A (j : Nat) v k).2.2 (some (VI (seedP A (j : Nat) v k).2.1)) (seedP A (j : Nat) v k).1) noX 0 0 μ 0 0 (Wm (G1)) 125 [some (VR 145), some (VI (j : Nat)), some (VI v), some (VI k), some (VI (v1 * 1103515245 + 12345)), some (VI ii), some (VI s), some (VI ll)] [] := by
            intro q
            induction q with
            | zero => intro lo ll s hll hlo hs hs2 hth; rw [thAt] at hth; omega
            | succ q ih2 =>
              intro lo ll s hll hlo hs hs2 hth
              subst hll
              rw [thAt] at hth
              have elo : (lo : Int) + 1 = ((lo + 1 : Nat) : Int) := by omega
              refine V_ex sX12_seed_125 (by rfl) (by first | exact trivial | exact Or.inr rfl | exact Or.inl rfl | (simp only [ob, obA, R32, R64] at *; omega) | (simp only [ob, obA, R32, R64] at *; and_intros <;> omega) | (simp [ob, obA])) ?_
              refine V_callV (M := MX12_seed) (N := MX12_isOut) dX12_seed_129 lRX12_389 kX12_isOut rfl (rfl) rfl (c_mIsOut (d := 2) hκ hR1.1 hI1.1 hj1 (by unfold R32; omega) (by omega)) rfl rfl (Nat.le_of_ble_eq_true rfl) (fit_rm (by omega)) (⟨Nat.le_of_ble_eq_true rfl, Nat.le_of_ble_eq_true rfl⟩) (fun v Ω' hp => ?_) (fun _ _ h => h.elim)
              obtain ⟨rfl, rfl⟩ := hp
              refine V_ifneB dX12_seed_132 (tgt := 140) (by decide) (fun q132 => ?_) (fun q132 => ?_)
              · refine V_ex sX12_seed_140 (by rfl) (by first | exact trivial | exact Or.inr rfl | exact Or.inl rfl | (simp only [ob, obA, R32, R64] at *; omega) | (simp only [ob, obA, R32, R64] at *; and_intros <;> omega) | (simp [ob, obA])) ?_
                refine V_callV (M := MX12_seed) (N := MX12_isOut) dX12_seed_146 lRX12_389 kX12_isOut rfl (rfl) rfl (c_mIsOut (d := 2) hκ hR1.1 hI1.1 hj1 (by unfold R32; omega) (by omega)) rfl rfl (Nat.le_of_ble_eq_true rfl) (fit_rm (by omega)) (⟨Nat.le_of_ble_eq_true rfl, Nat.le_of_ble_eq_true rfl⟩) (fun v Ω' hp => ?_) (fun _ _ h => h.elim)
                obtain ⟨rfl, rfl⟩ := hp
                refine V_ifeqB dX12_seed_149 (tgt := 156) (by decide) (fun q149 => ?_) (fun q149 => ?_)
                · rw [q132] at q149; cases q149
                · refine V_ex sX12_seed_152 (by rfl) (by first | exact trivial | exact Or.inr rfl | exact Or.inl rfl | (simp only [ob, obA, R32, R64] at *; omega) | (simp only [ob, obA, R32, R64] at *; and_intros <;> omega) | (simp [ob, obA])) ?_
                  refine V_goto dX12_seed_153 (tgt := 157) (by decide) ?_
                  refine V_ex sX12_seed_157 (by rfl) (by first | exact trivial | exact Or.inr rfl | exact Or.inl rfl | (simp only [ob, obA, R32, R64] at *; omega) | (simp only [ob, obA, R32, R64] at *; and_intros <;> omega) | (simp [ob, obA])) ?_
                  refine V_goto dX12_seed_163 (tgt := 125) (by decide) ?_
                  rw [if_pos q132, elo] at hth; have t := ih2 (lo + 1) _ s rfl (by omega) hs hs2 hth; rw [← elo] at t; rw [Int.sub_zero]; exact t
              · refine V_ex sX12_seed_135 (by rfl) (by first | exact trivial | exact Or.inr rfl | exact Or.inl rfl | (simp only [ob, obA, R32, R64] at *; omega) | (simp only [ob, obA, R32, R64] at *; and_intros <;> omega) | (simp [ob, obA])) ?_
                refine V_ifle dX12_seed_137 (tgt := 166) (by decide) (by simp only [R32, R64] at *; omega) (fun q137 => ?_) (fun q137 => ?_)
                · have ez : (lo : Int) = z := by rw [if_neg (by rw [q132]; decide), if_pos (by omega)] at hth; exact hth
                  rw [ez]
                  refine V_ex sX12_seed_166 (by rfl) (by first | exact trivial | exact Or.inr rfl | exact Or.inl rfl | (simp only [ob, obA, R32, R64] at *; omega) | (simp only [ob, obA, R32, R64] at *; and_intros <;> omega) | (simp [ob, obA])) ?_
                  refine V_callV (M := MX12_seed) (N := MX12_tearOut) dX12_seed_171 lRX12_407 kX12_tearOut rfl (rfl) rfl (hTo) rfl rfl (Nat.le_of_ble_eq_true rfl) (fit_rm (by omega)) (⟨Nat.le_of_ble_eq_true rfl, Nat.le_of_ble_eq_true rfl⟩) (fun v Ω' hp => ?_) (fun _ _ h => h.elim)
                  obtain ⟨rfl, rfl⟩ := hp
                  refine V_ex sX12_seed_174 (by rfl) (by first | exact trivial | exact Or.inr rfl | exact Or.inl rfl | (simp only [ob, obA, R32, R64] at *; omega) | (simp only [ob, obA, R32, R64] at *; and_intros <;> omega) | (simp [ob, obA])) ?_
                  refine V_goto dX12_seed_177 (tgt := 79) (by decide) ?_
                  exact nx _ _
                · refine V_ex sX12_seed_140 (by rfl) (by first | exact trivial | exact Or.inr rfl | exact Or.inl rfl | (simp only [ob, obA, R32, R64] at *; omega) | (simp only [ob, obA, R32, R64] at *; and_intros <;> omega) | (simp [ob, obA])) ?_
                  refine V_callV (M := MX12_seed) (N := MX12_isOut) dX12_seed_146 lRX12_389 kX12_isOut rfl (rfl) rfl (c_mIsOut (d := 2) hκ hR1.1 hI1.1 hj1 (by unfold R32; omega) (by omega)) rfl rfl (Nat.le_of_ble_eq_true rfl) (fit_rm (by omega)) (⟨Nat.le_of_ble_eq_true rfl, Nat.le_of_ble_eq_true rfl⟩) (fun v Ω' hp => ?_) (fun _ _ h => h.elim)
                  obtain ⟨rfl, rfl⟩ := hp
                  refine V_ifeqB dX12_seed_149 (tgt := 156) (by decide) (fun q149 => ?_) (fun q149 => ?_)
                  · refine V_ex sX12_seed_156 (by rfl) (by first | exact trivial | exact Or.inr rfl | exact Or.inl rfl | (simp only [ob, obA, R32, R64] at *; omega) | (simp only [ob, obA, R32, R64] at *; and_intros <;> omega) | (simp [ob, obA])) ?_
                    refine V_ex sX12_seed_157 (by rfl) (by first | exact trivial | exact Or.inr rfl | exact Or.inl rfl | (simp only [ob, obA, R32, R64] at *; omega) | (simp only [ob, obA, R32, R64] at *; and_intros <;> omega) | (simp [ob, obA])) ?_
                    refine V_goto dX12_seed_163 (tgt := 125) (by decide) ?_
                    rw [if_neg (by rw [q132]; decide), if_neg (by omega), elo] at hth; have t := ih2 (lo + 1) _ (s - 1) rfl (by omega) (by omega) (by omega) hth; rw [← elo] at t; exact t
                  · rw [q132] at q149; cases q149
          refine V_ex sX12_seed_79 (by rfl) (by first | exact trivial | exact Or.inr rfl | exact Or.inl rfl | (simp only [ob, obA, R32, R64] at *; omega) | (simp only [ob, obA, R32, R64] at *; and_intros <;> omega) | (simp [ob, obA])) ?_
          refine V_icmpge dX12_seed_82 (tgt := 180) (by decide) (by simp only [R32, R64] at *; omega) (fun q82 => ?_) (fun q82 => ?_)
          · omega
          · refine V_ex sX12_seed_85 (by simp only [Option.toList, List.cons_append, List.nil_append, exN, ex1, gI, gL, gR, pI, pL, pR, lget, lset1, lset2, kl, b2I, b2L, nob, ob32, ob64, xGet, xPut, xLen, xLd, xLdR, xSt, obA, true_and, and_true, and_self, eq_self, Nat.reduceEqDiff, Nat.zero_ne_one, reduceIte, Nat.reduceLeDiff, and_false, false_and, show skd 11 6 = 2 from rfl, show skd 11 7 = 2 from rfl, show LF.1 145 = some (.inl 11) from rfl, show LF.2 145 6 = some 151 from rfl, show LF.1 151 = some (.inr (0, 12)) from rfl, show LF.2 145 7 = some 152 from rfl, show LF.1 152 = some (.inr (0, 12)) from rfl, m31, m51, Int.toNat_natCast, hss, hmod, upd2_eq, Int.reduceToNat, Int.toNat_natCast]; rfl) (by (simp only [ob, obA, R32]; and_intros <;> omega)) ?_
            exact L2 (bkJ A1.1 j).2.2.1.toNat 0 0 sk rfl (by omega) hm0 (by omega) hzd.symm
      refine V_ex sX12_seed_0 (by simp only [Option.toList, List.cons_append, List.nil_append, exN, ex1, gI, gL, gR, pI, pL, pR, lget, lset1, lset2, kl, b2I, b2L, nob, ob32, ob64, xGet, xPut, xLen, xLd, xLdR, xSt, obA, true_and, and_true, and_self, eq_self, Nat.reduceEqDiff, Nat.zero_ne_one, reduceIte, Nat.reduceLeDiff, and_false, false_and, show skd 11 2 = 0 from rfl, show LF.1 145 = some (.inl 11) from rfl, upd2_eq, Int.reduceToNat, Int.toNat_natCast]; rfl) (by first | exact trivial | exact Or.inr rfl | exact Or.inl rfl | (simp only [ob, obA, R32, R64] at *; omega) | (simp only [ob, obA, R32, R64] at *; and_intros <;> omega) | (simp [ob, obA])) ?_
      refine V_callV (M := MX12_seed) (N := MX12_isBook) dX12_seed_7 lRX12_386 kX12_isBook rfl (rfl) rfl (c_mIsBook (d := 2) hκ hC1.1 hI.1 hi (by omega)) rfl rfl (Nat.le_of_ble_eq_true rfl) (fit_rm (by omega)) (⟨Nat.le_of_ble_eq_true rfl, Nat.le_of_ble_eq_true rfl⟩) (fun v Ω' hp => ?_) (fun _ _ h => h.elim)
      obtain ⟨rfl, rfl⟩ := hp
      refine V_ifneB dX12_seed_10 (tgt := 19) (by decide) (fun q10 => ?_) (fun q10 => ?_)
      · refine V_ex sX12_seed_19 (by rfl) (by first | exact trivial | exact Or.inr rfl | exact Or.inl rfl | (simp only [ob, obA, R32, R64] at *; omega) | (simp only [ob, obA, R32, R64] at *; and_intros <;> omega) | (simp [ob, obA])) ?_
        refine V_callS (M := MX12_seed) (N := MX12_isIn) dX12_seed_25 lRX12_178 kX12_isIn rfl (c_misIn (d := 2) hκ hk64 (by unfold R64; omega) (by unfold R64; omega)) rfl rfl (Nat.le_of_ble_eq_true rfl) (fit_rm (by omega)) (⟨Nat.le_of_ble_eq_true rfl, Nat.le_of_ble_eq_true rfl⟩) (fun v Ω' hp => ?_) (fun _ _ h => h.elim)
        obtain ⟨rfl, rfl⟩ := hp
        refine V_ifneB dX12_seed_28 (tgt := 37) (by decide) (fun q28 => ?_) (fun q28 => ?_)
        · refine V_ex sX12_seed_37 (by simp only [Option.toList, List.cons_append, List.nil_append, exN, ex1, gI, gL, gR, pI, pL, pR, lget, lset1, lset2, kl, b2I, b2L, nob, ob32, ob64, xGet, xPut, xLen, xLd, xLdR, xSt, obA, true_and, and_true, and_self, eq_self, Nat.reduceEqDiff, Nat.zero_ne_one, reduceIte, Nat.reduceLeDiff, and_false, false_and, show skd 11 7 = 2 from rfl, show LF.1 145 = some (.inl 11) from rfl, show LF.2 145 7 = some 152 from rfl, show LF.1 152 = some (.inr (0, 12)) from rfl, asn (show 152 ≠ 145 by decide), m5, Int.toNat_natCast, upd2_eq, Int.reduceToNat, Int.toNat_natCast]; rfl) (by first | exact trivial | exact Or.inr rfl | exact Or.inl rfl | (simp only [ob, obA, R32, R64] at *; omega) | (simp only [ob, obA, R32, R64] at *; and_intros <;> omega) | (simp [ob, obA])) ?_
          refine V_icmpgt dX12_seed_47 (tgt := 67) (by decide) (by simp only [R32, R64] at *; omega) (fun q47 => ?_) (fun q47 => ?_)
          · refine V_ex sX12_seed_67 (by rfl) (by first | exact trivial | exact Or.inr rfl | exact Or.inl rfl | (simp only [ob, obA, R32, R64] at *; omega) | (simp only [ob, obA, R32, R64] at *; and_intros <;> omega) | (simp [ob, obA])) ?_
            refine V_callV (M := MX12_seed) (N := MX12_refuse) dX12_seed_69 lRX12_404 kX12_refuse rfl (rfl) rfl (c_mRefuse (d := 2) (k := 1) hκ (by decide)) rfl rfl (Nat.le_of_ble_eq_true rfl) (fit_rm (by omega)) (⟨Nat.le_of_ble_eq_true rfl, Nat.le_of_ble_eq_true rfl⟩) (fun v Ω' hp => ?_) (fun _ _ h => h.elim)
            obtain ⟨rfl, rfl⟩ := hp
            refine V_iret dX12_seed_72 rfl (by decide) (by rw [er (Or.inl (by omega))]; exact md_ref hC1 hI (by decide) (fz0 G 0) rfl iu)
          · refine V_ex sX12_seed_50 (by simp only [Option.toList, List.cons_append, List.nil_append, exN, ex1, gI, gL, gR, pI, pL, pR, lget, lset1, lset2, kl, b2I, b2L, nob, ob32, ob64, xGet, xPut, xLen, xLd, xLdR, xSt, obA, true_and, and_true, and_self, eq_self, Nat.reduceEqDiff, Nat.zero_ne_one, reduceIte, Nat.reduceLeDiff, and_false, false_and, show skd 11 6 = 2 from rfl, show skd 11 7 = 2 from rfl, show LF.1 145 = some (.inl 11) from rfl, show LF.2 145 6 = some 151 from rfl, show LF.1 151 = some (.inr (0, 12)) from rfl, show LF.2 145 7 = some 152 from rfl, show LF.1 152 = some (.inr (0, 12)) from rfl, asn (show 151 ≠ 145 by decide), asn (show 152 ≠ 145 by decide), m3, m5, Int.toNat_natCast, upd2_eq, Int.reduceToNat, Int.toNat_natCast]; rfl) (by first | exact trivial | exact Or.inr rfl | exact Or.inl rfl | (simp only [ob, obA, R32, R64] at *; omega) | (simp only [ob, obA, R32, R64] at *; and_intros <;> omega) | (simp [ob, obA])) ?_
            refine V_icmpge dX12_seed_64 (tgt := 73) (by decide) (by simp only [R32, R64] at *; omega) (fun q64 => ?_) (fun q64 => ?_)
            · refine V_ex sX12_seed_73 (by rfl) (by first | exact trivial | exact Or.inr rfl | exact Or.inl rfl | (simp only [ob, obA, R32, R64] at *; omega) | (simp only [ob, obA, R32, R64] at *; and_intros <;> omega) | (simp [ob, obA])) ?_
              exact L (by omega) k.toNat 0 v A (uI G 145 2 0) _ _ (by omega) (by omega) hC1 hI (fz0 G 0).f iu rfl rfl rfl rfl
            · refine V_ex sX12_seed_67 (by rfl) (by first | exact trivial | exact Or.inr rfl | exact Or.inl rfl | (simp only [ob, obA, R32, R64] at *; omega) | (simp only [ob, obA, R32, R64] at *; and_intros <;> omega) | (simp [ob, obA])) ?_
              refine V_callV (M := MX12_seed) (N := MX12_refuse) dX12_seed_69 lRX12_404 kX12_refuse rfl (rfl) rfl (c_mRefuse (d := 2) (k := 1) hκ (by decide)) rfl rfl (Nat.le_of_ble_eq_true rfl) (fit_rm (by omega)) (⟨Nat.le_of_ble_eq_true rfl, Nat.le_of_ble_eq_true rfl⟩) (fun v Ω' hp => ?_) (fun _ _ h => h.elim)
              obtain ⟨rfl, rfl⟩ := hp
              refine V_iret dX12_seed_72 rfl (by decide) (by rw [er (Or.inr (by omega))]; exact md_ref hC1 hI (by decide) (fz0 G 0) rfl iu)
        · exact absurd hk2 (of_decide_eq_false q28)
      · exact absurd hin (of_decide_eq_false q10)
    · have e : seedP A (j : Nat) v k = (2, 0, A) := by unfold seedP; rw [if_neg (fun h => h hin), if_pos hk2]
      refine V_ex sX12_seed_0 (by simp only [Option.toList, List.cons_append, List.nil_append, exN, ex1, gI, gL, gR, pI, pL, pR, lget, lset1, lset2, kl, b2I, b2L, nob, ob32, ob64, xGet, xPut, xLen, xLd, xLdR, xSt, obA, true_and, and_true, and_self, eq_self, Nat.reduceEqDiff, Nat.zero_ne_one, reduceIte, Nat.reduceLeDiff, and_false, false_and, show skd 11 2 = 0 from rfl, show LF.1 145 = some (.inl 11) from rfl, upd2_eq, Int.reduceToNat, Int.toNat_natCast]; rfl) (by first | exact trivial | exact Or.inr rfl | exact Or.inl rfl | (simp only [ob, obA, R32, R64] at *; omega) | (simp only [ob, obA, R32, R64] at *; and_intros <;> omega) | (simp [ob, obA])) ?_
      refine V_callV (M := MX12_seed) (N := MX12_isBook) dX12_seed_7 lRX12_386 kX12_isBook rfl (rfl) rfl (c_mIsBook (d := 2) hκ hC1.1 hI.1 hi (by omega)) rfl rfl (Nat.le_of_ble_eq_true rfl) (fit_rm (by omega)) (⟨Nat.le_of_ble_eq_true rfl, Nat.le_of_ble_eq_true rfl⟩) (fun v Ω' hp => ?_) (fun _ _ h => h.elim)
      obtain ⟨rfl, rfl⟩ := hp
      refine V_ifneB dX12_seed_10 (tgt := 19) (by decide) (fun q10 => ?_) (fun q10 => ?_)
      · refine V_ex sX12_seed_19 (by rfl) (by first | exact trivial | exact Or.inr rfl | exact Or.inl rfl | (simp only [ob, obA, R32, R64] at *; omega) | (simp only [ob, obA, R32, R64] at *; and_intros <;> omega) | (simp [ob, obA])) ?_
        refine V_callS (M := MX12_seed) (N := MX12_isIn) dX12_seed_25 lRX12_178 kX12_isIn rfl (c_misIn (d := 2) hκ hk64 (by unfold R64; omega) (by unfold R64; omega)) rfl rfl (Nat.le_of_ble_eq_true rfl) (fit_rm (by omega)) (⟨Nat.le_of_ble_eq_true rfl, Nat.le_of_ble_eq_true rfl⟩) (fun v Ω' hp => ?_) (fun _ _ h => h.elim)
        obtain ⟨rfl, rfl⟩ := hp
        refine V_ifneB dX12_seed_28 (tgt := 37) (by decide) (fun q28 => ?_) (fun q28 => ?_)
        · exact absurd (of_decide_eq_true q28) hk2
        · refine V_ex sX12_seed_31 (by rfl) (by first | exact trivial | exact Or.inr rfl | exact Or.inl rfl | (simp only [ob, obA, R32, R64] at *; omega) | (simp only [ob, obA, R32, R64] at *; and_intros <;> omega) | (simp [ob, obA])) ?_
          refine V_callV (M := MX12_seed) (N := MX12_fail) dX12_seed_33 lRX12_324 kX12_fail rfl (rfl) rfl (c_mfail (d := 2) hκ) rfl rfl (Nat.le_of_ble_eq_true rfl) (fit_rm (by omega)) (⟨Nat.le_of_ble_eq_true rfl, Nat.le_of_ble_eq_true rfl⟩) (fun v Ω' hp => ?_) (fun _ _ h => h.elim)
          obtain ⟨rfl, rfl⟩ := hp
          refine V_iret dX12_seed_36 rfl (by decide) (by rw [e]; exact md_1 hC rfl rfl)
      · exact absurd hin (of_decide_eq_false q10)
  · have e : seedP A i v k = (1, 0, A) := by unfold seedP; rw [if_pos hin]
    refine V_ex sX12_seed_0 (by simp only [Option.toList, List.cons_append, List.nil_append, exN, ex1, gI, gL, gR, pI, pL, pR, lget, lset1, lset2, kl, b2I, b2L, nob, ob32, ob64, xGet, xPut, xLen, xLd, xLdR, xSt, obA, true_and, and_true, and_self, eq_self, Nat.reduceEqDiff, Nat.zero_ne_one, reduceIte, Nat.reduceLeDiff, and_false, false_and, show skd 11 2 = 0 from rfl, show LF.1 145 = some (.inl 11) from rfl, upd2_eq, Int.reduceToNat, Int.toNat_natCast]; rfl) (by first | exact trivial | exact Or.inr rfl | exact Or.inl rfl | (simp only [ob, obA, R32, R64] at *; omega) | (simp only [ob, obA, R32, R64] at *; and_intros <;> omega) | (simp [ob, obA])) ?_
    refine V_callV (M := MX12_seed) (N := MX12_isBook) dX12_seed_7 lRX12_386 kX12_isBook rfl (rfl) rfl (c_mIsBook (d := 2) hκ hC1.1 hI.1 hi (by omega)) rfl rfl (Nat.le_of_ble_eq_true rfl) (fit_rm (by omega)) (⟨Nat.le_of_ble_eq_true rfl, Nat.le_of_ble_eq_true rfl⟩) (fun v Ω' hp => ?_) (fun _ _ h => h.elim)
    obtain ⟨rfl, rfl⟩ := hp
    refine V_ifneB dX12_seed_10 (tgt := 19) (by decide) (fun q10 => ?_) (fun q10 => ?_)
    · exact absurd (of_decide_eq_true q10) hin
    · refine V_ex sX12_seed_13 (by rfl) (by first | exact trivial | exact Or.inr rfl | exact Or.inl rfl | (simp only [ob, obA, R32, R64] at *; omega) | (simp only [ob, obA, R32, R64] at *; and_intros <;> omega) | (simp [ob, obA])) ?_
      refine V_callV (M := MX12_seed) (N := MX12_fail) dX12_seed_15 lRX12_324 kX12_fail rfl (rfl) rfl (c_mfail (d := 2) hκ) rfl rfl (Nat.le_of_ble_eq_true rfl) (fit_rm (by omega)) (⟨Nat.le_of_ble_eq_true rfl, Nat.le_of_ble_eq_true rfl⟩) (fun v Ω' hp => ?_) (fun _ _ h => h.elim)
      obtain ⟨rfl, rfl⟩ := hp
      refine V_iret dX12_seed_18 rfl (by decide) (by rw [e]; exact md_1 hC rfl rfl)
