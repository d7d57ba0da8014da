/-! THE MODEL: add -/
/-- cells of events but those of a child's sums -/
def evS (G W : Wd) : Prop := FZm G W ∧ W.1 152 = G.1 152 ∧ W.1 153 = G.1 153 ∧ (∀ y, y = 2 ∨ y = 34 ∨ y = 35 ∨ y = 48 → W.1 145 y = G.1 145 y) ∧ ∀ x, x = 161 ∨ (165 ≤ x ∧ x ≤ 167) ∨ x = 172 ∨ x = 173 → W.1 x = G.1 x
theorem evS.refl (G : Wd) : evS G G := ⟨FZm.refl _, rfl, rfl, fun _ _ => rfl, fun _ _ => rfl⟩
theorem evS.u {G W : Wd} (h : evS G W) {k : Nat} {z : Int} (hk : k = 36 ∨ k = 37 ∨ k = 38) : evS G (uI W 145 k z) := ⟨h.1.u (by omega), (funext fun y => iv (by omega)).trans h.2.1, (funext fun y => iv (by omega)).trans h.2.2.1, fun y hy => (iv (by omega)).trans (h.2.2.2.1 y hy), fun x hx => (funext fun y => iv (by omega)).trans (h.2.2.2.2 x hx)⟩
theorem evS.l {G W : Wd} (h : evS G W) {z : Int} : evS G (uL W 145 39 z) := ⟨h.1.l, h.2⟩
theorem evS.f {G W W' : Wd} (h : evS G W) (f : FM [] [163, 164] [] W W') : evS G W' := ⟨h.1.trans (FZm.of f), (f.i (by decide) (by decide)).trans h.2.1, (f.i (by decide) (by decide)).trans h.2.2.1, fun y hy => (f.i5 (by decide) (List.not_mem_nil)).trans (h.2.2.2.1 y hy), fun x hx => (f.i (by simp; omega) (by omega)).trans (h.2.2.2.2 x hx)⟩
theorem RM_add {G W : Wd} {A : Ab} {i a fw : Int} (h : RM G A) (f : evS G W) (h36 : W.1 145 36 = a) (h37 : W.1 145 37 = i) (h38 : W.1 145 38 = fw) (h39 : W.2.1 145 39 = sumF (cdS A.1) (bkJ A.1 i.toNat) a.toNat) : RM W (A.1, (A.2.1.1, (i, a, fw), A.2.1.2.2), A.2.2) := by
  obtain ⟨v1, v2, v3, v4, v5, v6, v7, v8⟩ := h.2.1
  dsimp only [mcN] at v1 v2 v3 v4 v5 v6 v7 v8
  obtain ⟨f1, f2, f3, f4, f5⟩ := f
  refine RM_v h f1 f2 f3 ⟨?_, fun n hn => ?_, ?_, h36, fun q => ⟨h37, h38, h39⟩, ?_, fun n hn => ?_, fun n hn => ?_⟩
  · exact (f4 34 (by omega)).trans v1
  · dsimp only [mcN]; rw [f5 165 (by omega), f5 166 (by omega), f5 167 (by omega)]; exact v2 n hn
  · exact (f4 35 (by omega)).trans v3
  · exact (f4 48 (by omega)).trans v6
  · dsimp only [mcN]; rw [f5 172 (by omega), f5 173 (by omega)]; exact v7 n hn
  · dsimp only [mcN]; rw [f5 161 (by omega)]; exact v8 n hn
set_option maxRecDepth 100000 in
set_option maxHeartbeats 4000000 in
theorem c_mxAdd {κ : Kx} (hκ : KOK κ) {d : Nat} {K i z : Int} {A : Ab} {G : Wd} (hC : RM G A) (hI : Inv K A) (hi : R32 i) (hz : R64 z) (hd : 20 ≤ d) : Ct κ MX12_add d 0 0 [VR 145, VI i, VL z] (Wm G) (mdP G (addP A i z).2.2 (some (VI (addP A i z).2.1)) (addP A i z).1) noX := by
  refine Ct_of hκ kX12_add.1 rfl (Nat.le_of_ble_eq_true rfl) (ls := [some (VR 145), some (VI i), some (VL z), none, none]) rfl (fun μ => ?_)
  have hC1 := RM_0 hC 0
  obtain ⟨v1, v2, v3, v4, v5, v6, v7, v8⟩ := hC1.2.1
  dsimp only [mcN] at v4 v5
  obtain ⟨i1, i2, i3, i4⟩ := hI.2.1.2.1
  by_cases hin : inB A.1 i
  · obtain ⟨j, hj⟩ : ∃ j : Nat, i = (j : Int) := ⟨i.toNat, by have := hin.1; omega⟩
    subst hj
    have hj : j < A.1.1.length := by have := hin.2; omega
    obtain ⟨m1, m2, m3, m4, m5, m6⟩ := mS0_b hC.1 hj
    obtain ⟨g1, g2, g3, g4, g5⟩ := gone_ok hI.1 hj
    have hj6 : j < 6 := by have := hI.1.1; omega
    have hok := hI.1.2.1 _ (List.getElem_mem hj)
    rw [← bkJ_in hj] at hok
    obtain ⟨a, ha⟩ : ∃ a : Nat, A.2.1.2.1.2.1 = (a : Int) := ⟨A.2.1.2.1.2.1.toNat, by omega⟩
    have er : (60 ≤ (a : Int) ∨ 2 * (bkJ A.1 j).2.2.1 ≤ (a : Int) ∨ 0 < (a : Int) ∧ A.2.1.2.1.1 ≠ (j : Int)) → addP A (j : Nat) z = (0, 0, refA A 2) := fun h => by unfold addP; rw [if_neg (fun q => q hin)]; exact if_pos (by rw [ha]; exact h)
    have ey : ¬ (60 ≤ (a : Int) ∨ 2 * (bkJ A.1 j).2.2.1 ≤ (a : Int) ∨ 0 < (a : Int) ∧ A.2.1.2.1.1 ≠ (j : Int)) → addP A (j : Nat) z = (0, b2i (decide (z = sumF (cdS A.1) (bkJ A.1 j) (a + 1))), addA A (j : Nat) (decide (z = sumF (cdS A.1) (bkJ A.1 j) (a + 1)))) := fun h => by
      unfold addP
      rw [if_neg (fun q => q hin)]
      have e : A.2.1.2.1.2.1.toNat = a := by omega
      rw [e]
      exact if_neg (by rw [ha]; exact h)
    have e36 : upd2 G.1 145 2 0 145 36 = (a : Int) := v4.trans ha
    rw [ha] at i1 i2 i4 v5
    have rest : ∀ W : Wd, ¬ (60 ≤ (a : Int) ∨ 2 * (bkJ A.1 j).2.2.1 ≤ (a : Int) ∨ 0 < (a : Int) ∧ A.2.1.2.1.1 ≠ (j : Int)) → evS (uI G 145 2 0) W → W.1 145 36 = (a : Int) → W.1 145 37 = (j : Int) → W.1 145 38 = A.2.1.2.1.2.2 → W.2.1 145 39 = sumF (cdS A.1) (bkJ A.1 j) a → V κ MX12_add (rmD d 0 0) (mdP G (addP A (j : Nat) z).2.2 (some (VI (addP A (j : Nat) z).2.1)) (addP A (j : Nat) z).1) noX 0 0 μ 0 0 (Wm (W)) 93 [some (VR 145), some (VI (j : Nat)), some (VL z), none, none] [] := fun W hy hE h36 h37 h38 h39 => by
      have hsR : 0 ≤ sumF (cdS A.1) (bkJ A.1 j) a ∧ sumF (cdS A.1) (bkJ A.1 j) a ≤ 99999 * (a : Int) := sumF_R hok a (by omega)
      have hs : sumF (cdS A.1) (bkJ A.1 j) (a + 1) = sumF (cdS A.1) (bkJ A.1 j) a + numB (cdS A.1) (bkJ A.1 j) ((a + 1 : Nat) : Int) := by rw [sumF]; congr 2
      have ea : (a : Int) + 1 = ((a + 1 : Nat) : Int) := by omega
      have hE1 : evS (uI G 145 2 0) (uI W 145 36 ((a + 1 : Nat) : Int)) := hE.u (by omega)
      have hM1 : mS0 (uI W 145 36 ((a + 1 : Nat) : Int)) A.1 := mS0_z hC1.1 hE1.1 hE1.2.1 hE1.2.2.1
      have ey' := ey hy
      rw [hs] at ey'
      have hnR := numB_Rc hI.1 hj (p := ((a + 1 : Nat) : Int)) (by omega)
      have eA : ∀ (r : Bool) (fw : Int), (if r = false ∧ A.2.1.2.1.2.2 = -1 then A.2.1.2.1.2.1 else A.2.1.2.1.2.2) = fw → addA A (j : Nat) r = (A.1, (A.2.1.1, (((j : Nat) : Int), ((a + 1 : Nat) : Int), fw), A.2.1.2.2), A.2.2) := fun r fw h => by unfold addA; rw [h, ha]; rfl
      have b1 : ∀ v, upd2 W.1 145 36 v 145 36 = v := fun v => upd2_same ..
      have hNu := c_mNumOn (κ := κ) hκ (d := 4) (p := a + 1) hM1 hI.1 hj (by omega) (by omega)
      refine V_ex sX12_add_93 (by simp only [Option.toList, List.cons_append, List.nil_append, exN, ex1, gI, gL, gR, pI, pL, pR, lget, lset1, lset2, kl, b2I, b2L, nob, ob32, ob64, xGet, xPut, xLen, xLd, xLdR, xSt, obA, true_and, and_true, and_self, eq_self, Nat.reduceEqDiff, Nat.zero_ne_one, reduceIte, Nat.reduceLeDiff, and_false, false_and, show skd 11 36 = 0 from rfl, show skd 11 39 = 1 from rfl, show LF.1 145 = some (.inl 11) from rfl, h36, h39, ea, b1, upd2_eq, Int.reduceToNat, Int.toNat_natCast]; rfl) (by first | exact trivial | exact Or.inr rfl | exact Or.inl rfl | (simp only [ob, obA, R32, R64] at *; omega) | (simp only [ob, obA, R32, R64] at *; and_intros <;> omega) | (simp [ob, obA])) ?_
      refine V_callV (M := MX12_add) (N := MX12_numberOn) dX12_add_114 lRX12_393 kX12_numberOn rfl (rfl) rfl (hNu) rfl rfl (Nat.le_of_ble_eq_true rfl) (fit_rm (by omega)) (⟨Nat.le_of_ble_eq_true rfl, Nat.le_of_ble_eq_true rfl⟩) (fun v Ω' hp => ?_) (fun _ _ h => h.elim)
      obtain ⟨rfl, G2, rfl, f2⟩ := hp
      have hE2 := hE1.f f2
      have c36 : G2.1 145 36 = ((a + 1 : Nat) : Int) := (f2.i5 (by decide) (by decide)).trans iu
      have c37 : G2.1 145 37 = (j : Int) := (f2.i5 (by decide) (by decide)).trans ((iv (by omega)).trans h37)
      have c38 : G2.1 145 38 = A.2.1.2.1.2.2 := (f2.i5 (by decide) (by decide)).trans ((iv (by omega)).trans h38)
      have b2 : ∀ v, upd2 G2.2.1 145 39 v 145 39 = v := fun v => upd2_same ..
      have c2 : G2.1 145 2 = 0 := (hE2.2.2.2.1 2 (by omega)).trans iu
      have c2b : ∀ v, upd2 G2.1 145 38 v 145 2 = 0 := fun v => (uv (by omega)).trans c2
      refine V_ex sX12_add_117 (by simp only [Option.toList, List.cons_append, List.nil_append, exN, ex1, gI, gL, gR, pI, pL, pR, lget, lset1, lset2, kl, b2I, b2L, nob, ob32, ob64, xGet, xPut, xLen, xLd, xLdR, xSt, obA, true_and, and_true, and_self, eq_self, Nat.reduceEqDiff, Nat.zero_ne_one, reduceIte, Nat.reduceLeDiff, and_false, false_and, show skd 11 39 = 1 from rfl, show LF.1 145 = some (.inl 11) from rfl, b2, upd2_eq, Int.reduceToNat, Int.toNat_natCast]; rfl) (by exact ⟨by unfold R32; omega, hz, by unfold R64; omega⟩) ?_
      refine V_lifne dX12_add_128 (tgt := 135) (by decide) (fun q128 => ?_) (fun q128 => ?_)
      · refine V_ex sX12_add_135 (by rfl) (by first | exact trivial | exact Or.inr rfl | exact Or.inl rfl | (simp only [ob, obA, R32, R64] at *; omega) | (simp only [ob, obA, R32, R64] at *; and_intros <;> omega) | (simp [ob, obA])) ?_
        refine V_ex sX12_add_136 (by rfl) (by first | exact trivial | exact Or.inr rfl | exact Or.inl rfl | (simp only [ob, obA, R32, R64] at *; omega) | (simp only [ob, obA, R32, R64] at *; and_intros <;> omega) | (simp [ob, obA])) ?_
        refine V_ifne dX12_add_140 (tgt := 161) (by decide) (by simp only [R32, R64] at *; omega) (fun q140 => ?_) (fun q140 => ?_)
        · exact absurd rfl q140
        · refine V_ex sX12_add_143 (by simp only [Option.toList, List.cons_append, List.nil_append, exN, ex1, gI, gL, gR, pI, pL, pR, lget, lset1, lset2, kl, b2I, b2L, nob, ob32, ob64, xGet, xPut, xLen, xLd, xLdR, xSt, obA, true_and, and_true, and_self, eq_self, Nat.reduceEqDiff, Nat.zero_ne_one, reduceIte, Nat.reduceLeDiff, and_false, false_and, show skd 11 38 = 0 from rfl, show LF.1 145 = some (.inl 11) from rfl, c38, upd2_eq, Int.reduceToNat, Int.toNat_natCast]; rfl) (by first | exact trivial | exact Or.inr rfl | exact Or.inl rfl | (simp only [ob, obA, R32, R64] at *; omega) | (simp only [ob, obA, R32, R64] at *; and_intros <;> omega) | (simp [ob, obA])) ?_
          refine V_icmpne dX12_add_148 (tgt := 161) (by decide) (by simp only [R32, R64] at *; omega) (fun q148 => ?_) (fun q148 => ?_)
          · refine V_ex sX12_add_161 (by rfl) (by first | exact trivial | exact Or.inr rfl | exact Or.inl rfl | (simp only [ob, obA, R32, R64] at *; omega) | (simp only [ob, obA, R32, R64] at *; and_intros <;> omega) | (simp [ob, obA])) ?_
            refine V_zret dX12_add_163 rfl (by first | exact Or.inl rfl | exact Or.inr rfl | exact b2i_01 _) (by decide) (by rw [ey', decide_eq_false q128, eA false A.2.1.2.1.2.2 (if_neg (fun q => q148 q.2))]; exact md_z (RM_add hC1 hE2.l c36 c37 c38 ((b2 _).trans hs.symm)) ((fz0 G 0).trans hE2.l.1) rfl c2)
          · refine V_ex sX12_add_151 (by simp only [Option.toList, List.cons_append, List.nil_append, exN, ex1, gI, gL, gR, pI, pL, pR, lget, lset1, lset2, kl, b2I, b2L, nob, ob32, ob64, xGet, xPut, xLen, xLd, xLdR, xSt, obA, true_and, and_true, and_self, eq_self, Nat.reduceEqDiff, Nat.zero_ne_one, reduceIte, Nat.reduceLeDiff, and_false, false_and, show skd 11 36 = 0 from rfl, show skd 11 38 = 0 from rfl, show LF.1 145 = some (.inl 11) from rfl, c36, upd2_eq, Int.reduceToNat, Int.toNat_natCast]; rfl) (by first | exact trivial | exact Or.inr rfl | exact Or.inl rfl | (simp only [ob, obA, R32, R64] at *; omega) | (simp only [ob, obA, R32, R64] at *; and_intros <;> omega) | (simp [ob, obA])) ?_
            refine V_ex sX12_add_161 (by rfl) (by first | exact trivial | exact Or.inr rfl | exact Or.inl rfl | (simp only [ob, obA, R32, R64] at *; omega) | (simp only [ob, obA, R32, R64] at *; and_intros <;> omega) | (simp [ob, obA])) ?_
            refine V_zret dX12_add_163 rfl (by first | exact Or.inl rfl | exact Or.inr rfl | exact b2i_01 _) (by decide) (by rw [ey', decide_eq_false q128, eA false (((a + 1 : Nat) : Int) - 1) ((if_pos ⟨rfl, q148⟩).trans (by omega))]; exact md_z (RM_add hC1 (hE2.l.u (Or.inr (Or.inr rfl))) ((iv (by omega)).trans c36) ((iv (by omega)).trans c37) iu ((b2 _).trans hs.symm)) ((fz0 G 0).trans (hE2.l.u (Or.inr (Or.inr rfl))).1) rfl (c2b (((a + 1 : Nat) : Int) - 1)))
      · refine V_ex sX12_add_131 (by rfl) (by first | exact trivial | exact Or.inr rfl | exact Or.inl rfl | (simp only [ob, obA, R32, R64] at *; omega) | (simp only [ob, obA, R32, R64] at *; and_intros <;> omega) | (simp [ob, obA])) ?_
        refine V_goto dX12_add_132 (tgt := 136) (by decide) ?_
        refine V_ex sX12_add_136 (by rfl) (by first | exact trivial | exact Or.inr rfl | exact Or.inl rfl | (simp only [ob, obA, R32, R64] at *; omega) | (simp only [ob, obA, R32, R64] at *; and_intros <;> omega) | (simp [ob, obA])) ?_
        refine V_ifne dX12_add_140 (tgt := 161) (by decide) (by simp only [R32, R64] at *; omega) (fun q140 => ?_) (fun q140 => ?_)
        · refine V_ex sX12_add_161 (by rfl) (by first | exact trivial | exact Or.inr rfl | exact Or.inl rfl | (simp only [ob, obA, R32, R64] at *; omega) | (simp only [ob, obA, R32, R64] at *; and_intros <;> omega) | (simp [ob, obA])) ?_
          refine V_zret dX12_add_163 rfl (by first | exact Or.inl rfl | exact Or.inr rfl | exact b2i_01 _) (by decide) (by rw [ey', decide_eq_true q128, eA true A.2.1.2.1.2.2 (if_neg (fun q => by cases q.1))]; exact md_z (RM_add hC1 hE2.l c36 c37 c38 ((b2 _).trans hs.symm)) ((fz0 G 0).trans hE2.l.1) rfl c2)
        · exact absurd q140 (by decide)
    have w36 : (uI (uL (uI (uI G 145 2 0) 145 37 (j : Int)) 145 39 0) 145 38 (-1)).1 145 36 = (a : Int) := by show upd2 (upd2 (upd2 G.1 145 2 0) 145 37 (j : Int)) 145 38 (-1) 145 36 = _; rw [uv (by omega), uv (by omega)]; exact e36
    have w37 : (uI (uL (uI (uI G 145 2 0) 145 37 (j : Int)) 145 39 0) 145 38 (-1)).1 145 37 = (j : Int) := by show upd2 (upd2 (upd2 G.1 145 2 0) 145 37 (j : Int)) 145 38 (-1) 145 37 = _; rw [uv (by omega)]; exact upd2_same ..
    have w39 : (uI (uL (uI (uI G 145 2 0) 145 37 (j : Int)) 145 39 0) 145 38 (-1)).2.1 145 39 = sumF (cdS A.1) (bkJ A.1 j) 0 := by show upd2 G.2.1 145 39 0 145 39 = 0; exact upd2_same ..
    have r38 : ∀ W : Wd, W.1 145 38 = -1 → a = 0 → W.1 145 38 = A.2.1.2.1.2.2 := fun W h h0 => h.trans (i2 (by omega)).symm
    refine V_ex sX12_add_0 (by simp only [Option.toList, List.cons_append, List.nil_append, exN, ex1, gI, gL, gR, pI, pL, pR, lget, lset1, lset2, kl, b2I, b2L, nob, ob32, ob64, xGet, xPut, xLen, xLd, xLdR, xSt, obA, true_and, and_true, and_self, eq_self, Nat.reduceEqDiff, Nat.zero_ne_one, reduceIte, Nat.reduceLeDiff, and_false, false_and, show skd 11 2 = 0 from rfl, show LF.1 145 = some (.inl 11) from rfl, upd2_eq, Int.reduceToNat, Int.toNat_natCast]; rfl) (by first | exact trivial | exact Or.inr rfl | exact Or.inl rfl | (simp only [ob, obA, R32, R64] at *; omega) | (simp only [ob, obA, R32, R64] at *; and_intros <;> omega) | (simp [ob, obA])) ?_
    refine V_callV (M := MX12_add) (N := MX12_isBook) dX12_add_7 lRX12_386 kX12_isBook rfl (rfl) rfl (c_mIsBook (d := 2) hκ hC1.1 hI.1 hi (by omega)) rfl rfl (Nat.le_of_ble_eq_true rfl) (fit_rm (by omega)) (⟨Nat.le_of_ble_eq_true rfl, Nat.le_of_ble_eq_true rfl⟩) (fun v Ω' hp => ?_) (fun _ _ h => h.elim)
    obtain ⟨rfl, rfl⟩ := hp
    refine V_ifneB dX12_add_10 (tgt := 20) (by decide) (fun q10 => ?_) (fun q10 => ?_)
    · refine V_ex sX12_add_20 (by simp only [Option.toList, List.cons_append, List.nil_append, exN, ex1, gI, gL, gR, pI, pL, pR, lget, lset1, lset2, kl, b2I, b2L, nob, ob32, ob64, xGet, xPut, xLen, xLd, xLdR, xSt, obA, true_and, and_true, and_self, eq_self, Nat.reduceEqDiff, Nat.zero_ne_one, reduceIte, Nat.reduceLeDiff, and_false, false_and, show skd 11 36 = 0 from rfl, show LF.1 145 = some (.inl 11) from rfl, e36, upd2_eq, Int.reduceToNat, Int.toNat_natCast]; rfl) (by first | exact trivial | exact Or.inr rfl | exact Or.inl rfl | (simp only [ob, obA, R32, R64] at *; omega) | (simp only [ob, obA, R32, R64] at *; and_intros <;> omega) | (simp [ob, obA])) ?_
      refine V_icmpeq dX12_add_26 (tgt := 59) (by decide) (by simp only [R32, R64] at *; omega) (fun q26 => ?_) (fun q26 => ?_)
      · refine V_ex sX12_add_59 (by simp only [Option.toList, List.cons_append, List.nil_append, exN, ex1, gI, gL, gR, pI, pL, pR, lget, lset1, lset2, kl, b2I, b2L, nob, ob32, ob64, xGet, xPut, xLen, xLd, xLdR, xSt, obA, true_and, and_true, and_self, eq_self, Nat.reduceEqDiff, Nat.zero_ne_one, reduceIte, Nat.reduceLeDiff, and_false, false_and, show skd 11 16 = 2 from rfl, show LF.1 145 = some (.inl 11) from rfl, show LF.2 145 16 = some 161 from rfl, show LF.1 161 = some (.inr (0, 4)) from rfl, upd2_eq, Int.reduceToNat, Int.toNat_natCast]; rfl) (by first | exact trivial | exact Or.inr rfl | exact Or.inl rfl | (simp only [ob, obA, R32, R64] at *; omega) | (simp only [ob, obA, R32, R64] at *; and_intros <;> omega) | (simp [ob, obA])) ?_
        refine V_zret dX12_add_70 rfl (by first | exact Or.inl rfl | exact Or.inr rfl | exact b2i_01 _) (by decide) (by rw [er (Or.inl (by omega))]; exact md_ref hC1 hI (by decide) (fz0 G 0) rfl iu)
      · refine V_ex sX12_add_29 (by simp only [Option.toList, List.cons_append, List.nil_append, exN, ex1, gI, gL, gR, pI, pL, pR, lget, lset1, lset2, kl, b2I, b2L, nob, ob32, ob64, xGet, xPut, xLen, xLd, xLdR, xSt, obA, true_and, and_true, and_self, eq_self, Nat.reduceEqDiff, Nat.zero_ne_one, reduceIte, Nat.reduceLeDiff, and_false, false_and, show skd 11 36 = 0 from rfl, show LF.1 145 = some (.inl 11) from rfl, e36, upd2_eq, Int.reduceToNat, Int.toNat_natCast]; rfl) (by first | exact trivial | exact Or.inr rfl | exact Or.inl rfl | (simp only [ob, obA, R32, R64] at *; omega) | (simp only [ob, obA, R32, R64] at *; and_intros <;> omega) | (simp [ob, obA])) ?_
        refine V_ifle dX12_add_33 (tgt := 71) (by decide) (by simp only [R32, R64] at *; omega) (fun q33 => ?_) (fun q33 => ?_)
        · refine V_ex sX12_add_71 (by simp only [Option.toList, List.cons_append, List.nil_append, exN, ex1, gI, gL, gR, pI, pL, pR, lget, lset1, lset2, kl, b2I, b2L, nob, ob32, ob64, xGet, xPut, xLen, xLd, xLdR, xSt, obA, true_and, and_true, and_self, eq_self, Nat.reduceEqDiff, Nat.zero_ne_one, reduceIte, Nat.reduceLeDiff, and_false, false_and, show skd 11 36 = 0 from rfl, show LF.1 145 = some (.inl 11) from rfl, e36, upd2_eq, Int.reduceToNat, Int.toNat_natCast]; rfl) (by first | exact trivial | exact Or.inr rfl | exact Or.inl rfl | (simp only [ob, obA, R32, R64] at *; omega) | (simp only [ob, obA, R32, R64] at *; and_intros <;> omega) | (simp [ob, obA])) ?_
          refine V_ifne dX12_add_75 (tgt := 93) (by decide) (by simp only [R32, R64] at *; omega) (fun q75 => ?_) (fun q75 => ?_)
          · omega
          · refine V_ex sX12_add_78 (by simp only [Option.toList, List.cons_append, List.nil_append, exN, ex1, gI, gL, gR, pI, pL, pR, lget, lset1, lset2, kl, b2I, b2L, nob, ob32, ob64, xGet, xPut, xLen, xLd, xLdR, xSt, obA, true_and, and_true, and_self, eq_self, Nat.reduceEqDiff, Nat.zero_ne_one, reduceIte, Nat.reduceLeDiff, and_false, false_and, show skd 11 37 = 0 from rfl, show skd 11 39 = 1 from rfl, show skd 11 38 = 0 from rfl, show LF.1 145 = some (.inl 11) from rfl, upd2_eq, Int.reduceToNat, Int.toNat_natCast]; rfl) (by first | exact trivial | exact Or.inr rfl | exact Or.inl rfl | (simp only [ob, obA, R32, R64] at *; omega) | (simp only [ob, obA, R32, R64] at *; and_intros <;> omega) | (simp [ob, obA])) ?_
            exact rest (uI (uL (uI (uI G 145 2 0) 145 37 (j : Int)) 145 39 0) 145 38 (-1)) (by omega) (((evS.refl _).u (Or.inr (Or.inl rfl))).l.u (Or.inr (Or.inr rfl))) w36 w37 (r38 _ iu (by omega)) (by rw [show a = 0 by omega]; exact w39)
        · have e37 := (v5 (by omega)).1
          refine V_ex sX12_add_36 (by simp only [Option.toList, List.cons_append, List.nil_append, exN, ex1, gI, gL, gR, pI, pL, pR, lget, lset1, lset2, kl, b2I, b2L, nob, ob32, ob64, xGet, xPut, xLen, xLd, xLdR, xSt, obA, true_and, and_true, and_self, eq_self, Nat.reduceEqDiff, Nat.zero_ne_one, reduceIte, Nat.reduceLeDiff, and_false, false_and, show skd 11 37 = 0 from rfl, show LF.1 145 = some (.inl 11) from rfl, e37, upd2_eq, Int.reduceToNat, Int.toNat_natCast]; rfl) (by first | exact trivial | exact Or.inr rfl | exact Or.inl rfl | (simp only [ob, obA, R32, R64] at *; omega) | (simp only [ob, obA, R32, R64] at *; and_intros <;> omega) | (simp [ob, obA])) ?_
          refine V_icmpne dX12_add_41 (tgt := 59) (by decide) (by exact ⟨by unfold R32; omega, by have := i4 (by omega); have := hI.1.1; unfold R32; omega⟩) (fun q41 => ?_) (fun q41 => ?_)
          · refine V_ex sX12_add_59 (by simp only [Option.toList, List.cons_append, List.nil_append, exN, ex1, gI, gL, gR, pI, pL, pR, lget, lset1, lset2, kl, b2I, b2L, nob, ob32, ob64, xGet, xPut, xLen, xLd, xLdR, xSt, obA, true_and, and_true, and_self, eq_self, Nat.reduceEqDiff, Nat.zero_ne_one, reduceIte, Nat.reduceLeDiff, and_false, false_and, show skd 11 16 = 2 from rfl, show LF.1 145 = some (.inl 11) from rfl, show LF.2 145 16 = some 161 from rfl, show LF.1 161 = some (.inr (0, 4)) from rfl, upd2_eq, Int.reduceToNat, Int.toNat_natCast]; rfl) (by first | exact trivial | exact Or.inr rfl | exact Or.inl rfl | (simp only [ob, obA, R32, R64] at *; omega) | (simp only [ob, obA, R32, R64] at *; and_intros <;> omega) | (simp [ob, obA])) ?_
            refine V_zret dX12_add_70 rfl (by first | exact Or.inl rfl | exact Or.inr rfl | exact b2i_01 _) (by decide) (by rw [er (Or.inr (Or.inr ⟨by omega, fun q => q41 q.symm⟩))]; exact md_ref hC1 hI (by decide) (fz0 G 0) rfl iu)
          · refine V_ex sX12_add_44 (by simp only [Option.toList, List.cons_append, List.nil_append, exN, ex1, gI, gL, gR, pI, pL, pR, lget, lset1, lset2, kl, b2I, b2L, nob, ob32, ob64, xGet, xPut, xLen, xLd, xLdR, xSt, obA, true_and, and_true, and_self, eq_self, Nat.reduceEqDiff, Nat.zero_ne_one, reduceIte, Nat.reduceLeDiff, and_false, false_and, show skd 11 36 = 0 from rfl, show skd 11 6 = 2 from rfl, show LF.1 145 = some (.inl 11) from rfl, show LF.2 145 6 = some 151 from rfl, show LF.1 151 = some (.inr (0, 12)) from rfl, e36, asn (show 151 ≠ 145 by decide), m3, Int.toNat_natCast, upd2_eq, Int.reduceToNat, Int.toNat_natCast]; rfl) (by first | exact trivial | exact Or.inr rfl | exact Or.inl rfl | (simp only [ob, obA, R32, R64] at *; omega) | (simp only [ob, obA, R32, R64] at *; and_intros <;> omega) | (simp [ob, obA])) ?_
            refine V_icmpne dX12_add_56 (tgt := 71) (by decide) (by simp only [R32, R64] at *; omega) (fun q56 => ?_) (fun q56 => ?_)
            · refine V_ex sX12_add_71 (by simp only [Option.toList, List.cons_append, List.nil_append, exN, ex1, gI, gL, gR, pI, pL, pR, lget, lset1, lset2, kl, b2I, b2L, nob, ob32, ob64, xGet, xPut, xLen, xLd, xLdR, xSt, obA, true_and, and_true, and_self, eq_self, Nat.reduceEqDiff, Nat.zero_ne_one, reduceIte, Nat.reduceLeDiff, and_false, false_and, show skd 11 36 = 0 from rfl, show LF.1 145 = some (.inl 11) from rfl, e36, upd2_eq, Int.reduceToNat, Int.toNat_natCast]; rfl) (by first | exact trivial | exact Or.inr rfl | exact Or.inl rfl | (simp only [ob, obA, R32, R64] at *; omega) | (simp only [ob, obA, R32, R64] at *; and_intros <;> omega) | (simp [ob, obA])) ?_
              refine V_ifne dX12_add_75 (tgt := 93) (by decide) (by simp only [R32, R64] at *; omega) (fun q75 => ?_) (fun q75 => ?_)
              · exact rest (uI G 145 2 0) (by have h4 := (i4 (by omega)).2; rw [← q41] at h4; have h5 : (a : Int) ≤ 2 * (bkJ A.1 j).2.2.1 := h4; omega) (evS.refl _) e36 (e37.trans q41.symm) (v5 (by omega)).2.1 ((v5 (by omega)).2.2.trans (by rw [← q41]; rfl))
              · omega
            · refine V_ex sX12_add_59 (by simp only [Option.toList, List.cons_append, List.nil_append, exN, ex1, gI, gL, gR, pI, pL, pR, lget, lset1, lset2, kl, b2I, b2L, nob, ob32, ob64, xGet, xPut, xLen, xLd, xLdR, xSt, obA, true_and, and_true, and_self, eq_self, Nat.reduceEqDiff, Nat.zero_ne_one, reduceIte, Nat.reduceLeDiff, and_false, false_and, show skd 11 16 = 2 from rfl, show LF.1 145 = some (.inl 11) from rfl, show LF.2 145 16 = some 161 from rfl, show LF.1 161 = some (.inr (0, 4)) from rfl, upd2_eq, Int.reduceToNat, Int.toNat_natCast]; rfl) (by first | exact trivial | exact Or.inr rfl | exact Or.inl rfl | (simp only [ob, obA, R32, R64] at *; omega) | (simp only [ob, obA, R32, R64] at *; and_intros <;> omega) | (simp [ob, obA])) ?_
              refine V_zret dX12_add_70 rfl (by first | exact Or.inl rfl | exact Or.inr rfl | exact b2i_01 _) (by decide) (by rw [er (Or.inr (Or.inl (by omega)))]; exact md_ref hC1 hI (by decide) (fz0 G 0) rfl iu)
    · exact absurd hin (of_decide_eq_false q10)
  · have e : addP A i z = (1, 0, A) := by unfold addP; rw [if_pos hin]
    refine V_ex sX12_add_0 (by simp only [Option.toList, List.cons_append, List.nil_append, exN, ex1, gI, gL, gR, pI, pL, pR, lget, lset1, lset2, kl, b2I, b2L, nob, ob32, ob64, xGet, xPut, xLen, xLd, xLdR, xSt, obA, true_and, and_true, and_self, eq_self, Nat.reduceEqDiff, Nat.zero_ne_one, reduceIte, Nat.reduceLeDiff, and_false, false_and, show skd 11 2 = 0 from rfl, show LF.1 145 = some (.inl 11) from rfl, upd2_eq, Int.reduceToNat, Int.toNat_natCast]; rfl) (by first | exact trivial | exact Or.inr rfl | exact Or.inl rfl | (simp only [ob, obA, R32, R64] at *; omega) | (simp only [ob, obA, R32, R64] at *; and_intros <;> omega) | (simp [ob, obA])) ?_
    refine V_callV (M := MX12_add) (N := MX12_isBook) dX12_add_7 lRX12_386 kX12_isBook rfl (rfl) rfl (c_mIsBook (d := 2) hκ hC1.1 hI.1 hi (by omega)) rfl rfl (Nat.le_of_ble_eq_true rfl) (fit_rm (by omega)) (⟨Nat.le_of_ble_eq_true rfl, Nat.le_of_ble_eq_true rfl⟩) (fun v Ω' hp => ?_) (fun _ _ h => h.elim)
    obtain ⟨rfl, rfl⟩ := hp
    refine V_ifneB dX12_add_10 (tgt := 20) (by decide) (fun q10 => ?_) (fun q10 => ?_)
    · exact absurd (of_decide_eq_true q10) hin
    · refine V_ex sX12_add_13 (by simp only [Option.toList, List.cons_append, List.nil_append, exN, ex1, gI, gL, gR, pI, pL, pR, lget, lset1, lset2, kl, b2I, b2L, nob, ob32, ob64, xGet, xPut, xLen, xLd, xLdR, xSt, obA, true_and, and_true, and_self, eq_self, Nat.reduceEqDiff, Nat.zero_ne_one, reduceIte, Nat.reduceLeDiff, and_false, false_and, show skd 11 2 = 0 from rfl, show LF.1 145 = some (.inl 11) from rfl, upd2_eq, Int.reduceToNat, Int.toNat_natCast]; rfl) (by first | exact trivial | exact Or.inr rfl | exact Or.inl rfl | (simp only [ob, obA, R32, R64] at *; omega) | (simp only [ob, obA, R32, R64] at *; and_intros <;> omega) | (simp [ob, obA])) ?_
      refine V_zret dX12_add_19 rfl (by first | exact Or.inl rfl | exact Or.inr rfl | exact b2i_01 _) (by decide) (by rw [e]; exact md_1 hC rfl rfl)
