/-! THE MODEL's reader: ands, ors, a whole rule -/
def mB (κ : Kx) (M : Ms) (d : Nat) (lv : Int) : Prop := ∀ G : Wd, G.1 145 26 ≠ 0 → R32 (G.1 145 26) → Ct κ M d 0 0 [VR 145, VI lv] (Wm G) (voidG G) noX
set_option maxRecDepth 100000 in
set_option maxHeartbeats 4000000 in
theorem c_mProdZ {κ : Kx} (hκ : KOK κ) {d d' : Nat} {lv : Int} (hsub : mB κ MX12_readPart d' lv) (hd : d' + 1 ≤ d) (hd2 : 3 ≤ d) {G : Wd} (h26b : G.1 145 26 ≠ 0) (hR : R32 (G.1 145 26)) : Ct κ MX12_readProduct d 0 0 [VR 145, VI lv] (Wm G) (voidG G) noX := by
  refine Ct_of hκ kX12_readProduct.1 rfl (Nat.le_of_ble_eq_true rfl) (ls := [some (VR 145), some (VI lv), none]) rfl (fun μ => ?_)
  refine V_ex sX12_readProduct_0 (by rfl) (by first | exact trivial | exact Or.inr rfl | exact Or.inl rfl | (simp only [ob, obA, R32, R64] at *; omega) | (simp only [ob, obA, R32, R64] at *; and_intros <;> omega)) ?_
  refine V_callV (M := MX12_readProduct) (N := MX12_readPart) dX12_readProduct_2 lRX12_274 kX12_readPart rfl (rfl) rfl (hsub G h26b hR) rfl rfl (Nat.le_of_ble_eq_true rfl) (fit_rm (by omega)) (⟨Nat.le_of_ble_eq_true rfl, Nat.le_of_ble_eq_true rfl⟩) (fun v Ω' hp => ?_) (fun _ _ h => h.elim)
  obtain ⟨rfl, rfl⟩ := hp
  refine V_ex sX12_readProduct_5 (by rfl) (by first | exact trivial | exact Or.inr rfl | exact Or.inl rfl | (simp only [ob, obA, R32, R64] at *; omega) | (simp only [ob, obA, R32, R64] at *; and_intros <;> omega)) ?_
  refine V_callV (M := MX12_readProduct) (N := MX12_isMarked) dX12_readProduct_8 lRX12_242 kX12_isMarked rfl (rfl) rfl (c_mIsMarked0b (d := 2) hκ h26b hR) rfl rfl (Nat.le_of_ble_eq_true rfl) (fit_rm (by omega)) (⟨Nat.le_of_ble_eq_true rfl, Nat.le_of_ble_eq_true rfl⟩) (fun v Ω' hp => ?_) (fun _ _ h => h.elim)
  obtain ⟨rfl, rfl⟩ := hp
  refine V_ifneB dX12_readProduct_11 (tgt := 23) (by decide) (fun q11 => ?_) (fun q11 => ?_)
  · exact absurd q11 (by decide)
  · refine V_ex sX12_readProduct_14 (by rfl) (by first | exact trivial | exact Or.inr rfl | exact Or.inl rfl | (simp only [ob, obA, R32, R64] at *; omega) | (simp only [ob, obA, R32, R64] at *; and_intros <;> omega)) ?_
    refine V_callV (M := MX12_readProduct) (N := MX12_isMarked) dX12_readProduct_17 lRX12_242 kX12_isMarked rfl (rfl) rfl (c_mIsMarked0b (d := 2) hκ h26b hR) rfl rfl (Nat.le_of_ble_eq_true rfl) (fit_rm (by omega)) (⟨Nat.le_of_ble_eq_true rfl, Nat.le_of_ble_eq_true rfl⟩) (fun v Ω' hp => ?_) (fun _ _ h => h.elim)
    obtain ⟨rfl, rfl⟩ := hp
    refine V_ifeqB dX12_readProduct_20 (tgt := 57) (by decide) (fun q20 => ?_) (fun q20 => ?_)
    · refine V_vret dX12_readProduct_57 rfl (by decide) ⟨rfl, rfl⟩
    · exact absurd q20 (by decide)
set_option maxRecDepth 100000 in
set_option maxHeartbeats 4000000 in
theorem c_mSumZ {κ : Kx} (hκ : KOK κ) {d d' : Nat} {lv : Int} (hsub : mB κ MX12_readProduct d' lv) (hd : d' + 1 ≤ d) (hd2 : 3 ≤ d) {G : Wd} (h26b : G.1 145 26 ≠ 0) (hR : R32 (G.1 145 26)) : Ct κ MX12_readSum d 0 0 [VR 145, VI lv] (Wm G) (voidG G) noX := by
  refine Ct_of hκ kX12_readSum.1 rfl (Nat.le_of_ble_eq_true rfl) (ls := [some (VR 145), some (VI lv), none]) rfl (fun μ => ?_)
  refine V_ex sX12_readSum_0 (by rfl) (by first | exact trivial | exact Or.inr rfl | exact Or.inl rfl | (simp only [ob, obA, R32, R64] at *; omega) | (simp only [ob, obA, R32, R64] at *; and_intros <;> omega)) ?_
  refine V_callV (M := MX12_readSum) (N := MX12_readProduct) dX12_readSum_2 lRX12_277 kX12_readProduct rfl (rfl) rfl (hsub G h26b hR) rfl rfl (Nat.le_of_ble_eq_true rfl) (fit_rm (by omega)) (⟨Nat.le_of_ble_eq_true rfl, Nat.le_of_ble_eq_true rfl⟩) (fun v Ω' hp => ?_) (fun _ _ h => h.elim)
  obtain ⟨rfl, rfl⟩ := hp
  refine V_ex sX12_readSum_5 (by rfl) (by first | exact trivial | exact Or.inr rfl | exact Or.inl rfl | (simp only [ob, obA, R32, R64] at *; omega) | (simp only [ob, obA, R32, R64] at *; and_intros <;> omega)) ?_
  refine V_callV (M := MX12_readSum) (N := MX12_isMarked) dX12_readSum_8 lRX12_242 kX12_isMarked rfl (rfl) rfl (c_mIsMarked0b (d := 2) hκ h26b hR) rfl rfl (Nat.le_of_ble_eq_true rfl) (fit_rm (by omega)) (⟨Nat.le_of_ble_eq_true rfl, Nat.le_of_ble_eq_true rfl⟩) (fun v Ω' hp => ?_) (fun _ _ h => h.elim)
  obtain ⟨rfl, rfl⟩ := hp
  refine V_ifneB dX12_readSum_11 (tgt := 23) (by decide) (fun q11 => ?_) (fun q11 => ?_)
  · exact absurd q11 (by decide)
  · refine V_ex sX12_readSum_14 (by rfl) (by first | exact trivial | exact Or.inr rfl | exact Or.inl rfl | (simp only [ob, obA, R32, R64] at *; omega) | (simp only [ob, obA, R32, R64] at *; and_intros <;> omega)) ?_
    refine V_callV (M := MX12_readSum) (N := MX12_isMarked) dX12_readSum_17 lRX12_242 kX12_isMarked rfl (rfl) rfl (c_mIsMarked0b (d := 2) hκ h26b hR) rfl rfl (Nat.le_of_ble_eq_true rfl) (fit_rm (by omega)) (⟨Nat.le_of_ble_eq_true rfl, Nat.le_of_ble_eq_true rfl⟩) (fun v Ω' hp => ?_) (fun _ _ h => h.elim)
    obtain ⟨rfl, rfl⟩ := hp
    refine V_ifeqB dX12_readSum_20 (tgt := 57) (by decide) (fun q20 => ?_) (fun q20 => ?_)
    · refine V_vret dX12_readSum_57 rfl (by decide) ⟨rfl, rfl⟩
    · exact absurd q20 (by decide)
set_option maxRecDepth 100000 in
set_option maxHeartbeats 4000000 in
theorem c_mNotZ {κ : Kx} (hκ : KOK κ) (hKS : KS κ) {d d' : Nat} {lv : Int} (hsub : mB κ MX12_readSum d' lv) (hd : d' + 1 ≤ d) (hd2 : 6 ≤ d) {G : Wd} (h26b : G.1 145 26 ≠ 0) (hR : R32 (G.1 145 26)) : Ct κ MX12_readNot d 0 0 [VR 145, VI lv] (Wm G) (voidG G) noX := by
  refine Ct_of hκ kX12_readNot.1 rfl (Nat.le_of_ble_eq_true rfl) (ls := [some (VR 145), some (VI lv), none, none]) rfl (fun μ => ?_)
  refine V_ex sX12_readNot_0 (by rfl) (by first | exact trivial | exact Or.inr rfl | exact Or.inl rfl | (simp only [ob, obA, R32, R64] at *; omega) | (simp only [ob, obA, R32, R64] at *; and_intros <;> omega)) ?_
  refine V_ex sX12_readNot_2 (by rfl) (by first | exact trivial | exact Or.inr rfl | exact Or.inl rfl | (simp only [ob, obA, R32, R64] at *; omega) | (simp only [ob, obA, R32, R64] at *; and_intros <;> omega)) ?_
  refine V_ldcSw (n := 1000030) (ks_R hKS (i := 29) rfl) dX12_readNot_3 ?_
  refine V_callV (M := MX12_readNot) (N := MX12_is) dX12_readNot_6 lRX12_238 kX12_is rfl (rfl) rfl (c_mIs0b (d := 4) hκ h26b hR) rfl rfl (Nat.le_of_ble_eq_true rfl) (fit_rm (by omega)) (⟨Nat.le_of_ble_eq_true rfl, Nat.le_of_ble_eq_true rfl⟩) (fun v Ω' hp => ?_) (fun _ _ h => h.elim)
  obtain ⟨rfl, rfl⟩ := hp
  refine V_ifeqB dX12_readNot_9 (tgt := 40) (by decide) (fun q9 => ?_) (fun q9 => ?_)
  · refine V_ex sX12_readNot_40 (by rfl) (by first | exact trivial | exact Or.inr rfl | exact Or.inl rfl | (simp only [ob, obA, R32, R64] at *; omega) | (simp only [ob, obA, R32, R64] at *; and_intros <;> omega)) ?_
    refine V_callV (M := MX12_readNot) (N := MX12_readSum) dX12_readNot_42 lRX12_282 kX12_readSum rfl (rfl) rfl (hsub G h26b hR) rfl rfl (Nat.le_of_ble_eq_true rfl) (fit_rm (by omega)) (⟨Nat.le_of_ble_eq_true rfl, Nat.le_of_ble_eq_true rfl⟩) (fun v Ω' hp => ?_) (fun _ _ h => h.elim)
    obtain ⟨rfl, rfl⟩ := hp
    refine V_ex sX12_readNot_45 (by rfl) (by first | exact trivial | exact Or.inr rfl | exact Or.inl rfl | (simp only [ob, obA, R32, R64] at *; omega) | (simp only [ob, obA, R32, R64] at *; and_intros <;> omega)) ?_
    refine V_callV (M := MX12_readNot) (N := MX12_isMarked) dX12_readNot_48 lRX12_242 kX12_isMarked rfl (rfl) rfl (c_mIsMarked0b (d := 2) hκ h26b hR) rfl rfl (Nat.le_of_ble_eq_true rfl) (fit_rm (by omega)) (⟨Nat.le_of_ble_eq_true rfl, Nat.le_of_ble_eq_true rfl⟩) (fun v Ω' hp => ?_) (fun _ _ h => h.elim)
    obtain ⟨rfl, rfl⟩ := hp
    refine V_ifneB dX12_readNot_51 (tgt := 63) (by decide) (fun q51 => ?_) (fun q51 => ?_)
    · exact absurd q51 (by decide)
    · refine V_ex sX12_readNot_54 (by rfl) (by first | exact trivial | exact Or.inr rfl | exact Or.inl rfl | (simp only [ob, obA, R32, R64] at *; omega) | (simp only [ob, obA, R32, R64] at *; and_intros <;> omega)) ?_
      refine V_callV (M := MX12_readNot) (N := MX12_isMarked) dX12_readNot_57 lRX12_242 kX12_isMarked rfl (rfl) rfl (c_mIsMarked0b (d := 2) hκ h26b hR) rfl rfl (Nat.le_of_ble_eq_true rfl) (fit_rm (by omega)) (⟨Nat.le_of_ble_eq_true rfl, Nat.le_of_ble_eq_true rfl⟩) (fun v Ω' hp => ?_) (fun _ _ h => h.elim)
      obtain ⟨rfl, rfl⟩ := hp
      refine V_ifeqB dX12_readNot_60 (tgt := 94) (by decide) (fun q60 => ?_) (fun q60 => ?_)
      · refine V_ex sX12_readNot_94 (by rfl) (by first | exact trivial | exact Or.inr rfl | exact Or.inl rfl | (simp only [ob, obA, R32, R64] at *; omega) | (simp only [ob, obA, R32, R64] at *; and_intros <;> omega)) ?_
        refine V_ex sX12_readNot_96 (by rfl) (by first | exact trivial | exact Or.inr rfl | exact Or.inl rfl | (simp only [ob, obA, R32, R64] at *; omega) | (simp only [ob, obA, R32, R64] at *; and_intros <;> omega)) ?_
        refine V_icmpge dX12_readNot_98 (tgt := 113) (by decide) (by simp only [R32, R64] at *; omega) (fun q98 => ?_) (fun q98 => ?_)
        · refine V_vret dX12_readNot_113 rfl (by decide) ⟨rfl, rfl⟩
        · exact absurd q98 (by decide)
      · exact absurd q60 (by decide)
  · exact absurd q9 (by decide)
set_option maxRecDepth 100000 in
set_option maxHeartbeats 4000000 in
theorem c_mAndZ {κ : Kx} (hκ : KOK κ) {d d' : Nat} {lv : Int} (hKS : KS κ) (hsub : mB κ MX12_readNot d' lv) (hd : d' + 1 ≤ d) (hd2 : 6 ≤ d) {G : Wd} (h26b : G.1 145 26 ≠ 0) (hR : R32 (G.1 145 26)) : Ct κ MX12_readAnd d 0 0 [VR 145, VI lv] (Wm G) (voidG G) noX := by
  refine Ct_of hκ kX12_readAnd.1 rfl (Nat.le_of_ble_eq_true rfl) (ls := [some (VR 145), some (VI lv)]) rfl (fun μ => ?_)
  refine V_ex sX12_readAnd_0 (by rfl) (by first | exact trivial | exact Or.inr rfl | exact Or.inl rfl | (simp only [ob, obA, R32, R64] at *; omega) | (simp only [ob, obA, R32, R64] at *; and_intros <;> omega)) ?_
  refine V_callV (M := MX12_readAnd) (N := MX12_readNot) dX12_readAnd_2 lRX12_285 kX12_readNot rfl (rfl) rfl (hsub G h26b hR) rfl rfl (Nat.le_of_ble_eq_true rfl) (fit_rm (by omega)) (⟨Nat.le_of_ble_eq_true rfl, Nat.le_of_ble_eq_true rfl⟩) (fun v Ω' hp => ?_) (fun _ _ h => h.elim)
  obtain ⟨rfl, rfl⟩ := hp
  refine V_ex sX12_readAnd_5 (by rfl) (by first | exact trivial | exact Or.inr rfl | exact Or.inl rfl | (simp only [ob, obA, R32, R64] at *; omega) | (simp only [ob, obA, R32, R64] at *; and_intros <;> omega)) ?_
  refine V_ldcSw (n := 1000031) (ks_R hKS (i := 30) rfl) dX12_readAnd_6 ?_
  refine V_callV (M := MX12_readAnd) (N := MX12_is) dX12_readAnd_9 lRX12_238 kX12_is rfl (rfl) rfl (c_mIs0b (d := 4) hκ h26b hR) rfl rfl (Nat.le_of_ble_eq_true rfl) (fit_rm (by omega)) (⟨Nat.le_of_ble_eq_true rfl, Nat.le_of_ble_eq_true rfl⟩) (fun v Ω' hp => ?_) (fun _ _ h => h.elim)
  obtain ⟨rfl, rfl⟩ := hp
  refine V_ifeqB dX12_readAnd_12 (tgt := 33) (by decide) (fun q12 => ?_) (fun q12 => ?_)
  · refine V_vret dX12_readAnd_33 rfl (by decide) ⟨rfl, rfl⟩
  · exact absurd q12 (by decide)
set_option maxRecDepth 100000 in
set_option maxHeartbeats 4000000 in
theorem c_mExpr0 {κ : Kx} (hκ : KOK κ) {d : Nat} {lv : Int} {G : Wd} (h26b : G.1 145 26 ≠ 0) (hR : R32 (G.1 145 26)) : Ct κ MX12_readExpression d 0 0 [VR 145, VI lv] (Wm G) (voidG G) noX := by
  refine Ct_of hκ kX12_readExpression.1 rfl (Nat.le_of_ble_eq_true rfl) (ls := [some (VR 145), some (VI lv), none]) rfl (fun μ => ?_)
  refine V_ex sX12_readExpression_0 (by simp only [Option.toList, List.cons_append, List.nil_append, exN, ex1, gI, gL, gR, pI, pL, pR, lget, lset1, lset2, kl, b2I, b2L, nob, ob32, ob64, xGet, xPut, xLen, xLd, xLdR, xSt, obA, true_and, and_true, and_self, eq_self, Nat.reduceEqDiff, Nat.zero_ne_one, reduceIte, Nat.reduceLeDiff, and_false, false_and, show skd 11 26 = 0 from rfl, show LF.1 145 = some (.inl 11) from rfl, upd2_eq, Int.reduceToNat, Int.toNat_natCast]; rfl) (by first | exact trivial | exact Or.inr rfl | exact Or.inl rfl | (simp only [ob, obA, R32, R64] at *; omega) | (simp only [ob, obA, R32, R64] at *; and_intros <;> omega)) ?_
  refine V_ifeq dX12_readExpression_4 (tgt := 8) (by decide) (by exact hR) (fun q4 => ?_) (fun q4 => ?_)
  · exact absurd q4 h26b
  · refine V_vret dX12_readExpression_7 rfl (by decide) ⟨rfl, rfl⟩
set_option maxRecDepth 100000 in
set_option maxHeartbeats 4000000 in
theorem c_mAnd {κ : Kx} (hκ : KOK κ) (hKS : KS κ) {d d' n H : Nat} {lv : Int} {f : Nat → Int} {p : PE → PE} (hT : pTok (tkW (tk f n 0)) (tkV (tk f n 0)) ((tk f n 0).length - 1)) (hsub : mEC κ MX12_readNot d' lv f n p) (hPG : PG ((tk f n 0).length - 1) H p) (hd : d' + 1 ≤ d) (hd2 : 6 ≤ d) {G : Wd} {i : Nat} {c : List Int} (h : mH f n G i c) : Ct κ MX12_readAnd d 0 0 [VR 145, VI lv] (Wm G) (mQ f n (pLoop opA (tkW (tk f n 0)) p 501 (p (i, 0, c))) G) noX := by
  refine Ct_of hκ kX12_readAnd.1 rfl (Nat.le_of_ble_eq_true rfl) (ls := [some (VR 145), some (VI lv)]) rfl (fun μ => ?_)
  have h0 := h
  obtain ⟨hI, hc, hci⟩ := h
  obtain ⟨l1, l2, l3, l4, l5, l6⟩ := mI_lt hI
  have hwd := ks_M hKS (j := 12) (by omega)
  have L : ∀ (k : Nat) (r : PE) (G1 : Wd), FX G G1 → mR f n G1 r → pRes ((tk f n 0).length - 1) (H + 1) i c r → (tk f n 0).length ≤ r.1 + k → pLoop opA (tkW (tk f n 0)) p k r = pLoop opA (tkW (tk f n 0)) p 501 (p (i, 0, c)) → V κ MX12_readAnd (rmD d 0 0) (mQ f n (pLoop opA (tkW (tk f n 0)) p 501 (p (i, 0, c))) G) noX 0 0 μ 0 0 (Wm G1) 5 [some (VR 145), some (VI lv)] [] := by
    intro k
    induction k with
    | zero => intro r G1 f1 m1 g1 hk he; exact absurd g1.2.1 (by have := (tk_len f n n 0 (by omega)).1; omega)
    | succ k ih =>
      intro r G1 f1 m1 g1 hk he
      have g10 := g1
      obtain ⟨p1, p2, p3, p4, p5⟩ := g1
      by_cases hb : r.2.1 = 0
      · obtain ⟨i1, c1⟩ := m1.1 hb
        obtain ⟨p6, cs, e1, e2, e3, e4⟩ := p5 hb
        obtain ⟨j1, j2, j3, j4, j5, j6⟩ := mI_lt i1
        have hlen : r.2.2.length ≤ r.1 := by rw [e1]; simp; omega
        have his := c_iIs hκ hKS (d := 4) i1 hwd (by decide) (by omega)
        by_cases hz : tkW (tk f n 0) r.1 = 272
        · have hw : tkW (tk f n 0) r.1 ≠ -1 := by omega
          have ho : opA (tkW (tk f n 0) r.1) = some (-6) := by rw [opA, if_pos hz]
          have hoo := opA_o _ _ ho
          have hsm : sm (-6) = -26 := by decide
          have hnl := mI_nl i1 hw
          have hq := hPG (r.1 + 1) r.2.2 (Nat.le_sub_one_of_lt hnl)
          rw [pLoop_go k hb ho] at he
          have hg := pLoop_res (w := tkW (tk f n 0)) (v := tkV (tk f n 0)) (op := opA) hT opA_o (by decide) hPG 1 r g10
          rw [pLoop_go 0 hb ho, pLoop] at hg
          have hrr : ∀ G2 : Wd, mH f n G2 (r.1 + 1) r.2.2 → Ct κ MX12_readNot d' 0 0 [VR 145, VI lv] (Wm G2) (mQ f n (p (r.1 + 1, 0, r.2.2)) G2) noX := fun G2 h => hsub.1 G2 _ _ h
          generalize p (r.1 + 1, 0, r.2.2) = s at *
          obtain ⟨s1, s2, s3, s4, s5⟩ := hq
          by_cases hs : s.2.1 = 0
          · rw [if_pos hs] at he hg
            obtain ⟨s6, ds, d1, d2, d3, d4⟩ := s5 hs
            have hlen2 : s.2.2.length ≤ s.1 - 1 := by rw [d1]; simp; omega
            refine V_ex sX12_readAnd_5 (by rfl) (by first | exact trivial | exact Or.inr rfl | exact Or.inl rfl | (simp only [ob, obA, R32, R64] at *; omega) | (simp only [ob, obA, R32, R64] at *; and_intros <;> omega)) ?_
            refine V_ldcSw (n := 1000031) (ks_R hKS (i := 30) rfl) dX12_readAnd_6 ?_
            refine V_callV (M := MX12_readAnd) (N := MX12_is) dX12_readAnd_9 lRX12_238 kX12_is rfl (rfl) rfl (his) rfl rfl (Nat.le_of_ble_eq_true rfl) (fit_rm (by omega)) (⟨Nat.le_of_ble_eq_true rfl, Nat.le_of_ble_eq_true rfl⟩) (fun v Ω' hp => ?_) (fun _ _ h => h.elim)
            obtain ⟨rfl, rfl⟩ := hp
            refine V_ifeqB dX12_readAnd_12 (tgt := 33) (by decide) (fun q12 => ?_) (fun q12 => ?_)
            · exact absurd hz (of_decide_eq_false q12)
            · refine V_ex sX12_readAnd_15 (by rfl) (by first | exact trivial | exact Or.inr rfl | exact Or.inl rfl | (simp only [ob, obA, R32, R64] at *; omega) | (simp only [ob, obA, R32, R64] at *; and_intros <;> omega)) ?_
              refine V_callV (M := MX12_readAnd) (N := MX12_stepOn) dX12_readAnd_16 lRX12_249 kX12_stepOn rfl (rfl) rfl (c_iNext (d := 2) hκ i1 hw (by omega)) rfl rfl (Nat.le_of_ble_eq_true rfl) (fit_rm (by omega)) (⟨Nat.le_of_ble_eq_true rfl, Nat.le_of_ble_eq_true rfl⟩) (fun v Ω' hp => ?_) (fun _ _ h => h.elim)
              obtain ⟨rfl, G2, rfl, f2, i2⟩ := hp
              refine V_ex sX12_readAnd_19 (by rfl) (by first | exact trivial | exact Or.inr rfl | exact Or.inl rfl | (simp only [ob, obA, R32, R64] at *; omega) | (simp only [ob, obA, R32, R64] at *; and_intros <;> omega)) ?_
              refine V_callV (M := MX12_readAnd) (N := MX12_readNot) dX12_readAnd_21 lRX12_285 kX12_readNot rfl (rfl) rfl (hrr G2 ⟨i2, cd_m f2 c1, by omega⟩) rfl rfl (Nat.le_of_ble_eq_true rfl) (fit_rm (by omega)) (⟨Nat.le_of_ble_eq_true rfl, Nat.le_of_ble_eq_true rfl⟩) (fun v Ω' hp => ?_) (fun _ _ h => h.elim)
              obtain ⟨rfl, G3, rfl, f3, m3⟩ := hp
              obtain ⟨i3, c3⟩ := m3.1 hs
              have hn3 := mI_lt i3
              refine V_ex sX12_readAnd_24 (by rfl) (by first | exact trivial | exact Or.inr rfl | exact Or.inl rfl | (simp only [ob, obA, R32, R64] at *; omega) | (simp only [ob, obA, R32, R64] at *; and_intros <;> omega)) ?_
              refine V_callV (M := MX12_readAnd) (N := MX12_lay) dX12_readAnd_27 lRX12_261 kX12_lay rfl (rfl) rfl (c_iLay (d := 0) hκ i3 c3 (by omega)) rfl rfl (Nat.le_of_ble_eq_true rfl) (fit_rm (by omega)) (⟨Nat.le_of_ble_eq_true rfl, Nat.le_of_ble_eq_true rfl⟩) (fun v Ω' hp => ?_) (fun _ _ h => h.elim)
              obtain ⟨rfl, rfl⟩ := hp
              refine V_goto dX12_readAnd_30 (tgt := 5) (by decide) ?_
              exact ih (s.1, 0, s.2.2 ++ [-6]) _ (((f1.trans (FX.m f2)).trans f3).trans (FX.ly G3 _ _)) ⟨fun _ => ⟨ly_I i3, by rw [← hsm]; exact ly_cd (z := -6) c3⟩, fun q => absurd rfl q⟩ hg (by show _ ≤ s.1 + k; omega) he
          · rw [if_neg hs] at he hg
            refine V_ex sX12_readAnd_5 (by rfl) (by first | exact trivial | exact Or.inr rfl | exact Or.inl rfl | (simp only [ob, obA, R32, R64] at *; omega) | (simp only [ob, obA, R32, R64] at *; and_intros <;> omega)) ?_
            refine V_ldcSw (n := 1000031) (ks_R hKS (i := 30) rfl) dX12_readAnd_6 ?_
            refine V_callV (M := MX12_readAnd) (N := MX12_is) dX12_readAnd_9 lRX12_238 kX12_is rfl (rfl) rfl (his) rfl rfl (Nat.le_of_ble_eq_true rfl) (fit_rm (by omega)) (⟨Nat.le_of_ble_eq_true rfl, Nat.le_of_ble_eq_true rfl⟩) (fun v Ω' hp => ?_) (fun _ _ h => h.elim)
            obtain ⟨rfl, rfl⟩ := hp
            refine V_ifeqB dX12_readAnd_12 (tgt := 33) (by decide) (fun q12 => ?_) (fun q12 => ?_)
            · exact absurd hz (of_decide_eq_false q12)
            · refine V_ex sX12_readAnd_15 (by rfl) (by first | exact trivial | exact Or.inr rfl | exact Or.inl rfl | (simp only [ob, obA, R32, R64] at *; omega) | (simp only [ob, obA, R32, R64] at *; and_intros <;> omega)) ?_
              refine V_callV (M := MX12_readAnd) (N := MX12_stepOn) dX12_readAnd_16 lRX12_249 kX12_stepOn rfl (rfl) rfl (c_iNext (d := 2) hκ i1 hw (by omega)) rfl rfl (Nat.le_of_ble_eq_true rfl) (fit_rm (by omega)) (⟨Nat.le_of_ble_eq_true rfl, Nat.le_of_ble_eq_true rfl⟩) (fun v Ω' hp => ?_) (fun _ _ h => h.elim)
              obtain ⟨rfl, G2, rfl, f2, i2⟩ := hp
              refine V_ex sX12_readAnd_19 (by rfl) (by first | exact trivial | exact Or.inr rfl | exact Or.inl rfl | (simp only [ob, obA, R32, R64] at *; omega) | (simp only [ob, obA, R32, R64] at *; and_intros <;> omega)) ?_
              refine V_callV (M := MX12_readAnd) (N := MX12_readNot) dX12_readAnd_21 lRX12_285 kX12_readNot rfl (rfl) rfl (hrr G2 ⟨i2, cd_m f2 c1, by omega⟩) rfl rfl (Nat.le_of_ble_eq_true rfl) (fit_rm (by omega)) (⟨Nat.le_of_ble_eq_true rfl, Nat.le_of_ble_eq_true rfl⟩) (fun v Ω' hp => ?_) (fun _ _ h => h.elim)
              obtain ⟨rfl, G3, rfl, f3, m3⟩ := hp
              have hm3 := m3.2 hs
              have h26b : G3.1 145 26 ≠ 0 := by rw [hm3.1]; exact hs
              refine V_ex sX12_readAnd_24 (by rfl) (by first | exact trivial | exact Or.inr rfl | exact Or.inl rfl | (simp only [ob, obA, R32, R64] at *; omega) | (simp only [ob, obA, R32, R64] at *; and_intros <;> omega)) ?_
              refine V_callV (M := MX12_readAnd) (N := MX12_lay) dX12_readAnd_27 lRX12_261 kX12_lay rfl (rfl) rfl (c_mLay0 (d := 0) hκ h26b (by rw [hm3.1]; unfold R32; omega)) rfl rfl (Nat.le_of_ble_eq_true rfl) (fit_rm (by omega)) (⟨Nat.le_of_ble_eq_true rfl, Nat.le_of_ble_eq_true rfl⟩) (fun v Ω' hp => ?_) (fun _ _ h => h.elim)
              obtain ⟨rfl, rfl⟩ := hp
              refine V_goto dX12_readAnd_30 (tgt := 5) (by decide) ?_
              exact ih s G3 ((f1.trans (FX.m f2)).trans f3) m3 hg (by omega) he
        · have hn : opA (tkW (tk f n 0) r.1) = none := by rw [opA, if_neg hz]
          rw [pLoop_no _ hn] at he
          refine V_ex sX12_readAnd_5 (by rfl) (by first | exact trivial | exact Or.inr rfl | exact Or.inl rfl | (simp only [ob, obA, R32, R64] at *; omega) | (simp only [ob, obA, R32, R64] at *; and_intros <;> omega)) ?_
          refine V_ldcSw (n := 1000031) (ks_R hKS (i := 30) rfl) dX12_readAnd_6 ?_
          refine V_callV (M := MX12_readAnd) (N := MX12_is) dX12_readAnd_9 lRX12_238 kX12_is rfl (rfl) rfl (his) rfl rfl (Nat.le_of_ble_eq_true rfl) (fit_rm (by omega)) (⟨Nat.le_of_ble_eq_true rfl, Nat.le_of_ble_eq_true rfl⟩) (fun v Ω' hp => ?_) (fun _ _ h => h.elim)
          obtain ⟨rfl, rfl⟩ := hp
          refine V_ifeqB dX12_readAnd_12 (tgt := 33) (by decide) (fun q12 => ?_) (fun q12 => ?_)
          · refine V_vret dX12_readAnd_33 rfl (by decide) (by rw [← he]; exact ⟨rfl, G1, rfl, f1, m1⟩)
          · exact absurd (of_decide_eq_true q12) hz
      · have hm1 := m1.2 hb
        have h26b : G1.1 145 26 ≠ 0 := by rw [hm1.1]; exact hb
        have hR : R32 (G1.1 145 26) := by rw [hm1.1]; unfold R32; omega
        rw [pLoop_bad _ hb] at he
        refine V_ex sX12_readAnd_5 (by rfl) (by first | exact trivial | exact Or.inr rfl | exact Or.inl rfl | (simp only [ob, obA, R32, R64] at *; omega) | (simp only [ob, obA, R32, R64] at *; and_intros <;> omega)) ?_
        refine V_ldcSw (n := 1000031) (ks_R hKS (i := 30) rfl) dX12_readAnd_6 ?_
        refine V_callV (M := MX12_readAnd) (N := MX12_is) dX12_readAnd_9 lRX12_238 kX12_is rfl (rfl) rfl (c_mIs0b (d := 4) hκ h26b hR) rfl rfl (Nat.le_of_ble_eq_true rfl) (fit_rm (by omega)) (⟨Nat.le_of_ble_eq_true rfl, Nat.le_of_ble_eq_true rfl⟩) (fun v Ω' hp => ?_) (fun _ _ h => h.elim)
        obtain ⟨rfl, rfl⟩ := hp
        refine V_ifeqB dX12_readAnd_12 (tgt := 33) (by decide) (fun q12 => ?_) (fun q12 => ?_)
        · refine V_vret dX12_readAnd_33 rfl (by decide) (by rw [← he]; exact ⟨rfl, G1, rfl, f1, m1⟩)
        · exact absurd q12 (by decide)
  have hq := hPG i c (by omega)
  refine V_ex sX12_readAnd_0 (by rfl) (by first | exact trivial | exact Or.inr rfl | exact Or.inl rfl | (simp only [ob, obA, R32, R64] at *; omega) | (simp only [ob, obA, R32, R64] at *; and_intros <;> omega)) ?_
  refine V_callV (M := MX12_readAnd) (N := MX12_readNot) dX12_readAnd_2 lRX12_285 kX12_readNot rfl (rfl) rfl (hsub.1 G i c h0) rfl rfl (Nat.le_of_ble_eq_true rfl) (fit_rm (by omega)) (⟨Nat.le_of_ble_eq_true rfl, Nat.le_of_ble_eq_true rfl⟩) (fun v Ω' hp => ?_) (fun _ _ h => h.elim)
  obtain ⟨rfl, G1, rfl, f1, m1⟩ := hp
  exact L 501 (p (i, 0, c)) G1 f1 m1 (pRes_mono hq (by omega)) (by omega) rfl
/-- what can begin an expression -/
def mayE (w : Int) : Prop := w = -2 ∨ 256 ≤ w ∨ w = 40
theorem pAnd_no {w v : Nat → Int} {rec : PE → PE} {i : Nat} {c : List Int} (h : ¬ mayE (w i)) : pAnd w v rec (i, 0, c) = (i, 1, c) := by
  unfold mayE at h
  have e0 : pPart w v rec (i, 0, c) = (i, 1, c) := by
    unfold pPart; dsimp only
    rw [if_neg (by omega), if_neg (by omega), if_pos (by omega)]
  have e1 : pProd w v rec (i, 0, c) = (i, 1, c) := by
    unfold pProd; rw [e0, pLoop_bad _ (show (1 : Int) ≠ 0 by decide)]
  have e2 : pSum w v rec (i, 0, c) = (i, 1, c) := by
    unfold pSum; rw [e1, pLoop_bad _ (show (1 : Int) ≠ 0 by decide)]
  have e3 : pTst w v rec (i, 0, c) = (i, 1, c) := by
    unfold pTst; rw [e2, if_pos (show (1 : Int) ≠ 0 by decide)]
  have e4 : pNots w 6 i = 0 := by
    show (if w i = 271 then 1 + pNots w 5 (i + 1) else 0) = 0
    rw [if_neg (by omega)]
  have e5 : pNot w v rec (i, 0, c) = (i, 1, c) := by
    unfold pNot; dsimp only
    rw [e4, if_neg (by omega), Nat.add_zero, e3, if_neg (show ¬ (1 : Int) = 0 by decide)]
  unfold pAnd; rw [e5, pLoop_bad _ (show (1 : Int) ≠ 0 by decide)]
set_option maxRecDepth 100000 in
set_option maxHeartbeats 4000000 in
theorem c_mExprN {κ : Kx} (hκ : KOK κ) (hKS : KS κ) {d d' n : Nat} {lv : Int} {f : Nat → Int} (hsub : mB κ MX12_readAnd d' lv) (hd : d' + 1 ≤ d) (hd2 : 6 ≤ d) (hlv : 0 ≤ lv ∧ lv ≤ 6) {G : Wd} {i : Nat} {c : List Int} (h : mH f n G i c) (hm : ¬ mayE (tkW (tk f n 0) i)) : Ct κ MX12_readExpression d 0 0 [VR 145, VI lv] (Wm G) (mQ f n (i, 1, c) G) noX := by
  refine Ct_of hκ kX12_readExpression.1 rfl (Nat.le_of_ble_eq_true rfl) (ls := [some (VR 145), some (VI lv), none]) rfl (fun μ => ?_)
  obtain ⟨hI, hc, hci⟩ := h
  obtain ⟨h26, h21⟩ := mI_26 hI
  have hkd := kd_R (tkW (tk f n 0) i)
  unfold mayE at hm
  have hb : (ctW f n i 1 G).1 145 26 ≠ 0 := by rw [ct_26]; decide
  have hR : R32 ((ctW f n i 1 G).1 145 26) := by rw [ct_26]; unfold R32; decide
  refine V_ex sX12_readExpression_0 (by simp only [Option.toList, List.cons_append, List.nil_append, exN, ex1, gI, gL, gR, pI, pL, pR, lget, lset1, lset2, kl, b2I, b2L, nob, ob32, ob64, xGet, xPut, xLen, xLd, xLdR, xSt, obA, true_and, and_true, and_self, eq_self, Nat.reduceEqDiff, Nat.zero_ne_one, reduceIte, Nat.reduceLeDiff, and_false, false_and, show skd 11 26 = 0 from rfl, show LF.1 145 = some (.inl 11) from rfl, upd2_eq, Int.reduceToNat, Int.toNat_natCast]; rfl) (by first | exact trivial | exact Or.inr rfl | exact Or.inl rfl | (simp only [ob, obA, R32, R64] at *; omega) | (simp only [ob, obA, R32, R64] at *; and_intros <;> omega)) ?_
  refine V_ifeq dX12_readExpression_4 (tgt := 8) (by decide) (by rw [h26]; unfold R32; decide) (fun q4 => ?_) (fun q4 => ?_)
  · refine V_ex sX12_readExpression_8 (by simp only [Option.toList, List.cons_append, List.nil_append, exN, ex1, gI, gL, gR, pI, pL, pR, lget, lset1, lset2, kl, b2I, b2L, nob, ob32, ob64, xGet, xPut, xLen, xLd, xLdR, xSt, obA, true_and, and_true, and_self, eq_self, Nat.reduceEqDiff, Nat.zero_ne_one, reduceIte, Nat.reduceLeDiff, and_false, false_and, show skd 11 21 = 0 from rfl, show LF.1 145 = some (.inl 11) from rfl, upd2_eq, Int.reduceToNat, Int.toNat_natCast]; rfl) (by first | exact trivial | exact Or.inr rfl | exact Or.inl rfl | (simp only [ob, obA, R32, R64] at *; omega) | (simp only [ob, obA, R32, R64] at *; and_intros <;> omega)) ?_
    refine V_icmpeq dX12_readExpression_13 (tgt := 33) (by decide) (by rw [h21]; unfold R32; omega) (fun q13 => ?_) (fun q13 => ?_)
    · rw [h21, kd_2] at q13; omega
    · refine V_ex sX12_readExpression_16 (by simp only [Option.toList, List.cons_append, List.nil_append, exN, ex1, gI, gL, gR, pI, pL, pR, lget, lset1, lset2, kl, b2I, b2L, nob, ob32, ob64, xGet, xPut, xLen, xLd, xLdR, xSt, obA, true_and, and_true, and_self, eq_self, Nat.reduceEqDiff, Nat.zero_ne_one, reduceIte, Nat.reduceLeDiff, and_false, false_and, show skd 11 21 = 0 from rfl, show LF.1 145 = some (.inl 11) from rfl, upd2_eq, Int.reduceToNat, Int.toNat_natCast]; rfl) (by first | exact trivial | exact Or.inr rfl | exact Or.inl rfl | (simp only [ob, obA, R32, R64] at *; omega) | (simp only [ob, obA, R32, R64] at *; and_intros <;> omega)) ?_
      refine V_icmpeq dX12_readExpression_21 (tgt := 33) (by decide) (by rw [h21]; unfold R32; omega) (fun q21 => ?_) (fun q21 => ?_)
      · rw [h21, kd_1] at q21; omega
      · refine V_ex sX12_readExpression_24 (by rfl) (by first | exact trivial | exact Or.inr rfl | exact Or.inl rfl | (simp only [ob, obA, R32, R64] at *; omega) | (simp only [ob, obA, R32, R64] at *; and_intros <;> omega)) ?_
        refine V_callV (M := MX12_readExpression) (N := MX12_isMarked) dX12_readExpression_27 lRX12_242 kX12_isMarked rfl (rfl) rfl (c_iMarked (d := 0) hκ hI (by decide) (by omega)) rfl rfl (Nat.le_of_ble_eq_true rfl) (fit_rm (by omega)) (⟨Nat.le_of_ble_eq_true rfl, Nat.le_of_ble_eq_true rfl⟩) (fun v Ω' hp => ?_) (fun _ _ h => h.elim)
        obtain ⟨rfl, rfl⟩ := hp
        refine V_ifeqB dX12_readExpression_30 (tgt := 37) (by decide) (fun q30 => ?_) (fun q30 => ?_)
        · refine V_ex sX12_readExpression_37 (by rfl) (by first | exact trivial | exact Or.inr rfl | exact Or.inl rfl | (simp only [ob, obA, R32, R64] at *; omega) | (simp only [ob, obA, R32, R64] at *; and_intros <;> omega)) ?_
          refine V_ex sX12_readExpression_38 (by rfl) (by first | exact trivial | exact Or.inr rfl | exact Or.inl rfl | (simp only [ob, obA, R32, R64] at *; omega) | (simp only [ob, obA, R32, R64] at *; and_intros <;> omega)) ?_
          refine V_ifne dX12_readExpression_40 (tgt := 51) (by decide) (by simp only [R32, R64] at *; omega) (fun q40 => ?_) (fun q40 => ?_)
          · exact absurd rfl q40
          · refine V_ex sX12_readExpression_43 (by rfl) (by first | exact trivial | exact Or.inr rfl | exact Or.inl rfl | (simp only [ob, obA, R32, R64] at *; omega) | (simp only [ob, obA, R32, R64] at *; and_intros <;> omega)) ?_
            refine V_callV (M := MX12_readExpression) (N := MX12_cant) dX12_readExpression_45 lRX12_245 kX12_cant rfl (rfl) rfl (c_iCant (d := 0) hκ hI) rfl rfl (Nat.le_of_ble_eq_true rfl) (fit_rm (by omega)) (⟨Nat.le_of_ble_eq_true rfl, Nat.le_of_ble_eq_true rfl⟩) (fun v Ω' hp => ?_) (fun _ _ h => h.elim)
            obtain ⟨rfl, rfl⟩ := hp
            refine V_goto dX12_readExpression_48 (tgt := 62) (by decide) ?_
            refine V_ex sX12_readExpression_62 (by rfl) (by first | exact trivial | exact Or.inr rfl | exact Or.inl rfl | (simp only [ob, obA, R32, R64] at *; omega) | (simp only [ob, obA, R32, R64] at *; and_intros <;> omega)) ?_
            refine V_callV (M := MX12_readExpression) (N := MX12_readAnd) dX12_readExpression_64 lRX12_290 kX12_readAnd rfl (rfl) rfl (hsub _ hb hR) rfl rfl (Nat.le_of_ble_eq_true rfl) (fit_rm (by omega)) (⟨Nat.le_of_ble_eq_true rfl, Nat.le_of_ble_eq_true rfl⟩) (fun v Ω' hp => ?_) (fun _ _ h => h.elim)
            obtain ⟨rfl, rfl⟩ := hp
            refine V_ex sX12_readExpression_67 (by rfl) (by first | exact trivial | exact Or.inr rfl | exact Or.inl rfl | (simp only [ob, obA, R32, R64] at *; omega) | (simp only [ob, obA, R32, R64] at *; and_intros <;> omega)) ?_
            refine V_ldcSw (n := 1000032) (ks_R hKS (i := 31) rfl) dX12_readExpression_68 ?_
            refine V_callV (M := MX12_readExpression) (N := MX12_is) dX12_readExpression_71 lRX12_238 kX12_is rfl (rfl) rfl (c_mIs0b (d := 4) hκ hb hR) rfl rfl (Nat.le_of_ble_eq_true rfl) (fit_rm (by omega)) (⟨Nat.le_of_ble_eq_true rfl, Nat.le_of_ble_eq_true rfl⟩) (fun v Ω' hp => ?_) (fun _ _ h => h.elim)
            obtain ⟨rfl, rfl⟩ := hp
            refine V_ifeqB dX12_readExpression_74 (tgt := 95) (by decide) (fun q74 => ?_) (fun q74 => ?_)
            · refine V_vret dX12_readExpression_95 rfl (by decide) (mQ_ct G (by decide) rfl)
            · exact absurd q74 (by decide)
        · have := of_decide_eq_true q30
          omega
  · exact absurd h26 q4
set_option maxRecDepth 100000 in
set_option maxHeartbeats 4000000 in
theorem c_mExprD {κ : Kx} (hκ : KOK κ) (hKS : KS κ) {d d' n : Nat} {f : Nat → Int} (hsub : mB κ MX12_readAnd d' 6) (hd : d' + 1 ≤ d) (hd2 : 6 ≤ d) {G : Wd} {i : Nat} {c : List Int} (h : mH f n G i c) (hm : mayE (tkW (tk f n 0) i)) : Ct κ MX12_readExpression d 0 0 [VR 145, VI 6] (Wm G) (mQ f n (i, 2, c) G) noX := by
  refine Ct_of hκ kX12_readExpression.1 rfl (Nat.le_of_ble_eq_true rfl) (ls := [some (VR 145), some (VI 6), none]) rfl (fun μ => ?_)
  obtain ⟨hI, hc, hci⟩ := h
  obtain ⟨h26, h21⟩ := mI_26 hI
  have hkd := kd_R (tkW (tk f n 0) i)
  unfold mayE at hm
  have hb : (ctW f n i 2 G).1 145 26 ≠ 0 := by rw [ct_26]; decide
  have hR : R32 ((ctW f n i 2 G).1 145 26) := by rw [ct_26]; unfold R32; decide
  have fin : V κ MX12_readExpression (rmD d 0 0) (mQ f n (i, 2, c) G) noX 0 0 μ 0 0 (Wm G) 38 [some (VR 145), some (VI 6), none] [VI 1] := by
    refine V_ex sX12_readExpression_38 (by rfl) (by first | exact trivial | exact Or.inr rfl | exact Or.inl rfl | (simp only [ob, obA, R32, R64] at *; omega) | (simp only [ob, obA, R32, R64] at *; and_intros <;> omega)) ?_
    refine V_ifne dX12_readExpression_40 (tgt := 51) (by decide) (by simp only [R32, R64] at *; omega) (fun q40 => ?_) (fun q40 => ?_)
    · refine V_ex sX12_readExpression_51 (by rfl) (by first | exact trivial | exact Or.inr rfl | exact Or.inl rfl | (simp only [ob, obA, R32, R64] at *; omega) | (simp only [ob, obA, R32, R64] at *; and_intros <;> omega)) ?_
      refine V_icmpne dX12_readExpression_54 (tgt := 62) (by decide) (by simp only [R32, R64] at *; omega) (fun q54 => ?_) (fun q54 => ?_)
      · exact absurd rfl q54
      · refine V_ex sX12_readExpression_57 (by rfl) (by first | exact trivial | exact Or.inr rfl | exact Or.inl rfl | (simp only [ob, obA, R32, R64] at *; omega) | (simp only [ob, obA, R32, R64] at *; and_intros <;> omega)) ?_
        refine V_callV (M := MX12_readExpression) (N := MX12_cant) dX12_readExpression_59 lRX12_245 kX12_cant rfl (rfl) rfl (c_iCant (d := 0) hκ hI) rfl rfl (Nat.le_of_ble_eq_true rfl) (fit_rm (by omega)) (⟨Nat.le_of_ble_eq_true rfl, Nat.le_of_ble_eq_true rfl⟩) (fun v Ω' hp => ?_) (fun _ _ h => h.elim)
        obtain ⟨rfl, rfl⟩ := hp
        refine V_ex sX12_readExpression_62 (by rfl) (by first | exact trivial | exact Or.inr rfl | exact Or.inl rfl | (simp only [ob, obA, R32, R64] at *; omega) | (simp only [ob, obA, R32, R64] at *; and_intros <;> omega)) ?_
        refine V_callV (M := MX12_readExpression) (N := MX12_readAnd) dX12_readExpression_64 lRX12_290 kX12_readAnd rfl (rfl) rfl (hsub _ hb hR) rfl rfl (Nat.le_of_ble_eq_true rfl) (fit_rm (by omega)) (⟨Nat.le_of_ble_eq_true rfl, Nat.le_of_ble_eq_true rfl⟩) (fun v Ω' hp => ?_) (fun _ _ h => h.elim)
        obtain ⟨rfl, rfl⟩ := hp
        refine V_ex sX12_readExpression_67 (by rfl) (by first | exact trivial | exact Or.inr rfl | exact Or.inl rfl | (simp only [ob, obA, R32, R64] at *; omega) | (simp only [ob, obA, R32, R64] at *; and_intros <;> omega)) ?_
        refine V_ldcSw (n := 1000032) (ks_R hKS (i := 31) rfl) dX12_readExpression_68 ?_
        refine V_callV (M := MX12_readExpression) (N := MX12_is) dX12_readExpression_71 lRX12_238 kX12_is rfl (rfl) rfl (c_mIs0b (d := 4) hκ hb hR) rfl rfl (Nat.le_of_ble_eq_true rfl) (fit_rm (by omega)) (⟨Nat.le_of_ble_eq_true rfl, Nat.le_of_ble_eq_true rfl⟩) (fun v Ω' hp => ?_) (fun _ _ h => h.elim)
        obtain ⟨rfl, rfl⟩ := hp
        refine V_ifeqB dX12_readExpression_74 (tgt := 95) (by decide) (fun q74 => ?_) (fun q74 => ?_)
        · refine V_vret dX12_readExpression_95 rfl (by decide) (mQ_ct G (by decide) rfl)
        · exact absurd q74 (by decide)
    · exact absurd q40 (by decide)
  refine V_ex sX12_readExpression_0 (by simp only [Option.toList, List.cons_append, List.nil_append, exN, ex1, gI, gL, gR, pI, pL, pR, lget, lset1, lset2, kl, b2I, b2L, nob, ob32, ob64, xGet, xPut, xLen, xLd, xLdR, xSt, obA, true_and, and_true, and_self, eq_self, Nat.reduceEqDiff, Nat.zero_ne_one, reduceIte, Nat.reduceLeDiff, and_false, false_and, show skd 11 26 = 0 from rfl, show LF.1 145 = some (.inl 11) from rfl, upd2_eq, Int.reduceToNat, Int.toNat_natCast]; rfl) (by first | exact trivial | exact Or.inr rfl | exact Or.inl rfl | (simp only [ob, obA, R32, R64] at *; omega) | (simp only [ob, obA, R32, R64] at *; and_intros <;> omega)) ?_
  refine V_ifeq dX12_readExpression_4 (tgt := 8) (by decide) (by rw [h26]; unfold R32; decide) (fun q4 => ?_) (fun q4 => ?_)
  · refine V_ex sX12_readExpression_8 (by simp only [Option.toList, List.cons_append, List.nil_append, exN, ex1, gI, gL, gR, pI, pL, pR, lget, lset1, lset2, kl, b2I, b2L, nob, ob32, ob64, xGet, xPut, xLen, xLd, xLdR, xSt, obA, true_and, and_true, and_self, eq_self, Nat.reduceEqDiff, Nat.zero_ne_one, reduceIte, Nat.reduceLeDiff, and_false, false_and, show skd 11 21 = 0 from rfl, show LF.1 145 = some (.inl 11) from rfl, upd2_eq, Int.reduceToNat, Int.toNat_natCast]; rfl) (by first | exact trivial | exact Or.inr rfl | exact Or.inl rfl | (simp only [ob, obA, R32, R64] at *; omega) | (simp only [ob, obA, R32, R64] at *; and_intros <;> omega)) ?_
    refine V_icmpeq dX12_readExpression_13 (tgt := 33) (by decide) (by rw [h21]; unfold R32; omega) (fun q13 => ?_) (fun q13 => ?_)
    · refine V_ex sX12_readExpression_33 (by rfl) (by first | exact trivial | exact Or.inr rfl | exact Or.inl rfl | (simp only [ob, obA, R32, R64] at *; omega) | (simp only [ob, obA, R32, R64] at *; and_intros <;> omega)) ?_
      refine V_goto dX12_readExpression_34 (tgt := 38) (by decide) ?_
      exact fin
    · rw [h21, kd_2] at q13
      refine V_ex sX12_readExpression_16 (by simp only [Option.toList, List.cons_append, List.nil_append, exN, ex1, gI, gL, gR, pI, pL, pR, lget, lset1, lset2, kl, b2I, b2L, nob, ob32, ob64, xGet, xPut, xLen, xLd, xLdR, xSt, obA, true_and, and_true, and_self, eq_self, Nat.reduceEqDiff, Nat.zero_ne_one, reduceIte, Nat.reduceLeDiff, and_false, false_and, show skd 11 21 = 0 from rfl, show LF.1 145 = some (.inl 11) from rfl, upd2_eq, Int.reduceToNat, Int.toNat_natCast]; rfl) (by first | exact trivial | exact Or.inr rfl | exact Or.inl rfl | (simp only [ob, obA, R32, R64] at *; omega) | (simp only [ob, obA, R32, R64] at *; and_intros <;> omega)) ?_
      refine V_icmpeq dX12_readExpression_21 (tgt := 33) (by decide) (by rw [h21]; unfold R32; omega) (fun q21 => ?_) (fun q21 => ?_)
      · refine V_ex sX12_readExpression_33 (by rfl) (by first | exact trivial | exact Or.inr rfl | exact Or.inl rfl | (simp only [ob, obA, R32, R64] at *; omega) | (simp only [ob, obA, R32, R64] at *; and_intros <;> omega)) ?_
        refine V_goto dX12_readExpression_34 (tgt := 38) (by decide) ?_
        exact fin
      · rw [h21, kd_1] at q21
        refine V_ex sX12_readExpression_24 (by rfl) (by first | exact trivial | exact Or.inr rfl | exact Or.inl rfl | (simp only [ob, obA, R32, R64] at *; omega) | (simp only [ob, obA, R32, R64] at *; and_intros <;> omega)) ?_
        refine V_callV (M := MX12_readExpression) (N := MX12_isMarked) dX12_readExpression_27 lRX12_242 kX12_isMarked rfl (rfl) rfl (c_iMarked (d := 0) hκ hI (by decide) (by omega)) rfl rfl (Nat.le_of_ble_eq_true rfl) (fit_rm (by omega)) (⟨Nat.le_of_ble_eq_true rfl, Nat.le_of_ble_eq_true rfl⟩) (fun v Ω' hp => ?_) (fun _ _ h => h.elim)
        obtain ⟨rfl, rfl⟩ := hp
        refine V_ifeqB dX12_readExpression_30 (tgt := 37) (by decide) (fun q30 => ?_) (fun q30 => ?_)
        · have := of_decide_eq_false q30
          omega
        · refine V_ex sX12_readExpression_33 (by rfl) (by first | exact trivial | exact Or.inr rfl | exact Or.inl rfl | (simp only [ob, obA, R32, R64] at *; omega) | (simp only [ob, obA, R32, R64] at *; and_intros <;> omega)) ?_
          refine V_goto dX12_readExpression_34 (tgt := 38) (by decide) ?_
          exact fin
  · exact absurd h26 q4
set_option maxRecDepth 100000 in
set_option maxHeartbeats 4000000 in
theorem c_mExprY {κ : Kx} (hκ : KOK κ) (hKS : KS κ) {d d' n H : Nat} {lv : Int} {f : Nat → Int} {p : PE → PE} (hT : pTok (tkW (tk f n 0)) (tkV (tk f n 0)) ((tk f n 0).length - 1)) (hsub : mEC κ MX12_readAnd d' lv f n p) (hPG : PG ((tk f n 0).length - 1) H p) (hd : d' + 1 ≤ d) (hd2 : 6 ≤ d) (hlv : 0 ≤ lv ∧ lv < 6) {G : Wd} {i : Nat} {c : List Int} (h : mH f n G i c) (hm : mayE (tkW (tk f n 0) i)) : Ct κ MX12_readExpression d 0 0 [VR 145, VI lv] (Wm G) (mQ f n (pLoop opO (tkW (tk f n 0)) p 501 (p (i, 0, c))) G) noX := by
  refine Ct_of hκ kX12_readExpression.1 rfl (Nat.le_of_ble_eq_true rfl) (ls := [some (VR 145), some (VI lv), none]) rfl (fun μ => ?_)
  have h0 := h
  obtain ⟨hI, hc, hci⟩ := h
  obtain ⟨l1, l2, l3, l4, l5, l6⟩ := mI_lt hI
  obtain ⟨h26, h21⟩ := mI_26 hI
  have hkd := kd_R (tkW (tk f n 0) i)
  unfold mayE at hm
  have hwd := ks_M hKS (j := 13) (by omega)
  have L : ∀ (k : Nat) (r : PE) (G1 : Wd), FX G G1 → mR f n G1 r → pRes ((tk f n 0).length - 1) (H + 1) i c r → (tk f n 0).length ≤ r.1 + k → pLoop opO (tkW (tk f n 0)) p k r = pLoop opO (tkW (tk f n 0)) p 501 (p (i, 0, c)) → V κ MX12_readExpression (rmD d 0 0) (mQ f n (pLoop opO (tkW (tk f n 0)) p 501 (p (i, 0, c))) G) noX 0 0 μ 0 0 (Wm G1) 67 [some (VR 145), some (VI lv), some (VI 1)] [] := by
    intro k
    induction k with
    | zero => intro r G1 f1 m1 g1 hk he; exact absurd g1.2.1 (by have := (tk_len f n n 0 (by omega)).1; omega)
    | succ k ih =>
      intro r G1 f1 m1 g1 hk he
      have g10 := g1
      obtain ⟨p1, p2, p3, p4, p5⟩ := g1
      by_cases hb : r.2.1 = 0
      · obtain ⟨i1, c1⟩ := m1.1 hb
        obtain ⟨p6, cs, e1, e2, e3, e4⟩ := p5 hb
        obtain ⟨j1, j2, j3, j4, j5, j6⟩ := mI_lt i1
        have hlen : r.2.2.length ≤ r.1 := by rw [e1]; simp; omega
        have his := c_iIs hκ hKS (d := 4) i1 hwd (by decide) (by omega)
        by_cases hz : tkW (tk f n 0) r.1 = 273
        · have hw : tkW (tk f n 0) r.1 ≠ -1 := by omega
          have ho : opO (tkW (tk f n 0) r.1) = some (-7) := by rw [opO, if_pos hz]
          have hoo := opO_o _ _ ho
          have hsm : sm (-7) = -27 := by decide
          have hnl := mI_nl i1 hw
          have hq := hPG (r.1 + 1) r.2.2 (Nat.le_sub_one_of_lt hnl)
          rw [pLoop_go k hb ho] at he
          have hg := pLoop_res (w := tkW (tk f n 0)) (v := tkV (tk f n 0)) (op := opO) hT opO_o (by decide) hPG 1 r g10
          rw [pLoop_go 0 hb ho, pLoop] at hg
          have hrr : ∀ G2 : Wd, mH f n G2 (r.1 + 1) r.2.2 → Ct κ MX12_readAnd d' 0 0 [VR 145, VI lv] (Wm G2) (mQ f n (p (r.1 + 1, 0, r.2.2)) G2) noX := fun G2 h => hsub.1 G2 _ _ h
          generalize p (r.1 + 1, 0, r.2.2) = s at *
          obtain ⟨s1, s2, s3, s4, s5⟩ := hq
          by_cases hs : s.2.1 = 0
          · rw [if_pos hs] at he hg
            obtain ⟨s6, ds, d1, d2, d3, d4⟩ := s5 hs
            have hlen2 : s.2.2.length ≤ s.1 - 1 := by rw [d1]; simp; omega
            refine V_ex sX12_readExpression_67 (by rfl) (by first | exact trivial | exact Or.inr rfl | exact Or.inl rfl | (simp only [ob, obA, R32, R64] at *; omega) | (simp only [ob, obA, R32, R64] at *; and_intros <;> omega)) ?_
            refine V_ldcSw (n := 1000032) (ks_R hKS (i := 31) rfl) dX12_readExpression_68 ?_
            refine V_callV (M := MX12_readExpression) (N := MX12_is) dX12_readExpression_71 lRX12_238 kX12_is rfl (rfl) rfl (his) rfl rfl (Nat.le_of_ble_eq_true rfl) (fit_rm (by omega)) (⟨Nat.le_of_ble_eq_true rfl, Nat.le_of_ble_eq_true rfl⟩) (fun v Ω' hp => ?_) (fun _ _ h => h.elim)
            obtain ⟨rfl, rfl⟩ := hp
            refine V_ifeqB dX12_readExpression_74 (tgt := 95) (by decide) (fun q74 => ?_) (fun q74 => ?_)
            · exact absurd hz (of_decide_eq_false q74)
            · refine V_ex sX12_readExpression_77 (by rfl) (by first | exact trivial | exact Or.inr rfl | exact Or.inl rfl | (simp only [ob, obA, R32, R64] at *; omega) | (simp only [ob, obA, R32, R64] at *; and_intros <;> omega)) ?_
              refine V_callV (M := MX12_readExpression) (N := MX12_stepOn) dX12_readExpression_78 lRX12_249 kX12_stepOn rfl (rfl) rfl (c_iNext (d := 2) hκ i1 hw (by omega)) rfl rfl (Nat.le_of_ble_eq_true rfl) (fit_rm (by omega)) (⟨Nat.le_of_ble_eq_true rfl, Nat.le_of_ble_eq_true rfl⟩) (fun v Ω' hp => ?_) (fun _ _ h => h.elim)
              obtain ⟨rfl, G2, rfl, f2, i2⟩ := hp
              refine V_ex sX12_readExpression_81 (by rfl) (by first | exact trivial | exact Or.inr rfl | exact Or.inl rfl | (simp only [ob, obA, R32, R64] at *; omega) | (simp only [ob, obA, R32, R64] at *; and_intros <;> omega)) ?_
              refine V_callV (M := MX12_readExpression) (N := MX12_readAnd) dX12_readExpression_83 lRX12_290 kX12_readAnd rfl (rfl) rfl (hrr G2 ⟨i2, cd_m f2 c1, by omega⟩) rfl rfl (Nat.le_of_ble_eq_true rfl) (fit_rm (by omega)) (⟨Nat.le_of_ble_eq_true rfl, Nat.le_of_ble_eq_true rfl⟩) (fun v Ω' hp => ?_) (fun _ _ h => h.elim)
              obtain ⟨rfl, G3, rfl, f3, m3⟩ := hp
              obtain ⟨i3, c3⟩ := m3.1 hs
              have hn3 := mI_lt i3
              refine V_ex sX12_readExpression_86 (by rfl) (by first | exact trivial | exact Or.inr rfl | exact Or.inl rfl | (simp only [ob, obA, R32, R64] at *; omega) | (simp only [ob, obA, R32, R64] at *; and_intros <;> omega)) ?_
              refine V_callV (M := MX12_readExpression) (N := MX12_lay) dX12_readExpression_89 lRX12_261 kX12_lay rfl (rfl) rfl (c_iLay (d := 0) hκ i3 c3 (by omega)) rfl rfl (Nat.le_of_ble_eq_true rfl) (fit_rm (by omega)) (⟨Nat.le_of_ble_eq_true rfl, Nat.le_of_ble_eq_true rfl⟩) (fun v Ω' hp => ?_) (fun _ _ h => h.elim)
              obtain ⟨rfl, rfl⟩ := hp
              refine V_goto dX12_readExpression_92 (tgt := 67) (by decide) ?_
              exact ih (s.1, 0, s.2.2 ++ [-7]) _ (((f1.trans (FX.m f2)).trans f3).trans (FX.ly G3 _ _)) ⟨fun _ => ⟨ly_I i3, by rw [← hsm]; exact ly_cd (z := -7) c3⟩, fun q => absurd rfl q⟩ hg (by show _ ≤ s.1 + k; omega) he
          · rw [if_neg hs] at he hg
            refine V_ex sX12_readExpression_67 (by rfl) (by first | exact trivial | exact Or.inr rfl | exact Or.inl rfl | (simp only [ob, obA, R32, R64] at *; omega) | (simp only [ob, obA, R32, R64] at *; and_intros <;> omega)) ?_
            refine V_ldcSw (n := 1000032) (ks_R hKS (i := 31) rfl) dX12_readExpression_68 ?_
            refine V_callV (M := MX12_readExpression) (N := MX12_is) dX12_readExpression_71 lRX12_238 kX12_is rfl (rfl) rfl (his) rfl rfl (Nat.le_of_ble_eq_true rfl) (fit_rm (by omega)) (⟨Nat.le_of_ble_eq_true rfl, Nat.le_of_ble_eq_true rfl⟩) (fun v Ω' hp => ?_) (fun _ _ h => h.elim)
            obtain ⟨rfl, rfl⟩ := hp
            refine V_ifeqB dX12_readExpression_74 (tgt := 95) (by decide) (fun q74 => ?_) (fun q74 => ?_)
            · exact absurd hz (of_decide_eq_false q74)
            · refine V_ex sX12_readExpression_77 (by rfl) (by first | exact trivial | exact Or.inr rfl | exact Or.inl rfl | (simp only [ob, obA, R32, R64] at *; omega) | (simp only [ob, obA, R32, R64] at *; and_intros <;> omega)) ?_
              refine V_callV (M := MX12_readExpression) (N := MX12_stepOn) dX12_readExpression_78 lRX12_249 kX12_stepOn rfl (rfl) rfl (c_iNext (d := 2) hκ i1 hw (by omega)) rfl rfl (Nat.le_of_ble_eq_true rfl) (fit_rm (by omega)) (⟨Nat.le_of_ble_eq_true rfl, Nat.le_of_ble_eq_true rfl⟩) (fun v Ω' hp => ?_) (fun _ _ h => h.elim)
              obtain ⟨rfl, G2, rfl, f2, i2⟩ := hp
              refine V_ex sX12_readExpression_81 (by rfl) (by first | exact trivial | exact Or.inr rfl | exact Or.inl rfl | (simp only [ob, obA, R32, R64] at *; omega) | (simp only [ob, obA, R32, R64] at *; and_intros <;> omega)) ?_
              refine V_callV (M := MX12_readExpression) (N := MX12_readAnd) dX12_readExpression_83 lRX12_290 kX12_readAnd rfl (rfl) rfl (hrr G2 ⟨i2, cd_m f2 c1, by omega⟩) rfl rfl (Nat.le_of_ble_eq_true rfl) (fit_rm (by omega)) (⟨Nat.le_of_ble_eq_true rfl, Nat.le_of_ble_eq_true rfl⟩) (fun v Ω' hp => ?_) (fun _ _ h => h.elim)
              obtain ⟨rfl, G3, rfl, f3, m3⟩ := hp
              have hm3 := m3.2 hs
              have h26b : G3.1 145 26 ≠ 0 := by rw [hm3.1]; exact hs
              refine V_ex sX12_readExpression_86 (by rfl) (by first | exact trivial | exact Or.inr rfl | exact Or.inl rfl | (simp only [ob, obA, R32, R64] at *; omega) | (simp only [ob, obA, R32, R64] at *; and_intros <;> omega)) ?_
              refine V_callV (M := MX12_readExpression) (N := MX12_lay) dX12_readExpression_89 lRX12_261 kX12_lay rfl (rfl) rfl (c_mLay0 (d := 0) hκ h26b (by rw [hm3.1]; unfold R32; omega)) rfl rfl (Nat.le_of_ble_eq_true rfl) (fit_rm (by omega)) (⟨Nat.le_of_ble_eq_true rfl, Nat.le_of_ble_eq_true rfl⟩) (fun v Ω' hp => ?_) (fun _ _ h => h.elim)
              obtain ⟨rfl, rfl⟩ := hp
              refine V_goto dX12_readExpression_92 (tgt := 67) (by decide) ?_
              exact ih s G3 ((f1.trans (FX.m f2)).trans f3) m3 hg (by omega) he
        · have hn : opO (tkW (tk f n 0) r.1) = none := by rw [opO, if_neg hz]
          rw [pLoop_no _ hn] at he
          refine V_ex sX12_readExpression_67 (by rfl) (by first | exact trivial | exact Or.inr rfl | exact Or.inl rfl | (simp only [ob, obA, R32, R64] at *; omega) | (simp only [ob, obA, R32, R64] at *; and_intros <;> omega)) ?_
          refine V_ldcSw (n := 1000032) (ks_R hKS (i := 31) rfl) dX12_readExpression_68 ?_
          refine V_callV (M := MX12_readExpression) (N := MX12_is) dX12_readExpression_71 lRX12_238 kX12_is rfl (rfl) rfl (his) rfl rfl (Nat.le_of_ble_eq_true rfl) (fit_rm (by omega)) (⟨Nat.le_of_ble_eq_true rfl, Nat.le_of_ble_eq_true rfl⟩) (fun v Ω' hp => ?_) (fun _ _ h => h.elim)
          obtain ⟨rfl, rfl⟩ := hp
          refine V_ifeqB dX12_readExpression_74 (tgt := 95) (by decide) (fun q74 => ?_) (fun q74 => ?_)
          · refine V_vret dX12_readExpression_95 rfl (by decide) (by rw [← he]; exact ⟨rfl, G1, rfl, f1, m1⟩)
          · exact absurd (of_decide_eq_true q74) hz
      · have hm1 := m1.2 hb
        have h26b : G1.1 145 26 ≠ 0 := by rw [hm1.1]; exact hb
        have hR : R32 (G1.1 145 26) := by rw [hm1.1]; unfold R32; omega
        rw [pLoop_bad _ hb] at he
        refine V_ex sX12_readExpression_67 (by rfl) (by first | exact trivial | exact Or.inr rfl | exact Or.inl rfl | (simp only [ob, obA, R32, R64] at *; omega) | (simp only [ob, obA, R32, R64] at *; and_intros <;> omega)) ?_
        refine V_ldcSw (n := 1000032) (ks_R hKS (i := 31) rfl) dX12_readExpression_68 ?_
        refine V_callV (M := MX12_readExpression) (N := MX12_is) dX12_readExpression_71 lRX12_238 kX12_is rfl (rfl) rfl (c_mIs0b (d := 4) hκ h26b hR) rfl rfl (Nat.le_of_ble_eq_true rfl) (fit_rm (by omega)) (⟨Nat.le_of_ble_eq_true rfl, Nat.le_of_ble_eq_true rfl⟩) (fun v Ω' hp => ?_) (fun _ _ h => h.elim)
        obtain ⟨rfl, rfl⟩ := hp
        refine V_ifeqB dX12_readExpression_74 (tgt := 95) (by decide) (fun q74 => ?_) (fun q74 => ?_)
        · refine V_vret dX12_readExpression_95 rfl (by decide) (by rw [← he]; exact ⟨rfl, G1, rfl, f1, m1⟩)
        · exact absurd q74 (by decide)
  have hq := hPG i c (by omega)
  have fin : V κ MX12_readExpression (rmD d 0 0) (mQ f n (pLoop opO (tkW (tk f n 0)) p 501 (p (i, 0, c))) G) noX 0 0 μ 0 0 (Wm G) 38 [some (VR 145), some (VI lv), none] [VI 1] := by
    refine V_ex sX12_readExpression_38 (by rfl) (by first | exact trivial | exact Or.inr rfl | exact Or.inl rfl | (simp only [ob, obA, R32, R64] at *; omega) | (simp only [ob, obA, R32, R64] at *; and_intros <;> omega)) ?_
    refine V_ifne dX12_readExpression_40 (tgt := 51) (by decide) (by simp only [R32, R64] at *; omega) (fun q40 => ?_) (fun q40 => ?_)
    · refine V_ex sX12_readExpression_51 (by rfl) (by first | exact trivial | exact Or.inr rfl | exact Or.inl rfl | (simp only [ob, obA, R32, R64] at *; omega) | (simp only [ob, obA, R32, R64] at *; and_intros <;> omega)) ?_
      refine V_icmpne dX12_readExpression_54 (tgt := 62) (by decide) (by simp only [R32, R64] at *; omega) (fun q54 => ?_) (fun q54 => ?_)
      · refine V_ex sX12_readExpression_62 (by rfl) (by first | exact trivial | exact Or.inr rfl | exact Or.inl rfl | (simp only [ob, obA, R32, R64] at *; omega) | (simp only [ob, obA, R32, R64] at *; and_intros <;> omega)) ?_
        refine V_callV (M := MX12_readExpression) (N := MX12_readAnd) dX12_readExpression_64 lRX12_290 kX12_readAnd rfl (rfl) rfl (hsub.1 G i c h0) rfl rfl (Nat.le_of_ble_eq_true rfl) (fit_rm (by omega)) (⟨Nat.le_of_ble_eq_true rfl, Nat.le_of_ble_eq_true rfl⟩) (fun v Ω' hp => ?_) (fun _ _ h => h.elim)
        obtain ⟨rfl, G1, rfl, f1, m1⟩ := hp
        exact L 501 (p (i, 0, c)) G1 f1 m1 (pRes_mono hq (by omega)) (by omega) rfl
      · omega
    · exact absurd q40 (by decide)
  refine V_ex sX12_readExpression_0 (by simp only [Option.toList, List.cons_append, List.nil_append, exN, ex1, gI, gL, gR, pI, pL, pR, lget, lset1, lset2, kl, b2I, b2L, nob, ob32, ob64, xGet, xPut, xLen, xLd, xLdR, xSt, obA, true_and, and_true, and_self, eq_self, Nat.reduceEqDiff, Nat.zero_ne_one, reduceIte, Nat.reduceLeDiff, and_false, false_and, show skd 11 26 = 0 from rfl, show LF.1 145 = some (.inl 11) from rfl, upd2_eq, Int.reduceToNat, Int.toNat_natCast]; rfl) (by first | exact trivial | exact Or.inr rfl | exact Or.inl rfl | (simp only [ob, obA, R32, R64] at *; omega) | (simp only [ob, obA, R32, R64] at *; and_intros <;> omega)) ?_
  refine V_ifeq dX12_readExpression_4 (tgt := 8) (by decide) (by rw [h26]; unfold R32; decide) (fun q4 => ?_) (fun q4 => ?_)
  · refine V_ex sX12_readExpression_8 (by simp only [Option.toList, List.cons_append, List.nil_append, exN, ex1, gI, gL, gR, pI, pL, pR, lget, lset1, lset2, kl, b2I, b2L, nob, ob32, ob64, xGet, xPut, xLen, xLd, xLdR, xSt, obA, true_and, and_true, and_self, eq_self, Nat.reduceEqDiff, Nat.zero_ne_one, reduceIte, Nat.reduceLeDiff, and_false, false_and, show skd 11 21 = 0 from rfl, show LF.1 145 = some (.inl 11) from rfl, upd2_eq, Int.reduceToNat, Int.toNat_natCast]; rfl) (by first | exact trivial | exact Or.inr rfl | exact Or.inl rfl | (simp only [ob, obA, R32, R64] at *; omega) | (simp only [ob, obA, R32, R64] at *; and_intros <;> omega)) ?_
    refine V_icmpeq dX12_readExpression_13 (tgt := 33) (by decide) (by rw [h21]; unfold R32; omega) (fun q13 => ?_) (fun q13 => ?_)
    · refine V_ex sX12_readExpression_33 (by rfl) (by first | exact trivial | exact Or.inr rfl | exact Or.inl rfl | (simp only [ob, obA, R32, R64] at *; omega) | (simp only [ob, obA, R32, R64] at *; and_intros <;> omega)) ?_
      refine V_goto dX12_readExpression_34 (tgt := 38) (by decide) ?_
      exact fin
    · rw [h21, kd_2] at q13
      refine V_ex sX12_readExpression_16 (by simp only [Option.toList, List.cons_append, List.nil_append, exN, ex1, gI, gL, gR, pI, pL, pR, lget, lset1, lset2, kl, b2I, b2L, nob, ob32, ob64, xGet, xPut, xLen, xLd, xLdR, xSt, obA, true_and, and_true, and_self, eq_self, Nat.reduceEqDiff, Nat.zero_ne_one, reduceIte, Nat.reduceLeDiff, and_false, false_and, show skd 11 21 = 0 from rfl, show LF.1 145 = some (.inl 11) from rfl, upd2_eq, Int.reduceToNat, Int.toNat_natCast]; rfl) (by first | exact trivial | exact Or.inr rfl | exact Or.inl rfl | (simp only [ob, obA, R32, R64] at *; omega) | (simp only [ob, obA, R32, R64] at *; and_intros <;> omega)) ?_
      refine V_icmpeq dX12_readExpression_21 (tgt := 33) (by decide) (by rw [h21]; unfold R32; omega) (fun q21 => ?_) (fun q21 => ?_)
      · refine V_ex sX12_readExpression_33 (by rfl) (by first | exact trivial | exact Or.inr rfl | exact Or.inl rfl | (simp only [ob, obA, R32, R64] at *; omega) | (simp only [ob, obA, R32, R64] at *; and_intros <;> omega)) ?_
        refine V_goto dX12_readExpression_34 (tgt := 38) (by decide) ?_
        exact fin
      · rw [h21, kd_1] at q21
        refine V_ex sX12_readExpression_24 (by rfl) (by first | exact trivial | exact Or.inr rfl | exact Or.inl rfl | (simp only [ob, obA, R32, R64] at *; omega) | (simp only [ob, obA, R32, R64] at *; and_intros <;> omega)) ?_
        refine V_callV (M := MX12_readExpression) (N := MX12_isMarked) dX12_readExpression_27 lRX12_242 kX12_isMarked rfl (rfl) rfl (c_iMarked (d := 0) hκ hI (by decide) (by omega)) rfl rfl (Nat.le_of_ble_eq_true rfl) (fit_rm (by omega)) (⟨Nat.le_of_ble_eq_true rfl, Nat.le_of_ble_eq_true rfl⟩) (fun v Ω' hp => ?_) (fun _ _ h => h.elim)
        obtain ⟨rfl, rfl⟩ := hp
        refine V_ifeqB dX12_readExpression_30 (tgt := 37) (by decide) (fun q30 => ?_) (fun q30 => ?_)
        · have := of_decide_eq_false q30
          omega
        · refine V_ex sX12_readExpression_33 (by rfl) (by first | exact trivial | exact Or.inr rfl | exact Or.inl rfl | (simp only [ob, obA, R32, R64] at *; omega) | (simp only [ob, obA, R32, R64] at *; and_intros <;> omega)) ?_
          refine V_goto dX12_readExpression_34 (tgt := 38) (by decide) ?_
          exact fin
  · exact absurd h26 q4
/-! the bad ways, for any level -/
set_option maxRecDepth 100000 in
set_option maxHeartbeats 4000000 in
theorem c_mBad {κ : Kx} (hκ : KOK κ) (hKS : KS κ) (lv : Int) : mB κ MX12_readAnd 7 lv := by
  have b0 : mB κ MX12_readPart 2 lv := fun G hb hR => c_mPart0 hκ hb hR
  have b1 : mB κ MX12_readProduct 3 lv := fun G hb hR => c_mProdZ hκ b0 (by omega) (by omega) hb hR
  have b2 : mB κ MX12_readSum 4 lv := fun G hb hR => c_mSumZ hκ b1 (by omega) (by omega) hb hR
  have b3 : mB κ MX12_readNot 6 lv := fun G hb hR => c_mNotZ hκ hKS b2 (by omega) (by omega) hb hR
  exact fun G hb hR => c_mAndZ hκ hKS b3 (by omega) (by omega) hb hR
set_option maxRecDepth 100000 in
set_option maxHeartbeats 4000000 in
theorem c_mExpression {κ : Kx} (hκ : KOK κ) (hKS : KS κ) {n : Nat} {f : Nat → Int} (hT : pTok (tkW (tk f n 0)) (tkV (tk f n 0)) ((tk f n 0).length - 1)) : ∀ k, k ≤ 6 → mEC κ MX12_readExpression (8 + 6 * k) (6 - (k : Int)) f n (pOr (tkW (tk f n 0)) (tkV (tk f n 0)) k) := by
  intro k
  induction k with
  | zero =>
    intro hk
    refine ⟨fun G i c h => ?_, fun G hb hR => c_mExpr0 hκ hb hR⟩
    by_cases hm : mayE (tkW (tk f n 0) i)
    · have e : pOr (tkW (tk f n 0)) (tkV (tk f n 0)) 0 (i, 0, c) = (i, 2, c) := by
        unfold mayE at hm
        rw [pOr]; dsimp only; rw [if_pos (by omega)]
      rw [e]
      exact c_mExprD hκ hKS (c_mBad hκ hKS 6) (by omega) (by omega) h hm
    · have e : pOr (tkW (tk f n 0)) (tkV (tk f n 0)) 0 (i, 0, c) = (i, 1, c) := by
        unfold mayE at hm
        rw [pOr]; dsimp only; rw [if_neg (by omega)]
      rw [e]
      exact c_mExprN hκ hKS (c_mBad hκ hKS _) (by omega) (by omega) (by omega) h hm
  | succ k ih =>
    intro hk
    have ih := ih (by omega)
    have hG := pOr_res (v := tkV (tk f n 0)) hT k
    have e1 : (6 - ((k + 1 : Nat) : Int)) + 1 = 6 - (k : Int) := by omega
    have h1 : mEC κ MX12_readPart (9 + 6 * k) (6 - ((k + 1 : Nat) : Int)) f n (pPart (tkW (tk f n 0)) (tkV (tk f n 0)) (pOr (tkW (tk f n 0)) (tkV (tk f n 0)) k)) := ⟨fun G i c h => c_mPart hκ hKS (by omega) (by rw [e1]; exact ih) ⟨_, hG⟩ (by omega) (by omega) h, fun G hb hR => c_mPart0 hκ hb hR⟩
    have h2 : mEC κ MX12_readProduct (10 + 6 * k) (6 - ((k + 1 : Nat) : Int)) f n (pProd (tkW (tk f n 0)) (tkV (tk f n 0)) (pOr (tkW (tk f n 0)) (tkV (tk f n 0)) k)) := ⟨fun G i c h => c_mProd hκ hT h1 (pPart_res hT hG (by omega)) (by omega) (by omega) h, fun G hb hR => c_mProd0 hκ h1 (by omega) (by omega) hb hR⟩
    have h3 : mEC κ MX12_readSum (11 + 6 * k) (6 - ((k + 1 : Nat) : Int)) f n (pSum (tkW (tk f n 0)) (tkV (tk f n 0)) (pOr (tkW (tk f n 0)) (tkV (tk f n 0)) k)) := ⟨fun G i c h => c_mSum hκ hT h2 (pProd_res hT hG (by omega)) (by omega) (by omega) h, fun G hb hR => c_mSum0 hκ h2 (by omega) (by omega) hb hR⟩
    have h4 : mEC κ MX12_readNot (12 + 6 * k) (6 - ((k + 1 : Nat) : Int)) f n (pNot (tkW (tk f n 0)) (tkV (tk f n 0)) (pOr (tkW (tk f n 0)) (tkV (tk f n 0)) k)) := ⟨fun G i c h => c_mNot hκ hKS h3 (pSum_res hT hG (by omega)) (by omega) (by omega) h, fun G hb hR => c_mNot0 hκ hKS h3 (by omega) (by omega) hb hR⟩
    have h5 : mEC κ MX12_readAnd (13 + 6 * k) (6 - ((k + 1 : Nat) : Int)) f n (pAnd (tkW (tk f n 0)) (tkV (tk f n 0)) (pOr (tkW (tk f n 0)) (tkV (tk f n 0)) k)) := ⟨fun G i c h => c_mAnd hκ hKS hT h4 (pNot_res hT hG (by omega)) (by omega) (by omega) h, fun G hb hR => c_mAndZ hκ hKS h4.2 (by omega) (by omega) hb hR⟩
    refine ⟨fun G i c h => ?_, fun G hb hR => c_mExpr0 hκ hb hR⟩
    show Ct κ MX12_readExpression (8 + 6 * (k + 1)) 0 0 _ _ (mQ f n (pLoop opO (tkW (tk f n 0)) (pAnd (tkW (tk f n 0)) (tkV (tk f n 0)) (pOr (tkW (tk f n 0)) (tkV (tk f n 0)) k)) 501 (pAnd (tkW (tk f n 0)) (tkV (tk f n 0)) (pOr (tkW (tk f n 0)) (tkV (tk f n 0)) k) (i, 0, c))) G) _
    by_cases hm : mayE (tkW (tk f n 0) i)
    · exact c_mExprY hκ hKS hT h5 (pAnd_res hT hG (by omega)) (by omega) (by omega) (by omega) h hm
    · rw [pAnd_no hm, pLoop_bad _ (show (1 : Int) ≠ 0 by decide)]
      exact c_mExprN hκ hKS h5.2 (by omega) (by omega) (by omega) h hm
