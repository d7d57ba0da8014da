/-! THE MODEL's reader: a number read; which of some words -/
set_option maxRecDepth 100000 in
set_option maxHeartbeats 4000000 in
theorem c_mReadNum0 {κ : Kx} (hκ : KOK κ) {d : Nat} {lo hh : Int} {G : Wd} (hb : G.1 145 26 ≠ 0) (hbR : R32 (G.1 145 26)) (hd : 2 ≤ d) : Ct κ MX12_readNumber d 0 0 [VR 145, VI lo, VI hh] (Wm G) (keepG G (VI 0)) noX := by
  refine Ct_of hκ kX12_readNumber.1 rfl (Nat.le_of_ble_eq_true rfl) (ls := [some (VR 145), some (VI lo), some (VI hh), none]) rfl (fun μ => ?_)
  refine V_ex sX12_readNumber_0 (by rfl) (by first | exact trivial | exact Or.inr rfl | exact Or.inl rfl | (simp only [ob, obA, R32, R64] at *; omega) | (simp only [ob, obA, R32, R64] at *; and_intros <;> omega)) ?_
  refine V_callV (M := MX12_readNumber) (N := MX12_numberNow) dX12_readNumber_3 lRX12_252 kX12_numberNow rfl (rfl) rfl (c_mNumNow0 (d := 1) hκ hb hbR) rfl rfl (Nat.le_of_ble_eq_true rfl) (fit_rm (by omega)) (⟨Nat.le_of_ble_eq_true rfl, Nat.le_of_ble_eq_true rfl⟩) (fun v Ω' hp => ?_) (fun _ _ h => h.elim)
  obtain ⟨rfl, rfl⟩ := hp
  refine V_ex sX12_readNumber_6 (by simp only [Option.toList, List.cons_append, List.nil_append, exN, ex1, gI, gL, gR, pI, pL, pR, lget, lset1, lset2, kl, b2I, b2L, nob, ob32, ob64, xGet, xPut, xLen, xLd, xLdR, xSt, obA, true_and, and_true, and_self, eq_self, Nat.reduceEqDiff, Nat.zero_ne_one, reduceIte, Nat.reduceLeDiff, and_false, false_and, show skd 11 26 = 0 from rfl, show LF.1 145 = some (.inl 11) from rfl, upd2_eq, Int.reduceToNat, Int.toNat_natCast]; rfl) (by first | exact trivial | exact Or.inr rfl | exact Or.inl rfl | (simp only [ob, obA, R32, R64] at *; omega) | (simp only [ob, obA, R32, R64] at *; and_intros <;> omega)) ?_
  refine V_ifne dX12_readNumber_11 (tgt := 18) (by decide) (by exact hbR) (fun q11 => ?_) (fun q11 => ?_)
  · refine V_ex sX12_readNumber_18 (by rfl) (by first | exact trivial | exact Or.inr rfl | exact Or.inl rfl | (simp only [ob, obA, R32, R64] at *; omega) | (simp only [ob, obA, R32, R64] at *; and_intros <;> omega)) ?_
    refine V_iret dX12_readNumber_19 rfl (by decide) ⟨rfl, rfl⟩
  · omega
def rnP (n : Nat) (t : Tk) (lo hh : Int) (G : Wd) : Option Vl → Om → Prop := fun u Ω' => (pN t lo hh = 0 → u = some (VI t.2.1) ∧ stP n t G none Ω') ∧ (pN t lo hh ≠ 0 → u = some (VI 0) ∧ Ω' = Wm (cantW G (pN t lo hh)))
set_option maxRecDepth 100000 in
set_option maxHeartbeats 4000000 in
theorem c_mReadNum {κ : Kx} (hκ : KOK κ) {d n : Nat} {lo hh : Int} {t : Tk} {G : Wd} (hg : mG G n t) (hlo : 0 ≤ lo ∧ lo ≤ 9999) (hhi : 0 ≤ hh ∧ hh ≤ 9999) (hd : 2 ≤ d) : Ct κ MX12_readNumber d 0 0 [VR 145, VI lo, VI hh] (Wm G) (rnP n t lo hh G) noX := by
  refine Ct_of hκ kX12_readNumber.1 rfl (Nat.le_of_ble_eq_true rfl) (ls := [some (VR 145), some (VI lo), some (VI hh), none]) rfl (fun μ => ?_)
  have h26 := hg.2.2.2
  have hR := pN_R t lo hh
  by_cases e : pN t lo hh = 0
  · refine V_ex sX12_readNumber_0 (by rfl) (by first | exact trivial | exact Or.inr rfl | exact Or.inl rfl | (simp only [ob, obA, R32, R64] at *; omega) | (simp only [ob, obA, R32, R64] at *; and_intros <;> omega)) ?_
    refine V_callV (M := MX12_readNumber) (N := MX12_numberNow) dX12_readNumber_3 lRX12_252 kX12_numberNow rfl (rfl) rfl (c_mNumNow (d := 1) hκ hg hlo hhi (by omega)) rfl rfl (Nat.le_of_ble_eq_true rfl) (fit_rm (by omega)) (⟨Nat.le_of_ble_eq_true rfl, Nat.le_of_ble_eq_true rfl⟩) (fun v Ω' hp => ?_) (fun _ _ h => h.elim)
    obtain ⟨rfl, rfl⟩ := hp
    rw [if_pos e, if_pos e]
    refine V_ex sX12_readNumber_6 (by simp only [Option.toList, List.cons_append, List.nil_append, exN, ex1, gI, gL, gR, pI, pL, pR, lget, lset1, lset2, kl, b2I, b2L, nob, ob32, ob64, xGet, xPut, xLen, xLd, xLdR, xSt, obA, true_and, and_true, and_self, eq_self, Nat.reduceEqDiff, Nat.zero_ne_one, reduceIte, Nat.reduceLeDiff, and_false, false_and, show skd 11 26 = 0 from rfl, show LF.1 145 = some (.inl 11) from rfl, h26, upd2_eq, Int.reduceToNat, Int.toNat_natCast]; rfl) (by first | exact trivial | exact Or.inr rfl | exact Or.inl rfl | (simp only [ob, obA, R32, R64] at *; omega) | (simp only [ob, obA, R32, R64] at *; and_intros <;> omega)) ?_
    refine V_ifne dX12_readNumber_11 (tgt := 18) (by decide) (by simp only [R32, R64] at *; omega) (fun q11 => ?_) (fun q11 => ?_)
    · exact absurd rfl q11
    · refine V_ex sX12_readNumber_14 (by rfl) (by first | exact trivial | exact Or.inr rfl | exact Or.inl rfl | (simp only [ob, obA, R32, R64] at *; omega) | (simp only [ob, obA, R32, R64] at *; and_intros <;> omega)) ?_
      refine V_callV (M := MX12_readNumber) (N := MX12_stepOn) dX12_readNumber_15 lRX12_249 kX12_stepOn rfl (rfl) rfl (c_mNext (d := 1) hκ hg (by omega)) rfl rfl (Nat.le_of_ble_eq_true rfl) (fit_rm (by omega)) (⟨Nat.le_of_ble_eq_true rfl, Nat.le_of_ble_eq_true rfl⟩) (fun v Ω' hp => ?_) (fun _ _ h => h.elim)
      have hp0 := hp
      obtain ⟨rfl, G', t', l, rfl, hq⟩ := hp
      refine V_ex sX12_readNumber_18 (by rfl) (by first | exact trivial | exact Or.inr rfl | exact Or.inl rfl | (simp only [ob, obA, R32, R64] at *; omega) | (simp only [ob, obA, R32, R64] at *; and_intros <;> omega)) ?_
      refine V_iret dX12_readNumber_19 rfl (by decide) ⟨fun _ => ⟨rfl, hp0⟩, fun q => absurd e q⟩
  · have hcw : (cantW G (pN t lo hh)).1 145 26 = pN t lo hh := cantW_26 h26
    refine V_ex sX12_readNumber_0 (by rfl) (by first | exact trivial | exact Or.inr rfl | exact Or.inl rfl | (simp only [ob, obA, R32, R64] at *; omega) | (simp only [ob, obA, R32, R64] at *; and_intros <;> omega)) ?_
    refine V_callV (M := MX12_readNumber) (N := MX12_numberNow) dX12_readNumber_3 lRX12_252 kX12_numberNow rfl (rfl) rfl (c_mNumNow (d := 1) hκ hg hlo hhi (by omega)) rfl rfl (Nat.le_of_ble_eq_true rfl) (fit_rm (by omega)) (⟨Nat.le_of_ble_eq_true rfl, Nat.le_of_ble_eq_true rfl⟩) (fun v Ω' hp => ?_) (fun _ _ h => h.elim)
    obtain ⟨rfl, rfl⟩ := hp
    rw [if_neg e, if_neg e]
    refine V_ex sX12_readNumber_6 (by simp only [Option.toList, List.cons_append, List.nil_append, exN, ex1, gI, gL, gR, pI, pL, pR, lget, lset1, lset2, kl, b2I, b2L, nob, ob32, ob64, xGet, xPut, xLen, xLd, xLdR, xSt, obA, true_and, and_true, and_self, eq_self, Nat.reduceEqDiff, Nat.zero_ne_one, reduceIte, Nat.reduceLeDiff, and_false, false_and, show skd 11 26 = 0 from rfl, show LF.1 145 = some (.inl 11) from rfl, hcw, upd2_eq, Int.reduceToNat, Int.toNat_natCast]; rfl) (by first | exact trivial | exact Or.inr rfl | exact Or.inl rfl | (simp only [ob, obA, R32, R64] at *; omega) | (simp only [ob, obA, R32, R64] at *; and_intros <;> omega)) ?_
    refine V_ifne dX12_readNumber_11 (tgt := 18) (by decide) (by simp only [R32, R64] at *; omega) (fun q11 => ?_) (fun q11 => ?_)
    · refine V_ex sX12_readNumber_18 (by rfl) (by first | exact trivial | exact Or.inr rfl | exact Or.inl rfl | (simp only [ob, obA, R32, R64] at *; omega) | (simp only [ob, obA, R32, R64] at *; and_intros <;> omega)) ?_
      refine V_iret dX12_readNumber_19 rfl (by decide) ⟨fun q => absurd q e, fun _ => ⟨rfl, rfl⟩⟩
    · omega
set_option maxRecDepth 100000 in
set_option maxHeartbeats 4000000 in
theorem c_mIs0b {κ : Kx} (hκ : KOK κ) {d q : Nat} {G : Wd} (hb : G.1 145 26 ≠ 0) (hbR : R32 (G.1 145 26)) : Ct κ MX12_is d 0 0 [VR 145, VR q] (Wm G) (keepG G (VI (b2i false))) noX := c_mIs0 hκ hb hbR
set_option maxRecDepth 100000 in
set_option maxHeartbeats 4000000 in
theorem c_mIsMarked0b {κ : Kx} (hκ : KOK κ) {d : Nat} {c : Int} {G : Wd} (hb : G.1 145 26 ≠ 0) (hbR : R32 (G.1 145 26)) : Ct κ MX12_isMarked d 0 0 [VR 145, VI c] (Wm G) (keepG G (VI (b2i false))) noX := c_mIsMarked0 hκ hb hbR
set_option maxRecDepth 100000 in
set_option maxHeartbeats 4000000 in
theorem c_mWhich0 {κ : Kx} (hκ : KOK κ) {d a m s0 : Nat} {G : Wd} (hL : LF.1 a = some (.inr (5, m))) (hm : m ≤ 18) (hS : ∀ i, i < m → LF.2 a i = some (s0 + i)) (hb : G.1 145 26 ≠ 0) (hbR : R32 (G.1 145 26)) (hd : 5 ≤ d) : Ct κ MX12_which d 0 0 [VR 145, VR a] (Wm G) (keepG G (VI (-1))) noX := by
  refine Ct_of hκ kX12_which.1 rfl (Nat.le_of_ble_eq_true rfl) (ls := [some (VR 145), some (VR a), none]) rfl (fun μ => ?_)
  have L : ∀ (y i : Nat) (ii : Int), ii = (i : Int) → i + y = m → V κ MX12_which (rmD d 0 0) (keepG G (VI (-1))) noX 0 0 μ 0 0 (Wm G) 2 [some (VR 145), some (VR a), some (VI ii)] [] := by
    intro y
    induction y with
    | zero =>
      intro i ii hii hk
      refine V_ex sX12_which_2 (by simp only [Option.toList, List.cons_append, List.nil_append, exN, ex1, gI, gL, gR, pI, pL, pR, lget, lset1, lset2, kl, b2I, b2L, nob, ob32, ob64, xGet, xPut, xLen, xLd, xLdR, xSt, obA, true_and, and_true, and_self, eq_self, Nat.reduceEqDiff, Nat.zero_ne_one, reduceIte, Nat.reduceLeDiff, and_false, false_and, hL, upd2_eq, Int.reduceToNat, Int.toNat_natCast]; rfl) (by first | exact trivial | exact Or.inr rfl | exact Or.inl rfl | (simp only [ob, obA, R32, R64] at *; omega) | (simp only [ob, obA, R32, R64] at *; and_intros <;> omega)) ?_
      refine V_icmpge dX12_which_5 (tgt := 26) (by decide) (by simp only [R32, R64] at *; omega) (fun q5 => ?_) (fun q5 => ?_)
      · refine V_ex sX12_which_26 (by rfl) (by first | exact trivial | exact Or.inr rfl | exact Or.inl rfl | (simp only [ob, obA, R32, R64] at *; omega) | (simp only [ob, obA, R32, R64] at *; and_intros <;> omega)) ?_
        refine V_iret dX12_which_27 rfl (by decide) ⟨rfl, rfl⟩
      · omega
    | succ y ih =>
      intro i ii hii hk
      subst hii
      have hsi := hS i (by omega)
      refine V_ex sX12_which_2 (by simp only [Option.toList, List.cons_append, List.nil_append, exN, ex1, gI, gL, gR, pI, pL, pR, lget, lset1, lset2, kl, b2I, b2L, nob, ob32, ob64, xGet, xPut, xLen, xLd, xLdR, xSt, obA, true_and, and_true, and_self, eq_self, Nat.reduceEqDiff, Nat.zero_ne_one, reduceIte, Nat.reduceLeDiff, and_false, false_and, hL, upd2_eq, Int.reduceToNat, Int.toNat_natCast]; rfl) (by first | exact trivial | exact Or.inr rfl | exact Or.inl rfl | (simp only [ob, obA, R32, R64] at *; omega) | (simp only [ob, obA, R32, R64] at *; and_intros <;> omega)) ?_
      refine V_icmpge dX12_which_5 (tgt := 26) (by decide) (by simp only [R32, R64] at *; omega) (fun q5 => ?_) (fun q5 => ?_)
      · omega
      · refine V_ex sX12_which_8 (by simp only [Option.toList, List.cons_append, List.nil_append, exN, ex1, gI, gL, gR, pI, pL, pR, lget, lset1, lset2, kl, b2I, b2L, nob, ob32, ob64, xGet, xPut, xLen, xLd, xLdR, xSt, obA, true_and, and_true, and_self, eq_self, Nat.reduceEqDiff, Nat.zero_ne_one, reduceIte, Nat.reduceLeDiff, and_false, false_and, hL, hsi, upd2_eq, Int.reduceToNat, Int.toNat_natCast]; rfl) (by first | exact trivial | exact Or.inr rfl | exact Or.inl rfl | (simp only [ob, obA, R32, R64] at *; omega) | (simp only [ob, obA, R32, R64] at *; and_intros <;> omega)) ?_
        refine V_callV (M := MX12_which) (N := MX12_is) dX12_which_12 lRX12_238 kX12_is rfl (rfl) rfl (c_mIs0b (d := 4) hκ hb hbR) rfl rfl (Nat.le_of_ble_eq_true rfl) (fit_rm (by omega)) (⟨Nat.le_of_ble_eq_true rfl, Nat.le_of_ble_eq_true rfl⟩) (fun v Ω' hp => ?_) (fun _ _ h => h.elim)
        obtain ⟨rfl, rfl⟩ := hp
        refine V_ifeqB dX12_which_15 (tgt := 20) (by decide) (fun q15 => ?_) (fun q15 => ?_)
        · refine V_ex sX12_which_20 (by rfl) (by first | exact trivial | exact Or.inr rfl | exact Or.inl rfl | (simp only [ob, obA, R32, R64] at *; omega) | (simp only [ob, obA, R32, R64] at *; and_intros <;> omega)) ?_
          refine V_goto dX12_which_23 (tgt := 2) (by decide) ?_
          exact ih (i + 1) _ (by omega) (by omega)
        · exact absurd q15 (by decide)
  refine V_ex sX12_which_0 (by rfl) (by first | exact trivial | exact Or.inr rfl | exact Or.inl rfl | (simp only [ob, obA, R32, R64] at *; omega) | (simp only [ob, obA, R32, R64] at *; and_intros <;> omega)) ?_
  exact L m 0 0 rfl (by omega)
set_option maxRecDepth 100000 in
set_option maxHeartbeats 4000000 in
theorem c_mWhich {κ : Kx} (hκ : KOK κ) (hKS : KS κ) {d n a m s0 w0 : Nat} {t : Tk} {G : Wd} (hL : LF.1 a = some (.inr (5, m))) (hm : w0 + m ≤ 18) (hS : ∀ i, i < m → LF.2 a i = some (s0 + i) ∧ SF κ (s0 + i) (wordT.getD (w0 + i) [])) (hg : mG G n t) (hd : 5 ≤ d) : Ct κ MX12_which d 0 0 [VR 145, VR a] (Wm G) (keepG G (VI (if 256 + (w0 : Int) ≤ t.1 ∧ t.1 < 256 + (w0 : Int) + (m : Int) then t.1 - 256 - (w0 : Int) else -1))) noX := by
  refine Ct_of hκ kX12_which.1 rfl (Nat.le_of_ble_eq_true rfl) (ls := [some (VR 145), some (VR a), none]) rfl (fun μ => ?_)
  have L : ∀ (y i : Nat) (ii : Int), ii = (i : Int) → i + y = m → (∀ j, j < i → t.1 ≠ 256 + (w0 : Int) + (j : Int)) → V κ MX12_which (rmD d 0 0) (keepG G (VI (if 256 + (w0 : Int) ≤ t.1 ∧ t.1 < 256 + (w0 : Int) + (m : Int) then t.1 - 256 - (w0 : Int) else -1))) noX 0 0 μ 0 0 (Wm G) 2 [some (VR 145), some (VR a), some (VI ii)] [] := by
    intro y
    induction y with
    | zero =>
      intro i ii hii hk hn
      refine V_ex sX12_which_2 (by simp only [Option.toList, List.cons_append, List.nil_append, exN, ex1, gI, gL, gR, pI, pL, pR, lget, lset1, lset2, kl, b2I, b2L, nob, ob32, ob64, xGet, xPut, xLen, xLd, xLdR, xSt, obA, true_and, and_true, and_self, eq_self, Nat.reduceEqDiff, Nat.zero_ne_one, reduceIte, Nat.reduceLeDiff, and_false, false_and, hL, upd2_eq, Int.reduceToNat, Int.toNat_natCast]; rfl) (by first | exact trivial | exact Or.inr rfl | exact Or.inl rfl | (simp only [ob, obA, R32, R64] at *; omega) | (simp only [ob, obA, R32, R64] at *; and_intros <;> omega)) ?_
      refine V_icmpge dX12_which_5 (tgt := 26) (by decide) (by simp only [R32, R64] at *; omega) (fun q5 => ?_) (fun q5 => ?_)
      · refine V_ex sX12_which_26 (by rfl) (by first | exact trivial | exact Or.inr rfl | exact Or.inl rfl | (simp only [ob, obA, R32, R64] at *; omega) | (simp only [ob, obA, R32, R64] at *; and_intros <;> omega)) ?_
        refine V_iret dX12_which_27 rfl (by decide) ⟨by rw [if_neg (by intro q; exact hn (t.1 - 256 - (w0 : Int)).toNat (by omega) (by omega))], rfl⟩
      · omega
    | succ y ih =>
      intro i ii hii hk hn
      subst hii
      have hsi := (hS i (by omega)).1
      have hss := (hS i (by omega)).2
      have hq := hss.1
      obtain ⟨-, -, -, b0, h1, -⟩ := id hss
      refine V_ex sX12_which_2 (by simp only [Option.toList, List.cons_append, List.nil_append, exN, ex1, gI, gL, gR, pI, pL, pR, lget, lset1, lset2, kl, b2I, b2L, nob, ob32, ob64, xGet, xPut, xLen, xLd, xLdR, xSt, obA, true_and, and_true, and_self, eq_self, Nat.reduceEqDiff, Nat.zero_ne_one, reduceIte, Nat.reduceLeDiff, and_false, false_and, hL, upd2_eq, Int.reduceToNat, Int.toNat_natCast]; rfl) (by first | exact trivial | exact Or.inr rfl | exact Or.inl rfl | (simp only [ob, obA, R32, R64] at *; omega) | (simp only [ob, obA, R32, R64] at *; and_intros <;> omega)) ?_
      refine V_icmpge dX12_which_5 (tgt := 26) (by decide) (by simp only [R32, R64] at *; omega) (fun q5 => ?_) (fun q5 => ?_)
      · omega
      · refine V_ex sX12_which_8 (by simp only [Option.toList, List.cons_append, List.nil_append, exN, ex1, gI, gL, gR, pI, pL, pR, lget, lset1, lset2, kl, b2I, b2L, nob, ob32, ob64, xGet, xPut, xLen, xLd, xLdR, xSt, obA, true_and, and_true, and_self, eq_self, Nat.reduceEqDiff, Nat.zero_ne_one, reduceIte, Nat.reduceLeDiff, and_false, false_and, hL, hsi, upd2_eq, Int.reduceToNat, Int.toNat_natCast]; rfl) (by first | exact trivial | exact Or.inr rfl | exact Or.inl rfl | (simp only [ob, obA, R32, R64] at *; omega) | (simp only [ob, obA, R32, R64] at *; and_intros <;> omega)) ?_
        refine V_callV (M := MX12_which) (N := MX12_is) dX12_which_12 lRX12_238 kX12_is rfl (rfl) rfl (c_mIs (d := 4) hκ hKS hss (by omega) hg (by omega)) rfl rfl (Nat.le_of_ble_eq_true rfl) (fit_rm (by omega)) (⟨Nat.le_of_ble_eq_true rfl, Nat.le_of_ble_eq_true rfl⟩) (fun v Ω' hp => ?_) (fun _ _ h => h.elim)
        obtain ⟨rfl, rfl⟩ := hp
        refine V_ifeqB dX12_which_15 (tgt := 20) (by decide) (fun q15 => ?_) (fun q15 => ?_)
        · refine V_ex sX12_which_20 (by rfl) (by first | exact trivial | exact Or.inr rfl | exact Or.inl rfl | (simp only [ob, obA, R32, R64] at *; omega) | (simp only [ob, obA, R32, R64] at *; and_intros <;> omega)) ?_
          refine V_goto dX12_which_23 (tgt := 2) (by decide) ?_
          exact ih (i + 1) _ (by omega) (by omega) (fun j hj => by
            by_cases e : j = i
            · subst e; have := of_decide_eq_false q15; omega
            · exact hn j (by omega))
        · refine V_ex sX12_which_18 (by rfl) (by first | exact trivial | exact Or.inr rfl | exact Or.inl rfl | (simp only [ob, obA, R32, R64] at *; omega) | (simp only [ob, obA, R32, R64] at *; and_intros <;> omega)) ?_
          refine V_iret dX12_which_19 rfl (by decide) ?_
          have := of_decide_eq_true q15
          exact ⟨by rw [if_pos (by omega)]; congr 2; omega, rfl⟩
  refine V_ex sX12_which_0 (by rfl) (by first | exact trivial | exact Or.inr rfl | exact Or.inl rfl | (simp only [ob, obA, R32, R64] at *; omega) | (simp only [ob, obA, R32, R64] at *; and_intros <;> omega)) ?_
  exact L m 0 0 rfl (by omega) (fun j hj => absurd hj (by omega))
