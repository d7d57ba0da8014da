/-! THE MODEL's reader: a mark asked for, a number read, one of many words -/
theorem cantW_0 {G : Wd} {k : Int} (h : G.1 145 26 = 0) : cantW G k = uI (uI G 145 26 k) 145 27 (G.1 145 24) := by rw [cantW, if_pos h]
theorem cantW_1 {G : Wd} {k : Int} (h : G.1 145 26 ≠ 0) : cantW G k = G := by rw [cantW, if_neg h]
theorem cantW_26 {G : Wd} {k : Int} (h : G.1 145 26 = 0) : (cantW G k).1 145 26 = k := by rw [cantW_0 h, iv (by omega), iu]
/-- step on, the token being no end -/
def stP (n : Nat) (t : Tk) (G : Wd) : Option Vl → Om → Prop := fun u Ω' => u = none ∧ ∃ G' t' l, Ω' = Wm G' ∧ Fm G G' ∧ tk (G.1 162) n t.2.2.2 = t' :: l ∧ mG G' n t' ∧ (t'.1 ≠ -1 → l = tk (G.1 162) n t'.2.2.2)
set_option maxRecDepth 100000 in
set_option maxHeartbeats 4000000 in
theorem c_mNext {κ : Kx} (hκ : KOK κ) {d n : Nat} {t : Tk} {G : Wd} (hg : mG G n t) (hd : 1 ≤ d) : Ct κ MX12_stepOn d 0 0 [VR 145] (Wm G) (stP n t G) noX := by
  obtain ⟨hx, hF, hA, h26⟩ := hg
  have hi := tkF_is (fun j hj => hx.2.2 j (by have := hx.2.1; omega)) hF
  refine (c_mStepOn hκ hx hA.2.1 hi.2.1 hd).mono (fun v Ω' h => ?_) (fun _ _ h => h)
  obtain ⟨rfl, G', t', l, rfl, f1, h1, h2, h3⟩ := h
  refine ⟨rfl, G', t', l, rfl, f1, h1, ⟨f1.tx hx, ?_, h2, by rw [f1.2 _ _ (by omega)]; exact h26⟩, h3⟩
  rw [f1.tape]
  exact tkF_mem (n - t.2.2.2) t.2.2.2 (Nat.le_refl _) t' (by rw [h1]; exact List.mem_cons_self ..)
set_option maxRecDepth 100000 in
set_option maxHeartbeats 4000000 in
theorem c_mMark0 {κ : Kx} (hκ : KOK κ) {d : Nat} {c : Int} {G : Wd} (hb : G.1 145 26 ≠ 0) (hbR : R32 (G.1 145 26)) : Ct κ MX12_mark d 0 0 [VR 145, VI c] (Wm G) (voidG G) noX := by
  refine Ct_of hκ kX12_mark.1 rfl (Nat.le_of_ble_eq_true rfl) (ls := [some (VR 145), some (VI c)]) rfl (fun μ => ?_)
  refine V_ex sX12_mark_0 (by simp only [Option.toList, List.cons_append, List.nil_append, exN, ex1, gI, gL, gR, pI, pL, pR, lget, lset1, lset2, kl, b2I, b2L, nob, ob32, ob64, xGet, xPut, xLen, xLd, xLdR, xSt, obA, true_and, and_true, and_self, eq_self, Nat.reduceEqDiff, Nat.zero_ne_one, reduceIte, Nat.reduceLeDiff, and_false, false_and, show skd 11 26 = 0 from rfl, show LF.1 145 = some (.inl 11) from rfl, upd2_eq, Int.reduceToNat, Int.toNat_natCast]; rfl) (by first | exact trivial | exact Or.inr rfl | exact Or.inl rfl | (simp only [ob, obA, R32, R64] at *; omega) | (simp only [ob, obA, R32, R64] at *; and_intros <;> omega)) ?_
  refine V_ifne dX12_mark_4 (tgt := 20) (by decide) (by exact hbR) (fun q4 => ?_) (fun q4 => ?_)
  · refine V_ex sX12_mark_20 (by simp only [Option.toList, List.cons_append, List.nil_append, exN, ex1, gI, gL, gR, pI, pL, pR, lget, lset1, lset2, kl, b2I, b2L, nob, ob32, ob64, xGet, xPut, xLen, xLd, xLdR, xSt, obA, true_and, and_true, and_self, eq_self, Nat.reduceEqDiff, Nat.zero_ne_one, reduceIte, Nat.reduceLeDiff, and_false, false_and, show skd 11 26 = 0 from rfl, show LF.1 145 = some (.inl 11) from rfl, upd2_eq, Int.reduceToNat, Int.toNat_natCast]; rfl) (by first | exact trivial | exact Or.inr rfl | exact Or.inl rfl | (simp only [ob, obA, R32, R64] at *; omega) | (simp only [ob, obA, R32, R64] at *; and_intros <;> omega)) ?_
    refine V_ifne dX12_mark_24 (tgt := 31) (by decide) (by exact hbR) (fun q24 => ?_) (fun q24 => ?_)
    · refine V_vret dX12_mark_31 rfl (by decide) ⟨rfl, rfl⟩
    · omega
  · omega
set_option maxRecDepth 100000 in
set_option maxHeartbeats 4000000 in
theorem c_mMark {κ : Kx} (hκ : KOK κ) {d n : Nat} {c : Int} {t : Tk} {G : Wd} (hg : mG G n t) (hc : isMk c = true) (hcR : 0 ≤ c ∧ c ≤ 127) (hd : 2 ≤ d) : Ct κ MX12_mark d 0 0 [VR 145, VI c] (Wm G) (fun u Ω' => (t.1 = c → stP n t G u Ω') ∧ (t.1 ≠ c → u = none ∧ Ω' = Wm (cantW G 1))) noX := by
  refine Ct_of hκ kX12_mark.1 rfl (Nat.le_of_ble_eq_true rfl) (ls := [some (VR 145), some (VI c)]) rfl (fun μ => ?_)
  have h26 := hg.2.2.2
  have hcw : (cantW G 1).1 145 26 = 1 := cantW_26 h26
  by_cases e : t.1 = c
  · refine V_ex sX12_mark_0 (by simp only [Option.toList, List.cons_append, List.nil_append, exN, ex1, gI, gL, gR, pI, pL, pR, lget, lset1, lset2, kl, b2I, b2L, nob, ob32, ob64, xGet, xPut, xLen, xLd, xLdR, xSt, obA, true_and, and_true, and_self, eq_self, Nat.reduceEqDiff, Nat.zero_ne_one, reduceIte, Nat.reduceLeDiff, and_false, false_and, show skd 11 26 = 0 from rfl, show LF.1 145 = some (.inl 11) from rfl, h26, upd2_eq, Int.reduceToNat, Int.toNat_natCast]; rfl) (by first | exact trivial | exact Or.inr rfl | exact Or.inl rfl | (simp only [ob, obA, R32, R64] at *; omega) | (simp only [ob, obA, R32, R64] at *; and_intros <;> omega)) ?_
    refine V_ifne dX12_mark_4 (tgt := 20) (by decide) (by simp only [R32, R64] at *; omega) (fun q4 => ?_) (fun q4 => ?_)
    · exact absurd rfl q4
    · refine V_ex sX12_mark_7 (by rfl) (by first | exact trivial | exact Or.inr rfl | exact Or.inl rfl | (simp only [ob, obA, R32, R64] at *; omega) | (simp only [ob, obA, R32, R64] at *; and_intros <;> omega)) ?_
      refine V_callV (M := MX12_mark) (N := MX12_isMarked) dX12_mark_9 lRX12_242 kX12_isMarked rfl (rfl) rfl (c_mIsMarked (d := 1) hκ hg hc hcR) rfl rfl (Nat.le_of_ble_eq_true rfl) (fit_rm (by omega)) (⟨Nat.le_of_ble_eq_true rfl, Nat.le_of_ble_eq_true rfl⟩) (fun v Ω' hp => ?_) (fun _ _ h => h.elim)
      obtain ⟨rfl, rfl⟩ := hp
      rw [decide_eq_true e]
      refine V_ifneB dX12_mark_12 (tgt := 20) (by decide) (fun q12 => ?_) (fun q12 => ?_)
      · refine V_ex sX12_mark_20 (by simp only [Option.toList, List.cons_append, List.nil_append, exN, ex1, gI, gL, gR, pI, pL, pR, lget, lset1, lset2, kl, b2I, b2L, nob, ob32, ob64, xGet, xPut, xLen, xLd, xLdR, xSt, obA, true_and, and_true, and_self, eq_self, Nat.reduceEqDiff, Nat.zero_ne_one, reduceIte, Nat.reduceLeDiff, and_false, false_and, show skd 11 26 = 0 from rfl, show LF.1 145 = some (.inl 11) from rfl, h26, upd2_eq, Int.reduceToNat, Int.toNat_natCast]; rfl) (by first | exact trivial | exact Or.inr rfl | exact Or.inl rfl | (simp only [ob, obA, R32, R64] at *; omega) | (simp only [ob, obA, R32, R64] at *; and_intros <;> omega)) ?_
        refine V_ifne dX12_mark_24 (tgt := 31) (by decide) (by simp only [R32, R64] at *; omega) (fun q24 => ?_) (fun q24 => ?_)
        · exact absurd rfl q24
        · refine V_ex sX12_mark_27 (by rfl) (by first | exact trivial | exact Or.inr rfl | exact Or.inl rfl | (simp only [ob, obA, R32, R64] at *; omega) | (simp only [ob, obA, R32, R64] at *; and_intros <;> omega)) ?_
          refine V_callV (M := MX12_mark) (N := MX12_stepOn) dX12_mark_28 lRX12_249 kX12_stepOn rfl (rfl) rfl (c_mNext (d := 1) hκ hg (by omega)) rfl rfl (Nat.le_of_ble_eq_true rfl) (fit_rm (by omega)) (⟨Nat.le_of_ble_eq_true rfl, Nat.le_of_ble_eq_true rfl⟩) (fun v Ω' hp => ?_) (fun _ _ h => h.elim)
          have hp0 := hp
          obtain ⟨rfl, G', t', l, rfl, hq⟩ := hp
          refine V_vret dX12_mark_31 rfl (by decide) ⟨fun _ => hp0, fun q => absurd e q⟩
      · exact absurd q12 (by decide)
  · refine V_ex sX12_mark_0 (by simp only [Option.toList, List.cons_append, List.nil_append, exN, ex1, gI, gL, gR, pI, pL, pR, lget, lset1, lset2, kl, b2I, b2L, nob, ob32, ob64, xGet, xPut, xLen, xLd, xLdR, xSt, obA, true_and, and_true, and_self, eq_self, Nat.reduceEqDiff, Nat.zero_ne_one, reduceIte, Nat.reduceLeDiff, and_false, false_and, show skd 11 26 = 0 from rfl, show LF.1 145 = some (.inl 11) from rfl, h26, hcw, upd2_eq, Int.reduceToNat, Int.toNat_natCast]; rfl) (by first | exact trivial | exact Or.inr rfl | exact Or.inl rfl | (simp only [ob, obA, R32, R64] at *; omega) | (simp only [ob, obA, R32, R64] at *; and_intros <;> omega)) ?_
    refine V_ifne dX12_mark_4 (tgt := 20) (by decide) (by simp only [R32, R64] at *; omega) (fun q4 => ?_) (fun q4 => ?_)
    · exact absurd rfl q4
    · refine V_ex sX12_mark_7 (by rfl) (by first | exact trivial | exact Or.inr rfl | exact Or.inl rfl | (simp only [ob, obA, R32, R64] at *; omega) | (simp only [ob, obA, R32, R64] at *; and_intros <;> omega)) ?_
      refine V_callV (M := MX12_mark) (N := MX12_isMarked) dX12_mark_9 lRX12_242 kX12_isMarked rfl (rfl) rfl (c_mIsMarked (d := 1) hκ hg hc hcR) rfl rfl (Nat.le_of_ble_eq_true rfl) (fit_rm (by omega)) (⟨Nat.le_of_ble_eq_true rfl, Nat.le_of_ble_eq_true rfl⟩) (fun v Ω' hp => ?_) (fun _ _ h => h.elim)
      obtain ⟨rfl, rfl⟩ := hp
      rw [decide_eq_false e]
      refine V_ifneB dX12_mark_12 (tgt := 20) (by decide) (fun q12 => ?_) (fun q12 => ?_)
      · exact absurd q12 (by decide)
      · refine V_ex sX12_mark_15 (by rfl) (by first | exact trivial | exact Or.inr rfl | exact Or.inl rfl | (simp only [ob, obA, R32, R64] at *; omega) | (simp only [ob, obA, R32, R64] at *; and_intros <;> omega)) ?_
        refine V_callV (M := MX12_mark) (N := MX12_cant) dX12_mark_17 lRX12_245 kX12_cant rfl (rfl) rfl (c_mCant (d := 1) hκ (by rw [h26]; unfold R32; omega)) rfl rfl (Nat.le_of_ble_eq_true rfl) (fit_rm (by omega)) (⟨Nat.le_of_ble_eq_true rfl, Nat.le_of_ble_eq_true rfl⟩) (fun v Ω' hp => ?_) (fun _ _ h => h.elim)
        obtain ⟨rfl, rfl⟩ := hp
        refine V_ex sX12_mark_20 (by simp only [Option.toList, List.cons_append, List.nil_append, exN, ex1, gI, gL, gR, pI, pL, pR, lget, lset1, lset2, kl, b2I, b2L, nob, ob32, ob64, xGet, xPut, xLen, xLd, xLdR, xSt, obA, true_and, and_true, and_self, eq_self, Nat.reduceEqDiff, Nat.zero_ne_one, reduceIte, Nat.reduceLeDiff, and_false, false_and, show skd 11 26 = 0 from rfl, show LF.1 145 = some (.inl 11) from rfl, h26, hcw, upd2_eq, Int.reduceToNat, Int.toNat_natCast]; rfl) (by first | exact trivial | exact Or.inr rfl | exact Or.inl rfl | (simp only [ob, obA, R32, R64] at *; omega) | (simp only [ob, obA, R32, R64] at *; and_intros <;> omega)) ?_
        refine V_ifne dX12_mark_24 (tgt := 31) (by decide) (by simp only [R32, R64] at *; omega) (fun q24 => ?_) (fun q24 => ?_)
        · refine V_vret dX12_mark_31 rfl (by decide) ⟨fun q => absurd q e, fun _ => ⟨rfl, rfl⟩⟩
        · omega
/-- the fault of a number asked for at t -/
def pN (t : Tk) (lo hi : Int) : Int := if t.1 ≠ -2 then 1 else if t.2.1 < lo ∨ hi < t.2.1 then 2 else 0
theorem pN_R (t : Tk) (lo hi : Int) : 0 ≤ pN t lo hi ∧ pN t lo hi ≤ 2 := by unfold pN; split <;> (try split) <;> decide
set_option maxRecDepth 100000 in
set_option maxHeartbeats 4000000 in
theorem c_mNumNow0 {κ : Kx} (hκ : KOK κ) {d : Nat} {lo hh : Int} {G : Wd} (hb : G.1 145 26 ≠ 0) (hbR : R32 (G.1 145 26)) : Ct κ MX12_numberNow d 0 0 [VR 145, VI lo, VI hh] (Wm G) (keepG G (VI 0)) noX := by
  refine Ct_of hκ kX12_numberNow.1 rfl (Nat.le_of_ble_eq_true rfl) (ls := [some (VR 145), some (VI lo), some (VI hh)]) rfl (fun μ => ?_)
  refine V_ex sX12_numberNow_0 (by simp only [Option.toList, List.cons_append, List.nil_append, exN, ex1, gI, gL, gR, pI, pL, pR, lget, lset1, lset2, kl, b2I, b2L, nob, ob32, ob64, xGet, xPut, xLen, xLd, xLdR, xSt, obA, true_and, and_true, and_self, eq_self, Nat.reduceEqDiff, Nat.zero_ne_one, reduceIte, Nat.reduceLeDiff, and_false, false_and, show skd 11 26 = 0 from rfl, show LF.1 145 = some (.inl 11) from rfl, upd2_eq, Int.reduceToNat, Int.toNat_natCast]; rfl) (by first | exact trivial | exact Or.inr rfl | exact Or.inl rfl | (simp only [ob, obA, R32, R64] at *; omega) | (simp only [ob, obA, R32, R64] at *; and_intros <;> omega)) ?_
  refine V_ifeq dX12_numberNow_4 (tgt := 9) (by decide) (by exact hbR) (fun q4 => ?_) (fun q4 => ?_)
  · omega
  · refine V_ex sX12_numberNow_7 (by rfl) (by first | exact trivial | exact Or.inr rfl | exact Or.inl rfl | (simp only [ob, obA, R32, R64] at *; omega) | (simp only [ob, obA, R32, R64] at *; and_intros <;> omega)) ?_
    refine V_iret dX12_numberNow_8 rfl (by decide) ⟨rfl, rfl⟩
set_option maxRecDepth 100000 in
set_option maxHeartbeats 4000000 in
theorem c_mNumNow {κ : Kx} (hκ : KOK κ) {d n : Nat} {lo hh : Int} {t : Tk} {G : Wd} (hg : mG G n t) (hlo : 0 ≤ lo ∧ lo ≤ 9999) (hhi : 0 ≤ hh ∧ hh ≤ 9999) (hd : 1 ≤ d) : Ct κ MX12_numberNow d 0 0 [VR 145, VI lo, VI hh] (Wm G) (fun u Ω' => u = some (VI (if pN t lo hh = 0 then t.2.1 else 0)) ∧ Ω' = Wm (if pN t lo hh = 0 then G else cantW G (pN t lo hh))) noX := by
  refine Ct_of hκ kX12_numberNow.1 rfl (Nat.le_of_ble_eq_true rfl) (ls := [some (VR 145), some (VI lo), some (VI hh)]) rfl (fun μ => ?_)
  obtain ⟨hx, hF, hA, h26⟩ := hg
  obtain ⟨a1, a2, a3, a4, a5⟩ := hA
  obtain ⟨f1, f2, f3, f4, f5, f6, f7, f8, f9⟩ := tkF_is (fun j hj => hx.2.2 j (by have := hx.2.1; omega)) hF
  obtain ⟨x1, x2, x3⟩ := hx
  have hkd := kd_2 t.1
  have hkR := kd_R t.1
  have hcw : ∀ k : Int, (cantW G k).1 145 26 = k := fun k => cantW_26 h26
  have no : ∀ k : Int, k ≠ 0 → pN t lo hh = k → ((some (VI 0) : Option Vl) = some (VI (if pN t lo hh = 0 then t.2.1 else 0)) ∧ Wm (cantW G k) = Wm (if pN t lo hh = 0 then G else cantW G (pN t lo hh))) := fun k hk e => ⟨by rw [if_neg (by omega)], by rw [if_neg (by omega), e]⟩
  refine V_ex sX12_numberNow_0 (by simp only [Option.toList, List.cons_append, List.nil_append, exN, ex1, gI, gL, gR, pI, pL, pR, lget, lset1, lset2, kl, b2I, b2L, nob, ob32, ob64, xGet, xPut, xLen, xLd, xLdR, xSt, obA, true_and, and_true, and_self, eq_self, Nat.reduceEqDiff, Nat.zero_ne_one, reduceIte, Nat.reduceLeDiff, and_false, false_and, show skd 11 26 = 0 from rfl, show LF.1 145 = some (.inl 11) from rfl, h26, upd2_eq, Int.reduceToNat, Int.toNat_natCast]; rfl) (by first | exact trivial | exact Or.inr rfl | exact Or.inl rfl | (simp only [ob, obA, R32, R64] at *; omega) | (simp only [ob, obA, R32, R64] at *; and_intros <;> omega)) ?_
  refine V_ifeq dX12_numberNow_4 (tgt := 9) (by decide) (by simp only [R32, R64] at *; omega) (fun q4 => ?_) (fun q4 => ?_)
  · refine V_ex sX12_numberNow_9 (by simp only [Option.toList, List.cons_append, List.nil_append, exN, ex1, gI, gL, gR, pI, pL, pR, lget, lset1, lset2, kl, b2I, b2L, nob, ob32, ob64, xGet, xPut, xLen, xLd, xLdR, xSt, obA, true_and, and_true, and_self, eq_self, Nat.reduceEqDiff, Nat.zero_ne_one, reduceIte, Nat.reduceLeDiff, and_false, false_and, show skd 11 21 = 0 from rfl, show LF.1 145 = some (.inl 11) from rfl, a4, upd2_eq, Int.reduceToNat, Int.toNat_natCast]; rfl) (by first | exact trivial | exact Or.inr rfl | exact Or.inl rfl | (simp only [ob, obA, R32, R64] at *; omega) | (simp only [ob, obA, R32, R64] at *; and_intros <;> omega)) ?_
    refine V_icmpeq dX12_numberNow_14 (tgt := 25) (by decide) (by simp only [R32, R64] at *; omega) (fun q14 => ?_) (fun q14 => ?_)
    · have h2 := hkd.mp q14
      have h7 := f7 h2
      refine V_ex sX12_numberNow_25 (by simp only [Option.toList, List.cons_append, List.nil_append, exN, ex1, gI, gL, gR, pI, pL, pR, lget, lset1, lset2, kl, b2I, b2L, nob, ob32, ob64, xGet, xPut, xLen, xLd, xLdR, xSt, obA, true_and, and_true, and_self, eq_self, Nat.reduceEqDiff, Nat.zero_ne_one, reduceIte, Nat.reduceLeDiff, and_false, false_and, show skd 11 25 = 0 from rfl, show skd 11 24 = 0 from rfl, show LF.1 145 = some (.inl 11) from rfl, a1, a3, upd2_eq, Int.reduceToNat, Int.toNat_natCast]; rfl) (by first | exact trivial | exact Or.inr rfl | exact Or.inl rfl | (simp only [ob, obA, R32, R64] at *; omega) | (simp only [ob, obA, R32, R64] at *; and_intros <;> omega)) ?_
      refine V_icmpgt dX12_numberNow_35 (tgt := 54) (by decide) (by simp only [R32, R64] at *; omega) (fun q35 => ?_) (fun q35 => ?_)
      · refine V_ex sX12_numberNow_54 (by rfl) (by first | exact trivial | exact Or.inr rfl | exact Or.inl rfl | (simp only [ob, obA, R32, R64] at *; omega) | (simp only [ob, obA, R32, R64] at *; and_intros <;> omega)) ?_
        refine V_callV (M := MX12_numberNow) (N := MX12_cant) dX12_numberNow_56 lRX12_245 kX12_cant rfl (rfl) rfl (c_mCant (d := 0) hκ (by rw [h26]; unfold R32; omega)) rfl rfl (Nat.le_of_ble_eq_true rfl) (fit_rm (by omega)) (⟨Nat.le_of_ble_eq_true rfl, Nat.le_of_ble_eq_true rfl⟩) (fun v Ω' hp => ?_) (fun _ _ h => h.elim)
        obtain ⟨rfl, rfl⟩ := hp
        refine V_ex sX12_numberNow_59 (by simp only [Option.toList, List.cons_append, List.nil_append, exN, ex1, gI, gL, gR, pI, pL, pR, lget, lset1, lset2, kl, b2I, b2L, nob, ob32, ob64, xGet, xPut, xLen, xLd, xLdR, xSt, obA, true_and, and_true, and_self, eq_self, Nat.reduceEqDiff, Nat.zero_ne_one, reduceIte, Nat.reduceLeDiff, and_false, false_and, show skd 11 26 = 0 from rfl, show LF.1 145 = some (.inl 11) from rfl, hcw, h26, upd2_eq, Int.reduceToNat, Int.toNat_natCast]; rfl) (by first | exact trivial | exact Or.inr rfl | exact Or.inl rfl | (simp only [ob, obA, R32, R64] at *; omega) | (simp only [ob, obA, R32, R64] at *; and_intros <;> omega)) ?_
        refine V_ifne dX12_numberNow_63 (tgt := 73) (by decide) (by simp only [R32, R64] at *; omega) (fun q63 => ?_) (fun q63 => ?_)
        · refine V_ex sX12_numberNow_73 (by rfl) (by first | exact trivial | exact Or.inr rfl | exact Or.inl rfl | (simp only [ob, obA, R32, R64] at *; omega) | (simp only [ob, obA, R32, R64] at *; and_intros <;> omega)) ?_
          refine V_iret dX12_numberNow_74 rfl (by decide) (by first | exact no 1 (by decide) (by rw [pN, if_pos (fun e => q14 (hkd.mpr e))]) | exact no 2 (by decide) (by rw [pN, if_neg (not_not_intro h2), if_pos (by omega)]) | exact ⟨by rw [if_pos (by rw [pN, if_neg (not_not_intro h2), if_neg (by omega)])], by rw [if_pos (by rw [pN, if_neg (not_not_intro h2), if_neg (by omega)])]⟩)
        · omega
      · have h5 := a5 h2 (by omega)
        refine V_ex sX12_numberNow_38 (by simp only [Option.toList, List.cons_append, List.nil_append, exN, ex1, gI, gL, gR, pI, pL, pR, lget, lset1, lset2, kl, b2I, b2L, nob, ob32, ob64, xGet, xPut, xLen, xLd, xLdR, xSt, obA, true_and, and_true, and_self, eq_self, Nat.reduceEqDiff, Nat.zero_ne_one, reduceIte, Nat.reduceLeDiff, and_false, false_and, show skd 11 22 = 0 from rfl, show LF.1 145 = some (.inl 11) from rfl, h5, upd2_eq, Int.reduceToNat, Int.toNat_natCast]; rfl) (by first | exact trivial | exact Or.inr rfl | exact Or.inl rfl | (simp only [ob, obA, R32, R64] at *; omega) | (simp only [ob, obA, R32, R64] at *; and_intros <;> omega)) ?_
        refine V_icmplt dX12_numberNow_43 (tgt := 54) (by decide) (by simp only [R32, R64] at *; omega) (fun q43 => ?_) (fun q43 => ?_)
        · refine V_ex sX12_numberNow_54 (by rfl) (by first | exact trivial | exact Or.inr rfl | exact Or.inl rfl | (simp only [ob, obA, R32, R64] at *; omega) | (simp only [ob, obA, R32, R64] at *; and_intros <;> omega)) ?_
          refine V_callV (M := MX12_numberNow) (N := MX12_cant) dX12_numberNow_56 lRX12_245 kX12_cant rfl (rfl) rfl (c_mCant (d := 0) hκ (by rw [h26]; unfold R32; omega)) rfl rfl (Nat.le_of_ble_eq_true rfl) (fit_rm (by omega)) (⟨Nat.le_of_ble_eq_true rfl, Nat.le_of_ble_eq_true rfl⟩) (fun v Ω' hp => ?_) (fun _ _ h => h.elim)
          obtain ⟨rfl, rfl⟩ := hp
          refine V_ex sX12_numberNow_59 (by simp only [Option.toList, List.cons_append, List.nil_append, exN, ex1, gI, gL, gR, pI, pL, pR, lget, lset1, lset2, kl, b2I, b2L, nob, ob32, ob64, xGet, xPut, xLen, xLd, xLdR, xSt, obA, true_and, and_true, and_self, eq_self, Nat.reduceEqDiff, Nat.zero_ne_one, reduceIte, Nat.reduceLeDiff, and_false, false_and, show skd 11 26 = 0 from rfl, show LF.1 145 = some (.inl 11) from rfl, hcw, h26, upd2_eq, Int.reduceToNat, Int.toNat_natCast]; rfl) (by first | exact trivial | exact Or.inr rfl | exact Or.inl rfl | (simp only [ob, obA, R32, R64] at *; omega) | (simp only [ob, obA, R32, R64] at *; and_intros <;> omega)) ?_
          refine V_ifne dX12_numberNow_63 (tgt := 73) (by decide) (by simp only [R32, R64] at *; omega) (fun q63 => ?_) (fun q63 => ?_)
          · refine V_ex sX12_numberNow_73 (by rfl) (by first | exact trivial | exact Or.inr rfl | exact Or.inl rfl | (simp only [ob, obA, R32, R64] at *; omega) | (simp only [ob, obA, R32, R64] at *; and_intros <;> omega)) ?_
            refine V_iret dX12_numberNow_74 rfl (by decide) (by first | exact no 1 (by decide) (by rw [pN, if_pos (fun e => q14 (hkd.mpr e))]) | exact no 2 (by decide) (by rw [pN, if_neg (not_not_intro h2), if_pos (by omega)]) | exact ⟨by rw [if_pos (by rw [pN, if_neg (not_not_intro h2), if_neg (by omega)])], by rw [if_pos (by rw [pN, if_neg (not_not_intro h2), if_neg (by omega)])]⟩)
          · omega
        · refine V_ex sX12_numberNow_46 (by simp only [Option.toList, List.cons_append, List.nil_append, exN, ex1, gI, gL, gR, pI, pL, pR, lget, lset1, lset2, kl, b2I, b2L, nob, ob32, ob64, xGet, xPut, xLen, xLd, xLdR, xSt, obA, true_and, and_true, and_self, eq_self, Nat.reduceEqDiff, Nat.zero_ne_one, reduceIte, Nat.reduceLeDiff, and_false, false_and, show skd 11 22 = 0 from rfl, show LF.1 145 = some (.inl 11) from rfl, h5, upd2_eq, Int.reduceToNat, Int.toNat_natCast]; rfl) (by first | exact trivial | exact Or.inr rfl | exact Or.inl rfl | (simp only [ob, obA, R32, R64] at *; omega) | (simp only [ob, obA, R32, R64] at *; and_intros <;> omega)) ?_
          refine V_icmple dX12_numberNow_51 (tgt := 59) (by decide) (by simp only [R32, R64] at *; omega) (fun q51 => ?_) (fun q51 => ?_)
          · refine V_ex sX12_numberNow_59 (by simp only [Option.toList, List.cons_append, List.nil_append, exN, ex1, gI, gL, gR, pI, pL, pR, lget, lset1, lset2, kl, b2I, b2L, nob, ob32, ob64, xGet, xPut, xLen, xLd, xLdR, xSt, obA, true_and, and_true, and_self, eq_self, Nat.reduceEqDiff, Nat.zero_ne_one, reduceIte, Nat.reduceLeDiff, and_false, false_and, show skd 11 26 = 0 from rfl, show LF.1 145 = some (.inl 11) from rfl, hcw, h26, upd2_eq, Int.reduceToNat, Int.toNat_natCast]; rfl) (by first | exact trivial | exact Or.inr rfl | exact Or.inl rfl | (simp only [ob, obA, R32, R64] at *; omega) | (simp only [ob, obA, R32, R64] at *; and_intros <;> omega)) ?_
            refine V_ifne dX12_numberNow_63 (tgt := 73) (by decide) (by simp only [R32, R64] at *; omega) (fun q63 => ?_) (fun q63 => ?_)
            · exact absurd rfl q63
            · refine V_ex sX12_numberNow_66 (by simp only [Option.toList, List.cons_append, List.nil_append, exN, ex1, gI, gL, gR, pI, pL, pR, lget, lset1, lset2, kl, b2I, b2L, nob, ob32, ob64, xGet, xPut, xLen, xLd, xLdR, xSt, obA, true_and, and_true, and_self, eq_self, Nat.reduceEqDiff, Nat.zero_ne_one, reduceIte, Nat.reduceLeDiff, and_false, false_and, show skd 11 22 = 0 from rfl, show LF.1 145 = some (.inl 11) from rfl, h5, upd2_eq, Int.reduceToNat, Int.toNat_natCast]; rfl) (by first | exact trivial | exact Or.inr rfl | exact Or.inl rfl | (simp only [ob, obA, R32, R64] at *; omega) | (simp only [ob, obA, R32, R64] at *; and_intros <;> omega)) ?_
              refine V_goto dX12_numberNow_70 (tgt := 74) (by decide) ?_
              refine V_iret dX12_numberNow_74 rfl (by decide) (by first | exact no 1 (by decide) (by rw [pN, if_pos (fun e => q14 (hkd.mpr e))]) | exact no 2 (by decide) (by rw [pN, if_neg (not_not_intro h2), if_pos (by omega)]) | exact ⟨by rw [if_pos (by rw [pN, if_neg (not_not_intro h2), if_neg (by omega)])], by rw [if_pos (by rw [pN, if_neg (not_not_intro h2), if_neg (by omega)])]⟩)
          · refine V_ex sX12_numberNow_54 (by rfl) (by first | exact trivial | exact Or.inr rfl | exact Or.inl rfl | (simp only [ob, obA, R32, R64] at *; omega) | (simp only [ob, obA, R32, R64] at *; and_intros <;> omega)) ?_
            refine V_callV (M := MX12_numberNow) (N := MX12_cant) dX12_numberNow_56 lRX12_245 kX12_cant rfl (rfl) rfl (c_mCant (d := 0) hκ (by rw [h26]; unfold R32; omega)) rfl rfl (Nat.le_of_ble_eq_true rfl) (fit_rm (by omega)) (⟨Nat.le_of_ble_eq_true rfl, Nat.le_of_ble_eq_true rfl⟩) (fun v Ω' hp => ?_) (fun _ _ h => h.elim)
            obtain ⟨rfl, rfl⟩ := hp
            refine V_ex sX12_numberNow_59 (by simp only [Option.toList, List.cons_append, List.nil_append, exN, ex1, gI, gL, gR, pI, pL, pR, lget, lset1, lset2, kl, b2I, b2L, nob, ob32, ob64, xGet, xPut, xLen, xLd, xLdR, xSt, obA, true_and, and_true, and_self, eq_self, Nat.reduceEqDiff, Nat.zero_ne_one, reduceIte, Nat.reduceLeDiff, and_false, false_and, show skd 11 26 = 0 from rfl, show LF.1 145 = some (.inl 11) from rfl, hcw, h26, upd2_eq, Int.reduceToNat, Int.toNat_natCast]; rfl) (by first | exact trivial | exact Or.inr rfl | exact Or.inl rfl | (simp only [ob, obA, R32, R64] at *; omega) | (simp only [ob, obA, R32, R64] at *; and_intros <;> omega)) ?_
            refine V_ifne dX12_numberNow_63 (tgt := 73) (by decide) (by simp only [R32, R64] at *; omega) (fun q63 => ?_) (fun q63 => ?_)
            · refine V_ex sX12_numberNow_73 (by rfl) (by first | exact trivial | exact Or.inr rfl | exact Or.inl rfl | (simp only [ob, obA, R32, R64] at *; omega) | (simp only [ob, obA, R32, R64] at *; and_intros <;> omega)) ?_
              refine V_iret dX12_numberNow_74 rfl (by decide) (by first | exact no 1 (by decide) (by rw [pN, if_pos (fun e => q14 (hkd.mpr e))]) | exact no 2 (by decide) (by rw [pN, if_neg (not_not_intro h2), if_pos (by omega)]) | exact ⟨by rw [if_pos (by rw [pN, if_neg (not_not_intro h2), if_neg (by omega)])], by rw [if_pos (by rw [pN, if_neg (not_not_intro h2), if_neg (by omega)])]⟩)
            · omega
    · refine V_ex sX12_numberNow_17 (by rfl) (by first | exact trivial | exact Or.inr rfl | exact Or.inl rfl | (simp only [ob, obA, R32, R64] at *; omega) | (simp only [ob, obA, R32, R64] at *; and_intros <;> omega)) ?_
      refine V_callV (M := MX12_numberNow) (N := MX12_cant) dX12_numberNow_19 lRX12_245 kX12_cant rfl (rfl) rfl (c_mCant (d := 0) hκ (by rw [h26]; unfold R32; omega)) rfl rfl (Nat.le_of_ble_eq_true rfl) (fit_rm (by omega)) (⟨Nat.le_of_ble_eq_true rfl, Nat.le_of_ble_eq_true rfl⟩) (fun v Ω' hp => ?_) (fun _ _ h => h.elim)
      obtain ⟨rfl, rfl⟩ := hp
      refine V_goto dX12_numberNow_22 (tgt := 59) (by decide) ?_
      refine V_ex sX12_numberNow_59 (by simp only [Option.toList, List.cons_append, List.nil_append, exN, ex1, gI, gL, gR, pI, pL, pR, lget, lset1, lset2, kl, b2I, b2L, nob, ob32, ob64, xGet, xPut, xLen, xLd, xLdR, xSt, obA, true_and, and_true, and_self, eq_self, Nat.reduceEqDiff, Nat.zero_ne_one, reduceIte, Nat.reduceLeDiff, and_false, false_and, show skd 11 26 = 0 from rfl, show LF.1 145 = some (.inl 11) from rfl, hcw, h26, upd2_eq, Int.reduceToNat, Int.toNat_natCast]; rfl) (by first | exact trivial | exact Or.inr rfl | exact Or.inl rfl | (simp only [ob, obA, R32, R64] at *; omega) | (simp only [ob, obA, R32, R64] at *; and_intros <;> omega)) ?_
      refine V_ifne dX12_numberNow_63 (tgt := 73) (by decide) (by simp only [R32, R64] at *; omega) (fun q63 => ?_) (fun q63 => ?_)
      · refine V_ex sX12_numberNow_73 (by rfl) (by first | exact trivial | exact Or.inr rfl | exact Or.inl rfl | (simp only [ob, obA, R32, R64] at *; omega) | (simp only [ob, obA, R32, R64] at *; and_intros <;> omega)) ?_
        refine V_iret dX12_numberNow_74 rfl (by decide) (by first | exact no 1 (by decide) (by rw [pN, if_pos (fun e => q14 (hkd.mpr e))]) | exact no 2 (by decide) (by rw [pN, if_neg (not_not_intro h2), if_pos (by omega)]) | exact ⟨by rw [if_pos (by rw [pN, if_neg (not_not_intro h2), if_neg (by omega)])], by rw [if_pos (by rw [pN, if_neg (not_not_intro h2), if_neg (by omega)])]⟩)
      · omega
  · exact absurd rfl q4
