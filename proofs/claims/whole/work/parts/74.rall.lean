/-! ShelfReader: a line, all lines -/
set_option maxRecDepth 100000 in
set_option maxHeartbeats 4000000 in
theorem c_rLine {κ : Kx} (hκ : KOK κ) {d s N : Nat} {w v : Nat → Int} {S : Sh} (hE : eE s w v N) {G : Wd} {i : Nat} (h : lH s w v N G i S) (hd : 47 ≤ d) : Ct κ MX8_readLine d 0 0 [VR 3, VR s] (Wm G) (lP s G (pLine w v i S)) noX := by
  refine Ct_of hκ kX8_readLine.1 rfl (Nat.le_of_ble_eq_true rfl) (ls := [some (VR 3), some (VR s)]) rfl (fun μ => ?_)
  have hE0 := hE
  have h0 := h
  obtain ⟨hS, hT, hN, hw⟩ := hE
  obtain ⟨hr, hi, hiN, hC, hO⟩ := h
  have e5 := (hr i (by omega)).1
  have hwi := hw i (by omega)
  refine V_ex sX8_readLine_0 (by simp only [Option.toList, List.cons_append, List.nil_append, exN, ex1, gI, gL, gR, pI, pL, pR, lget, lset1, lset2, kl, b2I, b2L, nob, ob32, ob64, xGet, xPut, xLen, xLd, xLdR, xSt, obA, true_and, and_true, and_self, eq_self, Nat.reduceEqDiff, Nat.zero_ne_one, reduceIte, Nat.reduceLeDiff, and_false, false_and, show skd 7 0 = 2 from rfl, show LF.1 3 = some (.inl 7) from rfl, show LF.2 3 0 = some 4 from rfl, upd2_eq, Int.reduceToNat, Int.toNat_natCast]; rfl) (by first | exact trivial | exact Or.inr rfl | exact Or.inl rfl | (simp only [ob, obA, R32, R64] at *; omega) | (simp only [ob, obA, R32, R64] at *; and_intros <;> omega)) ?_
  refine V_callV (M := MX8_readLine) (N := MX9_what) dX8_readLine_4 lRX8_55 kX9_what rfl (rfl) rfl (c_tWhat (d := 0) hκ hi (by omega)) rfl rfl (Nat.le_of_ble_eq_true rfl) (fit_rm (by omega)) (⟨Nat.le_of_ble_eq_true rfl, Nat.le_of_ble_eq_true rfl⟩) (fun v Ω' hp => ?_) (fun _ _ h => h.elim)
  obtain ⟨rfl, rfl⟩ := hp
  rw [e5]
  refine V_tsw dX8_readLine_7 (dt := 50) (tg := [32, 38, 44]) (by simp only [R32, R64] at *; omega) (by decide) (by decide) (by decide) (fun q7 => ?_) ⟨fun q7 => ?_, fun q7 => ?_, fun q7 => ?_, trivial⟩
  · refine V_ex sX8_readLine_50 (by rfl) (by first | exact trivial | exact Or.inr rfl | exact Or.inl rfl | (simp only [ob, obA, R32, R64] at *; omega) | (simp only [ob, obA, R32, R64] at *; and_intros <;> omega)) ?_
    refine V_callV (M := MX8_readLine) (N := MX8_readBook) dX8_readLine_52 lRX8_67 kX8_readBook rfl (rfl) rfl (c_rBook (d := 46) hκ hE0 h0 (by omega)) rfl rfl (Nat.le_of_ble_eq_true rfl) (fit_rm (by omega)) (⟨Nat.le_of_ble_eq_true rfl, Nat.le_of_ble_eq_true rfl⟩) (fun v Ω' hp => ?_) (fun _ _ h => h.elim)
    rw [show (if 256 ≤ w i ∧ w i ≤ 262 then pBook w v (w i - 256) i S else (i, 1, S)) = pLine w v i S by rw [pLine, if_neg (by omega), if_neg (by omega), if_neg (by omega)]] at hp
    refine V_zret dX8_readLine_55 rfl (by first | exact Or.inl rfl | exact Or.inr rfl | exact b2i_01 _) (by decide) (hp)
  · have q7 : w i = 264 := by omega
    refine V_ex sX8_readLine_32 (by rfl) (by first | exact trivial | exact Or.inr rfl | exact Or.inl rfl | (simp only [ob, obA, R32, R64] at *; omega) | (simp only [ob, obA, R32, R64] at *; and_intros <;> omega)) ?_
    refine V_callV (M := MX8_readLine) (N := MX8_readGone) dX8_readLine_34 lRX8_58 kX8_readGone rfl (rfl) rfl (c_rGone (d := 46) hκ hE0 h0 (by omega)) rfl rfl (Nat.le_of_ble_eq_true rfl) (fit_rm (by omega)) (⟨Nat.le_of_ble_eq_true rfl, Nat.le_of_ble_eq_true rfl⟩) (fun v Ω' hp => ?_) (fun _ _ h => h.elim)
    rw [show pGone w v i S = pLine w v i S by rw [pLine, if_pos (by omega)]] at hp
    refine V_zret dX8_readLine_37 rfl (by first | exact Or.inl rfl | exact Or.inr rfl | exact b2i_01 _) (by decide) (hp)
  · refine V_ex sX8_readLine_38 (by rfl) (by first | exact trivial | exact Or.inr rfl | exact Or.inl rfl | (simp only [ob, obA, R32, R64] at *; omega) | (simp only [ob, obA, R32, R64] at *; and_intros <;> omega)) ?_
    refine V_callV (M := MX8_readLine) (N := MX8_readCopy) dX8_readLine_40 lRX8_61 kX8_readCopy rfl (rfl) rfl (c_rCopy (d := 46) hκ hE0 h0 (by omega)) rfl rfl (Nat.le_of_ble_eq_true rfl) (fit_rm (by omega)) (⟨Nat.le_of_ble_eq_true rfl, Nat.le_of_ble_eq_true rfl⟩) (fun v Ω' hp => ?_) (fun _ _ h => h.elim)
    rw [show pCopy w v i S = pLine w v i S by rw [pLine, if_neg (by omega), if_pos (by omega)]] at hp
    refine V_zret dX8_readLine_43 rfl (by first | exact Or.inl rfl | exact Or.inr rfl | exact b2i_01 _) (by decide) (hp)
  · refine V_ex sX8_readLine_44 (by rfl) (by first | exact trivial | exact Or.inr rfl | exact Or.inl rfl | (simp only [ob, obA, R32, R64] at *; omega) | (simp only [ob, obA, R32, R64] at *; and_intros <;> omega)) ?_
    refine V_callV (M := MX8_readLine) (N := MX8_readLead) dX8_readLine_46 lRX8_64 kX8_readLead rfl (rfl) rfl (c_rLead (d := 46) hκ hE0 h0 (by omega)) rfl rfl (Nat.le_of_ble_eq_true rfl) (fit_rm (by omega)) (⟨Nat.le_of_ble_eq_true rfl, Nat.le_of_ble_eq_true rfl⟩) (fun v Ω' hp => ?_) (fun _ _ h => h.elim)
    rw [show pLead w v i S = pLine w v i S by rw [pLine, if_neg (by omega), if_neg (by omega), if_pos (by omega)]] at hp
    refine V_zret dX8_readLine_49 rfl (by first | exact Or.inl rfl | exact Or.inr rfl | exact b2i_01 _) (by decide) (hp)
