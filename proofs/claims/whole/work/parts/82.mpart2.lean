/-! THE MODEL's reader: a part of a rule -/
theorem mQ_ct {f : Nat → Int} {n i : Nat} {k : Int} {c : List Int} {r : PE} (G : Wd) (hk : k ≠ 0) (hr : r = (i, k, c)) : mQ f n r G none (Wm (ctW f n i k G)) := ⟨rfl, _, rfl, FX.ct G, by rw [hr]; exact mR_ct G hk⟩
theorem mI_nl {f : Nat → Int} {n i : Nat} {G : Wd} (h : mI f n G i) (hw : tkW (tk f n 0) i ≠ -1) : i + 1 < (tk f n 0).length := by
  obtain ⟨hf, t, l, h1, h2, h3⟩ := h
  have e := mI_at h1
  have hl := h3 (by rw [← e.1]; exact hw)
  have hd := (drop_get h1).2.2
  have h4 := tk_len f n n t.2.2.2 (by omega)
  rcases Nat.lt_or_ge (i + 1) (tk f n 0).length with q | q
  · exact q
  · rw [List.drop_of_length_le q] at hd
    rw [← hl, ← hd] at h4
    simp at h4
set_option maxRecDepth 100000 in
set_option maxHeartbeats 4000000 in
theorem c_mPartB {κ : Kx} (hκ : KOK κ) {d : Nat} {lv : Int} {G : Wd} (hb : G.1 145 26 ≠ 0) (hbR : R32 (G.1 145 26)) : Ct κ MX12_readPart d 0 0 [VR 145, VI lv] (Wm G) (voidG G) noX := by
  refine Ct_of hκ kX12_readPart.1 rfl (Nat.le_of_ble_eq_true rfl) (ls := [some (VR 145), some (VI lv), none]) rfl (fun μ => ?_)
  refine V_ex sX12_readPart_0 (by simp only [Option.toList, List.cons_append, List.nil_append, exN, ex1, gI, gL, gR, pI, pL, pR, lget, lset1, lset2, kl, b2I, b2L, nob, ob32, ob64, xGet, xPut, xLen, xLd, xLdR, xSt, obA, true_and, and_true, and_self, eq_self, Nat.reduceEqDiff, Nat.zero_ne_one, reduceIte, Nat.reduceLeDiff, and_false, false_and, show skd 11 26 = 0 from rfl, show LF.1 145 = some (.inl 11) from rfl, upd2_eq, Int.reduceToNat, Int.toNat_natCast]; rfl) (by first | exact trivial | exact Or.inr rfl | exact Or.inl rfl | (simp only [ob, obA, R32, R64] at *; omega) | (simp only [ob, obA, R32, R64] at *; and_intros <;> omega)) ?_
  refine V_ifeq dX12_readPart_4 (tgt := 8) (by decide) (by exact hbR) (fun q4 => ?_) (fun q4 => ?_)
  · omega
  · refine V_vret dX12_readPart_7 rfl (by decide) ⟨rfl, rfl⟩
set_option maxRecDepth 100000 in
set_option maxHeartbeats 4000000 in
theorem c_mPart {κ : Kx} (hκ : KOK κ) (hKS : KS κ) {d d' n : Nat} {lv : Int} {f : Nat → Int} {rec : PE → PE} (hlv : 0 ≤ lv ∧ lv ≤ 100) (hrec : mEC κ MX12_readExpression d' (lv + 1) f n rec) (hPG : ∃ H, PG ((tk f n 0).length - 1) H rec) (hd : d' + 1 ≤ d) (hd2 : 6 ≤ d) {G : Wd} {i : Nat} {c : List Int} (h : mH f n G i c) : Ct κ MX12_readPart d 0 0 [VR 145, VI lv] (Wm G) (mQ f n (pPart (tkW (tk f n 0)) (tkV (tk f n 0)) rec (i, 0, c)) G) noX := by
  refine Ct_of hκ kX12_readPart.1 rfl (Nat.le_of_ble_eq_true rfl) (ls := [some (VR 145), some (VI lv), none]) rfl (fun μ => ?_)
  obtain ⟨hI, hc, hci⟩ := h
  obtain ⟨h26, h21⟩ := mI_26 hI
  obtain ⟨l1, l2, l3, l4, l5, l6⟩ := mI_lt hI
  obtain ⟨H, hPG⟩ := hPG
  have k1 := kd_1 (tkW (tk f n 0) i)
  have k2 := kd_2 (tkW (tk f n 0) i)
  have kR := kd_R (tkW (tk f n 0) i)
  have hvs := mV_values.1
  have hnl := mI_nl hI
  by_cases hn : tkW (tk f n 0) i = -2
  · have hP : pPart (tkW (tk f n 0)) (tkV (tk f n 0)) rec (i, 0, c) = if tkV (tk f n 0) i ≤ 9999 then (i + 1, 0, c ++ [tkV (tk f n 0) i]) else (i, 2, c) := by
      rw [pPart]; dsimp only; rw [if_neg (by omega), if_pos hn]
    by_cases hv : tkV (tk f n 0) i ≤ 9999
    · have hp0 : pNum (tkW (tk f n 0)) (tkV (tk f n 0)) 0 9999 i = 0 := by rw [pNum, if_neg (not_not_intro hn), if_neg (by omega)]
      rw [if_pos hv] at hP
      refine V_ex sX12_readPart_0 (by simp only [Option.toList, List.cons_append, List.nil_append, exN, ex1, gI, gL, gR, pI, pL, pR, lget, lset1, lset2, kl, b2I, b2L, nob, ob32, ob64, xGet, xPut, xLen, xLd, xLdR, xSt, obA, true_and, and_true, and_self, eq_self, Nat.reduceEqDiff, Nat.zero_ne_one, reduceIte, Nat.reduceLeDiff, and_false, false_and, show skd 11 26 = 0 from rfl, show LF.1 145 = some (.inl 11) from rfl, h26, h21, upd2_eq, Int.reduceToNat, Int.toNat_natCast]; rfl) (by first | exact trivial | exact Or.inr rfl | exact Or.inl rfl | (simp only [ob, obA, R32, R64] at *; omega) | (simp only [ob, obA, R32, R64] at *; and_intros <;> omega)) ?_
      refine V_ifeq dX12_readPart_4 (tgt := 8) (by decide) (by simp only [R32, R64] at *; omega) (fun q4 => ?_) (fun q4 => ?_)
      · refine V_ex sX12_readPart_8 (by simp only [Option.toList, List.cons_append, List.nil_append, exN, ex1, gI, gL, gR, pI, pL, pR, lget, lset1, lset2, kl, b2I, b2L, nob, ob32, ob64, xGet, xPut, xLen, xLd, xLdR, xSt, obA, true_and, and_true, and_self, eq_self, Nat.reduceEqDiff, Nat.zero_ne_one, reduceIte, Nat.reduceLeDiff, and_false, false_and, show skd 11 21 = 0 from rfl, show LF.1 145 = some (.inl 11) from rfl, h26, h21, upd2_eq, Int.reduceToNat, Int.toNat_natCast]; rfl) (by first | exact trivial | exact Or.inr rfl | exact Or.inl rfl | (simp only [ob, obA, R32, R64] at *; omega) | (simp only [ob, obA, R32, R64] at *; and_intros <;> omega)) ?_
        refine V_icmpne dX12_readPart_13 (tgt := 29) (by decide) (by simp only [R32, R64] at *; omega) (fun q13 => ?_) (fun q13 => ?_)
        · exact absurd (k2.mpr hn) q13
        · refine V_ex sX12_readPart_16 (by rfl) (by first | exact trivial | exact Or.inr rfl | exact Or.inl rfl | (simp only [ob, obA, R32, R64] at *; omega) | (simp only [ob, obA, R32, R64] at *; and_intros <;> omega)) ?_
          refine V_callV (M := MX12_readPart) (N := MX12_readNumber) dX12_readPart_22 lRX12_258 kX12_readNumber rfl (rfl) rfl (c_iReadNum (d := 2) hκ hI (by omega) (by omega) (by omega)) rfl rfl (Nat.le_of_ble_eq_true rfl) (fit_rm (by omega)) (⟨Nat.le_of_ble_eq_true rfl, Nat.le_of_ble_eq_true rfl⟩) (fun v Ω' hp => ?_) (fun _ _ h => h.elim)
          obtain ⟨rfl, -, G1, rfl, f1, i1⟩ := hp.1 hp0
          have hc1 := cd_m f1 hc
          refine V_callV (M := MX12_readPart) (N := MX12_lay) dX12_readPart_25 lRX12_261 kX12_lay rfl (rfl) rfl (c_iLay (d := 0) hκ i1 hc1 (by have := hnl (by omega); omega)) rfl rfl (Nat.le_of_ble_eq_true rfl) (fit_rm (by omega)) (⟨Nat.le_of_ble_eq_true rfl, Nat.le_of_ble_eq_true rfl⟩) (fun v Ω' hp => ?_) (fun _ _ h => h.elim)
          obtain ⟨rfl, rfl⟩ := hp
          refine V_vret dX12_readPart_28 rfl (by decide) ?_
          rw [hP]
          have es : sm (tkV (tk f n 0) i) = tkV (tk f n 0) i := by rw [sm, if_pos (by omega)]
          refine ⟨rfl, _, rfl, (FX.m f1).trans (FX.ly G1 _ _), fun _ => ⟨ly_I i1, ?_⟩, fun q => absurd rfl q⟩
          have := ly_cd (z := tkV (tk f n 0) i) hc1
          rw [es] at this
          exact this
      · exact absurd rfl q4
    · have hp0 : pNum (tkW (tk f n 0)) (tkV (tk f n 0)) 0 9999 i = 2 := by rw [pNum, if_neg (not_not_intro hn), if_pos (by omega)]
      rw [if_neg hv] at hP
      have h2 : (ctW f n i 2 G).1 145 26 ≠ 0 := by rw [ct_26]; decide
      refine V_ex sX12_readPart_0 (by simp only [Option.toList, List.cons_append, List.nil_append, exN, ex1, gI, gL, gR, pI, pL, pR, lget, lset1, lset2, kl, b2I, b2L, nob, ob32, ob64, xGet, xPut, xLen, xLd, xLdR, xSt, obA, true_and, and_true, and_self, eq_self, Nat.reduceEqDiff, Nat.zero_ne_one, reduceIte, Nat.reduceLeDiff, and_false, false_and, show skd 11 26 = 0 from rfl, show LF.1 145 = some (.inl 11) from rfl, h26, h21, upd2_eq, Int.reduceToNat, Int.toNat_natCast]; rfl) (by first | exact trivial | exact Or.inr rfl | exact Or.inl rfl | (simp only [ob, obA, R32, R64] at *; omega) | (simp only [ob, obA, R32, R64] at *; and_intros <;> omega)) ?_
      refine V_ifeq dX12_readPart_4 (tgt := 8) (by decide) (by simp only [R32, R64] at *; omega) (fun q4 => ?_) (fun q4 => ?_)
      · refine V_ex sX12_readPart_8 (by simp only [Option.toList, List.cons_append, List.nil_append, exN, ex1, gI, gL, gR, pI, pL, pR, lget, lset1, lset2, kl, b2I, b2L, nob, ob32, ob64, xGet, xPut, xLen, xLd, xLdR, xSt, obA, true_and, and_true, and_self, eq_self, Nat.reduceEqDiff, Nat.zero_ne_one, reduceIte, Nat.reduceLeDiff, and_false, false_and, show skd 11 21 = 0 from rfl, show LF.1 145 = some (.inl 11) from rfl, h26, h21, upd2_eq, Int.reduceToNat, Int.toNat_natCast]; rfl) (by first | exact trivial | exact Or.inr rfl | exact Or.inl rfl | (simp only [ob, obA, R32, R64] at *; omega) | (simp only [ob, obA, R32, R64] at *; and_intros <;> omega)) ?_
        refine V_icmpne dX12_readPart_13 (tgt := 29) (by decide) (by simp only [R32, R64] at *; omega) (fun q13 => ?_) (fun q13 => ?_)
        · exact absurd (k2.mpr hn) q13
        · refine V_ex sX12_readPart_16 (by rfl) (by first | exact trivial | exact Or.inr rfl | exact Or.inl rfl | (simp only [ob, obA, R32, R64] at *; omega) | (simp only [ob, obA, R32, R64] at *; and_intros <;> omega)) ?_
          refine V_callV (M := MX12_readPart) (N := MX12_readNumber) dX12_readPart_22 lRX12_258 kX12_readNumber rfl (rfl) rfl (c_iReadNum (d := 2) hκ hI (by omega) (by omega) (by omega)) rfl rfl (Nat.le_of_ble_eq_true rfl) (fit_rm (by omega)) (⟨Nat.le_of_ble_eq_true rfl, Nat.le_of_ble_eq_true rfl⟩) (fun v Ω' hp => ?_) (fun _ _ h => h.elim)
          obtain ⟨rfl, rfl⟩ := hp.2 (by omega)
          rw [hp0]
          refine V_callV (M := MX12_readPart) (N := MX12_lay) dX12_readPart_25 lRX12_261 kX12_lay rfl (rfl) rfl (c_mLay0 (d := 0) hκ h2 (by rw [ct_26]; unfold R32; omega)) rfl rfl (Nat.le_of_ble_eq_true rfl) (fit_rm (by omega)) (⟨Nat.le_of_ble_eq_true rfl, Nat.le_of_ble_eq_true rfl⟩) (fun v Ω' hp => ?_) (fun _ _ h => h.elim)
          obtain ⟨rfl, rfl⟩ := hp
          refine V_vret dX12_readPart_28 rfl (by decide) (mQ_ct G (by decide) hP)
      · exact absurd rfl q4
  · by_cases hw : 256 ≤ tkW (tk f n 0) i
    · have hP : pPart (tkW (tk f n 0)) (tkV (tk f n 0)) rec (i, 0, c) = if tkW (tk f n 0) i < 267 ∨ 270 < tkW (tk f n 0) i then (i, 3, c) else (i + 1, 0, c ++ [266 - tkW (tk f n 0) i]) := by
        rw [pPart]; dsimp only; rw [if_neg (by omega), if_neg hn, if_neg (by omega)]
      by_cases hq : tkW (tk f n 0) i < 267 ∨ 270 < tkW (tk f n 0) i
      · rw [if_pos hq] at hP
        have h3 : (ctW f n i 3 G).1 145 26 ≠ 0 := by rw [ct_26]; decide
        have h3R : R32 ((ctW f n i 3 G).1 145 26) := by rw [ct_26]; unfold R32; omega
        refine V_ex sX12_readPart_0 (by simp only [Option.toList, List.cons_append, List.nil_append, exN, ex1, gI, gL, gR, pI, pL, pR, lget, lset1, lset2, kl, b2I, b2L, nob, ob32, ob64, xGet, xPut, xLen, xLd, xLdR, xSt, obA, true_and, and_true, and_self, eq_self, Nat.reduceEqDiff, Nat.zero_ne_one, reduceIte, Nat.reduceLeDiff, and_false, false_and, show skd 11 26 = 0 from rfl, show LF.1 145 = some (.inl 11) from rfl, h26, h21, hvs, ct_26, upd2_eq, Int.reduceToNat, Int.toNat_natCast]; rfl) (by first | exact trivial | exact Or.inr rfl | exact Or.inl rfl | (simp only [ob, obA, R32, R64] at *; omega) | (simp only [ob, obA, R32, R64] at *; and_intros <;> omega)) ?_
        refine V_ifeq dX12_readPart_4 (tgt := 8) (by decide) (by simp only [R32, R64] at *; omega) (fun q4 => ?_) (fun q4 => ?_)
        · refine V_ex sX12_readPart_8 (by simp only [Option.toList, List.cons_append, List.nil_append, exN, ex1, gI, gL, gR, pI, pL, pR, lget, lset1, lset2, kl, b2I, b2L, nob, ob32, ob64, xGet, xPut, xLen, xLd, xLdR, xSt, obA, true_and, and_true, and_self, eq_self, Nat.reduceEqDiff, Nat.zero_ne_one, reduceIte, Nat.reduceLeDiff, and_false, false_and, show skd 11 21 = 0 from rfl, show LF.1 145 = some (.inl 11) from rfl, h26, h21, hvs, ct_26, upd2_eq, Int.reduceToNat, Int.toNat_natCast]; rfl) (by first | exact trivial | exact Or.inr rfl | exact Or.inl rfl | (simp only [ob, obA, R32, R64] at *; omega) | (simp only [ob, obA, R32, R64] at *; and_intros <;> omega)) ?_
          refine V_icmpne dX12_readPart_13 (tgt := 29) (by decide) (by simp only [R32, R64] at *; omega) (fun q13 => ?_) (fun q13 => ?_)
          · refine V_ex sX12_readPart_29 (by simp only [Option.toList, List.cons_append, List.nil_append, exN, ex1, gI, gL, gR, pI, pL, pR, lget, lset1, lset2, kl, b2I, b2L, nob, ob32, ob64, xGet, xPut, xLen, xLd, xLdR, xSt, obA, true_and, and_true, and_self, eq_self, Nat.reduceEqDiff, Nat.zero_ne_one, reduceIte, Nat.reduceLeDiff, and_false, false_and, show skd 11 21 = 0 from rfl, show LF.1 145 = some (.inl 11) from rfl, h26, h21, hvs, ct_26, upd2_eq, Int.reduceToNat, Int.toNat_natCast]; rfl) (by first | exact trivial | exact Or.inr rfl | exact Or.inl rfl | (simp only [ob, obA, R32, R64] at *; omega) | (simp only [ob, obA, R32, R64] at *; and_intros <;> omega)) ?_
            refine V_icmpne dX12_readPart_34 (tgt := 75) (by decide) (by simp only [R32, R64] at *; omega) (fun q34 => ?_) (fun q34 => ?_)
            · exact absurd (k1.mpr hw) q34
            · refine V_ex sX12_readPart_37 (by simp only [Option.toList, List.cons_append, List.nil_append, exN, ex1, gI, gL, gR, pI, pL, pR, lget, lset1, lset2, kl, b2I, b2L, nob, ob32, ob64, xGet, xPut, xLen, xLd, xLdR, xSt, obA, true_and, and_true, and_self, eq_self, Nat.reduceEqDiff, Nat.zero_ne_one, reduceIte, Nat.reduceLeDiff, and_false, false_and, show skd 11 1 = 2 from rfl, show LF.1 145 = some (.inl 11) from rfl, show LF.2 145 1 = some 147 from rfl, h26, h21, hvs, ct_26, upd2_eq, Int.reduceToNat, Int.toNat_natCast]; rfl) (by first | exact trivial | exact Or.inr rfl | exact Or.inl rfl | (simp only [ob, obA, R32, R64] at *; omega) | (simp only [ob, obA, R32, R64] at *; and_intros <;> omega)) ?_
              refine V_callV (M := MX12_readPart) (N := MX12_which) dX12_readPart_42 lRX12_264 kX12_which rfl (rfl) rfl (c_iValues (d := 5) hκ hKS hI (by omega)) rfl rfl (Nat.le_of_ble_eq_true rfl) (fit_rm (by omega)) (⟨Nat.le_of_ble_eq_true rfl, Nat.le_of_ble_eq_true rfl⟩) (fun v Ω' hp => ?_) (fun _ _ h => h.elim)
              obtain ⟨rfl, rfl⟩ := hp
              rw [if_neg (by omega)]
              refine V_ex sX12_readPart_45 (by rfl) (by first | exact trivial | exact Or.inr rfl | exact Or.inl rfl | (simp only [ob, obA, R32, R64] at *; omega) | (simp only [ob, obA, R32, R64] at *; and_intros <;> omega)) ?_
              refine V_icmpne dX12_readPart_48 (tgt := 56) (by decide) (by simp only [R32, R64] at *; omega) (fun q48 => ?_) (fun q48 => ?_)
              · exact absurd rfl q48
              · refine V_ex sX12_readPart_51 (by rfl) (by first | exact trivial | exact Or.inr rfl | exact Or.inl rfl | (simp only [ob, obA, R32, R64] at *; omega) | (simp only [ob, obA, R32, R64] at *; and_intros <;> omega)) ?_
                refine V_callV (M := MX12_readPart) (N := MX12_cant) dX12_readPart_53 lRX12_245 kX12_cant rfl (rfl) rfl (c_iCant (d := 0) hκ hI) rfl rfl (Nat.le_of_ble_eq_true rfl) (fit_rm (by omega)) (⟨Nat.le_of_ble_eq_true rfl, Nat.le_of_ble_eq_true rfl⟩) (fun v Ω' hp => ?_) (fun _ _ h => h.elim)
                obtain ⟨rfl, rfl⟩ := hp
                refine V_ex sX12_readPart_56 (by rfl) (by first | exact trivial | exact Or.inr rfl | exact Or.inl rfl | (simp only [ob, obA, R32, R64] at *; omega) | (simp only [ob, obA, R32, R64] at *; and_intros <;> omega)) ?_
                refine V_callV (M := MX12_readPart) (N := MX12_lay) dX12_readPart_60 lRX12_261 kX12_lay rfl (rfl) rfl (c_mLay0 (d := 0) hκ h3 h3R) rfl rfl (Nat.le_of_ble_eq_true rfl) (fit_rm (by omega)) (⟨Nat.le_of_ble_eq_true rfl, Nat.le_of_ble_eq_true rfl⟩) (fun v Ω' hp => ?_) (fun _ _ h => h.elim)
                obtain ⟨rfl, rfl⟩ := hp
                refine V_ex sX12_readPart_63 (by simp only [Option.toList, List.cons_append, List.nil_append, exN, ex1, gI, gL, gR, pI, pL, pR, lget, lset1, lset2, kl, b2I, b2L, nob, ob32, ob64, xGet, xPut, xLen, xLd, xLdR, xSt, obA, true_and, and_true, and_self, eq_self, Nat.reduceEqDiff, Nat.zero_ne_one, reduceIte, Nat.reduceLeDiff, and_false, false_and, show skd 11 26 = 0 from rfl, show LF.1 145 = some (.inl 11) from rfl, h26, h21, hvs, ct_26, upd2_eq, Int.reduceToNat, Int.toNat_natCast]; rfl) (by first | exact trivial | exact Or.inr rfl | exact Or.inl rfl | (simp only [ob, obA, R32, R64] at *; omega) | (simp only [ob, obA, R32, R64] at *; and_intros <;> omega)) ?_
                refine V_ifne dX12_readPart_67 (tgt := 74) (by decide) (by simp only [R32, R64] at *; omega) (fun q67 => ?_) (fun q67 => ?_)
                · refine V_vret dX12_readPart_74 rfl (by decide) (mQ_ct G (by decide) hP)
                · omega
          · exact absurd (k2.mp q13) hn
        · exact absurd rfl q4
      · rw [if_neg hq] at hP
        have es : sm (266 - tkW (tk f n 0) i) = 266 - tkW (tk f n 0) i := by rw [sm, if_pos (by omega)]
        have e60 : (-1 : Int) - (tkW (tk f n 0) i - 267) = 266 - tkW (tk f n 0) i := by omega
        have l26 : ∀ z, (lyW G c.length z).1 145 26 = 0 := fun z => by unfold lyW; rw [iv (by omega), iv (by omega)]; exact h26
        refine V_ex sX12_readPart_0 (by simp only [Option.toList, List.cons_append, List.nil_append, exN, ex1, gI, gL, gR, pI, pL, pR, lget, lset1, lset2, kl, b2I, b2L, nob, ob32, ob64, xGet, xPut, xLen, xLd, xLdR, xSt, obA, true_and, and_true, and_self, eq_self, Nat.reduceEqDiff, Nat.zero_ne_one, reduceIte, Nat.reduceLeDiff, and_false, false_and, show skd 11 26 = 0 from rfl, show LF.1 145 = some (.inl 11) from rfl, h26, h21, hvs, l26, upd2_eq, Int.reduceToNat, Int.toNat_natCast]; rfl) (by first | exact trivial | exact Or.inr rfl | exact Or.inl rfl | (simp only [ob, obA, R32, R64] at *; omega) | (simp only [ob, obA, R32, R64] at *; and_intros <;> omega)) ?_
        refine V_ifeq dX12_readPart_4 (tgt := 8) (by decide) (by simp only [R32, R64] at *; omega) (fun q4 => ?_) (fun q4 => ?_)
        · refine V_ex sX12_readPart_8 (by simp only [Option.toList, List.cons_append, List.nil_append, exN, ex1, gI, gL, gR, pI, pL, pR, lget, lset1, lset2, kl, b2I, b2L, nob, ob32, ob64, xGet, xPut, xLen, xLd, xLdR, xSt, obA, true_and, and_true, and_self, eq_self, Nat.reduceEqDiff, Nat.zero_ne_one, reduceIte, Nat.reduceLeDiff, and_false, false_and, show skd 11 21 = 0 from rfl, show LF.1 145 = some (.inl 11) from rfl, h26, h21, hvs, l26, upd2_eq, Int.reduceToNat, Int.toNat_natCast]; rfl) (by first | exact trivial | exact Or.inr rfl | exact Or.inl rfl | (simp only [ob, obA, R32, R64] at *; omega) | (simp only [ob, obA, R32, R64] at *; and_intros <;> omega)) ?_
          refine V_icmpne dX12_readPart_13 (tgt := 29) (by decide) (by simp only [R32, R64] at *; omega) (fun q13 => ?_) (fun q13 => ?_)
          · refine V_ex sX12_readPart_29 (by simp only [Option.toList, List.cons_append, List.nil_append, exN, ex1, gI, gL, gR, pI, pL, pR, lget, lset1, lset2, kl, b2I, b2L, nob, ob32, ob64, xGet, xPut, xLen, xLd, xLdR, xSt, obA, true_and, and_true, and_self, eq_self, Nat.reduceEqDiff, Nat.zero_ne_one, reduceIte, Nat.reduceLeDiff, and_false, false_and, show skd 11 21 = 0 from rfl, show LF.1 145 = some (.inl 11) from rfl, h26, h21, hvs, l26, upd2_eq, Int.reduceToNat, Int.toNat_natCast]; rfl) (by first | exact trivial | exact Or.inr rfl | exact Or.inl rfl | (simp only [ob, obA, R32, R64] at *; omega) | (simp only [ob, obA, R32, R64] at *; and_intros <;> omega)) ?_
            refine V_icmpne dX12_readPart_34 (tgt := 75) (by decide) (by simp only [R32, R64] at *; omega) (fun q34 => ?_) (fun q34 => ?_)
            · exact absurd (k1.mpr hw) q34
            · refine V_ex sX12_readPart_37 (by simp only [Option.toList, List.cons_append, List.nil_append, exN, ex1, gI, gL, gR, pI, pL, pR, lget, lset1, lset2, kl, b2I, b2L, nob, ob32, ob64, xGet, xPut, xLen, xLd, xLdR, xSt, obA, true_and, and_true, and_self, eq_self, Nat.reduceEqDiff, Nat.zero_ne_one, reduceIte, Nat.reduceLeDiff, and_false, false_and, show skd 11 1 = 2 from rfl, show LF.1 145 = some (.inl 11) from rfl, show LF.2 145 1 = some 147 from rfl, h26, h21, hvs, l26, upd2_eq, Int.reduceToNat, Int.toNat_natCast]; rfl) (by first | exact trivial | exact Or.inr rfl | exact Or.inl rfl | (simp only [ob, obA, R32, R64] at *; omega) | (simp only [ob, obA, R32, R64] at *; and_intros <;> omega)) ?_
              refine V_callV (M := MX12_readPart) (N := MX12_which) dX12_readPart_42 lRX12_264 kX12_which rfl (rfl) rfl (c_iValues (d := 5) hκ hKS hI (by omega)) rfl rfl (Nat.le_of_ble_eq_true rfl) (fit_rm (by omega)) (⟨Nat.le_of_ble_eq_true rfl, Nat.le_of_ble_eq_true rfl⟩) (fun v Ω' hp => ?_) (fun _ _ h => h.elim)
              obtain ⟨rfl, rfl⟩ := hp
              rw [if_pos (by omega)]
              refine V_ex sX12_readPart_45 (by rfl) (by first | exact trivial | exact Or.inr rfl | exact Or.inl rfl | (simp only [ob, obA, R32, R64] at *; omega) | (simp only [ob, obA, R32, R64] at *; and_intros <;> omega)) ?_
              refine V_icmpne dX12_readPart_48 (tgt := 56) (by decide) (by simp only [R32, R64] at *; omega) (fun q48 => ?_) (fun q48 => ?_)
              · refine V_ex sX12_readPart_56 (by simp only [Option.toList, List.cons_append, List.nil_append, exN, ex1, gI, gL, gR, pI, pL, pR, lget, lset1, lset2, kl, b2I, b2L, nob, ob32, ob64, xGet, xPut, xLen, xLd, xLdR, xSt, obA, true_and, and_true, and_self, eq_self, Nat.reduceEqDiff, Nat.zero_ne_one, reduceIte, Nat.reduceLeDiff, and_false, false_and, e60, h26, h21, hvs, l26, upd2_eq, Int.reduceToNat, Int.toNat_natCast]; rfl) (by first | exact trivial | exact Or.inr rfl | exact Or.inl rfl | (simp only [ob, obA, R32, R64] at *; omega) | (simp only [ob, obA, R32, R64] at *; and_intros <;> omega)) ?_
                refine V_callV (M := MX12_readPart) (N := MX12_lay) dX12_readPart_60 lRX12_261 kX12_lay rfl (rfl) rfl (c_iLay (d := 0) hκ hI hc (by have := hnl (by omega); omega)) rfl rfl (Nat.le_of_ble_eq_true rfl) (fit_rm (by omega)) (⟨Nat.le_of_ble_eq_true rfl, Nat.le_of_ble_eq_true rfl⟩) (fun v Ω' hp => ?_) (fun _ _ h => h.elim)
                obtain ⟨rfl, rfl⟩ := hp
                refine V_ex sX12_readPart_63 (by simp only [Option.toList, List.cons_append, List.nil_append, exN, ex1, gI, gL, gR, pI, pL, pR, lget, lset1, lset2, kl, b2I, b2L, nob, ob32, ob64, xGet, xPut, xLen, xLd, xLdR, xSt, obA, true_and, and_true, and_self, eq_self, Nat.reduceEqDiff, Nat.zero_ne_one, reduceIte, Nat.reduceLeDiff, and_false, false_and, show skd 11 26 = 0 from rfl, show LF.1 145 = some (.inl 11) from rfl, h26, h21, hvs, l26, upd2_eq, Int.reduceToNat, Int.toNat_natCast]; rfl) (by first | exact trivial | exact Or.inr rfl | exact Or.inl rfl | (simp only [ob, obA, R32, R64] at *; omega) | (simp only [ob, obA, R32, R64] at *; and_intros <;> omega)) ?_
                refine V_ifne dX12_readPart_67 (tgt := 74) (by decide) (by simp only [R32, R64] at *; omega) (fun q67 => ?_) (fun q67 => ?_)
                · exact absurd rfl q67
                · refine V_ex sX12_readPart_70 (by rfl) (by first | exact trivial | exact Or.inr rfl | exact Or.inl rfl | (simp only [ob, obA, R32, R64] at *; omega) | (simp only [ob, obA, R32, R64] at *; and_intros <;> omega)) ?_
                  refine V_callV (M := MX12_readPart) (N := MX12_stepOn) dX12_readPart_71 lRX12_249 kX12_stepOn rfl (rfl) rfl (c_iNext (d := 2) hκ (ly_I hI) (by omega) (by omega)) rfl rfl (Nat.le_of_ble_eq_true rfl) (fit_rm (by omega)) (⟨Nat.le_of_ble_eq_true rfl, Nat.le_of_ble_eq_true rfl⟩) (fun v Ω' hp => ?_) (fun _ _ h => h.elim)
                  obtain ⟨rfl, G1, rfl, f1, i1⟩ := hp
                  refine V_vret dX12_readPart_74 rfl (by decide) ?_
                  rw [hP]
                  refine ⟨rfl, G1, rfl, (FX.ly G _ _).trans (FX.m f1), fun _ => ⟨i1, cd_m f1 ?_⟩, fun q => absurd rfl q⟩
                  have := ly_cd (z := 266 - tkW (tk f n 0) i) hc
                  rw [es] at this
                  exact this
              · omega
          · exact absurd (k2.mp q13) hn
        · exact absurd rfl q4
    · by_cases h40 : tkW (tk f n 0) i = 40
      · have hnl2 := hnl (by omega)
        have hP : pPart (tkW (tk f n 0)) (tkV (tk f n 0)) rec (i, 0, c) = if (rec (i + 1, 0, c)).2.1 = 0 then pSign (tkW (tk f n 0)) 41 (rec (i + 1, 0, c)) else rec (i + 1, 0, c) := by
          rw [pPart]; dsimp only; rw [if_pos h40]
        have hpg := hPG (i + 1) c (by omega)
        have hrr := hrec.1
        have hrq : ∀ G1 : Wd, mH f n G1 (i + 1) c → Ct κ MX12_readExpression d' 0 0 [VR 145, VI (lv + 1)] (Wm G1) (mQ f n (rec (i + 1, 0, c)) G1) noX := fun G1 h => hrr G1 (i + 1) c h
        generalize rec (i + 1, 0, c) = r at *
        by_cases hb : r.2.1 = 0
        · rw [if_pos hb] at hP
          by_cases h41 : tkW (tk f n 0) r.1 = 41
          · refine V_ex sX12_readPart_0 (by simp only [Option.toList, List.cons_append, List.nil_append, exN, ex1, gI, gL, gR, pI, pL, pR, lget, lset1, lset2, kl, b2I, b2L, nob, ob32, ob64, xGet, xPut, xLen, xLd, xLdR, xSt, obA, true_and, and_true, and_self, eq_self, Nat.reduceEqDiff, Nat.zero_ne_one, reduceIte, Nat.reduceLeDiff, and_false, false_and, show skd 11 26 = 0 from rfl, show LF.1 145 = some (.inl 11) from rfl, h26, h21, upd2_eq, Int.reduceToNat, Int.toNat_natCast]; rfl) (by first | exact trivial | exact Or.inr rfl | exact Or.inl rfl | (simp only [ob, obA, R32, R64] at *; omega) | (simp only [ob, obA, R32, R64] at *; and_intros <;> omega)) ?_
            refine V_ifeq dX12_readPart_4 (tgt := 8) (by decide) (by simp only [R32, R64] at *; omega) (fun q4 => ?_) (fun q4 => ?_)
            · refine V_ex sX12_readPart_8 (by simp only [Option.toList, List.cons_append, List.nil_append, exN, ex1, gI, gL, gR, pI, pL, pR, lget, lset1, lset2, kl, b2I, b2L, nob, ob32, ob64, xGet, xPut, xLen, xLd, xLdR, xSt, obA, true_and, and_true, and_self, eq_self, Nat.reduceEqDiff, Nat.zero_ne_one, reduceIte, Nat.reduceLeDiff, and_false, false_and, show skd 11 21 = 0 from rfl, show LF.1 145 = some (.inl 11) from rfl, h26, h21, upd2_eq, Int.reduceToNat, Int.toNat_natCast]; rfl) (by first | exact trivial | exact Or.inr rfl | exact Or.inl rfl | (simp only [ob, obA, R32, R64] at *; omega) | (simp only [ob, obA, R32, R64] at *; and_intros <;> omega)) ?_
              refine V_icmpne dX12_readPart_13 (tgt := 29) (by decide) (by simp only [R32, R64] at *; omega) (fun q13 => ?_) (fun q13 => ?_)
              · refine V_ex sX12_readPart_29 (by simp only [Option.toList, List.cons_append, List.nil_append, exN, ex1, gI, gL, gR, pI, pL, pR, lget, lset1, lset2, kl, b2I, b2L, nob, ob32, ob64, xGet, xPut, xLen, xLd, xLdR, xSt, obA, true_and, and_true, and_self, eq_self, Nat.reduceEqDiff, Nat.zero_ne_one, reduceIte, Nat.reduceLeDiff, and_false, false_and, show skd 11 21 = 0 from rfl, show LF.1 145 = some (.inl 11) from rfl, h26, h21, upd2_eq, Int.reduceToNat, Int.toNat_natCast]; rfl) (by first | exact trivial | exact Or.inr rfl | exact Or.inl rfl | (simp only [ob, obA, R32, R64] at *; omega) | (simp only [ob, obA, R32, R64] at *; and_intros <;> omega)) ?_
                refine V_icmpne dX12_readPart_34 (tgt := 75) (by decide) (by simp only [R32, R64] at *; omega) (fun q34 => ?_) (fun q34 => ?_)
                · refine V_ex sX12_readPart_75 (by rfl) (by first | exact trivial | exact Or.inr rfl | exact Or.inl rfl | (simp only [ob, obA, R32, R64] at *; omega) | (simp only [ob, obA, R32, R64] at *; and_intros <;> omega)) ?_
                  refine V_callV (M := MX12_readPart) (N := MX12_mark) dX12_readPart_78 lRX12_268 kX12_mark rfl (rfl) rfl (c_iMark (d := 2) hκ hI (by decide) (by omega) (by omega)) rfl rfl (Nat.le_of_ble_eq_true rfl) (fit_rm (by omega)) (⟨Nat.le_of_ble_eq_true rfl, Nat.le_of_ble_eq_true rfl⟩) (fun v Ω' hp => ?_) (fun _ _ h => h.elim)
                  obtain ⟨rfl, G1, rfl, f1, i1⟩ := hp.1 h40
                  refine V_ex sX12_readPart_81 (by rfl) (by first | exact trivial | exact Or.inr rfl | exact Or.inl rfl | (simp only [ob, obA, R32, R64] at *; omega) | (simp only [ob, obA, R32, R64] at *; and_intros <;> omega)) ?_
                  refine V_callV (M := MX12_readPart) (N := MX12_readExpression) dX12_readPart_85 lRX12_271 kX12_readExpression rfl (rfl) rfl (hrq G1 ⟨i1, cd_m f1 hc, by omega⟩) rfl rfl (Nat.le_of_ble_eq_true rfl) (fit_rm (by omega)) (⟨Nat.le_of_ble_eq_true rfl, Nat.le_of_ble_eq_true rfl⟩) (fun v Ω' hp => ?_) (fun _ _ h => h.elim)
                  obtain ⟨rfl, G2, rfl, f2, m2⟩ := hp
                  obtain ⟨i2, c2⟩ := m2.1 hb
                  refine V_ex sX12_readPart_88 (by rfl) (by first | exact trivial | exact Or.inr rfl | exact Or.inl rfl | (simp only [ob, obA, R32, R64] at *; omega) | (simp only [ob, obA, R32, R64] at *; and_intros <;> omega)) ?_
                  refine V_callV (M := MX12_readPart) (N := MX12_mark) dX12_readPart_91 lRX12_268 kX12_mark rfl (rfl) rfl (c_iMark (d := 2) hκ i2 (by decide) (by omega) (by omega)) rfl rfl (Nat.le_of_ble_eq_true rfl) (fit_rm (by omega)) (⟨Nat.le_of_ble_eq_true rfl, Nat.le_of_ble_eq_true rfl⟩) (fun v Ω' hp => ?_) (fun _ _ h => h.elim)
                  obtain ⟨rfl, G3, rfl, f3, i3⟩ := hp.1 h41
                  refine V_vret dX12_readPart_94 rfl (by decide) ?_
                  rw [hP, pSign, if_pos h41]
                  exact ⟨rfl, G3, rfl, ((FX.m f1).trans f2).trans (FX.m f3), fun _ => ⟨i3, cd_m f3 c2⟩, fun q => absurd rfl q⟩
                · exact absurd (k1.mp q34) hw
              · exact absurd (k2.mp q13) hn
            · exact absurd rfl q4
          · refine V_ex sX12_readPart_0 (by simp only [Option.toList, List.cons_append, List.nil_append, exN, ex1, gI, gL, gR, pI, pL, pR, lget, lset1, lset2, kl, b2I, b2L, nob, ob32, ob64, xGet, xPut, xLen, xLd, xLdR, xSt, obA, true_and, and_true, and_self, eq_self, Nat.reduceEqDiff, Nat.zero_ne_one, reduceIte, Nat.reduceLeDiff, and_false, false_and, show skd 11 26 = 0 from rfl, show LF.1 145 = some (.inl 11) from rfl, h26, h21, upd2_eq, Int.reduceToNat, Int.toNat_natCast]; rfl) (by first | exact trivial | exact Or.inr rfl | exact Or.inl rfl | (simp only [ob, obA, R32, R64] at *; omega) | (simp only [ob, obA, R32, R64] at *; and_intros <;> omega)) ?_
            refine V_ifeq dX12_readPart_4 (tgt := 8) (by decide) (by simp only [R32, R64] at *; omega) (fun q4 => ?_) (fun q4 => ?_)
            · refine V_ex sX12_readPart_8 (by simp only [Option.toList, List.cons_append, List.nil_append, exN, ex1, gI, gL, gR, pI, pL, pR, lget, lset1, lset2, kl, b2I, b2L, nob, ob32, ob64, xGet, xPut, xLen, xLd, xLdR, xSt, obA, true_and, and_true, and_self, eq_self, Nat.reduceEqDiff, Nat.zero_ne_one, reduceIte, Nat.reduceLeDiff, and_false, false_and, show skd 11 21 = 0 from rfl, show LF.1 145 = some (.inl 11) from rfl, h26, h21, upd2_eq, Int.reduceToNat, Int.toNat_natCast]; rfl) (by first | exact trivial | exact Or.inr rfl | exact Or.inl rfl | (simp only [ob, obA, R32, R64] at *; omega) | (simp only [ob, obA, R32, R64] at *; and_intros <;> omega)) ?_
              refine V_icmpne dX12_readPart_13 (tgt := 29) (by decide) (by simp only [R32, R64] at *; omega) (fun q13 => ?_) (fun q13 => ?_)
              · refine V_ex sX12_readPart_29 (by simp only [Option.toList, List.cons_append, List.nil_append, exN, ex1, gI, gL, gR, pI, pL, pR, lget, lset1, lset2, kl, b2I, b2L, nob, ob32, ob64, xGet, xPut, xLen, xLd, xLdR, xSt, obA, true_and, and_true, and_self, eq_self, Nat.reduceEqDiff, Nat.zero_ne_one, reduceIte, Nat.reduceLeDiff, and_false, false_and, show skd 11 21 = 0 from rfl, show LF.1 145 = some (.inl 11) from rfl, h26, h21, upd2_eq, Int.reduceToNat, Int.toNat_natCast]; rfl) (by first | exact trivial | exact Or.inr rfl | exact Or.inl rfl | (simp only [ob, obA, R32, R64] at *; omega) | (simp only [ob, obA, R32, R64] at *; and_intros <;> omega)) ?_
                refine V_icmpne dX12_readPart_34 (tgt := 75) (by decide) (by simp only [R32, R64] at *; omega) (fun q34 => ?_) (fun q34 => ?_)
                · refine V_ex sX12_readPart_75 (by rfl) (by first | exact trivial | exact Or.inr rfl | exact Or.inl rfl | (simp only [ob, obA, R32, R64] at *; omega) | (simp only [ob, obA, R32, R64] at *; and_intros <;> omega)) ?_
                  refine V_callV (M := MX12_readPart) (N := MX12_mark) dX12_readPart_78 lRX12_268 kX12_mark rfl (rfl) rfl (c_iMark (d := 2) hκ hI (by decide) (by omega) (by omega)) rfl rfl (Nat.le_of_ble_eq_true rfl) (fit_rm (by omega)) (⟨Nat.le_of_ble_eq_true rfl, Nat.le_of_ble_eq_true rfl⟩) (fun v Ω' hp => ?_) (fun _ _ h => h.elim)
                  obtain ⟨rfl, G1, rfl, f1, i1⟩ := hp.1 h40
                  refine V_ex sX12_readPart_81 (by rfl) (by first | exact trivial | exact Or.inr rfl | exact Or.inl rfl | (simp only [ob, obA, R32, R64] at *; omega) | (simp only [ob, obA, R32, R64] at *; and_intros <;> omega)) ?_
                  refine V_callV (M := MX12_readPart) (N := MX12_readExpression) dX12_readPart_85 lRX12_271 kX12_readExpression rfl (rfl) rfl (hrq G1 ⟨i1, cd_m f1 hc, by omega⟩) rfl rfl (Nat.le_of_ble_eq_true rfl) (fit_rm (by omega)) (⟨Nat.le_of_ble_eq_true rfl, Nat.le_of_ble_eq_true rfl⟩) (fun v Ω' hp => ?_) (fun _ _ h => h.elim)
                  obtain ⟨rfl, G2, rfl, f2, m2⟩ := hp
                  obtain ⟨i2, c2⟩ := m2.1 hb
                  refine V_ex sX12_readPart_88 (by rfl) (by first | exact trivial | exact Or.inr rfl | exact Or.inl rfl | (simp only [ob, obA, R32, R64] at *; omega) | (simp only [ob, obA, R32, R64] at *; and_intros <;> omega)) ?_
                  refine V_callV (M := MX12_readPart) (N := MX12_mark) dX12_readPart_91 lRX12_268 kX12_mark rfl (rfl) rfl (c_iMark (d := 2) hκ i2 (by decide) (by omega) (by omega)) rfl rfl (Nat.le_of_ble_eq_true rfl) (fit_rm (by omega)) (⟨Nat.le_of_ble_eq_true rfl, Nat.le_of_ble_eq_true rfl⟩) (fun v Ω' hp => ?_) (fun _ _ h => h.elim)
                  obtain ⟨rfl, rfl⟩ := hp.2 h41
                  refine V_vret dX12_readPart_94 rfl (by decide) ?_
                  rw [hP, pSign, if_neg h41]
                  exact ⟨rfl, _, rfl, ((FX.m f1).trans f2).trans (FX.ct G2), mR_ct G2 (by decide)⟩
                · exact absurd (k1.mp q34) hw
              · exact absurd (k2.mp q13) hn
            · exact absurd rfl q4
        · rw [if_neg hb] at hP
          refine V_ex sX12_readPart_0 (by simp only [Option.toList, List.cons_append, List.nil_append, exN, ex1, gI, gL, gR, pI, pL, pR, lget, lset1, lset2, kl, b2I, b2L, nob, ob32, ob64, xGet, xPut, xLen, xLd, xLdR, xSt, obA, true_and, and_true, and_self, eq_self, Nat.reduceEqDiff, Nat.zero_ne_one, reduceIte, Nat.reduceLeDiff, and_false, false_and, show skd 11 26 = 0 from rfl, show LF.1 145 = some (.inl 11) from rfl, h26, h21, upd2_eq, Int.reduceToNat, Int.toNat_natCast]; rfl) (by first | exact trivial | exact Or.inr rfl | exact Or.inl rfl | (simp only [ob, obA, R32, R64] at *; omega) | (simp only [ob, obA, R32, R64] at *; and_intros <;> omega)) ?_
          refine V_ifeq dX12_readPart_4 (tgt := 8) (by decide) (by simp only [R32, R64] at *; omega) (fun q4 => ?_) (fun q4 => ?_)
          · refine V_ex sX12_readPart_8 (by simp only [Option.toList, List.cons_append, List.nil_append, exN, ex1, gI, gL, gR, pI, pL, pR, lget, lset1, lset2, kl, b2I, b2L, nob, ob32, ob64, xGet, xPut, xLen, xLd, xLdR, xSt, obA, true_and, and_true, and_self, eq_self, Nat.reduceEqDiff, Nat.zero_ne_one, reduceIte, Nat.reduceLeDiff, and_false, false_and, show skd 11 21 = 0 from rfl, show LF.1 145 = some (.inl 11) from rfl, h26, h21, upd2_eq, Int.reduceToNat, Int.toNat_natCast]; rfl) (by first | exact trivial | exact Or.inr rfl | exact Or.inl rfl | (simp only [ob, obA, R32, R64] at *; omega) | (simp only [ob, obA, R32, R64] at *; and_intros <;> omega)) ?_
            refine V_icmpne dX12_readPart_13 (tgt := 29) (by decide) (by simp only [R32, R64] at *; omega) (fun q13 => ?_) (fun q13 => ?_)
            · refine V_ex sX12_readPart_29 (by simp only [Option.toList, List.cons_append, List.nil_append, exN, ex1, gI, gL, gR, pI, pL, pR, lget, lset1, lset2, kl, b2I, b2L, nob, ob32, ob64, xGet, xPut, xLen, xLd, xLdR, xSt, obA, true_and, and_true, and_self, eq_self, Nat.reduceEqDiff, Nat.zero_ne_one, reduceIte, Nat.reduceLeDiff, and_false, false_and, show skd 11 21 = 0 from rfl, show LF.1 145 = some (.inl 11) from rfl, h26, h21, upd2_eq, Int.reduceToNat, Int.toNat_natCast]; rfl) (by first | exact trivial | exact Or.inr rfl | exact Or.inl rfl | (simp only [ob, obA, R32, R64] at *; omega) | (simp only [ob, obA, R32, R64] at *; and_intros <;> omega)) ?_
              refine V_icmpne dX12_readPart_34 (tgt := 75) (by decide) (by simp only [R32, R64] at *; omega) (fun q34 => ?_) (fun q34 => ?_)
              · refine V_ex sX12_readPart_75 (by rfl) (by first | exact trivial | exact Or.inr rfl | exact Or.inl rfl | (simp only [ob, obA, R32, R64] at *; omega) | (simp only [ob, obA, R32, R64] at *; and_intros <;> omega)) ?_
                refine V_callV (M := MX12_readPart) (N := MX12_mark) dX12_readPart_78 lRX12_268 kX12_mark rfl (rfl) rfl (c_iMark (d := 2) hκ hI (by decide) (by omega) (by omega)) rfl rfl (Nat.le_of_ble_eq_true rfl) (fit_rm (by omega)) (⟨Nat.le_of_ble_eq_true rfl, Nat.le_of_ble_eq_true rfl⟩) (fun v Ω' hp => ?_) (fun _ _ h => h.elim)
                obtain ⟨rfl, G1, rfl, f1, i1⟩ := hp.1 h40
                refine V_ex sX12_readPart_81 (by rfl) (by first | exact trivial | exact Or.inr rfl | exact Or.inl rfl | (simp only [ob, obA, R32, R64] at *; omega) | (simp only [ob, obA, R32, R64] at *; and_intros <;> omega)) ?_
                refine V_callV (M := MX12_readPart) (N := MX12_readExpression) dX12_readPart_85 lRX12_271 kX12_readExpression rfl (rfl) rfl (hrq G1 ⟨i1, cd_m f1 hc, by omega⟩) rfl rfl (Nat.le_of_ble_eq_true rfl) (fit_rm (by omega)) (⟨Nat.le_of_ble_eq_true rfl, Nat.le_of_ble_eq_true rfl⟩) (fun v Ω' hp => ?_) (fun _ _ h => h.elim)
                obtain ⟨rfl, G2, rfl, f2, m2⟩ := hp
                have hm2 := m2.2 hb
                have h26b : G2.1 145 26 ≠ 0 := by rw [hm2.1]; exact hb
                refine V_ex sX12_readPart_88 (by rfl) (by first | exact trivial | exact Or.inr rfl | exact Or.inl rfl | (simp only [ob, obA, R32, R64] at *; omega) | (simp only [ob, obA, R32, R64] at *; and_intros <;> omega)) ?_
                refine V_callV (M := MX12_readPart) (N := MX12_mark) dX12_readPart_91 lRX12_268 kX12_mark rfl (rfl) rfl (c_mMark0 (d := 2) hκ h26b (by rw [hm2.1]; have := hpg.2.2; unfold R32; omega)) rfl rfl (Nat.le_of_ble_eq_true rfl) (fit_rm (by omega)) (⟨Nat.le_of_ble_eq_true rfl, Nat.le_of_ble_eq_true rfl⟩) (fun v Ω' hp => ?_) (fun _ _ h => h.elim)
                obtain ⟨rfl, rfl⟩ := hp
                refine V_vret dX12_readPart_94 rfl (by decide) (by rw [hP]; exact ⟨rfl, G2, rfl, (FX.m f1).trans f2, m2⟩)
              · exact absurd (k1.mp q34) hw
            · exact absurd (k2.mp q13) hn
          · exact absurd rfl q4
      · have hP : pPart (tkW (tk f n 0)) (tkV (tk f n 0)) rec (i, 0, c) = (i, 1, c) := by
          rw [pPart]; dsimp only; rw [if_neg h40, if_neg hn, if_pos (by omega)]
        have h1 : (ctW f n i 1 G).1 145 26 ≠ 0 := by rw [ct_26]; decide
        have h1R : R32 ((ctW f n i 1 G).1 145 26) := by rw [ct_26]; unfold R32; omega
        refine V_ex sX12_readPart_0 (by simp only [Option.toList, List.cons_append, List.nil_append, exN, ex1, gI, gL, gR, pI, pL, pR, lget, lset1, lset2, kl, b2I, b2L, nob, ob32, ob64, xGet, xPut, xLen, xLd, xLdR, xSt, obA, true_and, and_true, and_self, eq_self, Nat.reduceEqDiff, Nat.zero_ne_one, reduceIte, Nat.reduceLeDiff, and_false, false_and, show skd 11 26 = 0 from rfl, show LF.1 145 = some (.inl 11) from rfl, h26, h21, upd2_eq, Int.reduceToNat, Int.toNat_natCast]; rfl) (by first | exact trivial | exact Or.inr rfl | exact Or.inl rfl | (simp only [ob, obA, R32, R64] at *; omega) | (simp only [ob, obA, R32, R64] at *; and_intros <;> omega)) ?_
        refine V_ifeq dX12_readPart_4 (tgt := 8) (by decide) (by simp only [R32, R64] at *; omega) (fun q4 => ?_) (fun q4 => ?_)
        · refine V_ex sX12_readPart_8 (by simp only [Option.toList, List.cons_append, List.nil_append, exN, ex1, gI, gL, gR, pI, pL, pR, lget, lset1, lset2, kl, b2I, b2L, nob, ob32, ob64, xGet, xPut, xLen, xLd, xLdR, xSt, obA, true_and, and_true, and_self, eq_self, Nat.reduceEqDiff, Nat.zero_ne_one, reduceIte, Nat.reduceLeDiff, and_false, false_and, show skd 11 21 = 0 from rfl, show LF.1 145 = some (.inl 11) from rfl, h26, h21, upd2_eq, Int.reduceToNat, Int.toNat_natCast]; rfl) (by first | exact trivial | exact Or.inr rfl | exact Or.inl rfl | (simp only [ob, obA, R32, R64] at *; omega) | (simp only [ob, obA, R32, R64] at *; and_intros <;> omega)) ?_
          refine V_icmpne dX12_readPart_13 (tgt := 29) (by decide) (by simp only [R32, R64] at *; omega) (fun q13 => ?_) (fun q13 => ?_)
          · refine V_ex sX12_readPart_29 (by simp only [Option.toList, List.cons_append, List.nil_append, exN, ex1, gI, gL, gR, pI, pL, pR, lget, lset1, lset2, kl, b2I, b2L, nob, ob32, ob64, xGet, xPut, xLen, xLd, xLdR, xSt, obA, true_and, and_true, and_self, eq_self, Nat.reduceEqDiff, Nat.zero_ne_one, reduceIte, Nat.reduceLeDiff, and_false, false_and, show skd 11 21 = 0 from rfl, show LF.1 145 = some (.inl 11) from rfl, h26, h21, upd2_eq, Int.reduceToNat, Int.toNat_natCast]; rfl) (by first | exact trivial | exact Or.inr rfl | exact Or.inl rfl | (simp only [ob, obA, R32, R64] at *; omega) | (simp only [ob, obA, R32, R64] at *; and_intros <;> omega)) ?_
            refine V_icmpne dX12_readPart_34 (tgt := 75) (by decide) (by simp only [R32, R64] at *; omega) (fun q34 => ?_) (fun q34 => ?_)
            · refine V_ex sX12_readPart_75 (by rfl) (by first | exact trivial | exact Or.inr rfl | exact Or.inl rfl | (simp only [ob, obA, R32, R64] at *; omega) | (simp only [ob, obA, R32, R64] at *; and_intros <;> omega)) ?_
              refine V_callV (M := MX12_readPart) (N := MX12_mark) dX12_readPart_78 lRX12_268 kX12_mark rfl (rfl) rfl (c_iMark (d := 2) hκ hI (by decide) (by omega) (by omega)) rfl rfl (Nat.le_of_ble_eq_true rfl) (fit_rm (by omega)) (⟨Nat.le_of_ble_eq_true rfl, Nat.le_of_ble_eq_true rfl⟩) (fun v Ω' hp => ?_) (fun _ _ h => h.elim)
              obtain ⟨rfl, rfl⟩ := hp.2 h40
              refine V_ex sX12_readPart_81 (by rfl) (by first | exact trivial | exact Or.inr rfl | exact Or.inl rfl | (simp only [ob, obA, R32, R64] at *; omega) | (simp only [ob, obA, R32, R64] at *; and_intros <;> omega)) ?_
              refine V_callV (M := MX12_readPart) (N := MX12_readExpression) dX12_readPart_85 lRX12_271 kX12_readExpression rfl (rfl) rfl (hrec.2 _ h1 h1R) rfl rfl (Nat.le_of_ble_eq_true rfl) (fit_rm (by omega)) (⟨Nat.le_of_ble_eq_true rfl, Nat.le_of_ble_eq_true rfl⟩) (fun v Ω' hp => ?_) (fun _ _ h => h.elim)
              obtain ⟨rfl, rfl⟩ := hp
              refine V_ex sX12_readPart_88 (by rfl) (by first | exact trivial | exact Or.inr rfl | exact Or.inl rfl | (simp only [ob, obA, R32, R64] at *; omega) | (simp only [ob, obA, R32, R64] at *; and_intros <;> omega)) ?_
              refine V_callV (M := MX12_readPart) (N := MX12_mark) dX12_readPart_91 lRX12_268 kX12_mark rfl (rfl) rfl (c_mMark0 (d := 2) hκ h1 h1R) rfl rfl (Nat.le_of_ble_eq_true rfl) (fit_rm (by omega)) (⟨Nat.le_of_ble_eq_true rfl, Nat.le_of_ble_eq_true rfl⟩) (fun v Ω' hp => ?_) (fun _ _ h => h.elim)
              obtain ⟨rfl, rfl⟩ := hp
              refine V_vret dX12_readPart_94 rfl (by decide) (mQ_ct G (by decide) hP)
            · exact absurd (k1.mp q34) hw
          · exact absurd (k2.mp q13) hn
        · exact absurd rfl q4
set_option maxRecDepth 100000 in
set_option maxHeartbeats 4000000 in
theorem c_mPart0 {κ : Kx} (hκ : KOK κ) {d : Nat} {lv : Int} {G : Wd} (hb : G.1 145 26 ≠ 0) (hbR : R32 (G.1 145 26)) : Ct κ MX12_readPart d 0 0 [VR 145, VI lv] (Wm G) (voidG G) noX := c_mPartB hκ hb hbR
