/-! ShelfReader: leaves told -/
/-- the same but what lies at l and behind it, the place, the fault found -/
def FLs (l : Nat) (G G' : Wd) : Prop := G'.2 = G.2 ∧ ∀ x j, x ≠ l → x ≠ l + 1 → ¬ (x = 4 ∧ j = 6) → ¬ (x = 3 ∧ j = 1) → G'.1 x j = G.1 x j
theorem FLs.refl (l : Nat) (G : Wd) : FLs l G G := ⟨rfl, fun _ _ _ _ _ _ => rfl⟩
theorem FLs.trans {l : Nat} {G G' G'' : Wd} (h : FLs l G G') (h' : FLs l G' G'') : FLs l G G'' := ⟨h'.1.trans h.1, fun x j a b c d => (h'.2 x j a b c d).trans (h.2 x j a b c d)⟩
theorem FLs.cur (l : Nat) (G : Wd) (z : Int) : FLs l G (uI G 4 6 z) := ⟨rfl, fun x j a b c d => at_cur c⟩
theorem FLs.fnd (l : Nat) (G : Wd) (z : Int) : FLs l G (uI G 3 1 z) := ⟨rfl, fun x j a b c d => at_fnd d⟩
theorem FLs.take (l : Nat) (G : Wd) (z : Int) : FLs l G (lsTake G l z) := ⟨lsTake_2, fun x j a b c d => by rw [lsTake_ne a b]⟩
theorem FLs.rd {l : Nat} {G G' : Wd} (h : FLs l G G') (h5 : l ≠ 5 ∧ l ≠ 7 ∧ l ≠ 4 ∧ l ≠ 6) {w v : Nat → Int} {N : Nat} (hr : rdT G w v N) : rdT G' w v N := fun j hj => by
  rw [h.2 5 j (by omega) (by omega) (by omega) (by omega), h.2 7 j (by omega) (by omega) (by omega) (by omega)]
  exact hr j hj
def rLf (w v : Nat → Int) (lv : Int) (most : Nat) (i : Nat) (g : List Int) : Int := if w i ≠ -2 then 1 else pLf v lv most i g
set_option maxRecDepth 100000 in
set_option maxHeartbeats 4000000 in
theorem c_rIdx {κ : Kx} (hκ : KOK κ) {d i N s nb : Nat} {w v : Nat → Int} {G : Wd} (hE : eE s w v N) (hr : rdT G w v N) (hi : G.1 4 6 = (i : Nat)) (hiN : i ≤ N) (hnb : G.1 s 1 = (nb : Nat)) (hnb6 : nb ≤ 6) (hd : 1 ≤ d) : Ct κ MX8_readBookIndex d 0 0 [VR 3, VR s] (Wm G) (fun u Ω' => u = some (VI (if pIdx w v nb i = 0 then v i else -1)) ∧ Ω' = Wm (if pIdx w v nb i = 0 then uI G 4 6 ((i : Int) + 1) else uI G 3 1 (pIdx w v nb i))) noX := by
  refine Ct_of hκ kX8_readBookIndex.1 rfl (Nat.le_of_ble_eq_true rfl) (ls := [some (VR 3), some (VR s), none]) rfl (fun μ => ?_)
  obtain ⟨hS, hT, hN, hw⟩ := hE
  have e5 := (hr i hiN).1
  have e7 := (hr i hiN).2
  have hwi := hw i hiN
  have hvi := hT.2 i
  have h1S := (sh_facts hS).1
  refine V_ex sX8_readBookIndex_0 (by simp only [Option.toList, List.cons_append, List.nil_append, exN, ex1, gI, gL, gR, pI, pL, pR, lget, lset1, lset2, kl, b2I, b2L, nob, ob32, ob64, xGet, xPut, xLen, xLd, xLdR, xSt, obA, true_and, and_true, and_self, eq_self, Nat.reduceEqDiff, Nat.zero_ne_one, reduceIte, Nat.reduceLeDiff, and_false, false_and, show skd 7 0 = 2 from rfl, show LF.1 3 = some (.inl 7) from rfl, show LF.2 3 0 = some 4 from rfl, upd2_eq, Int.reduceToNat, Int.toNat_natCast]; rfl) (by first | exact trivial | exact Or.inr rfl | exact Or.inl rfl | (simp only [ob, obA, R32, R64] at *; omega) | (simp only [ob, obA, R32, R64] at *; and_intros <;> omega)) ?_
  refine V_callV (M := MX8_readBookIndex) (N := MX9_numberTold) dX8_readBookIndex_4 lRX8_99 kX9_numberTold rfl (rfl) rfl (c_tNumberTold (d := 0) hκ hi (by omega)) rfl rfl (Nat.le_of_ble_eq_true rfl) (fit_rm (by omega)) (⟨Nat.le_of_ble_eq_true rfl, Nat.le_of_ble_eq_true rfl⟩) (fun v Ω' hp => ?_) (fun _ _ h => h.elim)
  obtain ⟨rfl, rfl⟩ := hp
  rw [e7]
  refine V_ex sX8_readBookIndex_7 (by simp only [Option.toList, List.cons_append, List.nil_append, exN, ex1, gI, gL, gR, pI, pL, pR, lget, lset1, lset2, kl, b2I, b2L, nob, ob32, ob64, xGet, xPut, xLen, xLd, xLdR, xSt, obA, true_and, and_true, and_self, eq_self, Nat.reduceEqDiff, Nat.zero_ne_one, reduceIte, Nat.reduceLeDiff, and_false, false_and, show skd 7 0 = 2 from rfl, show LF.1 3 = some (.inl 7) from rfl, show LF.2 3 0 = some 4 from rfl, upd2_eq, Int.reduceToNat, Int.toNat_natCast]; rfl) (by first | exact trivial | exact Or.inr rfl | exact Or.inl rfl | (simp only [ob, obA, R32, R64] at *; omega) | (simp only [ob, obA, R32, R64] at *; and_intros <;> omega)) ?_
  refine V_callV (M := MX8_readBookIndex) (N := MX9_is) dX8_readBookIndex_14 lRX8_37 kX9_is rfl (rfl) rfl (c_tIs (d := 0) hκ hi (by omega) (by rw [e5]; unfold R32; omega) (by unfold R32; omega)) rfl rfl (Nat.le_of_ble_eq_true rfl) (fit_rm (by omega)) (⟨Nat.le_of_ble_eq_true rfl, Nat.le_of_ble_eq_true rfl⟩) (fun v Ω' hp => ?_) (fun _ _ h => h.elim)
  obtain ⟨rfl, rfl⟩ := hp
  rw [e5]
  refine V_ifneB dX8_readBookIndex_17 (tgt := 29) (by decide) (fun q17 => ?_) (fun q17 => ?_)
  · refine V_ex sX8_readBookIndex_29 (by rfl) (by first | exact trivial | exact Or.inr rfl | exact Or.inl rfl | (simp only [ob, obA, R32, R64] at *; omega) | (simp only [ob, obA, R32, R64] at *; and_intros <;> omega)) ?_
    refine V_icmple dX8_readBookIndex_33 (tgt := 45) (by decide) (by simp only [R32, R64] at *; omega) (fun q33 => ?_) (fun q33 => ?_)
    · refine V_ex sX8_readBookIndex_45 (by rfl) (by first | exact trivial | exact Or.inr rfl | exact Or.inl rfl | (simp only [ob, obA, R32, R64] at *; omega) | (simp only [ob, obA, R32, R64] at *; and_intros <;> omega)) ?_
      refine V_callV (M := MX8_readBookIndex) (N := MX7_bookAt) dX8_readBookIndex_47 lRX8_112 kX7_bookAt rfl (h1S) rfl (c_bookAt (d := 0) hκ hS (by unfold R32; omega) (by rw [hnb]; unfold R32; omega)) rfl rfl (Nat.le_of_ble_eq_true rfl) (fit_rm (by omega)) (⟨Nat.le_of_ble_eq_true rfl, Nat.le_of_ble_eq_true rfl⟩) (fun v Ω' hp => ?_) (fun _ _ h => h.elim)
      obtain ⟨rfl, rfl⟩ := hp
      refine V_ifnonnull dX8_readBookIndex_50 (tgt := 62) (by decide) (fun q50 => ?_) (fun q50 => ?_)
      · refine V_ex sX8_readBookIndex_62 (by simp only [Option.toList, List.cons_append, List.nil_append, exN, ex1, gI, gL, gR, pI, pL, pR, lget, lset1, lset2, kl, b2I, b2L, nob, ob32, ob64, xGet, xPut, xLen, xLd, xLdR, xSt, obA, true_and, and_true, and_self, eq_self, Nat.reduceEqDiff, Nat.zero_ne_one, reduceIte, Nat.reduceLeDiff, and_false, false_and, show skd 7 0 = 2 from rfl, show LF.1 3 = some (.inl 7) from rfl, show LF.2 3 0 = some 4 from rfl, upd2_eq, Int.reduceToNat, Int.toNat_natCast]; rfl) (by first | exact trivial | exact Or.inr rfl | exact Or.inl rfl | (simp only [ob, obA, R32, R64] at *; omega) | (simp only [ob, obA, R32, R64] at *; and_intros <;> omega)) ?_
        refine V_callV (M := MX8_readBookIndex) (N := MX9_advance) dX8_readBookIndex_66 lRX8_52 kX9_advance rfl (rfl) rfl (c_tAdvance (d := 0) hκ) rfl rfl (Nat.le_of_ble_eq_true rfl) (fit_rm (by omega)) (⟨Nat.le_of_ble_eq_true rfl, Nat.le_of_ble_eq_true rfl⟩) (fun v Ω' hp => ?_) (fun _ _ h => h.elim)
        obtain ⟨rfl, rfl⟩ := hp
        rw [hi]
        refine V_ex sX8_readBookIndex_69 (by rfl) (by first | exact trivial | exact Or.inr rfl | exact Or.inl rfl | (simp only [ob, obA, R32, R64] at *; omega) | (simp only [ob, obA, R32, R64] at *; and_intros <;> omega)) ?_
        refine V_iret dX8_readBookIndex_70 rfl (by decide) ?_
        have hb : bkAt G s (v i) ≠ 0 := q50
        have hlt : v i < (nb : Int) := by unfold bkAt at hb; rw [hnb] at hb; split at hb; omega; exact absurd rfl hb
        have h0 : pIdx w v nb i = 0 := by rw [pIdx, if_neg (not_not_intro (of_decide_eq_true q17)), if_neg (by omega), if_neg (by omega)]
        exact ⟨by rw [if_pos h0], by rw [if_pos h0]⟩
      · refine V_ex sX8_readBookIndex_53 (by rfl) (by first | exact trivial | exact Or.inr rfl | exact Or.inl rfl | (simp only [ob, obA, R32, R64] at *; omega) | (simp only [ob, obA, R32, R64] at *; and_intros <;> omega)) ?_
        refine V_callV (M := MX8_readBookIndex) (N := MX8_refuse) dX8_readBookIndex_55 lRX8_49 kX8_refuse rfl (rfl) rfl (c_rRefuse (d := 0) hκ) rfl rfl (Nat.le_of_ble_eq_true rfl) (fit_rm (by omega)) (⟨Nat.le_of_ble_eq_true rfl, Nat.le_of_ble_eq_true rfl⟩) (fun v Ω' hp => ?_) (fun _ _ h => h.elim)
        obtain ⟨rfl, rfl⟩ := hp
        refine V_ex sX8_readBookIndex_58 (by rfl) (by first | exact trivial | exact Or.inr rfl | exact Or.inl rfl | (simp only [ob, obA, R32, R64] at *; omega) | (simp only [ob, obA, R32, R64] at *; and_intros <;> omega)) ?_
        refine V_goto dX8_readBookIndex_59 (tgt := 71) (by decide) ?_
        refine V_ex sX8_readBookIndex_71 (by rfl) (by first | exact trivial | exact Or.inr rfl | exact Or.inl rfl | (simp only [ob, obA, R32, R64] at *; omega) | (simp only [ob, obA, R32, R64] at *; and_intros <;> omega)) ?_
        refine V_iret dX8_readBookIndex_72 rfl (by decide) ?_
        have hb : bkAt G s (v i) = 0 := q50
        have hlt : (nb : Int) ≤ v i := by
          unfold bkAt at hb; rw [hnb] at hb
          split at hb
          · exact absurd hb (by omega)
          · omega
        have h0 : pIdx w v nb i = 3 := by rw [pIdx, if_neg (not_not_intro (of_decide_eq_true q17)), if_neg (by omega), if_pos (by omega)]
        exact ⟨by rw [h0]; rfl, by rw [h0]; rfl⟩
    · refine V_ex sX8_readBookIndex_36 (by rfl) (by first | exact trivial | exact Or.inr rfl | exact Or.inl rfl | (simp only [ob, obA, R32, R64] at *; omega) | (simp only [ob, obA, R32, R64] at *; and_intros <;> omega)) ?_
      refine V_callV (M := MX8_readBookIndex) (N := MX8_refuse) dX8_readBookIndex_38 lRX8_49 kX8_refuse rfl (rfl) rfl (c_rRefuse (d := 0) hκ) rfl rfl (Nat.le_of_ble_eq_true rfl) (fit_rm (by omega)) (⟨Nat.le_of_ble_eq_true rfl, Nat.le_of_ble_eq_true rfl⟩) (fun v Ω' hp => ?_) (fun _ _ h => h.elim)
      obtain ⟨rfl, rfl⟩ := hp
      refine V_ex sX8_readBookIndex_41 (by rfl) (by first | exact trivial | exact Or.inr rfl | exact Or.inl rfl | (simp only [ob, obA, R32, R64] at *; omega) | (simp only [ob, obA, R32, R64] at *; and_intros <;> omega)) ?_
      refine V_goto dX8_readBookIndex_42 (tgt := 71) (by decide) ?_
      refine V_ex sX8_readBookIndex_71 (by rfl) (by first | exact trivial | exact Or.inr rfl | exact Or.inl rfl | (simp only [ob, obA, R32, R64] at *; omega) | (simp only [ob, obA, R32, R64] at *; and_intros <;> omega)) ?_
      refine V_iret dX8_readBookIndex_72 rfl (by decide) ?_
      have h0 : pIdx w v nb i = 2 := by rw [pIdx, if_neg (not_not_intro (of_decide_eq_true q17)), if_pos (by omega)]
      exact ⟨by rw [h0]; rfl, by rw [h0]; rfl⟩
  · refine V_ex sX8_readBookIndex_20 (by rfl) (by first | exact trivial | exact Or.inr rfl | exact Or.inl rfl | (simp only [ob, obA, R32, R64] at *; omega) | (simp only [ob, obA, R32, R64] at *; and_intros <;> omega)) ?_
    refine V_callV (M := MX8_readBookIndex) (N := MX8_refuse) dX8_readBookIndex_22 lRX8_49 kX8_refuse rfl (rfl) rfl (c_rRefuse (d := 0) hκ) rfl rfl (Nat.le_of_ble_eq_true rfl) (fit_rm (by omega)) (⟨Nat.le_of_ble_eq_true rfl, Nat.le_of_ble_eq_true rfl⟩) (fun v Ω' hp => ?_) (fun _ _ h => h.elim)
    obtain ⟨rfl, rfl⟩ := hp
    refine V_ex sX8_readBookIndex_25 (by rfl) (by first | exact trivial | exact Or.inr rfl | exact Or.inl rfl | (simp only [ob, obA, R32, R64] at *; omega) | (simp only [ob, obA, R32, R64] at *; and_intros <;> omega)) ?_
    refine V_goto dX8_readBookIndex_26 (tgt := 71) (by decide) ?_
    refine V_ex sX8_readBookIndex_71 (by rfl) (by first | exact trivial | exact Or.inr rfl | exact Or.inl rfl | (simp only [ob, obA, R32, R64] at *; omega) | (simp only [ob, obA, R32, R64] at *; and_intros <;> omega)) ?_
    refine V_iret dX8_readBookIndex_72 rfl (by decide) ?_
    have h0 : pIdx w v nb i = 1 := by rw [pIdx, if_pos (of_decide_eq_false q17)]
    exact ⟨by rw [h0]; rfl, by rw [h0]; rfl⟩
set_option maxRecDepth 100000 in
set_option maxHeartbeats 4000000 in
theorem c_rLeaf {κ : Kx} (hκ : KOK κ) {d i N b l most : Nat} {lv : Int} {w v : Nat → Int} {g : List Int} {G : Wd} (hT : pTok w v N) (hN : N ≤ 500) (hw : wOk w N) (hr : rdT G w v N) (hi : G.1 4 6 = (i : Nat)) (hiN : i ≤ N) (hB : BKa b) (hL : LSa l) (hlv : G.1 b 1 = lv) (hlv2 : 0 ≤ lv ∧ lv ≤ 2000) (hg : lsIs G l g) (hg2 : g.length ≤ 1000) (hm : most ≤ 1000) (hl4 : l ≠ 4 ∧ l + 1 ≠ 4) (hd : 1 ≤ d) : Ct κ MX8_readLeaf d 0 0 [VR 3, VR b, VR l, VI (most : Nat)] (Wm G) (fun u Ω' => u = some (VI (b2i (decide (rLf w v lv most i g = 0)))) ∧ Ω' = Wm (if rLf w v lv most i g = 0 then uI (lsTake G l (v i)) 4 6 ((i : Int) + 1) else uI G 3 1 (rLf w v lv most i g))) noX := by
  refine Ct_of hκ kX8_readLeaf.1 rfl (Nat.le_of_ble_eq_true rfl) (ls := [some (VR 3), some (VR b), some (VR l), some (VI (most : Nat)), none]) rfl (fun μ => ?_)
  have e5 := (hr i hiN).1
  have e7 := (hr i hiN).2
  have hwi := hw i hiN
  have hvi := hT.2 i
  have h1B := hB.1
  have h1L := hL.1
  have no : ∀ k : Int, k ≠ 0 → rLf w v lv most i g = k → ((some (VI 0) : Option Vl) = some (VI (b2i (decide (rLf w v lv most i g = 0)))) ∧ Wm (uI G 3 1 k) = Wm (if rLf w v lv most i g = 0 then uI (lsTake G l (v i)) 4 6 ((i : Int) + 1) else uI G 3 1 (rLf w v lv most i g))) := fun k hk e => ⟨bz0 (by rw [e]; exact hk), by rw [e, if_neg hk]⟩
  refine V_ex sX8_readLeaf_0 (by simp only [Option.toList, List.cons_append, List.nil_append, exN, ex1, gI, gL, gR, pI, pL, pR, lget, lset1, lset2, kl, b2I, b2L, nob, ob32, ob64, xGet, xPut, xLen, xLd, xLdR, xSt, obA, true_and, and_true, and_self, eq_self, Nat.reduceEqDiff, Nat.zero_ne_one, reduceIte, Nat.reduceLeDiff, and_false, false_and, show skd 7 0 = 2 from rfl, show LF.1 3 = some (.inl 7) from rfl, show LF.2 3 0 = some 4 from rfl, upd2_eq, Int.reduceToNat, Int.toNat_natCast]; rfl) (by first | exact trivial | exact Or.inr rfl | exact Or.inl rfl | (simp only [ob, obA, R32, R64] at *; omega) | (simp only [ob, obA, R32, R64] at *; and_intros <;> omega)) ?_
  refine V_callV (M := MX8_readLeaf) (N := MX9_numberTold) dX8_readLeaf_4 lRX8_99 kX9_numberTold rfl (rfl) rfl (c_tNumberTold (d := 0) hκ hi (by omega)) rfl rfl (Nat.le_of_ble_eq_true rfl) (fit_rm (by omega)) (⟨Nat.le_of_ble_eq_true rfl, Nat.le_of_ble_eq_true rfl⟩) (fun v Ω' hp => ?_) (fun _ _ h => h.elim)
  obtain ⟨rfl, rfl⟩ := hp
  rw [e7]
  refine V_ex sX8_readLeaf_7 (by simp only [Option.toList, List.cons_append, List.nil_append, exN, ex1, gI, gL, gR, pI, pL, pR, lget, lset1, lset2, kl, b2I, b2L, nob, ob32, ob64, xGet, xPut, xLen, xLd, xLdR, xSt, obA, true_and, and_true, and_self, eq_self, Nat.reduceEqDiff, Nat.zero_ne_one, reduceIte, Nat.reduceLeDiff, and_false, false_and, show skd 7 0 = 2 from rfl, show LF.1 3 = some (.inl 7) from rfl, show LF.2 3 0 = some 4 from rfl, upd2_eq, Int.reduceToNat, Int.toNat_natCast]; rfl) (by first | exact trivial | exact Or.inr rfl | exact Or.inl rfl | (simp only [ob, obA, R32, R64] at *; omega) | (simp only [ob, obA, R32, R64] at *; and_intros <;> omega)) ?_
  refine V_callV (M := MX8_readLeaf) (N := MX9_is) dX8_readLeaf_15 lRX8_37 kX9_is rfl (rfl) rfl (c_tIs (d := 0) hκ hi (by omega) (by rw [e5]; unfold R32; omega) (by unfold R32; omega)) rfl rfl (Nat.le_of_ble_eq_true rfl) (fit_rm (by omega)) (⟨Nat.le_of_ble_eq_true rfl, Nat.le_of_ble_eq_true rfl⟩) (fun v Ω' hp => ?_) (fun _ _ h => h.elim)
  obtain ⟨rfl, rfl⟩ := hp
  rw [e5]
  refine V_ifneB dX8_readLeaf_18 (tgt := 27) (by decide) (fun q18 => ?_) (fun q18 => ?_)
  · have h2 := of_decide_eq_true q18
    refine V_ex sX8_readLeaf_27 (by rfl) (by first | exact trivial | exact Or.inr rfl | exact Or.inl rfl | (simp only [ob, obA, R32, R64] at *; omega) | (simp only [ob, obA, R32, R64] at *; and_intros <;> omega)) ?_
    refine V_icmpgt dX8_readLeaf_32 (tgt := 43) (by decide) (by simp only [R32, R64] at *; omega) (fun q32 => ?_) (fun q32 => ?_)
    · refine V_ex sX8_readLeaf_43 (by rfl) (by first | exact trivial | exact Or.inr rfl | exact Or.inl rfl | (simp only [ob, obA, R32, R64] at *; omega) | (simp only [ob, obA, R32, R64] at *; and_intros <;> omega)) ?_
      refine V_callV (M := MX8_readLeaf) (N := MX8_refuse) dX8_readLeaf_45 lRX8_49 kX8_refuse rfl (rfl) rfl (c_rRefuse (d := 0) hκ) rfl rfl (Nat.le_of_ble_eq_true rfl) (fit_rm (by omega)) (⟨Nat.le_of_ble_eq_true rfl, Nat.le_of_ble_eq_true rfl⟩) (fun v Ω' hp => ?_) (fun _ _ h => h.elim)
      obtain ⟨rfl, rfl⟩ := hp
      refine V_zret dX8_readLeaf_48 rfl (by first | exact Or.inl rfl | exact Or.inr rfl | exact b2i_01 _) (by decide) (no 2 (by decide) (by rw [rLf, if_neg (not_not_intro h2), pLf, if_pos (by omega)]))
    · refine V_ex sX8_readLeaf_35 (by rfl) (by first | exact trivial | exact Or.inr rfl | exact Or.inl rfl | (simp only [ob, obA, R32, R64] at *; omega) | (simp only [ob, obA, R32, R64] at *; and_intros <;> omega)) ?_
      refine V_callV (M := MX8_readLeaf) (N := MX5_size) dX8_readLeaf_36 lRX8_137 kX5_size rfl (h1L) rfl (c_size (d := 0) hκ hL) rfl rfl (Nat.le_of_ble_eq_true rfl) (fit_rm (by omega)) (⟨Nat.le_of_ble_eq_true rfl, Nat.le_of_ble_eq_true rfl⟩) (fun v Ω' hp => ?_) (fun _ _ h => h.elim)
      obtain ⟨rfl, rfl⟩ := hp
      rw [hg.1]
      refine V_ex sX8_readLeaf_39 (by rfl) (by first | exact trivial | exact Or.inr rfl | exact Or.inl rfl | (simp only [ob, obA, R32, R64] at *; omega) | (simp only [ob, obA, R32, R64] at *; and_intros <;> omega)) ?_
      refine V_icmplt dX8_readLeaf_40 (tgt := 49) (by decide) (by simp only [R32, R64] at *; omega) (fun q40 => ?_) (fun q40 => ?_)
      · refine V_ex sX8_readLeaf_49 (by rfl) (by first | exact trivial | exact Or.inr rfl | exact Or.inl rfl | (simp only [ob, obA, R32, R64] at *; omega) | (simp only [ob, obA, R32, R64] at *; and_intros <;> omega)) ?_
        refine V_callV (M := MX8_readLeaf) (N := MX0_hasLeaf) dX8_readLeaf_52 lRX8_142 kX0_hasLeaf rfl (h1B) rfl (c_hasLeaf (d := 0) hκ hB (by unfold R32; omega) (by rw [hlv]; unfold R32; omega)) rfl rfl (Nat.le_of_ble_eq_true rfl) (fit_rm (by omega)) (⟨Nat.le_of_ble_eq_true rfl, Nat.le_of_ble_eq_true rfl⟩) (fun v Ω' hp => ?_) (fun _ _ h => h.elim)
        obtain ⟨rfl, rfl⟩ := hp
        rw [hlv]
        refine V_ifneB dX8_readLeaf_55 (tgt := 64) (by decide) (fun q55 => ?_) (fun q55 => ?_)
        · refine V_ex sX8_readLeaf_64 (by rfl) (by first | exact trivial | exact Or.inr rfl | exact Or.inl rfl | (simp only [ob, obA, R32, R64] at *; omega) | (simp only [ob, obA, R32, R64] at *; and_intros <;> omega)) ?_
          refine V_callV (M := MX8_readLeaf) (N := MX5_has) dX8_readLeaf_67 lRX8_145 kX5_has rfl (h1L) rfl (c_has (d := 0) hκ hL (by unfold R32; omega)) rfl rfl (Nat.le_of_ble_eq_true rfl) (fit_rm (by omega)) (⟨Nat.le_of_ble_eq_true rfl, Nat.le_of_ble_eq_true rfl⟩) (fun v Ω' hp => ?_) (fun _ _ h => h.elim)
          obtain ⟨rfl, rfl⟩ := hp
          rw [hg.2]
          refine V_ifeqB dX8_readLeaf_70 (tgt := 79) (by decide) (fun q70 => ?_) (fun q70 => ?_)
          · refine V_ex sX8_readLeaf_79 (by rfl) (by first | exact trivial | exact Or.inr rfl | exact Or.inl rfl | (simp only [ob, obA, R32, R64] at *; omega) | (simp only [ob, obA, R32, R64] at *; and_intros <;> omega)) ?_
            refine V_callV (M := MX8_readLeaf) (N := MX5_take) dX8_readLeaf_82 lRX8_148 kX5_take rfl (h1L) rfl (c_take (d := 0) hκ hL (by unfold R32; omega)) rfl rfl (Nat.le_of_ble_eq_true rfl) (fit_rm (by omega)) (⟨Nat.le_of_ble_eq_true rfl, Nat.le_of_ble_eq_true rfl⟩) (fun v Ω' hp => ?_) (fun _ _ h => h.elim)
            obtain ⟨rfl, rfl⟩ := hp
            refine V_ex sX8_readLeaf_85 (by simp only [Option.toList, List.cons_append, List.nil_append, exN, ex1, gI, gL, gR, pI, pL, pR, lget, lset1, lset2, kl, b2I, b2L, nob, ob32, ob64, xGet, xPut, xLen, xLd, xLdR, xSt, obA, true_and, and_true, and_self, eq_self, Nat.reduceEqDiff, Nat.zero_ne_one, reduceIte, Nat.reduceLeDiff, and_false, false_and, show skd 7 0 = 2 from rfl, show LF.1 3 = some (.inl 7) from rfl, show LF.2 3 0 = some 4 from rfl, upd2_eq, Int.reduceToNat, Int.toNat_natCast]; rfl) (by first | exact trivial | exact Or.inr rfl | exact Or.inl rfl | (simp only [ob, obA, R32, R64] at *; omega) | (simp only [ob, obA, R32, R64] at *; and_intros <;> omega)) ?_
            refine V_callV (M := MX8_readLeaf) (N := MX9_advance) dX8_readLeaf_89 lRX8_52 kX9_advance rfl (rfl) rfl (c_tAdvance (d := 0) hκ) rfl rfl (Nat.le_of_ble_eq_true rfl) (fit_rm (by omega)) (⟨Nat.le_of_ble_eq_true rfl, Nat.le_of_ble_eq_true rfl⟩) (fun v Ω' hp => ?_) (fun _ _ h => h.elim)
            obtain ⟨rfl, rfl⟩ := hp
            rw [lsTake_ne (by omega) (by omega), hi]
            refine V_ex sX8_readLeaf_92 (by rfl) (by first | exact trivial | exact Or.inr rfl | exact Or.inl rfl | (simp only [ob, obA, R32, R64] at *; omega) | (simp only [ob, obA, R32, R64] at *; and_intros <;> omega)) ?_
            refine V_zret dX8_readLeaf_93 rfl (by first | exact Or.inl rfl | exact Or.inr rfl | exact b2i_01 _) (by decide) ?_
            have h55 := of_decide_eq_true q55
            have h0 : rLf w v lv most i g = 0 := by rw [rLf, if_neg (not_not_intro h2), pLf, if_neg (by omega), if_neg (by omega), if_neg (of_decide_eq_false q70)]
            exact ⟨bz1 h0, by rw [if_pos h0]⟩
          · refine V_ex sX8_readLeaf_73 (by rfl) (by first | exact trivial | exact Or.inr rfl | exact Or.inl rfl | (simp only [ob, obA, R32, R64] at *; omega) | (simp only [ob, obA, R32, R64] at *; and_intros <;> omega)) ?_
            refine V_callV (M := MX8_readLeaf) (N := MX8_refuse) dX8_readLeaf_75 lRX8_49 kX8_refuse rfl (rfl) rfl (c_rRefuse (d := 0) hκ) rfl rfl (Nat.le_of_ble_eq_true rfl) (fit_rm (by omega)) (⟨Nat.le_of_ble_eq_true rfl, Nat.le_of_ble_eq_true rfl⟩) (fun v Ω' hp => ?_) (fun _ _ h => h.elim)
            obtain ⟨rfl, rfl⟩ := hp
            refine V_zret dX8_readLeaf_78 rfl (by first | exact Or.inl rfl | exact Or.inr rfl | exact b2i_01 _) (by decide) (no 4 (by decide) (by have := of_decide_eq_true q55; rw [rLf, if_neg (not_not_intro h2), pLf, if_neg (by omega), if_neg (by omega), if_pos (of_decide_eq_true q70)]))
        · refine V_ex sX8_readLeaf_58 (by rfl) (by first | exact trivial | exact Or.inr rfl | exact Or.inl rfl | (simp only [ob, obA, R32, R64] at *; omega) | (simp only [ob, obA, R32, R64] at *; and_intros <;> omega)) ?_
          refine V_callV (M := MX8_readLeaf) (N := MX8_refuse) dX8_readLeaf_60 lRX8_49 kX8_refuse rfl (rfl) rfl (c_rRefuse (d := 0) hκ) rfl rfl (Nat.le_of_ble_eq_true rfl) (fit_rm (by omega)) (⟨Nat.le_of_ble_eq_true rfl, Nat.le_of_ble_eq_true rfl⟩) (fun v Ω' hp => ?_) (fun _ _ h => h.elim)
          obtain ⟨rfl, rfl⟩ := hp
          refine V_zret dX8_readLeaf_63 rfl (by first | exact Or.inl rfl | exact Or.inr rfl | exact b2i_01 _) (by decide) (no 3 (by decide) (by have := of_decide_eq_false q55; rw [rLf, if_neg (not_not_intro h2), pLf, if_neg (by omega), if_pos (by omega)]))
      · refine V_ex sX8_readLeaf_43 (by rfl) (by first | exact trivial | exact Or.inr rfl | exact Or.inl rfl | (simp only [ob, obA, R32, R64] at *; omega) | (simp only [ob, obA, R32, R64] at *; and_intros <;> omega)) ?_
        refine V_callV (M := MX8_readLeaf) (N := MX8_refuse) dX8_readLeaf_45 lRX8_49 kX8_refuse rfl (rfl) rfl (c_rRefuse (d := 0) hκ) rfl rfl (Nat.le_of_ble_eq_true rfl) (fit_rm (by omega)) (⟨Nat.le_of_ble_eq_true rfl, Nat.le_of_ble_eq_true rfl⟩) (fun v Ω' hp => ?_) (fun _ _ h => h.elim)
        obtain ⟨rfl, rfl⟩ := hp
        refine V_zret dX8_readLeaf_48 rfl (by first | exact Or.inl rfl | exact Or.inr rfl | exact b2i_01 _) (by decide) (no 2 (by decide) (by rw [rLf, if_neg (not_not_intro h2), pLf, if_pos (by omega)]))
  · refine V_ex sX8_readLeaf_21 (by rfl) (by first | exact trivial | exact Or.inr rfl | exact Or.inl rfl | (simp only [ob, obA, R32, R64] at *; omega) | (simp only [ob, obA, R32, R64] at *; and_intros <;> omega)) ?_
    refine V_callV (M := MX8_readLeaf) (N := MX8_refuse) dX8_readLeaf_23 lRX8_49 kX8_refuse rfl (rfl) rfl (c_rRefuse (d := 0) hκ) rfl rfl (Nat.le_of_ble_eq_true rfl) (fit_rm (by omega)) (⟨Nat.le_of_ble_eq_true rfl, Nat.le_of_ble_eq_true rfl⟩) (fun v Ω' hp => ?_) (fun _ _ h => h.elim)
    obtain ⟨rfl, rfl⟩ := hp
    refine V_zret dX8_readLeaf_26 rfl (by first | exact Or.inl rfl | exact Or.inr rfl | exact b2i_01 _) (by decide) (no 1 (by decide) (by rw [rLf, if_pos (of_decide_eq_false q18)]))
theorem rLf_0 {w v : Nat → Int} {lv : Int} {most i : Nat} {g : List Int} (h : rLf w v lv most i g = 0) : w i = -2 ∧ pLf v lv most i g = 0 ∧ v i < lv ∧ v i ∉ g ∧ g.length < most := by
  unfold rLf at h
  split at h
  · cases h
  · rename_i h1
    have h2 := h
    unfold pLf at h
    split at h
    · cases h
    · split at h
      · cases h
      · split at h
        · cases h
        · rename_i a b c
          exact ⟨Classical.not_not.mp h1, h2, by omega, c, by omega⟩
def lsP (l : Nat) (G : Wd) (r : Nat × Int × List Int) : Option Vl → Om → Prop := fun u Ω' => u = some (VI (b2i (decide (r.2.1 = 0)))) ∧ ∃ G', Ω' = Wm G' ∧ FLs l G G' ∧ G'.1 4 6 = (r.1 : Nat) ∧ (r.2.1 = 0 → G'.1 3 1 = G.1 3 1 ∧ lsIs G' l r.2.2) ∧ (r.2.1 ≠ 0 → G'.1 3 1 = r.2.1)
set_option maxRecDepth 100000 in
set_option maxHeartbeats 4000000 in
theorem c_rLeaves {κ : Kx} (hκ : KOK κ) {d i N b l most : Nat} {lv : Int} {w v : Nat → Int} {g : List Int} {G : Wd} (hT : pTok w v N) (hN : N ≤ 500) (hw : wOk w N) (hr : rdT G w v N) (hi : G.1 4 6 = (i : Nat)) (hiN : i ≤ N) (hB : BKa b) (hL : LSa l) (hlv : G.1 b 1 = lv) (hlv2 : 0 ≤ lv ∧ lv ≤ 2000) (hg : lsIs G l g) (hgm : g.length ≤ most) (hm : most ≤ 100) (hl4 : 8 ≤ l) (hb4 : b ≠ l ∧ b ≠ l + 1 ∧ b ≠ 4 ∧ b ≠ 3) (hd : 2 ≤ d) : Ct κ MX8_readLeaves d 0 0 [VR 3, VR b, VR l, VI (most : Nat)] (Wm G) (lsP l G (pLvs w v lv most 501 i g)) noX := by
  refine Ct_of hκ kX8_readLeaves.1 rfl (Nat.le_of_ble_eq_true rfl) (ls := [some (VR 3), some (VR b), some (VR l), some (VI (most : Nat)), none]) rfl (fun μ => ?_)
  have L : ∀ (k q : Nat) (ii : Int) (h : List Int) (G1 : Wd), ii = 501 - (k : Int) → k ≤ 501 → FLs l G G1 → G1.1 4 6 = (q : Nat) → q ≤ N → G1.1 3 1 = G.1 3 1 → lsIs G1 l h → h.length ≤ most → pLvs w v lv most k q h = pLvs w v lv most 501 i g → V κ MX8_readLeaves (rmD d 0 0) (lsP l G (pLvs w v lv most 501 i g)) noX 0 0 μ 0 0 (Wm G1) 3 [some (VR 3), some (VR b), some (VR l), some (VI (most : Nat)), some (VI ii)] [] := by
    intro k
    induction k with
    | zero =>
      intro q ii h G1 hii hk f1 hq hqN h31 hl1 hlen he
      rw [pLvs] at he
      refine V_ex sX8_readLeaves_3 (by rfl) (by first | exact trivial | exact Or.inr rfl | exact Or.inl rfl | (simp only [ob, obA, R32, R64] at *; omega) | (simp only [ob, obA, R32, R64] at *; and_intros <;> omega)) ?_
      refine V_icmpgt dX8_readLeaves_8 (tgt := 41) (by decide) (by simp only [R32, R64] at *; omega) (fun q8 => ?_) (fun q8 => ?_)
      · refine V_ex sX8_readLeaves_41 (by rfl) (by first | exact trivial | exact Or.inr rfl | exact Or.inl rfl | (simp only [ob, obA, R32, R64] at *; omega) | (simp only [ob, obA, R32, R64] at *; and_intros <;> omega)) ?_
        refine V_zret dX8_readLeaves_42 rfl (by first | exact Or.inl rfl | exact Or.inr rfl | exact b2i_01 _) (by decide) (by rw [← he]; exact ⟨rfl, G1, rfl, f1, hq, fun _ => ⟨h31, hl1⟩, fun q => absurd rfl q⟩)
      · omega
    | succ k ih =>
      intro q ii h G1 hii hk f1 hq hqN h31 hl1 hlen he
      have hr1 := f1.rd (by omega) hr
      have e5 := (hr1 q hqN).1
      have hwq := hw q hqN
      have hlv1 : G1.1 b 1 = lv := by rw [f1.2 b 1 hb4.1 hb4.2.1 (by omega) (by omega)]; exact hlv
      rw [pLvs] at he
      refine V_ex sX8_readLeaves_3 (by rfl) (by first | exact trivial | exact Or.inr rfl | exact Or.inl rfl | (simp only [ob, obA, R32, R64] at *; omega) | (simp only [ob, obA, R32, R64] at *; and_intros <;> omega)) ?_
      refine V_icmpgt dX8_readLeaves_8 (tgt := 41) (by decide) (by simp only [R32, R64] at *; omega) (fun q8 => ?_) (fun q8 => ?_)
      · omega
      · refine V_ex sX8_readLeaves_11 (by simp only [Option.toList, List.cons_append, List.nil_append, exN, ex1, gI, gL, gR, pI, pL, pR, lget, lset1, lset2, kl, b2I, b2L, nob, ob32, ob64, xGet, xPut, xLen, xLd, xLdR, xSt, obA, true_and, and_true, and_self, eq_self, Nat.reduceEqDiff, Nat.zero_ne_one, reduceIte, Nat.reduceLeDiff, and_false, false_and, show skd 7 0 = 2 from rfl, show LF.1 3 = some (.inl 7) from rfl, show LF.2 3 0 = some 4 from rfl, upd2_eq, Int.reduceToNat, Int.toNat_natCast]; rfl) (by first | exact trivial | exact Or.inr rfl | exact Or.inl rfl | (simp only [ob, obA, R32, R64] at *; omega) | (simp only [ob, obA, R32, R64] at *; and_intros <;> omega)) ?_
        refine V_callV (M := MX8_readLeaves) (N := MX9_is) dX8_readLeaves_17 lRX8_37 kX9_is rfl (rfl) rfl (c_tIs (d := 1) hκ hq (by omega) (by rw [e5]; unfold R32; omega) (by unfold R32; omega)) rfl rfl (Nat.le_of_ble_eq_true rfl) (fit_rm (by omega)) (⟨Nat.le_of_ble_eq_true rfl, Nat.le_of_ble_eq_true rfl⟩) (fun v Ω' hp => ?_) (fun _ _ h => h.elim)
        obtain ⟨rfl, rfl⟩ := hp
        rw [e5]
        refine V_ifeqB dX8_readLeaves_20 (tgt := 41) (by decide) (fun q20 => ?_) (fun q20 => ?_)
        · refine V_ex sX8_readLeaves_41 (by rfl) (by first | exact trivial | exact Or.inr rfl | exact Or.inl rfl | (simp only [ob, obA, R32, R64] at *; omega) | (simp only [ob, obA, R32, R64] at *; and_intros <;> omega)) ?_
          refine V_zret dX8_readLeaves_42 rfl (by first | exact Or.inl rfl | exact Or.inr rfl | exact b2i_01 _) (by decide) ?_
          rw [if_neg (of_decide_eq_false q20)] at he
          rw [← he]; exact ⟨rfl, G1, rfl, f1, hq, fun _ => ⟨h31, hl1⟩, fun q => absurd rfl q⟩
        · have h2 := of_decide_eq_true q20
          rw [if_pos h2] at he
          have hrl : rLf w v lv most q h = pLf v lv most q h := by rw [rLf, if_neg (not_not_intro h2)]
          refine V_ex sX8_readLeaves_23 (by rfl) (by first | exact trivial | exact Or.inr rfl | exact Or.inl rfl | (simp only [ob, obA, R32, R64] at *; omega) | (simp only [ob, obA, R32, R64] at *; and_intros <;> omega)) ?_
          refine V_callV (M := MX8_readLeaves) (N := MX8_readLeaf) dX8_readLeaves_27 lRX8_123 kX8_readLeaf rfl (rfl) rfl (c_rLeaf (d := 1) hκ hT hN hw hr1 hq hqN hB hL hlv1 hlv2 hl1 (by omega) (by omega) (by omega) (by omega)) rfl rfl (Nat.le_of_ble_eq_true rfl) (fit_rm (by omega)) (⟨Nat.le_of_ble_eq_true rfl, Nat.le_of_ble_eq_true rfl⟩) (fun v Ω' hp => ?_) (fun _ _ h => h.elim)
          obtain ⟨rfl, rfl⟩ := hp
          refine V_ifneB dX8_readLeaves_30 (tgt := 35) (by decide) (fun q30 => ?_) (fun q30 => ?_)
          · have h0 := of_decide_eq_true q30
            rw [if_pos h0]
            obtain ⟨a1, a2, a3, a4, a5⟩ := rLf_0 h0
            have hlt := pTok_lt hT hqN (by omega)
            have hvq := hT.2 q
            refine V_ex sX8_readLeaves_35 (by rfl) (by first | exact trivial | exact Or.inr rfl | exact Or.inl rfl | (simp only [ob, obA, R32, R64] at *; omega) | (simp only [ob, obA, R32, R64] at *; and_intros <;> omega)) ?_
            refine V_goto dX8_readLeaves_38 (tgt := 3) (by decide) ?_
            rw [if_neg (not_not_intro a2)] at he
            refine ih (q + 1) _ (h ++ [v q]) (uI (lsTake G1 l (v q)) 4 6 ((q : Int) + 1)) (by omega) (by omega) ((f1.trans (FLs.take l G1 (v q))).trans (FLs.cur l _ _)) (by rw [of_cur]; omega) (by omega) (by rw [at_cur (by omega), lsTake_ne (by omega) (by omega)]; exact h31) ?_ (by simp; omega) he
            exact lsIs_congr (lsIs_take hl1 (by omega) a4) (at_cur (by omega)) (by funext j; exact at_cur (by omega))
          · have h0 := of_decide_eq_false q30
            rw [if_neg h0]
            rw [hrl] at h0
            rw [hrl]
            rw [if_pos h0] at he
            refine V_ex sX8_readLeaves_33 (by rfl) (by first | exact trivial | exact Or.inr rfl | exact Or.inl rfl | (simp only [ob, obA, R32, R64] at *; omega) | (simp only [ob, obA, R32, R64] at *; and_intros <;> omega)) ?_
            refine V_zret dX8_readLeaves_34 rfl (by first | exact Or.inl rfl | exact Or.inr rfl | exact b2i_01 _) (by decide) (by rw [← he]; exact ⟨bz0 h0, _, rfl, f1.trans (FLs.fnd l G1 _), by rw [at_fnd (by omega)]; exact hq, fun q => absurd q h0, fun _ => of_fnd⟩)
  refine V_ex sX8_readLeaves_0 (by rfl) (by first | exact trivial | exact Or.inr rfl | exact Or.inl rfl | (simp only [ob, obA, R32, R64] at *; omega) | (simp only [ob, obA, R32, R64] at *; and_intros <;> omega)) ?_
  exact L 501 i 0 g G rfl (by omega) (FLs.refl l G) hi hiN rfl hg hgm rfl
