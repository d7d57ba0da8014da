/-! ShelfReader: rules -/
/-- the tokens as the reader finds them -/
def rdT (G : Wd) (w v : Nat → Int) (N : Nat) : Prop := ∀ j, j ≤ N → G.1 5 j = w j ∧ G.1 7 j = v j
def codeIs (G : Wd) (s : Nat) (c : List Int) : Prop := G.1 s 8 = (c.length : Nat) ∧ ∀ j (h : j < c.length), G.1 (s + 5) j = c[j]'h
/-- the same but the place, the fault found, the signs -/
def FE (s : Nat) (G G' : Wd) : Prop := G'.2 = G.2 ∧ ∀ x j, x ≠ s + 5 → ¬ (x = 4 ∧ j = 6) → ¬ (x = 3 ∧ j = 1) → ¬ (x = s ∧ j = 8) → G'.1 x j = G.1 x j
theorem FE.refl (s : Nat) (G : Wd) : FE s G G := ⟨rfl, fun _ _ _ _ _ _ => rfl⟩
theorem FE.trans {s : Nat} {G G' G'' : Wd} (h : FE s G G') (h' : FE s G' G'') : FE s G G'' := ⟨h'.1.trans h.1, fun x j a b c d => (h'.2 x j a b c d).trans (h.2 x j a b c d)⟩
theorem FE.cur (s : Nat) (G : Wd) (z : Int) : FE s G (uI G 4 6 z) := ⟨rfl, fun x j a b c d => by simp only [upd2_eq]; rw [if_neg b]⟩
theorem FE.fnd (s : Nat) (G : Wd) (z : Int) : FE s G (uI G 3 1 z) := ⟨rfl, fun x j a b c d => by simp only [upd2_eq]; rw [if_neg c]⟩
theorem rSet_at {G : Wd} {a n : Nat} {i z : Int} {x : Nat} (h : x ≠ a) : (rSet G a n i z).1 x = G.1 x := by
  unfold rSet
  split
  · funext j; simp only [upd2_eq]; rw [if_neg (by intro q; exact h q.1)]
  · rfl
theorem rSet_2 {G : Wd} {a n : Nat} {i z : Int} : (rSet G a n i z).2 = G.2 := by unfold rSet; split <;> rfl
/-- a sign is written -/
def wrW (G : Wd) (s : Nat) (z : Int) : Wd := uI (rSet G (s + 5) 500 (G.1 s 8) z) s 8 (G.1 s 8 + 1)
theorem FE.wr (s : Nat) (G : Wd) (z : Int) : FE s G (wrW G s z) := ⟨rSet_2, fun x j a b c d => by
  simp only [wrW, upd2_eq]
  rw [if_neg d, rSet_at a]⟩
theorem wr_code {G : Wd} {s : Nat} {c : List Int} {z : Int} (h : codeIs G s c) (hc : c.length < 500) : codeIs (wrW G s z) s (c ++ [z]) := by
  obtain ⟨h1, h2⟩ := h
  refine ⟨by simp [wrW, upd2_eq, h1], fun j hj => ?_⟩
  simp only [wrW, upd2_eq]
  rw [if_neg (by omega), h1, rSet_nat c.length rfl hc]
  simp only [upd2_eq]
  by_cases e : j = c.length
  · subst e; simp
  · have hl : j < c.length := by simp at hj; omega
    rw [if_neg (by intro q; exact e q.2), h2 j hl, List.getElem_append_left hl]
set_option maxRecDepth 100000 in
set_option maxHeartbeats 4000000 in
theorem c_write2 {κ : Kx} (hκ : KOK κ) {d s : Nat} {z : Int} {G : Wd} (hS : SHa s) (hb : 0 ≤ G.1 s 8 ∧ G.1 s 8 ≤ 2000) (hd : 1 ≤ d) : Ct κ MX7_write d 0 0 [VR s, VI z] (Wm G) (voidG (wrW G s z)) noX := by
  refine Ct_of hκ kX7_write.1 rfl (Nat.le_of_ble_eq_true rfl) (ls := [some (VR s), some (VI z)]) rfl (fun μ => ?_)
  obtain ⟨h1, -, -, -, -, -, -, -, -, h2, h3, -⟩ := sh_facts hS
  have e := congrFun (rSet_at (G := G) (a := s + 5) (n := 500) (i := G.1 s 8) (z := z) (x := s) (by omega)) 8
  refine V_ex sX7_write_0 (by simp only [Option.toList, List.cons_append, List.nil_append, exN, ex1, gI, gL, gR, pI, pL, pR, lget, lset1, lset2, kl, b2I, b2L, nob, ob32, ob64, xGet, xPut, xLen, xLd, xLdR, xSt, obA, true_and, and_true, and_self, eq_self, Nat.reduceEqDiff, Nat.zero_ne_one, reduceIte, Nat.reduceLeDiff, and_false, false_and, show skd 6 7 = 2 from rfl, show skd 6 8 = 0 from rfl, h1, h2, upd2_eq, Int.reduceToNat, Int.toNat_natCast]; rfl) (by first | exact trivial | exact Or.inr rfl | exact Or.inl rfl | (simp only [ob, obA, R32, R64] at *; omega) | (simp only [ob, obA, R32, R64] at *; and_intros <;> omega)) ?_
  refine V_callSN (M := MX7_write) (N := MX11_setAt) dX7_write_9 lRX7_67 kX11_setAt rfl (c_setAt (d := 0) hκ h3 (by decide) (by unfold R32; omega)) rfl rfl (Nat.le_of_ble_eq_true rfl) (fit_rm (by omega)) (⟨Nat.le_of_ble_eq_true rfl, Nat.le_of_ble_eq_true rfl⟩) (fun v Ω' hp => ?_) (fun _ _ h => h.elim)
  obtain ⟨rfl, rfl⟩ := hp
  refine V_ex sX7_write_12 (by simp only [Option.toList, List.cons_append, List.nil_append, exN, ex1, gI, gL, gR, pI, pL, pR, lget, lset1, lset2, kl, b2I, b2L, nob, ob32, ob64, xGet, xPut, xLen, xLd, xLdR, xSt, obA, true_and, and_true, and_self, eq_self, Nat.reduceEqDiff, Nat.zero_ne_one, reduceIte, Nat.reduceLeDiff, and_false, false_and, show skd 6 8 = 0 from rfl, h1, e, upd2_eq, Int.reduceToNat, Int.toNat_natCast]; rfl) (by first | exact trivial | exact Or.inr rfl | exact Or.inl rfl | (simp only [ob, obA, R32, R64] at *; omega) | (simp only [ob, obA, R32, R64] at *; and_intros <;> omega)) ?_
  refine V_vret dX7_write_22 rfl (by decide) ⟨rfl, rfl⟩
/-- the reader stands at token i of N, the signs c written -/
def eH (s : Nat) (w v : Nat → Int) (N : Nat) (G : Wd) (i : Nat) (c : List Int) : Prop := rdT G w v N ∧ G.1 4 6 = (i : Nat) ∧ i ≤ N ∧ codeIs G s c ∧ c.length ≤ i
def eP (s : Nat) (G : Wd) (i : Nat) (r : PE) : Option Vl → Om → Prop := fun u Ω' => u = some (VI (b2i (decide (r.2.1 = 0)))) ∧ ∃ G', Ω' = Wm G' ∧ FE s G G' ∧ G'.1 4 6 = (r.1 : Nat) ∧ (r.2.1 = 0 → G'.1 3 1 = G.1 3 1 ∧ codeIs G' s r.2.2) ∧ (r.2.1 ≠ 0 → G'.1 3 1 = r.2.1) ∧ 0 ≤ G'.1 s 8 ∧ G'.1 s 8 ≤ G.1 s 8 + (r.1 : Int) - (i : Int) + 1
/-- words and numbers have small codes -/
def wOk (w : Nat → Int) (N : Nat) : Prop := ∀ j, j ≤ N → -2 ≤ w j ∧ w j ≤ 274
theorem FE.rd {s : Nat} (hS : SHa s) {G G' : Wd} (h : FE s G G') {w v : Nat → Int} {N : Nat} (hr : rdT G w v N) : rdT G' w v N := fun j hj => by
  have hs : 5 ≠ s + 5 ∧ 7 ≠ s + 5 ∧ 5 ≠ s ∧ 7 ≠ s := by rcases hS with rfl | rfl <;> decide
  rw [h.2 5 j hs.1 (by omega) (by omega) (by omega), h.2 7 j hs.2.1 (by omega) (by omega) (by omega)]
  exact hr j hj
set_option maxRecDepth 100000 in
set_option maxHeartbeats 4000000 in
theorem c_rRefuse {κ : Kx} (hκ : KOK κ) {d : Nat} {k : Int} {G : Wd} : Ct κ MX8_refuse d 0 0 [VR 3, VI k] (Wm G) (fun u Ω' => u = some (VI 0) ∧ Ω' = Wm (uI G 3 1 k)) noX := by
  refine Ct_of hκ kX8_refuse.1 rfl (Nat.le_of_ble_eq_true rfl) (ls := [some (VR 3), some (VI k)]) rfl (fun μ => ?_)
  refine V_ex sX8_refuse_0 (by simp only [Option.toList, List.cons_append, List.nil_append, exN, ex1, gI, gL, gR, pI, pL, pR, lget, lset1, lset2, kl, b2I, b2L, nob, ob32, ob64, xGet, xPut, xLen, xLd, xLdR, xSt, obA, true_and, and_true, and_self, eq_self, Nat.reduceEqDiff, Nat.zero_ne_one, reduceIte, Nat.reduceLeDiff, and_false, false_and, show skd 7 1 = 0 from rfl, show LF.1 3 = some (.inl 7) from rfl, upd2_eq, Int.reduceToNat, Int.toNat_natCast]; rfl) (by first | exact trivial | exact Or.inr rfl | exact Or.inl rfl | (simp only [ob, obA, R32, R64] at *; omega) | (simp only [ob, obA, R32, R64] at *; and_intros <;> omega)) ?_
  refine V_zret dX8_refuse_6 rfl (by first | exact Or.inl rfl | exact Or.inr rfl | exact b2i_01 _) (by decide) ⟨rfl, rfl⟩
set_option maxRecDepth 100000 in
set_option maxHeartbeats 4000000 in
theorem c_rSign {κ : Kx} (hκ : KOK κ) {d i N s : Nat} {c : Int} {w v : Nat → Int} {G : Wd} (hr : rdT G w v N) (hi : G.1 4 6 = (i : Nat)) (hiN : i ≤ N) (hN : N ≤ 500) (hw : wOk w N) (hc : 0 ≤ c ∧ c ≤ 127) (hd : 1 ≤ d) : Ct κ MX8_readSign d 0 0 [VR 3, VI c] (Wm G) (fun u Ω' => u = some (VI (b2i (decide (w i = c)))) ∧ Ω' = Wm (if w i = c then uI G 4 6 ((i : Int) + 1) else uI G 3 1 1)) noX := by
  refine Ct_of hκ kX8_readSign.1 rfl (Nat.le_of_ble_eq_true rfl) (ls := [some (VR 3), some (VI c)]) rfl (fun μ => ?_)
  have e5 := (hr i hiN).1
  have hwi := hw i hiN
  refine V_ex sX8_readSign_0 (by simp only [Option.toList, List.cons_append, List.nil_append, exN, ex1, gI, gL, gR, pI, pL, pR, lget, lset1, lset2, kl, b2I, b2L, nob, ob32, ob64, xGet, xPut, xLen, xLd, xLdR, xSt, obA, true_and, and_true, and_self, eq_self, Nat.reduceEqDiff, Nat.zero_ne_one, reduceIte, Nat.reduceLeDiff, and_false, false_and, show skd 7 0 = 2 from rfl, show LF.1 3 = some (.inl 7) from rfl, show LF.2 3 0 = some 4 from rfl, upd2_eq, Int.reduceToNat, Int.toNat_natCast]; rfl) (by first | exact trivial | exact Or.inr rfl | exact Or.inl rfl | (simp only [ob, obA, R32, R64] at *; omega) | (simp only [ob, obA, R32, R64] at *; and_intros <;> omega)) ?_
  refine V_callV (M := MX8_readSign) (N := MX9_is) dX8_readSign_5 lRX8_37 kX9_is rfl (rfl) rfl (c_tIs (d := 0) hκ hi (by omega) (by rw [e5]; unfold R32; omega) (by unfold R32; omega)) rfl rfl (Nat.le_of_ble_eq_true rfl) (fit_rm (by omega)) (⟨Nat.le_of_ble_eq_true rfl, Nat.le_of_ble_eq_true rfl⟩) (fun v Ω' hp => ?_) (fun _ _ h => h.elim)
  obtain ⟨rfl, rfl⟩ := hp
  rw [e5]
  refine V_ifneB dX8_readSign_8 (tgt := 17) (by decide) (fun q8 => ?_) (fun q8 => ?_)
  · have hq := of_decide_eq_true q8
    refine V_ex sX8_readSign_17 (by simp only [Option.toList, List.cons_append, List.nil_append, exN, ex1, gI, gL, gR, pI, pL, pR, lget, lset1, lset2, kl, b2I, b2L, nob, ob32, ob64, xGet, xPut, xLen, xLd, xLdR, xSt, obA, true_and, and_true, and_self, eq_self, Nat.reduceEqDiff, Nat.zero_ne_one, reduceIte, Nat.reduceLeDiff, and_false, false_and, show skd 7 0 = 2 from rfl, show LF.1 3 = some (.inl 7) from rfl, show LF.2 3 0 = some 4 from rfl, upd2_eq, Int.reduceToNat, Int.toNat_natCast]; rfl) (by first | exact trivial | exact Or.inr rfl | exact Or.inl rfl | (simp only [ob, obA, R32, R64] at *; omega) | (simp only [ob, obA, R32, R64] at *; and_intros <;> omega)) ?_
    refine V_callV (M := MX8_readSign) (N := MX9_advance) dX8_readSign_21 lRX8_52 kX9_advance rfl (rfl) rfl (c_tAdvance (d := 0) hκ) rfl rfl (Nat.le_of_ble_eq_true rfl) (fit_rm (by omega)) (⟨Nat.le_of_ble_eq_true rfl, Nat.le_of_ble_eq_true rfl⟩) (fun v Ω' hp => ?_) (fun _ _ h => h.elim)
    obtain ⟨rfl, rfl⟩ := hp
    refine V_ex sX8_readSign_24 (by rfl) (by first | exact trivial | exact Or.inr rfl | exact Or.inl rfl | (simp only [ob, obA, R32, R64] at *; omega) | (simp only [ob, obA, R32, R64] at *; and_intros <;> omega)) ?_
    refine V_zret dX8_readSign_25 rfl (by first | exact Or.inl rfl | exact Or.inr rfl | exact b2i_01 _) (by decide) ⟨bz1 hq, by rw [if_pos hq, hi]⟩
  · have hq := of_decide_eq_false q8
    refine V_ex sX8_readSign_11 (by rfl) (by first | exact trivial | exact Or.inr rfl | exact Or.inl rfl | (simp only [ob, obA, R32, R64] at *; omega) | (simp only [ob, obA, R32, R64] at *; and_intros <;> omega)) ?_
    refine V_callV (M := MX8_readSign) (N := MX8_refuse) dX8_readSign_13 lRX8_49 kX8_refuse rfl (rfl) rfl (c_rRefuse (d := 0) hκ) rfl rfl (Nat.le_of_ble_eq_true rfl) (fit_rm (by omega)) (⟨Nat.le_of_ble_eq_true rfl, Nat.le_of_ble_eq_true rfl⟩) (fun v Ω' hp => ?_) (fun _ _ h => h.elim)
    obtain ⟨rfl, rfl⟩ := hp
    refine V_zret dX8_readSign_16 rfl (by first | exact Or.inl rfl | exact Or.inr rfl | exact b2i_01 _) (by decide) ⟨bz0 hq, by rw [if_neg hq]⟩
set_option maxRecDepth 100000 in
set_option maxHeartbeats 4000000 in
theorem c_rWithin {κ : Kx} (hκ : KOK κ) {d i N : Nat} {lo hh : Int} {w v : Nat → Int} {G : Wd} (hr : rdT G w v N) (hT : pTok w v N) (hi : G.1 4 6 = (i : Nat)) (hiN : i ≤ N) (hN : N ≤ 500) (hw : wOk w N) (hlo : R32 lo) (hhi : R32 hh) (hd : 1 ≤ d) : Ct κ MX8_readWithin d 0 0 [VR 3, VI lo, VI hh] (Wm G) (fun u Ω' => u = some (VI (b2i (decide (pNum w v lo hh i = 0)))) ∧ Ω' = Wm (if pNum w v lo hh i = 0 then uI G 4 6 ((i : Int) + 1) else uI G 3 1 (pNum w v lo hh i))) noX := by
  refine Ct_of hκ kX8_readWithin.1 rfl (Nat.le_of_ble_eq_true rfl) (ls := [some (VR 3), some (VI lo), some (VI hh)]) rfl (fun μ => ?_)
  have e5 := (hr i hiN).1
  have e7 := (hr i hiN).2
  have hwi := hw i hiN
  have hvi := hT.2 i
  refine V_ex sX8_readWithin_0 (by simp only [Option.toList, List.cons_append, List.nil_append, exN, ex1, gI, gL, gR, pI, pL, pR, lget, lset1, lset2, kl, b2I, b2L, nob, ob32, ob64, xGet, xPut, xLen, xLd, xLdR, xSt, obA, true_and, and_true, and_self, eq_self, Nat.reduceEqDiff, Nat.zero_ne_one, reduceIte, Nat.reduceLeDiff, and_false, false_and, show skd 7 0 = 2 from rfl, show LF.1 3 = some (.inl 7) from rfl, show LF.2 3 0 = some 4 from rfl, upd2_eq, Int.reduceToNat, Int.toNat_natCast]; rfl) (by first | exact trivial | exact Or.inr rfl | exact Or.inl rfl | (simp only [ob, obA, R32, R64] at *; omega) | (simp only [ob, obA, R32, R64] at *; and_intros <;> omega)) ?_
  refine V_callV (M := MX8_readWithin) (N := MX9_is) dX8_readWithin_6 lRX8_37 kX9_is rfl (rfl) rfl (c_tIs (d := 0) hκ hi (by omega) (by rw [e5]; unfold R32; omega) (by unfold R32; omega)) rfl rfl (Nat.le_of_ble_eq_true rfl) (fit_rm (by omega)) (⟨Nat.le_of_ble_eq_true rfl, Nat.le_of_ble_eq_true rfl⟩) (fun v Ω' hp => ?_) (fun _ _ h => h.elim)
  obtain ⟨rfl, rfl⟩ := hp
  rw [e5]
  refine V_ifneB dX8_readWithin_9 (tgt := 18) (by decide) (fun q9 => ?_) (fun q9 => ?_)
  · have hq := of_decide_eq_true q9
    refine V_ex sX8_readWithin_18 (by simp only [Option.toList, List.cons_append, List.nil_append, exN, ex1, gI, gL, gR, pI, pL, pR, lget, lset1, lset2, kl, b2I, b2L, nob, ob32, ob64, xGet, xPut, xLen, xLd, xLdR, xSt, obA, true_and, and_true, and_self, eq_self, Nat.reduceEqDiff, Nat.zero_ne_one, reduceIte, Nat.reduceLeDiff, and_false, false_and, show skd 7 0 = 2 from rfl, show LF.1 3 = some (.inl 7) from rfl, show LF.2 3 0 = some 4 from rfl, upd2_eq, Int.reduceToNat, Int.toNat_natCast]; rfl) (by first | exact trivial | exact Or.inr rfl | exact Or.inl rfl | (simp only [ob, obA, R32, R64] at *; omega) | (simp only [ob, obA, R32, R64] at *; and_intros <;> omega)) ?_
    refine V_callV (M := MX8_readWithin) (N := MX9_numberTold) dX8_readWithin_22 lRX8_99 kX9_numberTold rfl (rfl) rfl (c_tNumberTold (d := 0) hκ hi (by omega)) rfl rfl (Nat.le_of_ble_eq_true rfl) (fit_rm (by omega)) (⟨Nat.le_of_ble_eq_true rfl, Nat.le_of_ble_eq_true rfl⟩) (fun v Ω' hp => ?_) (fun _ _ h => h.elim)
    obtain ⟨rfl, rfl⟩ := hp
    rw [e7]
    refine V_ex sX8_readWithin_25 (by rfl) (by first | exact trivial | exact Or.inr rfl | exact Or.inl rfl | (simp only [ob, obA, R32, R64] at *; omega) | (simp only [ob, obA, R32, R64] at *; and_intros <;> omega)) ?_
    refine V_icmplt dX8_readWithin_26 (tgt := 40) (by decide) (by simp only [R32, R64] at *; omega) (fun q26 => ?_) (fun q26 => ?_)
    · refine V_ex sX8_readWithin_40 (by rfl) (by first | exact trivial | exact Or.inr rfl | exact Or.inl rfl | (simp only [ob, obA, R32, R64] at *; omega) | (simp only [ob, obA, R32, R64] at *; and_intros <;> omega)) ?_
      refine V_callV (M := MX8_readWithin) (N := MX8_refuse) dX8_readWithin_42 lRX8_49 kX8_refuse rfl (rfl) rfl (c_rRefuse (d := 0) hκ) rfl rfl (Nat.le_of_ble_eq_true rfl) (fit_rm (by omega)) (⟨Nat.le_of_ble_eq_true rfl, Nat.le_of_ble_eq_true rfl⟩) (fun v Ω' hp => ?_) (fun _ _ h => h.elim)
      obtain ⟨rfl, rfl⟩ := hp
      refine V_zret dX8_readWithin_45 rfl (by first | exact Or.inl rfl | exact Or.inr rfl | exact b2i_01 _) (by decide) ?_
      have hp2 : pNum w v lo hh i = 2 := by rw [pNum, if_neg (not_not_intro hq), if_pos (by omega)]
      exact ⟨bz0 (by rw [hp2]; decide), by rw [hp2, if_neg (by decide)]⟩
    · refine V_ex sX8_readWithin_29 (by simp only [Option.toList, List.cons_append, List.nil_append, exN, ex1, gI, gL, gR, pI, pL, pR, lget, lset1, lset2, kl, b2I, b2L, nob, ob32, ob64, xGet, xPut, xLen, xLd, xLdR, xSt, obA, true_and, and_true, and_self, eq_self, Nat.reduceEqDiff, Nat.zero_ne_one, reduceIte, Nat.reduceLeDiff, and_false, false_and, show skd 7 0 = 2 from rfl, show LF.1 3 = some (.inl 7) from rfl, show LF.2 3 0 = some 4 from rfl, upd2_eq, Int.reduceToNat, Int.toNat_natCast]; rfl) (by first | exact trivial | exact Or.inr rfl | exact Or.inl rfl | (simp only [ob, obA, R32, R64] at *; omega) | (simp only [ob, obA, R32, R64] at *; and_intros <;> omega)) ?_
      refine V_callV (M := MX8_readWithin) (N := MX9_numberTold) dX8_readWithin_33 lRX8_99 kX9_numberTold rfl (rfl) rfl (c_tNumberTold (d := 0) hκ hi (by omega)) rfl rfl (Nat.le_of_ble_eq_true rfl) (fit_rm (by omega)) (⟨Nat.le_of_ble_eq_true rfl, Nat.le_of_ble_eq_true rfl⟩) (fun v Ω' hp => ?_) (fun _ _ h => h.elim)
      obtain ⟨rfl, rfl⟩ := hp
      rw [e7]
      refine V_ex sX8_readWithin_36 (by rfl) (by first | exact trivial | exact Or.inr rfl | exact Or.inl rfl | (simp only [ob, obA, R32, R64] at *; omega) | (simp only [ob, obA, R32, R64] at *; and_intros <;> omega)) ?_
      refine V_icmple dX8_readWithin_37 (tgt := 46) (by decide) (by simp only [R32, R64] at *; omega) (fun q37 => ?_) (fun q37 => ?_)
      · refine V_ex sX8_readWithin_46 (by simp only [Option.toList, List.cons_append, List.nil_append, exN, ex1, gI, gL, gR, pI, pL, pR, lget, lset1, lset2, kl, b2I, b2L, nob, ob32, ob64, xGet, xPut, xLen, xLd, xLdR, xSt, obA, true_and, and_true, and_self, eq_self, Nat.reduceEqDiff, Nat.zero_ne_one, reduceIte, Nat.reduceLeDiff, and_false, false_and, show skd 7 0 = 2 from rfl, show LF.1 3 = some (.inl 7) from rfl, show LF.2 3 0 = some 4 from rfl, upd2_eq, Int.reduceToNat, Int.toNat_natCast]; rfl) (by first | exact trivial | exact Or.inr rfl | exact Or.inl rfl | (simp only [ob, obA, R32, R64] at *; omega) | (simp only [ob, obA, R32, R64] at *; and_intros <;> omega)) ?_
        refine V_callV (M := MX8_readWithin) (N := MX9_advance) dX8_readWithin_50 lRX8_52 kX9_advance rfl (rfl) rfl (c_tAdvance (d := 0) hκ) rfl rfl (Nat.le_of_ble_eq_true rfl) (fit_rm (by omega)) (⟨Nat.le_of_ble_eq_true rfl, Nat.le_of_ble_eq_true rfl⟩) (fun v Ω' hp => ?_) (fun _ _ h => h.elim)
        obtain ⟨rfl, rfl⟩ := hp
        refine V_ex sX8_readWithin_53 (by rfl) (by first | exact trivial | exact Or.inr rfl | exact Or.inl rfl | (simp only [ob, obA, R32, R64] at *; omega) | (simp only [ob, obA, R32, R64] at *; and_intros <;> omega)) ?_
        refine V_zret dX8_readWithin_54 rfl (by first | exact Or.inl rfl | exact Or.inr rfl | exact b2i_01 _) (by decide) ?_
        have hp2 : pNum w v lo hh i = 0 := by rw [pNum, if_neg (not_not_intro hq), if_neg (by omega)]
        exact ⟨bz1 hp2, by rw [if_pos hp2, hi]⟩
      · refine V_ex sX8_readWithin_40 (by rfl) (by first | exact trivial | exact Or.inr rfl | exact Or.inl rfl | (simp only [ob, obA, R32, R64] at *; omega) | (simp only [ob, obA, R32, R64] at *; and_intros <;> omega)) ?_
        refine V_callV (M := MX8_readWithin) (N := MX8_refuse) dX8_readWithin_42 lRX8_49 kX8_refuse rfl (rfl) rfl (c_rRefuse (d := 0) hκ) rfl rfl (Nat.le_of_ble_eq_true rfl) (fit_rm (by omega)) (⟨Nat.le_of_ble_eq_true rfl, Nat.le_of_ble_eq_true rfl⟩) (fun v Ω' hp => ?_) (fun _ _ h => h.elim)
        obtain ⟨rfl, rfl⟩ := hp
        refine V_zret dX8_readWithin_45 rfl (by first | exact Or.inl rfl | exact Or.inr rfl | exact b2i_01 _) (by decide) ?_
        have hp2 : pNum w v lo hh i = 2 := by rw [pNum, if_neg (not_not_intro hq), if_pos (by omega)]
        exact ⟨bz0 (by rw [hp2]; decide), by rw [hp2, if_neg (by decide)]⟩
  · have hq := of_decide_eq_false q9
    refine V_ex sX8_readWithin_12 (by rfl) (by first | exact trivial | exact Or.inr rfl | exact Or.inl rfl | (simp only [ob, obA, R32, R64] at *; omega) | (simp only [ob, obA, R32, R64] at *; and_intros <;> omega)) ?_
    refine V_callV (M := MX8_readWithin) (N := MX8_refuse) dX8_readWithin_14 lRX8_49 kX8_refuse rfl (rfl) rfl (c_rRefuse (d := 0) hκ) rfl rfl (Nat.le_of_ble_eq_true rfl) (fit_rm (by omega)) (⟨Nat.le_of_ble_eq_true rfl, Nat.le_of_ble_eq_true rfl⟩) (fun v Ω' hp => ?_) (fun _ _ h => h.elim)
    obtain ⟨rfl, rfl⟩ := hp
    refine V_zret dX8_readWithin_17 rfl (by first | exact Or.inl rfl | exact Or.inr rfl | exact b2i_01 _) (by decide) ?_
    have hp2 : pNum w v lo hh i = 1 := by rw [pNum, if_pos hq]
    exact ⟨bz0 (by rw [hp2]; decide), by rw [hp2, if_neg (by decide)]⟩
/-- a rule's part, read at a level -/
def eC (κ : Kx) (M : Ms) (d s : Nat) (lv : Int) (w v : Nat → Int) (N : Nat) (p : PE → PE) : Prop := ∀ (G : Wd) (i : Nat) (c : List Int), eH s w v N G i c → Ct κ M d 0 0 [VR 3, VR s, VI lv] (Wm G) (eP s G i (p (i, 0, c))) noX
/-- what surrounds it all -/
def eE (s : Nat) (w v : Nat → Int) (N : Nat) : Prop := SHa s ∧ pTok w v N ∧ N ≤ 500 ∧ wOk w N
theorem sh_ne {s : Nat} (hS : SHa s) : s ≠ 3 ∧ s ≠ 4 ∧ s + 5 ≠ 3 ∧ s + 5 ≠ 4 ∧ s ≠ s + 5 ∧ s + 5 ≠ s := by rcases hS with rfl | rfl <;> decide
theorem cd_cur {s : Nat} {G : Wd} {c : List Int} {z : Int} (hne : s ≠ 3 ∧ s ≠ 4 ∧ s + 5 ≠ 3 ∧ s + 5 ≠ 4 ∧ s ≠ s + 5 ∧ s + 5 ≠ s) (h : codeIs G s c) : codeIs (uI G 4 6 z) s c := ⟨by simp only [upd2_eq]; rw [if_neg (by intro q; exact hne.2.1 q.1)]; exact h.1, fun j hj => by simp only [upd2_eq]; rw [if_neg (by intro q; exact hne.2.2.2.1 q.1)]; exact h.2 j hj⟩
theorem wr_at {G : Wd} {s x j : Nat} {z : Int} (h5 : x ≠ s + 5) (h : ¬ (x = s ∧ j = 8)) : (wrW G s z).1 x j = G.1 x j := by simp only [wrW, upd2_eq]; rw [if_neg h, rSet_at h5]
theorem wr_8 {G : Wd} {s : Nat} {z : Int} : (wrW G s z).1 s 8 = G.1 s 8 + 1 := by simp [wrW, upd2_eq]
theorem eP_ok {s i : Nat} {G G' : Wd} {r : PE} (hb : r.2.1 = 0) (f : FE s G G') (hc : G'.1 4 6 = (r.1 : Nat)) (hf : G'.1 3 1 = G.1 3 1) (hcd : codeIs G' s r.2.2) (h8 : G'.1 s 8 ≤ G.1 s 8 + (r.1 : Int) - (i : Int) + 1) : eP s G i r (some (VI 1)) (Wm G') :=
  ⟨bz1 hb, G', rfl, f, hc, fun _ => ⟨hf, hcd⟩, fun q => absurd hb q, by rw [hcd.1]; omega, h8⟩
theorem eP_no {s i : Nat} {G G' : Wd} {r : PE} (hb : r.2.1 ≠ 0) (f : FE s G G') (hc : G'.1 4 6 = (r.1 : Nat)) (hf : G'.1 3 1 = r.2.1) (h80 : 0 ≤ G'.1 s 8) (h8 : G'.1 s 8 ≤ G.1 s 8 + (r.1 : Int) - (i : Int) + 1) : eP s G i r (some (VI 0)) (Wm G') :=
  ⟨bz0 hb, G', rfl, f, hc, fun q => absurd q hb, fun _ => hf, h80, h8⟩
theorem at_cur {G : Wd} {x j : Nat} {z : Int} (h : ¬ (x = 4 ∧ j = 6)) : (uI G 4 6 z).1 x j = G.1 x j := by simp only [upd2_eq]; rw [if_neg h]
theorem at_fnd {G : Wd} {x j : Nat} {z : Int} (h : ¬ (x = 3 ∧ j = 1)) : (uI G 3 1 z).1 x j = G.1 x j := by simp only [upd2_eq]; rw [if_neg h]
theorem of_cur {G : Wd} {z : Int} : (uI G 4 6 z).1 4 6 = z := by simp [upd2_eq]
theorem of_fnd {G : Wd} {z : Int} : (uI G 3 1 z).1 3 1 = z := by simp [upd2_eq]
set_option maxRecDepth 100000 in
set_option maxHeartbeats 4000000 in
theorem c_rPart {κ : Kx} (hκ : KOK κ) {d d' s N H : Nat} {lv : Int} {w v : Nat → Int} {rec : PE → PE} (hE : eE s w v N) (hrec : eC κ MX8_readOr d' s (lv + 1) w v N rec) (hPG : PG N H rec) (hd : d' + 1 ≤ d) (hd2 : 3 ≤ d) {G : Wd} {i : Nat} {c : List Int} (h : eH s w v N G i c) : Ct κ MX8_readPart d 0 0 [VR 3, VR s, VI lv] (Wm G) (eP s G i (pPart w v rec (i, 0, c))) noX := by
  refine Ct_of hκ kX8_readPart.1 rfl (Nat.le_of_ble_eq_true rfl) (ls := [some (VR 3), some (VR s), some (VI lv), none]) rfl (fun μ => ?_)
  obtain ⟨hS, hT, hN, hw⟩ := hE
  obtain ⟨hr, hi, hiN, hcd, hci⟩ := h
  have e5 := (hr i hiN).1
  have e7 := (hr i hiN).2
  have hwi := hw i hiN
  have hvi := hT.2 i
  have hlt : w i ≠ -1 → i < N := pTok_lt hT hiN
  have hne := sh_ne hS
  have hc8 := hcd.1
  have h1S := (sh_facts hS).1
  have h46 : ∀ z, (wrW G s z).1 4 6 = (i : Nat) := fun z => (wr_at (by omega) (by omega)).trans hi
  have h31 : ∀ z, (wrW G s z).1 3 1 = G.1 3 1 := fun z => wr_at (by omega) (by omega)
  refine V_ex sX8_readPart_0 (by simp only [Option.toList, List.cons_append, List.nil_append, exN, ex1, gI, gL, gR, pI, pL, pR, lget, lset1, lset2, kl, b2I, b2L, nob, ob32, ob64, xGet, xPut, xLen, xLd, xLdR, xSt, obA, true_and, and_true, and_self, eq_self, Nat.reduceEqDiff, Nat.zero_ne_one, reduceIte, Nat.reduceLeDiff, and_false, false_and, show skd 7 0 = 2 from rfl, show LF.1 3 = some (.inl 7) from rfl, show LF.2 3 0 = some 4 from rfl, upd2_eq, Int.reduceToNat, Int.toNat_natCast]; rfl) (by first | exact trivial | exact Or.inr rfl | exact Or.inl rfl | (simp only [ob, obA, R32, R64] at *; omega) | (simp only [ob, obA, R32, R64] at *; and_intros <;> omega)) ?_
  refine V_callV (M := MX8_readPart) (N := MX9_what) dX8_readPart_4 lRX8_55 kX9_what rfl (rfl) rfl (c_tWhat (d := 0) hκ hi (by omega)) rfl rfl (Nat.le_of_ble_eq_true rfl) (fit_rm (by omega)) (⟨Nat.le_of_ble_eq_true rfl, Nat.le_of_ble_eq_true rfl⟩) (fun v Ω' hp => ?_) (fun _ _ h => h.elim)
  obtain ⟨rfl, rfl⟩ := hp
  rw [e5]
  refine V_ex sX8_readPart_7 (by rfl) (by first | exact trivial | exact Or.inr rfl | exact Or.inl rfl | (simp only [ob, obA, R32, R64] at *; omega) | (simp only [ob, obA, R32, R64] at *; and_intros <;> omega)) ?_
  refine V_icmpne dX8_readPart_11 (tgt := 47) (by decide) (by simp only [R32, R64] at *; omega) (fun q11 => ?_) (fun q11 => ?_)
  · refine V_ex sX8_readPart_47 (by rfl) (by first | exact trivial | exact Or.inr rfl | exact Or.inl rfl | (simp only [ob, obA, R32, R64] at *; omega) | (simp only [ob, obA, R32, R64] at *; and_intros <;> omega)) ?_
    refine V_icmpne dX8_readPart_50 (tgt := 73) (by decide) (by simp only [R32, R64] at *; omega) (fun q50 => ?_) (fun q50 => ?_)
    · refine V_ex sX8_readPart_73 (by rfl) (by first | exact trivial | exact Or.inr rfl | exact Or.inl rfl | (simp only [ob, obA, R32, R64] at *; omega) | (simp only [ob, obA, R32, R64] at *; and_intros <;> omega)) ?_
      refine V_icmpge dX8_readPart_77 (tgt := 86) (by decide) (by simp only [R32, R64] at *; omega) (fun q77 => ?_) (fun q77 => ?_)
      · refine V_ex sX8_readPart_86 (by rfl) (by first | exact trivial | exact Or.inr rfl | exact Or.inl rfl | (simp only [ob, obA, R32, R64] at *; omega) | (simp only [ob, obA, R32, R64] at *; and_intros <;> omega)) ?_
        refine V_icmplt dX8_readPart_90 (tgt := 100) (by decide) (by simp only [R32, R64] at *; omega) (fun q90 => ?_) (fun q90 => ?_)
        · refine V_ex sX8_readPart_100 (by rfl) (by first | exact trivial | exact Or.inr rfl | exact Or.inl rfl | (simp only [ob, obA, R32, R64] at *; omega) | (simp only [ob, obA, R32, R64] at *; and_intros <;> omega)) ?_
          refine V_callV (M := MX8_readPart) (N := MX8_refuse) dX8_readPart_102 lRX8_49 kX8_refuse rfl (rfl) rfl (c_rRefuse (d := 0) hκ) rfl rfl (Nat.le_of_ble_eq_true rfl) (fit_rm (by omega)) (⟨Nat.le_of_ble_eq_true rfl, Nat.le_of_ble_eq_true rfl⟩) (fun v Ω' hp => ?_) (fun _ _ h => h.elim)
          obtain ⟨rfl, rfl⟩ := hp
          refine V_zret dX8_readPart_105 rfl (by first | exact Or.inl rfl | exact Or.inr rfl | exact b2i_01 _) (by decide) ?_
          have hpp : pPart w v rec (i, 0, c) = (i, 3, c) := by unfold pPart; dsimp only; rw [if_neg q11, if_neg q50, if_neg (by omega), if_pos (by omega)]
          rw [hpp]
          exact eP_no (show (3 : Int) ≠ 0 by decide) (FE.fnd s G 3) (by rw [at_fnd (by omega)]; exact hi) of_fnd (by rw [at_fnd (by omega)]; omega) (by rw [at_fnd (by omega)]; show _ ≤ G.1 s 8 + ((i : Nat) : Int) - (i : Int) + 1; omega)
        · refine V_ex sX8_readPart_93 (by rfl) (by first | exact trivial | exact Or.inr rfl | exact Or.inl rfl | (simp only [ob, obA, R32, R64] at *; omega) | (simp only [ob, obA, R32, R64] at *; and_intros <;> omega)) ?_
          refine V_icmple dX8_readPart_97 (tgt := 106) (by decide) (by simp only [R32, R64] at *; omega) (fun q97 => ?_) (fun q97 => ?_)
          · refine V_ex sX8_readPart_106 (by rfl) (by first | exact trivial | exact Or.inr rfl | exact Or.inl rfl | (simp only [ob, obA, R32, R64] at *; omega) | (simp only [ob, obA, R32, R64] at *; and_intros <;> omega)) ?_
            rw [show (-1 : Int) - (w i - 267) = 266 - w i by omega]
            refine V_callV (M := MX8_readPart) (N := MX7_write) dX8_readPart_114 lRX8_162 kX7_write rfl (h1S) rfl (c_write2 (d := 1) hκ hS (by omega) (by omega)) rfl rfl (Nat.le_of_ble_eq_true rfl) (fit_rm (by omega)) (⟨Nat.le_of_ble_eq_true rfl, Nat.le_of_ble_eq_true rfl⟩) (fun v Ω' hp => ?_) (fun _ _ h => h.elim)
            obtain ⟨rfl, rfl⟩ := hp
            refine V_ex sX8_readPart_117 (by simp only [Option.toList, List.cons_append, List.nil_append, exN, ex1, gI, gL, gR, pI, pL, pR, lget, lset1, lset2, kl, b2I, b2L, nob, ob32, ob64, xGet, xPut, xLen, xLd, xLdR, xSt, obA, true_and, and_true, and_self, eq_self, Nat.reduceEqDiff, Nat.zero_ne_one, reduceIte, Nat.reduceLeDiff, and_false, false_and, show skd 7 0 = 2 from rfl, show LF.1 3 = some (.inl 7) from rfl, show LF.2 3 0 = some 4 from rfl, upd2_eq, Int.reduceToNat, Int.toNat_natCast]; rfl) (by first | exact trivial | exact Or.inr rfl | exact Or.inl rfl | (simp only [ob, obA, R32, R64] at *; omega) | (simp only [ob, obA, R32, R64] at *; and_intros <;> omega)) ?_
            refine V_callV (M := MX8_readPart) (N := MX9_advance) dX8_readPart_121 lRX8_52 kX9_advance rfl (rfl) rfl (c_tAdvance (d := 0) hκ) rfl rfl (Nat.le_of_ble_eq_true rfl) (fit_rm (by omega)) (⟨Nat.le_of_ble_eq_true rfl, Nat.le_of_ble_eq_true rfl⟩) (fun v Ω' hp => ?_) (fun _ _ h => h.elim)
            obtain ⟨rfl, rfl⟩ := hp
            rw [h46]
            refine V_ex sX8_readPart_124 (by rfl) (by first | exact trivial | exact Or.inr rfl | exact Or.inl rfl | (simp only [ob, obA, R32, R64] at *; omega) | (simp only [ob, obA, R32, R64] at *; and_intros <;> omega)) ?_
            refine V_zret dX8_readPart_125 rfl (by first | exact Or.inl rfl | exact Or.inr rfl | exact b2i_01 _) (by decide) ?_
            have hi2 := hlt (by omega)
            have hpp : pPart w v rec (i, 0, c) = (i + 1, 0, c ++ [266 - w i]) := by unfold pPart; dsimp only; rw [if_neg q11, if_neg q50, if_neg (by omega), if_neg (by omega)]
            rw [hpp]
            exact eP_ok rfl ((FE.wr s G _).trans (FE.cur s _ _)) (by rw [of_cur]; show _ = ((i + 1 : Nat) : Int); omega) (by rw [at_cur (by omega)]; exact h31 _) (cd_cur hne (wr_code hcd (by omega))) (by rw [at_cur (by omega), wr_8]; show _ ≤ G.1 s 8 + ((i + 1 : Nat) : Int) - (i : Int) + 1; omega)
          · refine V_ex sX8_readPart_100 (by rfl) (by first | exact trivial | exact Or.inr rfl | exact Or.inl rfl | (simp only [ob, obA, R32, R64] at *; omega) | (simp only [ob, obA, R32, R64] at *; and_intros <;> omega)) ?_
            refine V_callV (M := MX8_readPart) (N := MX8_refuse) dX8_readPart_102 lRX8_49 kX8_refuse rfl (rfl) rfl (c_rRefuse (d := 0) hκ) rfl rfl (Nat.le_of_ble_eq_true rfl) (fit_rm (by omega)) (⟨Nat.le_of_ble_eq_true rfl, Nat.le_of_ble_eq_true rfl⟩) (fun v Ω' hp => ?_) (fun _ _ h => h.elim)
            obtain ⟨rfl, rfl⟩ := hp
            refine V_zret dX8_readPart_105 rfl (by first | exact Or.inl rfl | exact Or.inr rfl | exact b2i_01 _) (by decide) ?_
            have hpp : pPart w v rec (i, 0, c) = (i, 3, c) := by unfold pPart; dsimp only; rw [if_neg q11, if_neg q50, if_neg (by omega), if_pos (by omega)]
            rw [hpp]
            exact eP_no (show (3 : Int) ≠ 0 by decide) (FE.fnd s G 3) (by rw [at_fnd (by omega)]; exact hi) of_fnd (by rw [at_fnd (by omega)]; omega) (by rw [at_fnd (by omega)]; show _ ≤ G.1 s 8 + ((i : Nat) : Int) - (i : Int) + 1; omega)
      · refine V_ex sX8_readPart_80 (by rfl) (by first | exact trivial | exact Or.inr rfl | exact Or.inl rfl | (simp only [ob, obA, R32, R64] at *; omega) | (simp only [ob, obA, R32, R64] at *; and_intros <;> omega)) ?_
        refine V_callV (M := MX8_readPart) (N := MX8_refuse) dX8_readPart_82 lRX8_49 kX8_refuse rfl (rfl) rfl (c_rRefuse (d := 0) hκ) rfl rfl (Nat.le_of_ble_eq_true rfl) (fit_rm (by omega)) (⟨Nat.le_of_ble_eq_true rfl, Nat.le_of_ble_eq_true rfl⟩) (fun v Ω' hp => ?_) (fun _ _ h => h.elim)
        obtain ⟨rfl, rfl⟩ := hp
        refine V_zret dX8_readPart_85 rfl (by first | exact Or.inl rfl | exact Or.inr rfl | exact b2i_01 _) (by decide) ?_
        have hpp : pPart w v rec (i, 0, c) = (i, 1, c) := by unfold pPart; dsimp only; rw [if_neg q11, if_neg q50, if_pos q77]
        rw [hpp]
        exact eP_no (show (1 : Int) ≠ 0 by decide) (FE.fnd s G 1) (by rw [at_fnd (by omega)]; exact hi) of_fnd (by rw [at_fnd (by omega)]; omega) (by rw [at_fnd (by omega)]; show _ ≤ G.1 s 8 + ((i : Nat) : Int) - (i : Int) + 1; omega)
    · refine V_ex sX8_readPart_53 (by simp only [Option.toList, List.cons_append, List.nil_append, exN, ex1, gI, gL, gR, pI, pL, pR, lget, lset1, lset2, kl, b2I, b2L, nob, ob32, ob64, xGet, xPut, xLen, xLd, xLdR, xSt, obA, true_and, and_true, and_self, eq_self, Nat.reduceEqDiff, Nat.zero_ne_one, reduceIte, Nat.reduceLeDiff, and_false, false_and, show skd 7 0 = 2 from rfl, show LF.1 3 = some (.inl 7) from rfl, show LF.2 3 0 = some 4 from rfl, upd2_eq, Int.reduceToNat, Int.toNat_natCast]; rfl) (by first | exact trivial | exact Or.inr rfl | exact Or.inl rfl | (simp only [ob, obA, R32, R64] at *; omega) | (simp only [ob, obA, R32, R64] at *; and_intros <;> omega)) ?_
      refine V_callV (M := MX8_readPart) (N := MX9_numberTold) dX8_readPart_58 lRX8_99 kX9_numberTold rfl (rfl) rfl (c_tNumberTold (d := 0) hκ hi (by omega)) rfl rfl (Nat.le_of_ble_eq_true rfl) (fit_rm (by omega)) (⟨Nat.le_of_ble_eq_true rfl, Nat.le_of_ble_eq_true rfl⟩) (fun v Ω' hp => ?_) (fun _ _ h => h.elim)
      obtain ⟨rfl, rfl⟩ := hp
      rw [e7]
      refine V_callV (M := MX8_readPart) (N := MX7_write) dX8_readPart_61 lRX8_162 kX7_write rfl (h1S) rfl (c_write2 (d := 1) hκ hS (by omega) (by omega)) rfl rfl (Nat.le_of_ble_eq_true rfl) (fit_rm (by omega)) (⟨Nat.le_of_ble_eq_true rfl, Nat.le_of_ble_eq_true rfl⟩) (fun v Ω' hp => ?_) (fun _ _ h => h.elim)
      obtain ⟨rfl, rfl⟩ := hp
      refine V_ex sX8_readPart_64 (by rfl) (by first | exact trivial | exact Or.inr rfl | exact Or.inl rfl | (simp only [ob, obA, R32, R64] at *; omega) | (simp only [ob, obA, R32, R64] at *; and_intros <;> omega)) ?_
      refine V_callV (M := MX8_readPart) (N := MX8_readWithin) dX8_readPart_69 lRX8_105 kX8_readWithin rfl (rfl) rfl (c_rWithin (d := 1) hκ ((FE.wr s G (v i)).rd hS hr) hT (h46 _) hiN hN hw (by unfold R32; omega) (by unfold R32; omega) (by omega)) rfl rfl (Nat.le_of_ble_eq_true rfl) (fit_rm (by omega)) (⟨Nat.le_of_ble_eq_true rfl, Nat.le_of_ble_eq_true rfl⟩) (fun v Ω' hp => ?_) (fun _ _ h => h.elim)
      obtain ⟨rfl, rfl⟩ := hp
      refine V_zret dX8_readPart_72 rfl (by first | exact Or.inl rfl | exact Or.inr rfl | exact b2i_01 _) (by decide) ?_
      have hi2 := hlt (by omega)
      have hp9 : pNum w v 0 9999 i = if v i ≤ 9999 then 0 else 2 := by rw [pNum, if_neg (not_not_intro q50)]; by_cases h9 : v i ≤ 9999; rw [if_pos h9, if_neg (by omega)]; rw [if_neg h9, if_pos (by omega)]
      have hpp : pPart w v rec (i, 0, c) = if v i ≤ 9999 then (i + 1, 0, c ++ [v i]) else (i, 2, c) := by unfold pPart; dsimp only; rw [if_neg q11, if_pos q50]
      rw [hp9, hpp]
      by_cases h9 : v i ≤ 9999
      · simp only [if_pos h9, if_true]
        exact eP_ok rfl ((FE.wr s G (v i)).trans (FE.cur s _ _)) (by rw [of_cur]; show _ = ((i + 1 : Nat) : Int); omega) (by rw [at_cur (by omega)]; exact h31 _) (cd_cur hne (wr_code hcd (by omega))) (by rw [at_cur (by omega), wr_8]; show _ ≤ G.1 s 8 + ((i + 1 : Nat) : Int) - (i : Int) + 1; omega)
      · simp only [if_neg h9, if_neg (show ¬ (2 : Int) = 0 by decide)]
        exact eP_no (show (2 : Int) ≠ 0 by decide) ((FE.wr s G (v i)).trans (FE.fnd s _ _)) (by rw [at_fnd (by omega)]; exact h46 _) of_fnd (by rw [at_fnd (by omega), wr_8]; omega) (by rw [at_fnd (by omega), wr_8]; show _ ≤ G.1 s 8 + ((i : Nat) : Int) - (i : Int) + 1; omega)
  · refine V_ex sX8_readPart_14 (by simp only [Option.toList, List.cons_append, List.nil_append, exN, ex1, gI, gL, gR, pI, pL, pR, lget, lset1, lset2, kl, b2I, b2L, nob, ob32, ob64, xGet, xPut, xLen, xLd, xLdR, xSt, obA, true_and, and_true, and_self, eq_self, Nat.reduceEqDiff, Nat.zero_ne_one, reduceIte, Nat.reduceLeDiff, and_false, false_and, show skd 7 0 = 2 from rfl, show LF.1 3 = some (.inl 7) from rfl, show LF.2 3 0 = some 4 from rfl, upd2_eq, Int.reduceToNat, Int.toNat_natCast]; rfl) (by first | exact trivial | exact Or.inr rfl | exact Or.inl rfl | (simp only [ob, obA, R32, R64] at *; omega) | (simp only [ob, obA, R32, R64] at *; and_intros <;> omega)) ?_
    refine V_callV (M := MX8_readPart) (N := MX9_advance) dX8_readPart_18 lRX8_52 kX9_advance rfl (rfl) rfl (c_tAdvance (d := 0) hκ) rfl rfl (Nat.le_of_ble_eq_true rfl) (fit_rm (by omega)) (⟨Nat.le_of_ble_eq_true rfl, Nat.le_of_ble_eq_true rfl⟩) (fun v Ω' hp => ?_) (fun _ _ h => h.elim)
    obtain ⟨rfl, rfl⟩ := hp
    rw [hi]
    refine V_ex sX8_readPart_21 (by rfl) (by first | exact trivial | exact Or.inr rfl | exact Or.inl rfl | (simp only [ob, obA, R32, R64] at *; omega) | (simp only [ob, obA, R32, R64] at *; and_intros <;> omega)) ?_
    refine V_callV (M := MX8_readPart) (N := MX8_readOr) dX8_readPart_26 lRX8_89 kX8_readOr rfl (rfl) rfl (hrec (uI G 4 6 ((i : Int) + 1)) (i + 1) c ⟨(FE.cur s G _).rd hS hr, by rw [of_cur]; omega, by have := hlt (by omega); omega, cd_cur hne hcd, by omega⟩) rfl rfl (Nat.le_of_ble_eq_true rfl) (fit_rm (by omega)) (⟨Nat.le_of_ble_eq_true rfl, Nat.le_of_ble_eq_true rfl⟩) (fun v Ω' hp => ?_) (fun _ _ h => h.elim)
    obtain ⟨rfl, G2, rfl, f2, a2, b2, c2, d2, e2⟩ := hp
    have hg := hPG (i + 1) c (by have := hlt (by omega); omega)
    have hpp : pPart w v rec (i, 0, c) = if (rec (i + 1, 0, c)).2.1 = 0 then pSign w 41 (rec (i + 1, 0, c)) else rec (i + 1, 0, c) := by unfold pPart; dsimp only; rw [if_pos q11]
    rw [at_cur (by omega)] at e2 b2
    have f12 := (FE.cur s G ((i : Int) + 1)).trans f2
    refine V_ifeqB dX8_readPart_29 (tgt := 45) (by decide) (fun q29 => ?_) (fun q29 => ?_)
    · have hb := of_decide_eq_false q29
      refine V_ex sX8_readPart_45 (by rfl) (by first | exact trivial | exact Or.inr rfl | exact Or.inl rfl | (simp only [ob, obA, R32, R64] at *; omega) | (simp only [ob, obA, R32, R64] at *; and_intros <;> omega)) ?_
      refine V_zret dX8_readPart_46 rfl (by first | exact Or.inl rfl | exact Or.inr rfl | exact b2i_01 _) (by decide) (by rw [hpp, if_neg hb]; exact eP_no hb f12 a2 (c2 hb) d2 (by omega))
    · have hb := of_decide_eq_true q29
      refine V_ex sX8_readPart_32 (by rfl) (by first | exact trivial | exact Or.inr rfl | exact Or.inl rfl | (simp only [ob, obA, R32, R64] at *; omega) | (simp only [ob, obA, R32, R64] at *; and_intros <;> omega)) ?_
      refine V_callV (M := MX8_readPart) (N := MX8_readSign) dX8_readPart_35 lRX8_45 kX8_readSign rfl (rfl) rfl (c_rSign (d := 1) hκ (s := s) (f2.rd hS ((FE.cur s G _).rd hS hr)) a2 hg.2.1 hN hw (by decide) (by omega)) rfl rfl (Nat.le_of_ble_eq_true rfl) (fit_rm (by omega)) (⟨Nat.le_of_ble_eq_true rfl, Nat.le_of_ble_eq_true rfl⟩) (fun v Ω' hp => ?_) (fun _ _ h => h.elim)
      obtain ⟨rfl, rfl⟩ := hp
      refine V_ifeqB dX8_readPart_38 (tgt := 45) (by decide) (fun q38 => ?_) (fun q38 => ?_)
      · have hc41 := of_decide_eq_false q38
        rw [if_neg hc41]
        refine V_ex sX8_readPart_45 (by rfl) (by first | exact trivial | exact Or.inr rfl | exact Or.inl rfl | (simp only [ob, obA, R32, R64] at *; omega) | (simp only [ob, obA, R32, R64] at *; and_intros <;> omega)) ?_
        refine V_zret dX8_readPart_46 rfl (by first | exact Or.inl rfl | exact Or.inr rfl | exact b2i_01 _) (by decide) (by rw [hpp, if_pos hb, pSign, if_neg hc41]; exact eP_no (show (1 : Int) ≠ 0 by decide) (f12.trans (FE.fnd s G2 1)) (by rw [at_fnd (by omega)]; exact a2) of_fnd (by rw [at_fnd (by omega)]; exact d2) (by rw [at_fnd (by omega)]; show _ ≤ G.1 s 8 + ((rec (i + 1, 0, c)).1 : Int) - (i : Int) + 1; omega))
      · have hc41 := of_decide_eq_true q38
        rw [if_pos hc41]
        refine V_ex sX8_readPart_41 (by rfl) (by first | exact trivial | exact Or.inr rfl | exact Or.inl rfl | (simp only [ob, obA, R32, R64] at *; omega) | (simp only [ob, obA, R32, R64] at *; and_intros <;> omega)) ?_
        refine V_goto dX8_readPart_42 (tgt := 46) (by decide) ?_
        refine V_zret dX8_readPart_46 rfl (by first | exact Or.inl rfl | exact Or.inr rfl | exact b2i_01 _) (by decide) (by rw [hpp, if_pos hb, pSign, if_pos hc41]; exact eP_ok rfl (f12.trans (FE.cur s G2 _)) (by rw [of_cur]; show _ = (((rec (i + 1, 0, c)).1 + 1 : Nat) : Int); omega) (by rw [at_cur (by omega)]; exact (b2 hb).1) (cd_cur hne (b2 hb).2) (by rw [at_cur (by omega)]; show _ ≤ G.1 s 8 + (((rec (i + 1, 0, c)).1 + 1 : Nat) : Int) - (i : Int) + 1; omega))
theorem pLoop_bad {op : Int → Option Int} {w : Nat → Int} {p : PE → PE} (k : Nat) {s : PE} (h : s.2.1 ≠ 0) : pLoop op w p k s = s := by
  cases k with
  | zero => rfl
  | succ k => rw [pLoop, if_pos h]
theorem pLoop_no {op : Int → Option Int} {w : Nat → Int} {p : PE → PE} (k : Nat) {s : PE} (h : op (w s.1) = none) : pLoop op w p k s = s := by
  cases k with
  | zero => rfl
  | succ k => rw [pLoop]; split; rfl; rw [h]
theorem pLoop_go {op : Int → Option Int} {w : Nat → Int} {p : PE → PE} (k : Nat) {s : PE} {o : Int} (h0 : s.2.1 = 0) (h : op (w s.1) = some o) : pLoop op w p (k + 1) s = pLoop op w p k (if (p (s.1 + 1, 0, s.2.2)).2.1 = 0 then ((p (s.1 + 1, 0, s.2.2)).1, 0, (p (s.1 + 1, 0, s.2.2)).2.2 ++ [o]) else p (s.1 + 1, 0, s.2.2)) := by
  rw [pLoop, if_neg (not_not_intro h0), h]
  dsimp only
  by_cases c : (p (s.1 + 1, 0, s.2.2)).2.1 = 0
  · rw [if_pos c, if_pos c]
  · rw [if_neg c, if_neg c, pLoop_bad k c]
/-- where a loop of the reader stands: r so far -/
def eI (s N H : Nat) (G : Wd) (i : Nat) (c : List Int) (G1 : Wd) (r : PE) : Prop := FE s G G1 ∧ G1.1 4 6 = (r.1 : Nat) ∧ (r.2.1 = 0 → G1.1 3 1 = G.1 3 1 ∧ codeIs G1 s r.2.2) ∧ (r.2.1 ≠ 0 → G1.1 3 1 = r.2.1) ∧ 0 ≤ G1.1 s 8 ∧ G1.1 s 8 ≤ G.1 s 8 + (r.1 : Int) - (i : Int) + 1 ∧ pRes N H i c r
theorem eI_P {s N H : Nat} {G : Wd} {i : Nat} {c : List Int} {G1 : Wd} {r : PE} (h : eI s N H G i c G1 r) : eP s G i r (some (VI (b2i (decide (r.2.1 = 0))))) (Wm G1) := ⟨rfl, G1, rfl, h.1, h.2.1, h.2.2.1, h.2.2.2.1, h.2.2.2.2.1, h.2.2.2.2.2.1⟩
/-- one more operand, and its sign -/
theorem eI_next {s N H : Nat} {w v : Nat → Int} {G : Wd} {i : Nat} {c : List Int} {G1 G3 : Wd} {r : PE} {p : PE → PE} {o : Int} (hE : eE s w v N) (hcd : codeIs G s c) (hci : c.length ≤ i) (h : eI s N (H + 1) G i c G1 r) (h0 : r.2.1 = 0) (hlt : r.1 < N) (hp : PG N H p) (ho : -13 ≤ o ∧ o < -5)
    (f3 : FE s (uI G1 4 6 ((r.1 : Int) + 1)) G3) (a3 : G3.1 4 6 = ((p (r.1 + 1, 0, r.2.2)).1 : Nat)) (b3 : (p (r.1 + 1, 0, r.2.2)).2.1 = 0 → G3.1 3 1 = (uI G1 4 6 ((r.1 : Int) + 1)).1 3 1 ∧ codeIs G3 s (p (r.1 + 1, 0, r.2.2)).2.2) (c3 : (p (r.1 + 1, 0, r.2.2)).2.1 ≠ 0 → G3.1 3 1 = (p (r.1 + 1, 0, r.2.2)).2.1) (d3 : 0 ≤ G3.1 s 8) (e3 : G3.1 s 8 ≤ (uI G1 4 6 ((r.1 : Int) + 1)).1 s 8 + ((p (r.1 + 1, 0, r.2.2)).1 : Int) - ((r.1 + 1 : Nat) : Int) + 1) :
    eI s N (H + 1) G i c (wrW G3 s o) (if (p (r.1 + 1, 0, r.2.2)).2.1 = 0 then ((p (r.1 + 1, 0, r.2.2)).1, 0, (p (r.1 + 1, 0, r.2.2)).2.2 ++ [o]) else p (r.1 + 1, 0, r.2.2)) := by
  obtain ⟨hS, hT, hN, hw⟩ := hE
  have hne := sh_ne hS
  obtain ⟨f1, a1, b1, c1, d1, e1, g1⟩ := h
  obtain ⟨b1f, b1c⟩ := b1 h0
  have hq := hp (r.1 + 1) r.2.2 (by omega)
  obtain ⟨g1a, g1b, -, -, g1c⟩ := g1
  obtain ⟨g2, cs, k1, k2, k3, k4⟩ := g1c h0
  have hlen : r.2.2.length ≤ r.1 := by rw [k1]; simp; omega
  rw [at_cur (by omega)] at e3 b3
  have hc8 := b1c.1
  have hG8 := hcd.1
  have hlen2 : r.2.2.length = c.length + cs.length := by rw [k1]; simp
  have hcap : G.1 s 8 + (r.1 : Int) - (i : Int) + 1 ≥ 0 := by omega
  have f13 : FE s G (wrW G3 s o) := ((f1.trans (FE.cur s G1 _)).trans f3).trans (FE.wr s G3 o)
  have w46 : (wrW G3 s o).1 4 6 = G3.1 4 6 := wr_at (by omega) (by omega)
  have w31 : (wrW G3 s o).1 3 1 = G3.1 3 1 := wr_at (by omega) (by omega)
  generalize p (r.1 + 1, 0, r.2.2) = r2 at *
  obtain ⟨p1, p2, p3, p4, p5⟩ := hq
  by_cases hb : r2.2.1 = 0
  · obtain ⟨p6, ds, l1, l2, l3, l4⟩ := p5 hb
    obtain ⟨b3f, b3c⟩ := b3 hb
    have hl2 : r2.2.2.length ≤ r2.1 - 1 := by rw [l1]; simp; omega
    rw [if_pos hb]
    refine ⟨f13, by rw [w46]; exact a3, fun _ => ⟨by rw [w31, b3f, b1f], wr_code b3c (by omega)⟩, fun q => absurd rfl q, by rw [wr_8]; omega, by rw [wr_8]; show _ ≤ G.1 s 8 + (r2.1 : Int) - (i : Int) + 1; omega, ?_⟩
    refine ⟨by show i ≤ r2.1; omega, p2, (show (0 : Int) ≤ 0 by decide), (show (0 : Int) ≤ 5 by decide), fun _ => ⟨by show i < r2.1; omega, cs ++ ds ++ [o], ?_, okSeg_bin k2 l2 ho.2, ?_, ?_⟩⟩
    · show r2.2.2 ++ [o] = _
      rw [l1, k1]; simp
    · show _ ≤ r2.1 - i
      simp; omega
    · intro z hz
      simp only [List.mem_append, List.mem_singleton] at hz
      rcases hz with (hz | hz) | hz
      · exact k4 z hz
      · exact l4 z hz
      · subst hz; omega
  · rw [if_neg hb]
    exact ⟨f13, by rw [w46]; exact a3, fun q => absurd q hb, fun q => by rw [w31]; exact c3 q, by rw [wr_8]; omega, by rw [wr_8]; omega, by omega, p2, p3, p4, fun q => absurd q hb⟩
