/-! Tokens -/
def bAt (f : Nat → Int) (n : Nat) (i : Int) : Int := if 0 ≤ i ∧ i < (n : Nat) then f i.toNat else -1
theorem bAt_nat {f : Nat → Int} {n p : Nat} (h : p < n) : bAt f n (p : Nat) = f p := by rw [bAt, if_pos (by omega), Int.toNat_natCast]
set_option maxRecDepth 100000 in
set_option maxHeartbeats 4000000 in
theorem c_tByteAt {κ : Kx} (hκ : KOK κ) {d n : Nat} {i : Int} {G : Wd} (hn : G.1 4 1 = (n : Nat)) (hn5 : n ≤ 500) (hi : R32 i) : Ct κ MX9_byteAt d 0 0 [VR 4, VI i] (Wm G) (keepG G (VI (bAt (G.1 2) n i))) noX := by
  refine Ct_of hκ kX9_byteAt.1 rfl (Nat.le_of_ble_eq_true rfl) (ls := [some (VR 4), some (VI i)]) rfl (fun μ => ?_)
  refine V_ex sX9_byteAt_0 (by rfl) (by first | exact trivial | exact Or.inr rfl | exact Or.inl rfl | (simp only [ob, obA, R32, R64] at *; omega) | (simp only [ob, obA, R32, R64] at *; and_intros <;> omega)) ?_
  refine V_iflt dX9_byteAt_1 (tgt := 30) (by decide) (by simp only [R32, R64] at *; omega) (fun q1 => ?_) (fun q1 => ?_)
  · refine V_ex sX9_byteAt_30 (by rfl) (by first | exact trivial | exact Or.inr rfl | exact Or.inl rfl | (simp only [ob, obA, R32, R64] at *; omega) | (simp only [ob, obA, R32, R64] at *; and_intros <;> omega)) ?_
    refine V_iret dX9_byteAt_31 rfl (by decide) ⟨by rw [bAt, if_neg (by omega)], rfl⟩
  · refine V_ex sX9_byteAt_4 (by simp only [Option.toList, List.cons_append, List.nil_append, exN, ex1, gI, gL, gR, pI, pL, pR, lget, lset1, lset2, kl, b2I, b2L, nob, ob32, ob64, xGet, xPut, xLen, xLd, xLdR, xSt, obA, true_and, and_true, and_self, eq_self, Nat.reduceEqDiff, Nat.zero_ne_one, reduceIte, Nat.reduceLeDiff, and_false, false_and, show skd 8 1 = 0 from rfl, show LF.1 4 = some (.inl 8) from rfl, hn, upd2_eq, Int.reduceToNat, Int.toNat_natCast]; rfl) (by first | exact trivial | exact Or.inr rfl | exact Or.inl rfl | (simp only [ob, obA, R32, R64] at *; omega) | (simp only [ob, obA, R32, R64] at *; and_intros <;> omega)) ?_
    refine V_icmpge dX9_byteAt_9 (tgt := 30) (by decide) (by simp only [R32, R64] at *; omega) (fun q9 => ?_) (fun q9 => ?_)
    · refine V_ex sX9_byteAt_30 (by rfl) (by first | exact trivial | exact Or.inr rfl | exact Or.inl rfl | (simp only [ob, obA, R32, R64] at *; omega) | (simp only [ob, obA, R32, R64] at *; and_intros <;> omega)) ?_
      refine V_iret dX9_byteAt_31 rfl (by decide) ⟨by rw [bAt, if_neg (by omega)], rfl⟩
    · refine V_ex sX9_byteAt_12 (by simp only [Option.toList, List.cons_append, List.nil_append, exN, ex1, gI, gL, gR, pI, pL, pR, lget, lset1, lset2, kl, b2I, b2L, nob, ob32, ob64, xGet, xPut, xLen, xLd, xLdR, xSt, obA, true_and, and_true, and_self, eq_self, Nat.reduceEqDiff, Nat.zero_ne_one, reduceIte, Nat.reduceLeDiff, and_false, false_and, show skd 8 0 = 2 from rfl, show LF.1 4 = some (.inl 8) from rfl, show LF.2 4 0 = some 2 from rfl, show LF.1 2 = some (.inr (0, 500)) from rfl, hn, upd2_eq, Int.reduceToNat, Int.toNat_natCast]; rfl) (by first | exact trivial | exact Or.inr rfl | exact Or.inl rfl | (simp only [ob, obA, R32, R64] at *; omega) | (simp only [ob, obA, R32, R64] at *; and_intros <;> omega)) ?_
      refine V_icmpge dX9_byteAt_18 (tgt := 30) (by decide) (by simp only [R32, R64] at *; omega) (fun q18 => ?_) (fun q18 => ?_)
      · refine V_ex sX9_byteAt_30 (by rfl) (by first | exact trivial | exact Or.inr rfl | exact Or.inl rfl | (simp only [ob, obA, R32, R64] at *; omega) | (simp only [ob, obA, R32, R64] at *; and_intros <;> omega)) ?_
        refine V_iret dX9_byteAt_31 rfl (by decide) ⟨by rw [bAt, if_neg (by omega)], rfl⟩
      · refine V_ex sX9_byteAt_21 (by simp only [Option.toList, List.cons_append, List.nil_append, exN, ex1, gI, gL, gR, pI, pL, pR, lget, lset1, lset2, kl, b2I, b2L, nob, ob32, ob64, xGet, xPut, xLen, xLd, xLdR, xSt, obA, true_and, and_true, and_self, eq_self, Nat.reduceEqDiff, Nat.zero_ne_one, reduceIte, Nat.reduceLeDiff, and_false, false_and, show skd 8 0 = 2 from rfl, show LF.1 4 = some (.inl 8) from rfl, show LF.2 4 0 = some 2 from rfl, show LF.1 2 = some (.inr (0, 500)) from rfl, upd2_eq, Int.reduceToNat, Int.toNat_natCast]; rfl) (by first | exact trivial | exact Or.inr rfl | exact Or.inl rfl | (simp only [ob, obA, R32, R64] at *; omega) | (simp only [ob, obA, R32, R64] at *; and_intros <;> omega)) ?_
        refine V_goto dX9_byteAt_27 (tgt := 31) (by decide) ?_
        refine V_iret dX9_byteAt_31 rfl (by decide) ⟨by rw [bAt, if_pos (by omega)], rfl⟩
set_option maxRecDepth 100000 in
set_option maxHeartbeats 4000000 in
theorem c_tIsLetter {κ : Kx} (hκ : KOK κ) {d : Nat} {c : Int} {G : Wd} (hc : R32 c) : Ct κ MX9_isLetter d 0 0 [VI c] (Wm G) (keepG G (VI (b2i (isLb c)))) noX := by
  refine Ct_of hκ kX9_isLetter.1 rfl (Nat.le_of_ble_eq_true rfl) (ls := [some (VI c)]) rfl (fun μ => ?_)
  refine V_ex sX9_isLetter_0 (by rfl) (by first | exact trivial | exact Or.inr rfl | exact Or.inl rfl | (simp only [ob, obA, R32, R64] at *; omega) | (simp only [ob, obA, R32, R64] at *; and_intros <;> omega)) ?_
  refine V_icmplt dX9_isLetter_3 (tgt := 16) (by decide) (by simp only [R32, R64] at *; omega) (fun q3 => ?_) (fun q3 => ?_)
  · refine V_ex sX9_isLetter_16 (by rfl) (by first | exact trivial | exact Or.inr rfl | exact Or.inl rfl | (simp only [ob, obA, R32, R64] at *; omega) | (simp only [ob, obA, R32, R64] at *; and_intros <;> omega)) ?_
    refine V_zret dX9_isLetter_17 rfl (by first | exact Or.inl rfl | exact Or.inr rfl | exact b2i_01 _) (by decide) ⟨by unfold isLb; first | exact bz0 (by omega) | exact bz1 (by omega), rfl⟩
  · refine V_ex sX9_isLetter_6 (by rfl) (by first | exact trivial | exact Or.inr rfl | exact Or.inl rfl | (simp only [ob, obA, R32, R64] at *; omega) | (simp only [ob, obA, R32, R64] at *; and_intros <;> omega)) ?_
    refine V_icmpgt dX9_isLetter_9 (tgt := 16) (by decide) (by simp only [R32, R64] at *; omega) (fun q9 => ?_) (fun q9 => ?_)
    · refine V_ex sX9_isLetter_16 (by rfl) (by first | exact trivial | exact Or.inr rfl | exact Or.inl rfl | (simp only [ob, obA, R32, R64] at *; omega) | (simp only [ob, obA, R32, R64] at *; and_intros <;> omega)) ?_
      refine V_zret dX9_isLetter_17 rfl (by first | exact Or.inl rfl | exact Or.inr rfl | exact b2i_01 _) (by decide) ⟨by unfold isLb; first | exact bz0 (by omega) | exact bz1 (by omega), rfl⟩
    · refine V_ex sX9_isLetter_12 (by rfl) (by first | exact trivial | exact Or.inr rfl | exact Or.inl rfl | (simp only [ob, obA, R32, R64] at *; omega) | (simp only [ob, obA, R32, R64] at *; and_intros <;> omega)) ?_
      refine V_goto dX9_isLetter_13 (tgt := 17) (by decide) ?_
      refine V_zret dX9_isLetter_17 rfl (by first | exact Or.inl rfl | exact Or.inr rfl | exact b2i_01 _) (by decide) ⟨by unfold isLb; first | exact bz0 (by omega) | exact bz1 (by omega), rfl⟩
set_option maxRecDepth 100000 in
set_option maxHeartbeats 4000000 in
theorem c_tIsDigit {κ : Kx} (hκ : KOK κ) {d : Nat} {c : Int} {G : Wd} (hc : R32 c) : Ct κ MX9_isDigit d 0 0 [VI c] (Wm G) (keepG G (VI (b2i (isDb c)))) noX := by
  refine Ct_of hκ kX9_isDigit.1 rfl (Nat.le_of_ble_eq_true rfl) (ls := [some (VI c)]) rfl (fun μ => ?_)
  refine V_ex sX9_isDigit_0 (by rfl) (by first | exact trivial | exact Or.inr rfl | exact Or.inl rfl | (simp only [ob, obA, R32, R64] at *; omega) | (simp only [ob, obA, R32, R64] at *; and_intros <;> omega)) ?_
  refine V_icmplt dX9_isDigit_3 (tgt := 16) (by decide) (by simp only [R32, R64] at *; omega) (fun q3 => ?_) (fun q3 => ?_)
  · refine V_ex sX9_isDigit_16 (by rfl) (by first | exact trivial | exact Or.inr rfl | exact Or.inl rfl | (simp only [ob, obA, R32, R64] at *; omega) | (simp only [ob, obA, R32, R64] at *; and_intros <;> omega)) ?_
    refine V_zret dX9_isDigit_17 rfl (by first | exact Or.inl rfl | exact Or.inr rfl | exact b2i_01 _) (by decide) ⟨by unfold isDb; first | exact bz0 (by omega) | exact bz1 (by omega), rfl⟩
  · refine V_ex sX9_isDigit_6 (by rfl) (by first | exact trivial | exact Or.inr rfl | exact Or.inl rfl | (simp only [ob, obA, R32, R64] at *; omega) | (simp only [ob, obA, R32, R64] at *; and_intros <;> omega)) ?_
    refine V_icmpgt dX9_isDigit_9 (tgt := 16) (by decide) (by simp only [R32, R64] at *; omega) (fun q9 => ?_) (fun q9 => ?_)
    · refine V_ex sX9_isDigit_16 (by rfl) (by first | exact trivial | exact Or.inr rfl | exact Or.inl rfl | (simp only [ob, obA, R32, R64] at *; omega) | (simp only [ob, obA, R32, R64] at *; and_intros <;> omega)) ?_
      refine V_zret dX9_isDigit_17 rfl (by first | exact Or.inl rfl | exact Or.inr rfl | exact b2i_01 _) (by decide) ⟨by unfold isDb; first | exact bz0 (by omega) | exact bz1 (by omega), rfl⟩
    · refine V_ex sX9_isDigit_12 (by rfl) (by first | exact trivial | exact Or.inr rfl | exact Or.inl rfl | (simp only [ob, obA, R32, R64] at *; omega) | (simp only [ob, obA, R32, R64] at *; and_intros <;> omega)) ?_
      refine V_goto dX9_isDigit_13 (tgt := 17) (by decide) ?_
      refine V_zret dX9_isDigit_17 rfl (by first | exact Or.inl rfl | exact Or.inr rfl | exact b2i_01 _) (by decide) ⟨by unfold isDb; first | exact bz0 (by omega) | exact bz1 (by omega), rfl⟩
/-- the text's bytes -/
def txOk (G : Wd) (n : Nat) : Prop := G.1 4 1 = (n : Nat) ∧ n ≤ 500 ∧ ∀ j, j < 500 → 0 ≤ G.1 2 j ∧ G.1 2 j ≤ 255
theorem txOk_R {G : Wd} {n : Nat} (h : txOk G n) (i : Int) : R32 (bAt (G.1 2) n i) := by
  unfold bAt R32
  split
  · have := h.2.2 i.toNat (by have := h.2.1; omega); omega
  · omega
set_option maxRecDepth 100000 in
set_option maxHeartbeats 4000000 in
theorem c_tEndOfWord {κ : Kx} (hκ : KOK κ) {d n p : Nat} {G : Wd} (hx : txOk G n) (hp : p ≤ n) (hd : 1 ≤ d) : Ct κ MX9_endOfWord d 0 0 [VR 4, VI (p : Nat)] (Wm G) (keepG G (VI (runB isLb (G.1 2) (n - p) p : Nat))) noX := by
  refine Ct_of hκ kX9_endOfWord.1 rfl (Nat.le_of_ble_eq_true rfl) (ls := [some (VR 4), some (VI (p : Nat)), none]) rfl (fun μ => ?_)
  have hx2 := hx
  obtain ⟨hn, hn5, hb⟩ := hx2
  have L : ∀ (k q : Nat) (ii : Int), ii = (q : Int) → q + k = n → runB isLb (G.1 2) k q = runB isLb (G.1 2) (n - p) p → V κ MX9_endOfWord (rmD d 0 0) (keepG G (VI (runB isLb (G.1 2) (n - p) p : Nat))) noX 0 0 μ 0 0 (Wm G) 2 [some (VR 4), some (VI (p : Nat)), some (VI ii)] [] := by
    intro k
    induction k with
    | zero =>
      intro q ii hii hk he
      refine V_ex sX9_endOfWord_2 (by simp only [Option.toList, List.cons_append, List.nil_append, exN, ex1, gI, gL, gR, pI, pL, pR, lget, lset1, lset2, kl, b2I, b2L, nob, ob32, ob64, xGet, xPut, xLen, xLd, xLdR, xSt, obA, true_and, and_true, and_self, eq_self, Nat.reduceEqDiff, Nat.zero_ne_one, reduceIte, Nat.reduceLeDiff, and_false, false_and, show skd 8 1 = 0 from rfl, show LF.1 4 = some (.inl 8) from rfl, hn, upd2_eq, Int.reduceToNat, Int.toNat_natCast]; rfl) (by first | exact trivial | exact Or.inr rfl | exact Or.inl rfl | (simp only [ob, obA, R32, R64] at *; omega) | (simp only [ob, obA, R32, R64] at *; and_intros <;> omega)) ?_
      refine V_icmpge dX9_endOfWord_7 (tgt := 29) (by decide) (by simp only [R32, R64] at *; omega) (fun q7 => ?_) (fun q7 => ?_)
      · refine V_ex sX9_endOfWord_29 (by simp only [Option.toList, List.cons_append, List.nil_append, exN, ex1, gI, gL, gR, pI, pL, pR, lget, lset1, lset2, kl, b2I, b2L, nob, ob32, ob64, xGet, xPut, xLen, xLd, xLdR, xSt, obA, true_and, and_true, and_self, eq_self, Nat.reduceEqDiff, Nat.zero_ne_one, reduceIte, Nat.reduceLeDiff, and_false, false_and, show skd 8 1 = 0 from rfl, show LF.1 4 = some (.inl 8) from rfl, hn, upd2_eq, Int.reduceToNat, Int.toNat_natCast]; rfl) (by first | exact trivial | exact Or.inr rfl | exact Or.inl rfl | (simp only [ob, obA, R32, R64] at *; omega) | (simp only [ob, obA, R32, R64] at *; and_intros <;> omega)) ?_
        refine V_iret dX9_endOfWord_33 rfl (by decide) ⟨by rw [← he, runB]; congr 2; omega, rfl⟩
      · omega
    | succ k ih =>
      intro q ii hii hk he
      subst hii
      rw [runB] at he
      refine V_ex sX9_endOfWord_2 (by simp only [Option.toList, List.cons_append, List.nil_append, exN, ex1, gI, gL, gR, pI, pL, pR, lget, lset1, lset2, kl, b2I, b2L, nob, ob32, ob64, xGet, xPut, xLen, xLd, xLdR, xSt, obA, true_and, and_true, and_self, eq_self, Nat.reduceEqDiff, Nat.zero_ne_one, reduceIte, Nat.reduceLeDiff, and_false, false_and, show skd 8 1 = 0 from rfl, show LF.1 4 = some (.inl 8) from rfl, hn, upd2_eq, Int.reduceToNat, Int.toNat_natCast]; rfl) (by first | exact trivial | exact Or.inr rfl | exact Or.inl rfl | (simp only [ob, obA, R32, R64] at *; omega) | (simp only [ob, obA, R32, R64] at *; and_intros <;> omega)) ?_
      refine V_icmpge dX9_endOfWord_7 (tgt := 29) (by decide) (by simp only [R32, R64] at *; omega) (fun q7 => ?_) (fun q7 => ?_)
      · omega
      · refine V_ex sX9_endOfWord_10 (by rfl) (by first | exact trivial | exact Or.inr rfl | exact Or.inl rfl | (simp only [ob, obA, R32, R64] at *; omega) | (simp only [ob, obA, R32, R64] at *; and_intros <;> omega)) ?_
        refine V_callV (M := MX9_endOfWord) (N := MX9_byteAt) dX9_endOfWord_12 lRX9_82 kX9_byteAt rfl (rfl) rfl (c_tByteAt (d := 0) hκ hn hn5 (by unfold R32; omega)) rfl rfl (Nat.le_of_ble_eq_true rfl) (fit_rm (by omega)) (⟨Nat.le_of_ble_eq_true rfl, Nat.le_of_ble_eq_true rfl⟩) (fun v Ω' hp => ?_) (fun _ _ h => h.elim)
        obtain ⟨rfl, rfl⟩ := hp
        rw [bAt_nat (by omega)]
        refine V_callS (M := MX9_endOfWord) (N := MX9_isLetter) dX9_endOfWord_15 lRX9_85 kX9_isLetter rfl (c_tIsLetter (d := 0) hκ (by have := hb q (by omega); unfold R32; omega)) rfl rfl (Nat.le_of_ble_eq_true rfl) (fit_rm (by omega)) (⟨Nat.le_of_ble_eq_true rfl, Nat.le_of_ble_eq_true rfl⟩) (fun v Ω' hp => ?_) (fun _ _ h => h.elim)
        obtain ⟨rfl, rfl⟩ := hp
        refine V_ifneB dX9_endOfWord_18 (tgt := 23) (by decide) (fun q18 => ?_) (fun q18 => ?_)
        · refine V_ex sX9_endOfWord_23 (by rfl) (by first | exact trivial | exact Or.inr rfl | exact Or.inl rfl | (simp only [ob, obA, R32, R64] at *; omega) | (simp only [ob, obA, R32, R64] at *; and_intros <;> omega)) ?_
          refine V_goto dX9_endOfWord_26 (tgt := 2) (by decide) ?_
          exact ih (q + 1) _ (by omega) (by omega) (by rw [← he, if_pos q18])
        · refine V_ex sX9_endOfWord_21 (by rfl) (by first | exact trivial | exact Or.inr rfl | exact Or.inl rfl | (simp only [ob, obA, R32, R64] at *; omega) | (simp only [ob, obA, R32, R64] at *; and_intros <;> omega)) ?_
          refine V_iret dX9_endOfWord_22 rfl (by decide) ⟨by rw [← he, q18]; rfl, rfl⟩
  refine V_ex sX9_endOfWord_0 (by rfl) (by first | exact trivial | exact Or.inr rfl | exact Or.inl rfl | (simp only [ob, obA, R32, R64] at *; omega) | (simp only [ob, obA, R32, R64] at *; and_intros <;> omega)) ?_
  exact L (n - p) p _ rfl (by omega) rfl
def noteW (G : Wd) (m : Nat) (a b c : Int) : Wd := uI (uI (uI (uI G 5 m a) 6 m b) 7 m c) 4 5 ((m : Int) + 1)
set_option maxRecDepth 100000 in
set_option maxHeartbeats 4000000 in
theorem c_tNote {κ : Kx} (hκ : KOK κ) {d m : Nat} {a b c : Int} {G : Wd} (hm : G.1 4 5 = (m : Nat)) (hm2 : m < 501) (hd : 1 ≤ d) : Ct κ MX9_note d 0 0 [VR 4, VI a, VI b, VI c] (Wm G) (voidG (noteW G m a b c)) noX := by
  refine Ct_of hκ kX9_note.1 rfl (Nat.le_of_ble_eq_true rfl) (ls := [some (VR 4), some (VI a), some (VI b), some (VI c)]) rfl (fun μ => ?_)
  refine V_ex sX9_note_0 (by simp only [Option.toList, List.cons_append, List.nil_append, exN, ex1, gI, gL, gR, pI, pL, pR, lget, lset1, lset2, kl, b2I, b2L, nob, ob32, ob64, xGet, xPut, xLen, xLd, xLdR, xSt, obA, true_and, and_true, and_self, eq_self, Nat.reduceEqDiff, Nat.zero_ne_one, reduceIte, Nat.reduceLeDiff, and_false, false_and, show skd 8 2 = 2 from rfl, show skd 8 5 = 0 from rfl, show LF.1 4 = some (.inl 8) from rfl, show LF.2 4 2 = some 5 from rfl, hm, upd2_eq, Int.reduceToNat, Int.toNat_natCast]; rfl) (by first | exact trivial | exact Or.inr rfl | exact Or.inl rfl | (simp only [ob, obA, R32, R64] at *; omega) | (simp only [ob, obA, R32, R64] at *; and_intros <;> omega)) ?_
  refine V_callSN (M := MX9_note) (N := MX11_setAt) dX9_note_9 lRX9_78 kX11_setAt rfl (c_setAt (d := 0) hκ (a := 5) (n := 501) rfl (by decide) (by unfold R32; omega)) rfl rfl (Nat.le_of_ble_eq_true rfl) (fit_rm (by omega)) (⟨Nat.le_of_ble_eq_true rfl, Nat.le_of_ble_eq_true rfl⟩) (fun v Ω' hp => ?_) (fun _ _ h => h.elim)
  obtain ⟨rfl, rfl⟩ := hp
  rw [rSet_nat m rfl (by omega)]
  refine V_ex sX9_note_12 (by simp only [Option.toList, List.cons_append, List.nil_append, exN, ex1, gI, gL, gR, pI, pL, pR, lget, lset1, lset2, kl, b2I, b2L, nob, ob32, ob64, xGet, xPut, xLen, xLd, xLdR, xSt, obA, true_and, and_true, and_self, eq_self, Nat.reduceEqDiff, Nat.zero_ne_one, reduceIte, Nat.reduceLeDiff, and_false, false_and, show skd 8 3 = 2 from rfl, show skd 8 5 = 0 from rfl, show LF.1 4 = some (.inl 8) from rfl, show LF.2 4 3 = some 6 from rfl, hm, upd2_eq, Int.reduceToNat, Int.toNat_natCast]; rfl) (by first | exact trivial | exact Or.inr rfl | exact Or.inl rfl | (simp only [ob, obA, R32, R64] at *; omega) | (simp only [ob, obA, R32, R64] at *; and_intros <;> omega)) ?_
  refine V_callSN (M := MX9_note) (N := MX11_setAt) dX9_note_21 lRX9_78 kX11_setAt rfl (c_setAt (d := 0) hκ (a := 6) (n := 501) rfl (by decide) (by unfold R32; omega)) rfl rfl (Nat.le_of_ble_eq_true rfl) (fit_rm (by omega)) (⟨Nat.le_of_ble_eq_true rfl, Nat.le_of_ble_eq_true rfl⟩) (fun v Ω' hp => ?_) (fun _ _ h => h.elim)
  obtain ⟨rfl, rfl⟩ := hp
  rw [rSet_nat m rfl (by omega)]
  refine V_ex sX9_note_24 (by simp only [Option.toList, List.cons_append, List.nil_append, exN, ex1, gI, gL, gR, pI, pL, pR, lget, lset1, lset2, kl, b2I, b2L, nob, ob32, ob64, xGet, xPut, xLen, xLd, xLdR, xSt, obA, true_and, and_true, and_self, eq_self, Nat.reduceEqDiff, Nat.zero_ne_one, reduceIte, Nat.reduceLeDiff, and_false, false_and, show skd 8 4 = 2 from rfl, show skd 8 5 = 0 from rfl, show LF.1 4 = some (.inl 8) from rfl, show LF.2 4 4 = some 7 from rfl, hm, upd2_eq, Int.reduceToNat, Int.toNat_natCast]; rfl) (by first | exact trivial | exact Or.inr rfl | exact Or.inl rfl | (simp only [ob, obA, R32, R64] at *; omega) | (simp only [ob, obA, R32, R64] at *; and_intros <;> omega)) ?_
  refine V_callSN (M := MX9_note) (N := MX11_setAt) dX9_note_33 lRX9_78 kX11_setAt rfl (c_setAt (d := 0) hκ (a := 7) (n := 501) rfl (by decide) (by unfold R32; omega)) rfl rfl (Nat.le_of_ble_eq_true rfl) (fit_rm (by omega)) (⟨Nat.le_of_ble_eq_true rfl, Nat.le_of_ble_eq_true rfl⟩) (fun v Ω' hp => ?_) (fun _ _ h => h.elim)
  obtain ⟨rfl, rfl⟩ := hp
  rw [rSet_nat m rfl (by omega)]
  refine V_ex sX9_note_36 (by simp only [Option.toList, List.cons_append, List.nil_append, exN, ex1, gI, gL, gR, pI, pL, pR, lget, lset1, lset2, kl, b2I, b2L, nob, ob32, ob64, xGet, xPut, xLen, xLd, xLdR, xSt, obA, true_and, and_true, and_self, eq_self, Nat.reduceEqDiff, Nat.zero_ne_one, reduceIte, Nat.reduceLeDiff, and_false, false_and, show skd 8 5 = 0 from rfl, show LF.1 4 = some (.inl 8) from rfl, hm, upd2_eq, Int.reduceToNat, Int.toNat_natCast]; rfl) (by first | exact trivial | exact Or.inr rfl | exact Or.inl rfl | (simp only [ob, obA, R32, R64] at *; omega) | (simp only [ob, obA, R32, R64] at *; and_intros <;> omega)) ?_
  refine V_vret dX9_note_46 rfl (by decide) ⟨rfl, rfl⟩
set_option maxRecDepth 100000 in
set_option maxHeartbeats 4000000 in
theorem c_tReadNumber {κ : Kx} (hκ : KOK κ) {d n p m : Nat} {G : Wd} (hx : txOk G n) (hp : p < n) (hm : G.1 4 5 = (m : Nat)) (hm2 : m < 501) (hd : 2 ≤ d) : Ct κ MX9_readNumber d 0 0 [VR 4, VI (p : Nat)] (Wm G) (fun v Ω' => v = some (VI (runB isDb (G.1 2) (n - p) p : Nat)) ∧ Ω' = Wm (noteW G m (-2) (p : Nat) (valC (G.1 2) p (runB isDb (G.1 2) (n - p) p - p)))) noX := by
  refine Ct_of hκ kX9_readNumber.1 rfl (Nat.le_of_ble_eq_true rfl) (ls := [some (VR 4), some (VI (p : Nat)), none, none, none]) rfl (fun μ => ?_)
  have hx2 := hx
  obtain ⟨hn, hn5, hb⟩ := hx2
  have fin : ∀ (q : Nat), q = runB isDb (G.1 2) (n - p) p → V κ MX9_readNumber (rmD d 0 0) (fun v Ω' => v = some (VI (runB isDb (G.1 2) (n - p) p : Nat)) ∧ Ω' = Wm (noteW G m (-2) (p : Nat) (valC (G.1 2) p (runB isDb (G.1 2) (n - p) p - p)))) noX 0 0 μ 0 0 (Wm G) 68 [some (VR 4), some (VI (p : Nat)), some (VI (q : Nat)), some (VI (valC (G.1 2) p (q - p))), some (VI (q : Nat))] [] := fun q hq => by
    subst hq
    refine V_ex sX9_readNumber_68 (by rfl) (by first | exact trivial | exact Or.inr rfl | exact Or.inl rfl | (simp only [ob, obA, R32, R64] at *; omega) | (simp only [ob, obA, R32, R64] at *; and_intros <;> omega)) ?_
    refine V_callV (M := MX9_readNumber) (N := MX9_note) dX9_readNumber_73 lRX9_74 kX9_note rfl (rfl) rfl (c_tNote (d := 1) hκ hm hm2 (by omega)) rfl rfl (Nat.le_of_ble_eq_true rfl) (fit_rm (by omega)) (⟨Nat.le_of_ble_eq_true rfl, Nat.le_of_ble_eq_true rfl⟩) (fun v Ω' hp => ?_) (fun _ _ h => h.elim)
    obtain ⟨rfl, rfl⟩ := hp
    refine V_ex sX9_readNumber_76 (by rfl) (by first | exact trivial | exact Or.inr rfl | exact Or.inl rfl | (simp only [ob, obA, R32, R64] at *; omega) | (simp only [ob, obA, R32, R64] at *; and_intros <;> omega)) ?_
    refine V_iret dX9_readNumber_77 rfl (by decide) ⟨rfl, rfl⟩
  have L : ∀ (k j : Nat), p + j + k = n → runB isDb (G.1 2) k (p + j) = runB isDb (G.1 2) (n - p) p → (∀ t, t < j → isDb (G.1 2 (p + t)) = true) → V κ MX9_readNumber (rmD d 0 0) (fun v Ω' => v = some (VI (runB isDb (G.1 2) (n - p) p : Nat)) ∧ Ω' = Wm (noteW G m (-2) (p : Nat) (valC (G.1 2) p (runB isDb (G.1 2) (n - p) p - p)))) noX 0 0 μ 0 0 (Wm G) 7 [some (VR 4), some (VI (p : Nat)), some (VI ((p + j : Nat) : Int)), some (VI (valC (G.1 2) p j)), some (VI ((p + j : Nat) : Int))] [] := by
    intro k
    induction k with
    | zero =>
      intro j hk he hall
      have := fin (p + j) (by rw [← he, runB])
      rw [show p + j - p = j by omega] at this
      refine V_ex sX9_readNumber_7 (by simp only [Option.toList, List.cons_append, List.nil_append, exN, ex1, gI, gL, gR, pI, pL, pR, lget, lset1, lset2, kl, b2I, b2L, nob, ob32, ob64, xGet, xPut, xLen, xLd, xLdR, xSt, obA, true_and, and_true, and_self, eq_self, Nat.reduceEqDiff, Nat.zero_ne_one, reduceIte, Nat.reduceLeDiff, and_false, false_and, show skd 8 1 = 0 from rfl, show LF.1 4 = some (.inl 8) from rfl, hn, upd2_eq, Int.reduceToNat, Int.toNat_natCast]; rfl) (by first | exact trivial | exact Or.inr rfl | exact Or.inl rfl | (simp only [ob, obA, R32, R64] at *; omega) | (simp only [ob, obA, R32, R64] at *; and_intros <;> omega)) ?_
      refine V_icmpge dX9_readNumber_13 (tgt := 68) (by decide) (by simp only [R32, R64] at *; omega) (fun q13 => ?_) (fun q13 => ?_)
      · exact this
      · omega
    | succ k ih =>
      intro j hk he hall
      have hV := valC_R (f := G.1 2) (p := p) j hall
      have hbj := hb (p + j) (by omega)
      have stop : isDb (G.1 2 (p + j)) = false → V κ MX9_readNumber (rmD d 0 0) (fun v Ω' => v = some (VI (runB isDb (G.1 2) (n - p) p : Nat)) ∧ Ω' = Wm (noteW G m (-2) (p : Nat) (valC (G.1 2) p (runB isDb (G.1 2) (n - p) p - p)))) noX 0 0 μ 0 0 (Wm G) 68 [some (VR 4), some (VI (p : Nat)), some (VI ((p + j : Nat) : Int)), some (VI (valC (G.1 2) p j)), some (VI ((p + j : Nat) : Int))] [] := fun h => by
        have := fin (p + j) (by rw [← he, runB, h]; rfl)
        rw [show p + j - p = j by omega] at this
        exact this
      rw [runB] at he
      have next : ∀ z, isDb (G.1 2 (p + j)) = true → z = valC (G.1 2) p (j + 1) → V κ MX9_readNumber (rmD d 0 0) (fun v Ω' => v = some (VI (runB isDb (G.1 2) (n - p) p : Nat)) ∧ Ω' = Wm (noteW G m (-2) (p : Nat) (valC (G.1 2) p (runB isDb (G.1 2) (n - p) p - p)))) noX 0 0 μ 0 0 (Wm G) 56 [some (VR 4), some (VI (p : Nat)), some (VI ((p + j : Nat) : Int)), some (VI (valC (G.1 2) p j)), some (VI ((p + j : Nat) : Int))] [VI z] := fun z h hz => by
        rw [if_pos h] at he
        refine V_ex sX9_readNumber_56 (by rfl) (by first | exact trivial | exact Or.inr rfl | exact Or.inl rfl | (simp only [ob, obA, R32, R64] at *; omega) | (simp only [ob, obA, R32, R64] at *; and_intros <;> omega)) ?_
        refine V_goto dX9_readNumber_65 (tgt := 7) (by decide) ?_
        rw [hz, show ((p + j : Nat) : Int) + 1 = ((p + (j + 1) : Nat) : Int) by omega]
        exact ih (j + 1) (by omega) he (fun t ht => by
          rcases Nat.lt_or_ge t j with c | c
          · exact hall t c
          · obtain rfl : t = j := by omega
            exact h)
      refine V_ex sX9_readNumber_7 (by simp only [Option.toList, List.cons_append, List.nil_append, exN, ex1, gI, gL, gR, pI, pL, pR, lget, lset1, lset2, kl, b2I, b2L, nob, ob32, ob64, xGet, xPut, xLen, xLd, xLdR, xSt, obA, true_and, and_true, and_self, eq_self, Nat.reduceEqDiff, Nat.zero_ne_one, reduceIte, Nat.reduceLeDiff, and_false, false_and, show skd 8 1 = 0 from rfl, show LF.1 4 = some (.inl 8) from rfl, hn, upd2_eq, Int.reduceToNat, Int.toNat_natCast]; rfl) (by first | exact trivial | exact Or.inr rfl | exact Or.inl rfl | (simp only [ob, obA, R32, R64] at *; omega) | (simp only [ob, obA, R32, R64] at *; and_intros <;> omega)) ?_
      refine V_icmpge dX9_readNumber_13 (tgt := 68) (by decide) (by simp only [R32, R64] at *; omega) (fun q13 => ?_) (fun q13 => ?_)
      · omega
      · refine V_ex sX9_readNumber_16 (by rfl) (by first | exact trivial | exact Or.inr rfl | exact Or.inl rfl | (simp only [ob, obA, R32, R64] at *; omega) | (simp only [ob, obA, R32, R64] at *; and_intros <;> omega)) ?_
        refine V_callV (M := MX9_readNumber) (N := MX9_byteAt) dX9_readNumber_19 lRX9_82 kX9_byteAt rfl (rfl) rfl (c_tByteAt (d := 1) hκ hn hn5 (by unfold R32; omega)) rfl rfl (Nat.le_of_ble_eq_true rfl) (fit_rm (by omega)) (⟨Nat.le_of_ble_eq_true rfl, Nat.le_of_ble_eq_true rfl⟩) (fun v Ω' hp => ?_) (fun _ _ h => h.elim)
        obtain ⟨rfl, rfl⟩ := hp
        rw [bAt_nat (by omega)]
        refine V_callS (M := MX9_readNumber) (N := MX9_isDigit) dX9_readNumber_22 lRX9_96 kX9_isDigit rfl (c_tIsDigit (d := 1) hκ (by unfold R32; omega)) rfl rfl (Nat.le_of_ble_eq_true rfl) (fit_rm (by omega)) (⟨Nat.le_of_ble_eq_true rfl, Nat.le_of_ble_eq_true rfl⟩) (fun v Ω' hp => ?_) (fun _ _ h => h.elim)
        obtain ⟨rfl, rfl⟩ := hp
        refine V_ifeqB dX9_readNumber_25 (tgt := 68) (by decide) (fun q25 => ?_) (fun q25 => ?_)
        · exact stop q25
        · refine V_ex sX9_readNumber_28 (by rfl) (by first | exact trivial | exact Or.inr rfl | exact Or.inl rfl | (simp only [ob, obA, R32, R64] at *; omega) | (simp only [ob, obA, R32, R64] at *; and_intros <;> omega)) ?_
          refine V_icmplt dX9_readNumber_33 (tgt := 42) (by decide) (by simp only [R32, R64] at *; omega) (fun q33 => ?_) (fun q33 => ?_)
          · refine V_ex sX9_readNumber_42 (by rfl) (by first | exact trivial | exact Or.inr rfl | exact Or.inl rfl | (simp only [ob, obA, R32, R64] at *; omega) | (simp only [ob, obA, R32, R64] at *; and_intros <;> omega)) ?_
            refine V_callV (M := MX9_readNumber) (N := MX9_byteAt) dX9_readNumber_49 lRX9_82 kX9_byteAt rfl (rfl) rfl (c_tByteAt (d := 1) hκ hn hn5 (by unfold R32; omega)) rfl rfl (Nat.le_of_ble_eq_true rfl) (fit_rm (by omega)) (⟨Nat.le_of_ble_eq_true rfl, Nat.le_of_ble_eq_true rfl⟩) (fun v Ω' hp => ?_) (fun _ _ h => h.elim)
            obtain ⟨rfl, rfl⟩ := hp
            rw [bAt_nat (by omega)]
            refine V_ex sX9_readNumber_52 (by rfl) (by first | exact trivial | exact Or.inr rfl | exact Or.inl rfl | (simp only [ob, obA, R32, R64] at *; omega) | (simp only [ob, obA, R32, R64] at *; and_intros <;> omega)) ?_
            exact next _ q25 (by rw [valC, if_neg (by omega)])
          · refine V_ex sX9_readNumber_36 (by rfl) (by first | exact trivial | exact Or.inr rfl | exact Or.inl rfl | (simp only [ob, obA, R32, R64] at *; omega) | (simp only [ob, obA, R32, R64] at *; and_intros <;> omega)) ?_
            refine V_goto dX9_readNumber_39 (tgt := 56) (by decide) ?_
            exact next _ q25 (by rw [valC, if_pos (by omega)])
  refine V_ex sX9_readNumber_0 (by rfl) (by first | exact trivial | exact Or.inr rfl | exact Or.inl rfl | (simp only [ob, obA, R32, R64] at *; omega) | (simp only [ob, obA, R32, R64] at *; and_intros <;> omega)) ?_
  exact L (n - p) 0 (by omega) rfl (fun t ht => by omega)
set_option maxRecDepth 100000 in
set_option maxHeartbeats 4000000 in
theorem c_tAdvance {κ : Kx} (hκ : KOK κ) {d : Nat} {G : Wd} : Ct κ MX9_advance d 0 0 [VR 4] (Wm G) (voidG (uI G 4 6 (G.1 4 6 + 1))) noX := by
  refine Ct_of hκ kX9_advance.1 rfl (Nat.le_of_ble_eq_true rfl) (ls := [some (VR 4)]) rfl (fun μ => ?_)
  refine V_ex sX9_advance_0 (by simp only [Option.toList, List.cons_append, List.nil_append, exN, ex1, gI, gL, gR, pI, pL, pR, lget, lset1, lset2, kl, b2I, b2L, nob, ob32, ob64, xGet, xPut, xLen, xLd, xLdR, xSt, obA, true_and, and_true, and_self, eq_self, Nat.reduceEqDiff, Nat.zero_ne_one, reduceIte, Nat.reduceLeDiff, and_false, false_and, show skd 8 6 = 0 from rfl, show LF.1 4 = some (.inl 8) from rfl, upd2_eq, Int.reduceToNat, Int.toNat_natCast]; rfl) (by first | exact trivial | exact Or.inr rfl | exact Or.inl rfl | (simp only [ob, obA, R32, R64] at *; omega) | (simp only [ob, obA, R32, R64] at *; and_intros <;> omega)) ?_
  refine V_vret dX9_advance_10 rfl (by decide) ⟨rfl, rfl⟩
set_option maxRecDepth 100000 in
set_option maxHeartbeats 4000000 in
theorem c_tWhat {κ : Kx} (hκ : KOK κ) {d i : Nat} {G : Wd} (hi : G.1 4 6 = (i : Nat)) (h5 : i < 501) : Ct κ MX9_what d 0 0 [VR 4] (Wm G) (keepG G (VI (G.1 5 i))) noX := by
  refine Ct_of hκ kX9_what.1 rfl (Nat.le_of_ble_eq_true rfl) (ls := [some (VR 4)]) rfl (fun μ => ?_)
  refine V_ex sX9_what_0 (by simp only [Option.toList, List.cons_append, List.nil_append, exN, ex1, gI, gL, gR, pI, pL, pR, lget, lset1, lset2, kl, b2I, b2L, nob, ob32, ob64, xGet, xPut, xLen, xLd, xLdR, xSt, obA, true_and, and_true, and_self, eq_self, Nat.reduceEqDiff, Nat.zero_ne_one, reduceIte, Nat.reduceLeDiff, and_false, false_and, show skd 8 6 = 0 from rfl, show LF.1 4 = some (.inl 8) from rfl, hi, upd2_eq, Int.reduceToNat, Int.toNat_natCast]; rfl) (by first | exact trivial | exact Or.inr rfl | exact Or.inl rfl | (simp only [ob, obA, R32, R64] at *; omega) | (simp only [ob, obA, R32, R64] at *; and_intros <;> omega)) ?_
  refine V_iflt dX9_what_4 (tgt := 31) (by decide) (by simp only [R32, R64] at *; omega) (fun q4 => ?_) (fun q4 => ?_)
  · omega
  · refine V_ex sX9_what_7 (by simp only [Option.toList, List.cons_append, List.nil_append, exN, ex1, gI, gL, gR, pI, pL, pR, lget, lset1, lset2, kl, b2I, b2L, nob, ob32, ob64, xGet, xPut, xLen, xLd, xLdR, xSt, obA, true_and, and_true, and_self, eq_self, Nat.reduceEqDiff, Nat.zero_ne_one, reduceIte, Nat.reduceLeDiff, and_false, false_and, show skd 8 6 = 0 from rfl, show skd 8 2 = 2 from rfl, show LF.1 4 = some (.inl 8) from rfl, show LF.2 4 2 = some 5 from rfl, show LF.1 5 = some (.inr (0, 501)) from rfl, hi, upd2_eq, Int.reduceToNat, Int.toNat_natCast]; rfl) (by first | exact trivial | exact Or.inr rfl | exact Or.inl rfl | (simp only [ob, obA, R32, R64] at *; omega) | (simp only [ob, obA, R32, R64] at *; and_intros <;> omega)) ?_
    refine V_icmpge dX9_what_16 (tgt := 31) (by decide) (by simp only [R32, R64] at *; omega) (fun q16 => ?_) (fun q16 => ?_)
    · omega
    · refine V_ex sX9_what_19 (by simp only [Option.toList, List.cons_append, List.nil_append, exN, ex1, gI, gL, gR, pI, pL, pR, lget, lset1, lset2, kl, b2I, b2L, nob, ob32, ob64, xGet, xPut, xLen, xLd, xLdR, xSt, obA, true_and, and_true, and_self, eq_self, Nat.reduceEqDiff, Nat.zero_ne_one, reduceIte, Nat.reduceLeDiff, and_false, false_and, show skd 8 2 = 2 from rfl, show skd 8 6 = 0 from rfl, show LF.1 4 = some (.inl 8) from rfl, show LF.2 4 2 = some 5 from rfl, show LF.1 5 = some (.inr (0, 501)) from rfl, hi, upd2_eq, Int.reduceToNat, Int.toNat_natCast]; rfl) (by first | exact trivial | exact Or.inr rfl | exact Or.inl rfl | (simp only [ob, obA, R32, R64] at *; omega) | (simp only [ob, obA, R32, R64] at *; and_intros <;> omega)) ?_
      refine V_goto dX9_what_28 (tgt := 32) (by decide) ?_
      refine V_iret dX9_what_32 rfl (by decide) ⟨rfl, rfl⟩
set_option maxRecDepth 100000 in
set_option maxHeartbeats 4000000 in
theorem c_tIs {κ : Kx} (hκ : KOK κ) {d i : Nat} {c : Int} {G : Wd} (hi : G.1 4 6 = (i : Nat)) (h5 : i < 501) (hw : R32 (G.1 5 i)) (hc : R32 c) : Ct κ MX9_is d 0 0 [VR 4, VI c] (Wm G) (keepG G (VI (b2i (decide (G.1 5 i = c))))) noX := by
  refine Ct_of hκ kX9_is.1 rfl (Nat.le_of_ble_eq_true rfl) (ls := [some (VR 4), some (VI c)]) rfl (fun μ => ?_)
  refine V_ex sX9_is_0 (by simp only [Option.toList, List.cons_append, List.nil_append, exN, ex1, gI, gL, gR, pI, pL, pR, lget, lset1, lset2, kl, b2I, b2L, nob, ob32, ob64, xGet, xPut, xLen, xLd, xLdR, xSt, obA, true_and, and_true, and_self, eq_self, Nat.reduceEqDiff, Nat.zero_ne_one, reduceIte, Nat.reduceLeDiff, and_false, false_and, show skd 8 6 = 0 from rfl, show LF.1 4 = some (.inl 8) from rfl, hi, upd2_eq, Int.reduceToNat, Int.toNat_natCast]; rfl) (by first | exact trivial | exact Or.inr rfl | exact Or.inl rfl | (simp only [ob, obA, R32, R64] at *; omega) | (simp only [ob, obA, R32, R64] at *; and_intros <;> omega)) ?_
  refine V_iflt dX9_is_4 (tgt := 36) (by decide) (by simp only [R32, R64] at *; omega) (fun q4 => ?_) (fun q4 => ?_)
  · omega
  · refine V_ex sX9_is_7 (by simp only [Option.toList, List.cons_append, List.nil_append, exN, ex1, gI, gL, gR, pI, pL, pR, lget, lset1, lset2, kl, b2I, b2L, nob, ob32, ob64, xGet, xPut, xLen, xLd, xLdR, xSt, obA, true_and, and_true, and_self, eq_self, Nat.reduceEqDiff, Nat.zero_ne_one, reduceIte, Nat.reduceLeDiff, and_false, false_and, show skd 8 6 = 0 from rfl, show skd 8 2 = 2 from rfl, show LF.1 4 = some (.inl 8) from rfl, show LF.2 4 2 = some 5 from rfl, show LF.1 5 = some (.inr (0, 501)) from rfl, hi, upd2_eq, Int.reduceToNat, Int.toNat_natCast]; rfl) (by first | exact trivial | exact Or.inr rfl | exact Or.inl rfl | (simp only [ob, obA, R32, R64] at *; omega) | (simp only [ob, obA, R32, R64] at *; and_intros <;> omega)) ?_
    refine V_icmpge dX9_is_16 (tgt := 36) (by decide) (by simp only [R32, R64] at *; omega) (fun q16 => ?_) (fun q16 => ?_)
    · omega
    · refine V_ex sX9_is_19 (by simp only [Option.toList, List.cons_append, List.nil_append, exN, ex1, gI, gL, gR, pI, pL, pR, lget, lset1, lset2, kl, b2I, b2L, nob, ob32, ob64, xGet, xPut, xLen, xLd, xLdR, xSt, obA, true_and, and_true, and_self, eq_self, Nat.reduceEqDiff, Nat.zero_ne_one, reduceIte, Nat.reduceLeDiff, and_false, false_and, show skd 8 2 = 2 from rfl, show skd 8 6 = 0 from rfl, show LF.1 4 = some (.inl 8) from rfl, show LF.2 4 2 = some 5 from rfl, show LF.1 5 = some (.inr (0, 501)) from rfl, hi, upd2_eq, Int.reduceToNat, Int.toNat_natCast]; rfl) (by first | exact trivial | exact Or.inr rfl | exact Or.inl rfl | (simp only [ob, obA, R32, R64] at *; omega) | (simp only [ob, obA, R32, R64] at *; and_intros <;> omega)) ?_
      refine V_icmpne dX9_is_29 (tgt := 36) (by decide) (by simp only [R32, R64] at *; omega) (fun q29 => ?_) (fun q29 => ?_)
      · refine V_ex sX9_is_36 (by rfl) (by first | exact trivial | exact Or.inr rfl | exact Or.inl rfl | (simp only [ob, obA, R32, R64] at *; omega) | (simp only [ob, obA, R32, R64] at *; and_intros <;> omega)) ?_
        refine V_zret dX9_is_37 rfl (by first | exact Or.inl rfl | exact Or.inr rfl | exact b2i_01 _) (by decide) ⟨by first | exact bz0 (by omega) | exact bz1 (by omega), rfl⟩
      · refine V_ex sX9_is_32 (by rfl) (by first | exact trivial | exact Or.inr rfl | exact Or.inl rfl | (simp only [ob, obA, R32, R64] at *; omega) | (simp only [ob, obA, R32, R64] at *; and_intros <;> omega)) ?_
        refine V_goto dX9_is_33 (tgt := 37) (by decide) ?_
        refine V_zret dX9_is_37 rfl (by first | exact Or.inl rfl | exact Or.inr rfl | exact b2i_01 _) (by decide) ⟨by first | exact bz0 (by omega) | exact bz1 (by omega), rfl⟩
set_option maxRecDepth 100000 in
set_option maxHeartbeats 4000000 in
theorem c_tPlace {κ : Kx} (hκ : KOK κ) {d i : Nat} {G : Wd} (hi : G.1 4 6 = (i : Nat)) (h5 : i < 501) (hd : 1 ≤ d) : Ct κ MX9_place d 0 0 [VR 4] (Wm G) (keepG G (VI (G.1 6 i))) noX := by
  refine Ct_of hκ kX9_place.1 rfl (Nat.le_of_ble_eq_true rfl) (ls := [some (VR 4)]) rfl (fun μ => ?_)
  refine V_ex sX9_place_0 (by simp only [Option.toList, List.cons_append, List.nil_append, exN, ex1, gI, gL, gR, pI, pL, pR, lget, lset1, lset2, kl, b2I, b2L, nob, ob32, ob64, xGet, xPut, xLen, xLd, xLdR, xSt, obA, true_and, and_true, and_self, eq_self, Nat.reduceEqDiff, Nat.zero_ne_one, reduceIte, Nat.reduceLeDiff, and_false, false_and, show skd 8 3 = 2 from rfl, show skd 8 6 = 0 from rfl, show LF.1 4 = some (.inl 8) from rfl, show LF.2 4 3 = some 6 from rfl, hi, upd2_eq, Int.reduceToNat, Int.toNat_natCast]; rfl) (by first | exact trivial | exact Or.inr rfl | exact Or.inl rfl | (simp only [ob, obA, R32, R64] at *; omega) | (simp only [ob, obA, R32, R64] at *; and_intros <;> omega)) ?_
  refine V_callSN (M := MX9_place) (N := MX11_at) dX9_place_8 lRX9_119 kX11_at rfl (c_at (d := 0) hκ (a := 6) (n := 501) rfl (by decide) (by unfold R32; omega)) rfl rfl (Nat.le_of_ble_eq_true rfl) (fit_rm (by omega)) (⟨Nat.le_of_ble_eq_true rfl, Nat.le_of_ble_eq_true rfl⟩) (fun v Ω' hp => ?_) (fun _ _ h => h.elim)
  obtain ⟨rfl, rfl⟩ := hp
  rw [rAt_nat i rfl (by omega)]
  refine V_iret dX9_place_11 rfl (by decide) ⟨rfl, rfl⟩
set_option maxRecDepth 100000 in
set_option maxHeartbeats 4000000 in
theorem c_tNumberTold {κ : Kx} (hκ : KOK κ) {d i : Nat} {G : Wd} (hi : G.1 4 6 = (i : Nat)) (h5 : i < 501) : Ct κ MX9_numberTold d 0 0 [VR 4] (Wm G) (keepG G (VI (G.1 7 i))) noX := by
  refine Ct_of hκ kX9_numberTold.1 rfl (Nat.le_of_ble_eq_true rfl) (ls := [some (VR 4)]) rfl (fun μ => ?_)
  refine V_ex sX9_numberTold_0 (by simp only [Option.toList, List.cons_append, List.nil_append, exN, ex1, gI, gL, gR, pI, pL, pR, lget, lset1, lset2, kl, b2I, b2L, nob, ob32, ob64, xGet, xPut, xLen, xLd, xLdR, xSt, obA, true_and, and_true, and_self, eq_self, Nat.reduceEqDiff, Nat.zero_ne_one, reduceIte, Nat.reduceLeDiff, and_false, false_and, show skd 8 6 = 0 from rfl, show LF.1 4 = some (.inl 8) from rfl, hi, upd2_eq, Int.reduceToNat, Int.toNat_natCast]; rfl) (by first | exact trivial | exact Or.inr rfl | exact Or.inl rfl | (simp only [ob, obA, R32, R64] at *; omega) | (simp only [ob, obA, R32, R64] at *; and_intros <;> omega)) ?_
  refine V_iflt dX9_numberTold_4 (tgt := 31) (by decide) (by simp only [R32, R64] at *; omega) (fun q4 => ?_) (fun q4 => ?_)
  · omega
  · refine V_ex sX9_numberTold_7 (by simp only [Option.toList, List.cons_append, List.nil_append, exN, ex1, gI, gL, gR, pI, pL, pR, lget, lset1, lset2, kl, b2I, b2L, nob, ob32, ob64, xGet, xPut, xLen, xLd, xLdR, xSt, obA, true_and, and_true, and_self, eq_self, Nat.reduceEqDiff, Nat.zero_ne_one, reduceIte, Nat.reduceLeDiff, and_false, false_and, show skd 8 6 = 0 from rfl, show skd 8 4 = 2 from rfl, show LF.1 4 = some (.inl 8) from rfl, show LF.2 4 4 = some 7 from rfl, show LF.1 7 = some (.inr (0, 501)) from rfl, hi, upd2_eq, Int.reduceToNat, Int.toNat_natCast]; rfl) (by first | exact trivial | exact Or.inr rfl | exact Or.inl rfl | (simp only [ob, obA, R32, R64] at *; omega) | (simp only [ob, obA, R32, R64] at *; and_intros <;> omega)) ?_
    refine V_icmpge dX9_numberTold_16 (tgt := 31) (by decide) (by simp only [R32, R64] at *; omega) (fun q16 => ?_) (fun q16 => ?_)
    · omega
    · refine V_ex sX9_numberTold_19 (by simp only [Option.toList, List.cons_append, List.nil_append, exN, ex1, gI, gL, gR, pI, pL, pR, lget, lset1, lset2, kl, b2I, b2L, nob, ob32, ob64, xGet, xPut, xLen, xLd, xLdR, xSt, obA, true_and, and_true, and_self, eq_self, Nat.reduceEqDiff, Nat.zero_ne_one, reduceIte, Nat.reduceLeDiff, and_false, false_and, show skd 8 4 = 2 from rfl, show skd 8 6 = 0 from rfl, show LF.1 4 = some (.inl 8) from rfl, show LF.2 4 4 = some 7 from rfl, show LF.1 7 = some (.inr (0, 501)) from rfl, hi, upd2_eq, Int.reduceToNat, Int.toNat_natCast]; rfl) (by first | exact trivial | exact Or.inr rfl | exact Or.inl rfl | (simp only [ob, obA, R32, R64] at *; omega) | (simp only [ob, obA, R32, R64] at *; and_intros <;> omega)) ?_
      refine V_goto dX9_numberTold_28 (tgt := 32) (by decide) ?_
      refine V_iret dX9_numberTold_32 rfl (by decide) ⟨rfl, rfl⟩
