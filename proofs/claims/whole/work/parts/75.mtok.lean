/-! THE MODEL's reader: its tokens -/
def isMk (c : Int) : Bool := decide (c = 59 ∨ c = 40 ∨ c = 41 ∨ c = 43 ∨ c = 45 ∨ c = 42 ∨ c = 47 ∨ c = 60 ∨ c = 61)
def mTx (G : Wd) (n : Nat) : Prop := G.1 145 20 = (n : Nat) ∧ n ≤ 500 ∧ ∀ j, j < 500 → 0 ≤ G.1 162 j ∧ G.1 162 j ≤ 255
set_option maxRecDepth 100000 in
set_option maxHeartbeats 4000000 in
theorem c_mByteAt {κ : Kx} (hκ : KOK κ) {d n i : Nat} {G : Wd} (hn : G.1 145 20 = (n : Nat)) (hn5 : n ≤ 500) (hi : i ≤ 500) : Ct κ MX12_byteAt d 0 0 [VR 145, VI (i : Nat)] (Wm G) (keepG G (VI (bAt (G.1 162) n i))) noX := by
  refine Ct_of hκ kX12_byteAt.1 rfl (Nat.le_of_ble_eq_true rfl) (ls := [some (VR 145), some (VI (i : Nat))]) rfl (fun μ => ?_)
  refine V_ex sX12_byteAt_0 (by simp only [Option.toList, List.cons_append, List.nil_append, exN, ex1, gI, gL, gR, pI, pL, pR, lget, lset1, lset2, kl, b2I, b2L, nob, ob32, ob64, xGet, xPut, xLen, xLd, xLdR, xSt, obA, true_and, and_true, and_self, eq_self, Nat.reduceEqDiff, Nat.zero_ne_one, reduceIte, Nat.reduceLeDiff, and_false, false_and, show skd 11 20 = 0 from rfl, show LF.1 145 = some (.inl 11) from rfl, hn, upd2_eq, Int.reduceToNat, Int.toNat_natCast]; rfl) (by first | exact trivial | exact Or.inr rfl | exact Or.inl rfl | (simp only [ob, obA, R32, R64] at *; omega) | (simp only [ob, obA, R32, R64] at *; and_intros <;> omega)) ?_
  refine V_icmpge dX12_byteAt_5 (tgt := 17) (by decide) (by simp only [R32, R64] at *; omega) (fun q5 => ?_) (fun q5 => ?_)
  · refine V_ex sX12_byteAt_17 (by rfl) (by first | exact trivial | exact Or.inr rfl | exact Or.inl rfl | (simp only [ob, obA, R32, R64] at *; omega) | (simp only [ob, obA, R32, R64] at *; and_intros <;> omega)) ?_
    refine V_iret dX12_byteAt_18 rfl (by decide) ⟨by rw [bAt, if_neg (by omega)], rfl⟩
  · refine V_ex sX12_byteAt_8 (by simp only [Option.toList, List.cons_append, List.nil_append, exN, ex1, gI, gL, gR, pI, pL, pR, lget, lset1, lset2, kl, b2I, b2L, nob, ob32, ob64, xGet, xPut, xLen, xLd, xLdR, xSt, obA, true_and, and_true, and_self, eq_self, Nat.reduceEqDiff, Nat.zero_ne_one, reduceIte, Nat.reduceLeDiff, and_false, false_and, show skd 11 17 = 2 from rfl, show LF.1 145 = some (.inl 11) from rfl, show LF.2 145 17 = some 162 from rfl, show LF.1 162 = some (.inr (0, 500)) from rfl, upd2_eq, Int.reduceToNat, Int.toNat_natCast]; rfl) (by first | exact trivial | exact Or.inr rfl | exact Or.inl rfl | (simp only [ob, obA, R32, R64] at *; omega) | (simp only [ob, obA, R32, R64] at *; and_intros <;> omega)) ?_
    refine V_goto dX12_byteAt_14 (tgt := 18) (by decide) ?_
    refine V_iret dX12_byteAt_18 rfl (by decide) ⟨by rw [bAt, if_pos (by omega), Int.toNat_natCast], rfl⟩
set_option maxRecDepth 100000 in
set_option maxHeartbeats 4000000 in
theorem c_mIsLetter {κ : Kx} (hκ : KOK κ) {d : Nat} {c : Int} {G : Wd} (hc : R32 c) : Ct κ MX12_isLetter d 0 0 [VI c] (Wm G) (keepG G (VI (b2i (isLb c)))) noX := by
  refine Ct_of hκ kX12_isLetter.1 rfl (Nat.le_of_ble_eq_true rfl) (ls := [some (VI c)]) rfl (fun μ => ?_)
  refine V_ex sX12_isLetter_0 (by rfl) (by first | exact trivial | exact Or.inr rfl | exact Or.inl rfl | (simp only [ob, obA, R32, R64] at *; omega) | (simp only [ob, obA, R32, R64] at *; and_intros <;> omega)) ?_
  refine V_icmplt dX12_isLetter_3 (tgt := 16) (by decide) (by simp only [R32, R64] at *; omega) (fun q3 => ?_) (fun q3 => ?_)
  · refine V_ex sX12_isLetter_16 (by rfl) (by first | exact trivial | exact Or.inr rfl | exact Or.inl rfl | (simp only [ob, obA, R32, R64] at *; omega) | (simp only [ob, obA, R32, R64] at *; and_intros <;> omega)) ?_
    refine V_zret dX12_isLetter_17 rfl (by first | exact Or.inl rfl | exact Or.inr rfl | exact b2i_01 _) (by decide) ⟨by unfold isLb; first | exact bz0 (by omega) | exact bz1 (by omega), rfl⟩
  · refine V_ex sX12_isLetter_6 (by rfl) (by first | exact trivial | exact Or.inr rfl | exact Or.inl rfl | (simp only [ob, obA, R32, R64] at *; omega) | (simp only [ob, obA, R32, R64] at *; and_intros <;> omega)) ?_
    refine V_icmpgt dX12_isLetter_9 (tgt := 16) (by decide) (by simp only [R32, R64] at *; omega) (fun q9 => ?_) (fun q9 => ?_)
    · refine V_ex sX12_isLetter_16 (by rfl) (by first | exact trivial | exact Or.inr rfl | exact Or.inl rfl | (simp only [ob, obA, R32, R64] at *; omega) | (simp only [ob, obA, R32, R64] at *; and_intros <;> omega)) ?_
      refine V_zret dX12_isLetter_17 rfl (by first | exact Or.inl rfl | exact Or.inr rfl | exact b2i_01 _) (by decide) ⟨by unfold isLb; first | exact bz0 (by omega) | exact bz1 (by omega), rfl⟩
    · refine V_ex sX12_isLetter_12 (by rfl) (by first | exact trivial | exact Or.inr rfl | exact Or.inl rfl | (simp only [ob, obA, R32, R64] at *; omega) | (simp only [ob, obA, R32, R64] at *; and_intros <;> omega)) ?_
      refine V_goto dX12_isLetter_13 (tgt := 17) (by decide) ?_
      refine V_zret dX12_isLetter_17 rfl (by first | exact Or.inl rfl | exact Or.inr rfl | exact b2i_01 _) (by decide) ⟨by unfold isLb; first | exact bz0 (by omega) | exact bz1 (by omega), rfl⟩
set_option maxRecDepth 100000 in
set_option maxHeartbeats 4000000 in
theorem c_mIsDigit {κ : Kx} (hκ : KOK κ) {d : Nat} {c : Int} {G : Wd} (hc : R32 c) : Ct κ MX12_isDigit d 0 0 [VI c] (Wm G) (keepG G (VI (b2i (isDb c)))) noX := by
  refine Ct_of hκ kX12_isDigit.1 rfl (Nat.le_of_ble_eq_true rfl) (ls := [some (VI c)]) rfl (fun μ => ?_)
  refine V_ex sX12_isDigit_0 (by rfl) (by first | exact trivial | exact Or.inr rfl | exact Or.inl rfl | (simp only [ob, obA, R32, R64] at *; omega) | (simp only [ob, obA, R32, R64] at *; and_intros <;> omega)) ?_
  refine V_icmplt dX12_isDigit_3 (tgt := 16) (by decide) (by simp only [R32, R64] at *; omega) (fun q3 => ?_) (fun q3 => ?_)
  · refine V_ex sX12_isDigit_16 (by rfl) (by first | exact trivial | exact Or.inr rfl | exact Or.inl rfl | (simp only [ob, obA, R32, R64] at *; omega) | (simp only [ob, obA, R32, R64] at *; and_intros <;> omega)) ?_
    refine V_zret dX12_isDigit_17 rfl (by first | exact Or.inl rfl | exact Or.inr rfl | exact b2i_01 _) (by decide) ⟨by unfold isDb; first | exact bz0 (by omega) | exact bz1 (by omega), rfl⟩
  · refine V_ex sX12_isDigit_6 (by rfl) (by first | exact trivial | exact Or.inr rfl | exact Or.inl rfl | (simp only [ob, obA, R32, R64] at *; omega) | (simp only [ob, obA, R32, R64] at *; and_intros <;> omega)) ?_
    refine V_icmpgt dX12_isDigit_9 (tgt := 16) (by decide) (by simp only [R32, R64] at *; omega) (fun q9 => ?_) (fun q9 => ?_)
    · refine V_ex sX12_isDigit_16 (by rfl) (by first | exact trivial | exact Or.inr rfl | exact Or.inl rfl | (simp only [ob, obA, R32, R64] at *; omega) | (simp only [ob, obA, R32, R64] at *; and_intros <;> omega)) ?_
      refine V_zret dX12_isDigit_17 rfl (by first | exact Or.inl rfl | exact Or.inr rfl | exact b2i_01 _) (by decide) ⟨by unfold isDb; first | exact bz0 (by omega) | exact bz1 (by omega), rfl⟩
    · refine V_ex sX12_isDigit_12 (by rfl) (by first | exact trivial | exact Or.inr rfl | exact Or.inl rfl | (simp only [ob, obA, R32, R64] at *; omega) | (simp only [ob, obA, R32, R64] at *; and_intros <;> omega)) ?_
      refine V_goto dX12_isDigit_13 (tgt := 17) (by decide) ?_
      refine V_zret dX12_isDigit_17 rfl (by first | exact Or.inl rfl | exact Or.inr rfl | exact b2i_01 _) (by decide) ⟨by unfold isDb; first | exact bz0 (by omega) | exact bz1 (by omega), rfl⟩
set_option maxRecDepth 100000 in
set_option maxHeartbeats 4000000 in
theorem c_mIsMark {κ : Kx} (hκ : KOK κ) {d : Nat} {c : Int} {G : Wd} (hc : R32 c) : Ct κ MX12_isMark d 0 0 [VI c] (Wm G) (keepG G (VI (b2i (isMk c)))) noX := by
  refine Ct_of hκ kX12_isMark.1 rfl (Nat.le_of_ble_eq_true rfl) (ls := [some (VI c)]) rfl (fun μ => ?_)
  refine V_ex sX12_isMark_0 (by rfl) (by first | exact trivial | exact Or.inr rfl | exact Or.inl rfl | (simp only [ob, obA, R32, R64] at *; omega) | (simp only [ob, obA, R32, R64] at *; and_intros <;> omega)) ?_
  refine V_icmpeq dX12_isMark_3 (tgt := 54) (by decide) (by simp only [R32, R64] at *; omega) (fun q3 => ?_) (fun q3 => ?_)
  · refine V_ex sX12_isMark_54 (by rfl) (by first | exact trivial | exact Or.inr rfl | exact Or.inl rfl | (simp only [ob, obA, R32, R64] at *; omega) | (simp only [ob, obA, R32, R64] at *; and_intros <;> omega)) ?_
    refine V_goto dX12_isMark_55 (tgt := 59) (by decide) ?_
    refine V_zret dX12_isMark_59 rfl (by first | exact Or.inl rfl | exact Or.inr rfl | exact b2i_01 _) (by decide) ⟨by unfold isMk; first | exact bz0 (by omega) | exact bz1 (by omega), rfl⟩
  · refine V_ex sX12_isMark_6 (by rfl) (by first | exact trivial | exact Or.inr rfl | exact Or.inl rfl | (simp only [ob, obA, R32, R64] at *; omega) | (simp only [ob, obA, R32, R64] at *; and_intros <;> omega)) ?_
    refine V_icmpeq dX12_isMark_9 (tgt := 54) (by decide) (by simp only [R32, R64] at *; omega) (fun q9 => ?_) (fun q9 => ?_)
    · refine V_ex sX12_isMark_54 (by rfl) (by first | exact trivial | exact Or.inr rfl | exact Or.inl rfl | (simp only [ob, obA, R32, R64] at *; omega) | (simp only [ob, obA, R32, R64] at *; and_intros <;> omega)) ?_
      refine V_goto dX12_isMark_55 (tgt := 59) (by decide) ?_
      refine V_zret dX12_isMark_59 rfl (by first | exact Or.inl rfl | exact Or.inr rfl | exact b2i_01 _) (by decide) ⟨by unfold isMk; first | exact bz0 (by omega) | exact bz1 (by omega), rfl⟩
    · refine V_ex sX12_isMark_12 (by rfl) (by first | exact trivial | exact Or.inr rfl | exact Or.inl rfl | (simp only [ob, obA, R32, R64] at *; omega) | (simp only [ob, obA, R32, R64] at *; and_intros <;> omega)) ?_
      refine V_icmpeq dX12_isMark_15 (tgt := 54) (by decide) (by simp only [R32, R64] at *; omega) (fun q15 => ?_) (fun q15 => ?_)
      · refine V_ex sX12_isMark_54 (by rfl) (by first | exact trivial | exact Or.inr rfl | exact Or.inl rfl | (simp only [ob, obA, R32, R64] at *; omega) | (simp only [ob, obA, R32, R64] at *; and_intros <;> omega)) ?_
        refine V_goto dX12_isMark_55 (tgt := 59) (by decide) ?_
        refine V_zret dX12_isMark_59 rfl (by first | exact Or.inl rfl | exact Or.inr rfl | exact b2i_01 _) (by decide) ⟨by unfold isMk; first | exact bz0 (by omega) | exact bz1 (by omega), rfl⟩
      · refine V_ex sX12_isMark_18 (by rfl) (by first | exact trivial | exact Or.inr rfl | exact Or.inl rfl | (simp only [ob, obA, R32, R64] at *; omega) | (simp only [ob, obA, R32, R64] at *; and_intros <;> omega)) ?_
        refine V_icmpeq dX12_isMark_21 (tgt := 54) (by decide) (by simp only [R32, R64] at *; omega) (fun q21 => ?_) (fun q21 => ?_)
        · refine V_ex sX12_isMark_54 (by rfl) (by first | exact trivial | exact Or.inr rfl | exact Or.inl rfl | (simp only [ob, obA, R32, R64] at *; omega) | (simp only [ob, obA, R32, R64] at *; and_intros <;> omega)) ?_
          refine V_goto dX12_isMark_55 (tgt := 59) (by decide) ?_
          refine V_zret dX12_isMark_59 rfl (by first | exact Or.inl rfl | exact Or.inr rfl | exact b2i_01 _) (by decide) ⟨by unfold isMk; first | exact bz0 (by omega) | exact bz1 (by omega), rfl⟩
        · refine V_ex sX12_isMark_24 (by rfl) (by first | exact trivial | exact Or.inr rfl | exact Or.inl rfl | (simp only [ob, obA, R32, R64] at *; omega) | (simp only [ob, obA, R32, R64] at *; and_intros <;> omega)) ?_
          refine V_icmpeq dX12_isMark_27 (tgt := 54) (by decide) (by simp only [R32, R64] at *; omega) (fun q27 => ?_) (fun q27 => ?_)
          · refine V_ex sX12_isMark_54 (by rfl) (by first | exact trivial | exact Or.inr rfl | exact Or.inl rfl | (simp only [ob, obA, R32, R64] at *; omega) | (simp only [ob, obA, R32, R64] at *; and_intros <;> omega)) ?_
            refine V_goto dX12_isMark_55 (tgt := 59) (by decide) ?_
            refine V_zret dX12_isMark_59 rfl (by first | exact Or.inl rfl | exact Or.inr rfl | exact b2i_01 _) (by decide) ⟨by unfold isMk; first | exact bz0 (by omega) | exact bz1 (by omega), rfl⟩
          · refine V_ex sX12_isMark_30 (by rfl) (by first | exact trivial | exact Or.inr rfl | exact Or.inl rfl | (simp only [ob, obA, R32, R64] at *; omega) | (simp only [ob, obA, R32, R64] at *; and_intros <;> omega)) ?_
            refine V_icmpeq dX12_isMark_33 (tgt := 54) (by decide) (by simp only [R32, R64] at *; omega) (fun q33 => ?_) (fun q33 => ?_)
            · refine V_ex sX12_isMark_54 (by rfl) (by first | exact trivial | exact Or.inr rfl | exact Or.inl rfl | (simp only [ob, obA, R32, R64] at *; omega) | (simp only [ob, obA, R32, R64] at *; and_intros <;> omega)) ?_
              refine V_goto dX12_isMark_55 (tgt := 59) (by decide) ?_
              refine V_zret dX12_isMark_59 rfl (by first | exact Or.inl rfl | exact Or.inr rfl | exact b2i_01 _) (by decide) ⟨by unfold isMk; first | exact bz0 (by omega) | exact bz1 (by omega), rfl⟩
            · refine V_ex sX12_isMark_36 (by rfl) (by first | exact trivial | exact Or.inr rfl | exact Or.inl rfl | (simp only [ob, obA, R32, R64] at *; omega) | (simp only [ob, obA, R32, R64] at *; and_intros <;> omega)) ?_
              refine V_icmpeq dX12_isMark_39 (tgt := 54) (by decide) (by simp only [R32, R64] at *; omega) (fun q39 => ?_) (fun q39 => ?_)
              · refine V_ex sX12_isMark_54 (by rfl) (by first | exact trivial | exact Or.inr rfl | exact Or.inl rfl | (simp only [ob, obA, R32, R64] at *; omega) | (simp only [ob, obA, R32, R64] at *; and_intros <;> omega)) ?_
                refine V_goto dX12_isMark_55 (tgt := 59) (by decide) ?_
                refine V_zret dX12_isMark_59 rfl (by first | exact Or.inl rfl | exact Or.inr rfl | exact b2i_01 _) (by decide) ⟨by unfold isMk; first | exact bz0 (by omega) | exact bz1 (by omega), rfl⟩
              · refine V_ex sX12_isMark_42 (by rfl) (by first | exact trivial | exact Or.inr rfl | exact Or.inl rfl | (simp only [ob, obA, R32, R64] at *; omega) | (simp only [ob, obA, R32, R64] at *; and_intros <;> omega)) ?_
                refine V_icmpeq dX12_isMark_45 (tgt := 54) (by decide) (by simp only [R32, R64] at *; omega) (fun q45 => ?_) (fun q45 => ?_)
                · refine V_ex sX12_isMark_54 (by rfl) (by first | exact trivial | exact Or.inr rfl | exact Or.inl rfl | (simp only [ob, obA, R32, R64] at *; omega) | (simp only [ob, obA, R32, R64] at *; and_intros <;> omega)) ?_
                  refine V_goto dX12_isMark_55 (tgt := 59) (by decide) ?_
                  refine V_zret dX12_isMark_59 rfl (by first | exact Or.inl rfl | exact Or.inr rfl | exact b2i_01 _) (by decide) ⟨by unfold isMk; first | exact bz0 (by omega) | exact bz1 (by omega), rfl⟩
                · refine V_ex sX12_isMark_48 (by rfl) (by first | exact trivial | exact Or.inr rfl | exact Or.inl rfl | (simp only [ob, obA, R32, R64] at *; omega) | (simp only [ob, obA, R32, R64] at *; and_intros <;> omega)) ?_
                  refine V_icmpne dX12_isMark_51 (tgt := 58) (by decide) (by simp only [R32, R64] at *; omega) (fun q51 => ?_) (fun q51 => ?_)
                  · refine V_ex sX12_isMark_58 (by rfl) (by first | exact trivial | exact Or.inr rfl | exact Or.inl rfl | (simp only [ob, obA, R32, R64] at *; omega) | (simp only [ob, obA, R32, R64] at *; and_intros <;> omega)) ?_
                    refine V_zret dX12_isMark_59 rfl (by first | exact Or.inl rfl | exact Or.inr rfl | exact b2i_01 _) (by decide) ⟨by unfold isMk; first | exact bz0 (by omega) | exact bz1 (by omega), rfl⟩
                  · refine V_ex sX12_isMark_54 (by rfl) (by first | exact trivial | exact Or.inr rfl | exact Or.inl rfl | (simp only [ob, obA, R32, R64] at *; omega) | (simp only [ob, obA, R32, R64] at *; and_intros <;> omega)) ?_
                    refine V_goto dX12_isMark_55 (tgt := 59) (by decide) ?_
                    refine V_zret dX12_isMark_59 rfl (by first | exact Or.inl rfl | exact Or.inr rfl | exact b2i_01 _) (by decide) ⟨by unfold isMk; first | exact bz0 (by omega) | exact bz1 (by omega), rfl⟩
/-- what kind of token -/
def kd (w : Int) : Int := if w = -1 then 0 else if w = -2 then 2 else if 256 ≤ w then 1 else if isMk w then 3 else 4
/-- the model's number of k figures -/
def wv (f : Nat → Int) (p : Nat) : Nat → Int
  | 0 => 0
  | k + 1 => if 10 * wv f p k + f (p + k) - 48 < 100000 then 10 * wv f p k + f (p + k) - 48 else 100000
theorem wv_R {f : Nat → Int} {p : Nat} : ∀ k, (∀ j, j < k → isDb (f (p + j)) = true) → 0 ≤ wv f p k ∧ wv f p k ≤ 100000 := by
  intro k
  induction k with
  | zero => intro h; simp [wv]
  | succ k ih =>
    intro h
    have h1 := ih (fun j hj => h j (by omega))
    have h2 := of_decide_eq_true (h k (by omega))
    rw [wv]
    split <;> omega
theorem wv_val {f : Nat → Int} {p : Nat} : ∀ k, k ≤ 4 → (∀ j, j < k → isDb (f (p + j)) = true) → wv f p k = valC f p k := by
  intro k
  induction k with
  | zero => intro _ _; rfl
  | succ k ih =>
    intro hk h
    have h1 := ih (by omega) (fun j hj => h j (by omega))
    have h2 := valC_R k (fun j hj => h j (by omega))
    have h3 := of_decide_eq_true (h k (by omega))
    rw [wv, valC, h1, if_neg (show ¬ 4 ≤ k by omega), if_pos (by omega)]
/-- the model stands at the token t -/
def mAt (G : Wd) (t : Tk) : Prop := G.1 145 24 = (t.2.2.1 : Nat) ∧ G.1 145 19 = (t.2.2.2 : Nat) ∧ G.1 145 25 = (t.2.2.2 : Nat) ∧ G.1 145 21 = kd t.1 ∧ (t.1 = -2 → t.2.2.2 ≤ t.2.2.1 + 4 → G.1 145 22 = t.2.1)
/-- the same but the token -/
def Fm (G G' : Wd) : Prop := G'.2 = G.2 ∧ ∀ x j, ¬ (x = 145 ∧ (j = 19 ∨ j = 21 ∨ j = 22 ∨ j = 24 ∨ j = 25)) → G'.1 x j = G.1 x j
theorem Fm.refl (G : Wd) : Fm G G := ⟨rfl, fun _ _ _ => rfl⟩
theorem Fm.trans {G G' G'' : Wd} (h : Fm G G') (h' : Fm G' G'') : Fm G G'' := ⟨h'.1.trans h.1, fun x j a => (h'.2 x j a).trans (h.2 x j a)⟩
theorem Fm.up {G G' : Wd} (h : Fm G G') {k : Nat} (z : Int) (hk : k = 19 ∨ k = 21 ∨ k = 22 ∨ k = 24 ∨ k = 25) : Fm G (uI G' 145 k z) := ⟨h.1, fun x j a => by simp only [upd2_eq]; rw [if_neg (by intro q; exact a ⟨q.1, by omega⟩)]; exact h.2 x j a⟩
theorem Fm.tx {G G' : Wd} (h : Fm G G') {n : Nat} (hx : mTx G n) : mTx G' n := ⟨by rw [h.2 _ _ (by omega)]; exact hx.1, hx.2.1, fun j hj => by rw [h.2 _ _ (by omega)]; exact hx.2.2 j hj⟩
theorem Fm.tape {G G' : Wd} (h : Fm G G') : G'.1 162 = G.1 162 := by funext j; exact h.2 162 j (by omega)
def soP (n p : Nat) (G : Wd) : Option Vl → Om → Prop := fun u Ω' => u = none ∧ ∃ G' t l, Ω' = Wm G' ∧ Fm G G' ∧ tk (G.1 162) n p = t :: l ∧ mAt G' t ∧ (t.1 ≠ -1 → l = tk (G.1 162) n t.2.2.2)
theorem iu {G : Wd} {a k : Nat} {z : Int} : (uI G a k z).1 a k = z := by simp only [upd2_eq]; rw [if_pos ⟨trivial, trivial⟩]
theorem iv {G : Wd} {a k b j : Nat} {z : Int} (h : ¬ (b = a ∧ j = k)) : (uI G a k z).1 b j = G.1 b j := by simp only [upd2_eq]; rw [if_neg h]
set_option maxRecDepth 100000 in
set_option maxHeartbeats 4000000 in
theorem c_mStepOn {κ : Kx} (hκ : KOK κ) {d n p : Nat} {G : Wd} (hx : mTx G n) (hp0 : G.1 145 19 = (p : Nat)) (hpn : p ≤ n) (hd : 1 ≤ d) : Ct κ MX12_stepOn d 0 0 [VR 145] (Wm G) (soP n p G) noX := by
  refine Ct_of hκ kX12_stepOn.1 rfl (Nat.le_of_ble_eq_true rfl) (ls := [some (VR 145), none]) rfl (fun μ => ?_)
  generalize hf : G.1 162 = f
  have hn5 := hx.2.1
  have hb : ∀ j, j < 500 → 0 ≤ f j ∧ f j ≤ 255 := by rw [← hf]; exact hx.2.2
  have hbR : ∀ j, j < 500 → R32 (f j) := fun j hj => by have := hb j hj; unfold R32; omega
  -- the end
  have fin : ∀ (c : Option Vl) (G2 : Wd) (t : Tk) (l : List Tk), Fm G G2 → tk f n p = t :: l → (t.1 ≠ -1 → l = tk f n t.2.2.2) → G2.1 145 24 = (t.2.2.1 : Nat) → G2.1 145 19 = (t.2.2.2 : Nat) → G2.1 145 21 = kd t.1 → (t.1 = -2 → t.2.2.2 ≤ t.2.2.1 + 4 → G2.1 145 22 = t.2.1) → V κ MX12_stepOn (rmD d 0 0) (soP n p G) noX 0 0 μ 0 0 (Wm G2) 212 [some (VR 145), c] [] := by
    intro c G2 t l f2 ht hl h24 h19 h21 h22
    refine V_ex sX12_stepOn_212 (by simp only [Option.toList, List.cons_append, List.nil_append, exN, ex1, gI, gL, gR, pI, pL, pR, lget, lset1, lset2, kl, b2I, b2L, nob, ob32, ob64, xGet, xPut, xLen, xLd, xLdR, xSt, obA, true_and, and_true, and_self, eq_self, Nat.reduceEqDiff, Nat.zero_ne_one, reduceIte, Nat.reduceLeDiff, and_false, false_and, show skd 11 19 = 0 from rfl, show skd 11 25 = 0 from rfl, show LF.1 145 = some (.inl 11) from rfl, h19, upd2_eq, Int.reduceToNat, Int.toNat_natCast]; rfl) (by first | exact trivial | exact Or.inr rfl | exact Or.inl rfl | (simp only [ob, obA, R32, R64] at *; omega) | (simp only [ob, obA, R32, R64] at *; and_intros <;> omega)) ?_
    refine V_vret dX12_stepOn_220 rfl (by decide) ⟨rfl, uI G2 145 25 (t.2.2.2 : Nat), t, l, rfl, f2.up _ (by omega), by rw [hf]; exact ht, ⟨by rw [iv (by omega)]; exact h24, by rw [iv (by omega)]; exact h19, iu, by rw [iv (by omega)]; exact h21, fun a b => by rw [iv (by omega)]; exact h22 a b⟩, by rw [hf]; exact hl⟩
  have body : ∀ (q : Nat) (G1 : Wd), Fm G G1 → G1.1 145 19 = (q : Nat) → q ≤ n → (q < n → isBl (f q) = false) → tk f n q = tk f n p → V κ MX12_stepOn (rmD d 0 0) (soP n p G) noX 0 0 μ 0 0 (Wm G1) 39 [some (VR 145), none] [] := by
    intro q G1 f1 hq hqn hbl he
    have hx1 := f1.tx hx
    have ht1 : G1.1 162 = f := f1.tape.trans hf
    have f2 := f1.up (q : Nat) (k := 24) (by omega)
    have h2n : (uI G1 145 24 (q : Nat)).1 145 20 = (n : Nat) := (f2.tx hx).1
    have h2t : (uI G1 145 24 (q : Nat)).1 162 = f := f2.tape.trans hf
    have h2q : upd2 G1.1 145 24 (q : Nat) 145 19 = (q : Nat) := (iv (G := G1) (z := (q : Nat)) (a := 145) (k := 24) (b := 145) (j := 19) (by omega)).trans hq
    rcases Nat.lt_or_ge q n with c | c
    · have hbq := hb q (by omega)
      rw [tk_tok c (hbl c)] at he
      have te := tokAt_end (f := f) c
      cases hL : isLb (f q) with
      | true =>
        -- a word
        have et : tokAt f n q = (wfind f q (runB isLb f (n - q) q) wordT 256, 0, q, runB isLb f (n - q) q) := by rw [tokAt, if_pos hL]
        rw [et] at he te
        have hwf := wfind_R f q (runB isLb f (n - q) q) wordT 256
        have L : ∀ (k y : Nat) (G3 : Wd), y + k = n → Fm G G3 → G3.1 145 19 = (y : Nat) → G3.1 145 24 = (q : Nat) → runB isLb f k y = runB isLb f (n - q) q → V κ MX12_stepOn (rmD d 0 0) (soP n p G) noX 0 0 μ 0 0 (Wm G3) 76 [some (VR 145), some (VI (f q))] [] := by
          intro k
          induction k with
          | zero =>
            intro y G3 hk f3 hy h24 hr
            rw [runB] at hr
            have hx3 := f3.tx hx
            have ht3 : G3.1 162 = f := f3.tape.trans hf
            refine V_ex sX12_stepOn_76 (by simp only [Option.toList, List.cons_append, List.nil_append, exN, ex1, gI, gL, gR, pI, pL, pR, lget, lset1, lset2, kl, b2I, b2L, nob, ob32, ob64, xGet, xPut, xLen, xLd, xLdR, xSt, obA, true_and, and_true, and_self, eq_self, Nat.reduceEqDiff, Nat.zero_ne_one, reduceIte, Nat.reduceLeDiff, and_false, false_and, show skd 11 19 = 0 from rfl, show LF.1 145 = some (.inl 11) from rfl, hy, upd2_eq, Int.reduceToNat, Int.toNat_natCast]; rfl) (by first | exact trivial | exact Or.inr rfl | exact Or.inl rfl | (simp only [ob, obA, R32, R64] at *; omega) | (simp only [ob, obA, R32, R64] at *; and_intros <;> omega)) ?_
            refine V_callV (M := MX12_stepOn) (N := MX12_byteAt) dX12_stepOn_81 lRX12_191 kX12_byteAt rfl (rfl) rfl (c_mByteAt (d := 0) hκ hx3.1 hn5 (i := y) (by omega)) rfl rfl (Nat.le_of_ble_eq_true rfl) (fit_rm (by omega)) (⟨Nat.le_of_ble_eq_true rfl, Nat.le_of_ble_eq_true rfl⟩) (fun v Ω' hp => ?_) (fun _ _ h => h.elim)
            obtain ⟨rfl, rfl⟩ := hp
            rw [ht3, bAt, if_neg (by omega)]
            refine V_callS (M := MX12_stepOn) (N := MX12_isLetter) dX12_stepOn_84 lRX12_201 kX12_isLetter rfl (c_mIsLetter (d := 0) hκ (by unfold R32; omega)) rfl rfl (Nat.le_of_ble_eq_true rfl) (fit_rm (by omega)) (⟨Nat.le_of_ble_eq_true rfl, Nat.le_of_ble_eq_true rfl⟩) (fun v Ω' hp => ?_) (fun _ _ h => h.elim)
            obtain ⟨rfl, rfl⟩ := hp
            refine V_ifeqB dX12_stepOn_87 (tgt := 103) (by decide) (fun q87 => ?_) (fun q87 => ?_)
            · refine V_ex sX12_stepOn_103 (by simp only [Option.toList, List.cons_append, List.nil_append, exN, ex1, gI, gL, gR, pI, pL, pR, lget, lset1, lset2, kl, b2I, b2L, nob, ob32, ob64, xGet, xPut, xLen, xLd, xLdR, xSt, obA, true_and, and_true, and_self, eq_self, Nat.reduceEqDiff, Nat.zero_ne_one, reduceIte, Nat.reduceLeDiff, and_false, false_and, show skd 11 21 = 0 from rfl, show LF.1 145 = some (.inl 11) from rfl, upd2_eq, Int.reduceToNat, Int.toNat_natCast]; rfl) (by first | exact trivial | exact Or.inr rfl | exact Or.inl rfl | (simp only [ob, obA, R32, R64] at *; omega) | (simp only [ob, obA, R32, R64] at *; and_intros <;> omega)) ?_
              refine V_goto dX12_stepOn_108 (tgt := 212) (by decide) ?_
              exact fin _ (uI G3 145 21 1) _ _ (f3.up _ (by omega)) he.symm (fun _ => rfl) (by rw [iv (by omega)]; exact h24) (by rw [iv (by omega), hy, ← hr]) (by rw [iu, kd, if_neg (by omega), if_neg (by omega), if_pos (by omega)]) (fun a => absurd a (by dsimp only; omega))
            · exact absurd q87 (by decide)
          | succ k ih =>
            intro y G3 hk f3 hy h24 hr
            rw [runB] at hr
            have hx3 := f3.tx hx
            have ht3 : G3.1 162 = f := f3.tape.trans hf
            refine V_ex sX12_stepOn_76 (by simp only [Option.toList, List.cons_append, List.nil_append, exN, ex1, gI, gL, gR, pI, pL, pR, lget, lset1, lset2, kl, b2I, b2L, nob, ob32, ob64, xGet, xPut, xLen, xLd, xLdR, xSt, obA, true_and, and_true, and_self, eq_self, Nat.reduceEqDiff, Nat.zero_ne_one, reduceIte, Nat.reduceLeDiff, and_false, false_and, show skd 11 19 = 0 from rfl, show LF.1 145 = some (.inl 11) from rfl, hy, upd2_eq, Int.reduceToNat, Int.toNat_natCast]; rfl) (by first | exact trivial | exact Or.inr rfl | exact Or.inl rfl | (simp only [ob, obA, R32, R64] at *; omega) | (simp only [ob, obA, R32, R64] at *; and_intros <;> omega)) ?_
            refine V_callV (M := MX12_stepOn) (N := MX12_byteAt) dX12_stepOn_81 lRX12_191 kX12_byteAt rfl (rfl) rfl (c_mByteAt (d := 0) hκ hx3.1 hn5 (i := y) (by omega)) rfl rfl (Nat.le_of_ble_eq_true rfl) (fit_rm (by omega)) (⟨Nat.le_of_ble_eq_true rfl, Nat.le_of_ble_eq_true rfl⟩) (fun v Ω' hp => ?_) (fun _ _ h => h.elim)
            obtain ⟨rfl, rfl⟩ := hp
            rw [ht3, bAt_nat (by omega)]
            refine V_callS (M := MX12_stepOn) (N := MX12_isLetter) dX12_stepOn_84 lRX12_201 kX12_isLetter rfl (c_mIsLetter (d := 0) hκ (hbR y (by omega))) rfl rfl (Nat.le_of_ble_eq_true rfl) (fit_rm (by omega)) (⟨Nat.le_of_ble_eq_true rfl, Nat.le_of_ble_eq_true rfl⟩) (fun v Ω' hp => ?_) (fun _ _ h => h.elim)
            obtain ⟨rfl, rfl⟩ := hp
            refine V_ifeqB dX12_stepOn_87 (tgt := 103) (by decide) (fun q87 => ?_) (fun q87 => ?_)
            · refine V_ex sX12_stepOn_103 (by simp only [Option.toList, List.cons_append, List.nil_append, exN, ex1, gI, gL, gR, pI, pL, pR, lget, lset1, lset2, kl, b2I, b2L, nob, ob32, ob64, xGet, xPut, xLen, xLd, xLdR, xSt, obA, true_and, and_true, and_self, eq_self, Nat.reduceEqDiff, Nat.zero_ne_one, reduceIte, Nat.reduceLeDiff, and_false, false_and, show skd 11 21 = 0 from rfl, show LF.1 145 = some (.inl 11) from rfl, upd2_eq, Int.reduceToNat, Int.toNat_natCast]; rfl) (by first | exact trivial | exact Or.inr rfl | exact Or.inl rfl | (simp only [ob, obA, R32, R64] at *; omega) | (simp only [ob, obA, R32, R64] at *; and_intros <;> omega)) ?_
              refine V_goto dX12_stepOn_108 (tgt := 212) (by decide) ?_
              exact fin _ (uI G3 145 21 1) _ _ (f3.up _ (by omega)) he.symm (fun _ => rfl) (by rw [iv (by omega)]; exact h24) (by rw [iv (by omega), hy, ← hr, q87]; rfl) (by rw [iu, kd, if_neg (by omega), if_neg (by omega), if_pos (by omega)]) (fun a => absurd a (by dsimp only; omega))
            · refine V_ex sX12_stepOn_90 (by simp only [Option.toList, List.cons_append, List.nil_append, exN, ex1, gI, gL, gR, pI, pL, pR, lget, lset1, lset2, kl, b2I, b2L, nob, ob32, ob64, xGet, xPut, xLen, xLd, xLdR, xSt, obA, true_and, and_true, and_self, eq_self, Nat.reduceEqDiff, Nat.zero_ne_one, reduceIte, Nat.reduceLeDiff, and_false, false_and, show skd 11 19 = 0 from rfl, show LF.1 145 = some (.inl 11) from rfl, hy, upd2_eq, Int.reduceToNat, Int.toNat_natCast]; rfl) (by first | exact trivial | exact Or.inr rfl | exact Or.inl rfl | (simp only [ob, obA, R32, R64] at *; omega) | (simp only [ob, obA, R32, R64] at *; and_intros <;> omega)) ?_
              refine V_goto dX12_stepOn_100 (tgt := 76) (by decide) ?_
              exact ih (y + 1) (uI G3 145 19 ((y : Int) + 1)) (by omega) (f3.up _ (by omega)) (by rw [iu]; omega) (by rw [iv (by omega)]; exact h24) (by rw [← hr, if_pos q87])
        refine V_ex sX12_stepOn_39 (by simp only [Option.toList, List.cons_append, List.nil_append, exN, ex1, gI, gL, gR, pI, pL, pR, lget, lset1, lset2, kl, b2I, b2L, nob, ob32, ob64, xGet, xPut, xLen, xLd, xLdR, xSt, obA, true_and, and_true, and_self, eq_self, Nat.reduceEqDiff, Nat.zero_ne_one, reduceIte, Nat.reduceLeDiff, and_false, false_and, show skd 11 19 = 0 from rfl, show skd 11 24 = 0 from rfl, show LF.1 145 = some (.inl 11) from rfl, hq, h2q, upd2_eq, Int.reduceToNat, Int.toNat_natCast]; rfl) (by first | exact trivial | exact Or.inr rfl | exact Or.inl rfl | (simp only [ob, obA, R32, R64] at *; omega) | (simp only [ob, obA, R32, R64] at *; and_intros <;> omega)) ?_
        refine V_callV (M := MX12_stepOn) (N := MX12_byteAt) dX12_stepOn_52 lRX12_191 kX12_byteAt rfl (rfl) rfl (c_mByteAt (d := 0) hκ h2n hn5 (i := q) (by omega)) rfl rfl (Nat.le_of_ble_eq_true rfl) (fit_rm (by omega)) (⟨Nat.le_of_ble_eq_true rfl, Nat.le_of_ble_eq_true rfl⟩) (fun v Ω' hp => ?_) (fun _ _ h => h.elim)
        obtain ⟨rfl, rfl⟩ := hp
        rw [h2t, bAt_nat c]
        refine V_ex sX12_stepOn_55 (by rfl) (by first | exact trivial | exact Or.inr rfl | exact Or.inl rfl | (simp only [ob, obA, R32, R64] at *; omega) | (simp only [ob, obA, R32, R64] at *; and_intros <;> omega)) ?_
        refine V_icmpne dX12_stepOn_58 (tgt := 69) (by decide) (by simp only [R32, R64] at *; omega) (fun q58 => ?_) (fun q58 => ?_)
        · refine V_ex sX12_stepOn_69 (by rfl) (by first | exact trivial | exact Or.inr rfl | exact Or.inl rfl | (simp only [ob, obA, R32, R64] at *; omega) | (simp only [ob, obA, R32, R64] at *; and_intros <;> omega)) ?_
          refine V_callS (M := MX12_stepOn) (N := MX12_isLetter) dX12_stepOn_70 lRX12_201 kX12_isLetter rfl (c_mIsLetter (d := 0) hκ (hbR q (by omega))) rfl rfl (Nat.le_of_ble_eq_true rfl) (fit_rm (by omega)) (⟨Nat.le_of_ble_eq_true rfl, Nat.le_of_ble_eq_true rfl⟩) (fun v Ω' hp => ?_) (fun _ _ h => h.elim)
          obtain ⟨rfl, rfl⟩ := hp
          rw [hL]
          refine V_ifeqB dX12_stepOn_73 (tgt := 111) (by decide) (fun q73 => ?_) (fun q73 => ?_)
          · exact absurd q73 (by decide)
          · exact L (n - q) q (uI G1 145 24 (q : Nat)) (by omega) f2 h2q iu rfl
        · omega
      | false =>
        cases hD : isDb (f q) with
        | true =>
          -- a number
          have et : tokAt f n q = (-2, valC f q (runB isDb f (n - q) q - q), q, runB isDb f (n - q) q) := by rw [tokAt, hL, hD]; rfl
          rw [et] at he te
          have all : ∀ j, j < runB isDb f (n - q) q - q → isDb (f (q + j)) = true := fun j hj => runB_all isDb f (n - q) q (q + j) (by omega) (by omega)
          have L : ∀ (k y : Nat) (G3 : Wd), y + k = n → q ≤ y → Fm G G3 → G3.1 145 19 = (y : Nat) → G3.1 145 24 = (q : Nat) → G3.1 145 22 = wv f q (y - q) → (∀ j, j < y - q → isDb (f (q + j)) = true) → runB isDb f k y = runB isDb f (n - q) q → V κ MX12_stepOn (rmD d 0 0) (soP n p G) noX 0 0 μ 0 0 (Wm G3) 123 [some (VR 145), some (VI (f q))] [] := by
            intro k
            have out : ∀ (y : Nat) (G3 : Wd), q ≤ y → Fm G G3 → G3.1 145 19 = (y : Nat) → G3.1 145 24 = (q : Nat) → G3.1 145 22 = wv f q (y - q) → y = runB isDb f (n - q) q → V κ MX12_stepOn (rmD d 0 0) (soP n p G) noX 0 0 μ 0 0 (Wm (uI G3 145 21 2)) 212 [some (VR 145), some (VI (f q))] [] := fun y G3 hqy f3 hy h24 h22 hr => by
              refine fin _ (uI G3 145 21 2) _ _ (f3.up _ (by omega)) he.symm (fun _ => rfl) (by rw [iv (by omega)]; exact h24) (by rw [iv (by omega), hy, ← hr]) (by rw [iu]; rfl) (fun _ hle => ?_)
              rw [iv (by omega), h22, ← hr]
              rw [← hr] at all
              exact wv_val _ (by dsimp only at hle; omega) all
            induction k with
            | zero =>
              intro y G3 hk hqy f3 hy h24 h22 hall hr
              rw [runB] at hr
              have hx3 := f3.tx hx
              have ht3 : G3.1 162 = f := f3.tape.trans hf
              refine V_ex sX12_stepOn_123 (by simp only [Option.toList, List.cons_append, List.nil_append, exN, ex1, gI, gL, gR, pI, pL, pR, lget, lset1, lset2, kl, b2I, b2L, nob, ob32, ob64, xGet, xPut, xLen, xLd, xLdR, xSt, obA, true_and, and_true, and_self, eq_self, Nat.reduceEqDiff, Nat.zero_ne_one, reduceIte, Nat.reduceLeDiff, and_false, false_and, show skd 11 19 = 0 from rfl, show LF.1 145 = some (.inl 11) from rfl, hy, upd2_eq, Int.reduceToNat, Int.toNat_natCast]; rfl) (by first | exact trivial | exact Or.inr rfl | exact Or.inl rfl | (simp only [ob, obA, R32, R64] at *; omega) | (simp only [ob, obA, R32, R64] at *; and_intros <;> omega)) ?_
              refine V_callV (M := MX12_stepOn) (N := MX12_byteAt) dX12_stepOn_128 lRX12_191 kX12_byteAt rfl (rfl) rfl (c_mByteAt (d := 0) hκ hx3.1 hn5 (i := y) (by omega)) rfl rfl (Nat.le_of_ble_eq_true rfl) (fit_rm (by omega)) (⟨Nat.le_of_ble_eq_true rfl, Nat.le_of_ble_eq_true rfl⟩) (fun v Ω' hp => ?_) (fun _ _ h => h.elim)
              obtain ⟨rfl, rfl⟩ := hp
              rw [ht3, bAt, if_neg (by omega)]
              refine V_callS (M := MX12_stepOn) (N := MX12_isDigit) dX12_stepOn_131 lRX12_205 kX12_isDigit rfl (c_mIsDigit (d := 0) hκ (by unfold R32; omega)) rfl rfl (Nat.le_of_ble_eq_true rfl) (fit_rm (by omega)) (⟨Nat.le_of_ble_eq_true rfl, Nat.le_of_ble_eq_true rfl⟩) (fun v Ω' hp => ?_) (fun _ _ h => h.elim)
              obtain ⟨rfl, rfl⟩ := hp
              refine V_ifeqB dX12_stepOn_134 (tgt := 178) (by decide) (fun q134 => ?_) (fun q134 => ?_)
              · refine V_ex sX12_stepOn_178 (by simp only [Option.toList, List.cons_append, List.nil_append, exN, ex1, gI, gL, gR, pI, pL, pR, lget, lset1, lset2, kl, b2I, b2L, nob, ob32, ob64, xGet, xPut, xLen, xLd, xLdR, xSt, obA, true_and, and_true, and_self, eq_self, Nat.reduceEqDiff, Nat.zero_ne_one, reduceIte, Nat.reduceLeDiff, and_false, false_and, show skd 11 21 = 0 from rfl, show LF.1 145 = some (.inl 11) from rfl, upd2_eq, Int.reduceToNat, Int.toNat_natCast]; rfl) (by first | exact trivial | exact Or.inr rfl | exact Or.inl rfl | (simp only [ob, obA, R32, R64] at *; omega) | (simp only [ob, obA, R32, R64] at *; and_intros <;> omega)) ?_
                refine V_goto dX12_stepOn_183 (tgt := 212) (by decide) ?_
                exact out y G3 hqy f3 hy h24 h22 hr
              · exact absurd q134 (by decide)
            | succ k ih =>
              intro y G3 hk hqy f3 hy h24 h22 hall hr
              rw [runB] at hr
              have hx3 := f3.tx hx
              have ht3 : G3.1 162 = f := f3.tape.trans hf
              have hw := wv_R (y - q) hall
              have hby := hb y (by omega)
              have hws : wv f q (y + 1 - q) = if 10 * wv f q (y - q) + f y - 48 < 100000 then 10 * wv f q (y - q) + f y - 48 else 100000 := by
                rw [show y + 1 - q = (y - q) + 1 by omega, wv, show q + (y - q) = y by omega]
              refine V_ex sX12_stepOn_123 (by simp only [Option.toList, List.cons_append, List.nil_append, exN, ex1, gI, gL, gR, pI, pL, pR, lget, lset1, lset2, kl, b2I, b2L, nob, ob32, ob64, xGet, xPut, xLen, xLd, xLdR, xSt, obA, true_and, and_true, and_self, eq_self, Nat.reduceEqDiff, Nat.zero_ne_one, reduceIte, Nat.reduceLeDiff, and_false, false_and, show skd 11 19 = 0 from rfl, show LF.1 145 = some (.inl 11) from rfl, hy, upd2_eq, Int.reduceToNat, Int.toNat_natCast]; rfl) (by first | exact trivial | exact Or.inr rfl | exact Or.inl rfl | (simp only [ob, obA, R32, R64] at *; omega) | (simp only [ob, obA, R32, R64] at *; and_intros <;> omega)) ?_
              refine V_callV (M := MX12_stepOn) (N := MX12_byteAt) dX12_stepOn_128 lRX12_191 kX12_byteAt rfl (rfl) rfl (c_mByteAt (d := 0) hκ hx3.1 hn5 (i := y) (by omega)) rfl rfl (Nat.le_of_ble_eq_true rfl) (fit_rm (by omega)) (⟨Nat.le_of_ble_eq_true rfl, Nat.le_of_ble_eq_true rfl⟩) (fun v Ω' hp => ?_) (fun _ _ h => h.elim)
              obtain ⟨rfl, rfl⟩ := hp
              rw [ht3, bAt_nat (by omega)]
              refine V_callS (M := MX12_stepOn) (N := MX12_isDigit) dX12_stepOn_131 lRX12_205 kX12_isDigit rfl (c_mIsDigit (d := 0) hκ (hbR y (by omega))) rfl rfl (Nat.le_of_ble_eq_true rfl) (fit_rm (by omega)) (⟨Nat.le_of_ble_eq_true rfl, Nat.le_of_ble_eq_true rfl⟩) (fun v Ω' hp => ?_) (fun _ _ h => h.elim)
              obtain ⟨rfl, rfl⟩ := hp
              refine V_ifeqB dX12_stepOn_134 (tgt := 178) (by decide) (fun q134 => ?_) (fun q134 => ?_)
              · refine V_ex sX12_stepOn_178 (by simp only [Option.toList, List.cons_append, List.nil_append, exN, ex1, gI, gL, gR, pI, pL, pR, lget, lset1, lset2, kl, b2I, b2L, nob, ob32, ob64, xGet, xPut, xLen, xLd, xLdR, xSt, obA, true_and, and_true, and_self, eq_self, Nat.reduceEqDiff, Nat.zero_ne_one, reduceIte, Nat.reduceLeDiff, and_false, false_and, show skd 11 21 = 0 from rfl, show LF.1 145 = some (.inl 11) from rfl, upd2_eq, Int.reduceToNat, Int.toNat_natCast]; rfl) (by first | exact trivial | exact Or.inr rfl | exact Or.inl rfl | (simp only [ob, obA, R32, R64] at *; omega) | (simp only [ob, obA, R32, R64] at *; and_intros <;> omega)) ?_
                refine V_goto dX12_stepOn_183 (tgt := 212) (by decide) ?_
                exact out y G3 hqy f3 hy h24 h22 (by rw [← hr, q134]; rfl)
              · have hdy := of_decide_eq_true q134
                refine V_ex sX12_stepOn_137 (by simp only [Option.toList, List.cons_append, List.nil_append, exN, ex1, gI, gL, gR, pI, pL, pR, lget, lset1, lset2, kl, b2I, b2L, nob, ob32, ob64, xGet, xPut, xLen, xLd, xLdR, xSt, obA, true_and, and_true, and_self, eq_self, Nat.reduceEqDiff, Nat.zero_ne_one, reduceIte, Nat.reduceLeDiff, and_false, false_and, show skd 11 22 = 0 from rfl, show skd 11 19 = 0 from rfl, show LF.1 145 = some (.inl 11) from rfl, hy, h22, upd2_eq, Int.reduceToNat, Int.toNat_natCast]; rfl) (by first | exact trivial | exact Or.inr rfl | exact Or.inl rfl | (simp only [ob, obA, R32, R64] at *; omega) | (simp only [ob, obA, R32, R64] at *; and_intros <;> omega)) ?_
                refine V_callV (M := MX12_stepOn) (N := MX12_byteAt) dX12_stepOn_152 lRX12_191 kX12_byteAt rfl (rfl) rfl (c_mByteAt (d := 0) hκ hx3.1 hn5 (i := y) (by omega)) rfl rfl (Nat.le_of_ble_eq_true rfl) (fit_rm (by omega)) (⟨Nat.le_of_ble_eq_true rfl, Nat.le_of_ble_eq_true rfl⟩) (fun v Ω' hp => ?_) (fun _ _ h => h.elim)
                obtain ⟨rfl, rfl⟩ := hp
                rw [ht3, bAt_nat (by omega)]
                refine V_ex sX12_stepOn_155 (by rfl) (by first | exact trivial | exact Or.inr rfl | exact Or.inl rfl | (simp only [ob, obA, R32, R64] at *; omega) | (simp only [ob, obA, R32, R64] at *; and_intros <;> omega)) ?_
                refine V_mmin (M := MX12_stepOn) dX12_stepOn_159 lRX12_212 (by simp only [R32, R64] at *; omega) (Nat.le_of_ble_eq_true rfl) (fit_rm (by omega)) ⟨Nat.le_refl _, Nat.le_refl _⟩ ?_
                rw [← hws]
                refine V_ex sX12_stepOn_162 (by simp only [Option.toList, List.cons_append, List.nil_append, exN, ex1, gI, gL, gR, pI, pL, pR, lget, lset1, lset2, kl, b2I, b2L, nob, ob32, ob64, xGet, xPut, xLen, xLd, xLdR, xSt, obA, true_and, and_true, and_self, eq_self, Nat.reduceEqDiff, Nat.zero_ne_one, reduceIte, Nat.reduceLeDiff, and_false, false_and, show skd 11 22 = 0 from rfl, show skd 11 19 = 0 from rfl, show LF.1 145 = some (.inl 11) from rfl, hy, upd2_eq, Int.reduceToNat, Int.toNat_natCast]; rfl) (by first | exact trivial | exact Or.inr rfl | exact Or.inl rfl | (simp only [ob, obA, R32, R64] at *; omega) | (simp only [ob, obA, R32, R64] at *; and_intros <;> omega)) ?_
                refine V_goto dX12_stepOn_175 (tgt := 123) (by decide) ?_
                exact ih (y + 1) (uI (uI G3 145 22 (wv f q (y + 1 - q))) 145 19 ((y : Int) + 1)) (by omega) (by omega) ((f3.up _ (k := 22) (by omega)).up _ (k := 19) (by omega)) (by rw [iu]; omega) (by rw [iv (by omega), iv (by omega)]; exact h24) (by rw [iv (by omega), iu]) (fun j hj => by
                  by_cases e : j < y - q
                  · exact hall j e
                  · rw [show q + j = y by omega]; exact q134) (by rw [← hr, if_pos q134])
          refine V_ex sX12_stepOn_39 (by simp only [Option.toList, List.cons_append, List.nil_append, exN, ex1, gI, gL, gR, pI, pL, pR, lget, lset1, lset2, kl, b2I, b2L, nob, ob32, ob64, xGet, xPut, xLen, xLd, xLdR, xSt, obA, true_and, and_true, and_self, eq_self, Nat.reduceEqDiff, Nat.zero_ne_one, reduceIte, Nat.reduceLeDiff, and_false, false_and, show skd 11 19 = 0 from rfl, show skd 11 24 = 0 from rfl, show LF.1 145 = some (.inl 11) from rfl, hq, h2q, upd2_eq, Int.reduceToNat, Int.toNat_natCast]; rfl) (by first | exact trivial | exact Or.inr rfl | exact Or.inl rfl | (simp only [ob, obA, R32, R64] at *; omega) | (simp only [ob, obA, R32, R64] at *; and_intros <;> omega)) ?_
          refine V_callV (M := MX12_stepOn) (N := MX12_byteAt) dX12_stepOn_52 lRX12_191 kX12_byteAt rfl (rfl) rfl (c_mByteAt (d := 0) hκ h2n hn5 (i := q) (by omega)) rfl rfl (Nat.le_of_ble_eq_true rfl) (fit_rm (by omega)) (⟨Nat.le_of_ble_eq_true rfl, Nat.le_of_ble_eq_true rfl⟩) (fun v Ω' hp => ?_) (fun _ _ h => h.elim)
          obtain ⟨rfl, rfl⟩ := hp
          rw [h2t, bAt_nat c]
          refine V_ex sX12_stepOn_55 (by rfl) (by first | exact trivial | exact Or.inr rfl | exact Or.inl rfl | (simp only [ob, obA, R32, R64] at *; omega) | (simp only [ob, obA, R32, R64] at *; and_intros <;> omega)) ?_
          refine V_icmpne dX12_stepOn_58 (tgt := 69) (by decide) (by simp only [R32, R64] at *; omega) (fun q58 => ?_) (fun q58 => ?_)
          · refine V_ex sX12_stepOn_69 (by rfl) (by first | exact trivial | exact Or.inr rfl | exact Or.inl rfl | (simp only [ob, obA, R32, R64] at *; omega) | (simp only [ob, obA, R32, R64] at *; and_intros <;> omega)) ?_
            refine V_callS (M := MX12_stepOn) (N := MX12_isLetter) dX12_stepOn_70 lRX12_201 kX12_isLetter rfl (c_mIsLetter (d := 0) hκ (hbR q (by omega))) rfl rfl (Nat.le_of_ble_eq_true rfl) (fit_rm (by omega)) (⟨Nat.le_of_ble_eq_true rfl, Nat.le_of_ble_eq_true rfl⟩) (fun v Ω' hp => ?_) (fun _ _ h => h.elim)
            obtain ⟨rfl, rfl⟩ := hp
            rw [hL]
            refine V_ifeqB dX12_stepOn_73 (tgt := 111) (by decide) (fun q73 => ?_) (fun q73 => ?_)
            · refine V_ex sX12_stepOn_111 (by rfl) (by first | exact trivial | exact Or.inr rfl | exact Or.inl rfl | (simp only [ob, obA, R32, R64] at *; omega) | (simp only [ob, obA, R32, R64] at *; and_intros <;> omega)) ?_
              refine V_callS (M := MX12_stepOn) (N := MX12_isDigit) dX12_stepOn_112 lRX12_205 kX12_isDigit rfl (c_mIsDigit (d := 0) hκ (hbR q (by omega))) rfl rfl (Nat.le_of_ble_eq_true rfl) (fit_rm (by omega)) (⟨Nat.le_of_ble_eq_true rfl, Nat.le_of_ble_eq_true rfl⟩) (fun v Ω' hp => ?_) (fun _ _ h => h.elim)
              obtain ⟨rfl, rfl⟩ := hp
              rw [hD]
              refine V_ifeqB dX12_stepOn_115 (tgt := 186) (by decide) (fun q115 => ?_) (fun q115 => ?_)
              · exact absurd q115 (by decide)
              · refine V_ex sX12_stepOn_118 (by simp only [Option.toList, List.cons_append, List.nil_append, exN, ex1, gI, gL, gR, pI, pL, pR, lget, lset1, lset2, kl, b2I, b2L, nob, ob32, ob64, xGet, xPut, xLen, xLd, xLdR, xSt, obA, true_and, and_true, and_self, eq_self, Nat.reduceEqDiff, Nat.zero_ne_one, reduceIte, Nat.reduceLeDiff, and_false, false_and, show skd 11 22 = 0 from rfl, show LF.1 145 = some (.inl 11) from rfl, upd2_eq, Int.reduceToNat, Int.toNat_natCast]; rfl) (by first | exact trivial | exact Or.inr rfl | exact Or.inl rfl | (simp only [ob, obA, R32, R64] at *; omega) | (simp only [ob, obA, R32, R64] at *; and_intros <;> omega)) ?_
                exact L (n - q) q (uI (uI G1 145 24 (q : Nat)) 145 22 0) (by omega) (by omega) (f2.up 0 (k := 22) (by omega)) (by rw [iv (by omega)]; exact h2q) (by rw [iv (by omega)]; exact iu) (by rw [iu, Nat.sub_self]; rfl) (fun j hj => absurd hj (by omega)) rfl
            · exact absurd q73 (by decide)
          · omega
        | false =>
          have et : tokAt f n q = (f q, 0, q, q + 1) := by rw [tokAt, hL, hD]; rfl
          rw [et] at he te
          have f3 := f2.up ((q : Int) + 1) (k := 19) (by omega)
          have k3 : ∀ z, kd (f q) = z → V κ MX12_stepOn (rmD d 0 0) (soP n p G) noX 0 0 μ 0 0 (Wm (uI (uI (uI G1 145 24 (q : Nat)) 145 19 ((q : Int) + 1)) 145 21 z)) 212 [some (VR 145), some (VI (f q))] [] := fun z hz => fin _ _ _ _ (f3.up _ (by omega)) he.symm (fun _ => rfl) (by rw [iv (by omega), iv (by omega)]; exact iu) (by rw [iv (by omega), iu]; show _ = ((q + 1 : Nat) : Int); omega) (by rw [iu]; exact hz.symm) (fun a => absurd a (by dsimp only; omega))
          refine V_ex sX12_stepOn_39 (by simp only [Option.toList, List.cons_append, List.nil_append, exN, ex1, gI, gL, gR, pI, pL, pR, lget, lset1, lset2, kl, b2I, b2L, nob, ob32, ob64, xGet, xPut, xLen, xLd, xLdR, xSt, obA, true_and, and_true, and_self, eq_self, Nat.reduceEqDiff, Nat.zero_ne_one, reduceIte, Nat.reduceLeDiff, and_false, false_and, show skd 11 19 = 0 from rfl, show skd 11 24 = 0 from rfl, show LF.1 145 = some (.inl 11) from rfl, hq, h2q, upd2_eq, Int.reduceToNat, Int.toNat_natCast]; rfl) (by first | exact trivial | exact Or.inr rfl | exact Or.inl rfl | (simp only [ob, obA, R32, R64] at *; omega) | (simp only [ob, obA, R32, R64] at *; and_intros <;> omega)) ?_
          refine V_callV (M := MX12_stepOn) (N := MX12_byteAt) dX12_stepOn_52 lRX12_191 kX12_byteAt rfl (rfl) rfl (c_mByteAt (d := 0) hκ h2n hn5 (i := q) (by omega)) rfl rfl (Nat.le_of_ble_eq_true rfl) (fit_rm (by omega)) (⟨Nat.le_of_ble_eq_true rfl, Nat.le_of_ble_eq_true rfl⟩) (fun v Ω' hp => ?_) (fun _ _ h => h.elim)
          obtain ⟨rfl, rfl⟩ := hp
          rw [h2t, bAt_nat c]
          refine V_ex sX12_stepOn_55 (by rfl) (by first | exact trivial | exact Or.inr rfl | exact Or.inl rfl | (simp only [ob, obA, R32, R64] at *; omega) | (simp only [ob, obA, R32, R64] at *; and_intros <;> omega)) ?_
          refine V_icmpne dX12_stepOn_58 (tgt := 69) (by decide) (by simp only [R32, R64] at *; omega) (fun q58 => ?_) (fun q58 => ?_)
          · refine V_ex sX12_stepOn_69 (by rfl) (by first | exact trivial | exact Or.inr rfl | exact Or.inl rfl | (simp only [ob, obA, R32, R64] at *; omega) | (simp only [ob, obA, R32, R64] at *; and_intros <;> omega)) ?_
            refine V_callS (M := MX12_stepOn) (N := MX12_isLetter) dX12_stepOn_70 lRX12_201 kX12_isLetter rfl (c_mIsLetter (d := 0) hκ (hbR q (by omega))) rfl rfl (Nat.le_of_ble_eq_true rfl) (fit_rm (by omega)) (⟨Nat.le_of_ble_eq_true rfl, Nat.le_of_ble_eq_true rfl⟩) (fun v Ω' hp => ?_) (fun _ _ h => h.elim)
            obtain ⟨rfl, rfl⟩ := hp
            rw [hL]
            refine V_ifeqB dX12_stepOn_73 (tgt := 111) (by decide) (fun q73 => ?_) (fun q73 => ?_)
            · refine V_ex sX12_stepOn_111 (by rfl) (by first | exact trivial | exact Or.inr rfl | exact Or.inl rfl | (simp only [ob, obA, R32, R64] at *; omega) | (simp only [ob, obA, R32, R64] at *; and_intros <;> omega)) ?_
              refine V_callS (M := MX12_stepOn) (N := MX12_isDigit) dX12_stepOn_112 lRX12_205 kX12_isDigit rfl (c_mIsDigit (d := 0) hκ (hbR q (by omega))) rfl rfl (Nat.le_of_ble_eq_true rfl) (fit_rm (by omega)) (⟨Nat.le_of_ble_eq_true rfl, Nat.le_of_ble_eq_true rfl⟩) (fun v Ω' hp => ?_) (fun _ _ h => h.elim)
              obtain ⟨rfl, rfl⟩ := hp
              rw [hD]
              refine V_ifeqB dX12_stepOn_115 (tgt := 186) (by decide) (fun q115 => ?_) (fun q115 => ?_)
              · refine V_ex sX12_stepOn_186 (by simp only [Option.toList, List.cons_append, List.nil_append, exN, ex1, gI, gL, gR, pI, pL, pR, lget, lset1, lset2, kl, b2I, b2L, nob, ob32, ob64, xGet, xPut, xLen, xLd, xLdR, xSt, obA, true_and, and_true, and_self, eq_self, Nat.reduceEqDiff, Nat.zero_ne_one, reduceIte, Nat.reduceLeDiff, and_false, false_and, show skd 11 19 = 0 from rfl, show LF.1 145 = some (.inl 11) from rfl, h2q, upd2_eq, Int.reduceToNat, Int.toNat_natCast]; rfl) (by first | exact trivial | exact Or.inr rfl | exact Or.inl rfl | (simp only [ob, obA, R32, R64] at *; omega) | (simp only [ob, obA, R32, R64] at *; and_intros <;> omega)) ?_
                refine V_callS (M := MX12_stepOn) (N := MX12_isMark) dX12_stepOn_198 lRX12_218 kX12_isMark rfl (c_mIsMark (d := 0) hκ (hbR q (by omega))) rfl rfl (Nat.le_of_ble_eq_true rfl) (fit_rm (by omega)) (⟨Nat.le_of_ble_eq_true rfl, Nat.le_of_ble_eq_true rfl⟩) (fun v Ω' hp => ?_) (fun _ _ h => h.elim)
                obtain ⟨rfl, rfl⟩ := hp
                refine V_ifeqB dX12_stepOn_201 (tgt := 208) (by decide) (fun q201 => ?_) (fun q201 => ?_)
                · refine V_ex sX12_stepOn_208 (by rfl) (by first | exact trivial | exact Or.inr rfl | exact Or.inl rfl | (simp only [ob, obA, R32, R64] at *; omega) | (simp only [ob, obA, R32, R64] at *; and_intros <;> omega)) ?_
                  refine V_ex sX12_stepOn_209 (by simp only [Option.toList, List.cons_append, List.nil_append, exN, ex1, gI, gL, gR, pI, pL, pR, lget, lset1, lset2, kl, b2I, b2L, nob, ob32, ob64, xGet, xPut, xLen, xLd, xLdR, xSt, obA, true_and, and_true, and_self, eq_self, Nat.reduceEqDiff, Nat.zero_ne_one, reduceIte, Nat.reduceLeDiff, and_false, false_and, show skd 11 21 = 0 from rfl, show LF.1 145 = some (.inl 11) from rfl, upd2_eq, Int.reduceToNat, Int.toNat_natCast]; rfl) (by first | exact ⟨rfl, trivial⟩ | exact rfl | (trace_state; skip)) ?_
                  exact k3 4 (by rw [kd, if_neg (by omega), if_neg (by omega), if_neg (by omega), q201]; rfl)
                · refine V_ex sX12_stepOn_204 (by rfl) (by first | exact trivial | exact Or.inr rfl | exact Or.inl rfl | (simp only [ob, obA, R32, R64] at *; omega) | (simp only [ob, obA, R32, R64] at *; and_intros <;> omega)) ?_
                  refine V_goto dX12_stepOn_205 (tgt := 209) (by decide) ?_
                  refine V_ex sX12_stepOn_209 (by simp only [Option.toList, List.cons_append, List.nil_append, exN, ex1, gI, gL, gR, pI, pL, pR, lget, lset1, lset2, kl, b2I, b2L, nob, ob32, ob64, xGet, xPut, xLen, xLd, xLdR, xSt, obA, true_and, and_true, and_self, eq_self, Nat.reduceEqDiff, Nat.zero_ne_one, reduceIte, Nat.reduceLeDiff, and_false, false_and, show skd 11 21 = 0 from rfl, show LF.1 145 = some (.inl 11) from rfl, upd2_eq, Int.reduceToNat, Int.toNat_natCast]; rfl) (by first | exact ⟨rfl, trivial⟩ | exact rfl | (trace_state; skip)) ?_
                  exact k3 3 (by rw [kd, if_neg (by omega), if_neg (by omega), if_neg (by omega), q201]; rfl)
              · exact absurd q115 (by decide)
            · exact absurd q73 (by decide)
          · omega
    · have hqe : q = n := by omega
      rw [tk_end f n q c] at he
      refine V_ex sX12_stepOn_39 (by simp only [Option.toList, List.cons_append, List.nil_append, exN, ex1, gI, gL, gR, pI, pL, pR, lget, lset1, lset2, kl, b2I, b2L, nob, ob32, ob64, xGet, xPut, xLen, xLd, xLdR, xSt, obA, true_and, and_true, and_self, eq_self, Nat.reduceEqDiff, Nat.zero_ne_one, reduceIte, Nat.reduceLeDiff, and_false, false_and, show skd 11 19 = 0 from rfl, show skd 11 24 = 0 from rfl, show LF.1 145 = some (.inl 11) from rfl, hq, h2q, upd2_eq, Int.reduceToNat, Int.toNat_natCast]; rfl) (by first | exact trivial | exact Or.inr rfl | exact Or.inl rfl | (simp only [ob, obA, R32, R64] at *; omega) | (simp only [ob, obA, R32, R64] at *; and_intros <;> omega)) ?_
      refine V_callV (M := MX12_stepOn) (N := MX12_byteAt) dX12_stepOn_52 lRX12_191 kX12_byteAt rfl (rfl) rfl (c_mByteAt (d := 0) hκ h2n hn5 (i := q) (by omega)) rfl rfl (Nat.le_of_ble_eq_true rfl) (fit_rm (by omega)) (⟨Nat.le_of_ble_eq_true rfl, Nat.le_of_ble_eq_true rfl⟩) (fun v Ω' hp => ?_) (fun _ _ h => h.elim)
      obtain ⟨rfl, rfl⟩ := hp
      rw [h2t, bAt, if_neg (by omega)]
      refine V_ex sX12_stepOn_55 (by rfl) (by first | exact trivial | exact Or.inr rfl | exact Or.inl rfl | (simp only [ob, obA, R32, R64] at *; omega) | (simp only [ob, obA, R32, R64] at *; and_intros <;> omega)) ?_
      refine V_icmpne dX12_stepOn_58 (tgt := 69) (by decide) (by simp only [R32, R64] at *; omega) (fun q58 => ?_) (fun q58 => ?_)
      · omega
      · refine V_ex sX12_stepOn_61 (by simp only [Option.toList, List.cons_append, List.nil_append, exN, ex1, gI, gL, gR, pI, pL, pR, lget, lset1, lset2, kl, b2I, b2L, nob, ob32, ob64, xGet, xPut, xLen, xLd, xLdR, xSt, obA, true_and, and_true, and_self, eq_self, Nat.reduceEqDiff, Nat.zero_ne_one, reduceIte, Nat.reduceLeDiff, and_false, false_and, show skd 11 21 = 0 from rfl, show LF.1 145 = some (.inl 11) from rfl, upd2_eq, Int.reduceToNat, Int.toNat_natCast]; rfl) (by first | exact trivial | exact Or.inr rfl | exact Or.inl rfl | (simp only [ob, obA, R32, R64] at *; omega) | (simp only [ob, obA, R32, R64] at *; and_intros <;> omega)) ?_
        refine V_goto dX12_stepOn_66 (tgt := 212) (by decide) ?_
        exact fin _ (uI (uI G1 145 24 (q : Nat)) 145 21 0) (-1, 0, n, n) [] (f2.up _ (by omega)) he.symm (fun a => absurd rfl a) (by rw [iv (by omega), iu, hqe]) (by rw [iv (by omega)]; exact h2q.trans (by rw [hqe])) (by rw [iu]; rfl) (fun a => absurd a (show ¬ (-1 : Int) = -2 by decide))
  have skip : ∀ (k q : Nat) (G1 : Wd), q + k = n → Fm G G1 → G1.1 145 19 = (q : Nat) → tk f n q = tk f n p → V κ MX12_stepOn (rmD d 0 0) (soP n p G) noX 0 0 μ 0 0 (Wm G1) 0 [some (VR 145), none] [] := by
    intro k
    induction k with
    | zero =>
      intro q G1 hk f1 hq he
      have hx1 := f1.tx hx
      have ht1 : G1.1 162 = f := f1.tape.trans hf
      refine V_ex sX12_stepOn_0 (by simp only [Option.toList, List.cons_append, List.nil_append, exN, ex1, gI, gL, gR, pI, pL, pR, lget, lset1, lset2, kl, b2I, b2L, nob, ob32, ob64, xGet, xPut, xLen, xLd, xLdR, xSt, obA, true_and, and_true, and_self, eq_self, Nat.reduceEqDiff, Nat.zero_ne_one, reduceIte, Nat.reduceLeDiff, and_false, false_and, show skd 11 19 = 0 from rfl, show LF.1 145 = some (.inl 11) from rfl, hq, upd2_eq, Int.reduceToNat, Int.toNat_natCast]; rfl) (by first | exact trivial | exact Or.inr rfl | exact Or.inl rfl | (simp only [ob, obA, R32, R64] at *; omega) | (simp only [ob, obA, R32, R64] at *; and_intros <;> omega)) ?_
      refine V_callV (M := MX12_stepOn) (N := MX12_byteAt) dX12_stepOn_5 lRX12_191 kX12_byteAt rfl (rfl) rfl (c_mByteAt (d := 0) hκ hx1.1 hn5 (i := q) (by omega)) rfl rfl (Nat.le_of_ble_eq_true rfl) (fit_rm (by omega)) (⟨Nat.le_of_ble_eq_true rfl, Nat.le_of_ble_eq_true rfl⟩) (fun v Ω' hp => ?_) (fun _ _ h => h.elim)
      obtain ⟨rfl, rfl⟩ := hp
      rw [ht1, bAt, if_neg (by omega)]
      refine V_ex sX12_stepOn_8 (by rfl) (by first | exact trivial | exact Or.inr rfl | exact Or.inl rfl | (simp only [ob, obA, R32, R64] at *; omega) | (simp only [ob, obA, R32, R64] at *; and_intros <;> omega)) ?_
      refine V_icmpeq dX12_stepOn_10 (tgt := 26) (by decide) (by simp only [R32, R64] at *; omega) (fun q10 => ?_) (fun q10 => ?_)
      · omega
      · refine V_ex sX12_stepOn_13 (by simp only [Option.toList, List.cons_append, List.nil_append, exN, ex1, gI, gL, gR, pI, pL, pR, lget, lset1, lset2, kl, b2I, b2L, nob, ob32, ob64, xGet, xPut, xLen, xLd, xLdR, xSt, obA, true_and, and_true, and_self, eq_self, Nat.reduceEqDiff, Nat.zero_ne_one, reduceIte, Nat.reduceLeDiff, and_false, false_and, show skd 11 19 = 0 from rfl, show LF.1 145 = some (.inl 11) from rfl, hq, upd2_eq, Int.reduceToNat, Int.toNat_natCast]; rfl) (by first | exact trivial | exact Or.inr rfl | exact Or.inl rfl | (simp only [ob, obA, R32, R64] at *; omega) | (simp only [ob, obA, R32, R64] at *; and_intros <;> omega)) ?_
        refine V_callV (M := MX12_stepOn) (N := MX12_byteAt) dX12_stepOn_18 lRX12_191 kX12_byteAt rfl (rfl) rfl (c_mByteAt (d := 0) hκ hx1.1 hn5 (i := q) (by omega)) rfl rfl (Nat.le_of_ble_eq_true rfl) (fit_rm (by omega)) (⟨Nat.le_of_ble_eq_true rfl, Nat.le_of_ble_eq_true rfl⟩) (fun v Ω' hp => ?_) (fun _ _ h => h.elim)
        obtain ⟨rfl, rfl⟩ := hp
        rw [ht1, bAt, if_neg (by omega)]
        refine V_ex sX12_stepOn_21 (by rfl) (by first | exact trivial | exact Or.inr rfl | exact Or.inl rfl | (simp only [ob, obA, R32, R64] at *; omega) | (simp only [ob, obA, R32, R64] at *; and_intros <;> omega)) ?_
        refine V_icmpne dX12_stepOn_23 (tgt := 39) (by decide) (by simp only [R32, R64] at *; omega) (fun q23 => ?_) (fun q23 => ?_)
        · exact body q G1 f1 hq (by omega) (by omega) he
        · omega
    | succ k ih =>
      intro q G1 hk f1 hq he
      have hx1 := f1.tx hx
      have ht1 : G1.1 162 = f := f1.tape.trans hf
      have hbq := hb q (by omega)
      have nx : isBl (f q) = true → V κ MX12_stepOn (rmD d 0 0) (soP n p G) noX 0 0 μ 0 0 (Wm (uI G1 145 19 ((q : Int) + 1))) 0 [some (VR 145), none] [] := fun hbl => ih (q + 1) _ (by omega) (f1.up _ (by omega)) (by rw [iu]; omega) (by rw [← he, tk_blank (by omega) hbl])
      refine V_ex sX12_stepOn_0 (by simp only [Option.toList, List.cons_append, List.nil_append, exN, ex1, gI, gL, gR, pI, pL, pR, lget, lset1, lset2, kl, b2I, b2L, nob, ob32, ob64, xGet, xPut, xLen, xLd, xLdR, xSt, obA, true_and, and_true, and_self, eq_self, Nat.reduceEqDiff, Nat.zero_ne_one, reduceIte, Nat.reduceLeDiff, and_false, false_and, show skd 11 19 = 0 from rfl, show LF.1 145 = some (.inl 11) from rfl, hq, upd2_eq, Int.reduceToNat, Int.toNat_natCast]; rfl) (by first | exact trivial | exact Or.inr rfl | exact Or.inl rfl | (simp only [ob, obA, R32, R64] at *; omega) | (simp only [ob, obA, R32, R64] at *; and_intros <;> omega)) ?_
      refine V_callV (M := MX12_stepOn) (N := MX12_byteAt) dX12_stepOn_5 lRX12_191 kX12_byteAt rfl (rfl) rfl (c_mByteAt (d := 0) hκ hx1.1 hn5 (i := q) (by omega)) rfl rfl (Nat.le_of_ble_eq_true rfl) (fit_rm (by omega)) (⟨Nat.le_of_ble_eq_true rfl, Nat.le_of_ble_eq_true rfl⟩) (fun v Ω' hp => ?_) (fun _ _ h => h.elim)
      obtain ⟨rfl, rfl⟩ := hp
      rw [ht1, bAt_nat (by omega)]
      refine V_ex sX12_stepOn_8 (by rfl) (by first | exact trivial | exact Or.inr rfl | exact Or.inl rfl | (simp only [ob, obA, R32, R64] at *; omega) | (simp only [ob, obA, R32, R64] at *; and_intros <;> omega)) ?_
      refine V_icmpeq dX12_stepOn_10 (tgt := 26) (by decide) (by simp only [R32, R64] at *; omega) (fun q10 => ?_) (fun q10 => ?_)
      · refine V_ex sX12_stepOn_26 (by simp only [Option.toList, List.cons_append, List.nil_append, exN, ex1, gI, gL, gR, pI, pL, pR, lget, lset1, lset2, kl, b2I, b2L, nob, ob32, ob64, xGet, xPut, xLen, xLd, xLdR, xSt, obA, true_and, and_true, and_self, eq_self, Nat.reduceEqDiff, Nat.zero_ne_one, reduceIte, Nat.reduceLeDiff, and_false, false_and, show skd 11 19 = 0 from rfl, show LF.1 145 = some (.inl 11) from rfl, hq, upd2_eq, Int.reduceToNat, Int.toNat_natCast]; rfl) (by first | exact trivial | exact Or.inr rfl | exact Or.inl rfl | (simp only [ob, obA, R32, R64] at *; omega) | (simp only [ob, obA, R32, R64] at *; and_intros <;> omega)) ?_
        refine V_goto dX12_stepOn_36 (tgt := 0) (by decide) ?_
        exact nx (decide_eq_true (by omega))
      · refine V_ex sX12_stepOn_13 (by simp only [Option.toList, List.cons_append, List.nil_append, exN, ex1, gI, gL, gR, pI, pL, pR, lget, lset1, lset2, kl, b2I, b2L, nob, ob32, ob64, xGet, xPut, xLen, xLd, xLdR, xSt, obA, true_and, and_true, and_self, eq_self, Nat.reduceEqDiff, Nat.zero_ne_one, reduceIte, Nat.reduceLeDiff, and_false, false_and, show skd 11 19 = 0 from rfl, show LF.1 145 = some (.inl 11) from rfl, hq, upd2_eq, Int.reduceToNat, Int.toNat_natCast]; rfl) (by first | exact trivial | exact Or.inr rfl | exact Or.inl rfl | (simp only [ob, obA, R32, R64] at *; omega) | (simp only [ob, obA, R32, R64] at *; and_intros <;> omega)) ?_
        refine V_callV (M := MX12_stepOn) (N := MX12_byteAt) dX12_stepOn_18 lRX12_191 kX12_byteAt rfl (rfl) rfl (c_mByteAt (d := 0) hκ hx1.1 hn5 (i := q) (by omega)) rfl rfl (Nat.le_of_ble_eq_true rfl) (fit_rm (by omega)) (⟨Nat.le_of_ble_eq_true rfl, Nat.le_of_ble_eq_true rfl⟩) (fun v Ω' hp => ?_) (fun _ _ h => h.elim)
        obtain ⟨rfl, rfl⟩ := hp
        rw [ht1, bAt_nat (by omega)]
        refine V_ex sX12_stepOn_21 (by rfl) (by first | exact trivial | exact Or.inr rfl | exact Or.inl rfl | (simp only [ob, obA, R32, R64] at *; omega) | (simp only [ob, obA, R32, R64] at *; and_intros <;> omega)) ?_
        refine V_icmpne dX12_stepOn_23 (tgt := 39) (by decide) (by simp only [R32, R64] at *; omega) (fun q23 => ?_) (fun q23 => ?_)
        · exact body q G1 f1 hq (by omega) (fun _ => decide_eq_false (by omega)) he
        · refine V_ex sX12_stepOn_26 (by simp only [Option.toList, List.cons_append, List.nil_append, exN, ex1, gI, gL, gR, pI, pL, pR, lget, lset1, lset2, kl, b2I, b2L, nob, ob32, ob64, xGet, xPut, xLen, xLd, xLdR, xSt, obA, true_and, and_true, and_self, eq_self, Nat.reduceEqDiff, Nat.zero_ne_one, reduceIte, Nat.reduceLeDiff, and_false, false_and, show skd 11 19 = 0 from rfl, show LF.1 145 = some (.inl 11) from rfl, hq, upd2_eq, Int.reduceToNat, Int.toNat_natCast]; rfl) (by first | exact trivial | exact Or.inr rfl | exact Or.inl rfl | (simp only [ob, obA, R32, R64] at *; omega) | (simp only [ob, obA, R32, R64] at *; and_intros <;> omega)) ?_
          refine V_goto dX12_stepOn_36 (tgt := 0) (by decide) ?_
          exact nx (decide_eq_true (by omega))
  exact skip (n - p) p G (by omega) (Fm.refl G) hp0 rfl
