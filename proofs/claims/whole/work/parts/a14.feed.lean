/-! TornLeaves: feed -/
/-- byte k of a word, the highest first -/
def fdB (w : Int) (k : Nat) : Int := match k with | 0 => w / 16777216 % 256 | 1 => w / 65536 % 256 | 2 => w / 256 % 256 | _ => w % 256
theorem fdB_R (w : Int) (k : Nat) : 0 ≤ fdB w k ∧ fdB w k ≤ 255 := by unfold fdB; split <;> omega
theorem p2_pos : ∀ k : Nat, (0 : Int) < 2 ^ k := by
  intro k
  induction k with
  | zero => decide
  | succ k ih => rw [Int.pow_succ]; omega
theorem iUsh_255 {x : Int} (hx : R32 x) {y : Int} (k : Nat) (hk : k ≤ 24) (hy : (((Int32.ofInt y).toUInt32 &&& Int32.toUInt32 31).toBitVec % 32).toNat = k) : iAnd (iUsh x y) 255 = x / 2 ^ k % 256 := by
  rw [iAnd_255]
  unfold iUsh
  have h1 := pk_ushr (Int32.ofInt x) (Int32.ofInt y) k hy
  have h3 := bv_toNat ((((Int32.ofInt x).toUInt32 >>> ((Int32.ofInt y).toUInt32 &&& Int32.toUInt32 31)).toInt32).toInt)
  rw [← bv_i32, Int32.ofInt_toInt, h1] at h3
  have h4 : (((Int32.ofInt x).toBitVec.toNat : Nat) : Int) = x % 4294967296 := by rw [bv_i32]; exact bv_toNat x
  have h5 : (((Int32.ofInt x).toBitVec.toNat / 2 ^ k : Nat) : Int) = x % 4294967296 / 2 ^ k := by rw [Int.natCast_ediv, h4]; simp
  rw [h5] at h3
  generalize (((Int32.ofInt x).toUInt32 >>> ((Int32.ofInt y).toUInt32 &&& Int32.toUInt32 31)).toInt32).toInt = v at *
  have e1 : v % 256 = (v % 4294967296) % 256 := (Int.emod_emod_of_dvd v (by decide)).symm
  rw [e1, ← h3]
  have hp : (2 : Int) ^ k * 2 ^ (32 - k) = 4294967296 := by rw [← Int.pow_add, show k + (32 - k) = 32 by omega]; rfl
  have hd : (256 : Int) ∣ 2 ^ (32 - k) := ⟨2 ^ (24 - k), by rw [show (256 : Int) = 2 ^ 8 by rfl, ← Int.pow_add, show 8 + (24 - k) = 32 - k by omega]⟩
  have hpos : (0 : Int) < 2 ^ k := p2_pos k
  have e2 : x % 4294967296 / 2 ^ k = x / 2 ^ k - 2 ^ (32 - k) * (x / 4294967296) := by
    have : x % 4294967296 = x - 2 ^ k * (2 ^ (32 - k) * (x / 4294967296)) := by
      rw [← Int.mul_assoc, hp]; omega
    rw [this, Int.sub_eq_add_neg, ← Int.mul_neg, Int.add_mul_ediv_left _ _ (by omega)]
    omega
  rw [e2]
  obtain ⟨c, hc⟩ := hd
  rw [hc, Int.mul_assoc, Int.sub_eq_add_neg, ← Int.mul_neg, Int.add_mul_emod_self_left]
theorem fd_24 {w : Int} (h : R32 w) : iAnd (iUsh w 24) 255 = fdB w 0 := iUsh_255 h 24 (by omega) (by decide)
theorem fd_16 {w : Int} (h : R32 w) : iAnd (iUsh w 16) 255 = fdB w 1 := iUsh_255 h 16 (by omega) (by decide)
theorem fd_8 {w : Int} (h : R32 w) : iAnd (iUsh w 8) 255 = fdB w 2 := iUsh_255 h 8 (by omega) (by decide)
theorem fd_0 {w : Int} (h : R32 w) : iAnd (iUsh w 0) 255 = fdB w 3 := by rw [iUsh_255 h 0 (by omega) (by decide)]; show w / 1 % 256 = _; rw [Int.ediv_one]; rfl
/-- the tape's cells and its length alone -/
def FTp (G G' : Wd) : Prop := G'.2 = G.2 ∧ ∀ x j, x ≠ 2 → ¬ (x = 1 ∧ j = 1) → G'.1 x j = G.1 x j
theorem FTp.trans {G G' G'' : Wd} (h : FTp G G') (h' : FTp G' G'') : FTp G G'' := ⟨h'.1.trans h.1, fun x j a b => (h'.2 x j a b).trans (h.2 x j a b)⟩
def ffP (L : Nat) (w : Int) (G : Wd) : Option Vl → Om → Prop := fun v Ω' => v = none ∧ ∃ G', Ω' = Wm G' ∧ FTp G G' ∧ G'.1 1 1 = ((L + 4 : Nat) : Int) ∧ ∀ j, G'.1 2 j = if L ≤ j ∧ j < L + 4 then fdB w (j - L) else G.1 2 j
set_option maxRecDepth 100000 in
set_option maxHeartbeats 4000000 in
theorem c_feed4 {κ : Kx} (hκ : KOK κ) {d L : Nat} {w : Int} {G : Wd} (hw : R32 w) (hL : G.1 1 1 = (L : Int)) (hL5 : L + 4 ≤ 500) (hd : 1 ≤ d) : Ct κ MX11_feedFour d 0 0 [VR 1, VI w] (Wm G) (ffP L w G) noX := by
  refine Ct_of hκ kX11_feedFour.1 rfl (Nat.le_of_ble_eq_true rfl) (ls := [some (VR 1), some (VI w), none]) rfl (fun μ => ?_)
  have f0 := fd_24 hw
  have f1 := fd_16 hw
  have f2 := fd_8 hw
  have f3 := fd_0 hw
  have i1 : (24 : Int) + -8 = 16 := rfl
  have i2 : (16 : Int) + -8 = 8 := rfl
  have i3 : (8 : Int) + -8 = 0 := rfl
  have i4 : (0 : Int) + -8 = -8 := rfl
  refine V_ex sX11_feedFour_0 (by rfl) (by first | exact trivial | exact Or.inr rfl | exact Or.inl rfl | (simp only [ob, obA, R32, R64] at *; omega) | (simp only [ob, obA, R32, R64] at *; and_intros <;> omega)) ?_
  refine V_ex sX11_feedFour_3 (by rfl) (by first | exact trivial | exact Or.inr rfl | exact Or.inl rfl | (simp only [ob, obA, R32, R64] at *; omega) | (simp only [ob, obA, R32, R64] at *; and_intros <;> omega)) ?_
  refine V_iflt dX11_feedFour_4 (tgt := 41) (by decide) (by simp only [R32, R64] at *; omega) (fun q4 => ?_) (fun q4 => ?_)
  · omega
  · refine V_ex sX11_feedFour_7 (by simp only [Option.toList, List.cons_append, List.nil_append, exN, ex1, gI, gL, gR, pI, pL, pR, lget, lset1, lset2, kl, b2I, b2L, nob, ob32, ob64, xGet, xPut, xLen, xLd, xLdR, xSt, obA, true_and, and_true, and_self, eq_self, Nat.reduceEqDiff, Nat.zero_ne_one, reduceIte, Nat.reduceLeDiff, and_false, false_and, show skd 10 0 = 2 from rfl, show skd 10 1 = 0 from rfl, show LF.1 1 = some (.inl 10) from rfl, show LF.2 1 0 = some 2 from rfl, hL, f0, f1, f2, f3, i1, i2, i3, i4, upd2_eq, Int.reduceToNat, Int.toNat_natCast]; rfl) (by first | exact trivial | exact Or.inr rfl | exact Or.inl rfl | (simp only [ob, obA, R32, R64] at *; omega) | (simp only [ob, obA, R32, R64] at *; and_intros <;> omega)) ?_
    refine V_callS (M := MX11_feedFour) (N := MX11_setAt) dX11_feedFour_22 lRX11_87 kX11_setAt rfl (c_setAt (d := 0) hκ (a := 2) (n := 500) rfl (by decide) (by unfold R32; omega)) rfl rfl (Nat.le_of_ble_eq_true rfl) (fit_rm (by omega)) (⟨Nat.le_of_ble_eq_true rfl, Nat.le_of_ble_eq_true rfl⟩) (fun v Ω' hp => ?_) (fun _ _ h => h.elim)
    obtain ⟨rfl, rfl⟩ := hp
    rw [rSet_nat L rfl (by omega)]
    refine V_ex sX11_feedFour_25 (by simp only [Option.toList, List.cons_append, List.nil_append, exN, ex1, gI, gL, gR, pI, pL, pR, lget, lset1, lset2, kl, b2I, b2L, nob, ob32, ob64, xGet, xPut, xLen, xLd, xLdR, xSt, obA, true_and, and_true, and_self, eq_self, Nat.reduceEqDiff, Nat.zero_ne_one, reduceIte, Nat.reduceLeDiff, and_false, false_and, show skd 10 1 = 0 from rfl, show LF.1 1 = some (.inl 10) from rfl, hL, f0, f1, f2, f3, i1, i2, i3, i4, upd2_eq, Int.reduceToNat, Int.toNat_natCast]; rfl) (by first | exact trivial | exact Or.inr rfl | exact Or.inl rfl | (simp only [ob, obA, R32, R64] at *; omega) | (simp only [ob, obA, R32, R64] at *; and_intros <;> omega)) ?_
    refine V_goto dX11_feedFour_38 (tgt := 3) (by decide) ?_
    refine V_ex sX11_feedFour_3 (by rfl) (by first | exact trivial | exact Or.inr rfl | exact Or.inl rfl | (simp only [ob, obA, R32, R64] at *; omega) | (simp only [ob, obA, R32, R64] at *; and_intros <;> omega)) ?_
    refine V_iflt dX11_feedFour_4 (tgt := 41) (by decide) (by simp only [R32, R64] at *; omega) (fun q4 => ?_) (fun q4 => ?_)
    · omega
    · refine V_ex sX11_feedFour_7 (by simp only [Option.toList, List.cons_append, List.nil_append, exN, ex1, gI, gL, gR, pI, pL, pR, lget, lset1, lset2, kl, b2I, b2L, nob, ob32, ob64, xGet, xPut, xLen, xLd, xLdR, xSt, obA, true_and, and_true, and_self, eq_self, Nat.reduceEqDiff, Nat.zero_ne_one, reduceIte, Nat.reduceLeDiff, and_false, false_and, show skd 10 0 = 2 from rfl, show skd 10 1 = 0 from rfl, show LF.1 1 = some (.inl 10) from rfl, show LF.2 1 0 = some 2 from rfl, hL, f0, f1, f2, f3, i1, i2, i3, i4, upd2_eq, Int.reduceToNat, Int.toNat_natCast]; rfl) (by first | exact trivial | exact Or.inr rfl | exact Or.inl rfl | (simp only [ob, obA, R32, R64] at *; omega) | (simp only [ob, obA, R32, R64] at *; and_intros <;> omega)) ?_
      refine V_callS (M := MX11_feedFour) (N := MX11_setAt) dX11_feedFour_22 lRX11_87 kX11_setAt rfl (c_setAt (d := 0) hκ (a := 2) (n := 500) rfl (by decide) (by unfold R32; omega)) rfl rfl (Nat.le_of_ble_eq_true rfl) (fit_rm (by omega)) (⟨Nat.le_of_ble_eq_true rfl, Nat.le_of_ble_eq_true rfl⟩) (fun v Ω' hp => ?_) (fun _ _ h => h.elim)
      obtain ⟨rfl, rfl⟩ := hp
      rw [rSet_nat (L + 1) (by omega) (by omega)]
      refine V_ex sX11_feedFour_25 (by simp only [Option.toList, List.cons_append, List.nil_append, exN, ex1, gI, gL, gR, pI, pL, pR, lget, lset1, lset2, kl, b2I, b2L, nob, ob32, ob64, xGet, xPut, xLen, xLd, xLdR, xSt, obA, true_and, and_true, and_self, eq_self, Nat.reduceEqDiff, Nat.zero_ne_one, reduceIte, Nat.reduceLeDiff, and_false, false_and, show skd 10 1 = 0 from rfl, show LF.1 1 = some (.inl 10) from rfl, hL, f0, f1, f2, f3, i1, i2, i3, i4, upd2_eq, Int.reduceToNat, Int.toNat_natCast]; rfl) (by first | exact trivial | exact Or.inr rfl | exact Or.inl rfl | (simp only [ob, obA, R32, R64] at *; omega) | (simp only [ob, obA, R32, R64] at *; and_intros <;> omega)) ?_
      refine V_goto dX11_feedFour_38 (tgt := 3) (by decide) ?_
      refine V_ex sX11_feedFour_3 (by rfl) (by first | exact trivial | exact Or.inr rfl | exact Or.inl rfl | (simp only [ob, obA, R32, R64] at *; omega) | (simp only [ob, obA, R32, R64] at *; and_intros <;> omega)) ?_
      refine V_iflt dX11_feedFour_4 (tgt := 41) (by decide) (by simp only [R32, R64] at *; omega) (fun q4 => ?_) (fun q4 => ?_)
      · omega
      · refine V_ex sX11_feedFour_7 (by simp only [Option.toList, List.cons_append, List.nil_append, exN, ex1, gI, gL, gR, pI, pL, pR, lget, lset1, lset2, kl, b2I, b2L, nob, ob32, ob64, xGet, xPut, xLen, xLd, xLdR, xSt, obA, true_and, and_true, and_self, eq_self, Nat.reduceEqDiff, Nat.zero_ne_one, reduceIte, Nat.reduceLeDiff, and_false, false_and, show skd 10 0 = 2 from rfl, show skd 10 1 = 0 from rfl, show LF.1 1 = some (.inl 10) from rfl, show LF.2 1 0 = some 2 from rfl, hL, f0, f1, f2, f3, i1, i2, i3, i4, upd2_eq, Int.reduceToNat, Int.toNat_natCast]; rfl) (by first | exact trivial | exact Or.inr rfl | exact Or.inl rfl | (simp only [ob, obA, R32, R64] at *; omega) | (simp only [ob, obA, R32, R64] at *; and_intros <;> omega)) ?_
        refine V_callS (M := MX11_feedFour) (N := MX11_setAt) dX11_feedFour_22 lRX11_87 kX11_setAt rfl (c_setAt (d := 0) hκ (a := 2) (n := 500) rfl (by decide) (by unfold R32; omega)) rfl rfl (Nat.le_of_ble_eq_true rfl) (fit_rm (by omega)) (⟨Nat.le_of_ble_eq_true rfl, Nat.le_of_ble_eq_true rfl⟩) (fun v Ω' hp => ?_) (fun _ _ h => h.elim)
        obtain ⟨rfl, rfl⟩ := hp
        rw [rSet_nat (L + 2) (by omega) (by omega)]
        refine V_ex sX11_feedFour_25 (by simp only [Option.toList, List.cons_append, List.nil_append, exN, ex1, gI, gL, gR, pI, pL, pR, lget, lset1, lset2, kl, b2I, b2L, nob, ob32, ob64, xGet, xPut, xLen, xLd, xLdR, xSt, obA, true_and, and_true, and_self, eq_self, Nat.reduceEqDiff, Nat.zero_ne_one, reduceIte, Nat.reduceLeDiff, and_false, false_and, show skd 10 1 = 0 from rfl, show LF.1 1 = some (.inl 10) from rfl, hL, f0, f1, f2, f3, i1, i2, i3, i4, upd2_eq, Int.reduceToNat, Int.toNat_natCast]; rfl) (by first | exact trivial | exact Or.inr rfl | exact Or.inl rfl | (simp only [ob, obA, R32, R64] at *; omega) | (simp only [ob, obA, R32, R64] at *; and_intros <;> omega)) ?_
        refine V_goto dX11_feedFour_38 (tgt := 3) (by decide) ?_
        refine V_ex sX11_feedFour_3 (by rfl) (by first | exact trivial | exact Or.inr rfl | exact Or.inl rfl | (simp only [ob, obA, R32, R64] at *; omega) | (simp only [ob, obA, R32, R64] at *; and_intros <;> omega)) ?_
        refine V_iflt dX11_feedFour_4 (tgt := 41) (by decide) (by simp only [R32, R64] at *; omega) (fun q4 => ?_) (fun q4 => ?_)
        · omega
        · refine V_ex sX11_feedFour_7 (by simp only [Option.toList, List.cons_append, List.nil_append, exN, ex1, gI, gL, gR, pI, pL, pR, lget, lset1, lset2, kl, b2I, b2L, nob, ob32, ob64, xGet, xPut, xLen, xLd, xLdR, xSt, obA, true_and, and_true, and_self, eq_self, Nat.reduceEqDiff, Nat.zero_ne_one, reduceIte, Nat.reduceLeDiff, and_false, false_and, show skd 10 0 = 2 from rfl, show skd 10 1 = 0 from rfl, show LF.1 1 = some (.inl 10) from rfl, show LF.2 1 0 = some 2 from rfl, hL, f0, f1, f2, f3, i1, i2, i3, i4, upd2_eq, Int.reduceToNat, Int.toNat_natCast]; rfl) (by first | exact trivial | exact Or.inr rfl | exact Or.inl rfl | (simp only [ob, obA, R32, R64] at *; omega) | (simp only [ob, obA, R32, R64] at *; and_intros <;> omega)) ?_
          refine V_callS (M := MX11_feedFour) (N := MX11_setAt) dX11_feedFour_22 lRX11_87 kX11_setAt rfl (c_setAt (d := 0) hκ (a := 2) (n := 500) rfl (by decide) (by unfold R32; omega)) rfl rfl (Nat.le_of_ble_eq_true rfl) (fit_rm (by omega)) (⟨Nat.le_of_ble_eq_true rfl, Nat.le_of_ble_eq_true rfl⟩) (fun v Ω' hp => ?_) (fun _ _ h => h.elim)
          obtain ⟨rfl, rfl⟩ := hp
          rw [rSet_nat (L + 3) (by omega) (by omega)]
          refine V_ex sX11_feedFour_25 (by simp only [Option.toList, List.cons_append, List.nil_append, exN, ex1, gI, gL, gR, pI, pL, pR, lget, lset1, lset2, kl, b2I, b2L, nob, ob32, ob64, xGet, xPut, xLen, xLd, xLdR, xSt, obA, true_and, and_true, and_self, eq_self, Nat.reduceEqDiff, Nat.zero_ne_one, reduceIte, Nat.reduceLeDiff, and_false, false_and, show skd 10 1 = 0 from rfl, show LF.1 1 = some (.inl 10) from rfl, hL, f0, f1, f2, f3, i1, i2, i3, i4, upd2_eq, Int.reduceToNat, Int.toNat_natCast]; rfl) (by first | exact trivial | exact Or.inr rfl | exact Or.inl rfl | (simp only [ob, obA, R32, R64] at *; omega) | (simp only [ob, obA, R32, R64] at *; and_intros <;> omega)) ?_
          refine V_goto dX11_feedFour_38 (tgt := 3) (by decide) ?_
          refine V_ex sX11_feedFour_3 (by rfl) (by first | exact trivial | exact Or.inr rfl | exact Or.inl rfl | (simp only [ob, obA, R32, R64] at *; omega) | (simp only [ob, obA, R32, R64] at *; and_intros <;> omega)) ?_
          refine V_iflt dX11_feedFour_4 (tgt := 41) (by decide) (by simp only [R32, R64] at *; omega) (fun q4 => ?_) (fun q4 => ?_)
          · refine V_vret dX11_feedFour_41 rfl (by decide) ?_
            refine ⟨rfl, _, rfl, ⟨rfl, fun x j a b => ?_⟩, ?_, fun j => ?_⟩
            · simp only [upd2_eq]; rw [if_neg b, if_neg (by omega), if_neg b, if_neg (by omega), if_neg b, if_neg (by omega), if_neg b, if_neg (by omega)]
            · simp only [upd2_eq]; rw [if_pos ⟨trivial, trivial⟩]; omega
            · rcases (by omega : j = L ∨ j = L + 1 ∨ j = L + 2 ∨ j = L + 3 ∨ ¬ (L ≤ j ∧ j < L + 4)) with q | q | q | q | q
              · subst q; rw [if_pos (by omega), show j - j = 0 by omega]; simp [upd2_eq]
              · subst q; rw [if_pos (by omega), show L + 1 - L = 1 by omega]; simp [upd2_eq]
              · subst q; rw [if_pos (by omega), show L + 2 - L = 2 by omega]; simp [upd2_eq]
              · subst q; rw [if_pos (by omega), show L + 3 - L = 3 by omega]; simp [upd2_eq]
              · rw [if_neg q]; simp only [upd2_eq]; rw [if_neg (by omega), if_neg (by omega), if_neg (by omega), if_neg (by omega), if_neg (by omega), if_neg (by omega), if_neg (by omega), if_neg (by omega)]
          · omega
/-- the tape behind five words -/
def tpF (f : Nat → Int) (L : Nat) (a b c e g : Int) : Nat → Int := fun j => if L ≤ j ∧ j < L + 20 then fdB (match (j - L) / 4 with | 0 => a | 1 => b | 2 => c | 3 => e | _ => g) ((j - L) % 4) else f j
def feedP (A : Ab) (a b c e g : Int) : Int × Int × Ab := if 500 < A.2.2.2.1.2.1 + 20 then (0, -1, A) else (0, A.2.2.2.1.2.1 + 20, (A.1, A.2.1, A.2.2.1, (A.2.2.2.1.1, A.2.2.2.1.2.1 + 20, tpF A.2.2.2.1.2.2 A.2.2.2.1.2.1.toNat a b c e g), A.2.2.2.2))
theorem RC_t {G G' : Wd} {s : Nat} {A : Ab} {f' : Nat → Int} {n' : Int} {K : Int} (h : RC G s A) (hI : Inv K A) (f : FTp G G') (hn : G'.1 1 1 = n') (hf : ∀ j, j < 500 → G'.1 2 j = f' j) : RC G' s (A.1, A.2.1, A.2.2.1, (A.2.2.2.1.1, n', f'), A.2.2.2.2) := by
  obtain ⟨⟨r1, r2, r3⟩, r4, r5, r6, r7, r8, r9, r10, r11, r12, r13, r14, r15, r16⟩ := h
  have hs8 : s = 8 ∨ s = 61 := r3
  have fx : ∀ x, 2 < x → G'.1 x = G.1 x := fun x a => by funext j; exact f.2 x j (by omega) (by omega)
  exact ⟨⟨by rw [f.1]; exact r1, by rw [f.1]; exact r2, r3⟩, ShC_same r4 (fun x j a b => by rw [fx _ (by omega)]) hI.1.2.2.1 hI.1.1, cacheC_c r5 (fx _ (by omega)), evC_c r6 (fun x a b => fx x (by omega)), by rw [f.2 _ _ (by omega) (by omega)]; exact r7, imC_c r8 hI.1.1 (fun x a b => fx x (by omega)) (fun x a b => fx x (by omega)), by rw [f.2 _ _ (by omega) (by omega)]; exact r9, hn, hf, by rw [fx 135 (by omega)]; exact kpO_c r12 (fx _ (by omega)), by rw [fx 140 (by omega)]; exact kpO_c r13 (fx _ (by omega)), fun j => by rw [fx _ (by omega)]; exact r14 j, fun j => by rw [fx _ (by omega)]; exact r15 j, fun j => by rw [fx _ (by omega)]; exact r16 j⟩
set_option maxRecDepth 100000 in
set_option maxHeartbeats 4000000 in
theorem c_xFeed {κ : Kx} (hκ : KOK κ) {d s : Nat} {K a b c e g : Int} {A : Ab} {G : Wd} (hC : RC G s A) (hI : Inv K A) (hR : aR G) (ha : R32 a) (hb : R32 b) (hc : R32 c) (he : R32 e) (hg : R32 g) (hd : 20 ≤ d) : Ct κ MX11_feed d 16 128 [VR 1, VI a, VI b, VI c, VI e, VI g] (Wm G) (cP G (feedP A a b c e g).2.2 ((feedP A a b c e g).1 = 0) (some (VI (feedP A a b c e g).2.1))) noX := by
  refine Ct_of hκ kX11_feed.1 rfl (Nat.le_of_ble_eq_true rfl) (ls := [some (VR 1), some (VI a), some (VI b), some (VI c), some (VI e), some (VI g)]) rfl (fun μ => ?_)
  have hI5 := hI.2.2.2.2.1
  have h1 : G.1 1 1 = A.2.2.2.1.2.1 := hC.2.2.2.2.2.2.2.1
  have h2 := hC.2.2.2.2.2.2.2.2.1
  by_cases hl : 500 < A.2.2.2.1.2.1 + 20
  · have ee : feedP A a b c e g = (0, -1, A) := by unfold feedP; rw [if_pos hl]
    refine V_ex sX11_feed_0 (by simp only [Option.toList, List.cons_append, List.nil_append, exN, ex1, gI, gL, gR, pI, pL, pR, lget, lset1, lset2, kl, b2I, b2L, nob, ob32, ob64, xGet, xPut, xLen, xLd, xLdR, xSt, obA, true_and, and_true, and_self, eq_self, Nat.reduceEqDiff, Nat.zero_ne_one, reduceIte, Nat.reduceLeDiff, and_false, false_and, show skd 10 1 = 0 from rfl, show LF.1 1 = some (.inl 10) from rfl, h1, upd2_eq, Int.reduceToNat, Int.toNat_natCast]; rfl) (by first | exact trivial | exact Or.inr rfl | exact Or.inl rfl | (simp only [ob, obA, R32, R64] at *; omega) | (simp only [ob, obA, R32, R64] at *; and_intros <;> omega)) ?_
    refine V_icmple dX11_feed_10 (tgt := 15) (by decide) (by simp only [R32, R64] at *; omega) (fun q10 => ?_) (fun q10 => ?_)
    · omega
    · refine V_ex sX11_feed_13 (by rfl) (by first | exact trivial | exact Or.inr rfl | exact Or.inl rfl | (simp only [ob, obA, R32, R64] at *; omega) | (simp only [ob, obA, R32, R64] at *; and_intros <;> omega)) ?_
      refine V_iret dX11_feed_14 rfl (by decide) (by rw [ee]; exact cP_0 hC rfl rfl)
  · have ee : feedP A a b c e g = (0, A.2.2.2.1.2.1 + 20, (A.1, A.2.1, A.2.2.1, (A.2.2.2.1.1, A.2.2.2.1.2.1 + 20, tpF A.2.2.2.1.2.2 A.2.2.2.1.2.1.toNat a b c e g), A.2.2.2.2)) := by unfold feedP; rw [if_neg hl]
    obtain ⟨L, hLL⟩ : ∃ L : Nat, A.2.2.2.1.2.1 = (L : Int) := ⟨A.2.2.2.1.2.1.toNat, by omega⟩
    refine V_ex sX11_feed_0 (by simp only [Option.toList, List.cons_append, List.nil_append, exN, ex1, gI, gL, gR, pI, pL, pR, lget, lset1, lset2, kl, b2I, b2L, nob, ob32, ob64, xGet, xPut, xLen, xLd, xLdR, xSt, obA, true_and, and_true, and_self, eq_self, Nat.reduceEqDiff, Nat.zero_ne_one, reduceIte, Nat.reduceLeDiff, and_false, false_and, show skd 10 1 = 0 from rfl, show LF.1 1 = some (.inl 10) from rfl, h1, upd2_eq, Int.reduceToNat, Int.toNat_natCast]; rfl) (by first | exact trivial | exact Or.inr rfl | exact Or.inl rfl | (simp only [ob, obA, R32, R64] at *; omega) | (simp only [ob, obA, R32, R64] at *; and_intros <;> omega)) ?_
    refine V_icmple dX11_feed_10 (tgt := 15) (by decide) (by simp only [R32, R64] at *; omega) (fun q10 => ?_) (fun q10 => ?_)
    · refine V_ex sX11_feed_15 (by rfl) (by first | exact trivial | exact Or.inr rfl | exact Or.inl rfl | (simp only [ob, obA, R32, R64] at *; omega) | (simp only [ob, obA, R32, R64] at *; and_intros <;> omega)) ?_
      refine V_callV (M := MX11_feed) (N := MX11_feedFour) dX11_feed_17 lRX11_83 kX11_feedFour rfl (rfl) rfl (c_feed4 (d := 2) hκ ha (L := L) (by rw [h1, hLL]) (by omega) (by omega)) rfl rfl (Nat.le_of_ble_eq_true rfl) (fit_rm (by omega)) (⟨Nat.le_of_ble_eq_true rfl, Nat.le_of_ble_eq_true rfl⟩) (fun v Ω' hp => ?_) (fun _ _ h => h.elim)
      obtain ⟨rfl, G1, rfl, f1, l1, t1⟩ := hp
      refine V_ex sX11_feed_20 (by rfl) (by first | exact trivial | exact Or.inr rfl | exact Or.inl rfl | (simp only [ob, obA, R32, R64] at *; omega) | (simp only [ob, obA, R32, R64] at *; and_intros <;> omega)) ?_
      refine V_callV (M := MX11_feed) (N := MX11_feedFour) dX11_feed_22 lRX11_83 kX11_feedFour rfl (rfl) rfl (c_feed4 (d := 2) hκ hb (L := L + 4) l1 (by omega) (by omega)) rfl rfl (Nat.le_of_ble_eq_true rfl) (fit_rm (by omega)) (⟨Nat.le_of_ble_eq_true rfl, Nat.le_of_ble_eq_true rfl⟩) (fun v Ω' hp => ?_) (fun _ _ h => h.elim)
      obtain ⟨rfl, G2, rfl, f2, l2, t2⟩ := hp
      refine V_ex sX11_feed_25 (by rfl) (by first | exact trivial | exact Or.inr rfl | exact Or.inl rfl | (simp only [ob, obA, R32, R64] at *; omega) | (simp only [ob, obA, R32, R64] at *; and_intros <;> omega)) ?_
      refine V_callV (M := MX11_feed) (N := MX11_feedFour) dX11_feed_27 lRX11_83 kX11_feedFour rfl (rfl) rfl (c_feed4 (d := 2) hκ hc (L := L + 8) l2 (by omega) (by omega)) rfl rfl (Nat.le_of_ble_eq_true rfl) (fit_rm (by omega)) (⟨Nat.le_of_ble_eq_true rfl, Nat.le_of_ble_eq_true rfl⟩) (fun v Ω' hp => ?_) (fun _ _ h => h.elim)
      obtain ⟨rfl, G3, rfl, f3, l3, t3⟩ := hp
      refine V_ex sX11_feed_30 (by rfl) (by first | exact trivial | exact Or.inr rfl | exact Or.inl rfl | (simp only [ob, obA, R32, R64] at *; omega) | (simp only [ob, obA, R32, R64] at *; and_intros <;> omega)) ?_
      refine V_callV (M := MX11_feed) (N := MX11_feedFour) dX11_feed_33 lRX11_83 kX11_feedFour rfl (rfl) rfl (c_feed4 (d := 2) hκ he (L := L + 12) l3 (by omega) (by omega)) rfl rfl (Nat.le_of_ble_eq_true rfl) (fit_rm (by omega)) (⟨Nat.le_of_ble_eq_true rfl, Nat.le_of_ble_eq_true rfl⟩) (fun v Ω' hp => ?_) (fun _ _ h => h.elim)
      obtain ⟨rfl, G4, rfl, f4, l4, t4⟩ := hp
      refine V_ex sX11_feed_36 (by rfl) (by first | exact trivial | exact Or.inr rfl | exact Or.inl rfl | (simp only [ob, obA, R32, R64] at *; omega) | (simp only [ob, obA, R32, R64] at *; and_intros <;> omega)) ?_
      refine V_callV (M := MX11_feed) (N := MX11_feedFour) dX11_feed_39 lRX11_83 kX11_feedFour rfl (rfl) rfl (c_feed4 (d := 2) hκ hg (L := L + 16) l4 (by omega) (by omega)) rfl rfl (Nat.le_of_ble_eq_true rfl) (fit_rm (by omega)) (⟨Nat.le_of_ble_eq_true rfl, Nat.le_of_ble_eq_true rfl⟩) (fun v Ω' hp => ?_) (fun _ _ h => h.elim)
      obtain ⟨rfl, G5, rfl, f5, l5, t5⟩ := hp
      refine V_ex sX11_feed_42 (by simp only [Option.toList, List.cons_append, List.nil_append, exN, ex1, gI, gL, gR, pI, pL, pR, lget, lset1, lset2, kl, b2I, b2L, nob, ob32, ob64, xGet, xPut, xLen, xLd, xLdR, xSt, obA, true_and, and_true, and_self, eq_self, Nat.reduceEqDiff, Nat.zero_ne_one, reduceIte, Nat.reduceLeDiff, and_false, false_and, show skd 10 1 = 0 from rfl, show LF.1 1 = some (.inl 10) from rfl, l5, upd2_eq, Int.reduceToNat, Int.toNat_natCast]; rfl) (by first | exact trivial | exact Or.inr rfl | exact Or.inl rfl | (simp only [ob, obA, R32, R64] at *; omega) | (simp only [ob, obA, R32, R64] at *; and_intros <;> omega)) ?_
      refine V_iret dX11_feed_46 rfl (by decide) ?_
      rw [ee]
      have ff := (((f1.trans f2).trans f3).trans f4).trans f5
      have hl5 : G5.1 1 1 = A.2.2.2.1.2.1 + 20 := by rw [l5, hLL]; omega
      refine ⟨rfl, viE (l5.symm.trans hl5), G5, s, rfl, RC_t hC hI ff hl5 (fun j hj => ?_), FrC.of (fun x p => by funext y; exact ff.2 x y (by omega) (by omega)) ff.1⟩
      have hLn : A.2.2.2.1.2.1.toNat = L := by omega
      unfold tpF
      rw [hLn, t5, t4, t3, t2, t1, h2 j hj]
      by_cases q0 : L ≤ j ∧ j < L + 20
      · rw [if_pos q0]
        by_cases q1 : j < L + 4
        · rw [if_neg (by omega), if_neg (by omega), if_neg (by omega), if_neg (by omega), if_pos (by omega), show (j - L) / 4 = 0 by omega, show (j - L) % 4 = j - L by omega]; rfl
        · by_cases q2 : j < L + 8
          · rw [if_neg (by omega), if_neg (by omega), if_neg (by omega), if_pos (by omega), show (j - L) / 4 = 1 by omega, show (j - L) % 4 = j - (L + 4) by omega]; rfl
          · by_cases q3 : j < L + 12
            · rw [if_neg (by omega), if_neg (by omega), if_pos (by omega), show (j - L) / 4 = 2 by omega, show (j - L) % 4 = j - (L + 8) by omega]; rfl
            · by_cases q4 : j < L + 16
              · rw [if_neg (by omega), if_pos (by omega), show (j - L) / 4 = 3 by omega, show (j - L) % 4 = j - (L + 12) by omega]; rfl
              · rw [if_pos (by omega), show (j - L) / 4 = 4 by omega, show (j - L) % 4 = j - (L + 16) by omega]; rfl
      · rw [if_neg (by omega), if_neg (by omega), if_neg (by omega), if_neg (by omega), if_neg (by omega), if_neg q0]
    · omega
