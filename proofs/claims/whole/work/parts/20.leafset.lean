/-! rows behind a test of the index; LeafSet: leaves as bits -/
abbrev uI (G : Wd) (a k : Nat) (z : Int) : Wd := (upd2 G.1 a k z, G.2)
abbrev uL (G : Wd) (a k : Nat) (z : Int) : Wd := (G.1, upd2 G.2.1 a k z, G.2.2)
abbrev keepG (G : Wd) (r : Vl) : Option Vl → Om → Prop := fun v Ω' => v = some r ∧ Ω' = Wm G
abbrev voidG (G : Wd) : Option Vl → Om → Prop := fun v Ω' => v = none ∧ Ω' = Wm G
def rAt (f : Nat → Int) (n : Nat) (i : Int) : Int := if 0 ≤ i ∧ i < (n : Nat) then f i.toNat else 0
def rSet (G : Wd) (a n : Nat) (i z : Int) : Wd := if 0 ≤ i ∧ i < (n : Nat) then uI G a i.toNat z else G
theorem c_at {κ : Kx} (hκ : KOK κ) {d a n : Nat} {i : Int} {G : Wd} (ha : LF.1 a = some (.inr (0, n))) (hn : n < 2147483648) (hi : R32 i) : Ct κ MX11_at d 0 0 [VR a, VI i] (Wm G) (keepG G (VI (rAt (G.1 a) n i))) noX := by
  refine Ct_of hκ kX11_at.1 rfl (Nat.le_of_ble_eq_true rfl) (ls := [some (VR a), some (VI i)]) rfl (fun μ => ?_)
  refine V_ex sX11_at_0 (by rfl) (by exact trivial) ?_
  refine V_iflt dX11_at_1 (tgt := 16) (by decide) (by exact hi) (fun q => ?_) (fun q => ?_)
  · refine V_ex sX11_at_16 (by rfl) (by exact trivial) ?_
    refine V_iret dX11_at_17 rfl (by decide) ⟨by rw [rAt, if_neg (by omega)], rfl⟩
  · refine V_ex sX11_at_4 (by simp only [exN, ex1, gI, gL, gR, pI, pL, pR, lget, lset1, lset2, kl, b2I, b2L, nob, ob32, ob64, xGet, xPut, xLen, xLd, xLdR, xSt, obA, true_and, and_true, and_self, eq_self, Nat.reduceEqDiff, Nat.zero_ne_one, reduceIte, Nat.reduceLeDiff, and_false, false_and, ha]; rfl) (by exact trivial) ?_
    refine V_icmpge dX11_at_7 (tgt := 16) (by decide) (by exact ⟨hi, by unfold R32; omega⟩) (fun q2 => ?_) (fun q2 => ?_)
    · refine V_ex sX11_at_16 (by rfl) (by exact trivial) ?_
      refine V_iret dX11_at_17 rfl (by decide) ⟨by rw [rAt, if_neg (by omega)], rfl⟩
    · refine V_ex sX11_at_10 (by simp only [exN, ex1, gI, gL, gR, pI, pL, pR, lget, lset1, lset2, kl, b2I, b2L, nob, ob32, ob64, xGet, xPut, xLen, xLd, xLdR, xSt, obA, true_and, and_true, and_self, eq_self, Nat.reduceEqDiff, Nat.zero_ne_one, reduceIte, Nat.reduceLeDiff, and_false, false_and, ha]; rfl) (by exact ⟨q, q2⟩) ?_
      refine V_goto dX11_at_13 (tgt := 17) (by decide) ?_
      refine V_iret dX11_at_17 rfl (by decide) ⟨by rw [rAt, if_pos ⟨q, q2⟩], rfl⟩
theorem c_setAt {κ : Kx} (hκ : KOK κ) {d a n : Nat} {i z : Int} {G : Wd} (ha : LF.1 a = some (.inr (0, n))) (hn : n < 2147483648) (hi : R32 i) : Ct κ MX11_setAt d 0 0 [VR a, VI i, VI z] (Wm G) (voidG (rSet G a n i z)) noX := by
  refine Ct_of hκ kX11_setAt.1 rfl (Nat.le_of_ble_eq_true rfl) (ls := [some (VR a), some (VI i), some (VI z)]) rfl (fun μ => ?_)
  refine V_ex sX11_setAt_0 (by rfl) (by exact trivial) ?_
  refine V_iflt dX11_setAt_1 (tgt := 14) (by decide) (by exact hi) (fun q => ?_) (fun q => ?_)
  · refine V_vret dX11_setAt_14 rfl (by decide) ⟨rfl, by rw [rSet, if_neg (by omega)]⟩
  · refine V_ex sX11_setAt_4 (by simp only [exN, ex1, gI, gL, gR, pI, pL, pR, lget, lset1, lset2, kl, b2I, b2L, nob, ob32, ob64, xGet, xPut, xLen, xLd, xLdR, xSt, obA, true_and, and_true, and_self, eq_self, Nat.reduceEqDiff, Nat.zero_ne_one, reduceIte, Nat.reduceLeDiff, and_false, false_and, ha]; rfl) (by exact trivial) ?_
    refine V_icmpge dX11_setAt_7 (tgt := 14) (by decide) (by exact ⟨hi, by unfold R32; omega⟩) (fun q2 => ?_) (fun q2 => ?_)
    · refine V_vret dX11_setAt_14 rfl (by decide) ⟨rfl, by rw [rSet, if_neg (by omega)]⟩
    · refine V_ex sX11_setAt_10 (by simp only [exN, ex1, gI, gL, gR, pI, pL, pR, lget, lset1, lset2, kl, b2I, b2L, nob, ob32, ob64, xGet, xPut, xLen, xLd, xLdR, xSt, obA, true_and, and_true, and_self, eq_self, Nat.reduceEqDiff, Nat.zero_ne_one, reduceIte, Nat.reduceLeDiff, and_false, false_and, ha]; rfl) (by exact ⟨q, q2⟩) ?_
      refine V_vret dX11_setAt_14 rfl (by decide) ⟨rfl, by rw [rSet, if_pos ⟨q, q2⟩]⟩
/-- a LeafSet lies at a, its bits behind it -/
def LSa (a : Nat) : Prop := LF.1 a = some (.inl 4) ∧ LF.2 a 0 = some (a + 1) ∧ LF.1 (a + 1) = some (.inr (0, 63))
def lsHas (f : Nat → Int) (leaf : Int) : Bool := decide (0 ≤ leaf ∧ leaf < 2016) && bt1 (f (leaf / 32).toNat) (leaf % 32).toNat
theorem md32 (leaf : Int) : (leaf % 32).toNat < 32 ∧ leaf % 32 = (((leaf % 32).toNat : Nat) : Int) := by omega
theorem c_has {κ : Kx} (hκ : KOK κ) {d a : Nat} {leaf : Int} {G : Wd} (hS : LSa a) (hl : R32 leaf) : Ct κ MX5_has d 0 0 [VR a, VI leaf] (Wm G) (keepG G (VI (b2i (lsHas (G.1 (a + 1)) leaf)))) noX := by
  refine Ct_of hκ kX5_has.1 rfl (Nat.le_of_ble_eq_true rfl) (ls := [some (VR a), some (VI leaf), none]) rfl (fun μ => ?_)
  obtain ⟨h1, h2, h3⟩ := hS
  refine V_ex sX5_has_0 (by rfl) (by exact trivial) ?_
  rw [iShr_5 hl]
  have hc : R32 (leaf / 32) := by unfold R32 at *; omega
  have out : ¬ (0 ≤ leaf ∧ leaf < 2016) → b2i (lsHas (G.1 (a + 1)) leaf) = 0 := fun h => by simp [lsHas, h, b2i]
  refine V_iflt dX5_has_5 (tgt := 37) (by decide) (by exact hc) (fun q => ?_) (fun q => ?_)
  · refine V_ex sX5_has_37 (by rfl) (by exact trivial) ?_
    refine V_zret dX5_has_38 rfl (by first | exact Or.inl rfl | exact Or.inr rfl | exact b2i_01 _) (by decide) ⟨by rw [out (by omega)], rfl⟩
  · refine V_ex sX5_has_8 (by simp only [exN, ex1, gI, gL, gR, pI, pL, pR, lget, lset1, lset2, kl, b2I, b2L, nob, ob32, ob64, xGet, xPut, xLen, xLd, xLdR, xSt, obA, true_and, and_true, and_self, eq_self, Nat.reduceEqDiff, Nat.zero_ne_one, reduceIte, Nat.reduceLeDiff, and_false, false_and, show skd 4 0 = 2 from rfl, h1, h2, h3]; rfl) (by exact trivial) ?_
    refine V_icmpge dX5_has_14 (tgt := 37) (by decide) (by exact ⟨hc, by unfold R32; omega⟩) (fun q2 => ?_) (fun q2 => ?_)
    · refine V_ex sX5_has_37 (by rfl) (by exact trivial) ?_
      refine V_zret dX5_has_38 rfl (by first | exact Or.inl rfl | exact Or.inr rfl | exact b2i_01 _) (by decide) ⟨by rw [out (by omega)], rfl⟩
    · refine V_ex sX5_has_17 (by simp only [exN, ex1, gI, gL, gR, pI, pL, pR, lget, lset1, lset2, kl, b2I, b2L, nob, ob32, ob64, xGet, xPut, xLen, xLd, xLdR, xSt, obA, true_and, and_true, and_self, eq_self, Nat.reduceEqDiff, Nat.zero_ne_one, reduceIte, Nat.reduceLeDiff, and_false, false_and, show skd 4 0 = 2 from rfl, h1, h2, h3]; rfl) (by exact ⟨q, q2⟩) ?_
      rw [iAnd_31]
      have hm := md32 leaf
      rw [hm.2, iUsh_bit hm.1]
      have inn : lsHas (G.1 (a + 1)) leaf = bt1 (G.1 (a + 1) (leaf / 32).toNat) (leaf % 32).toNat := by
        simp [lsHas, show 0 ≤ leaf ∧ leaf < 2016 by omega]
      rw [← inn]
      refine V_ifeqB dX5_has_30 (tgt := 37) (by decide) (fun q => ?_) (fun q => ?_)
      · refine V_ex sX5_has_37 (by rfl) (by exact trivial) ?_
        refine V_zret dX5_has_38 rfl (by first | exact Or.inl rfl | exact Or.inr rfl | exact b2i_01 _) (by decide) ⟨by rw [q]; rfl, rfl⟩
      · refine V_ex sX5_has_33 (by rfl) (by exact trivial) ?_
        refine V_goto dX5_has_34 (tgt := 38) (by decide) ?_
        refine V_zret dX5_has_38 rfl (by first | exact Or.inl rfl | exact Or.inr rfl | exact b2i_01 _) (by decide) ⟨by rw [q]; rfl, rfl⟩
theorem c_size {κ : Kx} (hκ : KOK κ) {d a : Nat} {G : Wd} (hS : LSa a) : Ct κ MX5_size d 0 0 [VR a] (Wm G) (keepG G (VI (G.1 a 1))) noX := by
  refine Ct_of hκ kX5_size.1 rfl (Nat.le_of_ble_eq_true rfl) (ls := [some (VR a)]) rfl (fun μ => ?_)
  refine V_ex sX5_size_0 (by simp only [exN, ex1, gI, gL, gR, pI, pL, pR, lget, lset1, lset2, kl, b2I, b2L, nob, ob32, ob64, xGet, xPut, xLen, xLd, xLdR, xSt, obA, true_and, and_true, and_self, eq_self, Nat.reduceEqDiff, Nat.zero_ne_one, reduceIte, Nat.reduceLeDiff, and_false, false_and, show skd 4 1 = 0 from rfl, hS.1]; rfl) (by exact trivial) ?_
  refine V_iret dX5_size_4 rfl (by decide) ⟨rfl, rfl⟩
def lsTake (G : Wd) (a : Nat) (leaf : Int) : Wd := if 0 ≤ leaf ∧ leaf < 2016 ∧ lsHas (G.1 (a + 1)) leaf = false then uI (uI G (a + 1) (leaf / 32).toNat (iOr (G.1 (a + 1) (leaf / 32).toNat) (iShl 1 (leaf % 32)))) a 1 (G.1 a 1 + 1) else G
def lsGive (G : Wd) (a : Nat) (leaf : Int) : Wd := if 0 ≤ leaf ∧ leaf < 2016 ∧ lsHas (G.1 (a + 1)) leaf = true then uI (uI G (a + 1) (leaf / 32).toNat (iAnd (G.1 (a + 1) (leaf / 32).toNat) (iXor (iShl 1 (leaf % 32)) (-1)))) a 1 (G.1 a 1 - 1) else G
theorem iAnd_R (x y : Int) : R32 (iAnd x y) := ⟨Int32.le_toInt _, by have := Int32.toInt_lt (Int32.ofInt x &&& Int32.ofInt y); unfold iAnd; omega⟩
theorem c_take {κ : Kx} (hκ : KOK κ) {d a : Nat} {leaf : Int} {G : Wd} (hS : LSa a) (hl : R32 leaf) : Ct κ MX5_take d 0 0 [VR a, VI leaf] (Wm G) (voidG (lsTake G a leaf)) noX := by
  refine Ct_of hκ kX5_take.1 rfl (Nat.le_of_ble_eq_true rfl) (ls := [some (VR a), some (VI leaf), none, none]) rfl (fun μ => ?_)
  obtain ⟨h1, h2, h3⟩ := hS
  refine V_ex sX5_take_0 (by rfl) (by exact trivial) ?_
  rw [iShr_5 hl, iAnd_31]
  have hc : R32 (leaf / 32) := by unfold R32 at *; omega
  have hm := md32 leaf
  have inn : 0 ≤ leaf ∧ leaf < 2016 → lsHas (G.1 (a + 1)) leaf = bt1 (G.1 (a + 1) (leaf / 32).toNat) (leaf % 32).toNat := fun h => by simp [lsHas, h]
  refine V_iflt dX5_take_12 (tgt := 55) (by decide) (by exact hc) (fun q => ?_) (fun q => ?_)
  · refine V_vret dX5_take_55 rfl (by decide) ⟨rfl, by rw [lsTake, if_neg (by omega)]⟩
  · refine V_ex sX5_take_15 (by simp only [exN, ex1, gI, gL, gR, pI, pL, pR, lget, lset1, lset2, kl, b2I, b2L, nob, ob32, ob64, xGet, xPut, xLen, xLd, xLdR, xSt, obA, true_and, and_true, and_self, eq_self, Nat.reduceEqDiff, Nat.zero_ne_one, reduceIte, Nat.reduceLeDiff, and_false, false_and, show skd 4 0 = 2 from rfl, h1, h2, h3]; rfl) (by exact trivial) ?_
    refine V_icmpge dX5_take_21 (tgt := 55) (by decide) (by exact ⟨hc, by unfold R32; omega⟩) (fun q2 => ?_) (fun q2 => ?_)
    · refine V_vret dX5_take_55 rfl (by decide) ⟨rfl, by rw [lsTake, if_neg (by omega)]⟩
    · refine V_ex sX5_take_24 (by simp only [exN, ex1, gI, gL, gR, pI, pL, pR, lget, lset1, lset2, kl, b2I, b2L, nob, ob32, ob64, xGet, xPut, xLen, xLd, xLdR, xSt, obA, true_and, and_true, and_self, eq_self, Nat.reduceEqDiff, Nat.zero_ne_one, reduceIte, Nat.reduceLeDiff, and_false, false_and, show skd 4 0 = 2 from rfl, h1, h2, h3]; rfl) (by exact ⟨q, q2⟩) ?_
      refine V_ifne dX5_take_32 (tgt := 55) (by decide) (by exact iAnd_R _ _) (fun q3 => ?_) (fun q3 => ?_)
      · refine V_vret dX5_take_55 rfl (by decide) ⟨rfl, by rw [lsTake, if_neg]; rintro ⟨h5, h6, h7⟩; rw [inn ⟨h5, h6⟩] at h7; exact q3 (by rw [hm.2]; exact (iAnd_0_iff _ hm.1).mpr h7)⟩
      · refine V_ex sX5_take_35 (by simp only [exN, ex1, gI, gL, gR, pI, pL, pR, lget, lset1, lset2, kl, b2I, b2L, nob, ob32, ob64, xGet, xPut, xLen, xLd, xLdR, xSt, obA, true_and, and_true, and_self, eq_self, Nat.reduceEqDiff, Nat.zero_ne_one, reduceIte, Nat.reduceLeDiff, and_false, false_and, show skd 4 0 = 2 from rfl, show skd 4 1 = 0 from rfl, h1, h2, h3]; rfl) (by exact ⟨q, q2⟩) ?_
        refine V_vret dX5_take_55 rfl (by decide) ⟨rfl, ?_⟩
        have h7 : lsHas (G.1 (a + 1)) leaf = false := by rw [inn (by omega)]; rw [hm.2] at q3; exact (iAnd_0_iff _ hm.1).mp q3
        rw [lsTake, if_pos ⟨by omega, by omega, h7⟩]
        have e : upd2 G.1 (a + 1) (leaf / 32).toNat (iOr (G.1 (a + 1) (leaf / 32).toNat) (iShl 1 (leaf % 32))) a 1 = G.1 a 1 := by simp [upd2]
        simp only [e]
theorem c_give {κ : Kx} (hκ : KOK κ) {d a : Nat} {leaf : Int} {G : Wd} (hS : LSa a) (hl : R32 leaf) : Ct κ MX5_give d 0 0 [VR a, VI leaf] (Wm G) (voidG (lsGive G a leaf)) noX := by
  refine Ct_of hκ kX5_give.1 rfl (Nat.le_of_ble_eq_true rfl) (ls := [some (VR a), some (VI leaf), none, none]) rfl (fun μ => ?_)
  obtain ⟨h1, h2, h3⟩ := hS
  refine V_ex sX5_give_0 (by rfl) (by exact trivial) ?_
  rw [iShr_5 hl, iAnd_31]
  have hc : R32 (leaf / 32) := by unfold R32 at *; omega
  have hm := md32 leaf
  have inn : 0 ≤ leaf ∧ leaf < 2016 → lsHas (G.1 (a + 1)) leaf = bt1 (G.1 (a + 1) (leaf / 32).toNat) (leaf % 32).toNat := fun h => by simp [lsHas, h]
  refine V_iflt dX5_give_12 (tgt := 57) (by decide) (by exact hc) (fun q => ?_) (fun q => ?_)
  · refine V_vret dX5_give_57 rfl (by decide) ⟨rfl, by rw [lsGive, if_neg (by omega)]⟩
  · refine V_ex sX5_give_15 (by simp only [exN, ex1, gI, gL, gR, pI, pL, pR, lget, lset1, lset2, kl, b2I, b2L, nob, ob32, ob64, xGet, xPut, xLen, xLd, xLdR, xSt, obA, true_and, and_true, and_self, eq_self, Nat.reduceEqDiff, Nat.zero_ne_one, reduceIte, Nat.reduceLeDiff, and_false, false_and, show skd 4 0 = 2 from rfl, h1, h2, h3]; rfl) (by exact trivial) ?_
    refine V_icmpge dX5_give_21 (tgt := 57) (by decide) (by exact ⟨hc, by unfold R32; omega⟩) (fun q2 => ?_) (fun q2 => ?_)
    · refine V_vret dX5_give_57 rfl (by decide) ⟨rfl, by rw [lsGive, if_neg (by omega)]⟩
    · refine V_ex sX5_give_24 (by simp only [exN, ex1, gI, gL, gR, pI, pL, pR, lget, lset1, lset2, kl, b2I, b2L, nob, ob32, ob64, xGet, xPut, xLen, xLd, xLdR, xSt, obA, true_and, and_true, and_self, eq_self, Nat.reduceEqDiff, Nat.zero_ne_one, reduceIte, Nat.reduceLeDiff, and_false, false_and, show skd 4 0 = 2 from rfl, h1, h2, h3]; rfl) (by exact ⟨q, q2⟩) ?_
      refine V_ifeq dX5_give_32 (tgt := 57) (by decide) (by exact iAnd_R _ _) (fun q3 => ?_) (fun q3 => ?_)
      · refine V_vret dX5_give_57 rfl (by decide) ⟨rfl, by rw [lsGive, if_neg]; rintro ⟨h5, h6, h7⟩; rw [inn ⟨h5, h6⟩] at h7; rw [hm.2] at q3; rw [(iAnd_0_iff _ hm.1).mp q3] at h7; cases h7⟩
      · refine V_ex sX5_give_35 (by simp only [exN, ex1, gI, gL, gR, pI, pL, pR, lget, lset1, lset2, kl, b2I, b2L, nob, ob32, ob64, xGet, xPut, xLen, xLd, xLdR, xSt, obA, true_and, and_true, and_self, eq_self, Nat.reduceEqDiff, Nat.zero_ne_one, reduceIte, Nat.reduceLeDiff, and_false, false_and, show skd 4 0 = 2 from rfl, show skd 4 1 = 0 from rfl, h1, h2, h3]; rfl) (by exact ⟨q, q2⟩) ?_
        refine V_vret dX5_give_57 rfl (by decide) ⟨rfl, ?_⟩
        have h7 : lsHas (G.1 (a + 1)) leaf = true := by
          rw [inn (by omega)]
          rw [hm.2] at q3
          cases hb : bt1 (G.1 (a + 1) (leaf / 32).toNat) (leaf % 32).toNat with
          | true => rfl
          | false => exact absurd ((iAnd_0_iff _ hm.1).mpr hb) q3
        rw [lsGive, if_pos ⟨by omega, by omega, h7⟩]
        have e : upd2 G.1 (a + 1) (leaf / 32).toNat (iAnd (G.1 (a + 1) (leaf / 32).toNat) (iXor (iShl 1 (leaf % 32)) (-1))) a 1 = G.1 a 1 := by simp [upd2]
        simp only [e]
