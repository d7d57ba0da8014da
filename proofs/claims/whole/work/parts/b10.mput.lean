/-! THE MODEL: putting back -/
/-- the last torn leaf put back: what is left -/
def pbW (G : Wd) (j n t : Nat) (g : List Int) (z : Int) : Wd := uI (uI (uI G 145 34 (t : Int)) 152 j ((n : Int) - 1)) 153 (60 * j + ixO z g) (g.getD (n - 1) 0)
set_option maxRecDepth 100000 in
set_option maxHeartbeats 4000000 in
theorem c_mPutBack {κ : Kx} (hκ : KOK κ) {d j t : Nat} {z : Int} {g : List Int} {G : Wd} (hj : j < 6) (hg : ∀ i (h : i < g.length), G.1 153 (60 * j + i) = g[i]'h) (hgR : ∀ y ∈ g, R32 y) (hz : z ∈ g) (hn : G.1 152 j = (g.length : Nat)) (hl : g.length ≤ 60) (ht : G.1 145 34 = (t : Int) + 1) (ht2 : t < 720) (hb : G.1 165 t = (j : Int)) (hzl : G.1 166 t = z) : Ct κ MX12_putBack d 0 0 [VR 145] (Wm G) (voidG (pbW G j g.length t g z)) noX := by
  refine Ct_of hκ kX12_putBack.1 rfl (Nat.le_of_ble_eq_true rfl) (ls := [some (VR 145), none, none]) rfl (fun μ => ?_)
  obtain ⟨hix, hat, hmin⟩ := ixO_in hz
  have hzR := hgR z hz
  have et : (t : Int) + 1 - 1 = (t : Int) := by omega
  have b1 : upd2 G.1 145 34 (t : Int) 165 t = (j : Int) := by rw [asn (by decide)]; exact hb
  have b2 : upd2 G.1 145 34 (t : Int) 145 34 = (t : Int) := by rw [upd2_same]
  have b3 : upd2 G.1 145 34 (t : Int) 166 t = z := by rw [asn (by decide)]; exact hzl
  have b4 : upd2 G.1 145 34 (t : Int) 152 j = (g.length : Int) := by rw [asn (by decide)]; exact hn
  have hfa : ∀ i : Nat, i < 60 → (60 : Int) * (j : Int) + (i : Int) = ((60 * j + i : Nat) : Int) := fun i _ => by omega
  have b5 : ∀ v, upd2 (upd2 G.1 145 34 (t : Int)) 152 j v 152 j = v := fun v => upd2_same ..
  have e5 : (60 : Int) * (j : Int) + ((g.length : Int) - 1) = ((60 * j + (g.length - 1) : Nat) : Int) := by omega
  have hlast : upd2 (upd2 G.1 145 34 (t : Int)) 152 j ((g.length : Int) - 1) 153 (60 * j + (g.length - 1)) = g.getD (g.length - 1) 0 := by
    rw [asn (by decide), asn (by decide), hg _ (by omega), List.getD_eq_getElem?_getD, List.getElem?_eq_getElem (by omega)]; rfl
  have L : ∀ (k i : Nat) (ii : Int), i + k = ixO z g → ii = (i : Int) → V κ MX12_putBack (rmD d 0 0) (voidG (pbW G j g.length t g z)) noX 0 0 μ 0 0 (Wm ((uI G 145 34 (t : Int)))) 22 [some (VR 145), some (VI (j : Nat)), some (VI ii)] [] := by
    intro k
    induction k with
    | zero =>
      intro i ii hik hii
      subst hii
      obtain rfl : i = ixO z g := by omega
      have b6 : upd2 G.1 145 34 (t : Int) 153 (60 * j + ixO z g) = z := by rw [asn (by decide), hg _ hix]; exact hat
      refine V_ex sX12_putBack_22 (by simp only [Option.toList, List.cons_append, List.nil_append, exN, ex1, gI, gL, gR, pI, pL, pR, lget, lset1, lset2, kl, b2I, b2L, nob, ob32, ob64, xGet, xPut, xLen, xLd, xLdR, xSt, obA, true_and, and_true, and_self, eq_self, Nat.reduceEqDiff, Nat.zero_ne_one, reduceIte, Nat.reduceLeDiff, and_false, false_and, show skd 11 8 = 2 from rfl, show skd 11 32 = 2 from rfl, show skd 11 34 = 0 from rfl, show LF.1 145 = some (.inl 11) from rfl, show LF.2 145 8 = some 153 from rfl, show LF.1 153 = some (.inr (0, 720)) from rfl, show LF.2 145 32 = some 166 from rfl, show LF.1 166 = some (.inr (0, 720)) from rfl, hfa _ (Nat.lt_of_lt_of_le hix hl), Int.toNat_natCast, b2, b3, b4, b5, e5, hlast, b6, upd2_eq, Int.reduceToNat, Int.toNat_natCast]; rfl) (by (simp only [ob, obA]; and_intros <;> omega)) ?_
      refine V_icmpeq dX12_putBack_42 (tgt := 51) (by decide) (by simp only [R32, R64] at *; omega) (fun q42 => ?_) (fun q42 => ?_)
      · refine V_ex sX12_putBack_51 (by simp only [Option.toList, List.cons_append, List.nil_append, exN, ex1, gI, gL, gR, pI, pL, pR, lget, lset1, lset2, kl, b2I, b2L, nob, ob32, ob64, xGet, xPut, xLen, xLd, xLdR, xSt, obA, true_and, and_true, and_self, eq_self, Nat.reduceEqDiff, Nat.zero_ne_one, reduceIte, Nat.reduceLeDiff, and_false, false_and, show skd 11 7 = 2 from rfl, show skd 11 8 = 2 from rfl, show LF.1 145 = some (.inl 11) from rfl, show LF.2 145 7 = some 152 from rfl, show LF.1 152 = some (.inr (0, 12)) from rfl, show LF.2 145 8 = some 153 from rfl, show LF.1 153 = some (.inr (0, 720)) from rfl, hfa _ (Nat.lt_of_lt_of_le hix hl), Int.toNat_natCast, b2, b3, b4, b5, e5, hlast, b6, upd2_eq, Int.reduceToNat, Int.toNat_natCast]; rfl) (by (simp only [ob, obA]; and_intros <;> omega)) ?_
        refine V_vret dX12_putBack_88 rfl (by decide) ⟨rfl, rfl⟩
      · exact absurd rfl q42
    | succ k ih =>
      intro i ii hik hii
      subst hii
      have hil : i < g.length := by omega
      have hne : g[i]'hil ≠ z := hmin i (by omega)
      have b6 : upd2 G.1 145 34 (t : Int) 153 (60 * j + i) = g[i]'hil := by rw [asn (by decide)]; exact hg i hil
      have hiR := hgR _ (List.getElem_mem hil)
      refine V_ex sX12_putBack_22 (by simp only [Option.toList, List.cons_append, List.nil_append, exN, ex1, gI, gL, gR, pI, pL, pR, lget, lset1, lset2, kl, b2I, b2L, nob, ob32, ob64, xGet, xPut, xLen, xLd, xLdR, xSt, obA, true_and, and_true, and_self, eq_self, Nat.reduceEqDiff, Nat.zero_ne_one, reduceIte, Nat.reduceLeDiff, and_false, false_and, show skd 11 8 = 2 from rfl, show skd 11 32 = 2 from rfl, show skd 11 34 = 0 from rfl, show LF.1 145 = some (.inl 11) from rfl, show LF.2 145 8 = some 153 from rfl, show LF.1 153 = some (.inr (0, 720)) from rfl, show LF.2 145 32 = some 166 from rfl, show LF.1 166 = some (.inr (0, 720)) from rfl, hfa i (by omega), Int.toNat_natCast, b2, b3, b6, upd2_eq, Int.reduceToNat, Int.toNat_natCast]; rfl) (by (simp only [ob, obA]; and_intros <;> omega)) ?_
      refine V_icmpeq dX12_putBack_42 (tgt := 51) (by decide) (by exact ⟨hiR, hzR⟩) (fun q42 => ?_) (fun q42 => ?_)
      · exact absurd q42 hne
      · refine V_ex sX12_putBack_45 (by rfl) (by first | exact trivial | exact Or.inr rfl | exact Or.inl rfl | (simp only [ob, obA, R32, R64] at *; omega) | (simp only [ob, obA, R32, R64] at *; and_intros <;> omega) | (simp [ob, obA])) ?_
        refine V_goto dX12_putBack_48 (tgt := 22) (by decide) ?_
        exact ih (i + 1) _ (by omega) (by omega)
  refine V_ex sX12_putBack_0 (by simp only [Option.toList, List.cons_append, List.nil_append, exN, ex1, gI, gL, gR, pI, pL, pR, lget, lset1, lset2, kl, b2I, b2L, nob, ob32, ob64, xGet, xPut, xLen, xLd, xLdR, xSt, obA, true_and, and_true, and_self, eq_self, Nat.reduceEqDiff, Nat.zero_ne_one, reduceIte, Nat.reduceLeDiff, and_false, false_and, show skd 11 34 = 0 from rfl, show skd 11 31 = 2 from rfl, show LF.1 145 = some (.inl 11) from rfl, show LF.2 145 31 = some 165 from rfl, show LF.1 165 = some (.inr (0, 720)) from rfl, ht, et, b1, b2, Int.toNat_natCast, upd2_eq, Int.reduceToNat, Int.toNat_natCast]; rfl) (by first | exact trivial | exact Or.inr rfl | exact Or.inl rfl | (simp only [ob, obA, R32, R64] at *; omega) | (simp only [ob, obA, R32, R64] at *; and_intros <;> omega) | (simp [ob, obA])) ?_
  exact L (ixO z g) 0 0 (by omega) rfl
