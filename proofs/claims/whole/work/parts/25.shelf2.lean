/-! LeafSet.empty, takeFrom; Book; Shelf: telling and keeping -/
abbrev uA (G : Wd) (a : Nat) (f : Nat → Int) : Wd := (fun x => if x = a then f else G.1 x, G.2)
section VW
variable {κ : Kx} {M : Ms} {rm : Room} {P : Option Vl → Om → Prop} {PX : String → Om → Prop} {mc ms : Nat} {μ : Mu} {cells slots : Nat} {pc : Nat} {ls : List (Option Vl)} {st : List Vl}
theorem V_W {G : Wd} (G' : Wd) (h : G = G') (k : V κ M rm P PX mc ms μ cells slots (Wm G') pc ls st) : V κ M rm P PX mc ms μ cells slots (Wm G) pc ls st := h ▸ k
end VW
theorem upd2_eq (f : Nat → Nat → Int) (a k : Nat) (z : Int) (x j : Nat) : upd2 f a k z x j = if x = a ∧ j = k then z else f x j := by
  unfold upd2; rfl
theorem upd2_same (f : Nat → Nat → Int) (a k : Nat) (z : Int) : upd2 f a k z a k = z := by simp [upd2_eq]
theorem upd2_ne {f : Nat → Nat → Int} {a k x : Nat} (z : Int) (h : x ≠ a) : upd2 f a k z x = f x := by funext j; simp [upd2_eq, h]
theorem upd2_nek {f : Nat → Nat → Int} {a k j : Nat} (z : Int) (h : j ≠ k) : upd2 f a k z a j = f a j := by simp [upd2_eq, h]
theorem uI_ext {G G' : Wd} (h1 : ∀ x j, G.1 x j = G'.1 x j) (h2 : G.2 = G'.2) : G = G' := Prod.ext (by funext x j; exact h1 x j) h2
def fillT (n : Nat) (z : Int) (f : Nat → Int) : Nat → Int := fun j => if j < n then z else f j
def copyT (n : Nat) (g f : Nat → Int) : Nat → Int := fun j => if j < n then g j else f j
def lsEmpty (G : Wd) (a : Nat) : Wd := uI (uA G (a + 1) (fillT 63 0 (G.1 (a + 1)))) a 1 0
def lsCopy (G : Wd) (a b : Nat) : Wd := uI (uA G (a + 1) (copyT 63 (G.1 (b + 1)) (G.1 (a + 1)))) a 1 (G.1 b 1)
set_option maxRecDepth 100000 in
set_option maxHeartbeats 4000000 in
theorem c_empty {κ : Kx} (hκ : KOK κ) {d a : Nat} {G : Wd} (hS : LSa a) : Ct κ MX5_empty d 0 0 [VR a] (Wm G) (voidG (lsEmpty G a)) noX := by
  refine Ct_of hκ kX5_empty.1 rfl (Nat.le_of_ble_eq_true rfl) (ls := [some (VR a), none]) rfl (fun μ => ?_)
  obtain ⟨h1, h2, h3⟩ := hS
  refine V_ex sX5_empty_0 (by rfl) (by exact trivial) ?_
  suffices L : ∀ (k : Nat) (i : Int), i = 63 - (k : Int) → k ≤ 63 → V κ MX5_empty (rmD d 0 0) (voidG (lsEmpty G a)) noX 0 0 μ 0 0 (Wm (uA G (a + 1) (fillT (63 - k) 0 (G.1 (a + 1))))) 2 [some (VR a), some (VI i)] [] from
    V_W _ (by refine uI_ext (fun x j => ?_) rfl; by_cases hx : x = a + 1 <;> simp [hx, fillT]) (L 63 0 (by omega) (by omega))
  intro k
  induction k with
  | zero =>
    intro i hi hk
    refine V_ex sX5_empty_2 (by simp only [Option.toList, List.cons_append, List.nil_append, exN, ex1, gI, gL, gR, pI, pL, pR, lget, lset1, lset2, kl, b2I, b2L, nob, ob32, ob64, xGet, xPut, xLen, xLd, xLdR, xSt, obA, true_and, and_true, and_self, eq_self, Nat.reduceEqDiff, Nat.zero_ne_one, reduceIte, Nat.reduceLeDiff, and_false, false_and, show skd 4 0 = 2 from rfl, h1, h2, h3]; rfl) (by exact trivial) ?_
    refine V_icmpge dX5_empty_8 (tgt := 24) (by decide) (by unfold R32; constructor <;> omega) (fun q => ?_) (fun q => ?_)
    · refine V_ex sX5_empty_24 (by simp only [Option.toList, List.cons_append, List.nil_append, exN, ex1, gI, gL, gR, pI, pL, pR, lget, lset1, lset2, kl, b2I, b2L, nob, ob32, ob64, xGet, xPut, xLen, xLd, xLdR, xSt, obA, true_and, and_true, and_self, eq_self, Nat.reduceEqDiff, Nat.zero_ne_one, reduceIte, Nat.reduceLeDiff, and_false, false_and, show skd 4 1 = 0 from rfl, h1]; rfl) (by exact trivial) ?_
      refine V_vret dX5_empty_29 rfl (by decide) ⟨rfl, rfl⟩
    · omega
  | succ k ih =>
    intro i hi hk
    refine V_ex sX5_empty_2 (by simp only [Option.toList, List.cons_append, List.nil_append, exN, ex1, gI, gL, gR, pI, pL, pR, lget, lset1, lset2, kl, b2I, b2L, nob, ob32, ob64, xGet, xPut, xLen, xLd, xLdR, xSt, obA, true_and, and_true, and_self, eq_self, Nat.reduceEqDiff, Nat.zero_ne_one, reduceIte, Nat.reduceLeDiff, and_false, false_and, show skd 4 0 = 2 from rfl, h1, h2, h3]; rfl) (by exact trivial) ?_
    refine V_icmpge dX5_empty_8 (tgt := 24) (by decide) (by unfold R32; constructor <;> omega) (fun q => ?_) (fun q => ?_)
    · omega
    · refine V_ex sX5_empty_11 (by simp only [Option.toList, List.cons_append, List.nil_append, exN, ex1, gI, gL, gR, pI, pL, pR, lget, lset1, lset2, kl, b2I, b2L, nob, ob32, ob64, xGet, xPut, xLen, xLd, xLdR, xSt, obA, true_and, and_true, and_self, eq_self, Nat.reduceEqDiff, Nat.zero_ne_one, reduceIte, Nat.reduceLeDiff, and_false, false_and, show skd 4 0 = 2 from rfl, h1, h2, h3]; rfl) (by exact ⟨by omega, by omega⟩) ?_
      refine V_goto dX5_empty_21 (tgt := 2) (by decide) ?_
      refine V_W _ ?_ (ih _ (by omega) (by omega))
      refine uI_ext (fun x j => ?_) rfl
      simp only [upd2_eq]
      by_cases hx : x = a + 1
      · simp only [hx, if_true, true_and, fillT]
        repeat' split
        all_goals first | rfl | omega
      · simp only [hx, if_false, false_and]
set_option maxRecDepth 100000 in
set_option maxHeartbeats 4000000 in
theorem c_takeFrom {κ : Kx} (hκ : KOK κ) {d a b : Nat} {G : Wd} (hS : LSa a) (hB : LSa b) (hab : a ≠ b) (hab2 : a + 1 ≠ b) (hd : 1 ≤ d) : Ct κ MX5_takeFrom d 0 0 [VR a, VR b] (Wm G) (voidG (lsCopy G a b)) noX := by
  refine Ct_of hκ kX5_takeFrom.1 rfl (Nat.le_of_ble_eq_true rfl) (ls := [some (VR a), some (VR b), none]) rfl (fun μ => ?_)
  obtain ⟨h1, h2, h3⟩ := hS
  obtain ⟨g1, g2, g3⟩ := hB
  refine V_ex sX5_takeFrom_0 (by rfl) (by exact trivial) ?_
  suffices L : ∀ (k : Nat) (i : Int), i = 63 - (k : Int) → k ≤ 63 → V κ MX5_takeFrom (rmD d 0 0) (voidG (lsCopy G a b)) noX 0 0 μ 0 0 (Wm (uA G (a + 1) (copyT (63 - k) (G.1 (b + 1)) (G.1 (a + 1))))) 2 [some (VR a), some (VR b), some (VI i)] [] from
    V_W _ (by refine uI_ext (fun x j => ?_) rfl; by_cases hx : x = a + 1 <;> simp [hx, copyT]) (L 63 0 (by omega) (by omega))
  intro k
  induction k with
  | zero =>
    intro i hi hk
    refine V_ex sX5_takeFrom_2 (by simp only [Option.toList, List.cons_append, List.nil_append, exN, ex1, gI, gL, gR, pI, pL, pR, lget, lset1, lset2, kl, b2I, b2L, nob, ob32, ob64, xGet, xPut, xLen, xLd, xLdR, xSt, obA, true_and, and_true, and_self, eq_self, Nat.reduceEqDiff, Nat.zero_ne_one, reduceIte, Nat.reduceLeDiff, and_false, false_and, show skd 4 0 = 2 from rfl, h1, h2, h3]; rfl) (by exact trivial) ?_
    refine V_icmpge dX5_takeFrom_8 (tgt := 31) (by decide) (by unfold R32; constructor <;> omega) (fun q => ?_) (fun q => ?_)
    · refine V_ex sX5_takeFrom_31 (by simp only [Option.toList, List.cons_append, List.nil_append, exN, ex1, gI, gL, gR, pI, pL, pR, lget, lset1, lset2, kl, b2I, b2L, nob, ob32, ob64, xGet, xPut, xLen, xLd, xLdR, xSt, obA, true_and, and_true, and_self, eq_self, Nat.reduceEqDiff, Nat.zero_ne_one, reduceIte, Nat.reduceLeDiff, and_false, false_and, show skd 4 1 = 0 from rfl, h1, g1]; rfl) (by exact trivial) ?_
      refine V_vret dX5_takeFrom_39 rfl (by decide) ⟨rfl, by simp only [if_neg (show ¬ b = a + 1 by omega)]; rfl⟩
    · omega
  | succ k ih =>
    intro i hi hk
    refine V_ex sX5_takeFrom_2 (by simp only [Option.toList, List.cons_append, List.nil_append, exN, ex1, gI, gL, gR, pI, pL, pR, lget, lset1, lset2, kl, b2I, b2L, nob, ob32, ob64, xGet, xPut, xLen, xLd, xLdR, xSt, obA, true_and, and_true, and_self, eq_self, Nat.reduceEqDiff, Nat.zero_ne_one, reduceIte, Nat.reduceLeDiff, and_false, false_and, show skd 4 0 = 2 from rfl, h1, h2, h3]; rfl) (by exact trivial) ?_
    refine V_icmpge dX5_takeFrom_8 (tgt := 31) (by decide) (by unfold R32; constructor <;> omega) (fun q => ?_) (fun q => ?_)
    · omega
    · refine V_ex sX5_takeFrom_11 (by simp only [Option.toList, List.cons_append, List.nil_append, exN, ex1, gI, gL, gR, pI, pL, pR, lget, lset1, lset2, kl, b2I, b2L, nob, ob32, ob64, xGet, xPut, xLen, xLd, xLdR, xSt, obA, true_and, and_true, and_self, eq_self, Nat.reduceEqDiff, Nat.zero_ne_one, reduceIte, Nat.reduceLeDiff, and_false, false_and, show skd 4 0 = 2 from rfl, h1, h2, g1, g2]; rfl) (by exact trivial) ?_
      refine V_callSN (M := MX5_takeFrom) (N := MX11_at) (As := [VR (b + 1), VI i]) (rest := [VI i, VR (a + 1)]) dX5_takeFrom_21 lRX5_19 kX11_at rfl (c_at (d := 0) hκ g3 (by decide) (by unfold R32; omega)) rfl rfl (Nat.le_of_ble_eq_true rfl) (fit_rm (by omega)) (⟨Nat.le_refl _, Nat.le_refl _⟩) (fun v Ω' hp => ?_) (fun _ _ h => h.elim)
      obtain ⟨rfl, rfl⟩ := hp
      rw [rAt, if_pos ⟨by omega, by omega⟩]
      simp only [if_neg (show ¬ b + 1 = a + 1 by omega)]
      refine V_ex sX5_takeFrom_24 (by simp only [Option.toList, List.cons_append, List.nil_append, exN, ex1, gI, gL, gR, pI, pL, pR, lget, lset1, lset2, kl, b2I, b2L, nob, ob32, ob64, xGet, xPut, xLen, xLd, xLdR, xSt, obA, true_and, and_true, and_self, eq_self, Nat.reduceEqDiff, Nat.zero_ne_one, reduceIte, Nat.reduceLeDiff, and_false, false_and, h3]; rfl) (by exact ⟨by omega, by omega⟩) ?_
      refine V_goto dX5_takeFrom_28 (tgt := 2) (by decide) ?_
      refine V_W _ ?_ (ih (i + 1) (by omega) (by omega))
      refine uI_ext (fun x j => ?_) rfl
      simp only [upd2_eq]
      by_cases hx : x = a + 1
      · simp only [hx, if_true, true_and, copyT]
        have hj : ∀ j : Nat, j = i.toNat ↔ j = 63 - (k + 1) := fun j => by omega
        by_cases h5 : j = i.toNat
        · rw [if_pos h5, if_pos (by omega), h5]
        · rw [if_neg h5]
          by_cases h6 : j < 63 - (k + 1)
          · rw [if_pos h6, if_pos (by omega)]
          · rw [if_neg h6, if_neg (by omega)]
      · simp only [hx, if_false, false_and]
/-- a book begins afresh -/
def bkBegin (G : Wd) (a : Nat) (kind : Int) : Wd := lsEmpty (uI (uI (uI (uI (uI G a 0 kind) a 1 0) a 2 0) a 3 0) a 4 0) (a + 1)
set_option maxRecDepth 100000 in
set_option maxHeartbeats 4000000 in
theorem c_begin {κ : Kx} (hκ : KOK κ) {d a : Nat} {kind : Int} {G : Wd} (hS : BKa a) (hd : 1 ≤ d) : Ct κ MX0_begin d 0 0 [VR a, VI kind] (Wm G) (voidG (bkBegin G a kind)) noX := by
  refine Ct_of hκ kX0_begin.1 rfl (Nat.le_of_ble_eq_true rfl) (ls := [some (VR a), some (VI kind)]) rfl (fun μ => ?_)
  refine V_ex sX0_begin_0 (by simp only [Option.toList, List.cons_append, List.nil_append, exN, ex1, gI, gL, gR, pI, pL, pR, lget, lset1, lset2, kl, b2I, b2L, nob, ob32, ob64, xGet, xPut, xLen, xLd, xLdR, xSt, obA, true_and, and_true, and_self, eq_self, Nat.reduceEqDiff, Nat.zero_ne_one, reduceIte, Nat.reduceLeDiff, and_false, false_and, show skd 0 0 = 0 from rfl, show skd 0 1 = 0 from rfl, show skd 0 2 = 0 from rfl, show skd 0 3 = 0 from rfl, show skd 0 4 = 0 from rfl, show skd 0 5 = 2 from rfl, hS.1, hS.2.1]; rfl) (by exact trivial) ?_
  refine V_callV (M := MX0_begin) (N := MX5_empty) (As := []) (rest := []) dX0_begin_29 lRX0_37 kX5_empty rfl (hS.2.2.1.1) rfl (c_empty (d := 0) hκ hS.2.2.1) rfl rfl (Nat.le_of_ble_eq_true rfl) (fit_rm (by omega)) (⟨Nat.le_refl _, Nat.le_refl _⟩) (fun v Ω' hp => ?_) (fun _ _ h => h.elim)
  obtain ⟨rfl, rfl⟩ := hp
  refine V_vret dX0_begin_32 rfl (by decide) ⟨rfl, rfl⟩
/-- the leaf that is the i-th there, from leaf lo on -/
def thAt (h : Int → Bool) : Nat → Int → Int → Int
  | 0, _, _ => -1
  | k + 1, lo, i => if h lo then thAt h k (lo + 1) i else if i = 0 then lo else thAt h k (lo + 1) (i - 1)
set_option maxRecDepth 100000 in
set_option maxHeartbeats 4000000 in
theorem c_thereAt {κ : Kx} (hκ : KOK κ) {d a : Nat} {i : Int} {G : Wd} (hS : BKa a) (hi : 0 ≤ i) (hi2 : R32 i) (hl : 0 ≤ G.1 a 1 ∧ G.1 a 1 ≤ 100000) (hd : 1 ≤ d) : Ct κ MX0_thereAt d 0 0 [VR a, VI i] (Wm G) (keepG G (VI (thAt (lsHas (G.1 (a + 2))) (G.1 a 1).toNat 0 i))) noX := by
  refine Ct_of hκ kX0_thereAt.1 rfl (Nat.le_of_ble_eq_true rfl) (ls := [some (VR a), some (VI i), none, none]) rfl (fun μ => ?_)
  refine V_ex sX0_thereAt_0 (by rfl) (by exact trivial) ?_
  suffices L : ∀ (k : Nat) (lo many : Int), lo = G.1 a 1 - (k : Int) → (k : Int) ≤ G.1 a 1 → 0 ≤ many → many ≤ i → many ≤ lo → thAt (lsHas (G.1 (a + 2))) k lo (i - many) = thAt (lsHas (G.1 (a + 2))) (G.1 a 1).toNat 0 i → V κ MX0_thereAt (rmD d 0 0) (keepG G (VI (thAt (lsHas (G.1 (a + 2))) (G.1 a 1).toNat 0 i))) noX 0 0 μ 0 0 (Wm G) 4 [some (VR a), some (VI i), some (VI many), some (VI lo)] [] from L (G.1 a 1).toNat 0 0 (by omega) (by omega) (by omega) (by omega) (by omega) (by simp)
  intro k
  induction k with
  | zero =>
    intro lo many h1 h2 h3 h4 h5 h6
    refine V_ex sX0_thereAt_4 (by simp only [Option.toList, List.cons_append, List.nil_append, exN, ex1, gI, gL, gR, pI, pL, pR, lget, lset1, lset2, kl, b2I, b2L, nob, ob32, ob64, xGet, xPut, xLen, xLd, xLdR, xSt, obA, true_and, and_true, and_self, eq_self, Nat.reduceEqDiff, Nat.zero_ne_one, reduceIte, Nat.reduceLeDiff, and_false, false_and, show skd 0 1 = 0 from rfl, hS.1]; rfl) (by exact trivial) ?_
    refine V_icmpge dX0_thereAt_9 (tgt := 39) (by decide) (by unfold R32; constructor <;> omega) (fun q => ?_) (fun q => ?_)
    · refine V_ex sX0_thereAt_39 (by rfl) (by exact trivial) ?_
      refine V_iret dX0_thereAt_40 rfl (by decide) ⟨by rw [← h6]; rfl, rfl⟩
    · omega
  | succ k ih =>
    intro lo many h1 h2 h3 h4 h5 h6
    refine V_ex sX0_thereAt_4 (by simp only [Option.toList, List.cons_append, List.nil_append, exN, ex1, gI, gL, gR, pI, pL, pR, lget, lset1, lset2, kl, b2I, b2L, nob, ob32, ob64, xGet, xPut, xLen, xLd, xLdR, xSt, obA, true_and, and_true, and_self, eq_self, Nat.reduceEqDiff, Nat.zero_ne_one, reduceIte, Nat.reduceLeDiff, and_false, false_and, show skd 0 1 = 0 from rfl, hS.1]; rfl) (by exact trivial) ?_
    refine V_icmpge dX0_thereAt_9 (tgt := 39) (by decide) (by unfold R32; constructor <;> omega) (fun q => ?_) (fun q => ?_)
    · omega
    · refine V_ex sX0_thereAt_12 (by simp only [Option.toList, List.cons_append, List.nil_append, exN, ex1, gI, gL, gR, pI, pL, pR, lget, lset1, lset2, kl, b2I, b2L, nob, ob32, ob64, xGet, xPut, xLen, xLd, xLdR, xSt, obA, true_and, and_true, and_self, eq_self, Nat.reduceEqDiff, Nat.zero_ne_one, reduceIte, Nat.reduceLeDiff, and_false, false_and, show skd 0 5 = 2 from rfl, hS.1, hS.2.1]; rfl) (by exact trivial) ?_
      refine V_callV (M := MX0_thereAt) (N := MX5_has) (As := [VI lo]) (rest := []) dX0_thereAt_17 lRX0_44 kX5_has rfl (hS.2.2.1.1) rfl (c_has (d := 0) hκ hS.2.2.1 (by unfold R32; omega)) rfl rfl (Nat.le_of_ble_eq_true rfl) (fit_rm (by omega)) (⟨Nat.le_refl _, Nat.le_refl _⟩) (fun v Ω' hp => ?_) (fun _ _ h => h.elim)
      obtain ⟨rfl, rfl⟩ := hp
      rw [thAt] at h6
      refine V_ifneB dX0_thereAt_20 (tgt := 33) (by decide) (fun q => ?_) (fun q => ?_)
      · rw [if_pos q] at h6
        refine V_ex sX0_thereAt_33 (by rfl) (by exact trivial) ?_
        refine V_goto dX0_thereAt_36 (tgt := 4) (by decide) ?_
        exact ih _ _ (by omega) (by omega) h3 h4 (by omega) h6
      · rw [if_neg (by rw [q]; decide)] at h6
        refine V_ex sX0_thereAt_23 (by rfl) (by exact trivial) ?_
        refine V_icmpne dX0_thereAt_25 (tgt := 30) (by decide) (by exact ⟨by unfold R32; omega, hi2⟩) (fun q2 => ?_) (fun q2 => ?_)
        · refine V_ex sX0_thereAt_30 (by rfl) (by exact trivial) ?_
          refine V_ex sX0_thereAt_33 (by rfl) (by exact trivial) ?_
          refine V_goto dX0_thereAt_36 (tgt := 4) (by decide) ?_
          exact ih _ _ (by omega) (by omega) (by omega) (by omega) (by omega) (by rw [← h6, if_neg (by omega)]; congr 1; omega)
        · refine V_ex sX0_thereAt_28 (by rfl) (by exact trivial) ?_
          refine V_iret dX0_thereAt_29 rfl (by decide) ⟨by rw [← h6, if_pos (by omega)], rfl⟩
