/-! Events.takeFrom; Fits -/
/-- all of the happenings of f copied to e -/
def evCopy (G : Wd) (e f : Nat) : Wd :=
  (fun x j => if x = e then (if j = 3 ∨ j = 4 ∨ j = 5 ∨ j = 6 ∨ j = 9 then G.1 f j else G.1 e j)
    else if x = e + 1 then copyT (G.1 f 3).toNat (G.1 (f + 1)) (G.1 (e + 1)) j
    else if x = e + 2 then copyT (G.1 f 3).toNat (G.1 (f + 2)) (G.1 (e + 2)) j
    else if x = e + 3 then copyT (G.1 f 3).toNat (G.1 (f + 3)) (G.1 (e + 3)) j
    else if x = e + 4 then copyT (G.1 f 9).toNat (G.1 (f + 4)) (G.1 (e + 4)) j
    else if x = e + 5 then copyT (G.1 f 9).toNat (G.1 (f + 5)) (G.1 (e + 5)) j
    else if x = e + 6 then copyT 4 (G.1 (f + 6)) (G.1 (e + 6)) j
    else G.1 x j, G.2)
/-- the copying so far: h the head's cells, n torn, m stuck, r refused -/
def evMid (G : Wd) (e f : Nat) (h : Nat → Int) (n m r : Nat) : Wd :=
  (fun x j => if x = e then h j
    else if x = e + 1 then copyT n (G.1 (f + 1)) (G.1 (e + 1)) j
    else if x = e + 2 then copyT n (G.1 (f + 2)) (G.1 (e + 2)) j
    else if x = e + 3 then copyT n (G.1 (f + 3)) (G.1 (e + 3)) j
    else if x = e + 4 then copyT m (G.1 (f + 4)) (G.1 (e + 4)) j
    else if x = e + 5 then copyT m (G.1 (f + 5)) (G.1 (e + 5)) j
    else if x = e + 6 then copyT r (G.1 (f + 6)) (G.1 (e + 6)) j
    else G.1 x j, G.2)
theorem evMid_off {G : Wd} {e f : Nat} {h : Nat → Int} {n m r x : Nat} (hx : x < e ∨ e + 7 ≤ x) (j : Nat) : (evMid G e f h n m r).1 x j = G.1 x j := by
  simp only [evMid]
  rw [if_neg (by omega), if_neg (by omega), if_neg (by omega), if_neg (by omega), if_neg (by omega), if_neg (by omega), if_neg (by omega)]
theorem evMid_h {G : Wd} {e f : Nat} {h : Nat → Int} {n m r : Nat} (j : Nat) : (evMid G e f h n m r).1 e j = h j := by
  simp only [evMid, if_true]
theorem copyT_s (k : Nat) (g f : Nat → Int) (j : Nat) : copyT (k + 1) g f j = if j = k then g k else copyT k g f j := by
  simp only [copyT]; grind
set_option maxRecDepth 100000 in
set_option maxHeartbeats 4000000 in
theorem c_evTakeFrom {κ : Kx} (hκ : KOK κ) {d e f : Nat} {G : Wd} (hE : EVa e) (hF : EVa f) (hef : e ≠ f) (h3 : 0 ≤ G.1 f 3 ∧ G.1 f 3 ≤ 360) (h9 : 0 ≤ G.1 f 9 ∧ G.1 f 9 ≤ 20) (hd : 1 ≤ d) : Ct κ MX2_takeFrom d 0 0 [VR e, VR f] (Wm G) (voidG (evCopy G e f)) noX := by
  refine Ct_of hκ kX2_takeFrom.1 rfl (Nat.le_of_ble_eq_true rfl) (ls := [some (VR e), some (VR f), none]) rfl (fun μ => ?_)
  obtain ⟨h1, g1, g2, g3, g4, g5, g6, g7, g8, g9, g10, g11, g12⟩ := ev_facts hE
  obtain ⟨i1, j1, j2, j3, j4, j5, j6, j7, j8, j9, j10, j11, j12⟩ := ev_facts hF
  have hoff : ∀ y, f ≤ y → y < f + 7 → (y < e ∨ e + 7 ≤ y) := fun y a b => by rcases hE with rfl | rfl <;> rcases hF with rfl | rfl <;> omega
  refine V_ex sX2_takeFrom_0 (by simp only [Option.toList, List.cons_append, List.nil_append, exN, ex1, gI, gL, gR, pI, pL, pR, lget, lset1, lset2, kl, b2I, b2L, nob, ob32, ob64, xGet, xPut, xLen, xLd, xLdR, xSt, obA, true_and, and_true, and_self, eq_self, Nat.reduceEqDiff, Nat.zero_ne_one, reduceIte, Nat.reduceLeDiff, and_false, false_and, show skd 2 3 = 0 from rfl, h1, i1]; rfl) (by first | exact trivial | exact Or.inl trivial | exact Or.inr rfl | exact Or.inl rfl) ?_
  -- the last loop
  have L3 : ∀ (k c : Nat) (i : Int), i = (c : Int) → c + k = 4 → V κ MX2_takeFrom (rmD d 0 0) (voidG (evCopy G e f)) noX 0 0 μ 0 0 (Wm (evMid G e f (fun j => if j = 3 ∨ j = 4 ∨ j = 5 ∨ j = 6 ∨ j = 9 then G.1 f j else G.1 e j) (G.1 f 3).toNat (G.1 f 9).toNat c)) 154 [some (VR e), some (VR f), some (VI i)] [] := by
    intro k
    induction k with
    | zero =>
      intro c i hi hk
      refine V_ex sX2_takeFrom_154 (by simp only [Option.toList, List.cons_append, List.nil_append, exN, ex1, gI, gL, gR, pI, pL, pR, lget, lset1, lset2, kl, b2I, b2L, nob, ob32, ob64, xGet, xPut, xLen, xLd, xLdR, xSt, obA, true_and, and_true, and_self, eq_self, Nat.reduceEqDiff, Nat.zero_ne_one, reduceIte, Nat.reduceLeDiff, and_false, false_and, show skd 2 10 = 2 from rfl, h1, g11, g12]; rfl) (by first | exact trivial | exact Or.inl trivial | exact Or.inr rfl | exact Or.inl rfl) ?_
      refine V_icmpge dX2_takeFrom_160 (tgt := 183) (by decide) (by unfold R32; constructor <;> omega) (fun q => ?_) (fun q => ?_)
      · refine V_vret dX2_takeFrom_183 rfl (by decide) ⟨rfl, by rw [show c = 4 by omega]; rfl⟩
      · omega
    | succ k ih =>
      intro c i hi hk
      refine V_ex sX2_takeFrom_154 (by simp only [Option.toList, List.cons_append, List.nil_append, exN, ex1, gI, gL, gR, pI, pL, pR, lget, lset1, lset2, kl, b2I, b2L, nob, ob32, ob64, xGet, xPut, xLen, xLd, xLdR, xSt, obA, true_and, and_true, and_self, eq_self, Nat.reduceEqDiff, Nat.zero_ne_one, reduceIte, Nat.reduceLeDiff, and_false, false_and, show skd 2 10 = 2 from rfl, h1, g11, g12]; rfl) (by first | exact trivial | exact Or.inl trivial | exact Or.inr rfl | exact Or.inl rfl) ?_
      refine V_icmpge dX2_takeFrom_160 (tgt := 183) (by decide) (by unfold R32; constructor <;> omega) (fun q => ?_) (fun q => ?_)
      · omega
      · refine V_ex sX2_takeFrom_163 (by simp only [Option.toList, List.cons_append, List.nil_append, exN, ex1, gI, gL, gR, pI, pL, pR, lget, lset1, lset2, kl, b2I, b2L, nob, ob32, ob64, xGet, xPut, xLen, xLd, xLdR, xSt, obA, true_and, and_true, and_self, eq_self, Nat.reduceEqDiff, Nat.zero_ne_one, reduceIte, Nat.reduceLeDiff, and_false, false_and, show skd 2 10 = 2 from rfl, h1, g11, i1, j11]; rfl) (by first | exact trivial | exact Or.inl trivial | exact Or.inr rfl | exact Or.inl rfl) ?_
        refine V_callSN (M := MX2_takeFrom) (N := MX11_at) (As := [VR (f + 6), VI i]) (rest := [VI i, VR (e + 6)]) dX2_takeFrom_173 lRX2_46 kX11_at rfl (c_at (d := 0) hκ j12 (by decide) (by unfold R32; omega)) rfl rfl (Nat.le_of_ble_eq_true rfl) (fit_rm (by omega)) (⟨Nat.le_refl _, Nat.le_refl _⟩) (fun v Ω' hp => ?_) (fun _ _ h => h.elim)
        obtain ⟨rfl, rfl⟩ := hp
        rw [rAt, if_pos ⟨by omega, by omega⟩, show i.toNat = c by omega, evMid_off (hoff _ (by omega) (by omega))]
        refine V_ex sX2_takeFrom_176 (by simp only [Option.toList, List.cons_append, List.nil_append, exN, ex1, gI, gL, gR, pI, pL, pR, lget, lset1, lset2, kl, b2I, b2L, nob, ob32, ob64, xGet, xPut, xLen, xLd, xLdR, xSt, obA, true_and, and_true, and_self, eq_self, Nat.reduceEqDiff, Nat.zero_ne_one, reduceIte, Nat.reduceLeDiff, and_false, false_and, g12]; rfl) (by exact ⟨by omega, by omega⟩) ?_
        refine V_goto dX2_takeFrom_180 (tgt := 154) (by decide) ?_
        refine V_W _ ?_ (ih (c + 1) (i + 1) (by omega) (by omega))
        refine uI_ext (fun x j => ?_) rfl
        simp only [upd2_eq, evMid, copyT_s, show i.toNat = c by omega]
        grind
  have L2 : ∀ (k c : Nat) (i : Int), i = (c : Int) → (c : Int) + k = G.1 f 9 → V κ MX2_takeFrom (rmD d 0 0) (voidG (evCopy G e f)) noX 0 0 μ 0 0 (Wm (evMid G e f (fun j => if j = 3 ∨ j = 4 ∨ j = 5 ∨ j = 6 ∨ j = 9 then G.1 f j else G.1 e j) (G.1 f 3).toNat c 0)) 106 [some (VR e), some (VR f), some (VI i)] [] := by
    intro k
    induction k with
    | zero =>
      intro c i hi hk
      have e9 := evMid_h (G := G) (e := e) (f := f) (h := fun j => if j = 3 ∨ j = 4 ∨ j = 5 ∨ j = 6 ∨ j = 9 then G.1 f j else G.1 e j) (n := (G.1 f 3).toNat) (m := c) (r := 0) 9
      refine V_ex sX2_takeFrom_106 (by simp only [Option.toList, List.cons_append, List.nil_append, exN, ex1, gI, gL, gR, pI, pL, pR, lget, lset1, lset2, kl, b2I, b2L, nob, ob32, ob64, xGet, xPut, xLen, xLd, xLdR, xSt, obA, true_and, and_true, and_self, eq_self, Nat.reduceEqDiff, Nat.zero_ne_one, reduceIte, Nat.reduceLeDiff, and_false, false_and, show skd 2 9 = 0 from rfl, h1, e9]; rfl) (by first | exact trivial | exact Or.inl trivial | exact Or.inr rfl | exact Or.inl rfl) ?_
      refine V_icmpge dX2_takeFrom_111 (tgt := 152) (by decide) (by unfold R32; simp; omega) (fun q => ?_) (fun q => ?_)
      · refine V_ex sX2_takeFrom_152 (by rfl) (by first | exact trivial | exact Or.inl trivial | exact Or.inr rfl | exact Or.inl rfl) ?_
        rw [show c = (G.1 f 9).toNat by omega]
        exact L3 4 0 0 rfl (by omega)
      · exact absurd q (by simp; omega)
    | succ k ih =>
      intro c i hi hk
      have e9 := evMid_h (G := G) (e := e) (f := f) (h := fun j => if j = 3 ∨ j = 4 ∨ j = 5 ∨ j = 6 ∨ j = 9 then G.1 f j else G.1 e j) (n := (G.1 f 3).toNat) (m := c) (r := 0) 9
      refine V_ex sX2_takeFrom_106 (by simp only [Option.toList, List.cons_append, List.nil_append, exN, ex1, gI, gL, gR, pI, pL, pR, lget, lset1, lset2, kl, b2I, b2L, nob, ob32, ob64, xGet, xPut, xLen, xLd, xLdR, xSt, obA, true_and, and_true, and_self, eq_self, Nat.reduceEqDiff, Nat.zero_ne_one, reduceIte, Nat.reduceLeDiff, and_false, false_and, show skd 2 9 = 0 from rfl, h1, e9]; rfl) (by first | exact trivial | exact Or.inl trivial | exact Or.inr rfl | exact Or.inl rfl) ?_
      refine V_icmpge dX2_takeFrom_111 (tgt := 152) (by decide) (by unfold R32; simp; omega) (fun q => ?_) (fun q => ?_)
      · exact absurd q (by simp; omega)
      · refine V_ex sX2_takeFrom_114 (by simp only [Option.toList, List.cons_append, List.nil_append, exN, ex1, gI, gL, gR, pI, pL, pR, lget, lset1, lset2, kl, b2I, b2L, nob, ob32, ob64, xGet, xPut, xLen, xLd, xLdR, xSt, obA, true_and, and_true, and_self, eq_self, Nat.reduceEqDiff, Nat.zero_ne_one, reduceIte, Nat.reduceLeDiff, and_false, false_and, show skd 2 7 = 2 from rfl, h1, g7, i1, j7]; rfl) (by first | exact trivial | exact Or.inl trivial | exact Or.inr rfl | exact Or.inl rfl) ?_
        refine V_callSN (M := MX2_takeFrom) (N := MX11_at) (As := [VR (f + 4), VI i]) (rest := [VI i, VR (e + 4)]) dX2_takeFrom_124 lRX2_46 kX11_at rfl (c_at (d := 0) hκ j8 (by decide) (by unfold R32; omega)) rfl rfl (Nat.le_of_ble_eq_true rfl) (fit_rm (by omega)) (⟨Nat.le_refl _, Nat.le_refl _⟩) (fun v Ω' hp => ?_) (fun _ _ h => h.elim)
        obtain ⟨rfl, rfl⟩ := hp
        rw [rAt, if_pos ⟨by omega, by omega⟩, show i.toNat = c by omega, evMid_off (hoff _ (by omega) (by omega))]
        refine V_callSN (M := MX2_takeFrom) (N := MX11_setAt) (As := [VR (e + 4), VI i, VI (G.1 (f + 4) c)]) (rest := []) dX2_takeFrom_127 lRX2_50 kX11_setAt rfl (c_setAt (d := 0) hκ g8 (by decide) (by unfold R32; omega)) rfl rfl (Nat.le_of_ble_eq_true rfl) (fit_rm (by omega)) (⟨Nat.le_refl _, Nat.le_refl _⟩) (fun v Ω' hp => ?_) (fun _ _ h => h.elim)
        obtain ⟨rfl, rfl⟩ := hp
        rw [rSet, if_pos ⟨by omega, by omega⟩, show i.toNat = c by omega]
        generalize hW : uI (evMid G e f (fun j => if j = 3 ∨ j = 4 ∨ j = 5 ∨ j = 6 ∨ j = 9 then G.1 f j else G.1 e j) (G.1 f 3).toNat c 0) (e + 4) c (G.1 (f + 4) c) = W
        have hWf : ∀ j, W.1 (f + 5) j = G.1 (f + 5) j := fun j => by
          rw [← hW]; show upd2 _ _ _ _ _ _ = _; have := hoff (f + 5) (by omega) (by omega); rw [upd2_eq, if_neg (by omega), evMid_off this]
        refine V_ex sX2_takeFrom_130 (by simp only [Option.toList, List.cons_append, List.nil_append, exN, ex1, gI, gL, gR, pI, pL, pR, lget, lset1, lset2, kl, b2I, b2L, nob, ob32, ob64, xGet, xPut, xLen, xLd, xLdR, xSt, obA, true_and, and_true, and_self, eq_self, Nat.reduceEqDiff, Nat.zero_ne_one, reduceIte, Nat.reduceLeDiff, and_false, false_and, show skd 2 8 = 2 from rfl, h1, g9, i1, j9]; rfl) (by first | exact trivial | exact Or.inl trivial | exact Or.inr rfl | exact Or.inl rfl) ?_
        refine V_callSN (M := MX2_takeFrom) (N := MX11_at) (As := [VR (f + 5), VI i]) (rest := [VI i, VR (e + 5)]) dX2_takeFrom_140 lRX2_46 kX11_at rfl (c_at (d := 0) hκ j10 (by decide) (by unfold R32; omega)) rfl rfl (Nat.le_of_ble_eq_true rfl) (fit_rm (by omega)) (⟨Nat.le_refl _, Nat.le_refl _⟩) (fun v Ω' hp => ?_) (fun _ _ h => h.elim)
        obtain ⟨rfl, rfl⟩ := hp
        rw [rAt, if_pos ⟨by omega, by omega⟩, show i.toNat = c by omega, hWf]
        refine V_callSN (M := MX2_takeFrom) (N := MX11_setAt) (As := [VR (e + 5), VI i, VI (G.1 (f + 5) c)]) (rest := []) dX2_takeFrom_143 lRX2_50 kX11_setAt rfl (c_setAt (d := 0) hκ g10 (by decide) (by unfold R32; omega)) rfl rfl (Nat.le_of_ble_eq_true rfl) (fit_rm (by omega)) (⟨Nat.le_refl _, Nat.le_refl _⟩) (fun v Ω' hp => ?_) (fun _ _ h => h.elim)
        obtain ⟨rfl, rfl⟩ := hp
        rw [rSet, if_pos ⟨by omega, by omega⟩, show i.toNat = c by omega]
        refine V_ex sX2_takeFrom_146 (by rfl) (by first | exact trivial | exact Or.inl trivial | exact Or.inr rfl | exact Or.inl rfl) ?_
        refine V_goto dX2_takeFrom_149 (tgt := 106) (by decide) ?_
        refine V_W _ ?_ (ih (c + 1) (i + 1) (by omega) (by omega))
        refine uI_ext (fun x j => ?_) (by rw [← hW]; rfl)
        rw [← hW]
        simp only [upd2_eq, evMid, copyT_s]
        grind
  have L1 : ∀ (k c : Nat) (i : Int), i = (c : Int) → (c : Int) + k = G.1 f 3 → V κ MX2_takeFrom (rmD d 0 0) (voidG (evCopy G e f)) noX 0 0 μ 0 0 (Wm (evMid G e f (fun j => if j = 3 then G.1 f j else G.1 e j) c 0 0)) 10 [some (VR e), some (VR f), some (VI i)] [] := by
    intro k
    induction k with
    | zero =>
      intro c i hi hk
      have e3 := evMid_h (G := G) (e := e) (f := f) (h := fun j => if j = 3 then G.1 f j else G.1 e j) (n := c) (m := 0) (r := 0) 3
      refine V_ex sX2_takeFrom_10 (by simp only [Option.toList, List.cons_append, List.nil_append, exN, ex1, gI, gL, gR, pI, pL, pR, lget, lset1, lset2, kl, b2I, b2L, nob, ob32, ob64, xGet, xPut, xLen, xLd, xLdR, xSt, obA, true_and, and_true, and_self, eq_self, Nat.reduceEqDiff, Nat.zero_ne_one, reduceIte, Nat.reduceLeDiff, and_false, false_and, show skd 2 3 = 0 from rfl, h1, e3]; rfl) (by first | exact trivial | exact Or.inl trivial | exact Or.inr rfl | exact Or.inl rfl) ?_
      refine V_icmpge dX2_takeFrom_15 (tgt := 72) (by decide) (by unfold R32; omega) (fun q => ?_) (fun q => ?_)
      · have ef : ∀ j, (evMid G e f (fun j => if j = 3 then G.1 f j else G.1 e j) c 0 0).1 f j = G.1 f j := fun j => evMid_off (hoff f (by omega) (by omega)) j
        generalize hW : evMid G e f (fun j => if j = 3 then G.1 f j else G.1 e j) c 0 0 = W at ef
        have fe : ¬ f = e := fun h => hef h.symm
        refine V_ex sX2_takeFrom_72 (by simp only [Option.toList, List.cons_append, List.nil_append, exN, ex1, gI, gL, gR, pI, pL, pR, lget, lset1, lset2, kl, b2I, b2L, nob, ob32, ob64, xGet, xPut, xLen, xLd, xLdR, xSt, obA, true_and, and_true, and_self, eq_self, Nat.reduceEqDiff, Nat.zero_ne_one, reduceIte, Nat.reduceLeDiff, and_false, false_and, show skd 2 4 = 0 from rfl, show skd 2 5 = 0 from rfl, show skd 2 6 = 0 from rfl, show skd 2 9 = 0 from rfl, h1, i1, ef, upd2_ne _ fe]; rfl) (by first | exact trivial | exact Or.inl trivial | exact Or.inr rfl | exact Or.inl rfl) ?_
        refine V_W _ ?_ (L2 (G.1 f 9).toNat 0 0 rfl (by omega))
        rw [← hW, show c = (G.1 f 3).toNat by omega]
        refine uI_ext (fun x j => ?_) rfl
        simp only [upd2_eq, evMid]
        grind
      · exact absurd q (by omega)
    | succ k ih =>
      intro c i hi hk
      have e3 := evMid_h (G := G) (e := e) (f := f) (h := fun j => if j = 3 then G.1 f j else G.1 e j) (n := c) (m := 0) (r := 0) 3
      refine V_ex sX2_takeFrom_10 (by simp only [Option.toList, List.cons_append, List.nil_append, exN, ex1, gI, gL, gR, pI, pL, pR, lget, lset1, lset2, kl, b2I, b2L, nob, ob32, ob64, xGet, xPut, xLen, xLd, xLdR, xSt, obA, true_and, and_true, and_self, eq_self, Nat.reduceEqDiff, Nat.zero_ne_one, reduceIte, Nat.reduceLeDiff, and_false, false_and, show skd 2 3 = 0 from rfl, h1, e3]; rfl) (by first | exact trivial | exact Or.inl trivial | exact Or.inr rfl | exact Or.inl rfl) ?_
      refine V_icmpge dX2_takeFrom_15 (tgt := 72) (by decide) (by unfold R32; omega) (fun q => ?_) (fun q => ?_)
      · exact absurd q (by omega)
      · refine V_ex sX2_takeFrom_18 (by simp only [Option.toList, List.cons_append, List.nil_append, exN, ex1, gI, gL, gR, pI, pL, pR, lget, lset1, lset2, kl, b2I, b2L, nob, ob32, ob64, xGet, xPut, xLen, xLd, xLdR, xSt, obA, true_and, and_true, and_self, eq_self, Nat.reduceEqDiff, Nat.zero_ne_one, reduceIte, Nat.reduceLeDiff, and_false, false_and, show skd 2 0 = 2 from rfl, h1, g1, i1, j1]; rfl) (by first | exact trivial | exact Or.inl trivial | exact Or.inr rfl | exact Or.inl rfl) ?_
        refine V_callSN (M := MX2_takeFrom) (N := MX11_at) (As := [VR (f + 1), VI i]) (rest := [VI i, VR (e + 1)]) dX2_takeFrom_28 lRX2_46 kX11_at rfl (c_at (d := 0) hκ j2 (by decide) (by unfold R32; omega)) rfl rfl (Nat.le_of_ble_eq_true rfl) (fit_rm (by omega)) (⟨Nat.le_refl _, Nat.le_refl _⟩) (fun v Ω' hp => ?_) (fun _ _ h => h.elim)
        obtain ⟨rfl, rfl⟩ := hp
        rw [rAt, if_pos ⟨by omega, by omega⟩, show i.toNat = c by omega, evMid_off (hoff _ (by omega) (by omega))]
        refine V_callSN (M := MX2_takeFrom) (N := MX11_setAt) (As := [VR (e + 1), VI i, VI (G.1 (f + 1) c)]) (rest := []) dX2_takeFrom_31 lRX2_50 kX11_setAt rfl (c_setAt (d := 0) hκ g2 (by decide) (by unfold R32; omega)) rfl rfl (Nat.le_of_ble_eq_true rfl) (fit_rm (by omega)) (⟨Nat.le_refl _, Nat.le_refl _⟩) (fun v Ω' hp => ?_) (fun _ _ h => h.elim)
        obtain ⟨rfl, rfl⟩ := hp
        rw [rSet, if_pos ⟨by omega, by omega⟩, show i.toNat = c by omega]
        generalize hW : uI (evMid G e f (fun j => if j = 3 then G.1 f j else G.1 e j) c 0 0) (e + 1) c (G.1 (f + 1) c) = W
        have hWf : ∀ j, W.1 (f + 2) j = G.1 (f + 2) j := fun j => by
          rw [← hW]; show upd2 _ _ _ _ _ _ = _; have := hoff (f + 2) (by omega) (by omega); rw [upd2_eq, if_neg (by omega), evMid_off this]
        refine V_ex sX2_takeFrom_34 (by simp only [Option.toList, List.cons_append, List.nil_append, exN, ex1, gI, gL, gR, pI, pL, pR, lget, lset1, lset2, kl, b2I, b2L, nob, ob32, ob64, xGet, xPut, xLen, xLd, xLdR, xSt, obA, true_and, and_true, and_self, eq_self, Nat.reduceEqDiff, Nat.zero_ne_one, reduceIte, Nat.reduceLeDiff, and_false, false_and, show skd 2 1 = 2 from rfl, h1, g3, i1, j3]; rfl) (by first | exact trivial | exact Or.inl trivial | exact Or.inr rfl | exact Or.inl rfl) ?_
        refine V_callSN (M := MX2_takeFrom) (N := MX11_at) (As := [VR (f + 2), VI i]) (rest := [VI i, VR (e + 2)]) dX2_takeFrom_44 lRX2_46 kX11_at rfl (c_at (d := 0) hκ j4 (by decide) (by unfold R32; omega)) rfl rfl (Nat.le_of_ble_eq_true rfl) (fit_rm (by omega)) (⟨Nat.le_refl _, Nat.le_refl _⟩) (fun v Ω' hp => ?_) (fun _ _ h => h.elim)
        obtain ⟨rfl, rfl⟩ := hp
        rw [rAt, if_pos ⟨by omega, by omega⟩, show i.toNat = c by omega, hWf]
        refine V_callSN (M := MX2_takeFrom) (N := MX11_setAt) (As := [VR (e + 2), VI i, VI (G.1 (f + 2) c)]) (rest := []) dX2_takeFrom_47 lRX2_50 kX11_setAt rfl (c_setAt (d := 0) hκ g4 (by decide) (by unfold R32; omega)) rfl rfl (Nat.le_of_ble_eq_true rfl) (fit_rm (by omega)) (⟨Nat.le_refl _, Nat.le_refl _⟩) (fun v Ω' hp => ?_) (fun _ _ h => h.elim)
        obtain ⟨rfl, rfl⟩ := hp
        rw [rSet, if_pos ⟨by omega, by omega⟩, show i.toNat = c by omega]
        generalize hW2 : uI W (e + 2) c (G.1 (f + 2) c) = W2
        have hWf2 : ∀ j, W2.1 (f + 3) j = G.1 (f + 3) j := fun j => by
          rw [← hW2, ← hW]; show upd2 (upd2 _ _ _ _) _ _ _ _ _ = _; have := hoff (f + 3) (by omega) (by omega); rw [upd2_eq, if_neg (by omega), upd2_eq, if_neg (by omega), evMid_off this]
        refine V_ex sX2_takeFrom_50 (by simp only [Option.toList, List.cons_append, List.nil_append, exN, ex1, gI, gL, gR, pI, pL, pR, lget, lset1, lset2, kl, b2I, b2L, nob, ob32, ob64, xGet, xPut, xLen, xLd, xLdR, xSt, obA, true_and, and_true, and_self, eq_self, Nat.reduceEqDiff, Nat.zero_ne_one, reduceIte, Nat.reduceLeDiff, and_false, false_and, show skd 2 2 = 2 from rfl, h1, g5, i1, j5]; rfl) (by first | exact trivial | exact Or.inl trivial | exact Or.inr rfl | exact Or.inl rfl) ?_
        refine V_callSN (M := MX2_takeFrom) (N := MX11_at) (As := [VR (f + 3), VI i]) (rest := [VI i, VR (e + 3)]) dX2_takeFrom_60 lRX2_46 kX11_at rfl (c_at (d := 0) hκ j6 (by decide) (by unfold R32; omega)) rfl rfl (Nat.le_of_ble_eq_true rfl) (fit_rm (by omega)) (⟨Nat.le_refl _, Nat.le_refl _⟩) (fun v Ω' hp => ?_) (fun _ _ h => h.elim)
        obtain ⟨rfl, rfl⟩ := hp
        rw [rAt, if_pos ⟨by omega, by omega⟩, show i.toNat = c by omega, hWf2]
        refine V_callSN (M := MX2_takeFrom) (N := MX11_setAt) (As := [VR (e + 3), VI i, VI (G.1 (f + 3) c)]) (rest := []) dX2_takeFrom_63 lRX2_50 kX11_setAt rfl (c_setAt (d := 0) hκ g6 (by decide) (by unfold R32; omega)) rfl rfl (Nat.le_of_ble_eq_true rfl) (fit_rm (by omega)) (⟨Nat.le_refl _, Nat.le_refl _⟩) (fun v Ω' hp => ?_) (fun _ _ h => h.elim)
        obtain ⟨rfl, rfl⟩ := hp
        rw [rSet, if_pos ⟨by omega, by omega⟩, show i.toNat = c by omega]
        refine V_ex sX2_takeFrom_66 (by rfl) (by first | exact trivial | exact Or.inl trivial | exact Or.inr rfl | exact Or.inl rfl) ?_
        refine V_goto dX2_takeFrom_69 (tgt := 10) (by decide) ?_
        refine V_W _ ?_ (ih (c + 1) (i + 1) (by omega) (by omega))
        refine uI_ext (fun x j => ?_) (by rw [← hW2, ← hW]; rfl)
        rw [← hW2, ← hW]
        simp only [upd2_eq, evMid, copyT_s]
        grind
  refine V_W _ ?_ (L1 (G.1 f 3).toNat 0 0 rfl (by omega))
  refine uI_ext (fun x j => ?_) rfl
  simp only [upd2_eq, evMid, copyT]
  grind
