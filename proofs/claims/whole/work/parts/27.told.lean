/-! Shelf: what is gone kept and given back; the number a told rule gives -/
/-- every book's gone leaves copied from its cells at offset b to those at offset a -/
def goneTo (s oa ob : Nat) : Nat → Nat → Wd → Wd
  | 0, _, G => G
  | k + 1, i, G => goneTo s oa ob k (i + 1) (lsCopy G (s + 7 + 5 * i + oa) (s + 7 + 5 * i + ob))
theorem lsCopy_ne {G : Wd} {a b x : Nat} (j : Nat) (h1 : x ≠ a) (h2 : x ≠ a + 1) : (lsCopy G a b).1 x j = G.1 x j := by
  simp [lsCopy, upd2_eq, h1, h2]
theorem goneTo_s (s oa ob : Nat) : ∀ (k i : Nat) (G : Wd) (j : Nat), (goneTo s oa ob k i G).1 s j = G.1 s j := by
  intro k
  induction k with
  | zero => intro i G j; rfl
  | succ k ih => intro i G j; rw [goneTo, ih, lsCopy_ne _ (by omega) (by omega)]
set_option maxRecDepth 100000 in
set_option maxHeartbeats 4000000 in
theorem c_keepGone {κ : Kx} (hκ : KOK κ) {d s : Nat} {G : Wd} (hS : SHa s) (hm : 0 ≤ G.1 s 1 ∧ G.1 s 1 ≤ 6) (hd : 2 ≤ d) : Ct κ MX7_keepGone d 0 0 [VR s] (Wm G) (voidG (goneTo s 3 1 (G.1 s 1).toNat 0 G)) noX := by
  refine Ct_of hκ kX7_keepGone.1 rfl (Nat.le_of_ble_eq_true rfl) (ls := [some (VR s), none, none]) rfl (fun μ => ?_)
  obtain ⟨h1, -⟩ := sh_facts hS
  refine V_ex sX7_keepGone_0 (by rfl) (by first | exact trivial | exact Or.inl trivial | exact Or.inr rfl | exact Or.inl rfl) ?_
  suffices L : ∀ (k : Nat) (c : Nat) (i : Int) (G' : Wd) (x : Option Vl), i = (c : Int) → (c : Int) + k = G.1 s 1 → G'.1 s 1 = G.1 s 1 → goneTo s 3 1 k c G' = goneTo s 3 1 (G.1 s 1).toNat 0 G → V κ MX7_keepGone (rmD d 0 0) (voidG (goneTo s 3 1 (G.1 s 1).toNat 0 G)) noX 0 0 μ 0 0 (Wm G') 2 [some (VR s), some (VI i), x] [] from L (G.1 s 1).toNat 0 0 G _ rfl (by omega) rfl rfl
  intro k
  induction k with
  | zero =>
    intro c i G' x hi hk hG he
    refine V_ex sX7_keepGone_2 (by simp only [Option.toList, List.cons_append, List.nil_append, exN, ex1, gI, gL, gR, pI, pL, pR, lget, lset1, lset2, kl, b2I, b2L, nob, ob32, ob64, xGet, xPut, xLen, xLd, xLdR, xSt, obA, true_and, and_true, and_self, eq_self, Nat.reduceEqDiff, Nat.zero_ne_one, reduceIte, Nat.reduceLeDiff, and_false, false_and, show skd 6 1 = 0 from rfl, h1]; rfl) (by first | exact trivial | exact Or.inl trivial | exact Or.inr rfl | exact Or.inl rfl) ?_
    refine V_icmpge dX7_keepGone_7 (tgt := 37) (by decide) (by unfold R32; constructor <;> omega) (fun q => ?_) (fun q => ?_)
    · refine V_vret dX7_keepGone_37 rfl (by decide) ⟨rfl, by rw [← he]; rfl⟩
    · omega
  | succ k ih =>
    intro c i G' x hi hk hG he
    have hB := (sh_books hS c (by omega)).2
    refine V_ex sX7_keepGone_2 (by simp only [Option.toList, List.cons_append, List.nil_append, exN, ex1, gI, gL, gR, pI, pL, pR, lget, lset1, lset2, kl, b2I, b2L, nob, ob32, ob64, xGet, xPut, xLen, xLd, xLdR, xSt, obA, true_and, and_true, and_self, eq_self, Nat.reduceEqDiff, Nat.zero_ne_one, reduceIte, Nat.reduceLeDiff, and_false, false_and, show skd 6 1 = 0 from rfl, h1]; rfl) (by first | exact trivial | exact Or.inl trivial | exact Or.inr rfl | exact Or.inl rfl) ?_
    refine V_icmpge dX7_keepGone_7 (tgt := 37) (by decide) (by unfold R32; constructor <;> omega) (fun q => ?_) (fun q => ?_)
    · omega
    · refine V_ex sX7_keepGone_10 (by rfl) (by first | exact trivial | exact Or.inl trivial | exact Or.inr rfl | exact Or.inl rfl) ?_
      refine V_callV (M := MX7_keepGone) (N := MX7_bookAt) (As := [VI i]) (rest := []) dX7_keepGone_12 lRX7_52 kX7_bookAt rfl (h1) rfl (c_bookAt (d := 0) hκ hS (by unfold R32; omega) (by unfold R32; omega)) rfl rfl (Nat.le_of_ble_eq_true rfl) (fit_rm (by omega)) (⟨Nat.le_refl _, Nat.le_refl _⟩) (fun v Ω' hp => ?_) (fun _ _ h => h.elim)
      obtain ⟨rfl, rfl⟩ := hp
      have e : bkAt G' s i = s + 7 + 5 * c := by rw [bkAt, if_pos ⟨by omega, by omega, by omega⟩, hi]; rfl
      rw [e]
      refine V_ex sX7_keepGone_15 (by rfl) (by first | exact trivial | exact Or.inl trivial | exact Or.inr rfl | exact Or.inl rfl) ?_
      refine V_ifnull dX7_keepGone_17 (tgt := 31) (by decide) (fun q => ?_) (fun q => ?_)
      · exact absurd q (by omega)
      · refine V_ex sX7_keepGone_20 (by simp only [Option.toList, List.cons_append, List.nil_append, exN, ex1, gI, gL, gR, pI, pL, pR, lget, lset1, lset2, kl, b2I, b2L, nob, ob32, ob64, xGet, xPut, xLen, xLd, xLdR, xSt, obA, true_and, and_true, and_self, eq_self, Nat.reduceEqDiff, Nat.zero_ne_one, reduceIte, Nat.reduceLeDiff, and_false, false_and, show skd 0 6 = 2 from rfl, show skd 0 5 = 2 from rfl, hB.1, hB.2.1, hB.2.2.2.1]; rfl) (by first | exact trivial | exact Or.inl trivial | exact Or.inr rfl | exact Or.inl rfl) ?_
        refine V_callV (M := MX7_keepGone) (N := MX5_takeFrom) (As := [VR (s + 7 + 5 * c + 1)]) (rest := []) dX7_keepGone_28 lRX7_86 kX5_takeFrom rfl (hB.2.2.2.2.1) rfl (c_takeFrom (d := 1) hκ hB.2.2.2.2 hB.2.2.1 (by omega) (by omega) (by omega)) rfl rfl (Nat.le_of_ble_eq_true rfl) (fit_rm (by omega)) (⟨Nat.le_refl _, Nat.le_refl _⟩) (fun v Ω' hp => ?_) (fun _ _ h => h.elim)
        obtain ⟨rfl, rfl⟩ := hp
        refine V_ex sX7_keepGone_31 (by rfl) (by first | exact trivial | exact Or.inl trivial | exact Or.inr rfl | exact Or.inl rfl) ?_
        refine V_goto dX7_keepGone_34 (tgt := 2) (by decide) ?_
        exact ih (c + 1) _ _ _ (by omega) (by omega) (by rw [lsCopy_ne _ (by omega) (by omega)]; exact hG) he
set_option maxRecDepth 100000 in
set_option maxHeartbeats 4000000 in
theorem c_restoreGone {κ : Kx} (hκ : KOK κ) {d s : Nat} {G : Wd} (hS : SHa s) (hm : 0 ≤ G.1 s 1 ∧ G.1 s 1 ≤ 6) (hd : 2 ≤ d) : Ct κ MX7_restoreGone d 0 0 [VR s] (Wm G) (voidG (goneTo s 1 3 (G.1 s 1).toNat 0 G)) noX := by
  refine Ct_of hκ kX7_restoreGone.1 rfl (Nat.le_of_ble_eq_true rfl) (ls := [some (VR s), none, none]) rfl (fun μ => ?_)
  obtain ⟨h1, -⟩ := sh_facts hS
  refine V_ex sX7_restoreGone_0 (by rfl) (by first | exact trivial | exact Or.inl trivial | exact Or.inr rfl | exact Or.inl rfl) ?_
  suffices L : ∀ (k : Nat) (c : Nat) (i : Int) (G' : Wd) (x : Option Vl), i = (c : Int) → (c : Int) + k = G.1 s 1 → G'.1 s 1 = G.1 s 1 → goneTo s 1 3 k c G' = goneTo s 1 3 (G.1 s 1).toNat 0 G → V κ MX7_restoreGone (rmD d 0 0) (voidG (goneTo s 1 3 (G.1 s 1).toNat 0 G)) noX 0 0 μ 0 0 (Wm G') 2 [some (VR s), some (VI i), x] [] from L (G.1 s 1).toNat 0 0 G _ rfl (by omega) rfl rfl
  intro k
  induction k with
  | zero =>
    intro c i G' x hi hk hG he
    refine V_ex sX7_restoreGone_2 (by simp only [Option.toList, List.cons_append, List.nil_append, exN, ex1, gI, gL, gR, pI, pL, pR, lget, lset1, lset2, kl, b2I, b2L, nob, ob32, ob64, xGet, xPut, xLen, xLd, xLdR, xSt, obA, true_and, and_true, and_self, eq_self, Nat.reduceEqDiff, Nat.zero_ne_one, reduceIte, Nat.reduceLeDiff, and_false, false_and, show skd 6 1 = 0 from rfl, h1]; rfl) (by first | exact trivial | exact Or.inl trivial | exact Or.inr rfl | exact Or.inl rfl) ?_
    refine V_icmpge dX7_restoreGone_7 (tgt := 37) (by decide) (by unfold R32; constructor <;> omega) (fun q => ?_) (fun q => ?_)
    · refine V_vret dX7_restoreGone_37 rfl (by decide) ⟨rfl, by rw [← he]; rfl⟩
    · omega
  | succ k ih =>
    intro c i G' x hi hk hG he
    have hB := (sh_books hS c (by omega)).2
    refine V_ex sX7_restoreGone_2 (by simp only [Option.toList, List.cons_append, List.nil_append, exN, ex1, gI, gL, gR, pI, pL, pR, lget, lset1, lset2, kl, b2I, b2L, nob, ob32, ob64, xGet, xPut, xLen, xLd, xLdR, xSt, obA, true_and, and_true, and_self, eq_self, Nat.reduceEqDiff, Nat.zero_ne_one, reduceIte, Nat.reduceLeDiff, and_false, false_and, show skd 6 1 = 0 from rfl, h1]; rfl) (by first | exact trivial | exact Or.inl trivial | exact Or.inr rfl | exact Or.inl rfl) ?_
    refine V_icmpge dX7_restoreGone_7 (tgt := 37) (by decide) (by unfold R32; constructor <;> omega) (fun q => ?_) (fun q => ?_)
    · omega
    · refine V_ex sX7_restoreGone_10 (by rfl) (by first | exact trivial | exact Or.inl trivial | exact Or.inr rfl | exact Or.inl rfl) ?_
      refine V_callV (M := MX7_restoreGone) (N := MX7_bookAt) (As := [VI i]) (rest := []) dX7_restoreGone_12 lRX7_52 kX7_bookAt rfl (h1) rfl (c_bookAt (d := 0) hκ hS (by unfold R32; omega) (by unfold R32; omega)) rfl rfl (Nat.le_of_ble_eq_true rfl) (fit_rm (by omega)) (⟨Nat.le_refl _, Nat.le_refl _⟩) (fun v Ω' hp => ?_) (fun _ _ h => h.elim)
      obtain ⟨rfl, rfl⟩ := hp
      have e : bkAt G' s i = s + 7 + 5 * c := by rw [bkAt, if_pos ⟨by omega, by omega, by omega⟩, hi]; rfl
      rw [e]
      refine V_ex sX7_restoreGone_15 (by rfl) (by first | exact trivial | exact Or.inl trivial | exact Or.inr rfl | exact Or.inl rfl) ?_
      refine V_ifnull dX7_restoreGone_17 (tgt := 31) (by decide) (fun q => ?_) (fun q => ?_)
      · exact absurd q (by omega)
      · refine V_ex sX7_restoreGone_20 (by simp only [Option.toList, List.cons_append, List.nil_append, exN, ex1, gI, gL, gR, pI, pL, pR, lget, lset1, lset2, kl, b2I, b2L, nob, ob32, ob64, xGet, xPut, xLen, xLd, xLdR, xSt, obA, true_and, and_true, and_self, eq_self, Nat.reduceEqDiff, Nat.zero_ne_one, reduceIte, Nat.reduceLeDiff, and_false, false_and, show skd 0 5 = 2 from rfl, show skd 0 6 = 2 from rfl, hB.1, hB.2.1, hB.2.2.2.1]; rfl) (by first | exact trivial | exact Or.inl trivial | exact Or.inr rfl | exact Or.inl rfl) ?_
        refine V_callV (M := MX7_restoreGone) (N := MX5_takeFrom) (As := [VR (s + 7 + 5 * c + 3)]) (rest := []) dX7_restoreGone_28 lRX7_86 kX5_takeFrom rfl (hB.2.2.1.1) rfl (c_takeFrom (d := 1) hκ hB.2.2.1 hB.2.2.2.2 (by omega) (by omega) (by omega)) rfl rfl (Nat.le_of_ble_eq_true rfl) (fit_rm (by omega)) (⟨Nat.le_refl _, Nat.le_refl _⟩) (fun v Ω' hp => ?_) (fun _ _ h => h.elim)
        obtain ⟨rfl, rfl⟩ := hp
        refine V_ex sX7_restoreGone_31 (by rfl) (by first | exact trivial | exact Or.inl trivial | exact Or.inr rfl | exact Or.inl rfl) ?_
        refine V_goto dX7_restoreGone_34 (tgt := 2) (by decide) ?_
        exact ih (c + 1) _ _ _ (by omega) (by omega) (by rw [lsCopy_ne _ (by omega) (by omega)]; exact hG) he
/-- the signs of a rule, in their order -/
def opsL (f : Nat → Int) : Nat → Nat → List Int
  | 0, _ => []
  | k + 1, i => f i :: opsL f k (i + 1)
def stepL (leaves page op : Int) (st : List Int) : List Int :=
  if -4 ≤ op then (if 0 ≤ op then op else valOf op leaves page) :: st
  else if op = -5 then (match st with | x :: r => (if x = 0 then 1 else 0) :: r | [] => [])
  else (match st with | y :: x :: r => comb op x y :: r | _ => [])
def runL (leaves page : Int) : List Int → List Int → List Int
  | [], st => st
  | op :: r, st => runL leaves page r (stepL leaves page op st)
/-- the signs leave just one number, and never more than 64 -/
def depL : List Int → Nat → Prop
  | [], n => n = 1
  | op :: r, n => if -4 ≤ op then n < 64 ∧ depL r (n + 1) else if op = -5 then 1 ≤ n ∧ depL r n else 2 ≤ n ∧ depL r (n - 1)
def clT (z : Int) : Int := if 1 ≤ z ∧ z ≤ 99999 then z else 0
/-- the same but the stack of shelf s -/
def ScS (s : Nat) (G G' : Wd) : Prop := G'.2 = G.2 ∧ ∀ x j, x ≠ s + 6 → ¬ (x = s ∧ j = 10) → G'.1 x j = G.1 x j
theorem ScS.refl (s : Nat) (G : Wd) : ScS s G G := ⟨rfl, fun _ _ _ _ => rfl⟩
def stk (f : Nat → Int) : List Int → Prop
  | [] => True
  | x :: r => f r.length = x ∧ stk f r
theorem stk_upd {f f' : Nat → Int} : ∀ {st : List Int}, (∀ j, j < st.length → f' j = f j) → stk f st → stk f' st := by
  intro st
  induction st with
  | nil => intro _ _; trivial
  | cons x r ih =>
    intro h hs
    exact ⟨by rw [h _ (by simp)]; exact hs.1, ih (fun j hj => h j (by simp; omega)) hs.2⟩
theorem valOf_R {op L p : Int} (hL : R32 L) (hp : 1 ≤ p) (hp2 : R32 p) : R32 (valOf op L p) := by
  unfold valOf
  unfold R32 at *
  repeat' split
  all_goals omega
set_option maxRecDepth 100000 in
set_option maxHeartbeats 4000000 in
theorem c_toldNumber {κ : Kx} (hκ : KOK κ) {d s a : Nat} {p : Int} {G : Wd} (hS : SHa s) (hB : BKa a) (ha : a ≠ s ∧ a ≠ s + 6) (hp0 : 1 ≤ p) (hp2 : R32 p) (hL : R32 (G.1 a 1)) (hr : 0 ≤ G.1 a 3 ∧ G.1 a 3 ≤ G.1 a 4 ∧ G.1 a 4 ≤ 500) (hc : ∀ j, R32 (G.1 (s + 5) j)) (hdep : depL (opsL (G.1 (s + 5)) (G.1 a 4 - G.1 a 3).toNat (G.1 a 3).toNat) 0) (hd : 2 ≤ d) :
    Ct κ MX7_toldNumber d 0 0 [VR s, VR a, VI p] (Wm G) (fun v Ω' => v = some (VI (clT ((runL (G.1 a 1) p (opsL (G.1 (s + 5)) (G.1 a 4 - G.1 a 3).toNat (G.1 a 3).toNat) []).headD 0))) ∧ ∃ G', Ω' = Wm G' ∧ ScS s G G') noX := by
  refine Ct_of hκ kX7_toldNumber.1 rfl (Nat.le_of_ble_eq_true rfl) (ls := [some (VR s), some (VR a), some (VI p), none, none, none]) rfl (fun μ => ?_)
  obtain ⟨h1, -, -, -, -, -, -, -, -, h2, h3, h4, h5⟩ := sh_facts hS
  generalize hres : runL (G.1 a 1) p (opsL (G.1 (s + 5)) (G.1 a 4 - G.1 a 3).toNat (G.1 a 3).toNat) [] = res
  have e0 : upd2 G.1 s 10 0 a = G.1 a := upd2_ne 0 ha.1
  refine V_ex sX7_toldNumber_0 (by simp only [Option.toList, List.cons_append, List.nil_append, exN, ex1, gI, gL, gR, pI, pL, pR, lget, lset1, lset2, kl, b2I, b2L, nob, ob32, ob64, xGet, xPut, xLen, xLd, xLdR, xSt, obA, true_and, and_true, and_self, eq_self, Nat.reduceEqDiff, Nat.zero_ne_one, reduceIte, Nat.reduceLeDiff, and_false, false_and, show skd 6 10 = 0 from rfl, show skd 0 3 = 0 from rfl, h1, hB.1, e0]; rfl) (by first | exact trivial | exact Or.inl trivial | exact Or.inr rfl | exact Or.inl rfl) ?_
  suffices L : ∀ (k : Nat) (c : Nat) (i : Int) (st : List Int) (G' : Wd) (x y : Option Vl), i = (c : Int) → (c : Int) + k = G.1 a 4 → ScS s G G' → G'.1 s 10 = (st.length : Nat) → st.length ≤ 64 → stk (G'.1 (s + 6)) st → (∀ z ∈ st, R32 z) → depL (opsL (G.1 (s + 5)) k c) st.length → runL (G.1 a 1) p (opsL (G.1 (s + 5)) k c) st = res → V κ MX7_toldNumber (rmD d 0 0) (fun v Ω' => v = some (VI (clT (res.headD 0))) ∧ ∃ G', Ω' = Wm G' ∧ ScS s G G') noX 0 0 μ 0 0 (Wm G') 10 [some (VR s), some (VR a), some (VI p), some (VI i), x, y] [] from
    L (G.1 a 4 - G.1 a 3).toNat (G.1 a 3).toNat _ [] _ _ _ (by omega) (by omega) ⟨rfl, fun x j hx hj => by simp [upd2_eq, hj]⟩ (by simp [upd2_eq]) (by simp) trivial (by simp) hdep hres
  intro k
  induction k with
  | zero =>
    intro c i st G' x y hi hk hsc hm hst hs hR hdp he
    have ea : G'.1 a 4 = G.1 a 4 := hsc.2 a 4 ha.2 (by omega)
    simp only [opsL, depL, runL] at hdp he
    obtain ⟨z, rfl⟩ : ∃ z, st = [z] := by
      match st, hdp with
      | [z], _ => exact ⟨z, rfl⟩
    have hz := hR z (by simp)
    refine V_ex sX7_toldNumber_10 (by simp only [Option.toList, List.cons_append, List.nil_append, exN, ex1, gI, gL, gR, pI, pL, pR, lget, lset1, lset2, kl, b2I, b2L, nob, ob32, ob64, xGet, xPut, xLen, xLd, xLdR, xSt, obA, true_and, and_true, and_self, eq_self, Nat.reduceEqDiff, Nat.zero_ne_one, reduceIte, Nat.reduceLeDiff, and_false, false_and, show skd 0 4 = 0 from rfl, hB.1, ea]; rfl) (by first | exact trivial | exact Or.inl trivial | exact Or.inr rfl | exact Or.inl rfl) ?_
    refine V_icmpge dX7_toldNumber_15 (tgt := 112) (by decide) (by unfold R32; constructor <;> omega) (fun q => ?_) (fun q => ?_)
    · refine V_ex sX7_toldNumber_112 (by rfl) (by first | exact trivial | exact Or.inl trivial | exact Or.inr rfl | exact Or.inl rfl) ?_
      refine V_callV (M := MX7_toldNumber) (N := MX7_pop) (As := []) (rest := []) dX7_toldNumber_113 lRX7_106 kX7_pop rfl (h1) rfl (c_pop (d := 1) hκ hS (by rw [hm]; simp) (by omega)) rfl rfl (Nat.le_of_ble_eq_true rfl) (fit_rm (by omega)) (⟨Nat.le_refl _, Nat.le_refl _⟩) (fun v Ω' hp => ?_) (fun _ _ h => h.elim)
      obtain ⟨rfl, rfl⟩ := hp
      rw [show G'.1 (s + 6) (G'.1 s 10 - 1).toNat = z by rw [hm]; exact hs.1]
      have sc2 : ScS s G (uI G' s 10 (G'.1 s 10 - 1)) := ⟨hsc.1, fun x j hx hj => by show upd2 _ _ _ _ _ _ = _; simp only [upd2_eq, if_neg hj]; exact hsc.2 x j hx hj⟩
      refine V_ex sX7_toldNumber_116 (by rfl) (by first | exact trivial | exact Or.inl trivial | exact Or.inr rfl | exact Or.inl rfl) ?_
      refine V_icmplt dX7_toldNumber_119 (tgt := 128) (by decide) (by exact ⟨hz, by unfold R32; omega⟩) (fun q2 => ?_) (fun q2 => ?_)
      · refine V_ex sX7_toldNumber_128 (by rfl) (by first | exact trivial | exact Or.inl trivial | exact Or.inr rfl | exact Or.inl rfl) ?_
        refine V_goto dX7_toldNumber_129 (tgt := 133) (by decide) ?_
        refine V_iret dX7_toldNumber_133 rfl (by decide) ⟨by rw [← he]; simp only [List.headD]; rw [clT, if_neg (by omega)], _, rfl, sc2⟩
      · refine V_ex sX7_toldNumber_122 (by rfl) (by first | exact trivial | exact Or.inl trivial | exact Or.inr rfl | exact Or.inl rfl) ?_
        refine V_icmple dX7_toldNumber_125 (tgt := 132) (by decide) (by exact ⟨hz, by unfold R32; omega⟩) (fun q3 => ?_) (fun q3 => ?_)
        · refine V_ex sX7_toldNumber_132 (by rfl) (by first | exact trivial | exact Or.inl trivial | exact Or.inr rfl | exact Or.inl rfl) ?_
          refine V_iret dX7_toldNumber_133 rfl (by decide) ⟨by rw [← he]; simp only [List.headD]; rw [clT, if_pos (by omega)], _, rfl, sc2⟩
        · refine V_ex sX7_toldNumber_128 (by rfl) (by first | exact trivial | exact Or.inl trivial | exact Or.inr rfl | exact Or.inl rfl) ?_
          refine V_goto dX7_toldNumber_129 (tgt := 133) (by decide) ?_
          refine V_iret dX7_toldNumber_133 rfl (by decide) ⟨by rw [← he]; simp only [List.headD]; rw [clT, if_neg (by omega)], _, rfl, sc2⟩
    · omega
  | succ k ih =>
    intro c i st G' x y hi hk hsc hm hst hs hR hdp he
    have ea : G'.1 a 4 = G.1 a 4 := hsc.2 a 4 ha.2 (by omega)
    have ec : G'.1 (s + 5) c = G.1 (s + 5) c := hsc.2 _ _ (by omega) (by omega)
    have eL : G'.1 a 1 = G.1 a 1 := hsc.2 a 1 ha.2 (by omega)
    have sc2 : ∀ (f : Nat → Int) (z : Int), ScS s G (uI (uA G' (s + 6) f) s 10 z) := fun f z => ⟨hsc.1, fun x j hx hj => by show upd2 _ _ _ _ _ _ = _; simp only [upd2_eq, if_neg hj, if_neg hx]; exact hsc.2 x j hx hj⟩
    simp only [opsL, depL, runL] at hdp he
    generalize hop : G.1 (s + 5) c = op at *
    have hoR : R32 op := by rw [← hop]; exact hc c
    -- a push that ends the round
    have psh : ∀ (G2 : Wd) (st2 : List Int) (z : Int) (x y : Option Vl), ScS s G G2 → G2.1 s 10 = (st2.length : Nat) → st2.length < 64 → stk (G2.1 (s + 6)) st2 → (∀ z ∈ st2, R32 z) → R32 z → depL (opsL (G.1 (s + 5)) k (c + 1)) (st2.length + 1) → runL (G.1 a 1) p (opsL (G.1 (s + 5)) k (c + 1)) (z :: st2) = res →
        (V κ MX7_toldNumber (rmD d 0 0) (fun v Ω' => v = some (VI (clT (res.headD 0))) ∧ ∃ G', Ω' = Wm G' ∧ ScS s G G') noX 0 0 μ 0 0 (Wm (uI (uI G2 (s + 6) (G2.1 s 10).toNat z) s 10 (G2.1 s 10 + 1))) 106 [some (VR s), some (VR a), some (VI p), some (VI i), x, y] []) := by
      intro G2 st2 z x y b1 b2 b3 b4 b5 b6 b7 b8
      refine V_ex sX7_toldNumber_106 (by rfl) (by first | exact trivial | exact Or.inl trivial | exact Or.inr rfl | exact Or.inl rfl) ?_
      refine V_goto dX7_toldNumber_109 (tgt := 10) (by decide) ?_
      have e6 : ∀ j, upd2 (upd2 G2.1 (s + 6) (G2.1 s 10).toNat z) s 10 (G2.1 s 10 + 1) (s + 6) j = if j = st2.length then z else G2.1 (s + 6) j := fun j => by
        rw [upd2_ne _ (by omega), upd2_eq, b2]; simp
      refine ih (c + 1) (i + 1) (z :: st2) (uI (uI G2 (s + 6) (G2.1 s 10).toNat z) s 10 (G2.1 s 10 + 1)) _ _ (by omega) (by omega) ⟨b1.1, fun x j hx hj => ?_⟩ ?_ (by simp; omega) ?_ ?_ ?_ b8
      · show upd2 (upd2 _ _ _ _) _ _ _ _ _ = _
        simp only [upd2_eq, if_neg hj, if_neg (show ¬ (x = s + 6 ∧ j = (G2.1 s 10).toNat) from fun h => hx h.1)]
        exact b1.2 x j hx hj
      · show upd2 (upd2 _ _ _ _) _ _ _ _ _ = _
        rw [upd2_same, b2]; simp
      · refine ⟨(e6 _).trans (if_pos rfl), stk_upd (fun j hj => (e6 j).trans (if_neg (by omega))) b4⟩
      · intro w hw
        rcases List.mem_cons.mp hw with h | h
        · rw [h]; exact b6
        · exact b5 w h
      · exact b7
    have hcR : c < 500 := by omega
    refine V_ex sX7_toldNumber_10 (by simp only [Option.toList, List.cons_append, List.nil_append, exN, ex1, gI, gL, gR, pI, pL, pR, lget, lset1, lset2, kl, b2I, b2L, nob, ob32, ob64, xGet, xPut, xLen, xLd, xLdR, xSt, obA, true_and, and_true, and_self, eq_self, Nat.reduceEqDiff, Nat.zero_ne_one, reduceIte, Nat.reduceLeDiff, and_false, false_and, show skd 0 4 = 0 from rfl, hB.1, ea]; rfl) (by first | exact trivial | exact Or.inl trivial | exact Or.inr rfl | exact Or.inl rfl) ?_
    refine V_icmpge dX7_toldNumber_15 (tgt := 112) (by decide) (by unfold R32; constructor <;> omega) (fun q => ?_) (fun q => ?_)
    · omega
    · refine V_ex sX7_toldNumber_18 (by simp only [Option.toList, List.cons_append, List.nil_append, exN, ex1, gI, gL, gR, pI, pL, pR, lget, lset1, lset2, kl, b2I, b2L, nob, ob32, ob64, xGet, xPut, xLen, xLd, xLdR, xSt, obA, true_and, and_true, and_self, eq_self, Nat.reduceEqDiff, Nat.zero_ne_one, reduceIte, Nat.reduceLeDiff, and_false, false_and, show skd 6 7 = 2 from rfl, h1, h2]; rfl) (by first | exact trivial | exact Or.inl trivial | exact Or.inr rfl | exact Or.inl rfl) ?_
      refine V_callSN (M := MX7_toldNumber) (N := MX11_at) (As := [VR (s + 5), VI i]) (rest := []) dX7_toldNumber_23 lRX7_71 kX11_at rfl (c_at (d := 1) hκ h3 (by decide) (by unfold R32; omega)) rfl rfl (Nat.le_of_ble_eq_true rfl) (fit_rm (by omega)) (⟨Nat.le_refl _, Nat.le_refl _⟩) (fun v Ω' hp => ?_) (fun _ _ h => h.elim)
      obtain ⟨rfl, rfl⟩ := hp
      rw [rAt, if_pos ⟨by omega, by omega⟩, show i.toNat = c by omega, ec]
      refine V_ex sX7_toldNumber_26 (by rfl) (by first | exact trivial | exact Or.inl trivial | exact Or.inr rfl | exact Or.inl rfl) ?_
      refine V_icmplt dX7_toldNumber_32 (tgt := 59) (by decide) (by exact ⟨hoR, by unfold R32; omega⟩) (fun q2 => ?_) (fun q2 => ?_)
      · rw [if_neg (by omega)] at hdp
        refine V_ex sX7_toldNumber_59 (by rfl) (by first | exact trivial | exact Or.inl trivial | exact Or.inr rfl | exact Or.inl rfl) ?_
        refine V_icmpne dX7_toldNumber_63 (tgt := 85) (by decide) (by exact ⟨hoR, by unfold R32; omega⟩) (fun q3 => ?_) (fun q3 => ?_)
        · rw [if_neg q3] at hdp
          obtain ⟨z2, z1, r, rfl⟩ : ∃ z2 z1 r, st = z2 :: z1 :: r := by
            match st, hdp.1 with
            | z2 :: z1 :: r, _ => exact ⟨z2, z1, r, rfl⟩
          rw [stepL.eq_def, if_neg (by omega), if_neg q3] at he
          have hn : G'.1 s 10 = (r.length : Nat) + 2 := by rw [hm]; simp; omega
          have hl2 : r.length + 2 ≤ 64 := by simpa using hst
          refine V_ex sX7_toldNumber_85 (by rfl) (by first | exact trivial | exact Or.inl trivial | exact Or.inr rfl | exact Or.inl rfl) ?_
          refine V_callV (M := MX7_toldNumber) (N := MX7_pop) (As := []) (rest := []) dX7_toldNumber_86 lRX7_106 kX7_pop rfl (h1) rfl (c_pop (d := 1) hκ hS (by omega) (by omega)) rfl rfl (Nat.le_of_ble_eq_true rfl) (fit_rm (by omega)) (⟨Nat.le_refl _, Nat.le_refl _⟩) (fun v Ω' hp => ?_) (fun _ _ h => h.elim)
          obtain ⟨rfl, rfl⟩ := hp
          rw [show G'.1 (s + 6) (G'.1 s 10 - 1).toNat = z2 by rw [hn, show ((r.length : Int) + 2 - 1).toNat = (z1 :: r).length by simp; omega]; exact hs.1]
          have hn2 : (uI G' s 10 (G'.1 s 10 - 1)).1 s 10 = (r.length : Nat) + 1 := by show upd2 _ _ _ _ _ _ = _; rw [upd2_same]; omega
          generalize hG2 : uI G' s 10 (G'.1 s 10 - 1) = G2 at hn2
          have f2 : ∀ x j, ¬ (x = s ∧ j = 10) → G2.1 x j = G'.1 x j := fun x j h => by rw [← hG2]; show upd2 _ _ _ _ _ _ = _; rw [upd2_eq, if_neg h]
          refine V_ex sX7_toldNumber_89 (by rfl) (by first | exact trivial | exact Or.inl trivial | exact Or.inr rfl | exact Or.inl rfl) ?_
          refine V_callV (M := MX7_toldNumber) (N := MX7_pop) (As := []) (rest := [VI op, VR s]) dX7_toldNumber_95 lRX7_106 kX7_pop rfl (h1) rfl (c_pop (d := 1) hκ hS (by omega) (by omega)) rfl rfl (Nat.le_of_ble_eq_true rfl) (fit_rm (by omega)) (⟨Nat.le_refl _, Nat.le_refl _⟩) (fun v Ω' hp => ?_) (fun _ _ h => h.elim)
          obtain ⟨rfl, rfl⟩ := hp
          rw [show G2.1 (s + 6) (G2.1 s 10 - 1).toNat = z1 by rw [hn2, f2 _ _ (by omega), show ((r.length : Int) + 1 - 1).toNat = r.length by omega]; exact hs.2.1]
          have hn3 : (uI G2 s 10 (G2.1 s 10 - 1)).1 s 10 = (r.length : Nat) := by show upd2 _ _ _ _ _ _ = _; rw [upd2_same]; omega
          have f3 : ∀ x j, ¬ (x = s ∧ j = 10) → (uI G2 s 10 (G2.1 s 10 - 1)).1 x j = G'.1 x j := fun x j h => by show upd2 _ _ _ _ _ _ = _; rw [upd2_eq, if_neg h, f2 x j h]
          have f3b : (uI G2 s 10 (G2.1 s 10 - 1)).2 = G.2 := by rw [← hG2]; exact hsc.1
          generalize uI G2 s 10 (G2.1 s 10 - 1) = G3 at hn3 f3 f3b
          refine V_ex sX7_toldNumber_98 (by rfl) (by first | exact trivial | exact Or.inl trivial | exact Or.inr rfl | exact Or.inl rfl) ?_
          refine V_callS (M := MX7_toldNumber) (N := MX7_combine) (As := [VI op, VI z1, VI z2]) (rest := [VR s]) dX7_toldNumber_100 lRX7_110 kX7_combine rfl (c_combine (d := 1) hκ hoR (hR z1 (by simp)) (hR z2 (by simp))) rfl rfl (Nat.le_of_ble_eq_true rfl) (fit_rm (by omega)) (⟨Nat.le_refl _, Nat.le_refl _⟩) (fun v Ω' hp => ?_) (fun _ _ h => h.elim)
          obtain ⟨rfl, rfl⟩ := hp
          refine V_callV (M := MX7_toldNumber) (N := MX7_push) (As := [VI (comb op z1 z2)]) (rest := []) dX7_toldNumber_103 lRX7_103 kX7_push rfl (h1) rfl (c_push (d := 1) hκ hS (by omega) (by omega)) rfl rfl (Nat.le_of_ble_eq_true rfl) (fit_rm (by omega)) (⟨Nat.le_refl _, Nat.le_refl _⟩) (fun v Ω' hp => ?_) (fun _ _ h => h.elim)
          obtain ⟨rfl, rfl⟩ := hp
          exact psh _ r _ _ _ ⟨f3b, fun x j hx hj => by rw [f3 x j hj]; exact hsc.2 x j hx hj⟩ hn3 (by omega) (stk_upd (fun j _ => f3 _ _ (by omega)) hs.2.2) (fun z hz => hR z (by simp [hz])) (comb_R _ _ _) (by simpa using hdp.2) he
        · rw [if_pos q3] at hdp
          obtain ⟨z, r, rfl⟩ : ∃ z r, st = z :: r := by
            match st, hdp.1 with
            | z :: r, _ => exact ⟨z, r, rfl⟩
          rw [stepL.eq_def, if_neg (by omega), if_pos q3] at he
          have hn : G'.1 s 10 = (r.length : Nat) + 1 := by rw [hm]; simp
          have hl2 : r.length + 1 ≤ 64 := by simpa using hst
          refine V_ex sX7_toldNumber_66 (by rfl) (by first | exact trivial | exact Or.inl trivial | exact Or.inr rfl | exact Or.inl rfl) ?_
          refine V_callV (M := MX7_toldNumber) (N := MX7_pop) (As := []) (rest := [VR s]) dX7_toldNumber_68 lRX7_106 kX7_pop rfl (h1) rfl (c_pop (d := 1) hκ hS (by omega) (by omega)) rfl rfl (Nat.le_of_ble_eq_true rfl) (fit_rm (by omega)) (⟨Nat.le_refl _, Nat.le_refl _⟩) (fun v Ω' hp => ?_) (fun _ _ h => h.elim)
          obtain ⟨rfl, rfl⟩ := hp
          rw [show G'.1 (s + 6) (G'.1 s 10 - 1).toNat = z by rw [hn, show ((r.length : Int) + 1 - 1).toNat = r.length by omega]; exact hs.1]
          have hn2 : (uI G' s 10 (G'.1 s 10 - 1)).1 s 10 = (r.length : Nat) := by show upd2 _ _ _ _ _ _ = _; rw [upd2_same]; omega
          have f2 : ∀ x j, ¬ (x = s ∧ j = 10) → (uI G' s 10 (G'.1 s 10 - 1)).1 x j = G'.1 x j := fun x j h => by show upd2 _ _ _ _ _ _ = _; rw [upd2_eq, if_neg h]
          have f2b : (uI G' s 10 (G'.1 s 10 - 1)).2 = G.2 := hsc.1
          generalize uI G' s 10 (G'.1 s 10 - 1) = G2 at hn2 f2 f2b
          have push79 : ∀ w, w = (if z = 0 then 1 else 0) → V κ MX7_toldNumber (rmD d 0 0) (fun v Ω' => v = some (VI (clT (res.headD 0))) ∧ ∃ G', Ω' = Wm G' ∧ ScS s G G') noX 0 0 μ 0 0 (Wm G2) 79 [some (VR s), some (VR a), some (VI p), some (VI i), some (VI op), y] [VI w, VR s] := fun w hw => by
            refine V_callV (M := MX7_toldNumber) (N := MX7_push) (As := [VI w]) (rest := []) dX7_toldNumber_79 lRX7_103 kX7_push rfl (h1) rfl (c_push (d := 1) hκ hS (by omega) (by omega)) rfl rfl (Nat.le_of_ble_eq_true rfl) (fit_rm (by omega)) (⟨Nat.le_refl _, Nat.le_refl _⟩) (fun v Ω' hp => ?_) (fun _ _ h => h.elim)
            obtain ⟨rfl, rfl⟩ := hp
            refine V_goto dX7_toldNumber_82 (tgt := 106) (by decide) ?_
            exact psh _ r _ _ _ ⟨f2b, fun x j hx hj => by rw [f2 x j hj]; exact hsc.2 x j hx hj⟩ hn2 (by omega) (stk_upd (fun j _ => f2 _ _ (by omega)) hs.2) (fun z hz => hR z (by simp [hz])) (by rw [hw]; split <;> exact ⟨by decide, by decide⟩) hdp.2 (by rw [hw]; exact he)
          refine V_ifne dX7_toldNumber_71 (tgt := 78) (by decide) (by exact hR z (by simp)) (fun q4 => ?_) (fun q4 => ?_)
          · refine V_ex sX7_toldNumber_78 (by rfl) (by first | exact trivial | exact Or.inl trivial | exact Or.inr rfl | exact Or.inl rfl) ?_
            exact push79 0 (by rw [if_neg q4])
          · refine V_ex sX7_toldNumber_74 (by rfl) (by first | exact trivial | exact Or.inl trivial | exact Or.inr rfl | exact Or.inl rfl) ?_
            refine V_goto dX7_toldNumber_75 (tgt := 79) (by decide) ?_
            exact push79 1 (by rw [if_pos q4])
      · rw [if_pos (by omega)] at hdp
        rw [stepL.eq_def, if_pos (by omega)] at he
        have push53 : ∀ w, w = (if 0 ≤ op then op else valOf op (G.1 a 1) p) → V κ MX7_toldNumber (rmD d 0 0) (fun v Ω' => v = some (VI (clT (res.headD 0))) ∧ ∃ G', Ω' = Wm G' ∧ ScS s G G') noX 0 0 μ 0 0 (Wm G') 53 [some (VR s), some (VR a), some (VI p), some (VI i), some (VI op), y] [VI w, VR s] := fun w hw => by
          refine V_callV (M := MX7_toldNumber) (N := MX7_push) (As := [VI w]) (rest := []) dX7_toldNumber_53 lRX7_103 kX7_push rfl (h1) rfl (c_push (d := 1) hκ hS (by omega) (by omega)) rfl rfl (Nat.le_of_ble_eq_true rfl) (fit_rm (by omega)) (⟨Nat.le_refl _, Nat.le_refl _⟩) (fun v Ω' hp => ?_) (fun _ _ h => h.elim)
          obtain ⟨rfl, rfl⟩ := hp
          refine V_goto dX7_toldNumber_56 (tgt := 106) (by decide) ?_
          exact psh _ st _ _ _ hsc hm hdp.1 hs hR (by rw [hw]; split; exact hoR; exact valOf_R hL hp0 hp2) hdp.2 (by rw [hw]; exact he)
        refine V_ex sX7_toldNumber_35 (by rfl) (by first | exact trivial | exact Or.inl trivial | exact Or.inr rfl | exact Or.inl rfl) ?_
        refine V_iflt dX7_toldNumber_38 (tgt := 46) (by decide) (by exact hoR) (fun q3 => ?_) (fun q3 => ?_)
        · refine V_ex sX7_toldNumber_46 (by rfl) (by first | exact trivial | exact Or.inl trivial | exact Or.inr rfl | exact Or.inl rfl) ?_
          refine V_callS (M := MX7_toldNumber) (N := MX7_valueOf) (As := [VI op, VR a, VI p]) (rest := [VR s]) dX7_toldNumber_50 lRX7_99 kX7_valueOf rfl (c_valueOf (d := 1) hκ hB hoR hp0 hp2 (by omega)) rfl rfl (Nat.le_of_ble_eq_true rfl) (fit_rm (by omega)) (⟨Nat.le_refl _, Nat.le_refl _⟩) (fun v Ω' hp => ?_) (fun _ _ h => h.elim)
          obtain ⟨rfl, rfl⟩ := hp
          exact push53 _ (by rw [if_neg (by omega), eL])
        · refine V_ex sX7_toldNumber_41 (by rfl) (by first | exact trivial | exact Or.inl trivial | exact Or.inr rfl | exact Or.inl rfl) ?_
          refine V_goto dX7_toldNumber_43 (tgt := 53) (by decide) ?_
          exact push53 _ (by rw [if_pos (by omega)])
