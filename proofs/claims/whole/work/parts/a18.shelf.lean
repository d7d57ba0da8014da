/-! TornLeaves: shelf -/
theorem runB_c {P : Int → Bool} {f g : Nat → Int} : ∀ (k p : Nat), (∀ j, p ≤ j → j < p + k → f j = g j) → runB P f k p = runB P g k p := by
  intro k
  induction k with
  | zero => intro p h; rfl
  | succ k ih => intro p h; rw [runB, runB, h p (by omega) (by omega), ih (p + 1) (fun j a b => h j (by omega) (by omega))]
theorem valC_c {f g : Nat → Int} {p : Nat} : ∀ k, (∀ j, p ≤ j → j < p + k → f j = g j) → valC f p k = valC g p k := by
  intro k
  induction k with
  | zero => intro h; rfl
  | succ k ih => intro h; rw [valC, valC, ih (fun j a b => h j a (by omega)), h (p + k) (by omega) (by omega)]
theorem wdEq_c {f g : Nat → Int} : ∀ (t : List Int) (p : Nat), (∀ j, p ≤ j → j < p + t.length → f j = g j) → wdEq f p t = wdEq g p t := by
  intro t
  induction t with
  | nil => intro p h; rfl
  | cons c r ih => intro p h; rw [wdEq, wdEq, h p (by omega) (by simp), ih (p + 1) (fun j a b => h j (by omega) (by simp; omega))]
theorem isWd_c {f g : Nat → Int} {p e : Nat} {t : List Int} (h : ∀ j, p ≤ j → j < e → f j = g j) : isWd f p e t = isWd g p e t := by
  unfold isWd
  by_cases c : (e : Int) - (p : Int) = (t.length : Nat)
  · rw [wdEq_c t p (fun j a b => h j a (by omega))]
  · rw [decide_eq_false c]; rfl
theorem wfind_c {f g : Nat → Int} {p e : Nat} (h : ∀ j, p ≤ j → j < e → f j = g j) : ∀ (l : List (List Int)) (n : Int), wfind f p e l n = wfind g p e l n := by
  intro l
  induction l with
  | nil => intro n; rfl
  | cons t r ih => intro n; rw [wfind, wfind, isWd_c h, ih]
theorem tokAt_c {f g : Nat → Int} {n p : Nat} (hp : p < n) (h : ∀ j, j < n → f j = g j) : tokAt f n p = tokAt g n p := by
  have e1 := runB_c (P := isLb) (f := f) (g := g) (n - p) p (fun j a b => h j (by omega))
  have e2 := runB_c (P := isDb) (f := f) (g := g) (n - p) p (fun j a b => h j (by omega))
  have l1 := runB_le isLb g (n - p) p
  have l2 := runB_le isDb g (n - p) p
  unfold tokAt
  rw [h p hp, e1, e2, wfind_c (f := f) (g := g) (fun j a b => h j (by omega)), valC_c (f := f) (g := g) _ (fun j a b => h j (by omega))]
theorem toks_c {f g : Nat → Int} {n : Nat} (h : ∀ j, j < n → f j = g j) : ∀ (k p : Nat), toks f n k p = toks g n k p := by
  intro k
  induction k with
  | zero => intro p; rfl
  | succ k ih =>
    intro p
    rw [toks, toks]
    by_cases c : n ≤ p
    · rw [if_pos c, if_pos c]
    · rw [if_neg c, if_neg c, h p (by omega), ih, tokAt_c (by omega) h, ih]
theorem tk_c {f g : Nat → Int} {n : Nat} (h : ∀ j, j < n → f j = g j) : tk f n 0 = tk g n 0 := toks_c h _ _
theorem pTxt_c {f g : Nat → Int} {n : Nat} (h : ∀ j, j < n → f j = g j) : pTxt f n = pTxt g n := by unfold pTxt; rw [tk_c h]
set_option maxRecDepth 100000 in
set_option maxHeartbeats 4000000 in
theorem c_rPlace {κ : Kx} (hκ : KOK κ) {d i : Nat} {G : Wd} (hi : G.1 4 6 = (i : Nat)) (h5 : i < 501) (hd : 2 ≤ d) : Ct κ MX8_place d 0 0 [VR 3] (Wm G) (keepG G (VI (G.1 6 i))) noX := by
  refine Ct_of hκ kX8_place.1 rfl (Nat.le_of_ble_eq_true rfl) (ls := [some (VR 3)]) rfl (fun μ => ?_)
  refine V_ex sX8_place_0 (by simp only [Option.toList, List.cons_append, List.nil_append, exN, ex1, gI, gL, gR, pI, pL, pR, lget, lset1, lset2, kl, b2I, b2L, nob, ob32, ob64, xGet, xPut, xLen, xLd, xLdR, xSt, obA, true_and, and_true, and_self, eq_self, Nat.reduceEqDiff, Nat.zero_ne_one, reduceIte, Nat.reduceLeDiff, and_false, false_and, show skd 7 0 = 2 from rfl, show LF.1 3 = some (.inl 7) from rfl, show LF.2 3 0 = some 4 from rfl, upd2_eq, Int.reduceToNat, Int.toNat_natCast]; rfl) (by first | exact trivial | exact Or.inr rfl | exact Or.inl rfl | (simp only [ob, obA, R32, R64] at *; omega) | (simp only [ob, obA, R32, R64] at *; and_intros <;> omega) | (simp [ob, obA])) ?_
  refine V_callV (M := MX8_place) (N := MX9_place) dX8_place_4 lRX8_20 kX9_place rfl (rfl) rfl (c_tPlace (d := 1) hκ hi h5 (by omega)) rfl rfl (Nat.le_of_ble_eq_true rfl) (fit_rm (by omega)) (⟨Nat.le_of_ble_eq_true rfl, Nat.le_of_ble_eq_true rfl⟩) (fun v Ω' hp => ?_) (fun _ _ h => h.elim)
  obtain ⟨rfl, rfl⟩ := hp
  refine V_iret dX8_place_7 rfl (by decide) ⟨rfl, rfl⟩
def chP (G : Wd) : Option Vl → Om → Prop := fun v Ω' => v = none ∧ ∃ G', Ω' = Wm G' ∧ (∀ x j, x ≠ 128 → ¬ (x = 114 ∧ (j = 3 ∨ j = 9 ∨ j = 5 ∨ j = 6)) → ¬ (x = 1 ∧ j = 8) → ¬ (x = 135 ∧ j = 8) → ¬ (x = 140 ∧ j = 5) → G'.1 x j = G.1 x j) ∧ G'.2.1 = G.2.1 ∧ G'.2.2 1 3 = G.2.2 1 4 ∧ G'.2.2 1 4 = G.2.2 1 3 ∧ G'.1 114 3 = 0 ∧ G'.1 114 9 = 0 ∧ G'.1 114 5 = 0 ∧ G'.1 114 6 = -1 ∧ G'.1 1 8 = 0 ∧ G'.1 135 8 = -1 ∧ G'.1 140 5 = -1 ∧ ∀ j, j < 24000 → G'.1 128 j = 0
theorem upd2n_eq (f : Nat → Nat → Nat) (a k : Nat) (z : Nat) (x j : Nat) : upd2n f a k z x j = if x = a ∧ j = k then z else f x j := by
  unfold upd2n
  rfl
set_option maxRecDepth 100000 in
set_option maxHeartbeats 4000000 in
theorem c_change {κ : Kx} (hκ : KOK κ) {d : Nat} {G : Wd} (hd : 3 ≤ d) : Ct κ MX11_changeShelves d 0 0 [VR 1] (Wm G) (chP G) noX := by
  refine Ct_of hκ kX11_changeShelves.1 rfl (Nat.le_of_ble_eq_true rfl) (ls := [some (VR 1), none, none]) rfl (fun μ => ?_)
  have L : ∀ (k i : Nat) (ii : Int) (B G1 : Wd) (x : Option Vl), i + k = 24000 → ii = (i : Int) → (∀ G', (∀ x j, x ≠ 128 → G'.1 x j = B.1 x j) → G'.2 = B.2 → (∀ j, j < 24000 → G'.1 128 j = 0) → chP G none (Wm G')) → (∀ x j, x ≠ 128 → G1.1 x j = B.1 x j) → G1.2 = B.2 → (∀ j, j < i → G1.1 128 j = 0) → V κ MX11_changeShelves (rmD d 0 0) (chP G) noX 0 0 μ 0 0 (Wm (G1)) 46 [some (VR 1), x, some (VI ii)] [] := by
    intro k
    induction k with
    | zero =>
      intro i ii B G1 x hik hii fin gx g2 gz
      refine V_ex sX11_changeShelves_46 (by simp only [Option.toList, List.cons_append, List.nil_append, exN, ex1, gI, gL, gR, pI, pL, pR, lget, lset1, lset2, kl, b2I, b2L, nob, ob32, ob64, xGet, xPut, xLen, xLd, xLdR, xSt, obA, true_and, and_true, and_self, eq_self, Nat.reduceEqDiff, Nat.zero_ne_one, reduceIte, Nat.reduceLeDiff, and_false, false_and, show skd 10 9 = 2 from rfl, show LF.1 1 = some (.inl 10) from rfl, show LF.2 1 9 = some 128 from rfl, show LF.1 128 = some (.inr (0, 24000)) from rfl, upd2_eq, Int.reduceToNat, Int.toNat_natCast]; rfl) (by first | exact trivial | exact Or.inr rfl | exact Or.inl rfl | (simp only [ob, obA, R32, R64] at *; omega) | (simp only [ob, obA, R32, R64] at *; and_intros <;> omega) | (simp [ob, obA])) ?_
      refine V_icmpge dX11_changeShelves_52 (tgt := 68) (by decide) (by simp only [R32, R64] at *; omega) (fun q52 => ?_) (fun q52 => ?_)
      · refine V_vret dX11_changeShelves_68 rfl (by decide) (fin G1 gx g2 (fun j hj => gz j (by omega)))
      · omega
    | succ k ih =>
      intro i ii B G1 x hik hii fin gx g2 gz
      subst hii
      refine V_ex sX11_changeShelves_46 (by simp only [Option.toList, List.cons_append, List.nil_append, exN, ex1, gI, gL, gR, pI, pL, pR, lget, lset1, lset2, kl, b2I, b2L, nob, ob32, ob64, xGet, xPut, xLen, xLd, xLdR, xSt, obA, true_and, and_true, and_self, eq_self, Nat.reduceEqDiff, Nat.zero_ne_one, reduceIte, Nat.reduceLeDiff, and_false, false_and, show skd 10 9 = 2 from rfl, show LF.1 1 = some (.inl 10) from rfl, show LF.2 1 9 = some 128 from rfl, show LF.1 128 = some (.inr (0, 24000)) from rfl, upd2_eq, Int.reduceToNat, Int.toNat_natCast]; rfl) (by first | exact trivial | exact Or.inr rfl | exact Or.inl rfl | (simp only [ob, obA, R32, R64] at *; omega) | (simp only [ob, obA, R32, R64] at *; and_intros <;> omega) | (simp [ob, obA])) ?_
      refine V_icmpge dX11_changeShelves_52 (tgt := 68) (by decide) (by simp only [R32, R64] at *; omega) (fun q52 => ?_) (fun q52 => ?_)
      · omega
      · refine V_ex sX11_changeShelves_55 (by simp only [Option.toList, List.cons_append, List.nil_append, exN, ex1, gI, gL, gR, pI, pL, pR, lget, lset1, lset2, kl, b2I, b2L, nob, ob32, ob64, xGet, xPut, xLen, xLd, xLdR, xSt, obA, true_and, and_true, and_self, eq_self, Nat.reduceEqDiff, Nat.zero_ne_one, reduceIte, Nat.reduceLeDiff, and_false, false_and, show skd 10 9 = 2 from rfl, show LF.1 1 = some (.inl 10) from rfl, show LF.2 1 9 = some 128 from rfl, show LF.1 128 = some (.inr (0, 24000)) from rfl, upd2_eq, Int.reduceToNat, Int.toNat_natCast]; rfl) (by first | exact trivial | exact Or.inr rfl | exact Or.inl rfl | (simp only [ob, obA, R32, R64] at *; omega) | (simp only [ob, obA, R32, R64] at *; and_intros <;> omega) | (simp [ob, obA])) ?_
        refine V_goto dX11_changeShelves_65 (tgt := 46) (by decide) ?_
        exact ih (i + 1) ((i : Int) + 1) B (uI G1 128 i 0) _ (by omega) (by omega) fin (fun x j a => by rw [iv (by omega)]; exact gx x j a) g2 (fun j hj => by by_cases c : j = i; subst c; rw [iu]; rw [iv (by omega)]; exact gz j (by omega))
  have gen : ∀ (B : Wd), (∀ x j, x ≠ 128 → ¬ (x = 114 ∧ (j = 3 ∨ j = 9 ∨ j = 5 ∨ j = 6)) → ¬ (x = 1 ∧ j = 8) → ¬ (x = 135 ∧ j = 8) → ¬ (x = 140 ∧ j = 5) → B.1 x j = G.1 x j) → B.2.1 = G.2.1 → B.2.2 1 3 = G.2.2 1 4 → B.2.2 1 4 = G.2.2 1 3 → B.1 114 3 = 0 → B.1 114 9 = 0 → B.1 114 5 = 0 → B.1 114 6 = -1 → B.1 1 8 = 0 → B.1 135 8 = -1 → B.1 140 5 = -1 → ∀ x, V κ MX11_changeShelves (rmD d 0 0) (chP G) noX 0 0 μ 0 0 (Wm (B)) 46 [some (VR 1), x, some (VI 0)] [] := fun B a1 a2 a3 a4 a5 a6 a7 a8 a9 a10 a11 x => L 24000 0 0 B B x (by omega) rfl (fun G' gx g2 gz => ⟨rfl, G', rfl, fun x j p q r s t => (gx x j p).trans (a1 x j p q r s t), by rw [g2]; exact a2, by rw [g2]; exact a3, by rw [g2]; exact a4, by rw [gx _ _ (by omega)]; exact a5, by rw [gx _ _ (by omega)]; exact a6, by rw [gx _ _ (by omega)]; exact a7, by rw [gx _ _ (by omega)]; exact a8, by rw [gx _ _ (by omega)]; exact a9, by rw [gx _ _ (by omega)]; exact a10, by rw [gx _ _ (by omega)]; exact a11, gz⟩) (fun _ _ _ => rfl) rfl (fun j hj => absurd hj (by omega))
  refine V_ex sX11_changeShelves_0 (by simp only [Option.toList, List.cons_append, List.nil_append, exN, ex1, gI, gL, gR, pI, pL, pR, lget, lset1, lset2, kl, b2I, b2L, nob, ob32, ob64, xGet, xPut, xLen, xLd, xLdR, xSt, obA, true_and, and_true, and_self, eq_self, Nat.reduceEqDiff, Nat.zero_ne_one, reduceIte, Nat.reduceLeDiff, and_false, false_and, show skd 10 3 = 3 from rfl, show skd 10 4 = 3 from rfl, show skd 10 6 = 2 from rfl, show LF.1 1 = some (.inl 10) from rfl, show LF.2 1 6 = some 114 from rfl, upd2_eq, Int.reduceToNat, Int.toNat_natCast]; rfl) (by first | exact trivial | exact Or.inr rfl | exact Or.inl rfl | (simp only [ob, obA, R32, R64] at *; omega) | (simp only [ob, obA, R32, R64] at *; and_intros <;> omega) | (simp [ob, obA])) ?_
  refine V_callV (M := MX11_changeShelves) (N := MX2_forget) dX11_changeShelves_22 lRX11_113 kX2_forget rfl (rfl) rfl (c_forget (d := 2) hκ (e := 114) (Or.inl rfl) (by omega)) rfl rfl (Nat.le_of_ble_eq_true rfl) (fit_rm (by omega)) (⟨Nat.le_of_ble_eq_true rfl, Nat.le_of_ble_eq_true rfl⟩) (fun v Ω' hp => ?_) (fun _ _ h => h.elim)
  obtain ⟨rfl, rfl⟩ := hp
  refine V_ex sX11_changeShelves_25 (by simp only [Option.toList, List.cons_append, List.nil_append, exN, ex1, gI, gL, gR, pI, pL, pR, lget, lset1, lset2, kl, b2I, b2L, nob, ob32, ob64, xGet, xPut, xLen, xLd, xLdR, xSt, obA, true_and, and_true, and_self, eq_self, Nat.reduceEqDiff, Nat.zero_ne_one, reduceIte, Nat.reduceLeDiff, and_false, false_and, show skd 10 8 = 4 from rfl, show skd 10 13 = 2 from rfl, show LF.1 1 = some (.inl 10) from rfl, show LF.2 1 13 = some 135 from rfl, upd2_eq, Int.reduceToNat, Int.toNat_natCast]; rfl) (by first | exact trivial | exact Or.inr rfl | exact Or.inl rfl | (simp only [ob, obA, R32, R64] at *; omega) | (simp only [ob, obA, R32, R64] at *; and_intros <;> omega) | (simp [ob, obA])) ?_
  refine V_callV (M := MX11_changeShelves) (N := MX6_forget) dX11_changeShelves_34 lRX11_120 kX6_forget rfl (rfl) rfl (c_shForget (d := 2) hκ) rfl rfl (Nat.le_of_ble_eq_true rfl) (fit_rm (by omega)) (⟨Nat.le_of_ble_eq_true rfl, Nat.le_of_ble_eq_true rfl⟩) (fun v Ω' hp => ?_) (fun _ _ h => h.elim)
  obtain ⟨rfl, rfl⟩ := hp
  refine V_ex sX11_changeShelves_37 (by simp only [Option.toList, List.cons_append, List.nil_append, exN, ex1, gI, gL, gR, pI, pL, pR, lget, lset1, lset2, kl, b2I, b2L, nob, ob32, ob64, xGet, xPut, xLen, xLd, xLdR, xSt, obA, true_and, and_true, and_self, eq_self, Nat.reduceEqDiff, Nat.zero_ne_one, reduceIte, Nat.reduceLeDiff, and_false, false_and, show skd 10 14 = 2 from rfl, show LF.1 1 = some (.inl 10) from rfl, show LF.2 1 14 = some 140 from rfl, upd2_eq, Int.reduceToNat, Int.toNat_natCast]; rfl) (by first | exact trivial | exact Or.inr rfl | exact Or.inl rfl | (simp only [ob, obA, R32, R64] at *; omega) | (simp only [ob, obA, R32, R64] at *; and_intros <;> omega) | (simp [ob, obA])) ?_
  refine V_callV (M := MX11_changeShelves) (N := MX1_forget) dX11_changeShelves_41 lRX11_121 kX1_forget rfl (rfl) rfl (c_chForget (d := 2) hκ) rfl rfl (Nat.le_of_ble_eq_true rfl) (fit_rm (by omega)) (⟨Nat.le_of_ble_eq_true rfl, Nat.le_of_ble_eq_true rfl⟩) (fun v Ω' hp => ?_) (fun _ _ h => h.elim)
  obtain ⟨rfl, rfl⟩ := hp
  refine V_ex sX11_changeShelves_44 (by rfl) (by first | exact trivial | exact Or.inr rfl | exact Or.inl rfl | (simp only [ob, obA, R32, R64] at *; omega) | (simp only [ob, obA, R32, R64] at *; and_intros <;> omega) | (simp [ob, obA])) ?_
  refine gen _ (fun x j p q r s t => ?_) ?_ ?_ ?_ ?_ ?_ ?_ ?_ ?_ ?_ ?_ _
  · simp only [upd2_eq]; rw [if_neg (by omega), if_neg (by omega), if_neg (by omega), if_neg (by omega), if_neg (by omega), if_neg (by omega), if_neg (by omega)]
  · rfl
  · simp [upd2n_eq]
  · simp [upd2n_eq]
  · simp [upd2_eq]
  · simp [upd2_eq]
  · simp [upd2_eq]
  · simp [upd2_eq]
  · simp [upd2_eq]
  · simp [upd2_eq]
  · simp [upd2_eq]
/-- a shelf with a fault, a shelf without -/
def shBad (A : Ab) (r : PS) (n : Nat) : Ab := (A.1, (A.2.1.1, A.2.1.2.1, A.2.1.2.2.1, A.2.1.2.2.2.set 0 (A.2.1.2.2.2.getD 0 0 + 1)), A.2.2.1, ((tkB (tk A.2.2.2.1.2.2 n 0) r.1 : Nat), 0, A.2.2.2.1.2.2), A.2.2.2.2)
def shNew (A : Ab) (S : Sh) : Ab := (S, ([], (0, 0, -1), [], A.2.1.2.2.2), none, (-1, 0, A.2.2.2.1.2.2), none, none)
def shelfP (A : Ab) (n : Int) : Int × Int × Ab := if ¬ (0 ≤ n ∧ n ≤ A.2.2.2.1.2.1) then (1, 0, A) else if (pTxt A.2.2.2.1.2.2 n.toNat).2.1 ≠ 0 then (0, (pTxt A.2.2.2.1.2.2 n.toNat).2.1, shBad A (pTxt A.2.2.2.1.2.2 n.toNat) n.toNat) else (0, 0, shNew A (pTxt A.2.2.2.1.2.2 n.toNat).2.2)
set_option maxRecDepth 100000 in
set_option maxHeartbeats 4000000 in
theorem c_xShelf {κ : Kx} (hκ : KOK κ) (hKS : KS κ) {d s : Nat} {K n : Int} {A : Ab} {G : Wd} (hC : RC G s A) (hI : Inv K A) (hR : aR G) (hn : R32 n) (hd : 60 ≤ d) : Ct κ MX11_shelf d 16 128 [VR 1, VI n] (Wm G) (cP G (shelfP A n).2.2 ((shelfP A n).1 = 0) (some (VI (shelfP A n).2.1))) (cX G A ((shelfP A n).1 = 1) IAE) := by
  refine Ct_of hκ kX11_shelf.1 rfl (Nat.le_of_ble_eq_true rfl) (ls := [some (VR 1), some (VI n), none]) rfl (fun μ => ?_)
  have h0 := hC
  obtain ⟨⟨r1, r2, r3⟩, r4, r5, r6, r7, r8, r9, r10, r11, r12, r13, r14, r15, r16⟩ := hC
  have hI5 := hI.2.2.2.2.1
  have hIt := hI.2.2.2.2.2.1
  have no : ¬ (0 ≤ n ∧ n ≤ A.2.2.2.1.2.1) → cX G A ((shelfP A n).1 = 1) IAE IAE (Wm G) := fun q => by
    have e : shelfP A n = (1, 0, A) := by unfold shelfP; rw [if_pos q]
    exact cX_0 h0 (by rw [e])
  by_cases hnn : 0 ≤ n ∧ n ≤ A.2.2.2.1.2.1
  · obtain ⟨m, hm⟩ : ∃ m : Nat, n = (m : Int) := ⟨n.toNat, by omega⟩
    subst hm
    have hm5 : m ≤ 500 := by omega
    obtain ⟨t, ht⟩ : ∃ t, t = 69 - s := ⟨_, rfl⟩
    have hTs : SHa t := by unfold SHa at r3 ⊢; omega
    have hst : (s = 8 ∧ t = 61) ∨ (s = 61 ∧ t = 8) := by rcases r3 with q | q <;> subst q <;> subst ht <;> decide
    have hA := c_rAll (κ := κ) hκ hKS (d := 50) (s := t) (n := m) (G := uI G 1 1 0) hTs hm5 (fun j hj => by rw [iv (by omega), r11 j hj]; exact hIt j hj) (by omega)
    have e2 : (uI G 1 1 0).1 2 = G.1 2 := by funext j; exact iv (by omega)
    have hcg : ∀ j, j < m → G.1 2 j = A.2.2.2.1.2.2 j := fun j hj => r11 j (by omega)
    unfold rA at hA
    rw [e2, pTxt_c hcg, tk_c hcg] at hA
    have hfT : ∀ j, j < m → 0 ≤ A.2.2.2.1.2.2 j ∧ A.2.2.2.1.2.2 j ≤ 255 := fun j hj => hIt j (by omega)
    have hln := tk_len A.2.2.2.1.2.2 m m 0 (by omega)
    have hfin := pLns_ok (v := tkV (tk A.2.2.2.1.2.2 m 0)) (tk_pTok hfT) 501 0 sh0 (by omega) (by omega) okSh0
    have hpT : pTxt A.2.2.2.1.2.2 m = pLns (tkW (tk A.2.2.2.1.2.2 m 0)) (tkV (tk A.2.2.2.1.2.2 m 0)) 501 0 sh0 := rfl
    rw [← hpT] at hfin
    have eP : shelfP A (m : Int) = if (pTxt A.2.2.2.1.2.2 m).2.1 ≠ 0 then (0, (pTxt A.2.2.2.1.2.2 m).2.1, shBad A (pTxt A.2.2.2.1.2.2 m) m) else (0, 0, shNew A (pTxt A.2.2.2.1.2.2 m).2.2) := by unfold shelfP; rw [if_neg (fun h => h hnn)]; rfl
    generalize pTxt A.2.2.2.1.2.2 m = rr at *
    obtain ⟨f1, f2, f3, f4⟩ := hfin
    have bad : ∀ (G1 : Wd), rr.2.1 ≠ 0 → G1.2 = G.2 → (∀ x, ¬ (3 ≤ x ∧ x ≤ 7) → ¬ (t ≤ x ∧ x ≤ t + 52) → G1.1 x = (uI G 1 1 0).1 x) → TKs G1 (tk A.2.2.2.1.2.2 m 0) → cP G (shelfP A (m : Nat)).2.2 ((shelfP A (m : Nat)).1 = 0) (some (VI (shelfP A (m : Nat)).2.1)) (some (VI rr.2.1)) (Wm (uI (uI G1 1 5 (G1.1 6 rr.1)) 120 0 (G1.1 120 0 + 1))) := fun G1 hb g2 gx gt => by
      rw [if_pos hb] at eP
      rw [eP]
      have hlt : rr.1 < (tk A.2.2.2.1.2.2 m 0).length := by omega
      have hpl : G1.1 6 rr.1 = (tkB (tk A.2.2.2.1.2.2 m 0) rr.1 : Nat) := by
        rw [(gt.2 _ hlt).2.1]; unfold tkB; rw [List.getD_eq_getElem?_getD, List.getElem?_eq_getElem hlt]; rfl
      rw [hpl]
      have g1x : ∀ x, x ≠ 1 → ¬ (3 ≤ x ∧ x ≤ 7) → ¬ (t ≤ x ∧ x ≤ t + 52) → G1.1 x = G.1 x := fun x a b c => by rw [gx x b c]; funext j; exact iv (by omega)
      have g11 : ∀ j, G1.1 1 j = if j = 1 then 0 else G.1 1 j := fun j => by
        rw [gx 1 (by omega) (by omega)]
        by_cases c : j = 1
        · subst c; rw [iu, if_pos rfl]
        · rw [iv (by omega), if_neg c]
      have gs : ∀ x j, s ≤ x → x ≤ s + 52 → (uI (uI G1 1 5 (tkB (tk A.2.2.2.1.2.2 m 0) rr.1 : Nat)) 120 0 (G1.1 120 0 + 1)).1 x j = G.1 x j := fun x j a b => by rw [iv (by omega), iv (by omega), g1x x (by omega) (by omega) (by omega)]
      have ga : ∀ x j, 114 ≤ x → ¬ (x = 120 ∧ j = 0) → (uI (uI G1 1 5 (tkB (tk A.2.2.2.1.2.2 m 0) rr.1 : Nat)) 120 0 (G1.1 120 0 + 1)).1 x j = G.1 x j := fun x j a b => by rw [iv b, iv (by omega), g1x x (by omega) (by omega) (by omega)]
      have gb : ∀ x, 121 ≤ x → (uI (uI G1 1 5 (tkB (tk A.2.2.2.1.2.2 m 0) rr.1 : Nat)) 120 0 (G1.1 120 0 + 1)).1 x = G.1 x := fun x a => by funext j; exact ga x j (by omega) (by omega)
      refine ⟨rfl, rfl, _, s, rfl, ?_, FrC.of (fun x a => gb x (by omega)) g2⟩
      refine ⟨⟨by show G1.2.2 1 3 = s; rw [g2]; exact r1, by show G1.2.2 1 4 = 69 - s; rw [g2]; exact r2, r3⟩, ShC_same r4 gs hI.1.2.2.1 hI.1.1, cacheC_c r5 (gb _ (by omega)), ?_, by rw [iv (by omega), iv (by omega), g11, if_neg (by decide)]; exact r7, imC_c r8 hI.1.1 (fun x a b => gb x a) (fun x a b => by funext j; exact gs x j (by omega) (by omega)), by rw [iv (by omega), iu]; rfl, by rw [iv (by omega), iv (by omega), g11, if_pos rfl]; rfl, fun j hj => by rw [iv (by omega), iv (by omega), g1x 2 (by omega) (by omega) (by omega)]; exact r11 j hj, by rw [gb 135 (by omega)]; exact kpO_c r12 (gb _ (by omega)), by rw [gb 140 (by omega)]; exact kpO_c r13 (gb _ (by omega)), fun j => by rw [gb _ (by omega)]; exact r14 j, fun j => by rw [gb _ (by omega)]; exact r15 j, fun j => by rw [gb _ (by omega)]; exact r16 j⟩
      obtain ⟨v1, v2, v3, v4, v5, v6, v7, v8⟩ := r6
      have hl4 : A.2.1.2.2.2.length = 4 := hI.2.1.2.2.2.1
      refine ⟨by rw [ga _ _ (by omega) (by omega)]; exact v1, fun i hi => by rw [ga _ _ (by omega) (by omega), ga _ _ (by omega) (by omega), ga _ _ (by omega) (by omega)]; exact v2 i hi, by rw [ga _ _ (by omega) (by omega)]; exact v3, by rw [ga _ _ (by omega) (by omega)]; exact v4, fun q => by rw [ga _ _ (by omega) (by omega)]; exact v5 q, by rw [ga _ _ (by omega) (by omega)]; exact v6, fun i hi => by rw [ga _ _ (by omega) (by omega), ga _ _ (by omega) (by omega)]; exact v7 i hi, fun i hi => ?_⟩
      show _ = (A.2.1.2.2.2.set 0 (A.2.1.2.2.2.getD 0 0 + 1)).getD i 0
      rw [getD_set (by omega)]
      by_cases c : i = 0
      · subst c; rw [iu, if_pos rfl, g1x 120 (by omega) (by omega) (by omega), ← v8 0 (by omega)]
      · rw [ga _ _ (by omega) (by omega), if_neg c]; exact v8 i hi
    have good : ∀ (G1 G2 : Wd), rr.2.1 = 0 → G1.2 = G.2 → (∀ x, ¬ (3 ≤ x ∧ x ≤ 7) → ¬ (t ≤ x ∧ x ≤ t + 52) → G1.1 x = (uI G 1 1 0).1 x) → ShC G1 t rr.2.2 → chP (uI G1 1 5 (-1)) none (Wm G2) → cP G (shelfP A (m : Nat)).2.2 ((shelfP A (m : Nat)).1 = 0) (some (VI (shelfP A (m : Nat)).2.1)) (some (VI 0)) (Wm G2) := fun G1 G2 hb g2 gx hsc hch => by
      rw [if_neg (fun q => q hb)] at eP
      rw [eP]
      obtain ⟨-, G3, hG3, c1, c2, c3, c4, c5, c6, c7, c8, c9, c10, c11, c12⟩ := hch
      have hG3' : G2 = G3 := by injection hG3 with a b; injection b
      subst hG3'
      obtain ⟨f5, f6⟩ := f4 hb
      have g1x : ∀ x, x ≠ 1 → ¬ (3 ≤ x ∧ x ≤ 7) → ¬ (t ≤ x ∧ x ≤ t + 52) → G1.1 x = G.1 x := fun x a b c => by rw [gx x b c]; funext j; exact iv (by omega)
      have gt : ∀ x j, t ≤ x → x ≤ t + 52 → G2.1 x j = G1.1 x j := fun x j a b => by rw [c1 x j (by omega) (by omega) (by omega) (by omega) (by omega), iv (by omega)]
      have gb : ∀ x j, 114 ≤ x → x ≠ 128 → ¬ (x = 114 ∧ (j = 3 ∨ j = 9 ∨ j = 5 ∨ j = 6)) → ¬ (x = 135 ∧ j = 8) → ¬ (x = 140 ∧ j = 5) → G2.1 x j = G.1 x j := fun x j a b c d e => by rw [c1 x j b c (by omega) d e, iv (by omega), g1x x (by omega) (by omega) (by omega)]
      refine ⟨rfl, rfl, G2, t, rfl, ?_, ⟨fun x a => by funext j; exact gb x j (by omega) (by omega) (by omega) (by omega) (by omega), fun x a => by rw [c2]; show G1.2.1 x = _; rw [g2]⟩⟩
      refine ⟨⟨by rw [c3]; show G1.2.2 1 4 = t; rw [g2, r2, ht], by rw [c4]; show G1.2.2 1 3 = 69 - t; rw [g2, r1]; omega, hTs⟩, ShC_same hsc gt f6.2.2.1 f6.1, fun j hj _ p hp1 hp2 => Or.inl (c12 _ (by have := f6.1; have hj' : j < rr.2.2.1.length := hj; omega)), ⟨c5, fun i hi => absurd hi (by simp [shNew]), c7, c8, fun q => absurd rfl q, c6, fun i hi => absurd hi (by simp [shNew]), fun i hi => by rw [gb _ _ (by omega) (by omega) (by omega) (by omega) (by omega)]; exact r6.2.2.2.2.2.2.2 i hi⟩, c9, trivial, ?_, ?_, fun j hj => ?_, c10, c11, fun j => by rw [gb _ _ (by omega) (by omega) (by omega) (by omega) (by omega)]; exact r14 j, fun j => by rw [gb _ _ (by omega) (by omega) (by omega) (by omega) (by omega)]; exact r15 j, fun j => by rw [gb _ _ (by omega) (by omega) (by omega) (by omega) (by omega)]; exact r16 j⟩
      · rw [c1 1 5 (by omega) (by omega) (by omega) (by omega) (by omega), iu]; rfl
      · rw [c1 1 1 (by omega) (by omega) (by omega) (by omega) (by omega), iv (by omega), gx 1 (by omega) (by omega), iu]; rfl
      · rw [c1 2 j (by omega) (by omega) (by omega) (by omega) (by omega), iv (by omega), g1x 2 (by omega) (by omega) (by omega)]; exact r11 j hj
    refine V_ex sX11_shelf_0 (by rfl) (by first | exact trivial | exact Or.inr rfl | exact Or.inl rfl | (simp only [ob, obA, R32, R64] at *; omega) | (simp only [ob, obA, R32, R64] at *; and_intros <;> omega) | (simp [ob, obA])) ?_
    refine V_iflt dX11_shelf_1 (tgt := 12) (by decide) (by simp only [R32, R64] at *; omega) (fun q1 => ?_) (fun q1 => ?_)
    · omega
    · refine V_ex sX11_shelf_4 (by simp only [Option.toList, List.cons_append, List.nil_append, exN, ex1, gI, gL, gR, pI, pL, pR, lget, lset1, lset2, kl, b2I, b2L, nob, ob32, ob64, xGet, xPut, xLen, xLd, xLdR, xSt, obA, true_and, and_true, and_self, eq_self, Nat.reduceEqDiff, Nat.zero_ne_one, reduceIte, Nat.reduceLeDiff, and_false, false_and, show skd 10 1 = 0 from rfl, show LF.1 1 = some (.inl 10) from rfl, r10, upd2_eq, Int.reduceToNat, Int.toNat_natCast]; rfl) (by first | exact trivial | exact Or.inr rfl | exact Or.inl rfl | (simp only [ob, obA, R32, R64] at *; omega) | (simp only [ob, obA, R32, R64] at *; and_intros <;> omega) | (simp [ob, obA])) ?_
      refine V_icmple dX11_shelf_9 (tgt := 22) (by decide) (by simp only [R32, R64] at *; omega) (fun q9 => ?_) (fun q9 => ?_)
      · refine V_ex sX11_shelf_22 (by simp only [Option.toList, List.cons_append, List.nil_append, exN, ex1, gI, gL, gR, pI, pL, pR, lget, lset1, lset2, kl, b2I, b2L, nob, ob32, ob64, xGet, xPut, xLen, xLd, xLdR, xSt, obA, true_and, and_true, and_self, eq_self, Nat.reduceEqDiff, Nat.zero_ne_one, reduceIte, Nat.reduceLeDiff, and_false, false_and, show skd 10 1 = 0 from rfl, show skd 10 2 = 2 from rfl, show skd 10 4 = 3 from rfl, show LF.1 1 = some (.inl 10) from rfl, show LF.2 1 2 = some 3 from rfl, show (uI G 1 1 0).2.2 1 4 = t from r2.trans ht.symm, show G.2.2 1 4 = t from r2.trans ht.symm, r10, upd2_eq, Int.reduceToNat, Int.toNat_natCast]; rfl) (by first | exact trivial | exact Or.inr rfl | exact Or.inl rfl | (simp only [ob, obA, R32, R64] at *; omega) | (simp only [ob, obA, R32, R64] at *; and_intros <;> omega) | (simp [ob, obA])) ?_
        refine V_callV (M := MX11_shelf) (N := MX8_readAll) dX11_shelf_36 lRX11_98 kX8_readAll rfl (rfl) rfl (hA) rfl rfl (Nat.le_of_ble_eq_true rfl) (fit_rm (by omega)) (⟨Nat.le_of_ble_eq_true rfl, Nat.le_of_ble_eq_true rfl⟩) (fun v Ω' hp => ?_) (fun _ _ h => h.elim)
        obtain ⟨rfl, G1, rfl, g2, gx, gt, gc, gh⟩ := hp
        have g2' : G1.2 = G.2 := g2
        refine V_ex sX11_shelf_39 (by rfl) (by first | exact trivial | exact Or.inr rfl | exact Or.inl rfl | (simp only [ob, obA, R32, R64] at *; omega) | (simp only [ob, obA, R32, R64] at *; and_intros <;> omega) | (simp [ob, obA])) ?_
        refine V_ifeq dX11_shelf_41 (tgt := 66) (by decide) (by unfold R32; omega) (fun q41 => ?_) (fun q41 => ?_)
        · refine V_ex sX11_shelf_66 (by simp only [Option.toList, List.cons_append, List.nil_append, exN, ex1, gI, gL, gR, pI, pL, pR, lget, lset1, lset2, kl, b2I, b2L, nob, ob32, ob64, xGet, xPut, xLen, xLd, xLdR, xSt, obA, true_and, and_true, and_self, eq_self, Nat.reduceEqDiff, Nat.zero_ne_one, reduceIte, Nat.reduceLeDiff, and_false, false_and, show skd 10 5 = 0 from rfl, show LF.1 1 = some (.inl 10) from rfl, r10, upd2_eq, Int.reduceToNat, Int.toNat_natCast]; rfl) (by first | exact trivial | exact Or.inr rfl | exact Or.inl rfl | (simp only [ob, obA, R32, R64] at *; omega) | (simp only [ob, obA, R32, R64] at *; and_intros <;> omega) | (simp [ob, obA])) ?_
          refine V_callV (M := MX11_shelf) (N := MX11_changeShelves) dX11_shelf_72 lRX11_110 kX11_changeShelves rfl (rfl) rfl (c_change (d := 4) hκ (by omega)) rfl rfl (Nat.le_of_ble_eq_true rfl) (fit_rm (by omega)) (⟨Nat.le_of_ble_eq_true rfl, Nat.le_of_ble_eq_true rfl⟩) (fun v Ω' hp => ?_) (fun _ _ h => h.elim)
          obtain ⟨rfl, G2, rfl, hch⟩ := hp
          refine V_ex sX11_shelf_75 (by rfl) (by first | exact trivial | exact Or.inr rfl | exact Or.inl rfl | (simp only [ob, obA, R32, R64] at *; omega) | (simp only [ob, obA, R32, R64] at *; and_intros <;> omega) | (simp [ob, obA])) ?_
          refine V_iret dX11_shelf_76 rfl (by decide) (good G1 G2 q41 g2' gx (gh q41) ⟨rfl, G2, rfl, hch⟩)
        · refine V_ex sX11_shelf_44 (by simp only [Option.toList, List.cons_append, List.nil_append, exN, ex1, gI, gL, gR, pI, pL, pR, lget, lset1, lset2, kl, b2I, b2L, nob, ob32, ob64, xGet, xPut, xLen, xLd, xLdR, xSt, obA, true_and, and_true, and_self, eq_self, Nat.reduceEqDiff, Nat.zero_ne_one, reduceIte, Nat.reduceLeDiff, and_false, false_and, show skd 10 2 = 2 from rfl, show LF.1 1 = some (.inl 10) from rfl, show LF.2 1 2 = some 3 from rfl, r10, upd2_eq, Int.reduceToNat, Int.toNat_natCast]; rfl) (by first | exact trivial | exact Or.inr rfl | exact Or.inl rfl | (simp only [ob, obA, R32, R64] at *; omega) | (simp only [ob, obA, R32, R64] at *; and_intros <;> omega) | (simp [ob, obA])) ?_
          refine V_callV (M := MX11_shelf) (N := MX8_place) dX11_shelf_49 lRX11_102 kX8_place rfl (rfl) rfl (c_rPlace (d := 4) hκ (i := rr.1) gc (by omega) (by omega)) rfl rfl (Nat.le_of_ble_eq_true rfl) (fit_rm (by omega)) (⟨Nat.le_of_ble_eq_true rfl, Nat.le_of_ble_eq_true rfl⟩) (fun v Ω' hp => ?_) (fun _ _ h => h.elim)
          obtain ⟨rfl, rfl⟩ := hp
          refine V_ex sX11_shelf_52 (by simp only [Option.toList, List.cons_append, List.nil_append, exN, ex1, gI, gL, gR, pI, pL, pR, lget, lset1, lset2, kl, b2I, b2L, nob, ob32, ob64, xGet, xPut, xLen, xLd, xLdR, xSt, obA, true_and, and_true, and_self, eq_self, Nat.reduceEqDiff, Nat.zero_ne_one, reduceIte, Nat.reduceLeDiff, and_false, false_and, show skd 10 5 = 0 from rfl, show skd 10 6 = 2 from rfl, show LF.1 1 = some (.inl 10) from rfl, show LF.2 1 6 = some 114 from rfl, r10, upd2_eq, Int.reduceToNat, Int.toNat_natCast]; rfl) (by first | exact trivial | exact Or.inr rfl | exact Or.inl rfl | (simp only [ob, obA, R32, R64] at *; omega) | (simp only [ob, obA, R32, R64] at *; and_intros <;> omega) | (simp [ob, obA])) ?_
          refine V_callV (M := MX11_shelf) (N := MX2_refuse) dX11_shelf_60 lRX11_106 kX2_refuse rfl (rfl) rfl (c_refuse (d := 4) hκ (e := 114) (w := 0) (Or.inl rfl) (by omega) (by omega)) rfl rfl (Nat.le_of_ble_eq_true rfl) (fit_rm (by omega)) (⟨Nat.le_of_ble_eq_true rfl, Nat.le_of_ble_eq_true rfl⟩) (fun v Ω' hp => ?_) (fun _ _ h => h.elim)
          obtain ⟨rfl, rfl⟩ := hp
          refine V_ex sX11_shelf_63 (by rfl) (by first | exact trivial | exact Or.inr rfl | exact Or.inl rfl | (simp only [ob, obA, R32, R64] at *; omega) | (simp only [ob, obA, R32, R64] at *; and_intros <;> omega) | (simp [ob, obA])) ?_
          refine V_iret dX11_shelf_65 rfl (by decide) (bad G1 q41 g2' gx gt)
      · omega
  · refine V_ex sX11_shelf_0 (by rfl) (by first | exact trivial | exact Or.inr rfl | exact Or.inl rfl | (simp only [ob, obA, R32, R64] at *; omega) | (simp only [ob, obA, R32, R64] at *; and_intros <;> omega) | (simp [ob, obA])) ?_
    refine V_iflt dX11_shelf_1 (tgt := 12) (by decide) (by simp only [R32, R64] at *; omega) (fun q1 => ?_) (fun q1 => ?_)
    · refine V_throw (M := MX11_shelf) (is := 93) (text := "the tape has not so many bytes") tC_iae (by decide +kernel) dX11_shelf_12 (by decide +kernel) dX11_shelf_16 dX11_shelf_18 dX11_shelf_21 rfl (Nat.le_of_ble_eq_true rfl) ⟨by show 6 ≤ d; omega, by show 100 ≤ 100 + 40 * d; omega⟩ ⟨Nat.le_of_ble_eq_true rfl, Nat.le_of_ble_eq_true rfl⟩ ⟨Nat.le_of_ble_eq_true rfl, Nat.le_of_ble_eq_true rfl⟩ (no hnn)
    · refine V_ex sX11_shelf_4 (by simp only [Option.toList, List.cons_append, List.nil_append, exN, ex1, gI, gL, gR, pI, pL, pR, lget, lset1, lset2, kl, b2I, b2L, nob, ob32, ob64, xGet, xPut, xLen, xLd, xLdR, xSt, obA, true_and, and_true, and_self, eq_self, Nat.reduceEqDiff, Nat.zero_ne_one, reduceIte, Nat.reduceLeDiff, and_false, false_and, show skd 10 1 = 0 from rfl, show LF.1 1 = some (.inl 10) from rfl, r10, upd2_eq, Int.reduceToNat, Int.toNat_natCast]; rfl) (by first | exact trivial | exact Or.inr rfl | exact Or.inl rfl | (simp only [ob, obA, R32, R64] at *; omega) | (simp only [ob, obA, R32, R64] at *; and_intros <;> omega) | (simp [ob, obA])) ?_
      refine V_icmple dX11_shelf_9 (tgt := 22) (by decide) (by simp only [R32, R64] at *; omega) (fun q9 => ?_) (fun q9 => ?_)
      · omega
      · refine V_throw (M := MX11_shelf) (is := 93) (text := "the tape has not so many bytes") tC_iae (by decide +kernel) dX11_shelf_12 (by decide +kernel) dX11_shelf_16 dX11_shelf_18 dX11_shelf_21 rfl (Nat.le_of_ble_eq_true rfl) ⟨by show 6 ≤ d; omega, by show 100 ≤ 100 + 40 * d; omega⟩ ⟨Nat.le_of_ble_eq_true rfl, Nat.le_of_ble_eq_true rfl⟩ ⟨Nat.le_of_ble_eq_true rfl, Nat.le_of_ble_eq_true rfl⟩ (no hnn)
