/-! TornLeaves: child, torn, least -/
def keptP (o : Option (List Int)) (i : Int) : Int × Int := match o with | some l => if 0 ≤ i ∧ i < (l.length : Nat) then (0, l.getD i.toNat 0) else (1, 0) | none => (1, 0)
theorem keptP_1 {G : Wd} {m : Int} {a n : Nat} {o : Option (List Int)} (h : kpO G m a o) {i : Int} (hn : ∀ l, o = some l → l.length ≤ n) (hi : 0 ≤ i ∧ i < m) : keptP o i = (0, rAt (G.1 a) n i) := by
  cases o with
  | none => have h' : m = -1 := h; omega
  | some l =>
    obtain ⟨h1, h2⟩ := h
    have := hn l rfl
    show (if 0 ≤ i ∧ i < (l.length : Nat) then ((0 : Int), l.getD i.toNat 0) else (1, 0)) = _
    rw [if_pos ⟨hi.1, by omega⟩, rAt_nat i.toNat (by omega) (by omega), h2 i.toNat (by omega), List.getD_eq_getElem?_getD, List.getElem?_eq_getElem (by omega)]; rfl
theorem keptP_0 {G : Wd} {m : Int} {a : Nat} {o : Option (List Int)} (h : kpO G m a o) {i : Int} (hi : ¬ (0 ≤ i ∧ i < m)) : keptP o i = (1, 0) := by
  cases o with
  | none => rfl
  | some l => obtain ⟨h1, h2⟩ := h; show (if 0 ≤ i ∧ i < (l.length : Nat) then ((0 : Int), l.getD i.toNat 0) else (1, 0)) = _; rw [if_neg (by omega)]
set_option maxRecDepth 100000 in
set_option maxHeartbeats 4000000 in
theorem c_xChild {κ : Kx} (hκ : KOK κ) {d s : Nat} {K i : Int} {A : Ab} {G : Wd} (hC : RC G s A) (hI : Inv K A) (hR : aR G) (hi : R32 i) (hd : 20 ≤ d) : Ct κ MX11_child d 16 128 [VR 1, VI i] (Wm G) (cP G A ((keptP A.2.2.2.2.1 i).1 = 0) (some (VI (keptP A.2.2.2.2.1 i).2))) (cX G A ((keptP A.2.2.2.2.1 i).1 = 1) NSE) := by
  refine Ct_of hκ kX11_child.1 rfl (Nat.le_of_ble_eq_true rfl) (ls := [some (VR 1), some (VI i)]) rfl (fun μ => ?_)
  have hk := hC.2.2.2.2.2.2.2.2.2.1
  refine V_ex sX11_child_0 (by simp only [Option.toList, List.cons_append, List.nil_append, exN, ex1, gI, gL, gR, pI, pL, pR, lget, lset1, lset2, kl, b2I, b2L, nob, ob32, ob64, xGet, xPut, xLen, xLd, xLdR, xSt, obA, true_and, and_true, and_self, eq_self, Nat.reduceEqDiff, Nat.zero_ne_one, reduceIte, Nat.reduceLeDiff, and_false, false_and, show skd 10 13 = 2 from rfl, show LF.1 1 = some (.inl 10) from rfl, show LF.2 1 13 = some 135 from rfl, upd2_eq, Int.reduceToNat, Int.toNat_natCast]; rfl) (by first | exact trivial | exact Or.inr rfl | exact Or.inl rfl | (simp only [ob, obA, R32, R64] at *; omega) | (simp only [ob, obA, R32, R64] at *; and_intros <;> omega) | (simp [ob, obA])) ?_
  refine V_callV (M := MX11_child) (N := MX6_hasKept) dX11_child_5 lRX11_443 kX6_hasKept rfl (rfl) rfl (c_shHasKept (d := 6) hκ hi (hR 135 8)) rfl rfl (Nat.le_of_ble_eq_true rfl) (fit_rm (by omega)) (⟨Nat.le_of_ble_eq_true rfl, Nat.le_of_ble_eq_true rfl⟩) (fun v Ω' hp => ?_) (fun _ _ h => h.elim)
  obtain ⟨rfl, rfl⟩ := hp
  refine V_ifneB dX11_child_8 (tgt := 22) (by decide) (fun q8 => ?_) (fun q8 => ?_)
  · refine V_ex sX11_child_22 (by simp only [Option.toList, List.cons_append, List.nil_append, exN, ex1, gI, gL, gR, pI, pL, pR, lget, lset1, lset2, kl, b2I, b2L, nob, ob32, ob64, xGet, xPut, xLen, xLd, xLdR, xSt, obA, true_and, and_true, and_self, eq_self, Nat.reduceEqDiff, Nat.zero_ne_one, reduceIte, Nat.reduceLeDiff, and_false, false_and, show skd 10 13 = 2 from rfl, show LF.1 1 = some (.inl 10) from rfl, show LF.2 1 13 = some 135 from rfl, upd2_eq, Int.reduceToNat, Int.toNat_natCast]; rfl) (by first | exact trivial | exact Or.inr rfl | exact Or.inl rfl | (simp only [ob, obA, R32, R64] at *; omega) | (simp only [ob, obA, R32, R64] at *; and_intros <;> omega) | (simp [ob, obA])) ?_
    refine V_callV (M := MX11_child) (N := MX6_childOf) dX11_child_27 lRX11_448 kX6_childOf rfl (rfl) rfl (c_shChildOf (d := 6) hκ hi (by omega)) rfl rfl (Nat.le_of_ble_eq_true rfl) (fit_rm (by omega)) (⟨Nat.le_of_ble_eq_true rfl, Nat.le_of_ble_eq_true rfl⟩) (fun v Ω' hp => ?_) (fun _ _ h => h.elim)
    obtain ⟨rfl, rfl⟩ := hp
    refine V_iret dX11_child_30 rfl (by decide) (cP_0 hC (by rw [keptP_1 hk (n := 10) (fun l hl => (hI.2.2.2.2.2.2.1 l hl).1) (of_decide_eq_true q8)]) (by rw [keptP_1 hk (n := 10) (fun l hl => (hI.2.2.2.2.2.2.1 l hl).1) (of_decide_eq_true q8)]))
  · refine V_throwW (M := MX11_child) (is := 446) (text := "no such leaf is shared") tC_nse (by decide +kernel) dX11_child_11 (by decide +kernel) dX11_child_15 dX11_child_18 dX11_child_21 rfl (Nat.le_of_ble_eq_true rfl) ⟨by show 6 ≤ d; omega, by show 100 ≤ 100 + 40 * d; omega⟩ ⟨Nat.le_of_ble_eq_true rfl, Nat.le_of_ble_eq_true rfl⟩ ⟨Nat.le_of_ble_eq_true rfl, Nat.le_of_ble_eq_true rfl⟩ (cX_0 hC (by rw [keptP_0 hk (of_decide_eq_false q8)]))
set_option maxRecDepth 100000 in
set_option maxHeartbeats 4000000 in
theorem c_xTorn {κ : Kx} (hκ : KOK κ) {d s : Nat} {K i : Int} {A : Ab} {G : Wd} (hC : RC G s A) (hI : Inv K A) (hR : aR G) (hi : R32 i) (hd : 20 ≤ d) : Ct κ MX11_torn d 16 128 [VR 1, VI i] (Wm G) (cP G A ((keptP A.2.2.2.2.2 i).1 = 0) (some (VI (keptP A.2.2.2.2.2 i).2))) (cX G A ((keptP A.2.2.2.2.2 i).1 = 1) NSE) := by
  refine Ct_of hκ kX11_torn.1 rfl (Nat.le_of_ble_eq_true rfl) (ls := [some (VR 1), some (VI i)]) rfl (fun μ => ?_)
  have hk := hC.2.2.2.2.2.2.2.2.2.2.1
  refine V_ex sX11_torn_0 (by simp only [Option.toList, List.cons_append, List.nil_append, exN, ex1, gI, gL, gR, pI, pL, pR, lget, lset1, lset2, kl, b2I, b2L, nob, ob32, ob64, xGet, xPut, xLen, xLd, xLdR, xSt, obA, true_and, and_true, and_self, eq_self, Nat.reduceEqDiff, Nat.zero_ne_one, reduceIte, Nat.reduceLeDiff, and_false, false_and, show skd 10 14 = 2 from rfl, show LF.1 1 = some (.inl 10) from rfl, show LF.2 1 14 = some 140 from rfl, upd2_eq, Int.reduceToNat, Int.toNat_natCast]; rfl) (by first | exact trivial | exact Or.inr rfl | exact Or.inl rfl | (simp only [ob, obA, R32, R64] at *; omega) | (simp only [ob, obA, R32, R64] at *; and_intros <;> omega) | (simp [ob, obA])) ?_
  refine V_callV (M := MX11_torn) (N := MX1_hasKept) dX11_torn_5 lRX11_460 kX1_hasKept rfl (rfl) rfl (c_chHasKept (d := 6) hκ hi (hR 140 5)) rfl rfl (Nat.le_of_ble_eq_true rfl) (fit_rm (by omega)) (⟨Nat.le_of_ble_eq_true rfl, Nat.le_of_ble_eq_true rfl⟩) (fun v Ω' hp => ?_) (fun _ _ h => h.elim)
  obtain ⟨rfl, rfl⟩ := hp
  refine V_ifneB dX11_torn_8 (tgt := 22) (by decide) (fun q8 => ?_) (fun q8 => ?_)
  · refine V_ex sX11_torn_22 (by simp only [Option.toList, List.cons_append, List.nil_append, exN, ex1, gI, gL, gR, pI, pL, pR, lget, lset1, lset2, kl, b2I, b2L, nob, ob32, ob64, xGet, xPut, xLen, xLd, xLdR, xSt, obA, true_and, and_true, and_self, eq_self, Nat.reduceEqDiff, Nat.zero_ne_one, reduceIte, Nat.reduceLeDiff, and_false, false_and, show skd 10 14 = 2 from rfl, show LF.1 1 = some (.inl 10) from rfl, show LF.2 1 14 = some 140 from rfl, upd2_eq, Int.reduceToNat, Int.toNat_natCast]; rfl) (by first | exact trivial | exact Or.inr rfl | exact Or.inl rfl | (simp only [ob, obA, R32, R64] at *; omega) | (simp only [ob, obA, R32, R64] at *; and_intros <;> omega) | (simp [ob, obA])) ?_
    refine V_callV (M := MX11_torn) (N := MX1_keptLeaf) dX11_torn_27 lRX11_463 kX1_keptLeaf rfl (rfl) rfl (c_chKeptLeaf (d := 6) hκ hi (by omega)) rfl rfl (Nat.le_of_ble_eq_true rfl) (fit_rm (by omega)) (⟨Nat.le_of_ble_eq_true rfl, Nat.le_of_ble_eq_true rfl⟩) (fun v Ω' hp => ?_) (fun _ _ h => h.elim)
    obtain ⟨rfl, rfl⟩ := hp
    refine V_iret dX11_torn_30 rfl (by decide) (cP_0 hC (by rw [keptP_1 hk (n := 4) (fun l hl => (hI.2.2.2.2.2.2.2 l hl).1) (of_decide_eq_true q8)]) (by rw [keptP_1 hk (n := 4) (fun l hl => (hI.2.2.2.2.2.2.2 l hl).1) (of_decide_eq_true q8)]))
  · refine V_throwW (M := MX11_torn) (is := 461) (text := "no such leaf is kept") tC_nse (by decide +kernel) dX11_torn_11 (by decide +kernel) dX11_torn_15 dX11_torn_18 dX11_torn_21 rfl (Nat.le_of_ble_eq_true rfl) ⟨by show 6 ≤ d; omega, by show 100 ≤ 100 + 40 * d; omega⟩ ⟨Nat.le_of_ble_eq_true rfl, Nat.le_of_ble_eq_true rfl⟩ ⟨Nat.le_of_ble_eq_true rfl, Nat.le_of_ble_eq_true rfl⟩ (cX_0 hC (by rw [keptP_0 hk (of_decide_eq_false q8)]))
theorem pickS_c {w w' : Nat → Int} : ∀ (k r i : Nat) (out : Int), (∀ j, i ≤ j → j < i + k → w j = w' j) → pickS w k r i out = pickS w' k r i out := by
  intro k
  induction k with
  | zero => intro r i out _; cases r <;> rfl
  | succ k ih =>
    intro r i out h
    cases r with
    | zero => rfl
    | succ r => rw [pickS, pickS, h i (by omega) (by omega), ih r (i + 1) _ (fun j a b => h j (by omega) (by omega)), ih (r + 1) (i + 1) _ (fun j a b => h j (by omega) (by omega))]
theorem leastS_c {w w' : Nat → Int} {many : Nat} {out : Int} (h : ∀ j, j < many → w j = w' j) : ∀ k size, leastS w many out k size = leastS w' many out k size := by
  intro k
  induction k with
  | zero => intro size; rfl
  | succ k ih => intro size; rw [leastS, leastS, ih, pickS_c many size 0 out (fun j _ b => h j (by omega))]
theorem leastS_len {w : Nat → Int} {many : Nat} {out : Int} : ∀ (k size : Nat) (l : List Nat), leastS w many out k size = some l → l.length < size + k ∧ ∀ x ∈ l, x < many := by
  intro k
  induction k with
  | zero => intro size l h; cases h
  | succ k ih =>
    intro size l h
    rw [leastS] at h
    cases hp : pickS w many size 0 out with
    | some l2 =>
      rw [hp] at h
      simp only [Option.some.injEq] at h
      subst h
      have := pickS_len w _ _ _ _ _ hp
      exact ⟨by omega, fun x hx => by have := this.2 x hx; omega⟩
    | none =>
      rw [hp] at h
      have := ih _ _ h
      exact ⟨by omega, this.2⟩
theorem sumLe_R {c : List Int} {b : Bk} (hb : okBk c b) : ∀ n : Nat, (n : Int) ≤ b.2.2.1 → 0 ≤ sumLe c b n ∧ sumLe c b n ≤ 199998 * (n : Int) := by
  intro n
  induction n with
  | zero => intro _; exact ⟨Int.le_refl _, Int.le_refl _⟩
  | succ n ih =>
    intro h
    have := ih (by omega)
    have := lfB_R hb (i := (n : Int)) (by omega)
    rw [sumLe]
    split <;> omega
def ChN (s : Nat) (G G' : Wd) : Prop := G'.2 = G.2 ∧ ∀ x j, x ≠ s + 6 → x ≠ 128 → ¬ (x = s ∧ j = 10) → ¬ (x = 140 ∧ j ≠ 5) → x ≠ 141 → x ≠ 142 → G'.1 x j = G.1 x j
theorem ChN.n {s : Nat} {G G' : Wd} (h : ScN s G G') : ChN s G G' := ⟨h.1, fun x j a b c _ _ _ => h.2 x j a b c⟩
theorem ChN.trans {s : Nat} {G G' G'' : Wd} (h : ChN s G G') (h' : ChN s G' G'') : ChN s G G'' := ⟨h'.1.trans h.1, fun x j a b c d e g => (h'.2 x j a b c d e g).trans (h.2 x j a b c d e g)⟩
/-- what has been offered to choose from: leaves and what they are worth -/
def olW (G : Wd) (L : List Int) (f : Int → Int) : Prop := G.1 140 2 = (L.length : Nat) ∧ (∀ k (h : k < L.length), G.1 141 k = L[k]'h ∧ G.1 142 k = f (L[k]'h)) ∧ (∀ j, 0 ≤ G.1 142 j ∧ G.1 142 j ≤ 1000000) ∧ ∀ j, 0 ≤ G.1 141 j ∧ G.1 141 j ≤ 1000000
abbrev chW (G : Wd) (l z : Int) : Wd := uI (uI (uI G 141 (G.1 140 2).toNat l) 142 (G.1 140 2).toNat z) 140 2 (G.1 140 2 + 1)
theorem olW_add {G : Wd} {L : List Int} {f : Int → Int} {l : Int} (h : olW G L f) (hl : 0 ≤ l ∧ l ≤ 1000000) (hz : 0 ≤ f l ∧ f l ≤ 1000000) : olW (chW G l (f l)) (L ++ [l]) f := by
  obtain ⟨h1, h2, h3, h4⟩ := h
  refine ⟨?_, fun k hk => ?_, fun j => ?_, fun j => ?_⟩
  · simp [upd2_eq]; omega
  · have hk2 : k < L.length + 1 := by simpa using hk
    by_cases c : k < L.length
    · rw [List.getElem_append_left c]
      simp only [upd2_eq]
      rw [if_neg (by omega), if_neg (by omega), if_neg (by omega), if_neg (by omega), if_neg (by omega), if_neg (by omega)]; exact h2 k c
    · have e : k = L.length := by omega
      subst e
      rw [List.getElem_append_right (Nat.le_refl _)]
      simp only [upd2_eq]
      rw [if_neg (by omega), if_neg (by omega), if_pos ⟨trivial, by omega⟩, if_neg (by omega), if_pos ⟨trivial, by omega⟩]; simp
  · simp only [upd2_eq]
    rw [if_neg (by omega)]
    split
    · omega
    · rw [if_neg (by omega)]; exact h3 j
  · simp only [upd2_eq]
    rw [if_neg (by omega), if_neg (by omega)]
    split
    · omega
    · exact h4 j
def leastA (A : Ab) (l : List Int) : Ab := (A.1, A.2.1, A.2.2.1, A.2.2.2.1, A.2.2.2.2.1, some l)
/-- the fewest leaves that are worth out -/
def lstS (S : Sh) (j : Nat) (out : Int) : Option (List Nat) := leastS (lw (wsL S j (bkJ S j).2.2.1.toNat)) (wsL S j (bkJ S j).2.2.1.toNat).length out 5 0
def lstL (S : Sh) (j : Nat) (l : List Nat) : List Int := l.map (fun i => (thL (bkJ S j).2.2.2.2.2 (bkJ S j).2.2.1.toNat).getD i 0)
def leastP (A : Ab) (i out : Int) : Int × Int × Ab := if ¬ inB A.1 i then (1, 0, A) else if ¬ (0 ≤ out ∧ out ≤ 1000000000000000000) then (2, 0, A) else if 30 < (bkA A i).2.2.1 - ((bkA A i).2.2.2.2.2.length : Nat) then (0, -2, A) else match lstS A.1 i.toNat (sumLe (cdS A.1) (bkA A i) (bkA A i).2.2.1.toNat - out) with | some l => (0, (l.length : Nat), leastA A (lstL A.1 i.toNat l)) | none => (0, -1, A)
