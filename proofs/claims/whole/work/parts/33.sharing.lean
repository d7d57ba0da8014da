/-! Sharing: the most even shares -/
abbrev SB := Int × List Nat
def mx (a b : Int) : Int := if a < b then b else a
def mn (a b : Int) : Int := if b < a then b else a
def mxH (h : Nat → Int) : Nat → Int
  | 0 => h 0
  | k + 1 => mx (mxH h k) (h (k + 1))
def mnH (h : Nat → Int) : Nat → Int
  | 0 => h 0
  | k + 1 => mn (mnH h k) (h (k + 1))
def keepS (ch : Nat) (h : Nat → Int) (pre : List Nat) (b : SB) : SB := if mxH h (ch - 1) - mnH h (ch - 1) < b.1 then (mxH h (ch - 1) - mnH h (ch - 1), pre) else b
def upd1 (h : Nat → Int) (c : Nat) (z : Int) : Nat → Int := fun j => if j = c then z else h j
def canBe (ch : Nat) (total most best : Int) : Bool := decide (0 < best ∧ 1 < ch ∧ most - (total - most).tdiv ((ch : Int) - 1) < best)
/-- children c, c+1 .. n more of them get the next leaf in turn -/
def dealS (w : Nat → Int) (ch : Nat) (total : Int) : Nat → Nat → (Nat → Int) → Nat → List Nat → SB → SB
  | 0, _, h, _, pre, b => keepS ch h pre b
  | r + 1, place, h, begun, pre, b => (List.range (min (begun + 1) ch)).foldl (fun b c =>
      if canBe ch total (h c + w place) b.1 = true then dealS w ch total r (place + 1) (upd1 h c (h c + w place)) (if c = begun then begun + 1 else begun) (pre ++ [c]) b else b) b
def ShA (G : Wd) (w h : Nat → Int) (many ch : Nat) (total : Int) (pre : List Nat) (b : SB) : Prop :=
  G.1 135 1 = (many : Nat) ∧ G.1 135 2 = (ch : Nat) ∧ G.1 135 3 = total ∧ G.1 135 6 = b.1 ∧ G.1 136 = w ∧ (∀ j, j < 4 → G.1 137 j = h j) ∧ rowIs (G.1 138) 0 pre ∧ rowIs (G.1 139) 0 b.2
set_option maxRecDepth 100000 in
set_option maxHeartbeats 4000000 in
theorem c_canBeBetter {κ : Kx} (hκ : KOK κ) {d ch : Nat} {total most best : Int} {G : Wd} (h2 : G.1 135 2 = (ch : Nat)) (h3 : G.1 135 3 = total) (h6 : G.1 135 6 = best) (hc : ch ≤ 4) (ht : 0 ≤ total ∧ total ≤ 100000000) (hm : 0 ≤ most ∧ most ≤ 100000000) (hb : 0 ≤ best ∧ best ≤ 1000000000) : Ct κ MX6_canBeBetter d 0 0 [VR 135, VI most] (Wm G) (keepG G (VI (b2i (canBe ch total most best)))) noX := by
  refine Ct_of hκ kX6_canBeBetter.1 rfl (Nat.le_of_ble_eq_true rfl) (ls := [some (VR 135), some (VI most)]) rfl (fun μ => ?_)
  have no : ¬ (0 < best ∧ 1 < ch ∧ most - (total - most).tdiv ((ch : Int) - 1) < best) → V κ MX6_canBeBetter (rmD d 0 0) (keepG G (VI (b2i (canBe ch total most best)))) noX 0 0 μ 0 0 (Wm G) 41 [some (VR 135), some (VI most)] [] := fun h => by
    refine V_ex sX6_canBeBetter_41 (by rfl) (by first | exact trivial | exact Or.inl trivial | exact Or.inr rfl | exact Or.inl rfl) ?_
    refine V_zret dX6_canBeBetter_42 rfl (by first | exact Or.inl rfl | exact Or.inr rfl | exact b2i_01 _) (by decide) ⟨by rw [canBe, decide_eq_false h]; rfl, rfl⟩
  refine V_ex sX6_canBeBetter_0 (by simp only [Option.toList, List.cons_append, List.nil_append, exN, ex1, gI, gL, gR, pI, pL, pR, lget, lset1, lset2, kl, b2I, b2L, nob, ob32, ob64, xGet, xPut, xLen, xLd, xLdR, xSt, obA, true_and, and_true, and_self, eq_self, Nat.reduceEqDiff, Nat.zero_ne_one, reduceIte, Nat.reduceLeDiff, and_false, false_and, show skd 5 6 = 0 from rfl, show LF.1 135 = some (.inl 5) from rfl, h6]; rfl) (by first | exact trivial | exact Or.inl trivial | exact Or.inr rfl | exact Or.inl rfl) ?_
  refine V_ifle dX6_canBeBetter_4 (tgt := 41) (by decide) (by unfold R32; omega) (fun q => ?_) (fun q => ?_)
  · exact no (by omega)
  · refine V_ex sX6_canBeBetter_7 (by simp only [Option.toList, List.cons_append, List.nil_append, exN, ex1, gI, gL, gR, pI, pL, pR, lget, lset1, lset2, kl, b2I, b2L, nob, ob32, ob64, xGet, xPut, xLen, xLd, xLdR, xSt, obA, true_and, and_true, and_self, eq_self, Nat.reduceEqDiff, Nat.zero_ne_one, reduceIte, Nat.reduceLeDiff, and_false, false_and, show skd 5 2 = 0 from rfl, show LF.1 135 = some (.inl 5) from rfl, h2]; rfl) (by first | exact trivial | exact Or.inl trivial | exact Or.inr rfl | exact Or.inl rfl) ?_
    refine V_icmple dX6_canBeBetter_12 (tgt := 41) (by decide) (by unfold R32; constructor <;> omega) (fun q2 => ?_) (fun q2 => ?_)
    · exact no (by omega)
    · have hb1 : ((total - most).tdiv ((ch : Int) - 1)).natAbs ≤ (total - most).natAbs := Int.natAbs_tdiv_le_natAbs _ _
      refine V_ex sX6_canBeBetter_15 (by simp only [Option.toList, List.cons_append, List.nil_append, exN, ex1, gI, gL, gR, pI, pL, pR, lget, lset1, lset2, kl, b2I, b2L, nob, ob32, ob64, xGet, xPut, xLen, xLd, xLdR, xSt, obA, true_and, and_true, and_self, eq_self, Nat.reduceEqDiff, Nat.zero_ne_one, reduceIte, Nat.reduceLeDiff, and_false, false_and, show skd 5 3 = 0 from rfl, show skd 5 2 = 0 from rfl, show skd 5 6 = 0 from rfl, show LF.1 135 = some (.inl 5) from rfl, h2, h3, h6]; rfl) (by exact ⟨by unfold R32; omega, by unfold R32; omega, by omega⟩) ?_
      refine V_icmpge dX6_canBeBetter_34 (tgt := 41) (by decide) (by unfold R32; constructor <;> omega) (fun q3 => ?_) (fun q3 => ?_)
      · exact no (fun h => by omega)
      · refine V_ex sX6_canBeBetter_37 (by rfl) (by first | exact trivial | exact Or.inl trivial | exact Or.inr rfl | exact Or.inl rfl) ?_
        refine V_goto dX6_canBeBetter_38 (tgt := 42) (by decide) ?_
        refine V_zret dX6_canBeBetter_42 rfl (by first | exact Or.inl rfl | exact Or.inr rfl | exact b2i_01 _) (by decide) ⟨by rw [canBe, decide_eq_true ⟨q, by omega, q3⟩]; rfl, rfl⟩
theorem mxH_R {h : Nat → Int} {B : Int} (hh : ∀ j, 0 ≤ h j ∧ h j ≤ B) : ∀ k, 0 ≤ mxH h k ∧ mxH h k ≤ B := by
  intro k
  induction k with
  | zero => exact hh 0
  | succ k ih => have := hh (k + 1); unfold mxH mx; split <;> omega
theorem mnH_R {h : Nat → Int} {B : Int} (hh : ∀ j, 0 ≤ h j ∧ h j ≤ B) : ∀ k, 0 ≤ mnH h k ∧ mnH h k ≤ B := by
  intro k
  induction k with
  | zero => exact hh 0
  | succ k ih => have := hh (k + 1); unfold mnH mn; split <;> omega
set_option maxRecDepth 100000 in
set_option maxHeartbeats 4000000 in
theorem c_keepIfBetter {κ : Kx} (hκ : KOK κ) {d : Nat} {w h : Nat → Int} {many ch : Nat} {total : Int} {pre : List Nat} {b : SB} {G : Wd} (hA : ShA G w h many ch total pre b) (hc : 1 ≤ ch ∧ ch ≤ 4) (hm : many ≤ 10) (hpre : pre.length = many) (hh : ∀ j, 0 ≤ h j ∧ h j ≤ 100000000) (hb : 0 ≤ b.1 ∧ b.1 ≤ 1000000000) (hd : 1 ≤ d) :
    Ct κ MX6_keepIfBetter d 0 0 [VR 135] (Wm G) (fun v Ω' => v = none ∧ ∃ G', Ω' = Wm G' ∧ Fr [135, 139] G G' ∧ ShA G' w h many ch total pre (keepS ch h pre b)) noX := by
  refine Ct_of hκ kX6_keepIfBetter.1 rfl (Nat.le_of_ble_eq_true rfl) (ls := [some (VR 135), none, none, none]) rfl (fun μ => ?_)
  obtain ⟨a1, a2, a3, a4, a5, a6, a7, a8⟩ := hA
  refine V_ex sX6_keepIfBetter_0 (by simp only [Option.toList, List.cons_append, List.nil_append, exN, ex1, gI, gL, gR, pI, pL, pR, lget, lset1, lset2, kl, b2I, b2L, nob, ob32, ob64, xGet, xPut, xLen, xLd, xLdR, xSt, obA, true_and, and_true, and_self, eq_self, Nat.reduceEqDiff, Nat.zero_ne_one, reduceIte, Nat.reduceLeDiff, and_false, false_and, show skd 5 4 = 2 from rfl, show LF.1 135 = some (.inl 5) from rfl, show LF.2 135 4 = some 137 from rfl]; rfl) (by first | exact trivial | exact Or.inl trivial | exact Or.inr rfl | exact Or.inl rfl) ?_
  refine V_callSN (M := MX6_keepIfBetter) (N := MX11_at) (As := [VR 137, VI 0]) (rest := []) dX6_keepIfBetter_5 lRX6_28 kX11_at rfl (c_at (d := 0) hκ (a := 137) (n := 4) rfl (by decide) (by unfold R32; omega)) rfl rfl (Nat.le_of_ble_eq_true rfl) (fit_rm (by omega)) (⟨Nat.le_refl _, Nat.le_refl _⟩) (fun v Ω' hp => ?_) (fun _ _ h => h.elim)
  obtain ⟨rfl, rfl⟩ := hp
  rw [rAt_nat (i := 0) 0 rfl (by omega), a6 0 (by omega)]
  refine V_ex sX6_keepIfBetter_8 (by rfl) (by first | exact trivial | exact Or.inl trivial | exact Or.inr rfl | exact Or.inl rfl) ?_
  suffices L : ∀ (k c : Nat) (ci most least : Int), ci = (c : Int) → c + k = ch → 1 ≤ c → most = mxH h (c - 1) → least = mnH h (c - 1) → V κ MX6_keepIfBetter (rmD d 0 0) (fun v Ω' => v = none ∧ ∃ G', Ω' = Wm G' ∧ Fr [135, 139] G G' ∧ ShA G' w h many ch total pre (keepS ch h pre b)) noX 0 0 μ 0 0 (Wm G) 13 [some (VR 135), some (VI most), some (VI least), some (VI ci)] [] from L (ch - 1) 1 1 _ _ rfl (by omega) (by omega) rfl rfl
  intro k
  induction k with
  | zero =>
    intro c ci most least hci hk h1 hmo hle
    obtain rfl : c = ch := by omega
    have r1 := mxH_R hh (c - 1)
    have r2 := mnH_R hh (c - 1)
    refine V_ex sX6_keepIfBetter_13 (by simp only [Option.toList, List.cons_append, List.nil_append, exN, ex1, gI, gL, gR, pI, pL, pR, lget, lset1, lset2, kl, b2I, b2L, nob, ob32, ob64, xGet, xPut, xLen, xLd, xLdR, xSt, obA, true_and, and_true, and_self, eq_self, Nat.reduceEqDiff, Nat.zero_ne_one, reduceIte, Nat.reduceLeDiff, and_false, false_and, show skd 5 2 = 0 from rfl, show LF.1 135 = some (.inl 5) from rfl, a2]; rfl) (by first | exact trivial | exact Or.inl trivial | exact Or.inr rfl | exact Or.inl rfl) ?_
    refine V_icmpge dX6_keepIfBetter_18 (tgt := 53) (by decide) (by unfold R32; constructor <;> omega) (fun q => ?_) (fun q => ?_)
    · refine V_ex sX6_keepIfBetter_53 (by simp only [Option.toList, List.cons_append, List.nil_append, exN, ex1, gI, gL, gR, pI, pL, pR, lget, lset1, lset2, kl, b2I, b2L, nob, ob32, ob64, xGet, xPut, xLen, xLd, xLdR, xSt, obA, true_and, and_true, and_self, eq_self, Nat.reduceEqDiff, Nat.zero_ne_one, reduceIte, Nat.reduceLeDiff, and_false, false_and, show skd 5 6 = 0 from rfl, show LF.1 135 = some (.inl 5) from rfl, a4]; rfl) (by first | exact trivial | exact Or.inl trivial | exact Or.inr rfl | exact Or.inl rfl) ?_
      refine V_icmpge dX6_keepIfBetter_60 (tgt := 102) (by decide) (by unfold R32; constructor <;> omega) (fun q2 => ?_) (fun q2 => ?_)
      · refine V_vret dX6_keepIfBetter_102 rfl (by decide) ⟨rfl, G, rfl, Fr.refl _ _, by rw [keepS, if_neg (by omega)]; exact ⟨a1, a2, a3, a4, a5, a6, a7, a8⟩⟩
      · refine V_ex sX6_keepIfBetter_63 (by simp only [Option.toList, List.cons_append, List.nil_append, exN, ex1, gI, gL, gR, pI, pL, pR, lget, lset1, lset2, kl, b2I, b2L, nob, ob32, ob64, xGet, xPut, xLen, xLd, xLdR, xSt, obA, true_and, and_true, and_self, eq_self, Nat.reduceEqDiff, Nat.zero_ne_one, reduceIte, Nat.reduceLeDiff, and_false, false_and, show skd 5 6 = 0 from rfl, show LF.1 135 = some (.inl 5) from rfl]; rfl) (by first | exact trivial | exact Or.inl trivial | exact Or.inr rfl | exact Or.inl rfl) ?_
        suffices L2 : ∀ (n i : Nat) (ii : Int) (G3 : Wd), ii = (i : Int) → i + n = many → Fr [135, 139] G G3 → (∀ j, j ≠ 6 → G3.1 135 j = G.1 135 j) → G3.1 135 6 = most - least → (∀ j (hj : j < pre.length), j < i → G3.1 139 j = ((pre[j]'hj : Nat) : Int)) → V κ MX6_keepIfBetter (rmD d 0 0) (fun v Ω' => v = none ∧ ∃ G', Ω' = Wm G' ∧ Fr [135, 139] G G' ∧ ShA G' w h many c total pre (keepS c h pre b)) noX 0 0 μ 0 0 (Wm G3) 72 [some (VR 135), some (VI most), some (VI least), some (VI ii)] [] from
          L2 many 0 0 _ rfl (by omega) ((Fr.refl _ _).upd (by decide)) (fun j hj => by simp [upd2_eq, hj]) (by simp [upd2_eq]) (fun j hj h => by omega)
        intro n
        induction n with
        | zero =>
          intro i ii G3 hi hn f3 g1 g2 g3
          have e1 : G3.1 135 1 = (many : Nat) := (g1 1 (by decide)).trans a1
          refine V_ex sX6_keepIfBetter_72 (by simp only [Option.toList, List.cons_append, List.nil_append, exN, ex1, gI, gL, gR, pI, pL, pR, lget, lset1, lset2, kl, b2I, b2L, nob, ob32, ob64, xGet, xPut, xLen, xLd, xLdR, xSt, obA, true_and, and_true, and_self, eq_self, Nat.reduceEqDiff, Nat.zero_ne_one, reduceIte, Nat.reduceLeDiff, and_false, false_and, show skd 5 1 = 0 from rfl, show LF.1 135 = some (.inl 5) from rfl, e1]; rfl) (by first | exact trivial | exact Or.inl trivial | exact Or.inr rfl | exact Or.inl rfl) ?_
          refine V_icmpge dX6_keepIfBetter_77 (tgt := 102) (by decide) (by unfold R32; constructor <;> omega) (fun q3 => ?_) (fun q3 => ?_)
          · refine V_vret dX6_keepIfBetter_102 rfl (by decide) ⟨rfl, G3, rfl, f3, by rw [keepS, if_pos (by omega)]; exact ⟨e1, (g1 2 (by decide)).trans a2, (g1 3 (by decide)).trans a3, by rw [g2, hmo, hle], (f3.2 136 (by decide)).trans a5, fun j hj => by rw [f3.at (by decide)]; exact a6 j hj, by rw [f3.2 138 (by decide)]; exact a7, rowIs_of (fun j hj => by rw [Nat.zero_add]; exact g3 j hj (by have : j < pre.length := hj; omega))⟩⟩
          · omega
        | succ n ihn =>
          intro i ii G3 hi hn f3 g1 g2 g3
          subst hi
          have hip : i < pre.length := by omega
          have e1 : G3.1 135 1 = (many : Nat) := (g1 1 (by decide)).trans a1
          have e138 : G3.1 138 i = ((pre[i]'hip : Nat) : Int) := by rw [f3.at (by decide)]; have := rowIs_at a7 i hip; rwa [Nat.zero_add] at this
          refine V_ex sX6_keepIfBetter_72 (by simp only [Option.toList, List.cons_append, List.nil_append, exN, ex1, gI, gL, gR, pI, pL, pR, lget, lset1, lset2, kl, b2I, b2L, nob, ob32, ob64, xGet, xPut, xLen, xLd, xLdR, xSt, obA, true_and, and_true, and_self, eq_self, Nat.reduceEqDiff, Nat.zero_ne_one, reduceIte, Nat.reduceLeDiff, and_false, false_and, show skd 5 1 = 0 from rfl, show LF.1 135 = some (.inl 5) from rfl, e1]; rfl) (by first | exact trivial | exact Or.inl trivial | exact Or.inr rfl | exact Or.inl rfl) ?_
          refine V_icmpge dX6_keepIfBetter_77 (tgt := 102) (by decide) (by unfold R32; constructor <;> omega) (fun q3 => ?_) (fun q3 => ?_)
          · omega
          · refine V_ex sX6_keepIfBetter_80 (by simp only [Option.toList, List.cons_append, List.nil_append, exN, ex1, gI, gL, gR, pI, pL, pR, lget, lset1, lset2, kl, b2I, b2L, nob, ob32, ob64, xGet, xPut, xLen, xLd, xLdR, xSt, obA, true_and, and_true, and_self, eq_self, Nat.reduceEqDiff, Nat.zero_ne_one, reduceIte, Nat.reduceLeDiff, and_false, false_and, show skd 5 7 = 2 from rfl, show skd 5 5 = 2 from rfl, show LF.1 135 = some (.inl 5) from rfl, show LF.2 135 7 = some 139 from rfl, show LF.2 135 5 = some 138 from rfl]; rfl) (by first | exact trivial | exact Or.inl trivial | exact Or.inr rfl | exact Or.inl rfl) ?_
            refine V_callSN (M := MX6_keepIfBetter) (N := MX11_at) (As := [VR 138, VI (i : Nat)]) (rest := [VI (i : Nat), VR 139]) dX6_keepIfBetter_90 lRX6_28 kX11_at rfl (c_at (d := 0) hκ (a := 138) (n := 10) rfl (by decide) (by unfold R32; omega)) rfl rfl (Nat.le_of_ble_eq_true rfl) (fit_rm (by omega)) (⟨Nat.le_refl _, Nat.le_refl _⟩) (fun v Ω' hp => ?_) (fun _ _ h => h.elim)
            obtain ⟨rfl, rfl⟩ := hp
            rw [rAt_nat i rfl (by omega), e138]
            refine V_callSN (M := MX6_keepIfBetter) (N := MX11_setAt) (As := [VR 139, VI (i : Nat), VI ((pre[i]'hip : Nat) : Int)]) (rest := []) dX6_keepIfBetter_93 lRX6_41 kX11_setAt rfl (c_setAt (d := 0) hκ (a := 139) (n := 10) rfl (by decide) (by unfold R32; omega)) rfl rfl (Nat.le_of_ble_eq_true rfl) (fit_rm (by omega)) (⟨Nat.le_refl _, Nat.le_refl _⟩) (fun v Ω' hp => ?_) (fun _ _ h => h.elim)
            obtain ⟨rfl, rfl⟩ := hp
            rw [rSet_nat i rfl (by omega)]
            refine V_ex sX6_keepIfBetter_96 (by rfl) (by first | exact trivial | exact Or.inl trivial | exact Or.inr rfl | exact Or.inl rfl) ?_
            refine V_goto dX6_keepIfBetter_99 (tgt := 72) (by decide) ?_
            refine ihn (i + 1) _ _ (by omega) (by omega) (f3.upd (by decide)) (fun j hj => ?_) ?_ (fun j hj hji => ?_)
            · simp [upd2_eq]; exact g1 j hj
            · simp [upd2_eq]; exact g2
            · simp only [upd2_eq]
              by_cases hjc : j = i
              · subst hjc; simp
              · rw [if_neg (by omega)]; exact g3 j hj (by omega)
    · omega
  | succ k ih =>
    intro c ci most least hci hk h1 hmo hle
    subst hci
    have r1 := mxH_R hh (c - 1)
    have r2 := mnH_R hh (c - 1)
    have r3 := hh c
    refine V_ex sX6_keepIfBetter_13 (by simp only [Option.toList, List.cons_append, List.nil_append, exN, ex1, gI, gL, gR, pI, pL, pR, lget, lset1, lset2, kl, b2I, b2L, nob, ob32, ob64, xGet, xPut, xLen, xLd, xLdR, xSt, obA, true_and, and_true, and_self, eq_self, Nat.reduceEqDiff, Nat.zero_ne_one, reduceIte, Nat.reduceLeDiff, and_false, false_and, show skd 5 2 = 0 from rfl, show LF.1 135 = some (.inl 5) from rfl, a2]; rfl) (by first | exact trivial | exact Or.inl trivial | exact Or.inr rfl | exact Or.inl rfl) ?_
    refine V_icmpge dX6_keepIfBetter_18 (tgt := 53) (by decide) (by unfold R32; constructor <;> omega) (fun q => ?_) (fun q => ?_)
    · omega
    · refine V_ex sX6_keepIfBetter_21 (by simp only [Option.toList, List.cons_append, List.nil_append, exN, ex1, gI, gL, gR, pI, pL, pR, lget, lset1, lset2, kl, b2I, b2L, nob, ob32, ob64, xGet, xPut, xLen, xLd, xLdR, xSt, obA, true_and, and_true, and_self, eq_self, Nat.reduceEqDiff, Nat.zero_ne_one, reduceIte, Nat.reduceLeDiff, and_false, false_and, show skd 5 4 = 2 from rfl, show LF.1 135 = some (.inl 5) from rfl, show LF.2 135 4 = some 137 from rfl]; rfl) (by first | exact trivial | exact Or.inl trivial | exact Or.inr rfl | exact Or.inl rfl) ?_
      refine V_callSN (M := MX6_keepIfBetter) (N := MX11_at) (As := [VR 137, VI (c : Nat)]) (rest := [VI most]) dX6_keepIfBetter_27 lRX6_28 kX11_at rfl (c_at (d := 0) hκ (a := 137) (n := 4) rfl (by decide) (by unfold R32; omega)) rfl rfl (Nat.le_of_ble_eq_true rfl) (fit_rm (by omega)) (⟨Nat.le_refl _, Nat.le_refl _⟩) (fun v Ω' hp => ?_) (fun _ _ h => h.elim)
      obtain ⟨rfl, rfl⟩ := hp
      rw [rAt_nat c rfl (by omega), a6 c (by omega)]
      refine V_mmax (M := MX6_keepIfBetter) dX6_keepIfBetter_30 lRX6_70 (by unfold R32; constructor <;> omega) (Nat.le_of_ble_eq_true rfl) (fit_rm (by omega)) ⟨Nat.le_refl _, Nat.le_refl _⟩ ?_
      refine V_ex sX6_keepIfBetter_33 (by simp only [Option.toList, List.cons_append, List.nil_append, exN, ex1, gI, gL, gR, pI, pL, pR, lget, lset1, lset2, kl, b2I, b2L, nob, ob32, ob64, xGet, xPut, xLen, xLd, xLdR, xSt, obA, true_and, and_true, and_self, eq_self, Nat.reduceEqDiff, Nat.zero_ne_one, reduceIte, Nat.reduceLeDiff, and_false, false_and, show skd 5 4 = 2 from rfl, show LF.1 135 = some (.inl 5) from rfl, show LF.2 135 4 = some 137 from rfl]; rfl) (by first | exact trivial | exact Or.inl trivial | exact Or.inr rfl | exact Or.inl rfl) ?_
      refine V_callSN (M := MX6_keepIfBetter) (N := MX11_at) (As := [VR 137, VI (c : Nat)]) (rest := [VI least]) dX6_keepIfBetter_40 lRX6_28 kX11_at rfl (c_at (d := 0) hκ (a := 137) (n := 4) rfl (by decide) (by unfold R32; omega)) rfl rfl (Nat.le_of_ble_eq_true rfl) (fit_rm (by omega)) (⟨Nat.le_refl _, Nat.le_refl _⟩) (fun v Ω' hp => ?_) (fun _ _ h => h.elim)
      obtain ⟨rfl, rfl⟩ := hp
      rw [rAt_nat c rfl (by omega), a6 c (by omega)]
      refine V_mmin (M := MX6_keepIfBetter) dX6_keepIfBetter_43 lRX6_56 (by unfold R32; constructor <;> omega) (Nat.le_of_ble_eq_true rfl) (fit_rm (by omega)) ⟨Nat.le_refl _, Nat.le_refl _⟩ ?_
      refine V_ex sX6_keepIfBetter_46 (by rfl) (by first | exact trivial | exact Or.inl trivial | exact Or.inr rfl | exact Or.inl rfl) ?_
      refine V_goto dX6_keepIfBetter_50 (tgt := 13) (by decide) ?_
      obtain ⟨c0, rfl⟩ : ∃ c0, c = c0 + 1 := ⟨c - 1, by omega⟩
      exact ih (c0 + 1 + 1) _ _ _ (by omega) (by omega) (by omega) (by rw [hmo]; rfl) (by rw [hle]; rfl)
