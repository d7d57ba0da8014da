/-! TornLeaves: sums, pages, figures of a book -/
def sumLe (c : List Int) (b : Bk) : Nat → Int
  | 0 => 0
  | n + 1 => sumLe c b n + if (n : Int) ∈ b.2.2.2.2.2 then 0 else lfB c b (n : Int)
/-- the first page of k from p on that bears n -/
def fstP (c : List Int) (b : Bk) (n : Int) : Nat → Nat → Int
  | 0, _ => -1
  | k + 1, p => if numB c b (p : Int) = n then (p : Int) else fstP c b n k (p + 1)
def pgE (c : List Int) (b : Bk) (n : Int) : Int := if n < 1 then -1 else if b.1 = 6 then fstP c b n (2 * b.2.2.1).toNat 1 else ownP b.1 b.2.1 n
def figs (c : List Int) (b : Bk) (f : Int) : Nat → Int
  | 0 => 0
  | n + 1 => figs c b f n + if ((n : Int) / 2) ∈ b.2.2.2.2.2 then 0 else dgc f 19 (numB c b ((n : Int) + 1))
abbrev nP (s : Nat) (S : Sh) (G : Wd) (r : Vl) : Option Vl → Om → Prop := fun v Ω' => v = some r ∧ ∃ G', Ω' = Wm G' ∧ ScN s G G' ∧ NC G' s S
theorem lfB_R {c : List Int} {b : Bk} (hb : okBk c b) {i : Int} (h : 0 ≤ i ∧ i < b.2.2.1) : 0 ≤ lfB c b i ∧ lfB c b i ≤ 199998 := by
  have h4 := hb.2.2.2.1
  have h1 := numB_R hb (p := 2 * i + 1) (by omega)
  have h2 := numB_R hb (p := 2 * i + 2) (by omega)
  unfold lfB
  omega
set_option maxRecDepth 100000 in
set_option maxHeartbeats 4000000 in
theorem c_leafS {κ : Kx} (hκ : KOK κ) {d s j i : Nat} {S : Sh} {G : Wd} (hN : NC G s S) (hj : j < S.1.length) (hi : (i : Int) < (bkJ S j).2.2.1) (hd : 5 ≤ d) : Ct κ MX11_leafSum d 0 0 [VR 1, VI (j : Nat), VR (s + 7 + 5 * j), VI (i : Nat)] (Wm G) (nP s S G (VI (lfB (cdS S) (bkJ S j) (i : Int)))) noX := by
  refine Ct_of hκ kX11_leafSum.1 rfl (Nat.le_of_ble_eq_true rfl) (ls := [some (VR 1), some (VI (j : Nat)), some (VR (s + 7 + 5 * j)), some (VI (i : Nat))]) rfl (fun μ => ?_)
  obtain ⟨hB, hj6, hok, -⟩ := NC_b hN hj
  have hlv := hok.2.2.2.1
  have e1 : (2 : Int) * (i : Int) + 1 = ((2 * i + 1 : Nat) : Int) := by omega
  have e2 : (2 : Int) * (i : Int) + 2 = ((2 * i + 2 : Nat) : Int) := by omega
  unfold lfB
  rw [e1, e2]
  refine V_ex sX11_leafSum_0 (by rfl) (by first | exact trivial | exact Or.inr rfl | exact Or.inl rfl | (simp only [ob, obA, R32, R64] at *; omega) | (simp only [ob, obA, R32, R64] at *; and_intros <;> omega)) ?_
  rw [e1]
  refine V_callV (M := MX11_leafSum) (N := MX11_numberOn) dX11_leafSum_8 lRX11_208 kX11_numberOn rfl (rfl) rfl (c_numOn (d := 4) hκ hN hj (p := 2 * i + 1) (by omega) (by omega)) rfl rfl (Nat.le_of_ble_eq_true rfl) (fit_rm (by omega)) (⟨Nat.le_of_ble_eq_true rfl, Nat.le_of_ble_eq_true rfl⟩) (fun v Ω' hp => ?_) (fun _ _ h => h.elim)
  obtain ⟨rfl, G1, rfl, f1, n1⟩ := hp
  refine V_ex sX11_leafSum_11 (by rfl) (by first | exact trivial | exact Or.inr rfl | exact Or.inl rfl | (simp only [ob, obA, R32, R64] at *; omega) | (simp only [ob, obA, R32, R64] at *; and_intros <;> omega)) ?_
  rw [e2]
  refine V_callV (M := MX11_leafSum) (N := MX11_numberOn) dX11_leafSum_19 lRX11_208 kX11_numberOn rfl (rfl) rfl (c_numOn (d := 4) hκ n1 hj (p := 2 * i + 2) (by omega) (by omega)) rfl rfl (Nat.le_of_ble_eq_true rfl) (fit_rm (by omega)) (⟨Nat.le_of_ble_eq_true rfl, Nat.le_of_ble_eq_true rfl⟩) (fun v Ω' hp => ?_) (fun _ _ h => h.elim)
  obtain ⟨rfl, G2, rfl, f2, n2⟩ := hp
  refine V_ex sX11_leafSum_22 (by rfl) (by first | exact trivial | exact Or.inr rfl | exact Or.inl rfl | (simp only [ob, obA, R32, R64] at *; omega) | (simp only [ob, obA, R32, R64] at *; and_intros <;> omega)) ?_
  refine V_iret dX11_leafSum_23 rfl (by decide) ⟨rfl, G2, rfl, f1.trans f2, n2⟩
set_option maxRecDepth 100000 in
set_option maxHeartbeats 4000000 in
theorem c_sumL {κ : Kx} (hκ : KOK κ) {d s j : Nat} {S : Sh} {G : Wd} (hN : NC G s S) (hj : j < S.1.length) (hd : 6 ≤ d) : Ct κ MX11_sumLeft d 0 0 [VR 1, VI (j : Nat), VR (s + 7 + 5 * j)] (Wm G) (nP s S G (VL (sumLe (cdS S) (bkJ S j) (bkJ S j).2.2.1.toNat))) noX := by
  refine Ct_of hκ kX11_sumLeft.1 rfl (Nat.le_of_ble_eq_true rfl) (ls := [some (VR 1), some (VI (j : Nat)), some (VR (s + 7 + 5 * j)), none, none, none]) rfl (fun μ => ?_)
  obtain ⟨hB, hj6, hok, -⟩ := NC_b hN hj
  have hlv := hok.2.2.2.1
  have L : ∀ (k i : Nat) (ii : Int) (G1 : Wd), i + k = (bkJ S j).2.2.1.toNat → ii = (i : Int) → ScN s G G1 → NC G1 s S → V κ MX11_sumLeft (rmD d 0 0) (nP s S G (VL (sumLe (cdS S) (bkJ S j) (bkJ S j).2.2.1.toNat))) noX 0 0 μ 0 0 (Wm (G1)) 5 [some (VR 1), some (VI (j : Nat)), some (VR (s + 7 + 5 * j)), some (VL (sumLe (cdS S) (bkJ S j) i)), none, some (VI ii)] [] := by
    intro k
    induction k with
    | zero =>
      intro i ii G1 hik hii f1 n1
      obtain ⟨-, -, -, k0, k2, k1, -, kg⟩ := NC_b n1 hj
      obtain rfl : i = (bkJ S j).2.2.1.toNat := by omega
      refine V_ex sX11_sumLeft_5 (by simp only [Option.toList, List.cons_append, List.nil_append, exN, ex1, gI, gL, gR, pI, pL, pR, lget, lset1, lset2, kl, b2I, b2L, nob, ob32, ob64, xGet, xPut, xLen, xLd, xLdR, xSt, obA, true_and, and_true, and_self, eq_self, Nat.reduceEqDiff, Nat.zero_ne_one, reduceIte, Nat.reduceLeDiff, and_false, false_and, show skd 0 1 = 0 from rfl, hB.1, k1, upd2_eq, Int.reduceToNat, Int.toNat_natCast]; rfl) (by first | exact trivial | exact Or.inr rfl | exact Or.inl rfl | (simp only [ob, obA, R32, R64] at *; omega) | (simp only [ob, obA, R32, R64] at *; and_intros <;> omega)) ?_
      refine V_icmpge dX11_sumLeft_11 (tgt := 44) (by decide) (by simp only [R32, R64] at *; omega) (fun q11 => ?_) (fun q11 => ?_)
      · refine V_ex sX11_sumLeft_44 (by rfl) (by first | exact trivial | exact Or.inr rfl | exact Or.inl rfl | (simp only [ob, obA, R32, R64] at *; omega) | (simp only [ob, obA, R32, R64] at *; and_intros <;> omega)) ?_
        refine V_lret dX11_sumLeft_45 rfl (by decide) ⟨rfl, G1, rfl, f1, n1⟩
      · omega
    | succ k ih =>
      intro i ii G1 hik hii f1 n1
      subst hii
      obtain ⟨-, -, -, k0, k2, k1, -, kg⟩ := NC_b n1 hj
      have hR := lfB_R hok (i := (i : Int)) (by omega)
      have hH := c_has (κ := κ) hκ (d := 3) (leaf := (i : Int)) (G := G1) hB.2.2.1 (by unfold R32; omega)
      rw [kg.2 (i : Int)] at hH
      have hs : sumLe (cdS S) (bkJ S j) (i + 1) = sumLe (cdS S) (bkJ S j) i + if (i : Int) ∈ (bkJ S j).2.2.2.2.2 then 0 else lfB (cdS S) (bkJ S j) (i : Int) := rfl
      refine V_ex sX11_sumLeft_5 (by simp only [Option.toList, List.cons_append, List.nil_append, exN, ex1, gI, gL, gR, pI, pL, pR, lget, lset1, lset2, kl, b2I, b2L, nob, ob32, ob64, xGet, xPut, xLen, xLd, xLdR, xSt, obA, true_and, and_true, and_self, eq_self, Nat.reduceEqDiff, Nat.zero_ne_one, reduceIte, Nat.reduceLeDiff, and_false, false_and, show skd 0 1 = 0 from rfl, hB.1, k1, upd2_eq, Int.reduceToNat, Int.toNat_natCast]; rfl) (by first | exact trivial | exact Or.inr rfl | exact Or.inl rfl | (simp only [ob, obA, R32, R64] at *; omega) | (simp only [ob, obA, R32, R64] at *; and_intros <;> omega)) ?_
      refine V_icmpge dX11_sumLeft_11 (tgt := 44) (by decide) (by simp only [R32, R64] at *; omega) (fun q11 => ?_) (fun q11 => ?_)
      · omega
      · refine V_ex sX11_sumLeft_14 (by simp only [Option.toList, List.cons_append, List.nil_append, exN, ex1, gI, gL, gR, pI, pL, pR, lget, lset1, lset2, kl, b2I, b2L, nob, ob32, ob64, xGet, xPut, xLen, xLd, xLdR, xSt, obA, true_and, and_true, and_self, eq_self, Nat.reduceEqDiff, Nat.zero_ne_one, reduceIte, Nat.reduceLeDiff, and_false, false_and, show skd 0 5 = 2 from rfl, hB.1, hB.2.1, hB.1, k1, upd2_eq, Int.reduceToNat, Int.toNat_natCast]; rfl) (by first | exact trivial | exact Or.inr rfl | exact Or.inl rfl | (simp only [ob, obA, R32, R64] at *; omega) | (simp only [ob, obA, R32, R64] at *; and_intros <;> omega)) ?_
        refine V_callV (M := MX11_sumLeft) (N := MX5_has) dX11_sumLeft_20 lRX11_202 kX5_has rfl (hB.2.2.1.1) rfl (hH) rfl rfl (Nat.le_of_ble_eq_true rfl) (fit_rm (by omega)) (⟨Nat.le_of_ble_eq_true rfl, Nat.le_of_ble_eq_true rfl⟩) (fun v Ω' hp => ?_) (fun _ _ h => h.elim)
        obtain ⟨rfl, rfl⟩ := hp
        refine V_ifneB dX11_sumLeft_23 (tgt := 38) (by decide) (fun q23 => ?_) (fun q23 => ?_)
        · refine V_ex sX11_sumLeft_38 (by rfl) (by first | exact trivial | exact Or.inr rfl | exact Or.inl rfl | (simp only [ob, obA, R32, R64] at *; omega) | (simp only [ob, obA, R32, R64] at *; and_intros <;> omega)) ?_
          refine V_goto dX11_sumLeft_41 (tgt := 5) (by decide) ?_
          have e := ih (i + 1) ((i : Int) + 1) G1 (by omega) (by omega) f1 n1
          rw [hs, if_pos (of_decide_eq_true q23), Int.add_zero] at e
          exact e
        · refine V_ex sX11_sumLeft_26 (by rfl) (by first | exact trivial | exact Or.inr rfl | exact Or.inl rfl | (simp only [ob, obA, R32, R64] at *; omega) | (simp only [ob, obA, R32, R64] at *; and_intros <;> omega)) ?_
          refine V_callV (M := MX11_sumLeft) (N := MX11_leafSum) dX11_sumLeft_32 lRX11_239 kX11_leafSum rfl (rfl) rfl (c_leafS (d := 5) hκ n1 hj (i := i) (by omega) (by omega)) rfl rfl (Nat.le_of_ble_eq_true rfl) (fit_rm (by omega)) (⟨Nat.le_of_ble_eq_true rfl, Nat.le_of_ble_eq_true rfl⟩) (fun v Ω' hp => ?_) (fun _ _ h => h.elim)
          obtain ⟨rfl, G2, rfl, f2, n2⟩ := hp
          refine V_ex sX11_sumLeft_35 (by rfl) (by first | exact trivial | exact Or.inr rfl | exact Or.inl rfl | (simp only [ob, obA, R32, R64] at *; omega) | (simp only [ob, obA, R32, R64] at *; and_intros <;> omega)) ?_
          refine V_ex sX11_sumLeft_38 (by rfl) (by first | exact trivial | exact Or.inr rfl | exact Or.inl rfl | (simp only [ob, obA, R32, R64] at *; omega) | (simp only [ob, obA, R32, R64] at *; and_intros <;> omega)) ?_
          refine V_goto dX11_sumLeft_41 (tgt := 5) (by decide) ?_
          have e := ih (i + 1) ((i : Int) + 1) G2 (by omega) (by omega) (f1.trans f2) n2
          rw [hs, if_neg (of_decide_eq_false q23)] at e
          exact e
  refine V_ex sX11_sumLeft_0 (by rfl) (by first | exact trivial | exact Or.inr rfl | exact Or.inl rfl | (simp only [ob, obA, R32, R64] at *; omega) | (simp only [ob, obA, R32, R64] at *; and_intros <;> omega)) ?_
  exact L (bkJ S j).2.2.1.toNat 0 0 G (by omega) rfl (ScN.refl s G) hN
set_option maxRecDepth 100000 in
set_option maxHeartbeats 4000000 in
theorem c_sumOf {κ : Kx} (hκ : KOK κ) {d s j n : Nat} {S : Sh} {G : Wd} (hN : NC G s S) (hj : j < S.1.length) (hn : n ≤ 4000) (hd : 6 ≤ d) : Ct κ MX11_sumOfFirst d 0 0 [VR 1, VI (j : Nat), VR (s + 7 + 5 * j), VI (n : Nat)] (Wm G) (nP s S G (VL (sumF (cdS S) (bkJ S j) n))) noX := by
  refine Ct_of hκ kX11_sumOfFirst.1 rfl (Nat.le_of_ble_eq_true rfl) (ls := [some (VR 1), some (VI (j : Nat)), some (VR (s + 7 + 5 * j)), some (VI (n : Nat)), none, none, none]) rfl (fun μ => ?_)
  obtain ⟨hB, hj6, hok, -⟩ := NC_b hN hj
  have L : ∀ (k i : Nat) (ii : Int) (G1 : Wd), i + k = n → ii = (i : Int) + 1 → ScN s G G1 → NC G1 s S → V κ MX11_sumOfFirst (rmD d 0 0) (nP s S G (VL (sumF (cdS S) (bkJ S j) n))) noX 0 0 μ 0 0 (Wm (G1)) 6 [some (VR 1), some (VI (j : Nat)), some (VR (s + 7 + 5 * j)), some (VI (n : Nat)), some (VL (sumF (cdS S) (bkJ S j) i)), none, some (VI ii)] [] := by
    intro k
    induction k with
    | zero =>
      intro i ii G1 hik hii f1 n1
      obtain rfl : i = n := by omega
      refine V_ex sX11_sumOfFirst_6 (by rfl) (by first | exact trivial | exact Or.inr rfl | exact Or.inl rfl | (simp only [ob, obA, R32, R64] at *; omega) | (simp only [ob, obA, R32, R64] at *; and_intros <;> omega)) ?_
      refine V_icmpgt dX11_sumOfFirst_9 (tgt := 32) (by decide) (by simp only [R32, R64] at *; omega) (fun q9 => ?_) (fun q9 => ?_)
      · refine V_ex sX11_sumOfFirst_32 (by rfl) (by first | exact trivial | exact Or.inr rfl | exact Or.inl rfl | (simp only [ob, obA, R32, R64] at *; omega) | (simp only [ob, obA, R32, R64] at *; and_intros <;> omega)) ?_
        refine V_lret dX11_sumOfFirst_34 rfl (by decide) ⟨rfl, G1, rfl, f1, n1⟩
      · omega
    | succ k ih =>
      intro i ii G1 hik hii f1 n1
      obtain rfl : ii = ((i + 1 : Nat) : Int) := by omega
      have hR := numB_R hok (p := ((i + 1 : Nat) : Int)) (by omega)
      have hs : sumF (cdS S) (bkJ S j) (i + 1) = sumF (cdS S) (bkJ S j) i + numB (cdS S) (bkJ S j) ((i + 1 : Nat) : Int) := by rw [sumF]; congr 2
      refine V_ex sX11_sumOfFirst_6 (by rfl) (by first | exact trivial | exact Or.inr rfl | exact Or.inl rfl | (simp only [ob, obA, R32, R64] at *; omega) | (simp only [ob, obA, R32, R64] at *; and_intros <;> omega)) ?_
      refine V_icmpgt dX11_sumOfFirst_9 (tgt := 32) (by decide) (by simp only [R32, R64] at *; omega) (fun q9 => ?_) (fun q9 => ?_)
      · omega
      · refine V_ex sX11_sumOfFirst_12 (by rfl) (by first | exact trivial | exact Or.inr rfl | exact Or.inl rfl | (simp only [ob, obA, R32, R64] at *; omega) | (simp only [ob, obA, R32, R64] at *; and_intros <;> omega)) ?_
        refine V_callV (M := MX11_sumOfFirst) (N := MX11_numberOn) dX11_sumOfFirst_19 lRX11_208 kX11_numberOn rfl (rfl) rfl (c_numOn (d := 5) hκ n1 hj (p := i + 1) (by omega) (by omega)) rfl rfl (Nat.le_of_ble_eq_true rfl) (fit_rm (by omega)) (⟨Nat.le_of_ble_eq_true rfl, Nat.le_of_ble_eq_true rfl⟩) (fun v Ω' hp => ?_) (fun _ _ h => h.elim)
        obtain ⟨rfl, G2, rfl, f2, n2⟩ := hp
        refine V_ex sX11_sumOfFirst_22 (by rfl) (by first | exact trivial | exact Or.inr rfl | exact Or.inl rfl | (simp only [ob, obA, R32, R64] at *; omega) | (simp only [ob, obA, R32, R64] at *; and_intros <;> omega)) ?_
        refine V_goto dX11_sumOfFirst_29 (tgt := 6) (by decide) ?_
        have e := ih (i + 1) (((i + 1 : Nat) : Int) + 1) G2 (by omega) (by omega) (f1.trans f2) n2
        rw [hs] at e
        exact e
  refine V_ex sX11_sumOfFirst_0 (by rfl) (by first | exact trivial | exact Or.inr rfl | exact Or.inl rfl | (simp only [ob, obA, R32, R64] at *; omega) | (simp only [ob, obA, R32, R64] at *; and_intros <;> omega)) ?_
  exact L n 0 1 G (by omega) rfl (ScN.refl s G) hN
set_option maxRecDepth 100000 in
set_option maxHeartbeats 4000000 in
theorem c_pgE {κ : Kx} (hκ : KOK κ) {d s j : Nat} {n : Int} {S : Sh} {G : Wd} (hN : NC G s S) (hj : j < S.1.length) (hn : R32 n) (hd : 6 ≤ d) : Ct κ MX11_pageEver d 0 0 [VR 1, VI (j : Nat), VR (s + 7 + 5 * j), VI n] (Wm G) (nP s S G (VL (pgE (cdS S) (bkJ S j) n))) noX := by
  refine Ct_of hκ kX11_pageEver.1 rfl (Nat.le_of_ble_eq_true rfl) (ls := [some (VR 1), some (VI (j : Nat)), some (VR (s + 7 + 5 * j)), some (VI n), none]) rfl (fun μ => ?_)
  obtain ⟨hB, hj6, hok, k0, k2, k1, -⟩ := NC_b hN hj
  have ho := hok
  obtain ⟨o1, o2, o3, o4, -⟩ := ho
  by_cases hn1 : n < 1
  · have hz : pgE (cdS S) (bkJ S j) n = -1 := by unfold pgE; rw [if_pos hn1]
    refine V_ex sX11_pageEver_0 (by rfl) (by first | exact trivial | exact Or.inr rfl | exact Or.inl rfl | (simp only [ob, obA, R32, R64] at *; omega) | (simp only [ob, obA, R32, R64] at *; and_intros <;> omega)) ?_
    refine V_icmpge dX11_pageEver_2 (tgt := 9) (by decide) (by simp only [R32, R64] at *; omega) (fun q2 => ?_) (fun q2 => ?_)
    · omega
    · refine V_ex sX11_pageEver_5 (by rfl) (by first | exact trivial | exact Or.inr rfl | exact Or.inl rfl | (simp only [ob, obA, R32, R64] at *; omega) | (simp only [ob, obA, R32, R64] at *; and_intros <;> omega)) ?_
      refine V_lret dX11_pageEver_8 rfl (by decide) ⟨by rw [hz], G, rfl, ScN.refl s G, hN⟩
  · by_cases hk : (bkJ S j).1 = 6
    · have hz : pgE (cdS S) (bkJ S j) n = fstP (cdS S) (bkJ S j) n (2 * (bkJ S j).2.2.1).toNat 1 := by unfold pgE; rw [if_neg hn1, if_pos hk]
      rw [hz]
      have L : ∀ (k p : Nat) (pp : Int) (G1 : Wd), (p : Int) + k = 2 * (bkJ S j).2.2.1 + 1 → 1 ≤ p → pp = (p : Int) → ScN s G G1 → NC G1 s S → fstP (cdS S) (bkJ S j) n k p = fstP (cdS S) (bkJ S j) n (2 * (bkJ S j).2.2.1).toNat 1 → V κ MX11_pageEver (rmD d 0 0) (nP s S G (VL (fstP (cdS S) (bkJ S j) n (2 * (bkJ S j).2.2.1).toNat 1))) noX 0 0 μ 0 0 (Wm (G1)) 27 [some (VR 1), some (VI (j : Nat)), some (VR (s + 7 + 5 * j)), some (VI n), some (VI pp)] [] := by
        intro k
        induction k with
        | zero =>
          intro p pp G1 hpk hp1 hpp f1 n1 he
          obtain ⟨-, -, -, g0, g2, g1, -⟩ := NC_b n1 hj
          rw [fstP] at he
          refine V_ex sX11_pageEver_27 (by simp only [Option.toList, List.cons_append, List.nil_append, exN, ex1, gI, gL, gR, pI, pL, pR, lget, lset1, lset2, kl, b2I, b2L, nob, ob32, ob64, xGet, xPut, xLen, xLd, xLdR, xSt, obA, true_and, and_true, and_self, eq_self, Nat.reduceEqDiff, Nat.zero_ne_one, reduceIte, Nat.reduceLeDiff, and_false, false_and, show skd 0 1 = 0 from rfl, hB.1, g1, upd2_eq, Int.reduceToNat, Int.toNat_natCast]; rfl) (by first | exact trivial | exact Or.inr rfl | exact Or.inl rfl | (simp only [ob, obA, R32, R64] at *; omega) | (simp only [ob, obA, R32, R64] at *; and_intros <;> omega)) ?_
          refine V_icmpgt dX11_pageEver_35 (tgt := 60) (by decide) (by simp only [R32, R64] at *; omega) (fun q35 => ?_) (fun q35 => ?_)
          · refine V_ex sX11_pageEver_60 (by rfl) (by first | exact trivial | exact Or.inr rfl | exact Or.inl rfl | (simp only [ob, obA, R32, R64] at *; omega) | (simp only [ob, obA, R32, R64] at *; and_intros <;> omega)) ?_
            refine V_lret dX11_pageEver_63 rfl (by decide) ⟨by rw [← he], G1, rfl, f1, n1⟩
          · omega
        | succ k ih =>
          intro p pp G1 hpk hp1 hpp f1 n1 he
          subst hpp
          obtain ⟨-, -, -, g0, g2, g1, -⟩ := NC_b n1 hj
          have hR := numB_R hok (p := (p : Int)) (by omega)
          rw [fstP] at he
          refine V_ex sX11_pageEver_27 (by simp only [Option.toList, List.cons_append, List.nil_append, exN, ex1, gI, gL, gR, pI, pL, pR, lget, lset1, lset2, kl, b2I, b2L, nob, ob32, ob64, xGet, xPut, xLen, xLd, xLdR, xSt, obA, true_and, and_true, and_self, eq_self, Nat.reduceEqDiff, Nat.zero_ne_one, reduceIte, Nat.reduceLeDiff, and_false, false_and, show skd 0 1 = 0 from rfl, hB.1, g1, upd2_eq, Int.reduceToNat, Int.toNat_natCast]; rfl) (by first | exact trivial | exact Or.inr rfl | exact Or.inl rfl | (simp only [ob, obA, R32, R64] at *; omega) | (simp only [ob, obA, R32, R64] at *; and_intros <;> omega)) ?_
          refine V_icmpgt dX11_pageEver_35 (tgt := 60) (by decide) (by simp only [R32, R64] at *; omega) (fun q35 => ?_) (fun q35 => ?_)
          · omega
          · refine V_ex sX11_pageEver_38 (by rfl) (by first | exact trivial | exact Or.inr rfl | exact Or.inl rfl | (simp only [ob, obA, R32, R64] at *; omega) | (simp only [ob, obA, R32, R64] at *; and_intros <;> omega)) ?_
            refine V_callV (M := MX11_pageEver) (N := MX11_numberOn) dX11_pageEver_43 lRX11_208 kX11_numberOn rfl (rfl) rfl (c_numOn (d := 5) hκ n1 hj (p := p) (by omega) (by omega)) rfl rfl (Nat.le_of_ble_eq_true rfl) (fit_rm (by omega)) (⟨Nat.le_of_ble_eq_true rfl, Nat.le_of_ble_eq_true rfl⟩) (fun v Ω' hp => ?_) (fun _ _ h => h.elim)
            obtain ⟨rfl, G2, rfl, f2, n2⟩ := hp
            refine V_ex sX11_pageEver_46 (by rfl) (by first | exact trivial | exact Or.inr rfl | exact Or.inl rfl | (simp only [ob, obA, R32, R64] at *; omega) | (simp only [ob, obA, R32, R64] at *; and_intros <;> omega)) ?_
            refine V_icmpne dX11_pageEver_47 (tgt := 54) (by decide) (by simp only [R32, R64] at *; omega) (fun q47 => ?_) (fun q47 => ?_)
            · refine V_ex sX11_pageEver_54 (by rfl) (by first | exact trivial | exact Or.inr rfl | exact Or.inl rfl | (simp only [ob, obA, R32, R64] at *; omega) | (simp only [ob, obA, R32, R64] at *; and_intros <;> omega)) ?_
              refine V_goto dX11_pageEver_57 (tgt := 27) (by decide) ?_
              rw [if_neg q47] at he; exact ih (p + 1) ((p : Int) + 1) G2 (by omega) (by omega) (by omega) (f1.trans f2) n2 he
            · refine V_ex sX11_pageEver_50 (by rfl) (by first | exact trivial | exact Or.inr rfl | exact Or.inl rfl | (simp only [ob, obA, R32, R64] at *; omega) | (simp only [ob, obA, R32, R64] at *; and_intros <;> omega)) ?_
              refine V_lret dX11_pageEver_53 rfl (by decide) ⟨by rw [if_pos q47] at he; rw [← he], G2, rfl, f1.trans f2, n2⟩
      refine V_ex sX11_pageEver_0 (by rfl) (by first | exact trivial | exact Or.inr rfl | exact Or.inl rfl | (simp only [ob, obA, R32, R64] at *; omega) | (simp only [ob, obA, R32, R64] at *; and_intros <;> omega)) ?_
      refine V_icmpge dX11_pageEver_2 (tgt := 9) (by decide) (by simp only [R32, R64] at *; omega) (fun q2 => ?_) (fun q2 => ?_)
      · refine V_ex sX11_pageEver_9 (by simp only [Option.toList, List.cons_append, List.nil_append, exN, ex1, gI, gL, gR, pI, pL, pR, lget, lset1, lset2, kl, b2I, b2L, nob, ob32, ob64, xGet, xPut, xLen, xLd, xLdR, xSt, obA, true_and, and_true, and_self, eq_self, Nat.reduceEqDiff, Nat.zero_ne_one, reduceIte, Nat.reduceLeDiff, and_false, false_and, show skd 0 0 = 0 from rfl, hB.1, k0, upd2_eq, Int.reduceToNat, Int.toNat_natCast]; rfl) (by first | exact trivial | exact Or.inr rfl | exact Or.inl rfl | (simp only [ob, obA, R32, R64] at *; omega) | (simp only [ob, obA, R32, R64] at *; and_intros <;> omega)) ?_
        refine V_icmpeq dX11_pageEver_15 (tgt := 24) (by decide) (by simp only [R32, R64] at *; omega) (fun q15 => ?_) (fun q15 => ?_)
        · refine V_ex sX11_pageEver_24 (by rfl) (by first | exact trivial | exact Or.inr rfl | exact Or.inl rfl | (simp only [ob, obA, R32, R64] at *; omega) | (simp only [ob, obA, R32, R64] at *; and_intros <;> omega)) ?_
          exact L (2 * (bkJ S j).2.2.1).toNat 1 1 G (by omega) (by omega) rfl (ScN.refl s G) hN rfl
        · exact absurd hk q15
      · omega
    · have hz : pgE (cdS S) (bkJ S j) n = ownP (bkJ S j).1 (bkJ S j).2.1 n := by unfold pgE; rw [if_neg hn1, if_neg hk]
      rw [hz]
      have hO := c_pageBearing (κ := κ) hκ (d := 3) (a := s + 7 + 5 * j) (G := G) hB hn (by rw [k0]; unfold R32; omega) (by rw [k2]; unfold R32; omega) (by omega)
      rw [k0, k2] at hO
      refine V_ex sX11_pageEver_0 (by rfl) (by first | exact trivial | exact Or.inr rfl | exact Or.inl rfl | (simp only [ob, obA, R32, R64] at *; omega) | (simp only [ob, obA, R32, R64] at *; and_intros <;> omega)) ?_
      refine V_icmpge dX11_pageEver_2 (tgt := 9) (by decide) (by simp only [R32, R64] at *; omega) (fun q2 => ?_) (fun q2 => ?_)
      · refine V_ex sX11_pageEver_9 (by simp only [Option.toList, List.cons_append, List.nil_append, exN, ex1, gI, gL, gR, pI, pL, pR, lget, lset1, lset2, kl, b2I, b2L, nob, ob32, ob64, xGet, xPut, xLen, xLd, xLdR, xSt, obA, true_and, and_true, and_self, eq_self, Nat.reduceEqDiff, Nat.zero_ne_one, reduceIte, Nat.reduceLeDiff, and_false, false_and, show skd 0 0 = 0 from rfl, hB.1, k0, upd2_eq, Int.reduceToNat, Int.toNat_natCast]; rfl) (by first | exact trivial | exact Or.inr rfl | exact Or.inl rfl | (simp only [ob, obA, R32, R64] at *; omega) | (simp only [ob, obA, R32, R64] at *; and_intros <;> omega)) ?_
        refine V_icmpeq dX11_pageEver_15 (tgt := 24) (by decide) (by simp only [R32, R64] at *; omega) (fun q15 => ?_) (fun q15 => ?_)
        · exact absurd q15 hk
        · refine V_ex sX11_pageEver_18 (by rfl) (by first | exact trivial | exact Or.inr rfl | exact Or.inl rfl | (simp only [ob, obA, R32, R64] at *; omega) | (simp only [ob, obA, R32, R64] at *; and_intros <;> omega)) ?_
          refine V_callV (M := MX11_pageEver) (N := MX0_pageBearing) dX11_pageEver_20 lRX11_231 kX0_pageBearing rfl (hB.1) rfl (hO) rfl rfl (Nat.le_of_ble_eq_true rfl) (fit_rm (by omega)) (⟨Nat.le_of_ble_eq_true rfl, Nat.le_of_ble_eq_true rfl⟩) (fun v Ω' hp => ?_) (fun _ _ h => h.elim)
          obtain ⟨rfl, rfl⟩ := hp
          refine V_lret dX11_pageEver_23 rfl (by decide) ⟨rfl, G, rfl, ScN.refl s G, hN⟩
      · omega
