/-! THE MODEL: index, tells -/
set_option maxRecDepth 100000 in
set_option maxHeartbeats 4000000 in
theorem c_mxIndex {κ : Kx} (hκ : KOK κ) {d : Nat} {K i n : Int} {A : Ab} {G : Wd} (hC : RM G A) (hI : Inv K A) (hi : R32 i) (hn : R32 n) (hd : 20 ≤ d) : Ct κ MX12_index d 0 0 [VR 145, VI i, VI n] (Wm G) (mdP G A (some (VI (w32 (indexP A i n).2))) (indexP A i n).1) noX := by
  refine Ct_of hκ kX12_index.1 rfl (Nat.le_of_ble_eq_true rfl) (ls := [some (VR 145), some (VI i), some (VI n), none, none, none, none]) rfl (fun μ => ?_)
  have hC1 := (RM_f hC (fn0 G 0)).1
  by_cases hin : inB A.1 i
  · obtain ⟨j, hj⟩ : ∃ j : Nat, i = (j : Int) := ⟨i.toNat, by have := hin.1; omega⟩
    subst hj
    have hj : j < A.1.1.length := by have := hin.2; omega
    obtain ⟨g1, g2, g3, g4, g5⟩ := gone_ok hI.1 hj
    have hj6 : j < 6 := by have := hI.1.1; omega
    have hok := hI.1.2.1 _ (List.getElem_mem hj)
    rw [← bkJ_in hj] at hok
    have hkR : R32 (bkJ A.1 j).1 := by have := hok.1; unfold R32; omega
    have hpR : -1 ≤ pgE (cdS A.1) (bkJ A.1 j) n ∧ pgE (cdS A.1) (bkJ A.1 j) n ≤ 9223372036854775807 - 1000000 := pgE_R hok hn
    have hpz : pgE (cdS A.1) (bkJ A.1 j) n ≠ 0 := pgE_nz hok hn
    have e : indexP A (j : Nat) n = (0, idxV (bkJ A.1 j) (pgE (cdS A.1) (bkJ A.1 j) n)) := by unfold indexP; rw [if_neg (fun h => h hin)]; rfl
    rw [e]
    have hPO := c_mPageOf (κ := κ) hκ (d := 3) (j := j) (n := n) hC1.1 hI.1 hj hn (by omega)
    generalize hz : pgE (cdS A.1) (bkJ A.1 j) n = z at *
    have fin : ∀ (G2 : Wd) (q : Int), FN G G2 → G2.1 145 2 = 0 → 1 ≤ z → q = (if (bkJ A.1 j).1 = 1 ∧ (z + 1) / 2 % 2 ≠ 0 then (z + 1) / 2 + 1 else (z + 1) / 2) → V κ MX12_index (rmD d 0 0) (mdP G A (some (VI (w32 (idxV (bkJ A.1 j) z)))) 0) noX 0 0 μ 0 0 (Wm (G2)) 72 [some (VR 145), some (VI (j : Nat)), some (VI n), some (VL z), none, some (VL q), none] [] := fun G2 q f c hz1 hq => by
      have m3 := (mS0_b (RM_f hC f).1.1 hj).2.2.1
      have hqR : 0 ≤ q ∧ q ≤ z + 1 := by rw [hq]; split <;> omega
      have ev : (if q - (bkJ A.1 j).2.2.1 < 0 then (0 : Int) else q - (bkJ A.1 j).2.2.1) = idxV (bkJ A.1 j) z := by
        unfold idxV
        rw [if_neg (show ¬ z < 1 by omega), ← hq]
        split <;> split <;> omega
      refine V_ex sX12_index_72 (by simp only [Option.toList, List.cons_append, List.nil_append, exN, ex1, gI, gL, gR, pI, pL, pR, lget, lset1, lset2, kl, b2I, b2L, nob, ob32, ob64, xGet, xPut, xLen, xLd, xLdR, xSt, obA, true_and, and_true, and_self, eq_self, Nat.reduceEqDiff, Nat.zero_ne_one, reduceIte, Nat.reduceLeDiff, and_false, false_and, show skd 11 6 = 2 from rfl, show LF.1 145 = some (.inl 11) from rfl, show LF.2 145 6 = some 151 from rfl, show LF.1 151 = some (.inr (0, 12)) from rfl, m3, Int.toNat_natCast, upd2_eq, Int.reduceToNat, Int.toNat_natCast]; rfl) (by first | exact trivial | exact Or.inr rfl | exact Or.inl rfl | (simp only [ob, obA, R32, R64] at *; omega) | (simp only [ob, obA, R32, R64] at *; and_intros <;> omega) | (simp [ob, obA])) ?_
      refine V_mmaxl (M := MX12_index) dX12_index_83 lRX12_446 (by exact ⟨by unfold R64; omega, by unfold R64; omega⟩) (Nat.le_of_ble_eq_true rfl) (fit_rm (by omega)) ⟨Nat.le_refl _, Nat.le_refl _⟩ ?_
      rw [ev]
      refine V_ex sX12_index_86 (by rfl) (by first | exact trivial | exact Or.inr rfl | exact Or.inl rfl | (simp only [ob, obA, R32, R64] at *; omega) | (simp only [ob, obA, R32, R64] at *; and_intros <;> omega) | (simp [ob, obA])) ?_
      refine V_w32 ?_
      refine V_iret dX12_index_87 rfl (by decide) (FN.s0 f c hC rfl rfl)
    refine V_ex sX12_index_0 (by simp only [Option.toList, List.cons_append, List.nil_append, exN, ex1, gI, gL, gR, pI, pL, pR, lget, lset1, lset2, kl, b2I, b2L, nob, ob32, ob64, xGet, xPut, xLen, xLd, xLdR, xSt, obA, true_and, and_true, and_self, eq_self, Nat.reduceEqDiff, Nat.zero_ne_one, reduceIte, Nat.reduceLeDiff, and_false, false_and, show skd 11 2 = 0 from rfl, show LF.1 145 = some (.inl 11) from rfl, upd2_eq, Int.reduceToNat, Int.toNat_natCast]; rfl) (by first | exact trivial | exact Or.inr rfl | exact Or.inl rfl | (simp only [ob, obA, R32, R64] at *; omega) | (simp only [ob, obA, R32, R64] at *; and_intros <;> omega) | (simp [ob, obA])) ?_
    refine V_callV (M := MX12_index) (N := MX12_isBook) dX12_index_7 lRX12_386 kX12_isBook rfl (rfl) rfl (c_mIsBook (d := 2) hκ hC1.1 hI.1 hi (by omega)) rfl rfl (Nat.le_of_ble_eq_true rfl) (fit_rm (by omega)) (⟨Nat.le_of_ble_eq_true rfl, Nat.le_of_ble_eq_true rfl⟩) (fun v Ω' hp => ?_) (fun _ _ h => h.elim)
    obtain ⟨rfl, rfl⟩ := hp
    refine V_ifneB dX12_index_10 (tgt := 19) (by decide) (fun q10 => ?_) (fun q10 => ?_)
    · refine V_ex sX12_index_19 (by rfl) (by first | exact trivial | exact Or.inr rfl | exact Or.inl rfl | (simp only [ob, obA, R32, R64] at *; omega) | (simp only [ob, obA, R32, R64] at *; and_intros <;> omega) | (simp [ob, obA])) ?_
      refine V_callV (M := MX12_index) (N := MX12_pageOf) dX12_index_22 lRX12_396 kX12_pageOf rfl (rfl) rfl (hPO) rfl rfl (Nat.le_of_ble_eq_true rfl) (fit_rm (by omega)) (⟨Nat.le_of_ble_eq_true rfl, Nat.le_of_ble_eq_true rfl⟩) (fun v Ω' hp => ?_) (fun _ _ h => h.elim)
      obtain ⟨rfl, G2, rfl, f2⟩ := hp
      obtain ⟨f3, c3⟩ := fn_c (fn0 G 0) f2
      have m1 := (mS0_b (RM_f hC f3).1.1 hj).1
      refine V_ex sX12_index_25 (by rfl) (by exact ⟨by unfold R64; omega, by unfold R64; omega⟩) ?_
      refine V_lifne dX12_index_31 (tgt := 36) (by decide) (fun q31 => ?_) (fun q31 => ?_)
      · refine V_ex sX12_index_36 (by simp only [Option.toList, List.cons_append, List.nil_append, exN, ex1, gI, gL, gR, pI, pL, pR, lget, lset1, lset2, kl, b2I, b2L, nob, ob32, ob64, xGet, xPut, xLen, xLd, xLdR, xSt, obA, true_and, and_true, and_self, eq_self, Nat.reduceEqDiff, Nat.zero_ne_one, reduceIte, Nat.reduceLeDiff, and_false, false_and, show skd 11 4 = 2 from rfl, show LF.1 145 = some (.inl 11) from rfl, show LF.2 145 4 = some 149 from rfl, show LF.1 149 = some (.inr (0, 12)) from rfl, m1, Int.toNat_natCast, upd2_eq, Int.reduceToNat, Int.toNat_natCast]; rfl) (by (simp only [ob, obA, R64]; and_intros <;> omega)) ?_
        rw [td_nn (by omega)]
        refine V_icmpne dX12_index_52 (tgt := 72) (by decide) (by exact ⟨hkR, by unfold R32; omega⟩) (fun q52 => ?_) (fun q52 => ?_)
        · exact fin G2 _ f3 (c3.trans iu) (by omega) (by rw [if_neg (fun q => q52 q.1)])
        · refine V_ex sX12_index_55 (by rfl) (by (rw [tm_nn (by omega)]; simp only [ob, obA, R64]; and_intros <;> omega)) ?_
          rw [tm_nn (by omega)]
          refine V_lifne dX12_index_63 (tgt := 72) (by decide) (fun q63 => ?_) (fun q63 => ?_)
          · exact fin G2 _ f3 (c3.trans iu) (by omega) (by rw [if_neg (fun q => q.2 (by omega))])
          · refine V_ex sX12_index_66 (by rfl) (by first | exact trivial | exact Or.inr rfl | exact Or.inl rfl | (simp only [ob, obA, R32, R64] at *; omega) | (simp only [ob, obA, R32, R64] at *; and_intros <;> omega) | (simp [ob, obA])) ?_
            exact fin G2 _ f3 (c3.trans iu) (by omega) (by rw [if_pos ⟨q52, by omega⟩])
      · refine V_ex sX12_index_34 (by rfl) (by first | exact trivial | exact Or.inr rfl | exact Or.inl rfl | (simp only [ob, obA, R32, R64] at *; omega) | (simp only [ob, obA, R32, R64] at *; and_intros <;> omega) | (simp [ob, obA])) ?_
        refine V_iret dX12_index_35 rfl (by decide) (by rw [q31]; exact FN.s0 f3 (c3.trans iu) hC rfl rfl)
    · exact absurd hin (of_decide_eq_false q10)
  · have e : indexP A i n = (1, 0) := by unfold indexP; rw [if_pos hin]
    refine V_ex sX12_index_0 (by simp only [Option.toList, List.cons_append, List.nil_append, exN, ex1, gI, gL, gR, pI, pL, pR, lget, lset1, lset2, kl, b2I, b2L, nob, ob32, ob64, xGet, xPut, xLen, xLd, xLdR, xSt, obA, true_and, and_true, and_self, eq_self, Nat.reduceEqDiff, Nat.zero_ne_one, reduceIte, Nat.reduceLeDiff, and_false, false_and, show skd 11 2 = 0 from rfl, show LF.1 145 = some (.inl 11) from rfl, upd2_eq, Int.reduceToNat, Int.toNat_natCast]; rfl) (by first | exact trivial | exact Or.inr rfl | exact Or.inl rfl | (simp only [ob, obA, R32, R64] at *; omega) | (simp only [ob, obA, R32, R64] at *; and_intros <;> omega) | (simp [ob, obA])) ?_
    refine V_callV (M := MX12_index) (N := MX12_isBook) dX12_index_7 lRX12_386 kX12_isBook rfl (rfl) rfl (c_mIsBook (d := 2) hκ hC1.1 hI.1 hi (by omega)) rfl rfl (Nat.le_of_ble_eq_true rfl) (fit_rm (by omega)) (⟨Nat.le_of_ble_eq_true rfl, Nat.le_of_ble_eq_true rfl⟩) (fun v Ω' hp => ?_) (fun _ _ h => h.elim)
    obtain ⟨rfl, rfl⟩ := hp
    refine V_ifneB dX12_index_10 (tgt := 19) (by decide) (fun q10 => ?_) (fun q10 => ?_)
    · exact absurd (of_decide_eq_true q10) hin
    · refine V_ex sX12_index_13 (by rfl) (by first | exact trivial | exact Or.inr rfl | exact Or.inl rfl | (simp only [ob, obA, R32, R64] at *; omega) | (simp only [ob, obA, R32, R64] at *; and_intros <;> omega) | (simp [ob, obA])) ?_
      refine V_callV (M := MX12_index) (N := MX12_fail) dX12_index_15 lRX12_324 kX12_fail rfl (rfl) rfl (c_mfail (d := 2) hκ) rfl rfl (Nat.le_of_ble_eq_true rfl) (fit_rm (by omega)) (⟨Nat.le_of_ble_eq_true rfl, Nat.le_of_ble_eq_true rfl⟩) (fun v Ω' hp => ?_) (fun _ _ h => h.elim)
      obtain ⟨rfl, rfl⟩ := hp
      refine V_iret dX12_index_18 rfl (by decide) (md_1 hC (by rw [e]; rfl) (by rw [e]))
theorem unlike_iff (f : Int) (L : List (Int × Int)) : ∀ (k i : Nat), unlike f L k i = true ↔ ∀ a, i ≤ a → a < i + k → ∀ b, b < a → sayF f (L.getD a (0, 0)) ≠ sayF f (L.getD b (0, 0)) := by
  intro k
  induction k with
  | zero => intro i; exact ⟨fun _ a h1 h2 => by omega, fun _ => rfl⟩
  | succ k ih =>
    intro i
    rw [unlike]
    split
    · rename_i c
      obtain ⟨b, hb, hs⟩ := List.any_eq_true.mp c
      exact ⟨fun q => (by cases q), fun q => absurd (of_decide_eq_true hs) (q i (Nat.le_refl _) (by omega) b (List.mem_range.mp hb))⟩
    · rename_i c
      rw [ih (i + 1)]
      constructor
      · intro q a h1 h2 b hb
        rcases Nat.lt_or_ge i a with z | z
        · exact q a z (by omega) b hb
        · obtain rfl : a = i := by omega
          intro hs
          exact c (List.any_eq_true.mpr ⟨b, List.mem_range.mpr hb, decide_eq_true hs⟩)
      · intro q a h1 h2
        exact q a (by omega) (by omega)
/-- all told apart up to row a, column b -/
def apart (f : Int) (L : List (Int × Int)) (a b : Nat) : Bool := (List.range a).all (fun x => (List.range x).all (fun y => decide (sayF f (L.getD x (0, 0)) ≠ sayF f (L.getD y (0, 0))))) && (List.range b).all (fun y => decide (sayF f (L.getD a (0, 0)) ≠ sayF f (L.getD y (0, 0))))
theorem apart_0 (f : Int) (L : List (Int × Int)) : apart f L 0 0 = true := rfl
theorem apart_s (f : Int) (L : List (Int × Int)) (a b : Nat) : apart f L a (b + 1) = (apart f L a b && decide (sayF f (L.getD a (0, 0)) ≠ sayF f (L.getD b (0, 0)))) := by
  unfold apart
  rw [List.range_succ (n := b), List.all_append, ← Bool.and_assoc]
  simp
theorem apart_n (f : Int) (L : List (Int × Int)) (a : Nat) : apart f L a a = apart f L (a + 1) 0 := by
  unfold apart
  rw [List.range_succ (n := a), List.all_append]
  simp
theorem apart_u (f : Int) (L : List (Int × Int)) : apart f L L.length 0 = unlike f L (L.length - 1) 1 := by
  rw [Bool.eq_iff_iff, unlike_iff]
  unfold apart
  simp only [List.all_eq_true, List.mem_range, decide_eq_true_eq, Bool.and_eq_true, List.range_zero, List.not_mem_nil, false_implies, implies_true, and_true]
  constructor
  · intro q a h1 h2 b hb
    exact q a (by omega) b hb
  · intro q a ha b hb
    exact q a (by omega) (by omega) b hb
theorem getD_e (L : List (Int × Int)) {i : Nat} (h : i < L.length) : L.getD i (0, 0) = L[i]'h := by rw [List.getD_eq_getElem?_getD, List.getElem?_eq_getElem h]; rfl
set_option maxRecDepth 100000 in
set_option maxHeartbeats 4000000 in
theorem c_mxTells {κ : Kx} (hκ : KOK κ) {d : Nat} {K s : Int} {A : Ab} {G : Wd} (hC : RM G A) (hI : Inv K A) (hs : R64 s) (hd : 20 ≤ d) : Ct κ MX12_tells d 0 0 [VR 145, VL s] (Wm G) (mdP G A (some (VI (tellsP s).2)) (tellsP s).1) noX := by
  refine Ct_of hκ kX12_tells.1 rfl (Nat.le_of_ble_eq_true rfl) (ls := [some (VR 145), some (VL s), none, none, none, none, none]) rfl (fun μ => ?_)
  have loop : ∀ (G1 : Wd), FN G G1 → G1.1 145 2 = 0 → fitsM G1 (fitL s) → (1 ≤ s ∧ s ≤ 1000000000000000000) → (∀ q ∈ fitL s, (0 ≤ q.1 ∧ q.1 ≤ 2000000000) ∧ 0 ≤ q.2 ∧ q.2 ≤ 2000000000) → ∀ (k : Nat) (w : Int) (x y z : Option Vl), w + k = 12 → 0 ≤ w → tellV (fitL s) k w = tellV (fitL s) 12 0 → V κ MX12_tells (rmD d 0 0) (mdP G A (some (VI (tellsP s).2)) (tellsP s).1) noX 0 0 μ 0 0 (Wm (G1)) 25 [some (VR 145), some (VL s), none, some (VI w), x, y, z] [] := by
    intro G1 g1 c0 a1 hsum hok k
    have hlen := a1.1
    have hl6 := a1.2.1
    induction k with
    | zero =>
      intro w x y z hwk hw0 he
      refine V_ex sX12_tells_25 (by rfl) (by first | exact trivial | exact Or.inr rfl | exact Or.inl rfl | (simp only [ob, obA, R32, R64] at *; omega) | (simp only [ob, obA, R32, R64] at *; and_intros <;> omega) | (simp [ob, obA])) ?_
      refine V_icmpge dX12_tells_28 (tgt := 111) (by decide) (by simp only [R32, R64] at *; omega) (fun q28 => ?_) (fun q28 => ?_)
      · refine V_ex sX12_tells_111 (by rfl) (by first | exact trivial | exact Or.inr rfl | exact Or.inl rfl | (simp only [ob, obA, R32, R64] at *; omega) | (simp only [ob, obA, R32, R64] at *; and_intros <;> omega) | (simp [ob, obA])) ?_
        refine V_iret dX12_tells_112 rfl (by decide) (by rw [tellsP, if_neg (not_not_intro hsum), ← he]; exact FN.s0 g1 c0 hC rfl rfl)
      · omega
    | succ k ih =>
      intro w x y z hwk hw0 he
      rw [tellV, ← apart_u] at he
      have hyes : ∀ a b (h : apart w (fitL s) (fitL s).length 0 = true), V κ MX12_tells (rmD d 0 0) (mdP G A (some (VI (tellsP s).2)) (tellsP s).1) noX 0 0 μ 0 0 (Wm (G1)) 98 [some (VR 145), some (VL s), none, some (VI w), some (VI 1), a, b] [] := fun a b h => by
        rw [if_pos h] at he
        refine V_ex sX12_tells_98 (by rfl) (by first | exact trivial | exact Or.inr rfl | exact Or.inl rfl | (simp only [ob, obA, R32, R64] at *; omega) | (simp only [ob, obA, R32, R64] at *; and_intros <;> omega) | (simp [ob, obA])) ?_
        refine V_ifeq dX12_tells_100 (tgt := 105) (by decide) (by simp only [R32, R64] at *; omega) (fun q100 => ?_) (fun q100 => ?_)
        · exact absurd q100 (by decide)
        · refine V_ex sX12_tells_103 (by rfl) (by first | exact trivial | exact Or.inr rfl | exact Or.inl rfl | (simp only [ob, obA, R32, R64] at *; omega) | (simp only [ob, obA, R32, R64] at *; and_intros <;> omega) | (simp [ob, obA])) ?_
          refine V_iret dX12_tells_104 rfl (by decide) (by rw [tellsP, if_neg (not_not_intro hsum), ← he]; exact FN.s0 g1 c0 hC rfl rfl)
      have hno : ∀ a b (h : apart w (fitL s) (fitL s).length 0 = false), V κ MX12_tells (rmD d 0 0) (mdP G A (some (VI (tellsP s).2)) (tellsP s).1) noX 0 0 μ 0 0 (Wm (G1)) 98 [some (VR 145), some (VL s), none, some (VI w), some (VI 0), a, b] [] := fun a b h => by
        rw [if_neg (by rw [h]; decide)] at he
        refine V_ex sX12_tells_98 (by rfl) (by first | exact trivial | exact Or.inr rfl | exact Or.inl rfl | (simp only [ob, obA, R32, R64] at *; omega) | (simp only [ob, obA, R32, R64] at *; and_intros <;> omega) | (simp [ob, obA])) ?_
        refine V_ifeq dX12_tells_100 (tgt := 105) (by decide) (by simp only [R32, R64] at *; omega) (fun q100 => ?_) (fun q100 => ?_)
        · refine V_ex sX12_tells_105 (by rfl) (by first | exact trivial | exact Or.inr rfl | exact Or.inl rfl | (simp only [ob, obA, R32, R64] at *; omega) | (simp only [ob, obA, R32, R64] at *; and_intros <;> omega) | (simp [ob, obA])) ?_
          refine V_goto dX12_tells_108 (tgt := 25) (by decide) ?_
          exact ih (w + 1) _ _ _ (by omega) (by omega) he
        · exact absurd rfl q100
      have rows : ∀ (k2 i : Nat) (ii : Int) (z : Option Vl), i + k2 = (fitL s).length → ii = (i : Int) → V κ MX12_tells (rmD d 0 0) (mdP G A (some (VI (tellsP s).2)) (tellsP s).1) noX 0 0 μ 0 0 (Wm (G1)) 37 [some (VR 145), some (VL s), none, some (VI w), some (VI (b2i (apart w (fitL s) i 0))), some (VI ii), z] [] := by
        intro k2
        induction k2 with
        | zero =>
          intro i ii z hik hii
          obtain rfl : i = (fitL s).length := by omega
          cases hap : apart w (fitL s) (fitL s).length 0 with
          | true =>
            have q := hyes (some (VI ii)) z hap
            refine V_ex sX12_tells_37 (by simp only [Option.toList, List.cons_append, List.nil_append, exN, ex1, gI, gL, gR, pI, pL, pR, lget, lset1, lset2, kl, b2I, b2L, nob, ob32, ob64, xGet, xPut, xLen, xLd, xLdR, xSt, obA, true_and, and_true, and_self, eq_self, Nat.reduceEqDiff, Nat.zero_ne_one, reduceIte, Nat.reduceLeDiff, and_false, false_and, show skd 11 42 = 0 from rfl, show LF.1 145 = some (.inl 11) from rfl, hlen, upd2_eq, Int.reduceToNat, Int.toNat_natCast]; rfl) (by first | exact trivial | exact Or.inr rfl | exact Or.inl rfl | (simp only [ob, obA, R32, R64] at *; omega) | (simp only [ob, obA, R32, R64] at *; and_intros <;> omega) | (simp [ob, obA])) ?_
            refine V_icmpge dX12_tells_43 (tgt := 98) (by decide) (by simp only [R32, R64] at *; omega) (fun q43 => ?_) (fun q43 => ?_)
            · exact q
            · omega
          | false =>
            have q := hno (some (VI ii)) z hap
            refine V_ex sX12_tells_37 (by simp only [Option.toList, List.cons_append, List.nil_append, exN, ex1, gI, gL, gR, pI, pL, pR, lget, lset1, lset2, kl, b2I, b2L, nob, ob32, ob64, xGet, xPut, xLen, xLd, xLdR, xSt, obA, true_and, and_true, and_self, eq_self, Nat.reduceEqDiff, Nat.zero_ne_one, reduceIte, Nat.reduceLeDiff, and_false, false_and, show skd 11 42 = 0 from rfl, show LF.1 145 = some (.inl 11) from rfl, hlen, upd2_eq, Int.reduceToNat, Int.toNat_natCast]; rfl) (by first | exact trivial | exact Or.inr rfl | exact Or.inl rfl | (simp only [ob, obA, R32, R64] at *; omega) | (simp only [ob, obA, R32, R64] at *; and_intros <;> omega) | (simp [ob, obA])) ?_
            refine V_icmpge dX12_tells_43 (tgt := 98) (by decide) (by simp only [R32, R64] at *; omega) (fun q43 => ?_) (fun q43 => ?_)
            · exact q
            · omega
        | succ k2 ihr =>
          intro i ii z hik hii
          subst hii
          have hi : i < (fitL s).length := by omega
          have hqi := hok _ (List.getElem_mem hi)
          have cols : ∀ (k3 j : Nat) (jj : Int), j + k3 = i → jj = (j : Int) → V κ MX12_tells (rmD d 0 0) (mdP G A (some (VI (tellsP s).2)) (tellsP s).1) noX 0 0 μ 0 0 (Wm (G1)) 49 [some (VR 145), some (VL s), none, some (VI w), some (VI (b2i (apart w (fitL s) i j))), some (VI (i : Nat)), some (VI jj)] [] := by
            intro k3
            induction k3 with
            | zero =>
              intro j jj hjk hjj
              obtain rfl : j = i := by omega
              have q := ihr (j + 1) ((j : Int) + 1) (some (VI jj)) (by omega) (by omega)
              rw [← apart_n] at q
              refine V_ex sX12_tells_49 (by rfl) (by first | exact trivial | exact Or.inr rfl | exact Or.inl rfl | (simp only [ob, obA, R32, R64] at *; omega) | (simp only [ob, obA, R32, R64] at *; and_intros <;> omega) | (simp [ob, obA])) ?_
              refine V_icmpge dX12_tells_53 (tgt := 92) (by decide) (by simp only [R32, R64] at *; omega) (fun q53 => ?_) (fun q53 => ?_)
              · refine V_ex sX12_tells_92 (by rfl) (by first | exact trivial | exact Or.inr rfl | exact Or.inl rfl | (simp only [ob, obA, R32, R64] at *; omega) | (simp only [ob, obA, R32, R64] at *; and_intros <;> omega) | (simp [ob, obA])) ?_
                refine V_goto dX12_tells_95 (tgt := 37) (by decide) ?_
                exact q
              · omega
            | succ k3 ihc =>
              intro j jj hjk hjj
              subst hjj
              have hj : j < (fitL s).length := by omega
              have hqj := hok _ (List.getElem_mem hj)
              have hsi := sayF_R (f := w) (q := (fitL s)[i]'hi) (by omega) hqi.1 hqi.2
              have hsj := sayF_R (f := w) (q := (fitL s)[j]'hj) (by omega) hqj.1 hqj.2
              have q := ihc (j + 1) ((j : Int) + 1) (by omega) (by omega)
              rw [apart_s, getD_e _ hi, getD_e _ hj] at q
              cases hap : apart w (fitL s) i j with
              | true =>
                rw [hap] at q
                refine V_ex sX12_tells_49 (by rfl) (by first | exact trivial | exact Or.inr rfl | exact Or.inl rfl | (simp only [ob, obA, R32, R64] at *; omega) | (simp only [ob, obA, R32, R64] at *; and_intros <;> omega) | (simp [ob, obA])) ?_
                refine V_icmpge dX12_tells_53 (tgt := 92) (by decide) (by simp only [R32, R64] at *; omega) (fun q53 => ?_) (fun q53 => ?_)
                · omega
                · refine V_ex sX12_tells_56 (by rfl) (by first | exact trivial | exact Or.inr rfl | exact Or.inl rfl | (simp only [ob, obA, R32, R64] at *; omega) | (simp only [ob, obA, R32, R64] at *; and_intros <;> omega) | (simp [ob, obA])) ?_
                  refine V_ifeq dX12_tells_58 (tgt := 83) (by decide) (by exact ⟨by decide, by decide⟩) (fun q58 => ?_) (fun q58 => ?_)
                  · exact absurd q58 (by decide)
                  · refine V_ex sX12_tells_61 (by rfl) (by first | exact trivial | exact Or.inr rfl | exact Or.inl rfl | (simp only [ob, obA, R32, R64] at *; omega) | (simp only [ob, obA, R32, R64] at *; and_intros <;> omega) | (simp [ob, obA])) ?_
                    refine V_callV (M := MX12_tells) (N := MX12_saying) dX12_tells_65 lRX12_467 kX12_saying rfl (rfl) rfl (c_msaying (d := 2) hκ a1 hi (by omega) hqi.1 hqi.2 (by omega)) rfl rfl (Nat.le_of_ble_eq_true rfl) (fit_rm (by omega)) (⟨Nat.le_of_ble_eq_true rfl, Nat.le_of_ble_eq_true rfl⟩) (fun v Ω' hp => ?_) (fun _ _ h => h.elim)
                    obtain ⟨rfl, rfl⟩ := hp
                    refine V_ex sX12_tells_68 (by rfl) (by first | exact trivial | exact Or.inr rfl | exact Or.inl rfl | (simp only [ob, obA, R32, R64] at *; omega) | (simp only [ob, obA, R32, R64] at *; and_intros <;> omega) | (simp [ob, obA])) ?_
                    refine V_callV (M := MX12_tells) (N := MX12_saying) dX12_tells_72 lRX12_467 kX12_saying rfl (rfl) rfl (c_msaying (d := 2) hκ a1 hj (by omega) hqj.1 hqj.2 (by omega)) rfl rfl (Nat.le_of_ble_eq_true rfl) (fit_rm (by omega)) (⟨Nat.le_of_ble_eq_true rfl, Nat.le_of_ble_eq_true rfl⟩) (fun v Ω' hp => ?_) (fun _ _ h => h.elim)
                    obtain ⟨rfl, rfl⟩ := hp
                    refine V_ex sX12_tells_75 (by rfl) (by exact ⟨hsi, hsj⟩) ?_
                    refine V_lifeq dX12_tells_76 (tgt := 83) (by decide) (fun q76 => ?_) (fun q76 => ?_)
                    · refine V_ex sX12_tells_83 (by rfl) (by first | exact trivial | exact Or.inr rfl | exact Or.inl rfl | (simp only [ob, obA, R32, R64] at *; omega) | (simp only [ob, obA, R32, R64] at *; and_intros <;> omega) | (simp [ob, obA])) ?_
                      refine V_ex sX12_tells_84 (by rfl) (by first | exact trivial | exact Or.inr rfl | exact Or.inl rfl | (simp only [ob, obA, R32, R64] at *; omega) | (simp only [ob, obA, R32, R64] at *; and_intros <;> omega) | (simp [ob, obA])) ?_
                      refine V_goto dX12_tells_89 (tgt := 49) (by decide) ?_
                      rw [decide_eq_false (not_not_intro q76)] at q; exact q
                    · refine V_ex sX12_tells_79 (by rfl) (by first | exact trivial | exact Or.inr rfl | exact Or.inl rfl | (simp only [ob, obA, R32, R64] at *; omega) | (simp only [ob, obA, R32, R64] at *; and_intros <;> omega) | (simp [ob, obA])) ?_
                      refine V_goto dX12_tells_80 (tgt := 84) (by decide) ?_
                      refine V_ex sX12_tells_84 (by rfl) (by first | exact trivial | exact Or.inr rfl | exact Or.inl rfl | (simp only [ob, obA, R32, R64] at *; omega) | (simp only [ob, obA, R32, R64] at *; and_intros <;> omega) | (simp [ob, obA])) ?_
                      refine V_goto dX12_tells_89 (tgt := 49) (by decide) ?_
                      rw [decide_eq_true q76] at q; exact q
              | false =>
                rw [hap] at q
                refine V_ex sX12_tells_49 (by rfl) (by first | exact trivial | exact Or.inr rfl | exact Or.inl rfl | (simp only [ob, obA, R32, R64] at *; omega) | (simp only [ob, obA, R32, R64] at *; and_intros <;> omega) | (simp [ob, obA])) ?_
                refine V_icmpge dX12_tells_53 (tgt := 92) (by decide) (by simp only [R32, R64] at *; omega) (fun q53 => ?_) (fun q53 => ?_)
                · omega
                · refine V_ex sX12_tells_56 (by rfl) (by first | exact trivial | exact Or.inr rfl | exact Or.inl rfl | (simp only [ob, obA, R32, R64] at *; omega) | (simp only [ob, obA, R32, R64] at *; and_intros <;> omega) | (simp [ob, obA])) ?_
                  refine V_ifeq dX12_tells_58 (tgt := 83) (by decide) (by exact ⟨by decide, by decide⟩) (fun q58 => ?_) (fun q58 => ?_)
                  · refine V_ex sX12_tells_83 (by rfl) (by first | exact trivial | exact Or.inr rfl | exact Or.inl rfl | (simp only [ob, obA, R32, R64] at *; omega) | (simp only [ob, obA, R32, R64] at *; and_intros <;> omega) | (simp [ob, obA])) ?_
                    refine V_ex sX12_tells_84 (by rfl) (by first | exact trivial | exact Or.inr rfl | exact Or.inl rfl | (simp only [ob, obA, R32, R64] at *; omega) | (simp only [ob, obA, R32, R64] at *; and_intros <;> omega) | (simp [ob, obA])) ?_
                    refine V_goto dX12_tells_89 (tgt := 49) (by decide) ?_
                    exact q
                  · exact absurd rfl q58
          have q := cols i 0 0 (by omega) rfl
          refine V_ex sX12_tells_37 (by simp only [Option.toList, List.cons_append, List.nil_append, exN, ex1, gI, gL, gR, pI, pL, pR, lget, lset1, lset2, kl, b2I, b2L, nob, ob32, ob64, xGet, xPut, xLen, xLd, xLdR, xSt, obA, true_and, and_true, and_self, eq_self, Nat.reduceEqDiff, Nat.zero_ne_one, reduceIte, Nat.reduceLeDiff, and_false, false_and, show skd 11 42 = 0 from rfl, show LF.1 145 = some (.inl 11) from rfl, hlen, upd2_eq, Int.reduceToNat, Int.toNat_natCast]; rfl) (by first | exact trivial | exact Or.inr rfl | exact Or.inl rfl | (simp only [ob, obA, R32, R64] at *; omega) | (simp only [ob, obA, R32, R64] at *; and_intros <;> omega) | (simp [ob, obA])) ?_
          refine V_icmpge dX12_tells_43 (tgt := 98) (by decide) (by simp only [R32, R64] at *; omega) (fun q43 => ?_) (fun q43 => ?_)
          · omega
          · refine V_ex sX12_tells_46 (by rfl) (by first | exact trivial | exact Or.inr rfl | exact Or.inl rfl | (simp only [ob, obA, R32, R64] at *; omega) | (simp only [ob, obA, R32, R64] at *; and_intros <;> omega) | (simp [ob, obA])) ?_
            exact q
      have q := rows (fitL s).length 0 0 z (by omega) rfl
      refine V_ex sX12_tells_25 (by rfl) (by first | exact trivial | exact Or.inr rfl | exact Or.inl rfl | (simp only [ob, obA, R32, R64] at *; omega) | (simp only [ob, obA, R32, R64] at *; and_intros <;> omega) | (simp [ob, obA])) ?_
      refine V_icmpge dX12_tells_28 (tgt := 111) (by decide) (by simp only [R32, R64] at *; omega) (fun q28 => ?_) (fun q28 => ?_)
      · omega
      · refine V_ex sX12_tells_31 (by rfl) (by first | exact trivial | exact Or.inr rfl | exact Or.inl rfl | (simp only [ob, obA, R32, R64] at *; omega) | (simp only [ob, obA, R32, R64] at *; and_intros <;> omega) | (simp [ob, obA])) ?_
        exact q
  have f0 : FM [2, 42] [] [168, 169] G (uI G 145 2 0) := (FM.refl _ _ _ _).s (by decide)
  refine V_ex sX12_tells_0 (by simp only [Option.toList, List.cons_append, List.nil_append, exN, ex1, gI, gL, gR, pI, pL, pR, lget, lset1, lset2, kl, b2I, b2L, nob, ob32, ob64, xGet, xPut, xLen, xLd, xLdR, xSt, obA, true_and, and_true, and_self, eq_self, Nat.reduceEqDiff, Nat.zero_ne_one, reduceIte, Nat.reduceLeDiff, and_false, false_and, show skd 11 2 = 0 from rfl, show LF.1 145 = some (.inl 11) from rfl, upd2_eq, Int.reduceToNat, Int.toNat_natCast]; rfl) (by first | exact trivial | exact Or.inr rfl | exact Or.inl rfl | (simp only [ob, obA, R32, R64] at *; omega) | (simp only [ob, obA, R32, R64] at *; and_intros <;> omega) | (simp [ob, obA])) ?_
  refine V_callS (M := MX12_tells) (N := MX12_isSum) dX12_tells_6 lRX12_452 kX12_isSum rfl (c_misSum (d := 2) hκ hs (by omega)) rfl rfl (Nat.le_of_ble_eq_true rfl) (fit_rm (by omega)) (⟨Nat.le_of_ble_eq_true rfl, Nat.le_of_ble_eq_true rfl⟩) (fun v Ω' hp => ?_) (fun _ _ h => h.elim)
  obtain ⟨rfl, rfl⟩ := hp
  refine V_ifneB dX12_tells_9 (tgt := 18) (by decide) (fun q9 => ?_) (fun q9 => ?_)
  · have hsum := of_decide_eq_true q9
    refine V_ex sX12_tells_18 (by rfl) (by first | exact trivial | exact Or.inr rfl | exact Or.inl rfl | (simp only [ob, obA, R32, R64] at *; omega) | (simp only [ob, obA, R32, R64] at *; and_intros <;> omega) | (simp [ob, obA])) ?_
    refine V_callV (M := MX12_tells) (N := MX12_tellFits) dX12_tells_20 lRX12_456 kX12_tellFits rfl (rfl) rfl (c_mtellFits (d := 2) hκ hsum (by omega)) rfl rfl (Nat.le_of_ble_eq_true rfl) (fit_rm (by omega)) (⟨Nat.le_of_ble_eq_true rfl, Nat.le_of_ble_eq_true rfl⟩) (fun v Ω' hp => ?_) (fun _ _ h => h.elim)
    obtain ⟨rfl, G1, rfl, f1, hm, a1⟩ := hp
    have g1 := f0.trans (f1.mono (by decide) (by decide) (by decide))
    have c0 : G1.1 145 2 = 0 := by rw [f1.i5 (by decide) (by decide)]; simp [upd2_eq]
    refine V_ex sX12_tells_23 (by rfl) (by first | exact trivial | exact Or.inr rfl | exact Or.inl rfl | (simp only [ob, obA, R32, R64] at *; omega) | (simp only [ob, obA, R32, R64] at *; and_intros <;> omega) | (simp [ob, obA])) ?_
    exact loop G1 (g1.mono (by simp) (by simp) (by simp)) c0 a1 hsum (fitL_ok hm hsum) 12 0 _ _ _ (by omega) (by omega) rfl
  · refine V_ex sX12_tells_12 (by rfl) (by first | exact trivial | exact Or.inr rfl | exact Or.inl rfl | (simp only [ob, obA, R32, R64] at *; omega) | (simp only [ob, obA, R32, R64] at *; and_intros <;> omega) | (simp [ob, obA])) ?_
    refine V_callV (M := MX12_tells) (N := MX12_fail) dX12_tells_14 lRX12_324 kX12_fail rfl (rfl) rfl (c_mfail (d := 2) hκ) rfl rfl (Nat.le_of_ble_eq_true rfl) (fit_rm (by omega)) (⟨Nat.le_of_ble_eq_true rfl, Nat.le_of_ble_eq_true rfl⟩) (fun v Ω' hp => ?_) (fun _ _ h => h.elim)
    obtain ⟨rfl, rfl⟩ := hp
    refine V_iret dX12_tells_17 rfl (by decide) (by have e : tellsP s = (1, 0) := (by rw [tellsP, if_pos (of_decide_eq_false q9)]); exact md_1 hC (by rw [e]) (by rw [e]))
