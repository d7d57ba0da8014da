/-! TornLeavesModel: ways, way -/
theorem wyN_zero (f : Nat) : ∀ (j : Nat) (s : Int), wyN f j 0 s = if s = 0 then 1 else 0 := by
  intro j
  induction j with
  | zero => intro s; simp [wyN]
  | succ j ih => intro s; rw [wyN, ih]
theorem wyN_first (f : Nat) : ∀ (j m : Nat) (s : Int), wyN f (j + 1) (m + 1) s = wyN (f + 1) j (m + 1) s + wyN (f + 1) j m (s - (f : Int)) := by
  intro j
  induction j with
  | zero => intro m s; simp [wyN]
  | succ j ih =>
    intro m s
    rw [wyN, ih]
    conv => rhs; rw [wyN]
    have e1 : s - (((f + 1 : Nat) : Int) + (j : Int)) = s - ((f : Int) + ((j + 1 : Nat) : Int)) := by omega
    rw [e1]
    cases m with
    | zero => simp only [wyN_zero]; omega
    | succ m =>
      rw [ih]
      conv => rhs; rw [show wyN (f + 1) (j + 1) (m + 1) (s - (f : Int)) = wyN (f + 1) j (m + 1) (s - (f : Int)) + wyN (f + 1) j m (s - (f : Int) - (((f + 1 : Nat) : Int) + (j : Int))) by rw [wyN]]
      have e2 : s - (f : Int) - (((f + 1 : Nat) : Int) + (j : Int)) = s - ((f : Int) + ((j + 1 : Nat) : Int)) - (f : Int) := by omega
      rw [e2]; omega
def waysV (s k n : Int) : Int := if n < k ∨ leafTot s k n = -1 then 0 else if n < 2 * k then wyS 0 n (n - k) (n * (n - 1) / 2 - leafTot s k n) else wyS 0 n k (leafTot s k n)
def waysP (s k n : Int) : Int × Int := if ¬ ((1 ≤ s ∧ s ≤ 1000000000000000000) ∧ (1 ≤ k ∧ k ≤ 60) ∧ 1 ≤ n ∧ n ≤ 60) then (1, 0) else (0, waysV s k n)
set_option maxRecDepth 100000 in
set_option maxHeartbeats 4000000 in
theorem c_mways {κ : Kx} (hκ : KOK κ) {d : Nat} {s k n : Int} {G : Wd} (hs : R64 s) (hk : R32 k) (hn : R32 n) (hd : 3 ≤ d) : Ct κ MX12_ways d 0 0 [VR 145, VL s, VI k, VI n] (Wm G) (mpL G [2] [] [170] (waysP s k n)) noX := by
  refine Ct_of hκ kX12_ways.1 rfl (Nat.le_of_ble_eq_true rfl) (ls := [some (VR 145), some (VL s), none, some (VI k), some (VI n), none, none]) rfl (fun μ => ?_)
  have f0 : FM [2] [] [170] G (uI G 145 2 0) := (FM.refl _ _ _ _).s (by decide)
  have no : ¬ ((1 ≤ s ∧ s ≤ 1000000000000000000) ∧ (1 ≤ k ∧ k ≤ 60) ∧ 1 ≤ n ∧ n ≤ 60) → V κ MX12_ways (rmD d 0 0) (mpL G [2] [] [170] (waysP s k n)) noX 0 0 μ 0 0 (Wm (uI G 145 2 0)) 37 [some (VR 145), some (VL s), none, some (VI k), some (VI n), none, none] [] := fun h => by
    refine V_ex sX12_ways_37 (by rfl) (by first | exact trivial | exact Or.inr rfl | exact Or.inl rfl | (simp only [ob, obA, R32, R64] at *; omega) | (simp only [ob, obA, R32, R64] at *; and_intros <;> omega)) ?_
    refine V_callV (M := MX12_ways) (N := MX12_fail) dX12_ways_39 lRX12_324 kX12_fail rfl (rfl) rfl (c_mfail (d := 2) hκ) rfl rfl (Nat.le_of_ble_eq_true rfl) (fit_rm (by omega)) (⟨Nat.le_of_ble_eq_true rfl, Nat.le_of_ble_eq_true rfl⟩) (fun v Ω' hp => ?_) (fun _ _ h => h.elim)
    obtain ⟨rfl, rfl⟩ := hp
    refine V_ex sX12_ways_42 (by rfl) (by first | exact trivial | exact Or.inr rfl | exact Or.inl rfl | (simp only [ob, obA, R32, R64] at *; omega) | (simp only [ob, obA, R32, R64] at *; and_intros <;> omega)) ?_
    refine V_lret dX12_ways_43 rfl (by decide) ⟨by rw [waysP, if_pos h], _, rfl, f0.s (by decide), by rw [waysP, if_pos h]; simp [upd2_eq]⟩
  by_cases hg : (1 ≤ s ∧ s ≤ 1000000000000000000) ∧ (1 ≤ k ∧ k ≤ 60) ∧ 1 ≤ n ∧ n ≤ 60
  · have hnn := mul_bd (A := 60) (B := 121) (show 0 ≤ n by omega) (by omega) (show 0 ≤ 2 * n + 1 by omega) (by omega)
    have hn1 := mul_bd (A := 60) (B := 60) (show 0 ≤ n by omega) (by omega) (show 0 ≤ n - 1 by omega) (by omega)
    have hT : R64 (n * (2 * n + 1) - s - 3 * k) := by unfold R64; omega
    have hTR := leafTot_R hT
    have hT2 : -1 ≤ leafTot s k n ∧ leafTot s k n ≤ 100000 := by unfold leafTot; split <;> omega
    have k64 : R64 k := by unfold R64; omega
    have n64 : R64 n := by unfold R64; omega
    have hP : waysP s k n = (0, waysV s k n) := by rw [waysP, if_neg (not_not_intro hg)]
    have zero : ∀ (x : Option Vl), (n < k ∨ leafTot s k n = -1) → V κ MX12_ways (rmD d 0 0) (mpL G [2] [] [170] (waysP s k n)) noX 0 0 μ 0 0 (Wm (uI G 145 2 0)) 70 [some (VR 145), some (VL s), none, some (VI k), some (VI n), some (VL (leafTot s k n)), none] [] := fun x h => by
      refine V_ex sX12_ways_70 (by rfl) (by first | exact trivial | exact Or.inr rfl | exact Or.inl rfl | (simp only [ob, obA, R32, R64] at *; omega) | (simp only [ob, obA, R32, R64] at *; and_intros <;> omega)) ?_
      refine V_lret dX12_ways_71 rfl (by decide) ⟨by rw [hP, waysV, if_pos h], _, rfl, f0, by rw [hP]; simp [upd2_eq]⟩
    refine V_ex sX12_ways_0 (by simp only [Option.toList, List.cons_append, List.nil_append, exN, ex1, gI, gL, gR, pI, pL, pR, lget, lset1, lset2, kl, b2I, b2L, nob, ob32, ob64, xGet, xPut, xLen, xLd, xLdR, xSt, obA, true_and, and_true, and_self, eq_self, Nat.reduceEqDiff, Nat.zero_ne_one, reduceIte, Nat.reduceLeDiff, and_false, false_and, show skd 11 2 = 0 from rfl, show LF.1 145 = some (.inl 11) from rfl, upd2_eq, Int.reduceToNat, Int.toNat_natCast]; rfl) (by first | exact trivial | exact Or.inr rfl | exact Or.inl rfl | (simp only [ob, obA, R32, R64] at *; omega) | (simp only [ob, obA, R32, R64] at *; and_intros <;> omega)) ?_
    refine V_callS (M := MX12_ways) (N := MX12_isSum) dX12_ways_6 lRX12_452 kX12_isSum rfl (c_misSum (d := 2) hκ hs (by omega)) rfl rfl (Nat.le_of_ble_eq_true rfl) (fit_rm (by omega)) (⟨Nat.le_of_ble_eq_true rfl, Nat.le_of_ble_eq_true rfl⟩) (fun v Ω' hp => ?_) (fun _ _ h => h.elim)
    obtain ⟨rfl, rfl⟩ := hp
    refine V_ifeqB dX12_ways_9 (tgt := 37) (by decide) (fun q9 => ?_) (fun q9 => ?_)
    · have := of_decide_eq_false q9
      omega
    · refine V_ex sX12_ways_12 (by rfl) (by first | exact trivial | exact Or.inr rfl | exact Or.inl rfl | (simp only [ob, obA, R32, R64] at *; omega) | (simp only [ob, obA, R32, R64] at *; and_intros <;> omega)) ?_
      refine V_callS (M := MX12_ways) (N := MX12_isIn) dX12_ways_18 lRX12_178 kX12_isIn rfl (c_misIn (d := 2) hκ k64 (by unfold R64; omega) (by unfold R64; omega)) rfl rfl (Nat.le_of_ble_eq_true rfl) (fit_rm (by omega)) (⟨Nat.le_of_ble_eq_true rfl, Nat.le_of_ble_eq_true rfl⟩) (fun v Ω' hp => ?_) (fun _ _ h => h.elim)
      obtain ⟨rfl, rfl⟩ := hp
      refine V_ifeqB dX12_ways_21 (tgt := 37) (by decide) (fun q21 => ?_) (fun q21 => ?_)
      · have := of_decide_eq_false q21
        omega
      · refine V_ex sX12_ways_24 (by rfl) (by first | exact trivial | exact Or.inr rfl | exact Or.inl rfl | (simp only [ob, obA, R32, R64] at *; omega) | (simp only [ob, obA, R32, R64] at *; and_intros <;> omega)) ?_
        refine V_callS (M := MX12_ways) (N := MX12_isIn) dX12_ways_31 lRX12_178 kX12_isIn rfl (c_misIn (d := 2) hκ n64 (by unfold R64; omega) (by unfold R64; omega)) rfl rfl (Nat.le_of_ble_eq_true rfl) (fit_rm (by omega)) (⟨Nat.le_of_ble_eq_true rfl, Nat.le_of_ble_eq_true rfl⟩) (fun v Ω' hp => ?_) (fun _ _ h => h.elim)
        obtain ⟨rfl, rfl⟩ := hp
        refine V_ifneB dX12_ways_34 (tgt := 44) (by decide) (fun q34 => ?_) (fun q34 => ?_)
        · refine V_ex sX12_ways_44 (by rfl) (by first | exact trivial | exact Or.inr rfl | exact Or.inl rfl | (simp only [ob, obA, R32, R64] at *; omega) | (simp only [ob, obA, R32, R64] at *; and_intros <;> omega)) ?_
          refine V_callS (M := MX12_ways) (N := MX12_outBy) dX12_ways_50 lRX12_475 kX12_outBy rfl (c_moutBy (d := 2) hκ hT) rfl rfl (Nat.le_of_ble_eq_true rfl) (fit_rm (by omega)) (⟨Nat.le_of_ble_eq_true rfl, Nat.le_of_ble_eq_true rfl⟩) (fun v Ω' hp => ?_) (fun _ _ h => h.elim)
          obtain ⟨rfl, rfl⟩ := hp
          refine V_ex sX12_ways_53 (by rfl) (by first | exact trivial | exact Or.inr rfl | exact Or.inl rfl | (simp only [ob, obA, R32, R64] at *; omega) | (simp only [ob, obA, R32, R64] at *; and_intros <;> omega)) ?_
          refine V_icmpgt dX12_ways_58 (tgt := 70) (by decide) (by simp only [R32, R64] at *; omega) (fun q58 => ?_) (fun q58 => ?_)
          · exact zero none (Or.inl q58)
          · refine V_ex sX12_ways_61 (by rfl) (by exact ⟨hTR, by unfold R64; omega⟩) ?_
            refine V_lifne dX12_ways_67 (tgt := 72) (by decide) (fun q67 => ?_) (fun q67 => ?_)
            · refine V_ex sX12_ways_72 (by rfl) (by first | exact trivial | exact Or.inr rfl | exact Or.inl rfl | (simp only [ob, obA, R32, R64] at *; omega) | (simp only [ob, obA, R32, R64] at *; and_intros <;> omega)) ?_
              refine V_icmple dX12_ways_77 (tgt := 110) (by decide) (by simp only [R32, R64] at *; omega) (fun q77 => ?_) (fun q77 => ?_)
              · refine V_ex sX12_ways_110 (by rfl) (by first | exact trivial | exact Or.inr rfl | exact Or.inl rfl | (simp only [ob, obA, R32, R64] at *; omega) | (simp only [ob, obA, R32, R64] at *; and_intros <;> omega)) ?_
                refine V_callV (M := MX12_ways) (N := MX12_waysBy) dX12_ways_117 lRX12_484 kX12_waysBy rfl (rfl) rfl (c_mwaysBy (d := 2) hκ (f := 0) (by omega) (by omega) (by omega) hTR) rfl rfl (Nat.le_of_ble_eq_true rfl) (fit_rm (by omega)) (⟨Nat.le_of_ble_eq_true rfl, Nat.le_of_ble_eq_true rfl⟩) (fun v Ω' hp => ?_) (fun _ _ h => h.elim)
                obtain ⟨rfl, G1, rfl, f1⟩ := hp
                have g1 := f0.trans (f1.mono (by decide) (by decide) (by decide))
                have c0 : G1.1 145 2 = 0 := by rw [f1.i5 (by decide) (by decide)]; simp [upd2_eq]
                refine V_lret dX12_ways_120 rfl (by decide) ⟨by rw [hP, waysV, if_neg (by omega), if_neg (by omega)], _, rfl, g1, by rw [hP, c0]⟩
              · refine V_ex sX12_ways_80 (by rfl) (by exact ⟨hn, hn, by unfold R64; omega, by unfold R64; omega, by decide⟩) ?_
                rw [td_nn hn1.1]
                refine V_callV (M := MX12_ways) (N := MX12_waysBy) dX12_ways_104 lRX12_484 kX12_waysBy rfl (rfl) rfl (c_mwaysBy (d := 2) hκ (f := 0) (by omega) (by omega) (by omega) (by unfold R64; omega)) rfl rfl (Nat.le_of_ble_eq_true rfl) (fit_rm (by omega)) (⟨Nat.le_of_ble_eq_true rfl, Nat.le_of_ble_eq_true rfl⟩) (fun v Ω' hp => ?_) (fun _ _ h => h.elim)
                obtain ⟨rfl, G1, rfl, f1⟩ := hp
                have g1 := f0.trans (f1.mono (by decide) (by decide) (by decide))
                have c0 : G1.1 145 2 = 0 := by rw [f1.i5 (by decide) (by decide)]; simp [upd2_eq]
                refine V_goto dX12_ways_107 (tgt := 120) (by decide) ?_
                refine V_lret dX12_ways_120 rfl (by decide) ⟨by rw [hP, waysV, if_neg (by omega), if_pos (by omega)], _, rfl, g1, by rw [hP, c0]⟩
            · exact zero none (Or.inr q67)
        · have := of_decide_eq_false q34
          omega
  · refine V_ex sX12_ways_0 (by simp only [Option.toList, List.cons_append, List.nil_append, exN, ex1, gI, gL, gR, pI, pL, pR, lget, lset1, lset2, kl, b2I, b2L, nob, ob32, ob64, xGet, xPut, xLen, xLd, xLdR, xSt, obA, true_and, and_true, and_self, eq_self, Nat.reduceEqDiff, Nat.zero_ne_one, reduceIte, Nat.reduceLeDiff, and_false, false_and, show skd 11 2 = 0 from rfl, show LF.1 145 = some (.inl 11) from rfl, upd2_eq, Int.reduceToNat, Int.toNat_natCast]; rfl) (by first | exact trivial | exact Or.inr rfl | exact Or.inl rfl | (simp only [ob, obA, R32, R64] at *; omega) | (simp only [ob, obA, R32, R64] at *; and_intros <;> omega)) ?_
    refine V_callS (M := MX12_ways) (N := MX12_isSum) dX12_ways_6 lRX12_452 kX12_isSum rfl (c_misSum (d := 2) hκ hs (by omega)) rfl rfl (Nat.le_of_ble_eq_true rfl) (fit_rm (by omega)) (⟨Nat.le_of_ble_eq_true rfl, Nat.le_of_ble_eq_true rfl⟩) (fun v Ω' hp => ?_) (fun _ _ h => h.elim)
    obtain ⟨rfl, rfl⟩ := hp
    refine V_ifeqB dX12_ways_9 (tgt := 37) (by decide) (fun q9 => ?_) (fun q9 => ?_)
    · have h1 := of_decide_eq_false q9
      exact no hg
    · have h1 := of_decide_eq_true q9
      refine V_ex sX12_ways_12 (by rfl) (by first | exact trivial | exact Or.inr rfl | exact Or.inl rfl | (simp only [ob, obA, R32, R64] at *; omega) | (simp only [ob, obA, R32, R64] at *; and_intros <;> omega)) ?_
      refine V_callS (M := MX12_ways) (N := MX12_isIn) dX12_ways_18 lRX12_178 kX12_isIn rfl (c_misIn (d := 2) hκ (by simp only [R32, R64] at *; omega) (by unfold R64; omega) (by unfold R64; omega)) rfl rfl (Nat.le_of_ble_eq_true rfl) (fit_rm (by omega)) (⟨Nat.le_of_ble_eq_true rfl, Nat.le_of_ble_eq_true rfl⟩) (fun v Ω' hp => ?_) (fun _ _ h => h.elim)
      obtain ⟨rfl, rfl⟩ := hp
      refine V_ifeqB dX12_ways_21 (tgt := 37) (by decide) (fun q21 => ?_) (fun q21 => ?_)
      · have h2 := of_decide_eq_false q21
        exact no hg
      · have h2 := of_decide_eq_true q21
        refine V_ex sX12_ways_24 (by rfl) (by first | exact trivial | exact Or.inr rfl | exact Or.inl rfl | (simp only [ob, obA, R32, R64] at *; omega) | (simp only [ob, obA, R32, R64] at *; and_intros <;> omega)) ?_
        refine V_callS (M := MX12_ways) (N := MX12_isIn) dX12_ways_31 lRX12_178 kX12_isIn rfl (c_misIn (d := 2) hκ (by simp only [R32, R64] at *; omega) (by unfold R64; omega) (by unfold R64; omega)) rfl rfl (Nat.le_of_ble_eq_true rfl) (fit_rm (by omega)) (⟨Nat.le_of_ble_eq_true rfl, Nat.le_of_ble_eq_true rfl⟩) (fun v Ω' hp => ?_) (fun _ _ h => h.elim)
        obtain ⟨rfl, rfl⟩ := hp
        refine V_ifneB dX12_ways_34 (tgt := 44) (by decide) (fun q34 => ?_) (fun q34 => ?_)
        · have h3 := of_decide_eq_true q34
          exact absurd ⟨h1, h2, h3⟩ hg
        · exact no hg
def wayF : Nat → Nat → Nat → Int → Int → Int → Int
  | 0, _, _, _, _, b => b
  | _ + 1, _, 0, _, _, b => b
  | j + 1, f, m + 1, s, r, b => if r < wyN (f + 1) j m (s - (f : Int)) then wayF j (f + 1) m (s - (f : Int)) r (lOr b (lShl 1 (f : Nat))) else wayF j (f + 1) (m + 1) s (r - wyN (f + 1) j m (s - (f : Int))) b
theorem wayF_0 (j f : Nat) (s r b : Int) : wayF j f 0 s r b = b := by cases j <;> rfl
def wayP (s k n i : Int) : Int × Int := if ¬ ((1 ≤ s ∧ s ≤ 1000000000000000000) ∧ (1 ≤ k ∧ k ≤ 60) ∧ 1 ≤ n ∧ n ≤ 30) then (2, 0) else if (n < k ∨ leafTot s k n = -1) ∨ i < 0 ∨ wyS 0 n k (leafTot s k n) ≤ i then (1, 0) else (0, wayF n.toNat 0 k.toNat (leafTot s k n) i 0)
set_option maxRecDepth 100000 in
set_option maxHeartbeats 4000000 in
theorem c_mway {κ : Kx} (hκ : KOK κ) {d : Nat} {s k n i : Int} {G : Wd} (hs : R64 s) (hk : R32 k) (hn : R32 n) (hi : R64 i) (hd : 3 ≤ d) : Ct κ MX12_way d 0 0 [VR 145, VL s, VI k, VI n, VL i] (Wm G) (mpL G [2] [] [170] (wayP s k n i)) noX := by
  refine Ct_of hκ kX12_way.1 rfl (Nat.le_of_ble_eq_true rfl) (ls := [some (VR 145), some (VL s), none, some (VI k), some (VI n), some (VL i), none, none, none, none, none, none, none, none, none, none, none]) rfl (fun μ => ?_)
  have f0 : FM [2] [] [170] G (uI G 145 2 0) := (FM.refl _ _ _ _).s (by decide)
  have no : ¬ ((1 ≤ s ∧ s ≤ 1000000000000000000) ∧ (1 ≤ k ∧ k ≤ 60) ∧ 1 ≤ n ∧ n ≤ 30) → V κ MX12_way (rmD d 0 0) (mpL G [2] [] [170] (wayP s k n i)) noX 0 0 μ 0 0 (Wm (uI G 145 2 0)) 37 [some (VR 145), some (VL s), none, some (VI k), some (VI n), some (VL i), none, none, none, none, none, none, none, none, none, none, none] [] := fun h => by
    refine V_ex sX12_way_37 (by rfl) (by first | exact trivial | exact Or.inr rfl | exact Or.inl rfl | (simp only [ob, obA, R32, R64] at *; omega) | (simp only [ob, obA, R32, R64] at *; and_intros <;> omega)) ?_
    refine V_callV (M := MX12_way) (N := MX12_fail) dX12_way_39 lRX12_324 kX12_fail rfl (rfl) rfl (c_mfail (d := 2) hκ) rfl rfl (Nat.le_of_ble_eq_true rfl) (fit_rm (by omega)) (⟨Nat.le_of_ble_eq_true rfl, Nat.le_of_ble_eq_true rfl⟩) (fun v Ω' hp => ?_) (fun _ _ h => h.elim)
    obtain ⟨rfl, rfl⟩ := hp
    refine V_ex sX12_way_42 (by rfl) (by first | exact trivial | exact Or.inr rfl | exact Or.inl rfl | (simp only [ob, obA, R32, R64] at *; omega) | (simp only [ob, obA, R32, R64] at *; and_intros <;> omega)) ?_
    refine V_lret dX12_way_43 rfl (by decide) ⟨by rw [wayP, if_pos h], _, rfl, f0.s (by decide), by rw [wayP, if_pos h]; simp [upd2_eq]⟩
  by_cases hg : (1 ≤ s ∧ s ≤ 1000000000000000000) ∧ (1 ≤ k ∧ k ≤ 60) ∧ 1 ≤ n ∧ n ≤ 30
  · have hnn := mul_bd (A := 30) (B := 61) (show 0 ≤ n by omega) (by omega) (show 0 ≤ 2 * n + 1 by omega) (by omega)
    have hT : R64 (n * (2 * n + 1) - s - 3 * k) := by unfold R64; omega
    have hTR := leafTot_R hT
    have hT2 : -1 ≤ leafTot s k n ∧ leafTot s k n ≤ 100000 := by unfold leafTot; split <;> omega
    have k64 : R64 k := by unfold R64; omega
    have n64 : R64 n := by unfold R64; omega
    have bad : ∀ (G1 : Wd), FM [2] [] [170] G G1 → ((n < k ∨ leafTot s k n = -1) ∨ i < 0 ∨ wyS 0 n k (leafTot s k n) ≤ i) → V κ MX12_way (rmD d 0 0) (mpL G [2] [] [170] (wayP s k n i)) noX 0 0 μ 0 0 (Wm G1) 93 [some (VR 145), some (VL s), none, some (VI k), some (VI n), some (VL i), none, some (VL (leafTot s k n)), none, none, none, none, none, none, none, none, none] [] := fun G1 g1 h => by
      refine V_ex sX12_way_93 (by rfl) (by first | exact trivial | exact Or.inr rfl | exact Or.inl rfl | (simp only [ob, obA, R32, R64] at *; omega) | (simp only [ob, obA, R32, R64] at *; and_intros <;> omega)) ?_
      refine V_callV (M := MX12_way) (N := MX12_fail) dX12_way_95 lRX12_324 kX12_fail rfl (rfl) rfl (c_mfail (d := 2) hκ) rfl rfl (Nat.le_of_ble_eq_true rfl) (fit_rm (by omega)) (⟨Nat.le_of_ble_eq_true rfl, Nat.le_of_ble_eq_true rfl⟩) (fun v Ω' hp => ?_) (fun _ _ h => h.elim)
      obtain ⟨rfl, rfl⟩ := hp
      refine V_ex sX12_way_98 (by rfl) (by first | exact trivial | exact Or.inr rfl | exact Or.inl rfl | (simp only [ob, obA, R32, R64] at *; omega) | (simp only [ob, obA, R32, R64] at *; and_intros <;> omega)) ?_
      refine V_lret dX12_way_99 rfl (by decide) ⟨by rw [wayP, if_neg (not_not_intro hg), if_pos h], _, rfl, g1.s (by decide), by rw [wayP, if_neg (not_not_intro hg), if_pos h]; simp [upd2_eq]⟩
    have hwS : wyS 0 n k (leafTot s k n) = if leafTot s k n < 0 ∨ 1799 < leafTot s k n then 0 else wyN 0 n.toNat k.toNat (leafTot s k n) := by
      rw [wyS, show (n - ((0 : Nat) : Int)).toNat = n.toNat by omega]
      by_cases c : leafTot s k n < 0 ∨ 1799 < leafTot s k n
      · rw [if_pos (by omega), if_pos c]
      · rw [if_neg (by omega), if_neg c]
    have loop : ¬ ((n < k ∨ leafTot s k n = -1) ∨ i < 0 ∨ wyS 0 n k (leafTot s k n) ≤ i) → ∀ (j f m : Nat) (out r b : Int) (G1 : Wd) (x : Option Vl), j + f = n.toNat → 0 ≤ r → r < wyN f j m out → out ≤ 1799 → -1 - 30 * (f : Int) ≤ out → (m : Int) ≤ 30 → wayF j f m out r b = wayF n.toNat 0 k.toNat (leafTot s k n) i 0 → FM [2] [] [170] G G1 → G1.1 145 2 = 0 → V κ MX12_way (rmD d 0 0) (mpL G [2] [] [170] (wayP s k n i)) noX 0 0 μ 0 0 (Wm G1) 113 [some (VR 145), some (VL s), none, some (VI k), some (VI n), some (VL i), none, some (VL out), none, some (VL b), none, some (VL r), none, some (VI (m : Nat)), some (VI (f : Nat)), x, none] [] := by
      intro hok j
      have fin : ∀ (j f : Nat) (out r b : Int) (G1 : Wd) (x : Option Vl), wayF j f 0 out r b = wayF n.toNat 0 k.toNat (leafTot s k n) i 0 → FM [2] [] [170] G G1 → G1.1 145 2 = 0 → V κ MX12_way (rmD d 0 0) (mpL G [2] [] [170] (wayP s k n i)) noX 0 0 μ 0 0 (Wm G1) 113 [some (VR 145), some (VL s), none, some (VI k), some (VI n), some (VL i), none, some (VL out), none, some (VL b), none, some (VL r), none, some (VI (0 : Nat)), some (VI (f : Nat)), x, none] [] := fun j f out r b G1 x hF g1 c0 => by
        rw [wayF_0] at hF
        refine V_ex sX12_way_113 (by rfl) (by first | exact trivial | exact Or.inr rfl | exact Or.inl rfl | (simp only [ob, obA, R32, R64] at *; omega) | (simp only [ob, obA, R32, R64] at *; and_intros <;> omega)) ?_
        refine V_ifle dX12_way_115 (tgt := 184) (by decide) (by simp only [R32, R64] at *; omega) (fun q115 => ?_) (fun q115 => ?_)
        · refine V_ex sX12_way_184 (by rfl) (by first | exact trivial | exact Or.inr rfl | exact Or.inl rfl | (simp only [ob, obA, R32, R64] at *; omega) | (simp only [ob, obA, R32, R64] at *; and_intros <;> omega)) ?_
          refine V_lret dX12_way_186 rfl (by decide) ⟨by rw [wayP, if_neg (not_not_intro hg), if_neg hok, hF], _, rfl, g1, by rw [wayP, if_neg (not_not_intro hg), if_neg hok, c0]⟩
        · omega
      induction j with
      | zero =>
        intro f m out r b G1 x hjf hr0 hr ho ho2 hm hF g1 c0
        cases m with
        | zero => exact fin 0 f out r b G1 x hF g1 c0
        | succ m => rw [wyN, if_neg (by omega)] at hr; omega
      | succ j ih =>
        intro f m out r b G1 x hjf hr0 hr ho ho2 hm hF g1 c0
        cases m with
        | zero => exact fin (j + 1) f out r b G1 x hF g1 c0
        | succ m =>
          have hRr := wyN_R f (j + 1) (m + 1) out
          have h2j : (2 : Int) ^ (j + 1) ≤ 2 ^ 30 := by
            have h1 : (2 : Nat) ^ (j + 1) ≤ 2 ^ 30 := Nat.pow_le_pow_right (by decide) (by omega)
            have h3 : ((2 ^ (j + 1) : Nat) : Int) = (2 : Int) ^ (j + 1) := by simp
            omega
          have hRb := wyN_R (f + 1) j m (out - (f : Int))
          have hRc := wyN_R (f + 1) j (m + 1) out
          have h2j2 : (2 : Int) ^ j ≤ 2 ^ 30 := by
            have h1 : (2 : Nat) ^ j ≤ 2 ^ 30 := Nat.pow_le_pow_right (by decide) (by omega)
            have h3 : ((2 ^ j : Nat) : Int) = (2 : Int) ^ j := by simp
            omega
          have hby : wyS (f + 1) n (((m + 1 : Nat) : Int) - 1) (out - (f : Int)) = wyN (f + 1) j m (out - (f : Int)) := by
            rw [wyS]
            by_cases c : out - (f : Int) < 0
            · rw [if_pos (Or.inr (Or.inl c)), wyN_neg _ _ _ _ c]
            · rw [if_neg (by omega), show (n - ((f + 1 : Nat) : Int)).toNat = j by omega, show (((m + 1 : Nat) : Int) - 1).toNat = m by omega]
          rw [wyN_first] at hr
          rw [wayF] at hF
          refine V_ex sX12_way_113 (by rfl) (by first | exact trivial | exact Or.inr rfl | exact Or.inl rfl | (simp only [ob, obA, R32, R64] at *; omega) | (simp only [ob, obA, R32, R64] at *; and_intros <;> omega)) ?_
          refine V_ifle dX12_way_115 (tgt := 184) (by decide) (by simp only [R32, R64] at *; omega) (fun q115 => ?_) (fun q115 => ?_)
          · omega
          · refine V_ex sX12_way_118 (by rfl) (by first | exact trivial | exact Or.inr rfl | exact Or.inl rfl | (simp only [ob, obA, R32, R64] at *; omega) | (simp only [ob, obA, R32, R64] at *; and_intros <;> omega)) ?_
            refine V_callV (M := MX12_way) (N := MX12_waysBy) dX12_way_135 lRX12_484 kX12_waysBy rfl (rfl) rfl (c_mwaysBy (d := 2) hκ (f := f + 1) (by omega) (by omega) (by omega) (by unfold R64; omega)) rfl rfl (Nat.le_of_ble_eq_true rfl) (fit_rm (by omega)) (⟨Nat.le_of_ble_eq_true rfl, Nat.le_of_ble_eq_true rfl⟩) (fun v Ω' hp => ?_) (fun _ _ h => h.elim)
            obtain ⟨rfl, G2, rfl, f2⟩ := hp
            have g2 := g1.trans (f2.mono (by decide) (by decide) (by decide))
            have c2 : G2.1 145 2 = 0 := by rw [f2.i5 (by decide) (by decide)]; exact c0
            rw [hby]
            refine V_ex sX12_way_138 (by rfl) (by exact ⟨by unfold R64; omega, by unfold R64; omega⟩) ?_
            refine V_liflt dX12_way_145 (tgt := 158) (by decide) (fun q145 => ?_) (fun q145 => ?_)
            · refine V_ex sX12_way_158 (by rfl) (by first | exact trivial | exact Or.inr rfl | exact Or.inl rfl | (simp only [ob, obA, R32, R64] at *; omega) | (simp only [ob, obA, R32, R64] at *; and_intros <;> omega)) ?_
              refine V_ex sX12_way_178 (by rfl) (by first | exact trivial | exact Or.inr rfl | exact Or.inl rfl | (simp only [ob, obA, R32, R64] at *; omega) | (simp only [ob, obA, R32, R64] at *; and_intros <;> omega)) ?_
              refine V_goto dX12_way_181 (tgt := 113) (by decide) ?_
              rw [show ((m + 1 : Nat) : Int) + -1 = ((m : Nat) : Int) by omega]
              refine ih (f + 1) m _ _ _ G2 _ (by omega) hr0 q145 (by omega) (by omega) (by omega) ?_ g2 c2
              rw [← hF, if_pos q145]
            · refine V_ex sX12_way_148 (by rfl) (by first | exact trivial | exact Or.inr rfl | exact Or.inl rfl | (simp only [ob, obA, R32, R64] at *; omega) | (simp only [ob, obA, R32, R64] at *; and_intros <;> omega)) ?_
              refine V_goto dX12_way_155 (tgt := 178) (by decide) ?_
              refine V_ex sX12_way_178 (by rfl) (by first | exact trivial | exact Or.inr rfl | exact Or.inl rfl | (simp only [ob, obA, R32, R64] at *; omega) | (simp only [ob, obA, R32, R64] at *; and_intros <;> omega)) ?_
              refine V_goto dX12_way_181 (tgt := 113) (by decide) ?_
              refine ih (f + 1) (m + 1) _ _ _ G2 _ (by omega) (by omega) (by omega) ho (by omega) hm ?_ g2 c2
              rw [← hF, if_neg (by omega)]
    refine V_ex sX12_way_0 (by simp only [Option.toList, List.cons_append, List.nil_append, exN, ex1, gI, gL, gR, pI, pL, pR, lget, lset1, lset2, kl, b2I, b2L, nob, ob32, ob64, xGet, xPut, xLen, xLd, xLdR, xSt, obA, true_and, and_true, and_self, eq_self, Nat.reduceEqDiff, Nat.zero_ne_one, reduceIte, Nat.reduceLeDiff, and_false, false_and, show skd 11 2 = 0 from rfl, show LF.1 145 = some (.inl 11) from rfl, upd2_eq, Int.reduceToNat, Int.toNat_natCast]; rfl) (by first | exact trivial | exact Or.inr rfl | exact Or.inl rfl | (simp only [ob, obA, R32, R64] at *; omega) | (simp only [ob, obA, R32, R64] at *; and_intros <;> omega)) ?_
    refine V_callS (M := MX12_way) (N := MX12_isSum) dX12_way_6 lRX12_452 kX12_isSum rfl (c_misSum (d := 2) hκ hs (by omega)) rfl rfl (Nat.le_of_ble_eq_true rfl) (fit_rm (by omega)) (⟨Nat.le_of_ble_eq_true rfl, Nat.le_of_ble_eq_true rfl⟩) (fun v Ω' hp => ?_) (fun _ _ h => h.elim)
    obtain ⟨rfl, rfl⟩ := hp
    refine V_ifeqB dX12_way_9 (tgt := 37) (by decide) (fun q9 => ?_) (fun q9 => ?_)
    · have := of_decide_eq_false q9
      omega
    · refine V_ex sX12_way_12 (by rfl) (by first | exact trivial | exact Or.inr rfl | exact Or.inl rfl | (simp only [ob, obA, R32, R64] at *; omega) | (simp only [ob, obA, R32, R64] at *; and_intros <;> omega)) ?_
      refine V_callS (M := MX12_way) (N := MX12_isIn) dX12_way_18 lRX12_178 kX12_isIn rfl (c_misIn (d := 2) hκ k64 (by unfold R64; omega) (by unfold R64; omega)) rfl rfl (Nat.le_of_ble_eq_true rfl) (fit_rm (by omega)) (⟨Nat.le_of_ble_eq_true rfl, Nat.le_of_ble_eq_true rfl⟩) (fun v Ω' hp => ?_) (fun _ _ h => h.elim)
      obtain ⟨rfl, rfl⟩ := hp
      refine V_ifeqB dX12_way_21 (tgt := 37) (by decide) (fun q21 => ?_) (fun q21 => ?_)
      · have := of_decide_eq_false q21
        omega
      · refine V_ex sX12_way_24 (by rfl) (by first | exact trivial | exact Or.inr rfl | exact Or.inl rfl | (simp only [ob, obA, R32, R64] at *; omega) | (simp only [ob, obA, R32, R64] at *; and_intros <;> omega)) ?_
        refine V_callS (M := MX12_way) (N := MX12_isIn) dX12_way_31 lRX12_178 kX12_isIn rfl (c_misIn (d := 2) hκ n64 (by unfold R64; omega) (by unfold R64; omega)) rfl rfl (Nat.le_of_ble_eq_true rfl) (fit_rm (by omega)) (⟨Nat.le_of_ble_eq_true rfl, Nat.le_of_ble_eq_true rfl⟩) (fun v Ω' hp => ?_) (fun _ _ h => h.elim)
        obtain ⟨rfl, rfl⟩ := hp
        refine V_ifneB dX12_way_34 (tgt := 44) (by decide) (fun q34 => ?_) (fun q34 => ?_)
        · refine V_ex sX12_way_44 (by rfl) (by first | exact trivial | exact Or.inr rfl | exact Or.inl rfl | (simp only [ob, obA, R32, R64] at *; omega) | (simp only [ob, obA, R32, R64] at *; and_intros <;> omega)) ?_
          refine V_callS (M := MX12_way) (N := MX12_outBy) dX12_way_50 lRX12_475 kX12_outBy rfl (c_moutBy (d := 2) hκ hT) rfl rfl (Nat.le_of_ble_eq_true rfl) (fit_rm (by omega)) (⟨Nat.le_of_ble_eq_true rfl, Nat.le_of_ble_eq_true rfl⟩) (fun v Ω' hp => ?_) (fun _ _ h => h.elim)
          obtain ⟨rfl, rfl⟩ := hp
          refine V_ex sX12_way_53 (by rfl) (by first | exact trivial | exact Or.inr rfl | exact Or.inl rfl | (simp only [ob, obA, R32, R64] at *; omega) | (simp only [ob, obA, R32, R64] at *; and_intros <;> omega)) ?_
          refine V_icmpgt dX12_way_58 (tgt := 93) (by decide) (by simp only [R32, R64] at *; omega) (fun q58 => ?_) (fun q58 => ?_)
          · exact bad _ f0 (Or.inl (Or.inl q58))
          · refine V_ex sX12_way_61 (by rfl) (by exact ⟨hTR, by unfold R64; omega⟩) ?_
            refine V_lifeq dX12_way_67 (tgt := 93) (by decide) (fun q67 => ?_) (fun q67 => ?_)
            · exact bad _ f0 (Or.inl (Or.inr q67))
            · refine V_ex sX12_way_70 (by rfl) (by exact ⟨hi, by unfold R64; omega⟩) ?_
              refine V_liflt dX12_way_74 (tgt := 93) (by decide) (fun q74 => ?_) (fun q74 => ?_)
              · exact bad _ f0 (Or.inr (Or.inl q74))
              · refine V_ex sX12_way_77 (by rfl) (by first | exact trivial | exact Or.inr rfl | exact Or.inl rfl | (simp only [ob, obA, R32, R64] at *; omega) | (simp only [ob, obA, R32, R64] at *; and_intros <;> omega)) ?_
                refine V_callV (M := MX12_way) (N := MX12_waysBy) dX12_way_86 lRX12_484 kX12_waysBy rfl (rfl) rfl (c_mwaysBy (d := 2) hκ (f := 0) (by omega) (by omega) (by omega) hTR) rfl rfl (Nat.le_of_ble_eq_true rfl) (fit_rm (by omega)) (⟨Nat.le_of_ble_eq_true rfl, Nat.le_of_ble_eq_true rfl⟩) (fun v Ω' hp => ?_) (fun _ _ h => h.elim)
                obtain ⟨rfl, G1, rfl, f1⟩ := hp
                have g1 := f0.trans (f1.mono (by decide) (by decide) (by decide))
                have c0 : G1.1 145 2 = 0 := by rw [f1.i5 (by decide) (by decide)]; simp [upd2_eq]
                have hwR := wyN_R 0 n.toNat k.toNat (leafTot s k n)
                have h2n : (2 : Int) ^ n.toNat ≤ 2 ^ 30 := by
                  have h1 : (2 : Nat) ^ n.toNat ≤ 2 ^ 30 := Nat.pow_le_pow_right (by decide) (by omega)
                  have h3 : ((2 ^ n.toNat : Nat) : Int) = (2 : Int) ^ n.toNat := by simp
                  omega
                have hwS2 : R64 (wyS 0 n k (leafTot s k n)) := by rw [hwS]; unfold R64; split <;> omega
                refine V_ex sX12_way_89 (by rfl) (by exact ⟨hi, hwS2⟩) ?_
                refine V_liflt dX12_way_90 (tgt := 100) (by decide) (fun q90 => ?_) (fun q90 => ?_)
                · refine V_ex sX12_way_100 (by rfl) (by first | exact trivial | exact Or.inr rfl | exact Or.inl rfl | (simp only [ob, obA, R32, R64] at *; omega) | (simp only [ob, obA, R32, R64] at *; and_intros <;> omega)) ?_
                  have hok : ¬ ((n < k ∨ leafTot s k n = -1) ∨ i < 0 ∨ wyS 0 n k (leafTot s k n) ≤ i) := by omega
                  have hlt : i < wyS 0 n k (leafTot s k n) := by omega
                  rw [hwS] at hlt
                  by_cases c : leafTot s k n < 0 ∨ 1799 < leafTot s k n
                  · rw [if_pos c] at hlt; omega
                  · rw [if_neg c] at hlt
                    have ek : ((k.toNat : Nat) : Int) = k := by omega
                    have := loop hok n.toNat 0 k.toNat (leafTot s k n) i 0 G1 none (by omega) (by omega) hlt (by omega) (by omega) (by omega) rfl g1 c0
                    rw [ek] at this
                    exact this
                · exact bad _ g1 (Or.inr (Or.inr (by omega)))
        · have := of_decide_eq_false q34
          omega
  · refine V_ex sX12_way_0 (by simp only [Option.toList, List.cons_append, List.nil_append, exN, ex1, gI, gL, gR, pI, pL, pR, lget, lset1, lset2, kl, b2I, b2L, nob, ob32, ob64, xGet, xPut, xLen, xLd, xLdR, xSt, obA, true_and, and_true, and_self, eq_self, Nat.reduceEqDiff, Nat.zero_ne_one, reduceIte, Nat.reduceLeDiff, and_false, false_and, show skd 11 2 = 0 from rfl, show LF.1 145 = some (.inl 11) from rfl, upd2_eq, Int.reduceToNat, Int.toNat_natCast]; rfl) (by first | exact trivial | exact Or.inr rfl | exact Or.inl rfl | (simp only [ob, obA, R32, R64] at *; omega) | (simp only [ob, obA, R32, R64] at *; and_intros <;> omega)) ?_
    refine V_callS (M := MX12_way) (N := MX12_isSum) dX12_way_6 lRX12_452 kX12_isSum rfl (c_misSum (d := 2) hκ hs (by omega)) rfl rfl (Nat.le_of_ble_eq_true rfl) (fit_rm (by omega)) (⟨Nat.le_of_ble_eq_true rfl, Nat.le_of_ble_eq_true rfl⟩) (fun v Ω' hp => ?_) (fun _ _ h => h.elim)
    obtain ⟨rfl, rfl⟩ := hp
    refine V_ifeqB dX12_way_9 (tgt := 37) (by decide) (fun q9 => ?_) (fun q9 => ?_)
    · have h1 := of_decide_eq_false q9
      exact no hg
    · have h1 := of_decide_eq_true q9
      refine V_ex sX12_way_12 (by rfl) (by first | exact trivial | exact Or.inr rfl | exact Or.inl rfl | (simp only [ob, obA, R32, R64] at *; omega) | (simp only [ob, obA, R32, R64] at *; and_intros <;> omega)) ?_
      refine V_callS (M := MX12_way) (N := MX12_isIn) dX12_way_18 lRX12_178 kX12_isIn rfl (c_misIn (d := 2) hκ (by simp only [R32, R64] at *; omega) (by unfold R64; omega) (by unfold R64; omega)) rfl rfl (Nat.le_of_ble_eq_true rfl) (fit_rm (by omega)) (⟨Nat.le_of_ble_eq_true rfl, Nat.le_of_ble_eq_true rfl⟩) (fun v Ω' hp => ?_) (fun _ _ h => h.elim)
      obtain ⟨rfl, rfl⟩ := hp
      refine V_ifeqB dX12_way_21 (tgt := 37) (by decide) (fun q21 => ?_) (fun q21 => ?_)
      · have h2 := of_decide_eq_false q21
        exact no hg
      · have h2 := of_decide_eq_true q21
        refine V_ex sX12_way_24 (by rfl) (by first | exact trivial | exact Or.inr rfl | exact Or.inl rfl | (simp only [ob, obA, R32, R64] at *; omega) | (simp only [ob, obA, R32, R64] at *; and_intros <;> omega)) ?_
        refine V_callS (M := MX12_way) (N := MX12_isIn) dX12_way_31 lRX12_178 kX12_isIn rfl (c_misIn (d := 2) hκ (by simp only [R32, R64] at *; omega) (by unfold R64; omega) (by unfold R64; omega)) rfl rfl (Nat.le_of_ble_eq_true rfl) (fit_rm (by omega)) (⟨Nat.le_of_ble_eq_true rfl, Nat.le_of_ble_eq_true rfl⟩) (fun v Ω' hp => ?_) (fun _ _ h => h.elim)
        obtain ⟨rfl, rfl⟩ := hp
        refine V_ifneB dX12_way_34 (tgt := 44) (by decide) (fun q34 => ?_) (fun q34 => ?_)
        · have h3 := of_decide_eq_true q34
          exact absurd ⟨h1, h2, h3⟩ hg
        · exact no hg
