/-! THE MODEL: child, torn, read -/
set_option maxRecDepth 100000 in
set_option maxHeartbeats 4000000 in
theorem c_mxChild {κ : Kx} (hκ : KOK κ) {d : Nat} {K i : Int} {A : Ab} {G : Wd} (hC : RM G A) (hI : Inv K A) (hi : R32 i) (hd : 20 ≤ d) : Ct κ MX12_child d 0 0 [VR 145, VI i] (Wm G) (mdP G A (some (VI (keptP A.2.2.2.2.1 i).2)) (keptP A.2.2.2.2.1 i).1) noX := by
  refine Ct_of hκ kX12_child.1 rfl (Nat.le_of_ble_eq_true rfl) (ls := [some (VR 145), some (VI i)]) rfl (fun μ => ?_)
  have hk := hC.2.2.2.2.2.2.2.1
  have hi64 := r32_64 hi
  cases ho : A.2.2.2.2.1 with
  | none =>
    rw [ho] at hk
    have e57 : upd2 G.1 145 2 0 145 57 = -1 := (uv (by omega)).trans hk
    refine V_ex sX12_child_0 (by simp only [Option.toList, List.cons_append, List.nil_append, exN, ex1, gI, gL, gR, pI, pL, pR, lget, lset1, lset2, kl, b2I, b2L, nob, ob32, ob64, xGet, xPut, xLen, xLd, xLdR, xSt, obA, true_and, and_true, and_self, eq_self, Nat.reduceEqDiff, Nat.zero_ne_one, reduceIte, Nat.reduceLeDiff, and_false, false_and, show skd 11 2 = 0 from rfl, show skd 11 57 = 0 from rfl, show LF.1 145 = some (.inl 11) from rfl, e57, upd2_eq, Int.reduceToNat, Int.toNat_natCast]; rfl) (by first | exact trivial | exact Or.inr rfl | exact Or.inl rfl | (simp only [ob, obA, R32, R64] at *; omega) | (simp only [ob, obA, R32, R64] at *; and_intros <;> omega) | (simp [ob, obA])) ?_
    refine V_icmpeq dX12_child_10 (tgt := 38) (by decide) (by simp only [R32, R64] at *; omega) (fun q10 => ?_) (fun q10 => ?_)
    · refine V_ex sX12_child_38 (by rfl) (by first | exact trivial | exact Or.inr rfl | exact Or.inl rfl | (simp only [ob, obA, R32, R64] at *; omega) | (simp only [ob, obA, R32, R64] at *; and_intros <;> omega) | (simp [ob, obA])) ?_
      refine V_callV (M := MX12_child) (N := MX12_fail) dX12_child_40 lRX12_324 kX12_fail rfl (rfl) rfl (c_mfail (d := 2) hκ) rfl rfl (Nat.le_of_ble_eq_true rfl) (fit_rm (by omega)) (⟨Nat.le_of_ble_eq_true rfl, Nat.le_of_ble_eq_true rfl⟩) (fun v Ω' hp => ?_) (fun _ _ h => h.elim)
      obtain ⟨rfl, rfl⟩ := hp
      refine V_iret dX12_child_43 rfl (by decide) (md_1 hC rfl rfl)
    · omega
  | some l =>
    rw [ho] at hk
    obtain ⟨h1, h2⟩ := hk
    have hl10 := (hI.2.2.2.2.2.2.1 l ho).1
    have e57 : upd2 G.1 145 2 0 145 57 = (l.length : Nat) := (uv (by omega)).trans h1
    have ey : 0 ≤ i ∧ i ≤ (l.length : Int) - 1 → keptP (some l) i = (0, l.getD i.toNat 0) := fun h => by show (if 0 ≤ i ∧ i < (l.length : Nat) then ((0 : Int), l.getD i.toNat 0) else (1, 0)) = _; rw [if_pos (by omega)]
    have en : ¬ (0 ≤ i ∧ i ≤ (l.length : Int) - 1) → keptP (some l) i = (1, 0) := fun h => by show (if 0 ≤ i ∧ i < (l.length : Nat) then ((0 : Int), l.getD i.toNat 0) else (1, 0)) = _; rw [if_neg (by omega)]
    refine V_ex sX12_child_0 (by simp only [Option.toList, List.cons_append, List.nil_append, exN, ex1, gI, gL, gR, pI, pL, pR, lget, lset1, lset2, kl, b2I, b2L, nob, ob32, ob64, xGet, xPut, xLen, xLd, xLdR, xSt, obA, true_and, and_true, and_self, eq_self, Nat.reduceEqDiff, Nat.zero_ne_one, reduceIte, Nat.reduceLeDiff, and_false, false_and, show skd 11 2 = 0 from rfl, show skd 11 57 = 0 from rfl, show LF.1 145 = some (.inl 11) from rfl, e57, upd2_eq, Int.reduceToNat, Int.toNat_natCast]; rfl) (by first | exact trivial | exact Or.inr rfl | exact Or.inl rfl | (simp only [ob, obA, R32, R64] at *; omega) | (simp only [ob, obA, R32, R64] at *; and_intros <;> omega) | (simp [ob, obA])) ?_
    refine V_icmpeq dX12_child_10 (tgt := 38) (by decide) (by simp only [R32, R64] at *; omega) (fun q10 => ?_) (fun q10 => ?_)
    · omega
    · refine V_ex sX12_child_13 (by simp only [Option.toList, List.cons_append, List.nil_append, exN, ex1, gI, gL, gR, pI, pL, pR, lget, lset1, lset2, kl, b2I, b2L, nob, ob32, ob64, xGet, xPut, xLen, xLd, xLdR, xSt, obA, true_and, and_true, and_self, eq_self, Nat.reduceEqDiff, Nat.zero_ne_one, reduceIte, Nat.reduceLeDiff, and_false, false_and, show skd 11 57 = 0 from rfl, show LF.1 145 = some (.inl 11) from rfl, e57, upd2_eq, Int.reduceToNat, Int.toNat_natCast]; rfl) (by first | exact trivial | exact Or.inr rfl | exact Or.inl rfl | (simp only [ob, obA, R32, R64] at *; omega) | (simp only [ob, obA, R32, R64] at *; and_intros <;> omega) | (simp [ob, obA])) ?_
      refine V_callS (M := MX12_child) (N := MX12_isIn) dX12_child_23 lRX12_178 kX12_isIn rfl (c_misIn (d := 2) hκ hi64 (by unfold R64; omega) (by unfold R64; omega)) rfl rfl (Nat.le_of_ble_eq_true rfl) (fit_rm (by omega)) (⟨Nat.le_of_ble_eq_true rfl, Nat.le_of_ble_eq_true rfl⟩) (fun v Ω' hp => ?_) (fun _ _ h => h.elim)
      obtain ⟨rfl, rfl⟩ := hp
      refine V_ifeqB dX12_child_26 (tgt := 38) (by decide) (fun q26 => ?_) (fun q26 => ?_)
      · refine V_ex sX12_child_38 (by rfl) (by first | exact trivial | exact Or.inr rfl | exact Or.inl rfl | (simp only [ob, obA, R32, R64] at *; omega) | (simp only [ob, obA, R32, R64] at *; and_intros <;> omega) | (simp [ob, obA])) ?_
        refine V_callV (M := MX12_child) (N := MX12_fail) dX12_child_40 lRX12_324 kX12_fail rfl (rfl) rfl (c_mfail (d := 2) hκ) rfl rfl (Nat.le_of_ble_eq_true rfl) (fit_rm (by omega)) (⟨Nat.le_of_ble_eq_true rfl, Nat.le_of_ble_eq_true rfl⟩) (fun v Ω' hp => ?_) (fun _ _ h => h.elim)
        obtain ⟨rfl, rfl⟩ := hp
        refine V_iret dX12_child_43 rfl (by decide) (by rw [en (of_decide_eq_false q26)]; exact md_1 hC rfl rfl)
      · have hx := of_decide_eq_true q26
        have e9 : upd2 G.1 145 2 0 176 i.toNat = l.getD i.toNat 0 := by rw [uv (by omega), h2 i.toNat (by omega), List.getD_eq_getElem?_getD, List.getElem?_eq_getElem (by omega)]; rfl
        refine V_ex sX12_child_29 (by simp only [Option.toList, List.cons_append, List.nil_append, exN, ex1, gI, gL, gR, pI, pL, pR, lget, lset1, lset2, kl, b2I, b2L, nob, ob32, ob64, xGet, xPut, xLen, xLd, xLdR, xSt, obA, true_and, and_true, and_self, eq_self, Nat.reduceEqDiff, Nat.zero_ne_one, reduceIte, Nat.reduceLeDiff, and_false, false_and, show skd 11 51 = 2 from rfl, show LF.1 145 = some (.inl 11) from rfl, show LF.2 145 51 = some 176 from rfl, show LF.1 176 = some (.inr (0, 10)) from rfl, e9, e57, upd2_eq, Int.reduceToNat, Int.toNat_natCast]; rfl) (by first | exact trivial | exact Or.inr rfl | exact Or.inl rfl | (simp only [ob, obA, R32, R64] at *; omega) | (simp only [ob, obA, R32, R64] at *; and_intros <;> omega) | (simp [ob, obA])) ?_
        refine V_goto dX12_child_35 (tgt := 43) (by decide) ?_
        refine V_iret dX12_child_43 rfl (by decide) (by rw [ey hx]; exact md_0 hC rfl rfl)
set_option maxRecDepth 100000 in
set_option maxHeartbeats 4000000 in
theorem c_mxTorn {κ : Kx} (hκ : KOK κ) {d : Nat} {K i : Int} {A : Ab} {G : Wd} (hC : RM G A) (hI : Inv K A) (hi : R32 i) (hd : 20 ≤ d) : Ct κ MX12_torn d 0 0 [VR 145, VI i] (Wm G) (mdP G A (some (VI (keptP A.2.2.2.2.2 i).2)) (keptP A.2.2.2.2.2 i).1) noX := by
  refine Ct_of hκ kX12_torn.1 rfl (Nat.le_of_ble_eq_true rfl) (ls := [some (VR 145), some (VI i)]) rfl (fun μ => ?_)
  have hk := hC.2.2.2.2.2.2.2.2
  have hi64 := r32_64 hi
  cases ho : A.2.2.2.2.2 with
  | none =>
    rw [ho] at hk
    have e57 : upd2 G.1 145 2 0 145 58 = -1 := (uv (by omega)).trans hk
    refine V_ex sX12_torn_0 (by simp only [Option.toList, List.cons_append, List.nil_append, exN, ex1, gI, gL, gR, pI, pL, pR, lget, lset1, lset2, kl, b2I, b2L, nob, ob32, ob64, xGet, xPut, xLen, xLd, xLdR, xSt, obA, true_and, and_true, and_self, eq_self, Nat.reduceEqDiff, Nat.zero_ne_one, reduceIte, Nat.reduceLeDiff, and_false, false_and, show skd 11 2 = 0 from rfl, show skd 11 58 = 0 from rfl, show LF.1 145 = some (.inl 11) from rfl, e57, upd2_eq, Int.reduceToNat, Int.toNat_natCast]; rfl) (by first | exact trivial | exact Or.inr rfl | exact Or.inl rfl | (simp only [ob, obA, R32, R64] at *; omega) | (simp only [ob, obA, R32, R64] at *; and_intros <;> omega) | (simp [ob, obA])) ?_
    refine V_icmpeq dX12_torn_10 (tgt := 38) (by decide) (by simp only [R32, R64] at *; omega) (fun q10 => ?_) (fun q10 => ?_)
    · refine V_ex sX12_torn_38 (by rfl) (by first | exact trivial | exact Or.inr rfl | exact Or.inl rfl | (simp only [ob, obA, R32, R64] at *; omega) | (simp only [ob, obA, R32, R64] at *; and_intros <;> omega) | (simp [ob, obA])) ?_
      refine V_callV (M := MX12_torn) (N := MX12_fail) dX12_torn_40 lRX12_324 kX12_fail rfl (rfl) rfl (c_mfail (d := 2) hκ) rfl rfl (Nat.le_of_ble_eq_true rfl) (fit_rm (by omega)) (⟨Nat.le_of_ble_eq_true rfl, Nat.le_of_ble_eq_true rfl⟩) (fun v Ω' hp => ?_) (fun _ _ h => h.elim)
      obtain ⟨rfl, rfl⟩ := hp
      refine V_iret dX12_torn_43 rfl (by decide) (md_1 hC rfl rfl)
    · omega
  | some l =>
    rw [ho] at hk
    obtain ⟨h1, h2⟩ := hk
    have hl4 := (hI.2.2.2.2.2.2.2 l ho).1
    have e57 : upd2 G.1 145 2 0 145 58 = (l.length : Nat) := (uv (by omega)).trans h1
    have ey : 0 ≤ i ∧ i ≤ (l.length : Int) - 1 → keptP (some l) i = (0, l.getD i.toNat 0) := fun h => by show (if 0 ≤ i ∧ i < (l.length : Nat) then ((0 : Int), l.getD i.toNat 0) else (1, 0)) = _; rw [if_pos (by omega)]
    have en : ¬ (0 ≤ i ∧ i ≤ (l.length : Int) - 1) → keptP (some l) i = (1, 0) := fun h => by show (if 0 ≤ i ∧ i < (l.length : Nat) then ((0 : Int), l.getD i.toNat 0) else (1, 0)) = _; rw [if_neg (by omega)]
    refine V_ex sX12_torn_0 (by simp only [Option.toList, List.cons_append, List.nil_append, exN, ex1, gI, gL, gR, pI, pL, pR, lget, lset1, lset2, kl, b2I, b2L, nob, ob32, ob64, xGet, xPut, xLen, xLd, xLdR, xSt, obA, true_and, and_true, and_self, eq_self, Nat.reduceEqDiff, Nat.zero_ne_one, reduceIte, Nat.reduceLeDiff, and_false, false_and, show skd 11 2 = 0 from rfl, show skd 11 58 = 0 from rfl, show LF.1 145 = some (.inl 11) from rfl, e57, upd2_eq, Int.reduceToNat, Int.toNat_natCast]; rfl) (by first | exact trivial | exact Or.inr rfl | exact Or.inl rfl | (simp only [ob, obA, R32, R64] at *; omega) | (simp only [ob, obA, R32, R64] at *; and_intros <;> omega) | (simp [ob, obA])) ?_
    refine V_icmpeq dX12_torn_10 (tgt := 38) (by decide) (by simp only [R32, R64] at *; omega) (fun q10 => ?_) (fun q10 => ?_)
    · omega
    · refine V_ex sX12_torn_13 (by simp only [Option.toList, List.cons_append, List.nil_append, exN, ex1, gI, gL, gR, pI, pL, pR, lget, lset1, lset2, kl, b2I, b2L, nob, ob32, ob64, xGet, xPut, xLen, xLd, xLdR, xSt, obA, true_and, and_true, and_self, eq_self, Nat.reduceEqDiff, Nat.zero_ne_one, reduceIte, Nat.reduceLeDiff, and_false, false_and, show skd 11 58 = 0 from rfl, show LF.1 145 = some (.inl 11) from rfl, e57, upd2_eq, Int.reduceToNat, Int.toNat_natCast]; rfl) (by first | exact trivial | exact Or.inr rfl | exact Or.inl rfl | (simp only [ob, obA, R32, R64] at *; omega) | (simp only [ob, obA, R32, R64] at *; and_intros <;> omega) | (simp [ob, obA])) ?_
      refine V_callS (M := MX12_torn) (N := MX12_isIn) dX12_torn_23 lRX12_178 kX12_isIn rfl (c_misIn (d := 2) hκ hi64 (by unfold R64; omega) (by unfold R64; omega)) rfl rfl (Nat.le_of_ble_eq_true rfl) (fit_rm (by omega)) (⟨Nat.le_of_ble_eq_true rfl, Nat.le_of_ble_eq_true rfl⟩) (fun v Ω' hp => ?_) (fun _ _ h => h.elim)
      obtain ⟨rfl, rfl⟩ := hp
      refine V_ifeqB dX12_torn_26 (tgt := 38) (by decide) (fun q26 => ?_) (fun q26 => ?_)
      · refine V_ex sX12_torn_38 (by rfl) (by first | exact trivial | exact Or.inr rfl | exact Or.inl rfl | (simp only [ob, obA, R32, R64] at *; omega) | (simp only [ob, obA, R32, R64] at *; and_intros <;> omega) | (simp [ob, obA])) ?_
        refine V_callV (M := MX12_torn) (N := MX12_fail) dX12_torn_40 lRX12_324 kX12_fail rfl (rfl) rfl (c_mfail (d := 2) hκ) rfl rfl (Nat.le_of_ble_eq_true rfl) (fit_rm (by omega)) (⟨Nat.le_of_ble_eq_true rfl, Nat.le_of_ble_eq_true rfl⟩) (fun v Ω' hp => ?_) (fun _ _ h => h.elim)
        obtain ⟨rfl, rfl⟩ := hp
        refine V_iret dX12_torn_43 rfl (by decide) (by rw [en (of_decide_eq_false q26)]; exact md_1 hC rfl rfl)
      · have hx := of_decide_eq_true q26
        have e9 : upd2 G.1 145 2 0 178 i.toNat = l.getD i.toNat 0 := by rw [uv (by omega), h2 i.toNat (by omega), List.getD_eq_getElem?_getD, List.getElem?_eq_getElem (by omega)]; rfl
        refine V_ex sX12_torn_29 (by simp only [Option.toList, List.cons_append, List.nil_append, exN, ex1, gI, gL, gR, pI, pL, pR, lget, lset1, lset2, kl, b2I, b2L, nob, ob32, ob64, xGet, xPut, xLen, xLd, xLdR, xSt, obA, true_and, and_true, and_self, eq_self, Nat.reduceEqDiff, Nat.zero_ne_one, reduceIte, Nat.reduceLeDiff, and_false, false_and, show skd 11 53 = 2 from rfl, show LF.1 145 = some (.inl 11) from rfl, show LF.2 145 53 = some 178 from rfl, show LF.1 178 = some (.inr (0, 4)) from rfl, e9, e57, upd2_eq, Int.reduceToNat, Int.toNat_natCast]; rfl) (by first | exact trivial | exact Or.inr rfl | exact Or.inl rfl | (simp only [ob, obA, R32, R64] at *; omega) | (simp only [ob, obA, R32, R64] at *; and_intros <;> omega) | (simp [ob, obA])) ?_
        refine V_goto dX12_torn_35 (tgt := 43) (by decide) ?_
        refine V_iret dX12_torn_43 rfl (by decide) (by rw [ey hx]; exact md_0 hC rfl rfl)
theorem tpR_after {e n : Nat} (he : 1 ≤ e) (h : tpR e n = 0) : ∀ t, t ≤ e - 1 → tpR e (n + 1 + t) = e - 1 - t := by
  intro t
  induction t with
  | zero => intro _; show tpR e (n + 1) = e - 1 - 0; rw [tpR, if_pos h]; rfl
  | succ t ih =>
    intro ht
    show tpR e (n + 1 + t + 1) = e - 1 - (t + 1)
    rw [tpR, ih (by omega), if_neg (by omega)]; omega
theorem tpR_next {e n : Nat} (he : 1 ≤ e) (h : tpR e n = 0) : tpR e (n + e) = 0 := by
  have := tpR_after he h (e - 1) (Nat.le_refl _)
  rw [show n + 1 + (e - 1) = n + e by omega] at this
  omega
theorem rdF_skip {g : Int → Int} {fr e n : Nat} (he : 1 ≤ e) (h : tpR e n = 0) : ∀ t, t ≤ e - 1 → rdF g fr e (n + 1 + t) = rdF g fr e n + g ((fr + n : Nat) : Int) := by
  intro t
  induction t with
  | zero => intro _; show rdF g fr e (n + 1) = _; rw [rdF, if_pos h]
  | succ t ih =>
    intro ht
    show rdF g fr e (n + 1 + t + 1) = _
    rw [rdF, ih (by omega), if_neg (by rw [tpR_after he h t (by omega)]; omega), Int.add_zero]
theorem rdF_min {g : Int → Int} {fr e n N : Nat} (he : 1 ≤ e) (h : tpR e n = 0) (hn : n < N) : rdF g fr e (min (n + e) N) = rdF g fr e (min n N) + g ((fr + n : Nat) : Int) := by
  rw [Nat.min_eq_left (Nat.le_of_lt hn), ← rdF_skip he h (min (n + e) N - (n + 1)) (by omega)]
  congr 1
  omega
