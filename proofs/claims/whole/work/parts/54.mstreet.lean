/-! TornLeavesModel: between, skip, sewn, street -/
noncomputable def betweenP (a b f : Int) : Int × Int := if ¬ (0 ≤ f ∧ f ≤ 10) then (1, 0) else if ¬ (1 ≤ a ∧ a ≤ b ∧ b ≤ 1000000000000000) then (2, 0) else (0, prC f b 18 1 - prC f (a - 1) 18 1)
set_option maxRecDepth 100000 in
set_option maxHeartbeats 4000000 in
theorem c_mbetween {κ : Kx} (hκ : KOK κ) {d : Nat} {a b f : Int} {G : Wd} (ha : R64 a) (hb : R64 b) (hf : R32 f) (hd : 3 ≤ d) : Ct κ MX12_between d 0 0 [VR 145, VL a, VL b, VI f] (Wm G) (mpL G [2] [] [] (betweenP a b f)) noX := by
  refine Ct_of hκ kX12_between.1 rfl (Nat.le_of_ble_eq_true rfl) (ls := [some (VR 145), some (VL a), none, some (VL b), none, some (VI f)]) rfl (fun μ => ?_)
  have f0 : FM [2] [] [] G (uI G 145 2 0) := (FM.refl _ _ _ _).s (by decide)
  have no : ∀ x, ¬ (1 ≤ a ∧ a ≤ b ∧ b ≤ 1000000000000000) → (0 ≤ f ∧ f ≤ 10) → V κ MX12_between (rmD d 0 0) (mpL G [2] [] [] (betweenP a b f)) noX 0 0 μ 0 0 (Wm (uI G 145 2 0)) 60 [some (VR 145), some (VL a), x, some (VL b), none, some (VI f)] [] := fun x h h2 => by
    refine V_ex sX12_between_60 (by rfl) (by first | exact trivial | exact Or.inr rfl | exact Or.inl rfl | (simp only [ob, obA, R32, R64] at *; omega) | (simp only [ob, obA, R32, R64] at *; and_intros <;> omega)) ?_
    refine V_callV (M := MX12_between) (N := MX12_fail) dX12_between_62 lRX12_324 kX12_fail rfl (rfl) rfl (c_mfail (d := 2) hκ) rfl rfl (Nat.le_of_ble_eq_true rfl) (fit_rm (by omega)) (⟨Nat.le_of_ble_eq_true rfl, Nat.le_of_ble_eq_true rfl⟩) (fun v Ω' hp => ?_) (fun _ _ h => h.elim)
    obtain ⟨rfl, rfl⟩ := hp
    refine V_ex sX12_between_65 (by rfl) (by first | exact trivial | exact Or.inr rfl | exact Or.inl rfl | (simp only [ob, obA, R32, R64] at *; omega) | (simp only [ob, obA, R32, R64] at *; and_intros <;> omega)) ?_
    refine V_lret dX12_between_66 rfl (by decide) ⟨by rw [betweenP, if_neg (not_not_intro h2), if_pos h], _, rfl, f0.s (by decide), by rw [betweenP, if_neg (not_not_intro h2), if_pos h]; simp [upd2_eq]⟩
  refine V_ex sX12_between_0 (by simp only [Option.toList, List.cons_append, List.nil_append, exN, ex1, gI, gL, gR, pI, pL, pR, lget, lset1, lset2, kl, b2I, b2L, nob, ob32, ob64, xGet, xPut, xLen, xLd, xLdR, xSt, obA, true_and, and_true, and_self, eq_self, Nat.reduceEqDiff, Nat.zero_ne_one, reduceIte, Nat.reduceLeDiff, and_false, false_and, show skd 11 2 = 0 from rfl, show LF.1 145 = some (.inl 11) from rfl, upd2_eq, Int.reduceToNat, Int.toNat_natCast]; rfl) (by first | exact trivial | exact Or.inr rfl | exact Or.inl rfl | (simp only [ob, obA, R32, R64] at *; omega) | (simp only [ob, obA, R32, R64] at *; and_intros <;> omega)) ?_
  refine V_callS (M := MX12_between) (N := MX12_isIn) dX12_between_12 lRX12_178 kX12_isIn rfl (c_misIn (d := 2) hκ (by simp only [R32, R64] at *; omega) (by unfold R64; omega) (by unfold R64; omega)) rfl rfl (Nat.le_of_ble_eq_true rfl) (fit_rm (by omega)) (⟨Nat.le_of_ble_eq_true rfl, Nat.le_of_ble_eq_true rfl⟩) (fun v Ω' hp => ?_) (fun _ _ h => h.elim)
  obtain ⟨rfl, rfl⟩ := hp
  refine V_ifneB dX12_between_15 (tgt := 25) (by decide) (fun q15 => ?_) (fun q15 => ?_)
  · have hfig := of_decide_eq_true q15
    refine V_ex sX12_between_25 (by rfl) (by first | exact trivial | exact Or.inr rfl | exact Or.inl rfl | (simp only [ob, obA, R32, R64] at *; omega) | (simp only [ob, obA, R32, R64] at *; and_intros <;> omega)) ?_
    refine V_callS (M := MX12_between) (N := MX12_isIn) dX12_between_28 lRX12_178 kX12_isIn rfl (c_misIn (d := 2) hκ ha (by unfold R64; omega) hb) rfl rfl (Nat.le_of_ble_eq_true rfl) (fit_rm (by omega)) (⟨Nat.le_of_ble_eq_true rfl, Nat.le_of_ble_eq_true rfl⟩) (fun v Ω' hp => ?_) (fun _ _ h => h.elim)
    obtain ⟨rfl, rfl⟩ := hp
    refine V_ifeqB dX12_between_31 (tgt := 60) (by decide) (fun q31 => ?_) (fun q31 => ?_)
    · have hab := of_decide_eq_false q31
      exact no _ (by omega) hfig
    · have hab := of_decide_eq_true q31
      refine V_ex sX12_between_34 (by rfl) (by first | exact trivial | exact Or.inr rfl | exact Or.inl rfl | (simp only [ob, obA, R32, R64] at *; omega) | (simp only [ob, obA, R32, R64] at *; and_intros <;> omega)) ?_
      refine V_lifgt dX12_between_39 (tgt := 60) (by decide) (fun q39 => ?_) (fun q39 => ?_)
      · exact no _ (by omega) hfig
      · refine V_ex sX12_between_42 (by rfl) (by first | exact trivial | exact Or.inr rfl | exact Or.inl rfl | (simp only [ob, obA, R32, R64] at *; omega) | (simp only [ob, obA, R32, R64] at *; and_intros <;> omega)) ?_
        refine V_callS (M := MX12_between) (N := MX12_figuresUpTo) dX12_between_45 lRX12_460 kX12_figuresUpTo rfl (c_mfiguresUpTo (d := 2) hκ (by omega) hf) rfl rfl (Nat.le_of_ble_eq_true rfl) (fit_rm (by omega)) (⟨Nat.le_of_ble_eq_true rfl, Nat.le_of_ble_eq_true rfl⟩) (fun v Ω' hp => ?_) (fun _ _ h => h.elim)
        obtain ⟨rfl, rfl⟩ := hp
        refine V_ex sX12_between_48 (by rfl) (by first | exact trivial | exact Or.inr rfl | exact Or.inl rfl | (simp only [ob, obA, R32, R64] at *; omega) | (simp only [ob, obA, R32, R64] at *; and_intros <;> omega)) ?_
        refine V_callS (M := MX12_between) (N := MX12_figuresUpTo) dX12_between_53 lRX12_460 kX12_figuresUpTo rfl (c_mfiguresUpTo (d := 2) hκ (by omega) hf) rfl rfl (Nat.le_of_ble_eq_true rfl) (fit_rm (by omega)) (⟨Nat.le_of_ble_eq_true rfl, Nat.le_of_ble_eq_true rfl⟩) (fun v Ω' hp => ?_) (fun _ _ h => h.elim)
        obtain ⟨rfl, rfl⟩ := hp
        refine V_ex sX12_between_56 (by rfl) (by first | exact trivial | exact Or.inr rfl | exact Or.inl rfl | (simp only [ob, obA, R32, R64] at *; omega) | (simp only [ob, obA, R32, R64] at *; and_intros <;> omega)) ?_
        refine V_goto dX12_between_57 (tgt := 66) (by decide) ?_
        refine V_lret dX12_between_66 rfl (by decide) ⟨by rw [betweenP, if_neg (not_not_intro hfig), if_neg (by omega)], _, rfl, f0, by rw [betweenP, if_neg (not_not_intro hfig), if_neg (by omega)]; simp [upd2_eq]⟩
  · have hfig := of_decide_eq_false q15
    refine V_ex sX12_between_18 (by rfl) (by first | exact trivial | exact Or.inr rfl | exact Or.inl rfl | (simp only [ob, obA, R32, R64] at *; omega) | (simp only [ob, obA, R32, R64] at *; and_intros <;> omega)) ?_
    refine V_callV (M := MX12_between) (N := MX12_fail) dX12_between_20 lRX12_324 kX12_fail rfl (rfl) rfl (c_mfail (d := 2) hκ) rfl rfl (Nat.le_of_ble_eq_true rfl) (fit_rm (by omega)) (⟨Nat.le_of_ble_eq_true rfl, Nat.le_of_ble_eq_true rfl⟩) (fun v Ω' hp => ?_) (fun _ _ h => h.elim)
    obtain ⟨rfl, rfl⟩ := hp
    refine V_ex sX12_between_23 (by rfl) (by first | exact trivial | exact Or.inr rfl | exact Or.inl rfl | (simp only [ob, obA, R32, R64] at *; omega) | (simp only [ob, obA, R32, R64] at *; and_intros <;> omega)) ?_
    refine V_lret dX12_between_24 rfl (by decide) ⟨by rw [betweenP, if_pos hfig], _, rfl, f0.s (by decide), by rw [betweenP, if_pos hfig]; simp [upd2_eq]⟩
def skipP (f n w : Int) : Int × Int := if ¬ ((1 ≤ f ∧ f ≤ 9) ∧ 1 ≤ n ∧ n ≤ 1000000000000000) then (1, 0) else if w = 0 then (0, swC f 18 n 1) else (0, pwR (pwC f 18 n 1))
set_option maxRecDepth 100000 in
set_option maxHeartbeats 4000000 in
theorem c_mskip {κ : Kx} (hκ : KOK κ) {d : Nat} {f n w : Int} {G : Wd} (hf : R32 f) (hn : R64 n) (hw : R32 w) (hd : 3 ≤ d) : Ct κ MX12_skip d 0 0 [VR 145, VI f, VL n, VI w] (Wm G) (mpL G [2] [] [] (skipP f n w)) noX := by
  refine Ct_of hκ kX12_skip.1 rfl (Nat.le_of_ble_eq_true rfl) (ls := [some (VR 145), some (VI f), some (VL n), none, some (VI w)]) rfl (fun μ => ?_)
  have f0 : FM [2] [] [] G (uI G 145 2 0) := (FM.refl _ _ _ _).s (by decide)
  have no : ¬ ((1 ≤ f ∧ f ≤ 9) ∧ 1 ≤ n ∧ n ≤ 1000000000000000) → V κ MX12_skip (rmD d 0 0) (mpL G [2] [] [] (skipP f n w)) noX 0 0 μ 0 0 (Wm (uI G 145 2 0)) 28 [some (VR 145), some (VI f), some (VL n), none, some (VI w)] [] := fun h => by
    refine V_ex sX12_skip_28 (by rfl) (by first | exact trivial | exact Or.inr rfl | exact Or.inl rfl | (simp only [ob, obA, R32, R64] at *; omega) | (simp only [ob, obA, R32, R64] at *; and_intros <;> omega)) ?_
    refine V_callV (M := MX12_skip) (N := MX12_fail) dX12_skip_30 lRX12_324 kX12_fail rfl (rfl) rfl (c_mfail (d := 2) hκ) rfl rfl (Nat.le_of_ble_eq_true rfl) (fit_rm (by omega)) (⟨Nat.le_of_ble_eq_true rfl, Nat.le_of_ble_eq_true rfl⟩) (fun v Ω' hp => ?_) (fun _ _ h => h.elim)
    obtain ⟨rfl, rfl⟩ := hp
    refine V_ex sX12_skip_33 (by rfl) (by first | exact trivial | exact Or.inr rfl | exact Or.inl rfl | (simp only [ob, obA, R32, R64] at *; omega) | (simp only [ob, obA, R32, R64] at *; and_intros <;> omega)) ?_
    refine V_lret dX12_skip_34 rfl (by decide) ⟨by rw [skipP, if_pos h], _, rfl, f0.s (by decide), by rw [skipP, if_pos h]; simp [upd2_eq]⟩
  refine V_ex sX12_skip_0 (by simp only [Option.toList, List.cons_append, List.nil_append, exN, ex1, gI, gL, gR, pI, pL, pR, lget, lset1, lset2, kl, b2I, b2L, nob, ob32, ob64, xGet, xPut, xLen, xLd, xLdR, xSt, obA, true_and, and_true, and_self, eq_self, Nat.reduceEqDiff, Nat.zero_ne_one, reduceIte, Nat.reduceLeDiff, and_false, false_and, show skd 11 2 = 0 from rfl, show LF.1 145 = some (.inl 11) from rfl, upd2_eq, Int.reduceToNat, Int.toNat_natCast]; rfl) (by first | exact trivial | exact Or.inr rfl | exact Or.inl rfl | (simp only [ob, obA, R32, R64] at *; omega) | (simp only [ob, obA, R32, R64] at *; and_intros <;> omega)) ?_
  refine V_callS (M := MX12_skip) (N := MX12_isIn) dX12_skip_11 lRX12_178 kX12_isIn rfl (c_misIn (d := 2) hκ (by simp only [R32, R64] at *; omega) (by unfold R64; omega) (by unfold R64; omega)) rfl rfl (Nat.le_of_ble_eq_true rfl) (fit_rm (by omega)) (⟨Nat.le_of_ble_eq_true rfl, Nat.le_of_ble_eq_true rfl⟩) (fun v Ω' hp => ?_) (fun _ _ h => h.elim)
  obtain ⟨rfl, rfl⟩ := hp
  refine V_ifeqB dX12_skip_14 (tgt := 28) (by decide) (fun q14 => ?_) (fun q14 => ?_)
  · have h1 := of_decide_eq_false q14
    exact no (by omega)
  · have h1 := of_decide_eq_true q14
    refine V_ex sX12_skip_17 (by rfl) (by first | exact trivial | exact Or.inr rfl | exact Or.inl rfl | (simp only [ob, obA, R32, R64] at *; omega) | (simp only [ob, obA, R32, R64] at *; and_intros <;> omega)) ?_
    refine V_callS (M := MX12_skip) (N := MX12_isIn) dX12_skip_22 lRX12_178 kX12_isIn rfl (c_misIn (d := 2) hκ hn (by unfold R64; omega) (by unfold R64; omega)) rfl rfl (Nat.le_of_ble_eq_true rfl) (fit_rm (by omega)) (⟨Nat.le_of_ble_eq_true rfl, Nat.le_of_ble_eq_true rfl⟩) (fun v Ω' hp => ?_) (fun _ _ h => h.elim)
    obtain ⟨rfl, rfl⟩ := hp
    refine V_ifneB dX12_skip_25 (tgt := 35) (by decide) (fun q25 => ?_) (fun q25 => ?_)
    · have h2 := of_decide_eq_true q25
      refine V_ex sX12_skip_35 (by rfl) (by first | exact trivial | exact Or.inr rfl | exact Or.inl rfl | (simp only [ob, obA, R32, R64] at *; omega) | (simp only [ob, obA, R32, R64] at *; and_intros <;> omega)) ?_
      refine V_ifeq dX12_skip_37 (tgt := 48) (by decide) (by simp only [R32, R64] at *; omega) (fun q37 => ?_) (fun q37 => ?_)
      · refine V_ex sX12_skip_48 (by rfl) (by first | exact trivial | exact Or.inr rfl | exact Or.inl rfl | (simp only [ob, obA, R32, R64] at *; omega) | (simp only [ob, obA, R32, R64] at *; and_intros <;> omega)) ?_
        refine V_callS (M := MX12_skip) (N := MX12_withoutFigure) dX12_skip_50 lRX12_369 kX12_withoutFigure rfl (c_mwithoutFigure (d := 2) hκ hf hn (by omega)) rfl rfl (Nat.le_of_ble_eq_true rfl) (fit_rm (by omega)) (⟨Nat.le_of_ble_eq_true rfl, Nat.le_of_ble_eq_true rfl⟩) (fun v Ω' hp => ?_) (fun _ _ h => h.elim)
        obtain ⟨rfl, rfl⟩ := hp
        refine V_lret dX12_skip_53 rfl (by decide) ⟨by rw [skipP, if_neg (not_not_intro ⟨h1, h2⟩), if_pos q37], _, rfl, f0, by rw [skipP, if_neg (not_not_intro ⟨h1, h2⟩), if_pos q37]; simp [upd2_eq]⟩
      · refine V_ex sX12_skip_40 (by rfl) (by first | exact trivial | exact Or.inr rfl | exact Or.inl rfl | (simp only [ob, obA, R32, R64] at *; omega) | (simp only [ob, obA, R32, R64] at *; and_intros <;> omega)) ?_
        refine V_callS (M := MX12_skip) (N := MX12_rankWithout) dX12_skip_42 lRX12_378 kX12_rankWithout rfl (c_mrankWithout (d := 2) hκ hf hn (by omega)) rfl rfl (Nat.le_of_ble_eq_true rfl) (fit_rm (by omega)) (⟨Nat.le_of_ble_eq_true rfl, Nat.le_of_ble_eq_true rfl⟩) (fun v Ω' hp => ?_) (fun _ _ h => h.elim)
        obtain ⟨rfl, rfl⟩ := hp
        refine V_goto dX12_skip_45 (tgt := 53) (by decide) ?_
        refine V_lret dX12_skip_53 rfl (by decide) ⟨by rw [skipP, if_neg (not_not_intro ⟨h1, h2⟩), if_neg q37], _, rfl, f0, by rw [skipP, if_neg (not_not_intro ⟨h1, h2⟩), if_neg q37]; simp [upd2_eq]⟩
    · have h2 := of_decide_eq_false q25
      exact no (by omega)
theorem rt_lt {q v B : Int} (h : q * q ≤ v) (hv : v < B * B) (hB : 0 ≤ B) : q < B := by
  rcases Int.lt_or_le q B with c | c
  · exact c
  · have := sq_mono hB c; omega
def isSewn (s L : Int) : Prop := 2 ≤ L ∧ L % 2 = 0 ∧ (2 * L + 1) * (L - 2) = s
theorem sew_mono {x y : Int} (h0 : 2 ≤ x) (h : x ≤ y) : (2 * x + 1) * (x - 2) ≤ (2 * y + 1) * (y - 2) := Int.mul_le_mul (by omega) (by omega) (by omega) (by omega)
theorem sew_lt {x y : Int} (h0 : 2 ≤ x) (h : x < y) : (2 * x + 1) * (x - 2) < (2 * y + 1) * (y - 2) := by
  have h1 := sew_mono h0 (show x ≤ y - 1 by omega)
  have h2 : (2 * y + 1) * (y - 2) = (2 * (y - 1) + 1) * (y - 1 - 2) + (4 * y - 5) := by grind
  omega
theorem isSewn_uni {s x y : Int} (h : isSewn s x) (h' : isSewn s y) : x = y := by
  obtain ⟨a, b, c⟩ := h
  obtain ⟨a', b', c'⟩ := h'
  rcases Int.lt_trichotomy x y with q | q | q
  · have := sew_lt a q; omega
  · exact q
  · have := sew_lt a' q; omega
noncomputable def sewnV (s : Int) : Int := Classical.epsilon (fun r => isSewn s r ∨ r = -1 ∧ ¬ ∃ L, isSewn s L)
theorem sewnV_ok (s : Int) : isSewn s (sewnV s) ∨ sewnV s = -1 ∧ ¬ ∃ L, isSewn s L := Classical.epsilon_spec (p := fun r => isSewn s r ∨ r = -1 ∧ ¬ ∃ L, isSewn s L) (by
  by_cases h : ∃ L, isSewn s L
  · obtain ⟨L, h⟩ := h; exact ⟨L, Or.inl h⟩
  · exact ⟨-1, Or.inr ⟨rfl, h⟩⟩)
theorem sewnV_is {s L : Int} (h : isSewn s L) : sewnV s = L := by
  rcases sewnV_ok s with q | q
  · exact isSewn_uni q h
  · exact absurd ⟨L, h⟩ q.2
theorem sewnV_no {s : Int} (h : ∀ L, ¬ isSewn s L) : sewnV s = -1 := by
  rcases sewnV_ok s with q | q
  · exact absurd q (h _)
  · exact q.1
noncomputable def sewnP (s : Int) : Int × Int := if ¬ (1 ≤ s ∧ s ≤ 1000000000000000000) then (1, 0) else (0, sewnV s)
theorem sew_e (n : Int) : 2 * n * n - 3 * n - 2 = (2 * n + 1) * (n - 2) := by grind
set_option maxRecDepth 100000 in
set_option maxHeartbeats 4000000 in
theorem c_msewn {κ : Kx} (hκ : KOK κ) {d : Nat} {s : Int} {G : Wd} (hs : R64 s) (hd : 3 ≤ d) : Ct κ MX12_sewn d 0 0 [VR 145, VL s] (Wm G) (mpL G [2] [] [] (sewnP s)) noX := by
  refine Ct_of hκ kX12_sewn.1 rfl (Nat.le_of_ble_eq_true rfl) (ls := [some (VR 145), some (VL s), none, none, none]) rfl (fun μ => ?_)
  have f0 : FM [2] [] [] G (uI G 145 2 0) := (FM.refl _ _ _ _).s (by decide)
  have last : ∀ (p : Int), (1 ≤ s ∧ s ≤ 1000000000000000000) → 2 ≤ p → p ≤ 800000000 → (p = 2 ∨ (2 * (p - 1) + 1) * (p - 1 - 2) < s) → s ≤ (2 * p + 1) * (p - 2) → V κ MX12_sewn (rmD d 0 0) (mpL G [2] [] [] (sewnP s)) noX 0 0 μ 0 0 (Wm (uI G 145 2 0)) 67 [some (VR 145), some (VL s), none, some (VL p), none] [] := fun p hsum h2 h3 h4 h5 => by
    have hb := mul_bd (A := 1600000001) (B := 800000000) (show 0 ≤ 2 * p + 1 by omega) (by omega) (show 0 ≤ p - 2 by omega) (by omega)
    have only : ∀ L, isSewn s L → L = p := fun L ⟨l1, l2, l3⟩ => by
      rcases Int.lt_trichotomy L p with c | c | c
      · have := sew_mono l1 (show L ≤ p - 1 by omega); omega
      · exact c
      · have := sew_lt h2 c; omega
    have no : ¬ isSewn s p → V κ MX12_sewn (rmD d 0 0) (mpL G [2] [] [] (sewnP s)) noX 0 0 μ 0 0 (Wm (uI G 145 2 0)) 103 [some (VR 145), some (VL s), none, some (VL p), none] [] := fun h => by
      have hv := sewnV_no (s := s) (fun L hL => h (by rw [← only L hL]; exact hL))
      refine V_ex sX12_sewn_103 (by rfl) (by first | exact trivial | exact Or.inr rfl | exact Or.inl rfl | (simp only [ob, obA, R32, R64] at *; omega) | (simp only [ob, obA, R32, R64] at *; and_intros <;> omega)) ?_
      refine V_lret dX12_sewn_106 rfl (by decide) ⟨by rw [sewnP, if_neg (not_not_intro hsum), hv], _, rfl, f0, by rw [sewnP, if_neg (not_not_intro hsum)]; simp [upd2_eq]⟩
    refine V_ex sX12_sewn_67 (by rfl) (by rw [tm_nn (by omega)]; exact ⟨⟨by unfold R64; omega, by unfold R64; omega, by decide⟩, by unfold R64; omega, by unfold R64; omega⟩) ?_
    rw [tm_nn (by omega)]
    refine V_lifne dX12_sewn_74 (tgt := 103) (by decide) (fun q74 => ?_) (fun q74 => ?_)
    · exact no (fun ⟨_, q, _⟩ => q74 q)
    · refine V_ex sX12_sewn_77 (by rfl) (by rw [sew_e]; exact ⟨by unfold R64; omega, hs⟩) ?_
      rw [sew_e]
      refine V_lifne dX12_sewn_96 (tgt := 103) (by decide) (fun q96 => ?_) (fun q96 => ?_)
      · exact no (fun ⟨_, _, q⟩ => q96 q)
      · refine V_ex sX12_sewn_99 (by rfl) (by first | exact trivial | exact Or.inr rfl | exact Or.inl rfl | (simp only [ob, obA, R32, R64] at *; omega) | (simp only [ob, obA, R32, R64] at *; and_intros <;> omega)) ?_
        refine V_goto dX12_sewn_100 (tgt := 106) (by decide) ?_
        refine V_lret dX12_sewn_106 rfl (by decide) ⟨by rw [sewnP, if_neg (not_not_intro hsum), sewnV_is ⟨h2, q74, q96⟩], _, rfl, f0, by rw [sewnP, if_neg (not_not_intro hsum)]; simp [upd2_eq]⟩
  have climb : ∀ (n : Nat) (p : Int), (1 ≤ s ∧ s ≤ 1000000000000000000) → 2 ≤ p → p ≤ 800000000 → 800000000 - p ≤ n → (p = 2 ∨ (2 * (p - 1) + 1) * (p - 1 - 2) < s) → V κ MX12_sewn (rmD d 0 0) (mpL G [2] [] [] (sewnP s)) noX 0 0 μ 0 0 (Wm (uI G 145 2 0)) 38 [some (VR 145), some (VL s), none, some (VL p), none] [] := by
    intro n
    induction n with
    | zero =>
      intro p hsum h2 h3 h4 h5
      obtain rfl : p = 800000000 := by omega
      refine V_ex sX12_sewn_38 (by rfl) (by exact ⟨by unfold R64; omega, hs⟩) ?_
      refine V_lifge dX12_sewn_57 (tgt := 67) (by decide) (fun q57 => ?_) (fun q57 => ?_)
      · exact last _ hsum h2 h3 h5 (by omega)
      · omega
    | succ n ih =>
      intro p hsum h2 h3 h4 h5
      have hb := mul_bd (A := 1600000001) (B := 800000000) (show 0 ≤ 2 * p + 1 by omega) (by omega) (show 0 ≤ p - 2 by omega) (by omega)
      have hp8 : (2 * p + 1) * (p - 2) < s → p < 800000000 := fun h => by
        rcases Int.lt_or_le p 800000000 with c | c
        · exact c
        · have := sew_mono (show (2 : Int) ≤ 800000000 by decide) c; omega
      refine V_ex sX12_sewn_38 (by rfl) (by rw [sew_e]; exact ⟨by unfold R64; omega, hs⟩) ?_
      rw [sew_e]
      refine V_lifge dX12_sewn_57 (tgt := 67) (by decide) (fun q57 => ?_) (fun q57 => ?_)
      · exact last _ hsum h2 h3 h5 q57
      · refine V_ex sX12_sewn_60 (by rfl) (by first | exact trivial | exact Or.inr rfl | exact Or.inl rfl | (simp only [ob, obA, R32, R64] at *; omega) | (simp only [ob, obA, R32, R64] at *; and_intros <;> omega)) ?_
        refine V_goto dX12_sewn_64 (tgt := 38) (by decide) ?_
        exact ih (p + 1) hsum (by omega) (by have := hp8 q57; omega) (by omega) (Or.inr (by rw [show p + 1 - 1 = p by omega]; exact q57))
  refine V_ex sX12_sewn_0 (by simp only [Option.toList, List.cons_append, List.nil_append, exN, ex1, gI, gL, gR, pI, pL, pR, lget, lset1, lset2, kl, b2I, b2L, nob, ob32, ob64, xGet, xPut, xLen, xLd, xLdR, xSt, obA, true_and, and_true, and_self, eq_self, Nat.reduceEqDiff, Nat.zero_ne_one, reduceIte, Nat.reduceLeDiff, and_false, false_and, show skd 11 2 = 0 from rfl, show LF.1 145 = some (.inl 11) from rfl, upd2_eq, Int.reduceToNat, Int.toNat_natCast]; rfl) (by first | exact trivial | exact Or.inr rfl | exact Or.inl rfl | (simp only [ob, obA, R32, R64] at *; omega) | (simp only [ob, obA, R32, R64] at *; and_intros <;> omega)) ?_
  refine V_callS (M := MX12_sewn) (N := MX12_isSum) dX12_sewn_6 lRX12_452 kX12_isSum rfl (c_misSum (d := 2) hκ hs (by omega)) rfl rfl (Nat.le_of_ble_eq_true rfl) (fit_rm (by omega)) (⟨Nat.le_of_ble_eq_true rfl, Nat.le_of_ble_eq_true rfl⟩) (fun v Ω' hp => ?_) (fun _ _ h => h.elim)
  obtain ⟨rfl, rfl⟩ := hp
  refine V_ifneB dX12_sewn_9 (tgt := 19) (by decide) (fun q9 => ?_) (fun q9 => ?_)
  · have hsum := of_decide_eq_true q9
    refine V_ex sX12_sewn_19 (by rfl) (by exact ⟨hs, by unfold R64; omega, by decide⟩) ?_
    rw [td_nn (by omega)]
    refine V_callS (M := MX12_sewn) (N := MX12_root) dX12_sewn_27 lRX12_443 kX12_root rfl (c_mroot (d := 2) hκ (v := s / 2) (by omega)) rfl rfl (Nat.le_of_ble_eq_true rfl) (fit_rm (by omega)) (⟨Nat.le_of_ble_eq_true rfl, Nat.le_of_ble_eq_true rfl⟩) (fun v Ω' hp => ?_) (fun _ _ h => h.elim)
    obtain ⟨q, ⟨q0, q1, q2, q3⟩, rfl, rfl⟩ := hp
    have hq8 : q < 710000000 := rt_lt q2 (by omega) (by omega)
    have hbelow : 5 ≤ q → (2 * (q - 2 - 1) + 1) * (q - 2 - 1 - 2) < s := fun h => by have e : (2 * (q - 2 - 1) + 1) * (q - 2 - 1 - 2) = 2 * (q * q) - 15 * q + 25 := (by grind); rw [e]; omega
    refine V_ex sX12_sewn_30 (by rfl) (by first | exact trivial | exact Or.inr rfl | exact Or.inl rfl | (simp only [ob, obA, R32, R64] at *; omega) | (simp only [ob, obA, R32, R64] at *; and_intros <;> omega)) ?_
    refine V_mmaxl (M := MX12_sewn) dX12_sewn_34 lRX12_446 (by unfold R64; omega) (Nat.le_of_ble_eq_true rfl) (fit_rm (by omega)) ⟨Nat.le_refl _, Nat.le_refl _⟩ ?_
    refine V_ex sX12_sewn_37 (by rfl) (by first | exact trivial | exact Or.inr rfl | exact Or.inl rfl | (simp only [ob, obA, R32, R64] at *; omega) | (simp only [ob, obA, R32, R64] at *; and_intros <;> omega)) ?_
    by_cases hc : q - 2 < 2
    · rw [if_pos hc]; exact climb 800000000 _ hsum (by omega) (by omega) (by omega) (Or.inl rfl)
    · rw [if_neg hc]; exact climb 800000000 _ hsum (by omega) (by omega) (by omega) (if h5 : 5 ≤ q then Or.inr (hbelow h5) else Or.inl (by omega))
  · refine V_ex sX12_sewn_12 (by rfl) (by first | exact trivial | exact Or.inr rfl | exact Or.inl rfl | (simp only [ob, obA, R32, R64] at *; omega) | (simp only [ob, obA, R32, R64] at *; and_intros <;> omega)) ?_
    refine V_callV (M := MX12_sewn) (N := MX12_fail) dX12_sewn_14 lRX12_324 kX12_fail rfl (rfl) rfl (c_mfail (d := 2) hκ) rfl rfl (Nat.le_of_ble_eq_true rfl) (fit_rm (by omega)) (⟨Nat.le_of_ble_eq_true rfl, Nat.le_of_ble_eq_true rfl⟩) (fun v Ω' hp => ?_) (fun _ _ h => h.elim)
    obtain ⟨rfl, rfl⟩ := hp
    refine V_ex sX12_sewn_17 (by rfl) (by first | exact trivial | exact Or.inr rfl | exact Or.inl rfl | (simp only [ob, obA, R32, R64] at *; omega) | (simp only [ob, obA, R32, R64] at *; and_intros <;> omega)) ?_
    refine V_lret dX12_sewn_18 rfl (by decide) ⟨by rw [sewnP, if_pos (of_decide_eq_false q9)], _, rfl, f0.s (by decide), by rw [sewnP, if_pos (of_decide_eq_false q9)]; simp [upd2_eq]⟩
def isHou (s e n : Int) : Prop := 1 ≤ n ∧ s < n * (n + e) ∧ (n - 1) * (n - 1 + e) ≤ s
theorem hou_mono {e x y : Int} (he : 0 ≤ e) (h0 : 0 ≤ x) (h : x ≤ y) : x * (x + e) ≤ y * (y + e) := Int.mul_le_mul h (by omega) (by omega) (by omega)
theorem isHou_uni {s e n m : Int} (he : 0 ≤ e) (h : isHou s e n) (h' : isHou s e m) : n = m := by
  obtain ⟨a, b, c⟩ := h
  obtain ⟨a', b', c'⟩ := h'
  rcases Int.lt_trichotomy n m with q | q | q
  · have := hou_mono he (by omega) (show n ≤ m - 1 by omega); omega
  · exact q
  · have := hou_mono he (by omega) (show m ≤ n - 1 by omega); omega
noncomputable def theH (s e : Int) : Int := Classical.epsilon (isHou s e)
theorem theH_eq {s e n : Int} (he : 0 ≤ e) (h : isHou s e n) : theH s e = n := isHou_uni he (Classical.epsilon_spec ⟨n, h⟩) h
noncomputable def streetP (s e w : Int) : Int × Int := if ¬ (0 ≤ e ∧ e ≤ 1) then (1, 0) else if ¬ (1 ≤ s ∧ s ≤ 1000000000000000000) then (2, 0) else if (theH s e * (theH s e + e) - s) % 2 = e then (0, -1) else if w = 0 then (0, theH s e) else (0, theH s e * (theH s e + e) - s)
set_option maxRecDepth 100000 in
set_option maxHeartbeats 4000000 in
theorem c_mstreet {κ : Kx} (hκ : KOK κ) {d : Nat} {s e w : Int} {G : Wd} (hs : R64 s) (he : R32 e) (hw : R32 w) (hd : 3 ≤ d) : Ct κ MX12_street d 0 0 [VR 145, VL s, VI e, VI w] (Wm G) (mpL G [2] [] [] (streetP s e w)) noX := by
  refine Ct_of hκ kX12_street.1 rfl (Nat.le_of_ble_eq_true rfl) (ls := [some (VR 145), some (VL s), none, some (VI e), some (VI w), none, none, none, none, none, none]) rfl (fun μ => ?_)
  have f0 : FM [2] [] [] G (uI G 145 2 0) := (FM.refl _ _ _ _).s (by decide)
  have last : ∀ (n : Int), (0 ≤ e ∧ e ≤ 1) → (1 ≤ s ∧ s ≤ 1000000000000000000) → isHou s e n → n ≤ 1500000000 → V κ MX12_street (rmD d 0 0) (mpL G [2] [] [] (streetP s e w)) noX 0 0 μ 0 0 (Wm (uI G 145 2 0)) 72 [some (VR 145), some (VL s), none, some (VI e), some (VI w), some (VL n), none, none, none, none, none] [] := fun n h1 hsum hn hn2 => by
    have hH := theH_eq h1.1 hn
    obtain ⟨n1, n2, n3⟩ := hn
    have hb := mul_bd (A := 1500000000) (B := 1500000001) (show 0 ≤ n by omega) hn2 (show 0 ≤ n + e by omega) (by omega)
    have hle : n * (n + e) - s ≤ 2 * n - 1 + e := by
      have : n * (n + e) = (n - 1) * (n - 1 + e) + (2 * n - 1 + e) := by grind
      omega
    refine V_ex sX12_street_72 (by rfl) (by exact ⟨he, he, by unfold R64; omega, by unfold R64; omega⟩) ?_
    refine V_lifgt dX12_street_102 (tgt := 119) (by decide) (fun q102 => ?_) (fun q102 => ?_)
    · omega
    · refine V_ex sX12_street_105 (by rfl) (by rw [tm_nn (by omega)]; exact ⟨⟨by unfold R64; omega, by unfold R64; omega, by decide⟩, he, by unfold R64; omega, by unfold R64; omega⟩) ?_
      rw [tm_nn (by omega)]
      refine V_lifeq dX12_street_116 (tgt := 123) (by decide) (fun q116 => ?_) (fun q116 => ?_)
      · refine V_ex sX12_street_123 (by rfl) (by first | exact trivial | exact Or.inr rfl | exact Or.inl rfl | (simp only [ob, obA, R32, R64] at *; omega) | (simp only [ob, obA, R32, R64] at *; and_intros <;> omega)) ?_
        refine V_ifeq dX12_street_125 (tgt := 133) (by decide) (by simp only [R32, R64] at *; omega) (fun q125 => ?_) (fun q125 => ?_)
        · refine V_ex sX12_street_133 (by rfl) (by first | exact trivial | exact Or.inr rfl | exact Or.inl rfl | (simp only [ob, obA, R32, R64] at *; omega) | (simp only [ob, obA, R32, R64] at *; and_intros <;> omega)) ?_
          refine V_lret dX12_street_135 rfl (by decide) ⟨by rw [streetP, if_neg (not_not_intro h1), if_neg (not_not_intro hsum), hH, if_neg (by omega), if_pos q125], _, rfl, f0, by rw [streetP, if_neg (not_not_intro h1), if_neg (not_not_intro hsum), hH, if_neg (by omega), if_pos q125]; simp [upd2_eq]⟩
        · refine V_ex sX12_street_128 (by rfl) (by first | exact trivial | exact Or.inr rfl | exact Or.inl rfl | (simp only [ob, obA, R32, R64] at *; omega) | (simp only [ob, obA, R32, R64] at *; and_intros <;> omega)) ?_
          refine V_goto dX12_street_130 (tgt := 135) (by decide) ?_
          refine V_lret dX12_street_135 rfl (by decide) ⟨by rw [streetP, if_neg (not_not_intro h1), if_neg (not_not_intro hsum), hH, if_neg (by omega), if_neg q125], _, rfl, f0, by rw [streetP, if_neg (not_not_intro h1), if_neg (not_not_intro hsum), hH, if_neg (by omega), if_neg q125]; simp [upd2_eq]⟩
      · refine V_ex sX12_street_119 (by rfl) (by first | exact trivial | exact Or.inr rfl | exact Or.inl rfl | (simp only [ob, obA, R32, R64] at *; omega) | (simp only [ob, obA, R32, R64] at *; and_intros <;> omega)) ?_
        refine V_lret dX12_street_122 rfl (by decide) ⟨by rw [streetP, if_neg (not_not_intro h1), if_neg (not_not_intro hsum), hH, if_pos (by omega)], _, rfl, f0, by rw [streetP, if_neg (not_not_intro h1), if_neg (not_not_intro hsum), hH, if_pos (by omega)]; simp [upd2_eq]⟩
  have climb : ∀ (k : Nat) (n : Int), (0 ≤ e ∧ e ≤ 1) → (1 ≤ s ∧ s ≤ 1000000000000000000) → 1 ≤ n → n ≤ 1500000000 → 1500000000 - n ≤ k → (n - 1) * (n - 1 + e) ≤ s → V κ MX12_street (rmD d 0 0) (mpL G [2] [] [] (streetP s e w)) noX 0 0 μ 0 0 (Wm (uI G 145 2 0)) 50 [some (VR 145), some (VL s), none, some (VI e), some (VI w), some (VL n), none, none, none, none, none] [] := by
    intro k
    induction k with
    | zero =>
      intro n h1 hsum hn hn2 hk h3
      obtain rfl : n = 1500000000 := by omega
      have e0 : (1500000000 : Int) * (1500000000 + e) = 2250000000000000000 + 1500000000 * e := by omega
      refine V_ex sX12_street_50 (by rfl) (by exact ⟨he, by rw [e0]; unfold R64; omega, hs⟩) ?_
      refine V_lifgt dX12_street_60 (tgt := 72) (by decide) (fun q60 => ?_) (fun q60 => ?_)
      · exact last _ h1 hsum ⟨hn, q60, h3⟩ hn2
      · omega
    | succ k ih =>
      intro n h1 hsum hn hn2 hk h3
      have hb := mul_bd (A := 1500000000) (B := 1500000001) (show 0 ≤ n by omega) hn2 (show 0 ≤ n + e by omega) (by omega)
      have hp8 : n * (n + e) ≤ s → n < 1500000000 := fun h => by
        rcases Int.lt_or_le n 1500000000 with c | c
        · exact c
        · have := hou_mono h1.1 (show (0 : Int) ≤ 1500000000 by decide) c; omega
      refine V_ex sX12_street_50 (by rfl) (by exact ⟨he, by unfold R64; omega, hs⟩) ?_
      refine V_lifgt dX12_street_60 (tgt := 72) (by decide) (fun q60 => ?_) (fun q60 => ?_)
      · exact last _ h1 hsum ⟨hn, q60, h3⟩ hn2
      · refine V_ex sX12_street_63 (by rfl) (by first | exact trivial | exact Or.inr rfl | exact Or.inl rfl | (simp only [ob, obA, R32, R64] at *; omega) | (simp only [ob, obA, R32, R64] at *; and_intros <;> omega)) ?_
        refine V_goto dX12_street_69 (tgt := 50) (by decide) ?_
        exact ih (n + 1) h1 hsum (by omega) (by have := hp8 q60; omega) (by omega) (by rw [show n + 1 - 1 = n by omega]; exact q60)
  refine V_ex sX12_street_0 (by simp only [Option.toList, List.cons_append, List.nil_append, exN, ex1, gI, gL, gR, pI, pL, pR, lget, lset1, lset2, kl, b2I, b2L, nob, ob32, ob64, xGet, xPut, xLen, xLd, xLdR, xSt, obA, true_and, and_true, and_self, eq_self, Nat.reduceEqDiff, Nat.zero_ne_one, reduceIte, Nat.reduceLeDiff, and_false, false_and, show skd 11 2 = 0 from rfl, show LF.1 145 = some (.inl 11) from rfl, upd2_eq, Int.reduceToNat, Int.toNat_natCast]; rfl) (by first | exact trivial | exact Or.inr rfl | exact Or.inl rfl | (simp only [ob, obA, R32, R64] at *; omega) | (simp only [ob, obA, R32, R64] at *; and_intros <;> omega)) ?_
  refine V_callS (M := MX12_street) (N := MX12_isIn) dX12_street_9 lRX12_178 kX12_isIn rfl (c_misIn (d := 2) hκ (by simp only [R32, R64] at *; omega) (by unfold R64; omega) (by unfold R64; omega)) rfl rfl (Nat.le_of_ble_eq_true rfl) (fit_rm (by omega)) (⟨Nat.le_of_ble_eq_true rfl, Nat.le_of_ble_eq_true rfl⟩) (fun v Ω' hp => ?_) (fun _ _ h => h.elim)
  obtain ⟨rfl, rfl⟩ := hp
  refine V_ifneB dX12_street_12 (tgt := 22) (by decide) (fun q12 => ?_) (fun q12 => ?_)
  · have h1 := of_decide_eq_true q12
    refine V_ex sX12_street_22 (by rfl) (by first | exact trivial | exact Or.inr rfl | exact Or.inl rfl | (simp only [ob, obA, R32, R64] at *; omega) | (simp only [ob, obA, R32, R64] at *; and_intros <;> omega)) ?_
    refine V_callS (M := MX12_street) (N := MX12_isSum) dX12_street_23 lRX12_452 kX12_isSum rfl (c_misSum (d := 2) hκ hs (by omega)) rfl rfl (Nat.le_of_ble_eq_true rfl) (fit_rm (by omega)) (⟨Nat.le_of_ble_eq_true rfl, Nat.le_of_ble_eq_true rfl⟩) (fun v Ω' hp => ?_) (fun _ _ h => h.elim)
    obtain ⟨rfl, rfl⟩ := hp
    refine V_ifneB dX12_street_26 (tgt := 36) (by decide) (fun q26 => ?_) (fun q26 => ?_)
    · have hsum := of_decide_eq_true q26
      refine V_ex sX12_street_36 (by rfl) (by first | exact trivial | exact Or.inr rfl | exact Or.inl rfl | (simp only [ob, obA, R32, R64] at *; omega) | (simp only [ob, obA, R32, R64] at *; and_intros <;> omega)) ?_
      refine V_callS (M := MX12_street) (N := MX12_root) dX12_street_38 lRX12_443 kX12_root rfl (c_mroot (d := 2) hκ (v := s) (by omega)) rfl rfl (Nat.le_of_ble_eq_true rfl) (fit_rm (by omega)) (⟨Nat.le_of_ble_eq_true rfl, Nat.le_of_ble_eq_true rfl⟩) (fun v Ω' hp => ?_) (fun _ _ h => h.elim)
      obtain ⟨q, ⟨q0, q1, q2, q3⟩, rfl, rfl⟩ := hp
      have hq8 : q < 1100000000 := rt_lt q2 (by omega) (by omega)
      have hbelow : 3 ≤ q → (q - 2 - 1) * (q - 2 - 1 + e) ≤ s := fun h => by have := Int.mul_le_mul (show q - 2 - 1 ≤ q by omega) (show q - 2 - 1 + e ≤ q by omega) (by omega) q0; omega
      refine V_ex sX12_street_41 (by rfl) (by first | exact trivial | exact Or.inr rfl | exact Or.inl rfl | (simp only [ob, obA, R32, R64] at *; omega) | (simp only [ob, obA, R32, R64] at *; and_intros <;> omega)) ?_
      refine V_mmaxl (M := MX12_street) dX12_street_45 lRX12_446 (by unfold R64; omega) (Nat.le_of_ble_eq_true rfl) (fit_rm (by omega)) ⟨Nat.le_refl _, Nat.le_refl _⟩ ?_
      refine V_ex sX12_street_48 (by rfl) (by first | exact trivial | exact Or.inr rfl | exact Or.inl rfl | (simp only [ob, obA, R32, R64] at *; omega) | (simp only [ob, obA, R32, R64] at *; and_intros <;> omega)) ?_
      by_cases hc : q - 2 < 1
      · rw [if_pos hc]; exact climb 1500000000 _ h1 hsum (by omega) (by omega) (by omega) (by simp; omega)
      · rw [if_neg hc]; exact climb 1500000000 _ h1 hsum (by omega) (by omega) (by omega) (hbelow (by omega))
    · refine V_ex sX12_street_29 (by rfl) (by first | exact trivial | exact Or.inr rfl | exact Or.inl rfl | (simp only [ob, obA, R32, R64] at *; omega) | (simp only [ob, obA, R32, R64] at *; and_intros <;> omega)) ?_
      refine V_callV (M := MX12_street) (N := MX12_fail) dX12_street_31 lRX12_324 kX12_fail rfl (rfl) rfl (c_mfail (d := 2) hκ) rfl rfl (Nat.le_of_ble_eq_true rfl) (fit_rm (by omega)) (⟨Nat.le_of_ble_eq_true rfl, Nat.le_of_ble_eq_true rfl⟩) (fun v Ω' hp => ?_) (fun _ _ h => h.elim)
      obtain ⟨rfl, rfl⟩ := hp
      refine V_ex sX12_street_34 (by rfl) (by first | exact trivial | exact Or.inr rfl | exact Or.inl rfl | (simp only [ob, obA, R32, R64] at *; omega) | (simp only [ob, obA, R32, R64] at *; and_intros <;> omega)) ?_
      refine V_lret dX12_street_35 rfl (by decide) ⟨by rw [streetP, if_neg (not_not_intro h1), if_pos (of_decide_eq_false q26)], _, rfl, f0.s (by decide), by rw [streetP, if_neg (not_not_intro h1), if_pos (of_decide_eq_false q26)]; simp [upd2_eq]⟩
  · refine V_ex sX12_street_15 (by rfl) (by first | exact trivial | exact Or.inr rfl | exact Or.inl rfl | (simp only [ob, obA, R32, R64] at *; omega) | (simp only [ob, obA, R32, R64] at *; and_intros <;> omega)) ?_
    refine V_callV (M := MX12_street) (N := MX12_fail) dX12_street_17 lRX12_324 kX12_fail rfl (rfl) rfl (c_mfail (d := 2) hκ) rfl rfl (Nat.le_of_ble_eq_true rfl) (fit_rm (by omega)) (⟨Nat.le_of_ble_eq_true rfl, Nat.le_of_ble_eq_true rfl⟩) (fun v Ω' hp => ?_) (fun _ _ h => h.elim)
    obtain ⟨rfl, rfl⟩ := hp
    refine V_ex sX12_street_20 (by rfl) (by first | exact trivial | exact Or.inr rfl | exact Or.inl rfl | (simp only [ob, obA, R32, R64] at *; omega) | (simp only [ob, obA, R32, R64] at *; and_intros <;> omega)) ?_
    refine V_lret dX12_street_21 rfl (by decide) ⟨by rw [streetP, if_pos (of_decide_eq_false q12)], _, rfl, f0.s (by decide), by rw [streetP, if_pos (of_decide_eq_false q12)]; simp [upd2_eq]⟩
