/-! TornLeaves: what a call needs, and what it throws -/
abbrev exE (c : Prop) (cls : String) (G : Wd) : String → Om → Prop := fun E Ω' => c ∧ E = cls ∧ Ω' = Wm G
abbrev IAE : String := "java/lang/IllegalArgumentException"
abbrev NSE : String := "java/util/NoSuchElementException"
set_option maxRecDepth 100000 in
set_option maxHeartbeats 4000000 in
theorem c_needSum {κ : Kx} (hκ : KOK κ) {d : Nat} {s : Int} {G : Wd} (hs : R64 s) (hd : 6 ≤ d) : Ct κ MX11_needSum d 1 6 [VL s] (Wm G) (fun v Ω' => (1 ≤ s ∧ s ≤ 1000000000000000000) ∧ voidG G v Ω') (exE (¬ (1 ≤ s ∧ s ≤ 1000000000000000000)) IAE G) := by
  refine Ct_of hκ kX11_needSum.1 rfl (Nat.le_of_ble_eq_true rfl) (ls := [some (VL s), none]) rfl (fun μ => ?_)
  refine V_ex sX11_needSum_0 (by rfl) (by exact ⟨hs, by unfold R64; omega⟩) ?_
  refine V_liflt dX11_needSum_3 (tgt := 14) (by decide) (fun q => ?_) (fun q => ?_)
  · refine V_throw (M := MX11_needSum) (is := 174) (text := "no such sum") tC_iae (by decide +kernel) dX11_needSum_14 (by decide +kernel) dX11_needSum_18 dX11_needSum_20 dX11_needSum_23 rfl (Nat.le_of_ble_eq_true rfl) ⟨by show 6 ≤ d; omega, by show 100 ≤ 100 + 40 * d; omega⟩ ⟨Nat.le_of_ble_eq_true rfl, Nat.le_of_ble_eq_true rfl⟩ ⟨Nat.le_of_ble_eq_true rfl, Nat.le_of_ble_eq_true rfl⟩ ⟨by omega, rfl, rfl⟩
  · refine V_ex sX11_needSum_6 (by rfl) (by exact ⟨hs, by unfold R64; omega⟩) ?_
    refine V_lifle dX11_needSum_11 (tgt := 24) (by decide) (fun q2 => ?_) (fun q2 => ?_)
    · refine V_vret dX11_needSum_24 rfl (by decide) ⟨⟨q, q2⟩, rfl, rfl⟩
    · refine V_throw (M := MX11_needSum) (is := 174) (text := "no such sum") tC_iae (by decide +kernel) dX11_needSum_14 (by decide +kernel) dX11_needSum_18 dX11_needSum_20 dX11_needSum_23 rfl (Nat.le_of_ble_eq_true rfl) ⟨by show 6 ≤ d; omega, by show 100 ≤ 100 + 40 * d; omega⟩ ⟨Nat.le_of_ble_eq_true rfl, Nat.le_of_ble_eq_true rfl⟩ ⟨Nat.le_of_ble_eq_true rfl, Nat.le_of_ble_eq_true rfl⟩ ⟨by omega, rfl, rfl⟩
set_option maxRecDepth 100000 in
set_option maxHeartbeats 4000000 in
theorem c_needWithin {κ : Kx} (hκ : KOK κ) {d : Nat} {n lo hi : Int} {G : Wd} (hn : R64 n) (hlo : R64 lo) (hhi : R64 hi) (hd : 6 ≤ d) : Ct κ MX11_needWithin d 1 6 [VL n, VL lo, VL hi] (Wm G) (fun v Ω' => (lo ≤ n ∧ n ≤ hi) ∧ voidG G v Ω') (exE (¬ (lo ≤ n ∧ n ≤ hi)) IAE G) := by
  refine Ct_of hκ kX11_needWithin.1 rfl (Nat.le_of_ble_eq_true rfl) (ls := [some (VL n), none, some (VL lo), none, some (VL hi), none]) rfl (fun μ => ?_)
  refine V_ex sX11_needWithin_0 (by rfl) (by exact ⟨hn, hlo⟩) ?_
  refine V_liflt dX11_needWithin_3 (tgt := 13) (by decide) (fun q => ?_) (fun q => ?_)
  · refine V_throw (M := MX11_needWithin) (is := 176) (text := "a number is too small or too great") tC_iae (by decide +kernel) dX11_needWithin_13 (by decide +kernel) dX11_needWithin_17 dX11_needWithin_19 dX11_needWithin_22 rfl (Nat.le_of_ble_eq_true rfl) ⟨by show 6 ≤ d; omega, by show 100 ≤ 100 + 40 * d; omega⟩ ⟨Nat.le_of_ble_eq_true rfl, Nat.le_of_ble_eq_true rfl⟩ ⟨Nat.le_of_ble_eq_true rfl, Nat.le_of_ble_eq_true rfl⟩ ⟨by omega, rfl, rfl⟩
  · refine V_ex sX11_needWithin_6 (by rfl) (by exact ⟨hn, hhi⟩) ?_
    refine V_lifle dX11_needWithin_10 (tgt := 23) (by decide) (fun q2 => ?_) (fun q2 => ?_)
    · refine V_vret dX11_needWithin_23 rfl (by decide) ⟨⟨q, q2⟩, rfl, rfl⟩
    · refine V_throw (M := MX11_needWithin) (is := 176) (text := "a number is too small or too great") tC_iae (by decide +kernel) dX11_needWithin_13 (by decide +kernel) dX11_needWithin_17 dX11_needWithin_19 dX11_needWithin_22 rfl (Nat.le_of_ble_eq_true rfl) ⟨by show 6 ≤ d; omega, by show 100 ≤ 100 + 40 * d; omega⟩ ⟨Nat.le_of_ble_eq_true rfl, Nat.le_of_ble_eq_true rfl⟩ ⟨Nat.le_of_ble_eq_true rfl, Nat.le_of_ble_eq_true rfl⟩ ⟨by omega, rfl, rfl⟩
set_option maxRecDepth 100000 in
set_option maxHeartbeats 4000000 in
theorem c_needFigure {κ : Kx} (hκ : KOK κ) {d : Nat} {f : Int} {G : Wd} (hf : R32 f) (hd : 6 ≤ d) : Ct κ MX11_needFigure d 1 6 [VI f] (Wm G) (fun v Ω' => (0 ≤ f ∧ f ≤ 10) ∧ voidG G v Ω') (exE (¬ (0 ≤ f ∧ f ≤ 10)) NSE G) := by
  refine Ct_of hκ kX11_needFigure.1 rfl (Nat.le_of_ble_eq_true rfl) (ls := [some (VI f)]) rfl (fun μ => ?_)
  refine V_ex sX11_needFigure_0 (by rfl) (by first | exact trivial | exact Or.inl trivial | exact Or.inr rfl | exact Or.inl rfl) ?_
  refine V_iflt dX11_needFigure_1 (tgt := 10) (by decide) (by exact hf) (fun q => ?_) (fun q => ?_)
  · refine V_throw (M := MX11_needFigure) (is := 170) (text := "no such figure") tC_nse (by decide +kernel) dX11_needFigure_10 (by decide +kernel) dX11_needFigure_14 dX11_needFigure_16 dX11_needFigure_19 rfl (Nat.le_of_ble_eq_true rfl) ⟨by show 6 ≤ d; omega, by show 100 ≤ 100 + 40 * d; omega⟩ ⟨Nat.le_of_ble_eq_true rfl, Nat.le_of_ble_eq_true rfl⟩ ⟨Nat.le_of_ble_eq_true rfl, Nat.le_of_ble_eq_true rfl⟩ ⟨by omega, rfl, rfl⟩
  · refine V_ex sX11_needFigure_4 (by rfl) (by first | exact trivial | exact Or.inl trivial | exact Or.inr rfl | exact Or.inl rfl) ?_
    refine V_icmple dX11_needFigure_7 (tgt := 20) (by decide) (by exact ⟨hf, by unfold R32; omega⟩) (fun q2 => ?_) (fun q2 => ?_)
    · refine V_vret dX11_needFigure_20 rfl (by decide) ⟨⟨q, q2⟩, rfl, rfl⟩
    · refine V_throw (M := MX11_needFigure) (is := 170) (text := "no such figure") tC_nse (by decide +kernel) dX11_needFigure_10 (by decide +kernel) dX11_needFigure_14 dX11_needFigure_16 dX11_needFigure_19 rfl (Nat.le_of_ble_eq_true rfl) ⟨by show 6 ≤ d; omega, by show 100 ≤ 100 + 40 * d; omega⟩ ⟨Nat.le_of_ble_eq_true rfl, Nat.le_of_ble_eq_true rfl⟩ ⟨Nat.le_of_ble_eq_true rfl, Nat.le_of_ble_eq_true rfl⟩ ⟨by omega, rfl, rfl⟩
set_option maxRecDepth 100000 in
set_option maxHeartbeats 4000000 in
theorem c_needBook {κ : Kx} (hκ : KOK κ) {d s : Nat} {i : Int} {G : Wd} (hn : G.2.2 1 3 = s) (hS : SHa s) (hi : R32 i) (hb : R32 (G.1 s 1)) (hd : 6 ≤ d) : Ct κ MX11_needBook d 1 6 [VR 1, VI i] (Wm G) (fun v Ω' => bkAt G s i ≠ 0 ∧ keepG G (VR (bkAt G s i)) v Ω') (exE (bkAt G s i = 0) NSE G) := by
  refine Ct_of hκ kX11_needBook.1 rfl (Nat.le_of_ble_eq_true rfl) (ls := [some (VR 1), some (VI i), none]) rfl (fun μ => ?_)
  refine V_ex sX11_needBook_0 (by simp only [Option.toList, List.cons_append, List.nil_append, exN, ex1, gI, gL, gR, pI, pL, pR, lget, lset1, lset2, kl, b2I, b2L, nob, ob32, ob64, xGet, xPut, xLen, xLd, xLdR, xSt, obA, true_and, and_true, and_self, eq_self, Nat.reduceEqDiff, Nat.zero_ne_one, reduceIte, Nat.reduceLeDiff, and_false, false_and, show skd 10 3 = 3 from rfl, show LF.1 1 = some (.inl 10) from rfl, hn]; rfl) (by first | exact trivial | exact Or.inl trivial | exact Or.inr rfl | exact Or.inl rfl) ?_
  refine V_callV (M := MX11_needBook) (N := MX7_bookAt) (As := [VI i]) (rest := []) dX11_needBook_5 lRX11_148 kX7_bookAt rfl ((sh_facts hS).1) rfl (c_bookAt (d := 5) hκ hS hi hb) rfl rfl (Nat.le_of_ble_eq_true rfl) (fit_rm (by omega)) (⟨Nat.le_of_ble_eq_true rfl, Nat.le_of_ble_eq_true rfl⟩) (fun v Ω' hp => ?_) (fun _ _ h => h.elim)
  obtain ⟨rfl, rfl⟩ := hp
  refine V_ex sX11_needBook_8 (by rfl) (by first | exact trivial | exact Or.inl trivial | exact Or.inr rfl | exact Or.inl rfl) ?_
  refine V_ifnonnull dX11_needBook_10 (tgt := 23) (by decide) (fun q => ?_) (fun q => ?_)
  · refine V_ex sX11_needBook_23 (by rfl) (by first | exact trivial | exact Or.inl trivial | exact Or.inr rfl | exact Or.inl rfl) ?_
    refine V_aret dX11_needBook_24 rfl (by first | exact Or.inl ⟨_, rfl⟩ | exact Or.inr ⟨_, rfl⟩) (by decide) ⟨q, rfl, rfl⟩
  · refine V_throw (M := MX11_needBook) (is := 152) (text := "no such book") tC_nse (by decide +kernel) dX11_needBook_13 (by decide +kernel) dX11_needBook_17 dX11_needBook_19 dX11_needBook_22 rfl (Nat.le_of_ble_eq_true rfl) ⟨by show 6 ≤ d; omega, by show 100 ≤ 100 + 40 * d; omega⟩ ⟨Nat.le_of_ble_eq_true rfl, Nat.le_of_ble_eq_true rfl⟩ ⟨Nat.le_of_ble_eq_true rfl, Nat.le_of_ble_eq_true rfl⟩ ⟨q, rfl, rfl⟩
