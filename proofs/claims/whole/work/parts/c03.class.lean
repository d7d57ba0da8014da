/-! CONSTRUCTORS: the class, by program -/
def lX11 (Λ : Ly) (a : Nat) (n : Nat) : Ly := refL (lX1 (newL (refL (lX6 (newL (refL (lX10 (newL (refL (lX4 (newL (refL (newL (refL (newL (refL (lX2 (newL (refL (lX2 (newL (lX7 (newL (lX7 (newL (refL (lX8 (newL (refL (newL (Λ) (n + 1) (.inr (0, 500))) a 0 (n + 1)) (n + 2) (.inl 7)) (n + 2) (n + 2) (n + 1)) a 2 (n + 2)) (n + 7) (.inl 6)) (n + 7) (n + 7)) (n + 60) (.inl 6)) (n + 60) (n + 60)) (n + 113) (.inl 2)) (n + 113) (n + 113)) a 6 (n + 113)) (n + 120) (.inl 2)) (n + 120) (n + 120)) a 7 (n + 120)) (n + 127) (.inr (0, 24000))) a 9 (n + 127)) (n + 128) (.inr (0, 60))) a 10 (n + 128)) (n + 129) (.inl 3)) (n + 129) (n + 129)) a 11 (n + 129)) (n + 132) (.inl 9)) (n + 132) (n + 132)) a 12 (n + 132)) (n + 134) (.inl 5)) (n + 134) (n + 134)) a 13 (n + 134)) (n + 139) (.inl 1)) (n + 139) (n + 139)) a 14 (n + 139)
def gX11 (G : Wd) (a _n : Nat) : Wd := (gX1 (gX6 (gX2 (gX2 (uPi (uPn (gX7 (uPn (gX7 G (_n + 7) (_n + 7)) a 3 (_n + 7)) (_n + 60) (_n + 60)) a 4 (_n + 60)) a 5 (-1)) (_n + 113) (_n + 113)) (_n + 120) (_n + 120)) (_n + 134) (_n + 134)) (_n + 139) (_n + 139))
theorem zX11 {G : Wd} {a n m : Nat} (h0 : zF G m) (ha : a ≤ m) (hn : n + 143 ≤ m) : zF (gX11 G a n) m := (zX1 (zX6 (zX2 (zX2 (zF_u (zF_n (zX7 (zF_n (zX7 h0 (by omega) (by omega)) (by omega)) (by omega) (by omega)) (by omega)) (by omega)) (by omega) (by omega)) (by omega) (by omega)) (by omega) (by omega)) (by omega) (by omega))
theorem lX11_1 {Λ : Ly} {a n c : Nat} (h : c ≤ n) : (lX11 Λ a n).1 c = Λ.1 c := by unfold lX11; simp (disch := omega) only [newL_ne, refL_1, lX5_1, lX0_1, lX2_1, lX4_1, lX10_1, lX6_1, lX1_1, lX9_1, lX8_1, lX7_1]
set_option maxRecDepth 100000 in
set_option maxHeartbeats 4000000 in
theorem i_X11 {κ : Kx} (hκ : KOK κ) {d a n : Nat} {Λ : Ly} {G : Wd} (ha : 0 < a ∧ a ≤ n) (hn : n + 143 < 1000000) (hL : Λ.1 a = some (.inl 10)) (h0 : zF G n) (hd : 9 ≤ d) : Ct κ MX11_init d 143 32820 [VR a] (Λ, some n, G) (fun u Ω' => u = none ∧ Ω' = (lX11 Λ a n, some (n + 143), gX11 G a n)) noX := by
  refine Ct_of hκ kX11_init.1 rfl (Nat.le_of_ble_eq_true rfl) (ls := [some (VR a)]) rfl (fun μ => ?_)
  refine V_ex sX11_init_0 (by rfl) (by exact trivial) ?_
  refine V_objI (M := MX11_init) dX11_init_1 (by decide +kernel) ⟨by omega, by omega⟩ (Nat.le_of_ble_eq_true rfl) ⟨by show 1 ≤ d; omega, by show 30 ≤ 100 + 40 * d; omega⟩ ?_
  refine V_ex sX11_init_4 (by rfl) (by exact trivial) ?_
  refine V_newa (M := MX11_init) (N := 500) (k := 0) dX11_init_8 rfl (by decide) (by decide +kernel) (zF.mono h0 (by omega)) (by omega) (by decide) ⟨Nat.le_of_ble_eq_true rfl, Nat.le_of_ble_eq_true rfl⟩ ?_
  refine V_putF (M := MX11_init) (ci := 10) (k := 0) dX11_init_10 (by decide +kernel) rfl (by simp (disch := omega) only [newL_ne, refL_1, hL, lX5_1, lX0_1, lX2_1, lX4_1, lX10_1, lX6_1, lX1_1, lX9_1, lX8_1, lX7_1]) rfl ?_
  refine V_ex sX11_init_13 (by rfl) (by exact trivial) ?_
  refine V_new (M := MX11_init) (ci := 7) dX11_init_14 rfl (by decide +kernel) (by decide +kernel) (by decide +kernel) (zF.mono h0 (by omega)) (by omega) ⟨Nat.le_of_ble_eq_true rfl, Nat.le_of_ble_eq_true rfl⟩ ?_
  refine V_ex sX11_init_17 (by simp (disch := omega) only [Option.toList, List.cons_append, List.nil_append, exN, ex1, gI, gL, gR, pI, pL, pR, lget, lset1, lset2, kl, b2I, b2L, nob, ob32, ob64, xGet, xPut, xLen, xLd, xLdR, xSt, obA, true_and, and_true, and_self, eq_self, Nat.reduceEqDiff, Nat.zero_ne_one, reduceIte, Nat.reduceLeDiff, and_false, false_and, refL_at, refL_ne, newL2_ne, show skd 10 0 = 2 from rfl]; rfl) (by first | exact trivial | (simp (disch := omega) only [ob, obA, newL_ne, refL_1, hL, lX5_1, lX0_1, lX2_1, lX4_1, lX10_1, lX6_1, lX1_1, lX9_1, lX8_1, lX7_1]; done) | (simp (disch := omega) only [ob, obA, newL_ne, refL_1, hL, lX5_1, lX0_1, lX2_1, lX4_1, lX10_1, lX6_1, lX1_1, lX9_1, lX8_1, lX7_1, and_self])) ?_
  refine V_callI (M := MX11_init) (N := MX8_init) dX11_init_22 lRX11_15 kX8_init rfl rfl ⟨by omega, by omega⟩ (i_X8 (d := 3) hκ  ⟨by omega, by omega⟩ (by omega) (by simp only [newL_at]) (zF.mono h0 (by omega)) (by omega)) rfl rfl (Nat.le_of_ble_eq_true rfl) (fit_rm (by omega)) ⟨Nat.le_of_ble_eq_true rfl, Nat.le_of_ble_eq_true rfl⟩ (fun v Ω' hp => ?_) (fun _ _ h => h.elim)
  obtain ⟨rfl, rfl⟩ := hp
  refine V_putF (M := MX11_init) (ci := 10) (k := 2) dX11_init_25 (by decide +kernel) rfl (by simp (disch := omega) only [newL_ne, refL_1, hL, lX5_1, lX0_1, lX2_1, lX4_1, lX10_1, lX6_1, lX1_1, lX9_1, lX8_1, lX7_1]) rfl ?_
  refine V_ex sX11_init_28 (by rfl) (by exact trivial) ?_
  refine V_new (M := MX11_init) (ci := 6) dX11_init_29 rfl (by decide +kernel) (by decide +kernel) (by decide +kernel) (zF.mono h0 (by omega)) (by omega) ⟨Nat.le_of_ble_eq_true rfl, Nat.le_of_ble_eq_true rfl⟩ ?_
  refine V_ex sX11_init_32 (by rfl) (by exact trivial) ?_
  refine V_callI (M := MX11_init) (N := MX7_init) dX11_init_33 lRX11_24 kX7_init rfl rfl ⟨by omega, by omega⟩ (i_X7 (d := 6) hκ  ⟨by omega, by omega⟩ (by omega) (by simp only [newL_at]) (zF.mono h0 (by omega)) (by omega)) rfl rfl (Nat.le_of_ble_eq_true rfl) (fit_rm (by omega)) ⟨Nat.le_of_ble_eq_true rfl, Nat.le_of_ble_eq_true rfl⟩ (fun v Ω' hp => ?_) (fun _ _ h => h.elim)
  obtain ⟨rfl, rfl⟩ := hp
  have hz1 : zF (gX7 G (n + 7) (n + 7)) (n + 59) := zX7 (zF.mono h0 (by omega)) (by omega) (by omega)
  refine V_ex sX11_init_36 (by simp (disch := omega) only [Option.toList, List.cons_append, List.nil_append, exN, ex1, gI, gL, gR, pI, pL, pR, lget, lset1, lset2, kl, b2I, b2L, nob, ob32, ob64, xGet, xPut, xLen, xLd, xLdR, xSt, obA, true_and, and_true, and_self, eq_self, Nat.reduceEqDiff, Nat.zero_ne_one, reduceIte, Nat.reduceLeDiff, and_false, false_and, refL_at, refL_ne, newL2_ne, show skd 10 3 = 3 from rfl]; rfl) (by first | exact trivial | (simp (disch := omega) only [ob, obA, newL_ne, refL_1, hL, lX5_1, lX0_1, lX2_1, lX4_1, lX10_1, lX6_1, lX1_1, lX9_1, lX8_1, lX7_1]; done) | (simp (disch := omega) only [ob, obA, newL_ne, refL_1, hL, lX5_1, lX0_1, lX2_1, lX4_1, lX10_1, lX6_1, lX1_1, lX9_1, lX8_1, lX7_1, and_self])) ?_
  have hz2 : zF (uPn (gX7 G (n + 7) (n + 7)) a 3 (n + 7)) (n + 59) := zF_n (zF.mono hz1 (by omega)) (by omega)
  refine V_new (M := MX11_init) (ci := 6) dX11_init_40 rfl (by decide +kernel) (by decide +kernel) (by decide +kernel) (zF.mono hz2 (by omega)) (by omega) ⟨Nat.le_of_ble_eq_true rfl, Nat.le_of_ble_eq_true rfl⟩ ?_
  refine V_ex sX11_init_43 (by rfl) (by exact trivial) ?_
  refine V_callI (M := MX11_init) (N := MX7_init) dX11_init_44 lRX11_24 kX7_init rfl rfl ⟨by omega, by omega⟩ (i_X7 (d := 6) hκ  ⟨by omega, by omega⟩ (by omega) (by simp only [newL_at]) (zF.mono hz2 (by omega)) (by omega)) rfl rfl (Nat.le_of_ble_eq_true rfl) (fit_rm (by omega)) ⟨Nat.le_of_ble_eq_true rfl, Nat.le_of_ble_eq_true rfl⟩ (fun v Ω' hp => ?_) (fun _ _ h => h.elim)
  obtain ⟨rfl, rfl⟩ := hp
  have hz3 : zF (gX7 (uPn (gX7 G (n + 7) (n + 7)) a 3 (n + 7)) (n + 60) (n + 60)) (n + 112) := zX7 (zF.mono hz2 (by omega)) (by omega) (by omega)
  refine V_ex sX11_init_47 (by simp (disch := omega) only [Option.toList, List.cons_append, List.nil_append, exN, ex1, gI, gL, gR, pI, pL, pR, lget, lset1, lset2, kl, b2I, b2L, nob, ob32, ob64, xGet, xPut, xLen, xLd, xLdR, xSt, obA, true_and, and_true, and_self, eq_self, Nat.reduceEqDiff, Nat.zero_ne_one, reduceIte, Nat.reduceLeDiff, and_false, false_and, refL_at, refL_ne, newL2_ne, show skd 10 4 = 3 from rfl, show skd 10 5 = 0 from rfl]; rfl) (by first | exact trivial | (simp (disch := omega) only [ob, obA, newL_ne, refL_1, hL, lX5_1, lX0_1, lX2_1, lX4_1, lX10_1, lX6_1, lX1_1, lX9_1, lX8_1, lX7_1]; done) | (simp (disch := omega) only [ob, obA, newL_ne, refL_1, hL, lX5_1, lX0_1, lX2_1, lX4_1, lX10_1, lX6_1, lX1_1, lX9_1, lX8_1, lX7_1, and_self])) ?_
  have hz4 : zF (uPn (gX7 (uPn (gX7 G (n + 7) (n + 7)) a 3 (n + 7)) (n + 60) (n + 60)) a 4 (n + 60)) (n + 112) := zF_n (zF.mono hz3 (by omega)) (by omega)
  have hz5 : zF (uPi (uPn (gX7 (uPn (gX7 G (n + 7) (n + 7)) a 3 (n + 7)) (n + 60) (n + 60)) a 4 (n + 60)) a 5 (-1)) (n + 112) := zF_u (zF.mono hz4 (by omega)) (by omega)
  refine V_new (M := MX11_init) (ci := 2) dX11_init_56 rfl (by decide +kernel) (by decide +kernel) (by decide +kernel) (zF.mono hz5 (by omega)) (by omega) ⟨Nat.le_of_ble_eq_true rfl, Nat.le_of_ble_eq_true rfl⟩ ?_
  refine V_ex sX11_init_59 (by rfl) (by exact trivial) ?_
  refine V_callIN (M := MX11_init) (N := MX2_init) dX11_init_60 lRX11_38 kX2_init rfl rfl ⟨by omega, by omega⟩ (i_X2 (d := 1) hκ  ⟨by omega, by omega⟩ (by omega) (by simp only [newL_at]) (zF.mono hz5 (by omega)) (by omega)) rfl rfl (Nat.le_of_ble_eq_true rfl) (fit_rm (by omega)) ⟨Nat.le_of_ble_eq_true rfl, Nat.le_of_ble_eq_true rfl⟩ (fun v Ω' hp => ?_) (fun _ _ h => h.elim)
  obtain ⟨rfl, rfl⟩ := hp
  have hz6 : zF (gX2 (uPi (uPn (gX7 (uPn (gX7 G (n + 7) (n + 7)) a 3 (n + 7)) (n + 60) (n + 60)) a 4 (n + 60)) a 5 (-1)) (n + 113) (n + 113)) (n + 119) := zX2 (zF.mono hz5 (by omega)) (by omega) (by omega)
  refine V_putF (M := MX11_init) (ci := 10) (k := 6) dX11_init_63 (by decide +kernel) rfl (by simp (disch := omega) only [newL_ne, refL_1, hL, lX5_1, lX0_1, lX2_1, lX4_1, lX10_1, lX6_1, lX1_1, lX9_1, lX8_1, lX7_1]) rfl ?_
  refine V_ex sX11_init_66 (by rfl) (by exact trivial) ?_
  refine V_new (M := MX11_init) (ci := 2) dX11_init_67 rfl (by decide +kernel) (by decide +kernel) (by decide +kernel) (zF.mono hz6 (by omega)) (by omega) ⟨Nat.le_of_ble_eq_true rfl, Nat.le_of_ble_eq_true rfl⟩ ?_
  refine V_ex sX11_init_70 (by rfl) (by exact trivial) ?_
  refine V_callIN (M := MX11_init) (N := MX2_init) dX11_init_71 lRX11_38 kX2_init rfl rfl ⟨by omega, by omega⟩ (i_X2 (d := 1) hκ  ⟨by omega, by omega⟩ (by omega) (by simp only [newL_at]) (zF.mono hz6 (by omega)) (by omega)) rfl rfl (Nat.le_of_ble_eq_true rfl) (fit_rm (by omega)) ⟨Nat.le_of_ble_eq_true rfl, Nat.le_of_ble_eq_true rfl⟩ (fun v Ω' hp => ?_) (fun _ _ h => h.elim)
  obtain ⟨rfl, rfl⟩ := hp
  have hz7 : zF (gX2 (gX2 (uPi (uPn (gX7 (uPn (gX7 G (n + 7) (n + 7)) a 3 (n + 7)) (n + 60) (n + 60)) a 4 (n + 60)) a 5 (-1)) (n + 113) (n + 113)) (n + 120) (n + 120)) (n + 126) := zX2 (zF.mono hz6 (by omega)) (by omega) (by omega)
  refine V_putF (M := MX11_init) (ci := 10) (k := 7) dX11_init_74 (by decide +kernel) rfl (by simp (disch := omega) only [newL_ne, refL_1, hL, lX5_1, lX0_1, lX2_1, lX4_1, lX10_1, lX6_1, lX1_1, lX9_1, lX8_1, lX7_1]) rfl ?_
  refine V_ex sX11_init_77 (by rfl) (by exact trivial) ?_
  refine V_newa (M := MX11_init) (N := 24000) (k := 0) dX11_init_81 rfl (by decide) (by decide +kernel) (zF.mono hz7 (by omega)) (by omega) (by decide) ⟨Nat.le_of_ble_eq_true rfl, Nat.le_of_ble_eq_true rfl⟩ ?_
  refine V_putF (M := MX11_init) (ci := 10) (k := 9) dX11_init_83 (by decide +kernel) rfl (by simp (disch := omega) only [newL_ne, refL_1, hL, lX5_1, lX0_1, lX2_1, lX4_1, lX10_1, lX6_1, lX1_1, lX9_1, lX8_1, lX7_1]) rfl ?_
  refine V_ex sX11_init_86 (by rfl) (by exact trivial) ?_
  refine V_newa (M := MX11_init) (N := 60) (k := 0) dX11_init_89 rfl (by decide) (by decide +kernel) (zF.mono hz7 (by omega)) (by omega) (by decide) ⟨Nat.le_of_ble_eq_true rfl, Nat.le_of_ble_eq_true rfl⟩ ?_
  refine V_putF (M := MX11_init) (ci := 10) (k := 10) dX11_init_91 (by decide +kernel) rfl (by simp (disch := omega) only [newL_ne, refL_1, hL, lX5_1, lX0_1, lX2_1, lX4_1, lX10_1, lX6_1, lX1_1, lX9_1, lX8_1, lX7_1]) rfl ?_
  refine V_ex sX11_init_94 (by rfl) (by exact trivial) ?_
  refine V_new (M := MX11_init) (ci := 3) dX11_init_95 rfl (by decide +kernel) (by decide +kernel) (by decide +kernel) (zF.mono hz7 (by omega)) (by omega) ⟨Nat.le_of_ble_eq_true rfl, Nat.le_of_ble_eq_true rfl⟩ ?_
  refine V_ex sX11_init_98 (by rfl) (by exact trivial) ?_
  refine V_callIN (M := MX11_init) (N := MX4_init) dX11_init_99 lRX11_54 kX4_init rfl rfl ⟨by omega, by omega⟩ (i_X4 (d := 1) hκ  ⟨by omega, by omega⟩ (by omega) (by simp only [newL_at]) (zF.mono hz7 (by omega)) (by omega)) rfl rfl (Nat.le_of_ble_eq_true rfl) (fit_rm (by omega)) ⟨Nat.le_of_ble_eq_true rfl, Nat.le_of_ble_eq_true rfl⟩ (fun v Ω' hp => ?_) (fun _ _ h => h.elim)
  obtain ⟨rfl, rfl⟩ := hp
  refine V_putF (M := MX11_init) (ci := 10) (k := 11) dX11_init_102 (by decide +kernel) rfl (by simp (disch := omega) only [newL_ne, refL_1, hL, lX5_1, lX0_1, lX2_1, lX4_1, lX10_1, lX6_1, lX1_1, lX9_1, lX8_1, lX7_1]) rfl ?_
  refine V_ex sX11_init_105 (by rfl) (by exact trivial) ?_
  refine V_new (M := MX11_init) (ci := 9) dX11_init_106 rfl (by decide +kernel) (by decide +kernel) (by decide +kernel) (zF.mono hz7 (by omega)) (by omega) ⟨Nat.le_of_ble_eq_true rfl, Nat.le_of_ble_eq_true rfl⟩ ?_
  refine V_ex sX11_init_109 (by rfl) (by exact trivial) ?_
  refine V_callIN (M := MX11_init) (N := MX10_init) dX11_init_110 lRX11_61 kX10_init rfl rfl ⟨by omega, by omega⟩ (i_X10 (d := 1) hκ  ⟨by omega, by omega⟩ (by omega) (by simp only [newL_at]) (zF.mono hz7 (by omega)) (by omega)) rfl rfl (Nat.le_of_ble_eq_true rfl) (fit_rm (by omega)) ⟨Nat.le_of_ble_eq_true rfl, Nat.le_of_ble_eq_true rfl⟩ (fun v Ω' hp => ?_) (fun _ _ h => h.elim)
  obtain ⟨rfl, rfl⟩ := hp
  refine V_putF (M := MX11_init) (ci := 10) (k := 12) dX11_init_113 (by decide +kernel) rfl (by simp (disch := omega) only [newL_ne, refL_1, hL, lX5_1, lX0_1, lX2_1, lX4_1, lX10_1, lX6_1, lX1_1, lX9_1, lX8_1, lX7_1]) rfl ?_
  refine V_ex sX11_init_116 (by rfl) (by exact trivial) ?_
  refine V_new (M := MX11_init) (ci := 5) dX11_init_117 rfl (by decide +kernel) (by decide +kernel) (by decide +kernel) (zF.mono hz7 (by omega)) (by omega) ⟨Nat.le_of_ble_eq_true rfl, Nat.le_of_ble_eq_true rfl⟩ ?_
  refine V_ex sX11_init_120 (by rfl) (by exact trivial) ?_
  refine V_callIN (M := MX11_init) (N := MX6_init) dX11_init_121 lRX11_68 kX6_init rfl rfl ⟨by omega, by omega⟩ (i_X6 (d := 1) hκ  ⟨by omega, by omega⟩ (by omega) (by simp only [newL_at]) (zF.mono hz7 (by omega)) (by omega)) rfl rfl (Nat.le_of_ble_eq_true rfl) (fit_rm (by omega)) ⟨Nat.le_of_ble_eq_true rfl, Nat.le_of_ble_eq_true rfl⟩ (fun v Ω' hp => ?_) (fun _ _ h => h.elim)
  obtain ⟨rfl, rfl⟩ := hp
  have hz8 : zF (gX6 (gX2 (gX2 (uPi (uPn (gX7 (uPn (gX7 G (n + 7) (n + 7)) a 3 (n + 7)) (n + 60) (n + 60)) a 4 (n + 60)) a 5 (-1)) (n + 113) (n + 113)) (n + 120) (n + 120)) (n + 134) (n + 134)) (n + 138) := zX6 (zF.mono hz7 (by omega)) (by omega) (by omega)
  refine V_putF (M := MX11_init) (ci := 10) (k := 13) dX11_init_124 (by decide +kernel) rfl (by simp (disch := omega) only [newL_ne, refL_1, hL, lX5_1, lX0_1, lX2_1, lX4_1, lX10_1, lX6_1, lX1_1, lX9_1, lX8_1, lX7_1]) rfl ?_
  refine V_ex sX11_init_127 (by rfl) (by exact trivial) ?_
  refine V_new (M := MX11_init) (ci := 1) dX11_init_128 rfl (by decide +kernel) (by decide +kernel) (by decide +kernel) (zF.mono hz8 (by omega)) (by omega) ⟨Nat.le_of_ble_eq_true rfl, Nat.le_of_ble_eq_true rfl⟩ ?_
  refine V_ex sX11_init_131 (by rfl) (by exact trivial) ?_
  refine V_callIN (M := MX11_init) (N := MX1_init) dX11_init_132 lRX11_75 kX1_init rfl rfl ⟨by omega, by omega⟩ (i_X1 (d := 1) hκ  ⟨by omega, by omega⟩ (by omega) (by simp only [newL_at]) (zF.mono hz8 (by omega)) (by omega)) rfl rfl (Nat.le_of_ble_eq_true rfl) (fit_rm (by omega)) ⟨Nat.le_of_ble_eq_true rfl, Nat.le_of_ble_eq_true rfl⟩ (fun v Ω' hp => ?_) (fun _ _ h => h.elim)
  obtain ⟨rfl, rfl⟩ := hp
  have hz9 : zF (gX1 (gX6 (gX2 (gX2 (uPi (uPn (gX7 (uPn (gX7 G (n + 7) (n + 7)) a 3 (n + 7)) (n + 60) (n + 60)) a 4 (n + 60)) a 5 (-1)) (n + 113) (n + 113)) (n + 120) (n + 120)) (n + 134) (n + 134)) (n + 139) (n + 139)) (n + 143) := zX1 (zF.mono hz8 (by omega)) (by omega) (by omega)
  refine V_putF (M := MX11_init) (ci := 10) (k := 14) dX11_init_135 (by decide +kernel) rfl (by simp (disch := omega) only [newL_ne, refL_1, hL, lX5_1, lX0_1, lX2_1, lX4_1, lX10_1, lX6_1, lX1_1, lX9_1, lX8_1, lX7_1]) rfl ?_
  exact V_vret dX11_init_138 rfl ⟨Nat.le_of_ble_eq_true rfl, Nat.le_of_ble_eq_true rfl⟩ ⟨rfl, rfl⟩
