/-! CONSTRUCTORS, by program -/
theorem newL_at {Λ : Ly} {a : Nat} {t : Tg} : (newL Λ a t).1 a = some t := if_pos rfl
theorem newL_ne {Λ : Ly} {a b : Nat} {t : Tg} (h : b ≠ a) : (newL Λ a t).1 b = Λ.1 b := if_neg h
theorem newL2_ne {Λ : Ly} {a b k : Nat} {t : Tg} (h : b ≠ a) : (newL Λ a t).2 b k = Λ.2 b k := if_neg h
theorem refL_1 {Λ : Ly} {a k b : Nat} : (refL Λ a k b).1 = Λ.1 := rfl
theorem refL_at {Λ : Ly} {a k b : Nat} : (refL Λ a k b).2 a k = some b := if_pos ⟨rfl, rfl⟩
theorem refL_ne {Λ : Ly} {a k b c j : Nat} (h : ¬ (c = a ∧ j = k)) : (refL Λ a k b).2 c j = Λ.2 c j := if_neg h
abbrev uPi (G : Wd) (a k : Nat) (z : Int) : Wd := (upd2 G.1 a k z, G.2)
abbrev uPn (G : Wd) (a k z : Nat) : Wd := (G.1, G.2.1, upd2n G.2.2 a k z)
theorem zF_u {G : Wd} {n a k : Nat} {z : Int} (h : zF G n) (ha : a ≤ n) : zF (uPi G a k z) n := fun b hb j => ⟨by show (if b = a ∧ j = k then z else G.1 b j) = 0; rw [if_neg (by omega)]; exact (h b hb j).1, (h b hb j).2⟩
theorem zF_n {G : Wd} {n a k z : Nat} (h : zF G n) (ha : a ≤ n) : zF (uPn G a k z) n := fun b hb j => ⟨(h b hb j).1, (h b hb j).2.1, by show (if b = a ∧ j = k then z else G.2.2 b j) = 0; rw [if_neg (by omega)]; exact (h b hb j).2.2⟩
theorem ks_O {κ : Kx} (h : KS κ) {i : Nat} {q : String × Nat × String} (hq : SCT[i]? = some q) : va_O "java/lang/String" (kSp κ (1000001 + i - 1000000)) (aA κ) (kS κ) (kS κ).heap := by
  obtain ⟨b, h1, -⟩ := (h.2 i q hq).2.2.2.2
  exact h1
def lX5 (Λ : Ly) (a : Nat) (n : Nat) : Ly := refL (newL (Λ) (n + 1) (.inr (0, 63))) a 0 (n + 1)
theorem lX5_1 {Λ : Ly} {a n c : Nat} (h : c ≤ n) : (lX5 Λ a n).1 c = Λ.1 c := by unfold lX5; simp (disch := omega) only [newL_ne, refL_1]
set_option maxRecDepth 100000 in
set_option maxHeartbeats 4000000 in
theorem i_X5 {κ : Kx} (hκ : KOK κ) {d a n : Nat} {Λ : Ly} {G : Wd} (ha : 0 < a ∧ a ≤ n) (hn : n + 1 < 1000000) (hL : Λ.1 a = some (.inl 4)) (h0 : zF G n) (hd : 1 ≤ d) : Ct κ MX5_init d 1 63 [VR a] (Λ, some n, G) (fun u Ω' => u = none ∧ Ω' = (lX5 Λ a n, some (n + 1), G)) noX := by
  refine Ct_of hκ kX5_init.1 rfl (Nat.le_of_ble_eq_true rfl) (ls := [some (VR a)]) rfl (fun μ => ?_)
  refine V_ex sX5_init_0 (by rfl) (by exact trivial) ?_
  refine V_objI (M := MX5_init) dX5_init_1 (by decide +kernel) ⟨by omega, by omega⟩ (Nat.le_of_ble_eq_true rfl) ⟨by show 1 ≤ d; omega, by show 30 ≤ 100 + 40 * d; omega⟩ ?_
  refine V_ex sX5_init_4 (by rfl) (by exact trivial) ?_
  refine V_newa (M := MX5_init) (N := 63) (k := 0) dX5_init_7 rfl (by decide) (by decide +kernel) (zF.mono h0 (by omega)) (by omega) (by decide) ⟨Nat.le_of_ble_eq_true rfl, Nat.le_of_ble_eq_true rfl⟩ ?_
  refine V_putF (M := MX5_init) (ci := 4) (k := 0) dX5_init_9 (by decide +kernel) rfl (by simp (disch := omega) only [newL_ne, refL_1, hL]) rfl ?_
  exact V_vret dX5_init_12 rfl ⟨Nat.le_of_ble_eq_true rfl, Nat.le_of_ble_eq_true rfl⟩ ⟨rfl, rfl⟩
def lX0 (Λ : Ly) (a : Nat) (n : Nat) : Ly := refL (lX5 (newL (refL (lX5 (newL (Λ) (n + 1) (.inl 4)) (n + 1) (n + 1)) a 5 (n + 1)) (n + 3) (.inl 4)) (n + 3) (n + 3)) a 6 (n + 3)
theorem lX0_1 {Λ : Ly} {a n c : Nat} (h : c ≤ n) : (lX0 Λ a n).1 c = Λ.1 c := by unfold lX0; simp (disch := omega) only [newL_ne, refL_1, lX5_1]
set_option maxRecDepth 100000 in
set_option maxHeartbeats 4000000 in
theorem i_X0 {κ : Kx} (hκ : KOK κ) {d a n : Nat} {Λ : Ly} {G : Wd} (ha : 0 < a ∧ a ≤ n) (hn : n + 4 < 1000000) (hL : Λ.1 a = some (.inl 0)) (h0 : zF G n) (hd : 3 ≤ d) : Ct κ MX0_init d 4 130 [VR a] (Λ, some n, G) (fun u Ω' => u = none ∧ Ω' = (lX0 Λ a n, some (n + 4), G)) noX := by
  refine Ct_of hκ kX0_init.1 rfl (Nat.le_of_ble_eq_true rfl) (ls := [some (VR a)]) rfl (fun μ => ?_)
  refine V_ex sX0_init_0 (by rfl) (by exact trivial) ?_
  refine V_objI (M := MX0_init) dX0_init_1 (by decide +kernel) ⟨by omega, by omega⟩ (Nat.le_of_ble_eq_true rfl) ⟨by show 1 ≤ d; omega, by show 30 ≤ 100 + 40 * d; omega⟩ ?_
  refine V_ex sX0_init_4 (by rfl) (by exact trivial) ?_
  refine V_new (M := MX0_init) (ci := 4) dX0_init_5 rfl (by decide +kernel) (by decide +kernel) (by decide +kernel) (zF.mono h0 (by omega)) (by omega) ⟨Nat.le_of_ble_eq_true rfl, Nat.le_of_ble_eq_true rfl⟩ ?_
  refine V_ex sX0_init_8 (by rfl) (by exact trivial) ?_
  refine V_callIN (M := MX0_init) (N := MX5_init) dX0_init_9 lRX0_11 kX5_init rfl rfl ⟨by omega, by omega⟩ (i_X5 (d := 1) hκ  ⟨by omega, by omega⟩ (by omega) (by simp only [newL_at]) (zF.mono h0 (by omega)) (by omega)) rfl rfl (Nat.le_of_ble_eq_true rfl) (fit_rm (by omega)) ⟨Nat.le_of_ble_eq_true rfl, Nat.le_of_ble_eq_true rfl⟩ (fun v Ω' hp => ?_) (fun _ _ h => h.elim)
  obtain ⟨rfl, rfl⟩ := hp
  refine V_putF (M := MX0_init) (ci := 0) (k := 5) dX0_init_12 (by decide +kernel) rfl (by simp (disch := omega) only [newL_ne, refL_1, hL, lX5_1]) rfl ?_
  refine V_ex sX0_init_15 (by rfl) (by exact trivial) ?_
  refine V_new (M := MX0_init) (ci := 4) dX0_init_16 rfl (by decide +kernel) (by decide +kernel) (by decide +kernel) (zF.mono h0 (by omega)) (by omega) ⟨Nat.le_of_ble_eq_true rfl, Nat.le_of_ble_eq_true rfl⟩ ?_
  refine V_ex sX0_init_19 (by rfl) (by exact trivial) ?_
  refine V_callIN (M := MX0_init) (N := MX5_init) dX0_init_20 lRX0_11 kX5_init rfl rfl ⟨by omega, by omega⟩ (i_X5 (d := 1) hκ  ⟨by omega, by omega⟩ (by omega) (by simp only [newL_at]) (zF.mono h0 (by omega)) (by omega)) rfl rfl (Nat.le_of_ble_eq_true rfl) (fit_rm (by omega)) ⟨Nat.le_of_ble_eq_true rfl, Nat.le_of_ble_eq_true rfl⟩ (fun v Ω' hp => ?_) (fun _ _ h => h.elim)
  obtain ⟨rfl, rfl⟩ := hp
  refine V_putF (M := MX0_init) (ci := 0) (k := 6) dX0_init_23 (by decide +kernel) rfl (by simp (disch := omega) only [newL_ne, refL_1, hL, lX5_1]) rfl ?_
  exact V_vret dX0_init_26 rfl ⟨Nat.le_of_ble_eq_true rfl, Nat.le_of_ble_eq_true rfl⟩ ⟨rfl, rfl⟩
def lX2 (Λ : Ly) (a : Nat) (n : Nat) : Ly := refL (newL (refL (newL (refL (newL (refL (newL (refL (newL (refL (newL (Λ) (n + 1) (.inr (0, 360))) a 0 (n + 1)) (n + 2) (.inr (0, 360))) a 1 (n + 2)) (n + 3) (.inr (0, 360))) a 2 (n + 3)) (n + 4) (.inr (0, 20))) a 7 (n + 4)) (n + 5) (.inr (0, 20))) a 8 (n + 5)) (n + 6) (.inr (0, 4))) a 10 (n + 6)
def gX2 (G : Wd) (a _n : Nat) : Wd := (uPi G a 6 (-1))
theorem zX2 {G : Wd} {a n m : Nat} (h0 : zF G m) (ha : a ≤ m) (hn : n + 6 ≤ m) : zF (gX2 G a n) m := (zF_u h0 (by omega))
theorem lX2_1 {Λ : Ly} {a n c : Nat} (h : c ≤ n) : (lX2 Λ a n).1 c = Λ.1 c := by unfold lX2; simp (disch := omega) only [newL_ne, refL_1, lX5_1, lX0_1]
set_option maxRecDepth 100000 in
set_option maxHeartbeats 4000000 in
theorem i_X2 {κ : Kx} (hκ : KOK κ) {d a n : Nat} {Λ : Ly} {G : Wd} (ha : 0 < a ∧ a ≤ n) (hn : n + 6 < 1000000) (hL : Λ.1 a = some (.inl 2)) (h0 : zF G n) (hd : 1 ≤ d) : Ct κ MX2_init d 6 1124 [VR a] (Λ, some n, G) (fun u Ω' => u = none ∧ Ω' = (lX2 Λ a n, some (n + 6), gX2 G a n)) noX := by
  refine Ct_of hκ kX2_init.1 rfl (Nat.le_of_ble_eq_true rfl) (ls := [some (VR a)]) rfl (fun μ => ?_)
  refine V_ex sX2_init_0 (by rfl) (by exact trivial) ?_
  refine V_objI (M := MX2_init) dX2_init_1 (by decide +kernel) ⟨by omega, by omega⟩ (Nat.le_of_ble_eq_true rfl) ⟨by show 1 ≤ d; omega, by show 30 ≤ 100 + 40 * d; omega⟩ ?_
  refine V_ex sX2_init_4 (by rfl) (by exact trivial) ?_
  refine V_newa (M := MX2_init) (N := 360) (k := 0) dX2_init_8 rfl (by decide) (by decide +kernel) (zF.mono h0 (by omega)) (by omega) (by decide) ⟨Nat.le_of_ble_eq_true rfl, Nat.le_of_ble_eq_true rfl⟩ ?_
  refine V_putF (M := MX2_init) (ci := 2) (k := 0) dX2_init_10 (by decide +kernel) rfl (by simp (disch := omega) only [newL_ne, refL_1, hL, lX5_1, lX0_1]) rfl ?_
  refine V_ex sX2_init_13 (by rfl) (by exact trivial) ?_
  refine V_newa (M := MX2_init) (N := 360) (k := 0) dX2_init_17 rfl (by decide) (by decide +kernel) (zF.mono h0 (by omega)) (by omega) (by decide) ⟨Nat.le_of_ble_eq_true rfl, Nat.le_of_ble_eq_true rfl⟩ ?_
  refine V_putF (M := MX2_init) (ci := 2) (k := 1) dX2_init_19 (by decide +kernel) rfl (by simp (disch := omega) only [newL_ne, refL_1, hL, lX5_1, lX0_1]) rfl ?_
  refine V_ex sX2_init_22 (by rfl) (by exact trivial) ?_
  refine V_newa (M := MX2_init) (N := 360) (k := 0) dX2_init_26 rfl (by decide) (by decide +kernel) (zF.mono h0 (by omega)) (by omega) (by decide) ⟨Nat.le_of_ble_eq_true rfl, Nat.le_of_ble_eq_true rfl⟩ ?_
  refine V_putF (M := MX2_init) (ci := 2) (k := 2) dX2_init_28 (by decide +kernel) rfl (by simp (disch := omega) only [newL_ne, refL_1, hL, lX5_1, lX0_1]) rfl ?_
  refine V_ex sX2_init_31 (by simp (disch := omega) only [Option.toList, List.cons_append, List.nil_append, exN, ex1, gI, gL, gR, pI, pL, pR, lget, lset1, lset2, kl, b2I, b2L, nob, ob32, ob64, xGet, xPut, xLen, xLd, xLdR, xSt, obA, true_and, and_true, and_self, eq_self, Nat.reduceEqDiff, Nat.zero_ne_one, reduceIte, Nat.reduceLeDiff, and_false, false_and, refL_at, refL_ne, newL2_ne, show skd 2 6 = 0 from rfl]; rfl) (by first | exact trivial | (simp (disch := omega) only [ob, obA, newL_ne, refL_1, hL, lX5_1, lX0_1]; done) | (simp (disch := omega) only [ob, obA, newL_ne, refL_1, hL, lX5_1, lX0_1, and_self])) ?_
  have hz1 : zF (uPi G a 6 (-1)) (n + 3) := zF_u (zF.mono h0 (by omega)) (by omega)
  refine V_newa (M := MX2_init) (N := 20) (k := 0) dX2_init_39 rfl (by decide) (by decide +kernel) (zF.mono hz1 (by omega)) (by omega) (by decide) ⟨Nat.le_of_ble_eq_true rfl, Nat.le_of_ble_eq_true rfl⟩ ?_
  refine V_putF (M := MX2_init) (ci := 2) (k := 7) dX2_init_41 (by decide +kernel) rfl (by simp (disch := omega) only [newL_ne, refL_1, hL, lX5_1, lX0_1]) rfl ?_
  refine V_ex sX2_init_44 (by rfl) (by exact trivial) ?_
  refine V_newa (M := MX2_init) (N := 20) (k := 0) dX2_init_47 rfl (by decide) (by decide +kernel) (zF.mono hz1 (by omega)) (by omega) (by decide) ⟨Nat.le_of_ble_eq_true rfl, Nat.le_of_ble_eq_true rfl⟩ ?_
  refine V_putF (M := MX2_init) (ci := 2) (k := 8) dX2_init_49 (by decide +kernel) rfl (by simp (disch := omega) only [newL_ne, refL_1, hL, lX5_1, lX0_1]) rfl ?_
  refine V_ex sX2_init_52 (by rfl) (by exact trivial) ?_
  refine V_newa (M := MX2_init) (N := 4) (k := 0) dX2_init_54 rfl (by decide) (by decide +kernel) (zF.mono hz1 (by omega)) (by omega) (by decide) ⟨Nat.le_of_ble_eq_true rfl, Nat.le_of_ble_eq_true rfl⟩ ?_
  refine V_putF (M := MX2_init) (ci := 2) (k := 10) dX2_init_56 (by decide +kernel) rfl (by simp (disch := omega) only [newL_ne, refL_1, hL, lX5_1, lX0_1]) rfl ?_
  exact V_vret dX2_init_59 rfl ⟨Nat.le_of_ble_eq_true rfl, Nat.le_of_ble_eq_true rfl⟩ ⟨rfl, rfl⟩
def lX4 (Λ : Ly) (a : Nat) (n : Nat) : Ly := refL (newL (refL (newL (Λ) (n + 1) (.inr (1, 4))) a 0 (n + 1)) (n + 2) (.inr (1, 4))) a 1 (n + 2)
theorem lX4_1 {Λ : Ly} {a n c : Nat} (h : c ≤ n) : (lX4 Λ a n).1 c = Λ.1 c := by unfold lX4; simp (disch := omega) only [newL_ne, refL_1, lX5_1, lX0_1, lX2_1]
set_option maxRecDepth 100000 in
set_option maxHeartbeats 4000000 in
theorem i_X4 {κ : Kx} (hκ : KOK κ) {d a n : Nat} {Λ : Ly} {G : Wd} (ha : 0 < a ∧ a ≤ n) (hn : n + 2 < 1000000) (hL : Λ.1 a = some (.inl 3)) (h0 : zF G n) (hd : 1 ≤ d) : Ct κ MX4_init d 2 8 [VR a] (Λ, some n, G) (fun u Ω' => u = none ∧ Ω' = (lX4 Λ a n, some (n + 2), G)) noX := by
  refine Ct_of hκ kX4_init.1 rfl (Nat.le_of_ble_eq_true rfl) (ls := [some (VR a)]) rfl (fun μ => ?_)
  refine V_ex sX4_init_0 (by rfl) (by exact trivial) ?_
  refine V_objI (M := MX4_init) dX4_init_1 (by decide +kernel) ⟨by omega, by omega⟩ (Nat.le_of_ble_eq_true rfl) ⟨by show 1 ≤ d; omega, by show 30 ≤ 100 + 40 * d; omega⟩ ?_
  refine V_ex sX4_init_4 (by rfl) (by exact trivial) ?_
  refine V_newa (M := MX4_init) (N := 4) (k := 1) dX4_init_6 rfl (by decide) (by decide +kernel) (zF.mono h0 (by omega)) (by omega) (by decide) ⟨Nat.le_of_ble_eq_true rfl, Nat.le_of_ble_eq_true rfl⟩ ?_
  refine V_putF (M := MX4_init) (ci := 3) (k := 0) dX4_init_8 (by decide +kernel) rfl (by simp (disch := omega) only [newL_ne, refL_1, hL, lX5_1, lX0_1, lX2_1]) rfl ?_
  refine V_ex sX4_init_11 (by rfl) (by exact trivial) ?_
  refine V_newa (M := MX4_init) (N := 4) (k := 1) dX4_init_13 rfl (by decide) (by decide +kernel) (zF.mono h0 (by omega)) (by omega) (by decide) ⟨Nat.le_of_ble_eq_true rfl, Nat.le_of_ble_eq_true rfl⟩ ?_
  refine V_putF (M := MX4_init) (ci := 3) (k := 1) dX4_init_15 (by decide +kernel) rfl (by simp (disch := omega) only [newL_ne, refL_1, hL, lX5_1, lX0_1, lX2_1]) rfl ?_
  exact V_vret dX4_init_18 rfl ⟨Nat.le_of_ble_eq_true rfl, Nat.le_of_ble_eq_true rfl⟩ ⟨rfl, rfl⟩
def lX10 (Λ : Ly) (a : Nat) (n : Nat) : Ly := refL (newL (Λ) (n + 1) (.inr (1, 451))) a 0 (n + 1)
theorem lX10_1 {Λ : Ly} {a n c : Nat} (h : c ≤ n) : (lX10 Λ a n).1 c = Λ.1 c := by unfold lX10; simp (disch := omega) only [newL_ne, refL_1, lX5_1, lX0_1, lX2_1, lX4_1]
set_option maxRecDepth 100000 in
set_option maxHeartbeats 4000000 in
theorem i_X10 {κ : Kx} (hκ : KOK κ) {d a n : Nat} {Λ : Ly} {G : Wd} (ha : 0 < a ∧ a ≤ n) (hn : n + 1 < 1000000) (hL : Λ.1 a = some (.inl 9)) (h0 : zF G n) (hd : 1 ≤ d) : Ct κ MX10_init d 1 451 [VR a] (Λ, some n, G) (fun u Ω' => u = none ∧ Ω' = (lX10 Λ a n, some (n + 1), G)) noX := by
  refine Ct_of hκ kX10_init.1 rfl (Nat.le_of_ble_eq_true rfl) (ls := [some (VR a)]) rfl (fun μ => ?_)
  refine V_ex sX10_init_0 (by rfl) (by exact trivial) ?_
  refine V_objI (M := MX10_init) dX10_init_1 (by decide +kernel) ⟨by omega, by omega⟩ (Nat.le_of_ble_eq_true rfl) ⟨by show 1 ≤ d; omega, by show 30 ≤ 100 + 40 * d; omega⟩ ?_
  refine V_ex sX10_init_4 (by rfl) (by exact trivial) ?_
  refine V_newa (M := MX10_init) (N := 451) (k := 1) dX10_init_8 rfl (by decide) (by decide +kernel) (zF.mono h0 (by omega)) (by omega) (by decide) ⟨Nat.le_of_ble_eq_true rfl, Nat.le_of_ble_eq_true rfl⟩ ?_
  refine V_putF (M := MX10_init) (ci := 9) (k := 0) dX10_init_10 (by decide +kernel) rfl (by simp (disch := omega) only [newL_ne, refL_1, hL, lX5_1, lX0_1, lX2_1, lX4_1]) rfl ?_
  exact V_vret dX10_init_13 rfl ⟨Nat.le_of_ble_eq_true rfl, Nat.le_of_ble_eq_true rfl⟩ ⟨rfl, rfl⟩
def lX6 (Λ : Ly) (a : Nat) (n : Nat) : Ly := refL (newL (refL (newL (refL (newL (refL (newL (Λ) (n + 1) (.inr (0, 10))) a 0 (n + 1)) (n + 2) (.inr (0, 4))) a 4 (n + 2)) (n + 3) (.inr (0, 10))) a 5 (n + 3)) (n + 4) (.inr (0, 10))) a 7 (n + 4)
def gX6 (G : Wd) (a _n : Nat) : Wd := (uPi G a 8 (-1))
theorem zX6 {G : Wd} {a n m : Nat} (h0 : zF G m) (ha : a ≤ m) (hn : n + 4 ≤ m) : zF (gX6 G a n) m := (zF_u h0 (by omega))
theorem lX6_1 {Λ : Ly} {a n c : Nat} (h : c ≤ n) : (lX6 Λ a n).1 c = Λ.1 c := by unfold lX6; simp (disch := omega) only [newL_ne, refL_1, lX5_1, lX0_1, lX2_1, lX4_1, lX10_1]
set_option maxRecDepth 100000 in
set_option maxHeartbeats 4000000 in
theorem i_X6 {κ : Kx} (hκ : KOK κ) {d a n : Nat} {Λ : Ly} {G : Wd} (ha : 0 < a ∧ a ≤ n) (hn : n + 4 < 1000000) (hL : Λ.1 a = some (.inl 5)) (h0 : zF G n) (hd : 1 ≤ d) : Ct κ MX6_init d 4 34 [VR a] (Λ, some n, G) (fun u Ω' => u = none ∧ Ω' = (lX6 Λ a n, some (n + 4), gX6 G a n)) noX := by
  refine Ct_of hκ kX6_init.1 rfl (Nat.le_of_ble_eq_true rfl) (ls := [some (VR a)]) rfl (fun μ => ?_)
  refine V_ex sX6_init_0 (by rfl) (by exact trivial) ?_
  refine V_objI (M := MX6_init) dX6_init_1 (by decide +kernel) ⟨by omega, by omega⟩ (Nat.le_of_ble_eq_true rfl) ⟨by show 1 ≤ d; omega, by show 30 ≤ 100 + 40 * d; omega⟩ ?_
  refine V_ex sX6_init_4 (by rfl) (by exact trivial) ?_
  refine V_newa (M := MX6_init) (N := 10) (k := 0) dX6_init_7 rfl (by decide) (by decide +kernel) (zF.mono h0 (by omega)) (by omega) (by decide) ⟨Nat.le_of_ble_eq_true rfl, Nat.le_of_ble_eq_true rfl⟩ ?_
  refine V_putF (M := MX6_init) (ci := 5) (k := 0) dX6_init_9 (by decide +kernel) rfl (by simp (disch := omega) only [newL_ne, refL_1, hL, lX5_1, lX0_1, lX2_1, lX4_1, lX10_1]) rfl ?_
  refine V_ex sX6_init_12 (by rfl) (by exact trivial) ?_
  refine V_newa (M := MX6_init) (N := 4) (k := 0) dX6_init_14 rfl (by decide) (by decide +kernel) (zF.mono h0 (by omega)) (by omega) (by decide) ⟨Nat.le_of_ble_eq_true rfl, Nat.le_of_ble_eq_true rfl⟩ ?_
  refine V_putF (M := MX6_init) (ci := 5) (k := 4) dX6_init_16 (by decide +kernel) rfl (by simp (disch := omega) only [newL_ne, refL_1, hL, lX5_1, lX0_1, lX2_1, lX4_1, lX10_1]) rfl ?_
  refine V_ex sX6_init_19 (by rfl) (by exact trivial) ?_
  refine V_newa (M := MX6_init) (N := 10) (k := 0) dX6_init_22 rfl (by decide) (by decide +kernel) (zF.mono h0 (by omega)) (by omega) (by decide) ⟨Nat.le_of_ble_eq_true rfl, Nat.le_of_ble_eq_true rfl⟩ ?_
  refine V_putF (M := MX6_init) (ci := 5) (k := 5) dX6_init_24 (by decide +kernel) rfl (by simp (disch := omega) only [newL_ne, refL_1, hL, lX5_1, lX0_1, lX2_1, lX4_1, lX10_1]) rfl ?_
  refine V_ex sX6_init_27 (by rfl) (by exact trivial) ?_
  refine V_newa (M := MX6_init) (N := 10) (k := 0) dX6_init_30 rfl (by decide) (by decide +kernel) (zF.mono h0 (by omega)) (by omega) (by decide) ⟨Nat.le_of_ble_eq_true rfl, Nat.le_of_ble_eq_true rfl⟩ ?_
  refine V_putF (M := MX6_init) (ci := 5) (k := 7) dX6_init_32 (by decide +kernel) rfl (by simp (disch := omega) only [newL_ne, refL_1, hL, lX5_1, lX0_1, lX2_1, lX4_1, lX10_1]) rfl ?_
  refine V_ex sX6_init_35 (by simp (disch := omega) only [Option.toList, List.cons_append, List.nil_append, exN, ex1, gI, gL, gR, pI, pL, pR, lget, lset1, lset2, kl, b2I, b2L, nob, ob32, ob64, xGet, xPut, xLen, xLd, xLdR, xSt, obA, true_and, and_true, and_self, eq_self, Nat.reduceEqDiff, Nat.zero_ne_one, reduceIte, Nat.reduceLeDiff, and_false, false_and, refL_at, refL_ne, newL2_ne, show skd 5 8 = 0 from rfl]; rfl) (by first | exact trivial | (simp (disch := omega) only [ob, obA, newL_ne, refL_1, hL, lX5_1, lX0_1, lX2_1, lX4_1, lX10_1]; done) | (simp (disch := omega) only [ob, obA, newL_ne, refL_1, hL, lX5_1, lX0_1, lX2_1, lX4_1, lX10_1, and_self])) ?_
  have hz1 : zF (uPi G a 8 (-1)) (n + 4) := zF_u (zF.mono h0 (by omega)) (by omega)
  exact V_vret dX6_init_40 rfl ⟨Nat.le_of_ble_eq_true rfl, Nat.le_of_ble_eq_true rfl⟩ ⟨rfl, rfl⟩
def lX1 (Λ : Ly) (a : Nat) (n : Nat) : Ly := refL (newL (refL (newL (refL (newL (refL (newL (Λ) (n + 1) (.inr (0, 30))) a 0 (n + 1)) (n + 2) (.inr (0, 30))) a 1 (n + 2)) (n + 3) (.inr (0, 4))) a 3 (n + 3)) (n + 4) (.inr (0, 4))) a 4 (n + 4)
def gX1 (G : Wd) (a _n : Nat) : Wd := (uPi G a 5 (-1))
theorem zX1 {G : Wd} {a n m : Nat} (h0 : zF G m) (ha : a ≤ m) (hn : n + 4 ≤ m) : zF (gX1 G a n) m := (zF_u h0 (by omega))
theorem lX1_1 {Λ : Ly} {a n c : Nat} (h : c ≤ n) : (lX1 Λ a n).1 c = Λ.1 c := by unfold lX1; simp (disch := omega) only [newL_ne, refL_1, lX5_1, lX0_1, lX2_1, lX4_1, lX10_1, lX6_1]
set_option maxRecDepth 100000 in
set_option maxHeartbeats 4000000 in
theorem i_X1 {κ : Kx} (hκ : KOK κ) {d a n : Nat} {Λ : Ly} {G : Wd} (ha : 0 < a ∧ a ≤ n) (hn : n + 4 < 1000000) (hL : Λ.1 a = some (.inl 1)) (h0 : zF G n) (hd : 1 ≤ d) : Ct κ MX1_init d 4 68 [VR a] (Λ, some n, G) (fun u Ω' => u = none ∧ Ω' = (lX1 Λ a n, some (n + 4), gX1 G a n)) noX := by
  refine Ct_of hκ kX1_init.1 rfl (Nat.le_of_ble_eq_true rfl) (ls := [some (VR a)]) rfl (fun μ => ?_)
  refine V_ex sX1_init_0 (by rfl) (by exact trivial) ?_
  refine V_objI (M := MX1_init) dX1_init_1 (by decide +kernel) ⟨by omega, by omega⟩ (Nat.le_of_ble_eq_true rfl) ⟨by show 1 ≤ d; omega, by show 30 ≤ 100 + 40 * d; omega⟩ ?_
  refine V_ex sX1_init_4 (by rfl) (by exact trivial) ?_
  refine V_newa (M := MX1_init) (N := 30) (k := 0) dX1_init_7 rfl (by decide) (by decide +kernel) (zF.mono h0 (by omega)) (by omega) (by decide) ⟨Nat.le_of_ble_eq_true rfl, Nat.le_of_ble_eq_true rfl⟩ ?_
  refine V_putF (M := MX1_init) (ci := 1) (k := 0) dX1_init_9 (by decide +kernel) rfl (by simp (disch := omega) only [newL_ne, refL_1, hL, lX5_1, lX0_1, lX2_1, lX4_1, lX10_1, lX6_1]) rfl ?_
  refine V_ex sX1_init_12 (by rfl) (by exact trivial) ?_
  refine V_newa (M := MX1_init) (N := 30) (k := 0) dX1_init_15 rfl (by decide) (by decide +kernel) (zF.mono h0 (by omega)) (by omega) (by decide) ⟨Nat.le_of_ble_eq_true rfl, Nat.le_of_ble_eq_true rfl⟩ ?_
  refine V_putF (M := MX1_init) (ci := 1) (k := 1) dX1_init_17 (by decide +kernel) rfl (by simp (disch := omega) only [newL_ne, refL_1, hL, lX5_1, lX0_1, lX2_1, lX4_1, lX10_1, lX6_1]) rfl ?_
  refine V_ex sX1_init_20 (by rfl) (by exact trivial) ?_
  refine V_newa (M := MX1_init) (N := 4) (k := 0) dX1_init_22 rfl (by decide) (by decide +kernel) (zF.mono h0 (by omega)) (by omega) (by decide) ⟨Nat.le_of_ble_eq_true rfl, Nat.le_of_ble_eq_true rfl⟩ ?_
  refine V_putF (M := MX1_init) (ci := 1) (k := 3) dX1_init_24 (by decide +kernel) rfl (by simp (disch := omega) only [newL_ne, refL_1, hL, lX5_1, lX0_1, lX2_1, lX4_1, lX10_1, lX6_1]) rfl ?_
  refine V_ex sX1_init_27 (by rfl) (by exact trivial) ?_
  refine V_newa (M := MX1_init) (N := 4) (k := 0) dX1_init_29 rfl (by decide) (by decide +kernel) (zF.mono h0 (by omega)) (by omega) (by decide) ⟨Nat.le_of_ble_eq_true rfl, Nat.le_of_ble_eq_true rfl⟩ ?_
  refine V_putF (M := MX1_init) (ci := 1) (k := 4) dX1_init_31 (by decide +kernel) rfl (by simp (disch := omega) only [newL_ne, refL_1, hL, lX5_1, lX0_1, lX2_1, lX4_1, lX10_1, lX6_1]) rfl ?_
  refine V_ex sX1_init_34 (by simp (disch := omega) only [Option.toList, List.cons_append, List.nil_append, exN, ex1, gI, gL, gR, pI, pL, pR, lget, lset1, lset2, kl, b2I, b2L, nob, ob32, ob64, xGet, xPut, xLen, xLd, xLdR, xSt, obA, true_and, and_true, and_self, eq_self, Nat.reduceEqDiff, Nat.zero_ne_one, reduceIte, Nat.reduceLeDiff, and_false, false_and, refL_at, refL_ne, newL2_ne, show skd 1 5 = 0 from rfl]; rfl) (by first | exact trivial | (simp (disch := omega) only [ob, obA, newL_ne, refL_1, hL, lX5_1, lX0_1, lX2_1, lX4_1, lX10_1, lX6_1]; done) | (simp (disch := omega) only [ob, obA, newL_ne, refL_1, hL, lX5_1, lX0_1, lX2_1, lX4_1, lX10_1, lX6_1, and_self])) ?_
  have hz1 : zF (uPi G a 5 (-1)) (n + 4) := zF_u (zF.mono h0 (by omega)) (by omega)
  exact V_vret dX1_init_39 rfl ⟨Nat.le_of_ble_eq_true rfl, Nat.le_of_ble_eq_true rfl⟩ ⟨rfl, rfl⟩
def lX9 (Λ : Ly) (a : Nat) (n : Nat) (t : Nat) : Ly := refL (refL (newL (refL (newL (refL (newL (Λ) (n + 1) (.inr (0, 501))) a 2 (n + 1)) (n + 2) (.inr (0, 501))) a 3 (n + 2)) (n + 3) (.inr (0, 501))) a 4 (n + 3)) a 0 (t)
theorem lX9_1 {Λ : Ly} {a n c t : Nat} (h : c ≤ n) : (lX9 Λ a n t).1 c = Λ.1 c := by unfold lX9; simp (disch := omega) only [newL_ne, refL_1, lX5_1, lX0_1, lX2_1, lX4_1, lX10_1, lX6_1, lX1_1]
set_option maxRecDepth 100000 in
set_option maxHeartbeats 4000000 in
theorem i_X9 {κ : Kx} (hκ : KOK κ) {d a n t : Nat} {Λ : Ly} {G : Wd} (ha : 0 < a ∧ a ≤ n) (hn : n + 3 < 1000000) (hL : Λ.1 a = some (.inl 8)) (h0 : zF G n) (hd : 1 ≤ d) : Ct κ MX9_init d 3 1503 [VR a, VR t] (Λ, some n, G) (fun u Ω' => u = none ∧ Ω' = (lX9 Λ a n t, some (n + 3), G)) noX := by
  refine Ct_of hκ kX9_init.1 rfl (Nat.le_of_ble_eq_true rfl) (ls := [some (VR a), some (VR t)]) rfl (fun μ => ?_)
  refine V_ex sX9_init_0 (by rfl) (by exact trivial) ?_
  refine V_objI (M := MX9_init) dX9_init_1 (by decide +kernel) ⟨by omega, by omega⟩ (Nat.le_of_ble_eq_true rfl) ⟨by show 1 ≤ d; omega, by show 30 ≤ 100 + 40 * d; omega⟩ ?_
  refine V_ex sX9_init_4 (by rfl) (by exact trivial) ?_
  refine V_newa (M := MX9_init) (N := 501) (k := 0) dX9_init_8 rfl (by decide) (by decide +kernel) (zF.mono h0 (by omega)) (by omega) (by decide) ⟨Nat.le_of_ble_eq_true rfl, Nat.le_of_ble_eq_true rfl⟩ ?_
  refine V_putF (M := MX9_init) (ci := 8) (k := 2) dX9_init_10 (by decide +kernel) rfl (by simp (disch := omega) only [newL_ne, refL_1, hL, lX5_1, lX0_1, lX2_1, lX4_1, lX10_1, lX6_1, lX1_1]) rfl ?_
  refine V_ex sX9_init_13 (by rfl) (by exact trivial) ?_
  refine V_newa (M := MX9_init) (N := 501) (k := 0) dX9_init_17 rfl (by decide) (by decide +kernel) (zF.mono h0 (by omega)) (by omega) (by decide) ⟨Nat.le_of_ble_eq_true rfl, Nat.le_of_ble_eq_true rfl⟩ ?_
  refine V_putF (M := MX9_init) (ci := 8) (k := 3) dX9_init_19 (by decide +kernel) rfl (by simp (disch := omega) only [newL_ne, refL_1, hL, lX5_1, lX0_1, lX2_1, lX4_1, lX10_1, lX6_1, lX1_1]) rfl ?_
  refine V_ex sX9_init_22 (by rfl) (by exact trivial) ?_
  refine V_newa (M := MX9_init) (N := 501) (k := 0) dX9_init_26 rfl (by decide) (by decide +kernel) (zF.mono h0 (by omega)) (by omega) (by decide) ⟨Nat.le_of_ble_eq_true rfl, Nat.le_of_ble_eq_true rfl⟩ ?_
  refine V_putF (M := MX9_init) (ci := 8) (k := 4) dX9_init_28 (by decide +kernel) rfl (by simp (disch := omega) only [newL_ne, refL_1, hL, lX5_1, lX0_1, lX2_1, lX4_1, lX10_1, lX6_1, lX1_1]) rfl ?_
  refine V_ex sX9_init_31 (by rfl) (by exact trivial) ?_
  refine V_putF (M := MX9_init) (ci := 8) (k := 0) dX9_init_33 (by decide +kernel) rfl (by simp (disch := omega) only [newL_ne, refL_1, hL, lX5_1, lX0_1, lX2_1, lX4_1, lX10_1, lX6_1, lX1_1]) rfl ?_
  exact V_vret dX9_init_36 rfl ⟨Nat.le_of_ble_eq_true rfl, Nat.le_of_ble_eq_true rfl⟩ ⟨rfl, rfl⟩
def lX8 (Λ : Ly) (a : Nat) (n : Nat) (t : Nat) : Ly := refL (lX9 (newL (Λ) (n + 1) (.inl 8)) (n + 1) (n + 1) (t)) a 0 (n + 1)
theorem lX8_1 {Λ : Ly} {a n c t : Nat} (h : c ≤ n) : (lX8 Λ a n t).1 c = Λ.1 c := by unfold lX8; simp (disch := omega) only [newL_ne, refL_1, lX5_1, lX0_1, lX2_1, lX4_1, lX10_1, lX6_1, lX1_1, lX9_1]
set_option maxRecDepth 100000 in
set_option maxHeartbeats 4000000 in
theorem i_X8 {κ : Kx} (hκ : KOK κ) {d a n t : Nat} {Λ : Ly} {G : Wd} (ha : 0 < a ∧ a ≤ n) (hn : n + 4 < 1000000) (hL : Λ.1 a = some (.inl 7)) (h0 : zF G n) (hd : 3 ≤ d) : Ct κ MX8_init d 4 1510 [VR a, VR t] (Λ, some n, G) (fun u Ω' => u = none ∧ Ω' = (lX8 Λ a n t, some (n + 4), G)) noX := by
  refine Ct_of hκ kX8_init.1 rfl (Nat.le_of_ble_eq_true rfl) (ls := [some (VR a), some (VR t)]) rfl (fun μ => ?_)
  refine V_ex sX8_init_0 (by rfl) (by exact trivial) ?_
  refine V_objI (M := MX8_init) dX8_init_1 (by decide +kernel) ⟨by omega, by omega⟩ (Nat.le_of_ble_eq_true rfl) ⟨by show 1 ≤ d; omega, by show 30 ≤ 100 + 40 * d; omega⟩ ?_
  refine V_ex sX8_init_4 (by rfl) (by exact trivial) ?_
  refine V_new (M := MX8_init) (ci := 8) dX8_init_5 rfl (by decide +kernel) (by decide +kernel) (by decide +kernel) (zF.mono h0 (by omega)) (by omega) ⟨Nat.le_of_ble_eq_true rfl, Nat.le_of_ble_eq_true rfl⟩ ?_
  refine V_ex sX8_init_8 (by rfl) (by exact trivial) ?_
  refine V_callI (M := MX8_init) (N := MX9_init) dX8_init_10 lRX8_11 kX9_init rfl rfl ⟨by omega, by omega⟩ (i_X9 (d := 1) hκ  ⟨by omega, by omega⟩ (by omega) (by simp only [newL_at]) (zF.mono h0 (by omega)) (by omega)) rfl rfl (Nat.le_of_ble_eq_true rfl) (fit_rm (by omega)) ⟨Nat.le_of_ble_eq_true rfl, Nat.le_of_ble_eq_true rfl⟩ (fun v Ω' hp => ?_) (fun _ _ h => h.elim)
  obtain ⟨rfl, rfl⟩ := hp
  refine V_putF (M := MX8_init) (ci := 7) (k := 0) dX8_init_13 (by decide +kernel) rfl (by simp (disch := omega) only [newL_ne, refL_1, hL, lX5_1, lX0_1, lX2_1, lX4_1, lX10_1, lX6_1, lX1_1, lX9_1]) rfl ?_
  exact V_vret dX8_init_16 rfl ⟨Nat.le_of_ble_eq_true rfl, Nat.le_of_ble_eq_true rfl⟩ ⟨rfl, rfl⟩
