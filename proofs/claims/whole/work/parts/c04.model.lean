/-! CONSTRUCTORS: the model, by program -/
def p12L (Λ : Ly) (a n : Nat) : Ly := refL (newL (refL (newL (refL (newL (refL (newL (refL (newL (refL (newL (refL (newL (refL (newL (refL (newL (refL (newL (refL (newL (refL (newL (refL (newL (refL (newL (refL (newL (refL (newL (refL (newL (refL (newL (refL (newL (refL (newL (refL (newL (refL (newL (refL (newL (refL (newL (refL (newL (refL (newL (refL (newL (refL (newL (refL (newL (refL (newL (refL (newL (refL (newL (refL (newL (refL (newL (refL (newL (refL (newL (refL (newL (refL (newL (refL (newL (refL (newL (refL (newL (refL (refL (refL (refL (refL (newL (refL (refL (refL (refL (refL (refL (refL (refL (newL (Λ) (n + 1) (.inr (5, 7))) (n + 1) 0 (1000019)) (n + 1) 1 (1000020)) (n + 1) 2 (1000021)) (n + 1) 3 (1000022)) (n + 1) 4 (1000023)) (n + 1) 5 (1000024)) (n + 1) 6 (1000025)) a 0 (n + 1)) (n + 2) (.inr (5, 4))) (n + 2) 0 (1000026)) (n + 2) 1 (1000027)) (n + 2) 2 (1000028)) (n + 2) 3 (1000029)) a 1 (n + 2)) (n + 3) (.inr (0, 4))) a 3 (n + 3)) (n + 4) (.inr (0, 12))) a 4 (n + 4)) (n + 5) (.inr (0, 12))) a 5 (n + 5)) (n + 6) (.inr (0, 12))) a 6 (n + 6)) (n + 7) (.inr (0, 12))) a 7 (n + 7)) (n + 8) (.inr (0, 720))) a 8 (n + 8)) (n + 9) (.inr (0, 16))) a 9 (n + 9)) (n + 10) (.inr (0, 16))) a 10 (n + 10)) (n + 11) (.inr (0, 480))) a 11 (n + 11)) (n + 12) (.inr (0, 20))) a 12 (n + 12)) (n + 13) (.inr (0, 12))) a 13 (n + 13)) (n + 14) (.inr (0, 12))) a 14 (n + 14)) (n + 15) (.inr (0, 1000))) a 15 (n + 15)) (n + 16) (.inr (0, 4))) a 16 (n + 16)) (n + 17) (.inr (0, 500))) a 17 (n + 17)) (n + 18) (.inr (0, 4))) a 29 (n + 18)) (n + 19) (.inr (0, 64))) a 30 (n + 19)) (n + 20) (.inr (0, 720))) a 31 (n + 20)) (n + 21) (.inr (0, 720))) a 32 (n + 21)) (n + 22) (.inr (2, 720))) a 33 (n + 22)) (n + 23) (.inr (1, 6))) a 40 (n + 23)) (n + 24) (.inr (1, 6))) a 41 (n + 24)) (n + 25) (.inr (1, 55800))) a 43 (n + 25)) (n + 26) (.inr (0, 10))) a 44 (n + 26)) (n + 27) (.inr (0, 20))) a 46 (n + 27)) (n + 28) (.inr (0, 20))) a 47 (n + 28)) (n + 29) (.inr (0, 30))) a 49 (n + 29)) (n + 30) (.inr (0, 10))) a 50 (n + 30)) (n + 31) (.inr (0, 10))) a 51 (n + 31)) (n + 32) (.inr (0, 4))) a 52 (n + 32)) (n + 33) (.inr (0, 4))) a 53 (n + 33)) (n + 34) (.inr (1, 30))) a 54 (n + 34)) (n + 35) (.inr (1, 4))) a 55 (n + 35)) (n + 36) (.inr (0, 720))) a 68 (n + 36)) (n + 37) (.inr (0, 12))) a 69 (n + 37)) (n + 38) (.inr (0, 720))) a 70 (n + 38)) (n + 39) (.inr (0, 720))) a 71 (n + 39)) (n + 40) (.inr (0, 20))) a 72 (n + 40)) (n + 41) (.inr (0, 20))) a 73 (n + 41)) (n + 42) (.inr (0, 4))) a 74 (n + 42)) (n + 43) (.inr (2, 720))) a 75 (n + 43)
def p12G (G : Wd) (a _n : Nat) : Wd := (uPi (uPi (uPi G a 28 (-1)) a 57 (-1)) a 58 (-1))
set_option maxRecDepth 100000 in
set_option maxHeartbeats 8000000 in
theorem i_X12 {κ : Kx} (hκ : KOK κ) (hKS : KS κ) {d a n : Nat} {Λ : Ly} {G : Wd} (ha : 0 < a ∧ a ≤ n) (hn : n + 43 < 1000000) (hL : Λ.1 a = some (.inl 11)) (h0 : zF G n) (hd : 9 ≤ d) : Ct κ MX12_init d 43 63961 [VR a] (Λ, some n, G) (fun u Ω' => u = none ∧ Ω' = (p12L Λ a n, some (n + 43), gF (p12G G a n) (n + 12) 10)) noX := by
  refine Ct_of hκ kX12_init.1 rfl (Nat.le_of_ble_eq_true rfl) (ls := [some (VR a), none]) rfl (fun μ => ?_)
  have h1 : (p12L Λ a n).1 a = some (.inl 11) := by unfold p12L; simp (disch := omega) only [newL_ne, refL_1]; exact hL
  have h2 : (p12L Λ a n).2 a 12 = some (n + 12) := by unfold p12L; simp (disch := omega) only [newL2_ne, refL_ne, refL_at]
  have h3 : (p12L Λ a n).1 (n + 12) = some (.inr (0, 20)) := by unfold p12L; simp (disch := omega) only [newL_ne, refL_1, newL_at]
  have L3 : ∀ (k i : Nat) (z : Int), i + k = 10 → z = (i : Int) → V κ MX12_init (rmD d 43 63961) (fun u Ω' => u = none ∧ Ω' = (p12L Λ a n, some (n + 43), gF (p12G G a n) (n + 12) 10)) noX 43 63961 μ 43 63961 (p12L Λ a n, some (n + 43), gF (p12G G a n) (n + 12) i) 426 [some (VR a), some (VI z)] [] := by
    intro k
    induction k with
    | zero =>
      intro i z hk hz
      obtain rfl : i = 10 := by omega
      subst hz
      refine V_ex sX12_init_426 (by simp (disch := omega) only [Option.toList, List.cons_append, List.nil_append, exN, ex1, gI, gL, gR, pI, pL, pR, lget, lset1, lset2, kl, b2I, b2L, nob, ob32, ob64, xGet, xPut, xLen, xLd, xLdR, xSt, obA, true_and, and_true, and_self, eq_self, Nat.reduceEqDiff, Nat.zero_ne_one, reduceIte, Nat.reduceLeDiff, and_false, false_and, h1, upd2_eq, Int.reduceToNat, Int.toNat_natCast]; rfl) (by first | exact trivial | (simp only [ob, obA]; omega) | (simp only [ob, obA, R32]; omega) | (simp only [ob, obA]; and_intros <;> first | omega | assumption)) ?_
      refine V_icmpge dX12_init_429 (tgt := 446) (by decide) (by simp only [R32]; omega) (fun q => ?_) (fun q => ?_)
      · exact V_vret dX12_init_446 rfl ⟨Nat.le_of_ble_eq_true rfl, Nat.le_of_ble_eq_true rfl⟩ ⟨rfl, rfl⟩
      · omega
    | succ k ih =>
      intro i z hk hz
      subst hz
      refine V_ex sX12_init_426 (by simp (disch := omega) only [Option.toList, List.cons_append, List.nil_append, exN, ex1, gI, gL, gR, pI, pL, pR, lget, lset1, lset2, kl, b2I, b2L, nob, ob32, ob64, xGet, xPut, xLen, xLd, xLdR, xSt, obA, true_and, and_true, and_self, eq_self, Nat.reduceEqDiff, Nat.zero_ne_one, reduceIte, Nat.reduceLeDiff, and_false, false_and, h1, upd2_eq, Int.reduceToNat, Int.toNat_natCast]; rfl) (by first | exact trivial | (simp only [ob, obA]; omega) | (simp only [ob, obA, R32]; omega) | (simp only [ob, obA]; and_intros <;> first | omega | assumption)) ?_
      refine V_icmpge dX12_init_429 (tgt := 446) (by decide) (by simp only [R32]; omega) (fun q => ?_) (fun q => ?_)
      · omega
      · refine V_ex sX12_init_432 (by simp (disch := omega) only [Option.toList, List.cons_append, List.nil_append, exN, ex1, gI, gL, gR, pI, pL, pR, lget, lset1, lset2, kl, b2I, b2L, nob, ob32, ob64, xGet, xPut, xLen, xLd, xLdR, xSt, obA, true_and, and_true, and_self, eq_self, Nat.reduceEqDiff, Nat.zero_ne_one, reduceIte, Nat.reduceLeDiff, and_false, false_and, show skd 11 12 = 2 from rfl, h1, h2, h3, upd2_eq, Int.reduceToNat, Int.toNat_natCast]; rfl) (by first | exact trivial | (simp only [ob, obA]; omega) | (simp only [ob, obA, R32]; omega) | (simp only [ob, obA]; and_intros <;> first | omega | assumption)) ?_
        refine V_goto dX12_init_443 (tgt := 426) (by decide) ?_
        rw [gF_s]
        exact ih (i + 1) ((i : Int) + 1) (by omega) (by omega)
  refine V_ex sX12_init_0 (by rfl) (by exact trivial) ?_
  refine V_objI (M := MX12_init) dX12_init_1 (by decide +kernel) ⟨by omega, by omega⟩ (Nat.le_of_ble_eq_true rfl) ⟨by show 1 ≤ d; omega, by show 30 ≤ 100 + 40 * d; omega⟩ ?_
  refine V_ex sX12_init_4 (by rfl) (by exact trivial) ?_
  refine V_anew (M := MX12_init) (N := 7) (k := 5) dX12_init_7 rfl (by decide) (by decide +kernel) (by decide +kernel) (by omega) (by decide) ⟨Nat.le_of_ble_eq_true rfl, Nat.le_of_ble_eq_true rfl⟩ ?_
  refine V_ex sX12_init_10 (by rfl) (by exact trivial) ?_
  refine V_ldcS (n := 1000019) (ks_R hKS (i := 18) rfl) dX12_init_12 ?_
  refine V_aastS (M := MX12_init) (j := 0) (k := 5) (N := 7) dX12_init_14 (by simp (disch := omega) only [newL_at, newL_ne, refL_1]) (by decide) rfl (by decide) ⟨by decide, by decide⟩ (ks_O hKS (i := 18) rfl) ?_
  refine V_ex sX12_init_15 (by rfl) (by exact trivial) ?_
  refine V_ldcS (n := 1000020) (ks_R hKS (i := 19) rfl) dX12_init_17 ?_
  refine V_aastS (M := MX12_init) (j := 1) (k := 5) (N := 7) dX12_init_19 (by simp (disch := omega) only [newL_at, newL_ne, refL_1]) (by decide) rfl (by decide) ⟨by decide, by decide⟩ (ks_O hKS (i := 19) rfl) ?_
  refine V_ex sX12_init_20 (by rfl) (by exact trivial) ?_
  refine V_ldcS (n := 1000021) (ks_R hKS (i := 20) rfl) dX12_init_22 ?_
  refine V_aastS (M := MX12_init) (j := 2) (k := 5) (N := 7) dX12_init_24 (by simp (disch := omega) only [newL_at, newL_ne, refL_1]) (by decide) rfl (by decide) ⟨by decide, by decide⟩ (ks_O hKS (i := 20) rfl) ?_
  refine V_ex sX12_init_25 (by rfl) (by exact trivial) ?_
  refine V_ldcS (n := 1000022) (ks_R hKS (i := 21) rfl) dX12_init_27 ?_
  refine V_aastS (M := MX12_init) (j := 3) (k := 5) (N := 7) dX12_init_29 (by simp (disch := omega) only [newL_at, newL_ne, refL_1]) (by decide) rfl (by decide) ⟨by decide, by decide⟩ (ks_O hKS (i := 21) rfl) ?_
  refine V_ex sX12_init_30 (by rfl) (by exact trivial) ?_
  refine V_ldcS (n := 1000023) (ks_R hKS (i := 22) rfl) dX12_init_32 ?_
  refine V_aastS (M := MX12_init) (j := 4) (k := 5) (N := 7) dX12_init_34 (by simp (disch := omega) only [newL_at, newL_ne, refL_1]) (by decide) rfl (by decide) ⟨by decide, by decide⟩ (ks_O hKS (i := 22) rfl) ?_
  refine V_ex sX12_init_35 (by rfl) (by exact trivial) ?_
  refine V_ldcS (n := 1000024) (ks_R hKS (i := 23) rfl) dX12_init_37 ?_
  refine V_aastS (M := MX12_init) (j := 5) (k := 5) (N := 7) dX12_init_39 (by simp (disch := omega) only [newL_at, newL_ne, refL_1]) (by decide) rfl (by decide) ⟨by decide, by decide⟩ (ks_O hKS (i := 23) rfl) ?_
  refine V_ex sX12_init_40 (by rfl) (by exact trivial) ?_
  refine V_ldcS (n := 1000025) (ks_R hKS (i := 24) rfl) dX12_init_43 ?_
  refine V_aastS (M := MX12_init) (j := 6) (k := 5) (N := 7) dX12_init_45 (by simp (disch := omega) only [newL_at, newL_ne, refL_1]) (by decide) rfl (by decide) ⟨by decide, by decide⟩ (ks_O hKS (i := 24) rfl) ?_
  refine V_putF (M := MX12_init) (ci := 11) (k := 0) dX12_init_46 (by decide +kernel) rfl (by simp (disch := omega) only [newL_ne, refL_1, hL, lX5_1, lX0_1, lX2_1, lX4_1, lX10_1, lX6_1, lX1_1, lX9_1, lX8_1, lX7_1, lX11_1]) rfl ?_
  refine V_ex sX12_init_49 (by rfl) (by exact trivial) ?_
  refine V_anew (M := MX12_init) (N := 4) (k := 5) dX12_init_51 rfl (by decide) (by decide +kernel) (by decide +kernel) (by omega) (by decide) ⟨Nat.le_of_ble_eq_true rfl, Nat.le_of_ble_eq_true rfl⟩ ?_
  refine V_ex sX12_init_54 (by rfl) (by exact trivial) ?_
  refine V_ldcS (n := 1000026) (ks_R hKS (i := 25) rfl) dX12_init_56 ?_
  refine V_aastS (M := MX12_init) (j := 0) (k := 5) (N := 4) dX12_init_58 (by simp (disch := omega) only [newL_at, newL_ne, refL_1]) (by decide) rfl (by decide) ⟨by decide, by decide⟩ (ks_O hKS (i := 25) rfl) ?_
  refine V_ex sX12_init_59 (by rfl) (by exact trivial) ?_
  refine V_ldcS (n := 1000027) (ks_R hKS (i := 26) rfl) dX12_init_61 ?_
  refine V_aastS (M := MX12_init) (j := 1) (k := 5) (N := 4) dX12_init_63 (by simp (disch := omega) only [newL_at, newL_ne, refL_1]) (by decide) rfl (by decide) ⟨by decide, by decide⟩ (ks_O hKS (i := 26) rfl) ?_
  refine V_ex sX12_init_64 (by rfl) (by exact trivial) ?_
  refine V_ldcS (n := 1000028) (ks_R hKS (i := 27) rfl) dX12_init_66 ?_
  refine V_aastS (M := MX12_init) (j := 2) (k := 5) (N := 4) dX12_init_68 (by simp (disch := omega) only [newL_at, newL_ne, refL_1]) (by decide) rfl (by decide) ⟨by decide, by decide⟩ (ks_O hKS (i := 27) rfl) ?_
  refine V_ex sX12_init_69 (by rfl) (by exact trivial) ?_
  refine V_ldcS (n := 1000029) (ks_R hKS (i := 28) rfl) dX12_init_71 ?_
  refine V_aastS (M := MX12_init) (j := 3) (k := 5) (N := 4) dX12_init_73 (by simp (disch := omega) only [newL_at, newL_ne, refL_1]) (by decide) rfl (by decide) ⟨by decide, by decide⟩ (ks_O hKS (i := 28) rfl) ?_
  refine V_putF (M := MX12_init) (ci := 11) (k := 1) dX12_init_74 (by decide +kernel) rfl (by simp (disch := omega) only [newL_ne, refL_1, hL, lX5_1, lX0_1, lX2_1, lX4_1, lX10_1, lX6_1, lX1_1, lX9_1, lX8_1, lX7_1, lX11_1]) rfl ?_
  refine V_ex sX12_init_77 (by rfl) (by exact trivial) ?_
  refine V_newa (M := MX12_init) (N := 4) (k := 0) dX12_init_79 rfl (by decide) (by decide +kernel) (zF.mono h0 (by omega)) (by omega) (by decide) ⟨Nat.le_of_ble_eq_true rfl, Nat.le_of_ble_eq_true rfl⟩ ?_
  refine V_putF (M := MX12_init) (ci := 11) (k := 3) dX12_init_81 (by decide +kernel) rfl (by simp (disch := omega) only [newL_ne, refL_1, hL, lX5_1, lX0_1, lX2_1, lX4_1, lX10_1, lX6_1, lX1_1, lX9_1, lX8_1, lX7_1, lX11_1]) rfl ?_
  refine V_ex sX12_init_84 (by rfl) (by exact trivial) ?_
  refine V_newa (M := MX12_init) (N := 12) (k := 0) dX12_init_87 rfl (by decide) (by decide +kernel) (zF.mono h0 (by omega)) (by omega) (by decide) ⟨Nat.le_of_ble_eq_true rfl, Nat.le_of_ble_eq_true rfl⟩ ?_
  refine V_putF (M := MX12_init) (ci := 11) (k := 4) dX12_init_89 (by decide +kernel) rfl (by simp (disch := omega) only [newL_ne, refL_1, hL, lX5_1, lX0_1, lX2_1, lX4_1, lX10_1, lX6_1, lX1_1, lX9_1, lX8_1, lX7_1, lX11_1]) rfl ?_
  refine V_ex sX12_init_92 (by rfl) (by exact trivial) ?_
  refine V_newa (M := MX12_init) (N := 12) (k := 0) dX12_init_95 rfl (by decide) (by decide +kernel) (zF.mono h0 (by omega)) (by omega) (by decide) ⟨Nat.le_of_ble_eq_true rfl, Nat.le_of_ble_eq_true rfl⟩ ?_
  refine V_putF (M := MX12_init) (ci := 11) (k := 5) dX12_init_97 (by decide +kernel) rfl (by simp (disch := omega) only [newL_ne, refL_1, hL, lX5_1, lX0_1, lX2_1, lX4_1, lX10_1, lX6_1, lX1_1, lX9_1, lX8_1, lX7_1, lX11_1]) rfl ?_
  refine V_ex sX12_init_100 (by rfl) (by exact trivial) ?_
  refine V_newa (M := MX12_init) (N := 12) (k := 0) dX12_init_103 rfl (by decide) (by decide +kernel) (zF.mono h0 (by omega)) (by omega) (by decide) ⟨Nat.le_of_ble_eq_true rfl, Nat.le_of_ble_eq_true rfl⟩ ?_
  refine V_putF (M := MX12_init) (ci := 11) (k := 6) dX12_init_105 (by decide +kernel) rfl (by simp (disch := omega) only [newL_ne, refL_1, hL, lX5_1, lX0_1, lX2_1, lX4_1, lX10_1, lX6_1, lX1_1, lX9_1, lX8_1, lX7_1, lX11_1]) rfl ?_
  refine V_ex sX12_init_108 (by rfl) (by exact trivial) ?_
  refine V_newa (M := MX12_init) (N := 12) (k := 0) dX12_init_111 rfl (by decide) (by decide +kernel) (zF.mono h0 (by omega)) (by omega) (by decide) ⟨Nat.le_of_ble_eq_true rfl, Nat.le_of_ble_eq_true rfl⟩ ?_
  refine V_putF (M := MX12_init) (ci := 11) (k := 7) dX12_init_113 (by decide +kernel) rfl (by simp (disch := omega) only [newL_ne, refL_1, hL, lX5_1, lX0_1, lX2_1, lX4_1, lX10_1, lX6_1, lX1_1, lX9_1, lX8_1, lX7_1, lX11_1]) rfl ?_
  refine V_ex sX12_init_116 (by rfl) (by exact trivial) ?_
  refine V_newa (M := MX12_init) (N := 720) (k := 0) dX12_init_120 rfl (by decide) (by decide +kernel) (zF.mono h0 (by omega)) (by omega) (by decide) ⟨Nat.le_of_ble_eq_true rfl, Nat.le_of_ble_eq_true rfl⟩ ?_
  refine V_putF (M := MX12_init) (ci := 11) (k := 8) dX12_init_122 (by decide +kernel) rfl (by simp (disch := omega) only [newL_ne, refL_1, hL, lX5_1, lX0_1, lX2_1, lX4_1, lX10_1, lX6_1, lX1_1, lX9_1, lX8_1, lX7_1, lX11_1]) rfl ?_
  refine V_ex sX12_init_125 (by rfl) (by exact trivial) ?_
  refine V_newa (M := MX12_init) (N := 16) (k := 0) dX12_init_128 rfl (by decide) (by decide +kernel) (zF.mono h0 (by omega)) (by omega) (by decide) ⟨Nat.le_of_ble_eq_true rfl, Nat.le_of_ble_eq_true rfl⟩ ?_
  refine V_putF (M := MX12_init) (ci := 11) (k := 9) dX12_init_130 (by decide +kernel) rfl (by simp (disch := omega) only [newL_ne, refL_1, hL, lX5_1, lX0_1, lX2_1, lX4_1, lX10_1, lX6_1, lX1_1, lX9_1, lX8_1, lX7_1, lX11_1]) rfl ?_
  refine V_ex sX12_init_133 (by rfl) (by exact trivial) ?_
  refine V_newa (M := MX12_init) (N := 16) (k := 0) dX12_init_136 rfl (by decide) (by decide +kernel) (zF.mono h0 (by omega)) (by omega) (by decide) ⟨Nat.le_of_ble_eq_true rfl, Nat.le_of_ble_eq_true rfl⟩ ?_
  refine V_putF (M := MX12_init) (ci := 11) (k := 10) dX12_init_138 (by decide +kernel) rfl (by simp (disch := omega) only [newL_ne, refL_1, hL, lX5_1, lX0_1, lX2_1, lX4_1, lX10_1, lX6_1, lX1_1, lX9_1, lX8_1, lX7_1, lX11_1]) rfl ?_
  refine V_ex sX12_init_141 (by rfl) (by exact trivial) ?_
  refine V_newa (M := MX12_init) (N := 480) (k := 0) dX12_init_145 rfl (by decide) (by decide +kernel) (zF.mono h0 (by omega)) (by omega) (by decide) ⟨Nat.le_of_ble_eq_true rfl, Nat.le_of_ble_eq_true rfl⟩ ?_
  refine V_putF (M := MX12_init) (ci := 11) (k := 11) dX12_init_147 (by decide +kernel) rfl (by simp (disch := omega) only [newL_ne, refL_1, hL, lX5_1, lX0_1, lX2_1, lX4_1, lX10_1, lX6_1, lX1_1, lX9_1, lX8_1, lX7_1, lX11_1]) rfl ?_
  refine V_ex sX12_init_150 (by rfl) (by exact trivial) ?_
  refine V_newa (M := MX12_init) (N := 20) (k := 0) dX12_init_153 rfl (by decide) (by decide +kernel) (zF.mono h0 (by omega)) (by omega) (by decide) ⟨Nat.le_of_ble_eq_true rfl, Nat.le_of_ble_eq_true rfl⟩ ?_
  refine V_putF (M := MX12_init) (ci := 11) (k := 12) dX12_init_155 (by decide +kernel) rfl (by simp (disch := omega) only [newL_ne, refL_1, hL, lX5_1, lX0_1, lX2_1, lX4_1, lX10_1, lX6_1, lX1_1, lX9_1, lX8_1, lX7_1, lX11_1]) rfl ?_
  refine V_ex sX12_init_158 (by rfl) (by exact trivial) ?_
  refine V_newa (M := MX12_init) (N := 12) (k := 0) dX12_init_161 rfl (by decide) (by decide +kernel) (zF.mono h0 (by omega)) (by omega) (by decide) ⟨Nat.le_of_ble_eq_true rfl, Nat.le_of_ble_eq_true rfl⟩ ?_
  refine V_putF (M := MX12_init) (ci := 11) (k := 13) dX12_init_163 (by decide +kernel) rfl (by simp (disch := omega) only [newL_ne, refL_1, hL, lX5_1, lX0_1, lX2_1, lX4_1, lX10_1, lX6_1, lX1_1, lX9_1, lX8_1, lX7_1, lX11_1]) rfl ?_
  refine V_ex sX12_init_166 (by rfl) (by exact trivial) ?_
  refine V_newa (M := MX12_init) (N := 12) (k := 0) dX12_init_169 rfl (by decide) (by decide +kernel) (zF.mono h0 (by omega)) (by omega) (by decide) ⟨Nat.le_of_ble_eq_true rfl, Nat.le_of_ble_eq_true rfl⟩ ?_
  refine V_putF (M := MX12_init) (ci := 11) (k := 14) dX12_init_171 (by decide +kernel) rfl (by simp (disch := omega) only [newL_ne, refL_1, hL, lX5_1, lX0_1, lX2_1, lX4_1, lX10_1, lX6_1, lX1_1, lX9_1, lX8_1, lX7_1, lX11_1]) rfl ?_
  refine V_ex sX12_init_174 (by rfl) (by exact trivial) ?_
  refine V_newa (M := MX12_init) (N := 1000) (k := 0) dX12_init_178 rfl (by decide) (by decide +kernel) (zF.mono h0 (by omega)) (by omega) (by decide) ⟨Nat.le_of_ble_eq_true rfl, Nat.le_of_ble_eq_true rfl⟩ ?_
  refine V_putF (M := MX12_init) (ci := 11) (k := 15) dX12_init_180 (by decide +kernel) rfl (by simp (disch := omega) only [newL_ne, refL_1, hL, lX5_1, lX0_1, lX2_1, lX4_1, lX10_1, lX6_1, lX1_1, lX9_1, lX8_1, lX7_1, lX11_1]) rfl ?_
  refine V_ex sX12_init_183 (by rfl) (by exact trivial) ?_
  refine V_newa (M := MX12_init) (N := 4) (k := 0) dX12_init_185 rfl (by decide) (by decide +kernel) (zF.mono h0 (by omega)) (by omega) (by decide) ⟨Nat.le_of_ble_eq_true rfl, Nat.le_of_ble_eq_true rfl⟩ ?_
  refine V_putF (M := MX12_init) (ci := 11) (k := 16) dX12_init_187 (by decide +kernel) rfl (by simp (disch := omega) only [newL_ne, refL_1, hL, lX5_1, lX0_1, lX2_1, lX4_1, lX10_1, lX6_1, lX1_1, lX9_1, lX8_1, lX7_1, lX11_1]) rfl ?_
  refine V_ex sX12_init_190 (by rfl) (by exact trivial) ?_
  refine V_newa (M := MX12_init) (N := 500) (k := 0) dX12_init_194 rfl (by decide) (by decide +kernel) (zF.mono h0 (by omega)) (by omega) (by decide) ⟨Nat.le_of_ble_eq_true rfl, Nat.le_of_ble_eq_true rfl⟩ ?_
  refine V_putF (M := MX12_init) (ci := 11) (k := 17) dX12_init_196 (by decide +kernel) rfl (by simp (disch := omega) only [newL_ne, refL_1, hL, lX5_1, lX0_1, lX2_1, lX4_1, lX10_1, lX6_1, lX1_1, lX9_1, lX8_1, lX7_1, lX11_1]) rfl ?_
  refine V_ex sX12_init_199 (by simp (disch := omega) only [Option.toList, List.cons_append, List.nil_append, exN, ex1, gI, gL, gR, pI, pL, pR, lget, lset1, lset2, kl, b2I, b2L, nob, ob32, ob64, xGet, xPut, xLen, xLd, xLdR, xSt, obA, true_and, and_true, and_self, eq_self, Nat.reduceEqDiff, Nat.zero_ne_one, reduceIte, Nat.reduceLeDiff, and_false, false_and, refL_at, refL_ne, newL2_ne, show skd 11 28 = 0 from rfl]; rfl) (by first | exact trivial | (simp (disch := omega) only [ob, obA, newL_ne, refL_1, hL, lX5_1, lX0_1, lX2_1, lX4_1, lX10_1, lX6_1, lX1_1, lX9_1, lX8_1, lX7_1, lX11_1]; done) | (simp (disch := omega) only [ob, obA, newL_ne, refL_1, hL, lX5_1, lX0_1, lX2_1, lX4_1, lX10_1, lX6_1, lX1_1, lX9_1, lX8_1, lX7_1, lX11_1, and_self])) ?_
  have hz1 : zF (uPi G a 28 (-1)) (n + 17) := zF_u (zF.mono h0 (by omega)) (by omega)
  refine V_newa (M := MX12_init) (N := 4) (k := 0) dX12_init_206 rfl (by decide) (by decide +kernel) (zF.mono hz1 (by omega)) (by omega) (by decide) ⟨Nat.le_of_ble_eq_true rfl, Nat.le_of_ble_eq_true rfl⟩ ?_
  refine V_putF (M := MX12_init) (ci := 11) (k := 29) dX12_init_208 (by decide +kernel) rfl (by simp (disch := omega) only [newL_ne, refL_1, hL, lX5_1, lX0_1, lX2_1, lX4_1, lX10_1, lX6_1, lX1_1, lX9_1, lX8_1, lX7_1, lX11_1]) rfl ?_
  refine V_ex sX12_init_211 (by rfl) (by exact trivial) ?_
  refine V_newa (M := MX12_init) (N := 64) (k := 0) dX12_init_214 rfl (by decide) (by decide +kernel) (zF.mono hz1 (by omega)) (by omega) (by decide) ⟨Nat.le_of_ble_eq_true rfl, Nat.le_of_ble_eq_true rfl⟩ ?_
  refine V_putF (M := MX12_init) (ci := 11) (k := 30) dX12_init_216 (by decide +kernel) rfl (by simp (disch := omega) only [newL_ne, refL_1, hL, lX5_1, lX0_1, lX2_1, lX4_1, lX10_1, lX6_1, lX1_1, lX9_1, lX8_1, lX7_1, lX11_1]) rfl ?_
  refine V_ex sX12_init_219 (by rfl) (by exact trivial) ?_
  refine V_newa (M := MX12_init) (N := 720) (k := 0) dX12_init_223 rfl (by decide) (by decide +kernel) (zF.mono hz1 (by omega)) (by omega) (by decide) ⟨Nat.le_of_ble_eq_true rfl, Nat.le_of_ble_eq_true rfl⟩ ?_
  refine V_putF (M := MX12_init) (ci := 11) (k := 31) dX12_init_225 (by decide +kernel) rfl (by simp (disch := omega) only [newL_ne, refL_1, hL, lX5_1, lX0_1, lX2_1, lX4_1, lX10_1, lX6_1, lX1_1, lX9_1, lX8_1, lX7_1, lX11_1]) rfl ?_
  refine V_ex sX12_init_228 (by rfl) (by exact trivial) ?_
  refine V_newa (M := MX12_init) (N := 720) (k := 0) dX12_init_232 rfl (by decide) (by decide +kernel) (zF.mono hz1 (by omega)) (by omega) (by decide) ⟨Nat.le_of_ble_eq_true rfl, Nat.le_of_ble_eq_true rfl⟩ ?_
  refine V_putF (M := MX12_init) (ci := 11) (k := 32) dX12_init_234 (by decide +kernel) rfl (by simp (disch := omega) only [newL_ne, refL_1, hL, lX5_1, lX0_1, lX2_1, lX4_1, lX10_1, lX6_1, lX1_1, lX9_1, lX8_1, lX7_1, lX11_1]) rfl ?_
  refine V_ex sX12_init_237 (by rfl) (by exact trivial) ?_
  refine V_newa (M := MX12_init) (N := 720) (k := 2) dX12_init_241 rfl (by decide) (by decide +kernel) (zF.mono hz1 (by omega)) (by omega) (by decide) ⟨Nat.le_of_ble_eq_true rfl, Nat.le_of_ble_eq_true rfl⟩ ?_
  refine V_putF (M := MX12_init) (ci := 11) (k := 33) dX12_init_243 (by decide +kernel) rfl (by simp (disch := omega) only [newL_ne, refL_1, hL, lX5_1, lX0_1, lX2_1, lX4_1, lX10_1, lX6_1, lX1_1, lX9_1, lX8_1, lX7_1, lX11_1]) rfl ?_
  refine V_ex sX12_init_246 (by rfl) (by exact trivial) ?_
  refine V_newa (M := MX12_init) (N := 6) (k := 1) dX12_init_249 rfl (by decide) (by decide +kernel) (zF.mono hz1 (by omega)) (by omega) (by decide) ⟨Nat.le_of_ble_eq_true rfl, Nat.le_of_ble_eq_true rfl⟩ ?_
  refine V_putF (M := MX12_init) (ci := 11) (k := 40) dX12_init_251 (by decide +kernel) rfl (by simp (disch := omega) only [newL_ne, refL_1, hL, lX5_1, lX0_1, lX2_1, lX4_1, lX10_1, lX6_1, lX1_1, lX9_1, lX8_1, lX7_1, lX11_1]) rfl ?_
  refine V_ex sX12_init_254 (by rfl) (by exact trivial) ?_
  refine V_newa (M := MX12_init) (N := 6) (k := 1) dX12_init_257 rfl (by decide) (by decide +kernel) (zF.mono hz1 (by omega)) (by omega) (by decide) ⟨Nat.le_of_ble_eq_true rfl, Nat.le_of_ble_eq_true rfl⟩ ?_
  refine V_putF (M := MX12_init) (ci := 11) (k := 41) dX12_init_259 (by decide +kernel) rfl (by simp (disch := omega) only [newL_ne, refL_1, hL, lX5_1, lX0_1, lX2_1, lX4_1, lX10_1, lX6_1, lX1_1, lX9_1, lX8_1, lX7_1, lX11_1]) rfl ?_
  refine V_ex sX12_init_262 (by rfl) (by exact trivial) ?_
  refine V_newa (M := MX12_init) (N := 55800) (k := 1) dX12_init_265 rfl (by decide) (by decide +kernel) (zF.mono hz1 (by omega)) (by omega) (by decide) ⟨Nat.le_of_ble_eq_true rfl, Nat.le_of_ble_eq_true rfl⟩ ?_
  refine V_putF (M := MX12_init) (ci := 11) (k := 43) dX12_init_267 (by decide +kernel) rfl (by simp (disch := omega) only [newL_ne, refL_1, hL, lX5_1, lX0_1, lX2_1, lX4_1, lX10_1, lX6_1, lX1_1, lX9_1, lX8_1, lX7_1, lX11_1]) rfl ?_
  refine V_ex sX12_init_270 (by rfl) (by exact trivial) ?_
  refine V_newa (M := MX12_init) (N := 10) (k := 0) dX12_init_273 rfl (by decide) (by decide +kernel) (zF.mono hz1 (by omega)) (by omega) (by decide) ⟨Nat.le_of_ble_eq_true rfl, Nat.le_of_ble_eq_true rfl⟩ ?_
  refine V_putF (M := MX12_init) (ci := 11) (k := 44) dX12_init_275 (by decide +kernel) rfl (by simp (disch := omega) only [newL_ne, refL_1, hL, lX5_1, lX0_1, lX2_1, lX4_1, lX10_1, lX6_1, lX1_1, lX9_1, lX8_1, lX7_1, lX11_1]) rfl ?_
  refine V_ex sX12_init_278 (by rfl) (by exact trivial) ?_
  refine V_newa (M := MX12_init) (N := 20) (k := 0) dX12_init_281 rfl (by decide) (by decide +kernel) (zF.mono hz1 (by omega)) (by omega) (by decide) ⟨Nat.le_of_ble_eq_true rfl, Nat.le_of_ble_eq_true rfl⟩ ?_
  refine V_putF (M := MX12_init) (ci := 11) (k := 46) dX12_init_283 (by decide +kernel) rfl (by simp (disch := omega) only [newL_ne, refL_1, hL, lX5_1, lX0_1, lX2_1, lX4_1, lX10_1, lX6_1, lX1_1, lX9_1, lX8_1, lX7_1, lX11_1]) rfl ?_
  refine V_ex sX12_init_286 (by rfl) (by exact trivial) ?_
  refine V_newa (M := MX12_init) (N := 20) (k := 0) dX12_init_289 rfl (by decide) (by decide +kernel) (zF.mono hz1 (by omega)) (by omega) (by decide) ⟨Nat.le_of_ble_eq_true rfl, Nat.le_of_ble_eq_true rfl⟩ ?_
  refine V_putF (M := MX12_init) (ci := 11) (k := 47) dX12_init_291 (by decide +kernel) rfl (by simp (disch := omega) only [newL_ne, refL_1, hL, lX5_1, lX0_1, lX2_1, lX4_1, lX10_1, lX6_1, lX1_1, lX9_1, lX8_1, lX7_1, lX11_1]) rfl ?_
  refine V_ex sX12_init_294 (by rfl) (by exact trivial) ?_
  refine V_newa (M := MX12_init) (N := 30) (k := 0) dX12_init_297 rfl (by decide) (by decide +kernel) (zF.mono hz1 (by omega)) (by omega) (by decide) ⟨Nat.le_of_ble_eq_true rfl, Nat.le_of_ble_eq_true rfl⟩ ?_
  refine V_putF (M := MX12_init) (ci := 11) (k := 49) dX12_init_299 (by decide +kernel) rfl (by simp (disch := omega) only [newL_ne, refL_1, hL, lX5_1, lX0_1, lX2_1, lX4_1, lX10_1, lX6_1, lX1_1, lX9_1, lX8_1, lX7_1, lX11_1]) rfl ?_
  refine V_ex sX12_init_302 (by rfl) (by exact trivial) ?_
  refine V_newa (M := MX12_init) (N := 10) (k := 0) dX12_init_305 rfl (by decide) (by decide +kernel) (zF.mono hz1 (by omega)) (by omega) (by decide) ⟨Nat.le_of_ble_eq_true rfl, Nat.le_of_ble_eq_true rfl⟩ ?_
  refine V_putF (M := MX12_init) (ci := 11) (k := 50) dX12_init_307 (by decide +kernel) rfl (by simp (disch := omega) only [newL_ne, refL_1, hL, lX5_1, lX0_1, lX2_1, lX4_1, lX10_1, lX6_1, lX1_1, lX9_1, lX8_1, lX7_1, lX11_1]) rfl ?_
  refine V_ex sX12_init_310 (by rfl) (by exact trivial) ?_
  refine V_newa (M := MX12_init) (N := 10) (k := 0) dX12_init_313 rfl (by decide) (by decide +kernel) (zF.mono hz1 (by omega)) (by omega) (by decide) ⟨Nat.le_of_ble_eq_true rfl, Nat.le_of_ble_eq_true rfl⟩ ?_
  refine V_putF (M := MX12_init) (ci := 11) (k := 51) dX12_init_315 (by decide +kernel) rfl (by simp (disch := omega) only [newL_ne, refL_1, hL, lX5_1, lX0_1, lX2_1, lX4_1, lX10_1, lX6_1, lX1_1, lX9_1, lX8_1, lX7_1, lX11_1]) rfl ?_
  refine V_ex sX12_init_318 (by rfl) (by exact trivial) ?_
  refine V_newa (M := MX12_init) (N := 4) (k := 0) dX12_init_320 rfl (by decide) (by decide +kernel) (zF.mono hz1 (by omega)) (by omega) (by decide) ⟨Nat.le_of_ble_eq_true rfl, Nat.le_of_ble_eq_true rfl⟩ ?_
  refine V_putF (M := MX12_init) (ci := 11) (k := 52) dX12_init_322 (by decide +kernel) rfl (by simp (disch := omega) only [newL_ne, refL_1, hL, lX5_1, lX0_1, lX2_1, lX4_1, lX10_1, lX6_1, lX1_1, lX9_1, lX8_1, lX7_1, lX11_1]) rfl ?_
  refine V_ex sX12_init_325 (by rfl) (by exact trivial) ?_
  refine V_newa (M := MX12_init) (N := 4) (k := 0) dX12_init_327 rfl (by decide) (by decide +kernel) (zF.mono hz1 (by omega)) (by omega) (by decide) ⟨Nat.le_of_ble_eq_true rfl, Nat.le_of_ble_eq_true rfl⟩ ?_
  refine V_putF (M := MX12_init) (ci := 11) (k := 53) dX12_init_329 (by decide +kernel) rfl (by simp (disch := omega) only [newL_ne, refL_1, hL, lX5_1, lX0_1, lX2_1, lX4_1, lX10_1, lX6_1, lX1_1, lX9_1, lX8_1, lX7_1, lX11_1]) rfl ?_
  refine V_ex sX12_init_332 (by rfl) (by exact trivial) ?_
  refine V_newa (M := MX12_init) (N := 30) (k := 1) dX12_init_335 rfl (by decide) (by decide +kernel) (zF.mono hz1 (by omega)) (by omega) (by decide) ⟨Nat.le_of_ble_eq_true rfl, Nat.le_of_ble_eq_true rfl⟩ ?_
  refine V_putF (M := MX12_init) (ci := 11) (k := 54) dX12_init_337 (by decide +kernel) rfl (by simp (disch := omega) only [newL_ne, refL_1, hL, lX5_1, lX0_1, lX2_1, lX4_1, lX10_1, lX6_1, lX1_1, lX9_1, lX8_1, lX7_1, lX11_1]) rfl ?_
  refine V_ex sX12_init_340 (by rfl) (by exact trivial) ?_
  refine V_newa (M := MX12_init) (N := 4) (k := 1) dX12_init_342 rfl (by decide) (by decide +kernel) (zF.mono hz1 (by omega)) (by omega) (by decide) ⟨Nat.le_of_ble_eq_true rfl, Nat.le_of_ble_eq_true rfl⟩ ?_
  refine V_putF (M := MX12_init) (ci := 11) (k := 55) dX12_init_344 (by decide +kernel) rfl (by simp (disch := omega) only [newL_ne, refL_1, hL, lX5_1, lX0_1, lX2_1, lX4_1, lX10_1, lX6_1, lX1_1, lX9_1, lX8_1, lX7_1, lX11_1]) rfl ?_
  refine V_ex sX12_init_347 (by simp (disch := omega) only [Option.toList, List.cons_append, List.nil_append, exN, ex1, gI, gL, gR, pI, pL, pR, lget, lset1, lset2, kl, b2I, b2L, nob, ob32, ob64, xGet, xPut, xLen, xLd, xLdR, xSt, obA, true_and, and_true, and_self, eq_self, Nat.reduceEqDiff, Nat.zero_ne_one, reduceIte, Nat.reduceLeDiff, and_false, false_and, refL_at, refL_ne, newL2_ne, show skd 11 57 = 0 from rfl, show skd 11 58 = 0 from rfl]; rfl) (by first | exact trivial | (simp (disch := omega) only [ob, obA, newL_ne, refL_1, hL, lX5_1, lX0_1, lX2_1, lX4_1, lX10_1, lX6_1, lX1_1, lX9_1, lX8_1, lX7_1, lX11_1]; done) | (simp (disch := omega) only [ob, obA, newL_ne, refL_1, hL, lX5_1, lX0_1, lX2_1, lX4_1, lX10_1, lX6_1, lX1_1, lX9_1, lX8_1, lX7_1, lX11_1, and_self])) ?_
  have hz2 : zF (uPi (uPi G a 28 (-1)) a 57 (-1)) (n + 35) := zF_u (zF.mono hz1 (by omega)) (by omega)
  have hz3 : zF (uPi (uPi (uPi G a 28 (-1)) a 57 (-1)) a 58 (-1)) (n + 35) := zF_u (zF.mono hz2 (by omega)) (by omega)
  refine V_newa (M := MX12_init) (N := 720) (k := 0) dX12_init_361 rfl (by decide) (by decide +kernel) (zF.mono hz3 (by omega)) (by omega) (by decide) ⟨Nat.le_of_ble_eq_true rfl, Nat.le_of_ble_eq_true rfl⟩ ?_
  refine V_putF (M := MX12_init) (ci := 11) (k := 68) dX12_init_363 (by decide +kernel) rfl (by simp (disch := omega) only [newL_ne, refL_1, hL, lX5_1, lX0_1, lX2_1, lX4_1, lX10_1, lX6_1, lX1_1, lX9_1, lX8_1, lX7_1, lX11_1]) rfl ?_
  refine V_ex sX12_init_366 (by rfl) (by exact trivial) ?_
  refine V_newa (M := MX12_init) (N := 12) (k := 0) dX12_init_369 rfl (by decide) (by decide +kernel) (zF.mono hz3 (by omega)) (by omega) (by decide) ⟨Nat.le_of_ble_eq_true rfl, Nat.le_of_ble_eq_true rfl⟩ ?_
  refine V_putF (M := MX12_init) (ci := 11) (k := 69) dX12_init_371 (by decide +kernel) rfl (by simp (disch := omega) only [newL_ne, refL_1, hL, lX5_1, lX0_1, lX2_1, lX4_1, lX10_1, lX6_1, lX1_1, lX9_1, lX8_1, lX7_1, lX11_1]) rfl ?_
  refine V_ex sX12_init_374 (by rfl) (by exact trivial) ?_
  refine V_newa (M := MX12_init) (N := 720) (k := 0) dX12_init_378 rfl (by decide) (by decide +kernel) (zF.mono hz3 (by omega)) (by omega) (by decide) ⟨Nat.le_of_ble_eq_true rfl, Nat.le_of_ble_eq_true rfl⟩ ?_
  refine V_putF (M := MX12_init) (ci := 11) (k := 70) dX12_init_380 (by decide +kernel) rfl (by simp (disch := omega) only [newL_ne, refL_1, hL, lX5_1, lX0_1, lX2_1, lX4_1, lX10_1, lX6_1, lX1_1, lX9_1, lX8_1, lX7_1, lX11_1]) rfl ?_
  refine V_ex sX12_init_383 (by rfl) (by exact trivial) ?_
  refine V_newa (M := MX12_init) (N := 720) (k := 0) dX12_init_387 rfl (by decide) (by decide +kernel) (zF.mono hz3 (by omega)) (by omega) (by decide) ⟨Nat.le_of_ble_eq_true rfl, Nat.le_of_ble_eq_true rfl⟩ ?_
  refine V_putF (M := MX12_init) (ci := 11) (k := 71) dX12_init_389 (by decide +kernel) rfl (by simp (disch := omega) only [newL_ne, refL_1, hL, lX5_1, lX0_1, lX2_1, lX4_1, lX10_1, lX6_1, lX1_1, lX9_1, lX8_1, lX7_1, lX11_1]) rfl ?_
  refine V_ex sX12_init_392 (by rfl) (by exact trivial) ?_
  refine V_newa (M := MX12_init) (N := 20) (k := 0) dX12_init_395 rfl (by decide) (by decide +kernel) (zF.mono hz3 (by omega)) (by omega) (by decide) ⟨Nat.le_of_ble_eq_true rfl, Nat.le_of_ble_eq_true rfl⟩ ?_
  refine V_putF (M := MX12_init) (ci := 11) (k := 72) dX12_init_397 (by decide +kernel) rfl (by simp (disch := omega) only [newL_ne, refL_1, hL, lX5_1, lX0_1, lX2_1, lX4_1, lX10_1, lX6_1, lX1_1, lX9_1, lX8_1, lX7_1, lX11_1]) rfl ?_
  refine V_ex sX12_init_400 (by rfl) (by exact trivial) ?_
  refine V_newa (M := MX12_init) (N := 20) (k := 0) dX12_init_403 rfl (by decide) (by decide +kernel) (zF.mono hz3 (by omega)) (by omega) (by decide) ⟨Nat.le_of_ble_eq_true rfl, Nat.le_of_ble_eq_true rfl⟩ ?_
  refine V_putF (M := MX12_init) (ci := 11) (k := 73) dX12_init_405 (by decide +kernel) rfl (by simp (disch := omega) only [newL_ne, refL_1, hL, lX5_1, lX0_1, lX2_1, lX4_1, lX10_1, lX6_1, lX1_1, lX9_1, lX8_1, lX7_1, lX11_1]) rfl ?_
  refine V_ex sX12_init_408 (by rfl) (by exact trivial) ?_
  refine V_newa (M := MX12_init) (N := 4) (k := 0) dX12_init_410 rfl (by decide) (by decide +kernel) (zF.mono hz3 (by omega)) (by omega) (by decide) ⟨Nat.le_of_ble_eq_true rfl, Nat.le_of_ble_eq_true rfl⟩ ?_
  refine V_putF (M := MX12_init) (ci := 11) (k := 74) dX12_init_412 (by decide +kernel) rfl (by simp (disch := omega) only [newL_ne, refL_1, hL, lX5_1, lX0_1, lX2_1, lX4_1, lX10_1, lX6_1, lX1_1, lX9_1, lX8_1, lX7_1, lX11_1]) rfl ?_
  refine V_ex sX12_init_415 (by rfl) (by exact trivial) ?_
  refine V_newa (M := MX12_init) (N := 720) (k := 2) dX12_init_419 rfl (by decide) (by decide +kernel) (zF.mono hz3 (by omega)) (by omega) (by decide) ⟨Nat.le_of_ble_eq_true rfl, Nat.le_of_ble_eq_true rfl⟩ ?_
  refine V_putF (M := MX12_init) (ci := 11) (k := 75) dX12_init_421 (by decide +kernel) rfl (by simp (disch := omega) only [newL_ne, refL_1, hL, lX5_1, lX0_1, lX2_1, lX4_1, lX10_1, lX6_1, lX1_1, lX9_1, lX8_1, lX7_1, lX11_1]) rfl ?_
  refine V_ex sX12_init_424 (by rfl) (by exact trivial) ?_
  have h := L3 10 0 0 (by omega) rfl
  rw [gF_0] at h
  exact h
