/-! CONSTRUCTORS: a shelf (loops), by program -/
def gF (G : Wd) (b i : Nat) : Wd := (fun x j => if x = b ∧ j < i then 100 else G.1 x j, G.2)
theorem zF_f {G : Wd} {n b i : Nat} (h : zF G n) (hb : b ≤ n) : zF (gF G b i) n := fun c hc j => ⟨by show (if c = b ∧ j < i then 100 else G.1 c j) = 0; rw [if_neg (by omega)]; exact (h c hc j).1, (h c hc j).2⟩
theorem gF_s {G : Wd} {b i : Nat} : (upd2 (gF G b i).1 b i 100, (gF G b i).2) = gF G b (i + 1) := by
  refine Prod.ext ?_ rfl
  funext x j
  show (if x = b ∧ j = i then (100 : Int) else if x = b ∧ j < i then 100 else G.1 x j) = if x = b ∧ j < i + 1 then 100 else G.1 x j
  by_cases c : x = b
  · by_cases e : j = i
    · rw [if_pos ⟨c, e⟩, if_pos ⟨c, by omega⟩]
    · rw [if_neg (fun q => e q.2)]
      by_cases e2 : j < i
      · rw [if_pos ⟨c, e2⟩, if_pos ⟨c, by omega⟩]
      · rw [if_neg (fun q => e2 q.2), if_neg (by omega)]
  · rw [if_neg (fun q => c q.1), if_neg (fun q => c q.1), if_neg (fun q => c q.1)]
theorem gF_0 {G : Wd} {b : Nat} : gF G b 0 = G := by
  refine Prod.ext ?_ rfl
  funext x j
  show (if x = b ∧ j < 0 then (100 : Int) else G.1 x j) = G.1 x j
  rw [if_neg (by omega)]
def bkL (arr : Nat) : Nat → Nat → Ly → Nat → Ly
  | 0, _, Λ, _ => Λ
  | k + 1, i, Λ, n => bkL arr k (i + 1) (refL (lX0 (newL Λ (n + 1) (.inl 0)) (n + 1) (n + 1)) arr i (n + 1)) (n + 5)
def lsLy (arr : Nat) : Nat → Nat → Ly → Nat → Ly
  | 0, _, Λ, _ => Λ
  | k + 1, i, Λ, n => lsLy arr k (i + 1) (refL (lX5 (newL Λ (n + 1) (.inl 4)) (n + 1) (n + 1)) arr i (n + 1)) (n + 2)
theorem lX5_2 {Λ : Ly} {a n c j : Nat} (h : c ≤ n) (hc : c ≠ a) : (lX5 Λ a n).2 c j = Λ.2 c j := by unfold lX5; simp (disch := omega) only [newL2_ne, refL_ne]
theorem lX0_2 {Λ : Ly} {a n c j : Nat} (h : c ≤ n) (hc : c ≠ a) : (lX0 Λ a n).2 c j = Λ.2 c j := by unfold lX0; simp (disch := omega) only [newL2_ne, refL_ne, lX5_2]
theorem bkL_1 {arr : Nat} : ∀ (k i : Nat) (Λ : Ly) (n c : Nat), c ≤ n → (bkL arr k i Λ n).1 c = Λ.1 c := by
  intro k
  induction k with
  | zero => intro i Λ n c _; rfl
  | succ k ih => intro i Λ n c h; rw [bkL, ih _ _ _ _ (by omega)]; simp (disch := omega) only [refL_1, lX0_1, newL_ne]
theorem bkL_2 {arr : Nat} : ∀ (k i : Nat) (Λ : Ly) (n c j : Nat), c ≤ n → c ≠ arr → (bkL arr k i Λ n).2 c j = Λ.2 c j := by
  intro k
  induction k with
  | zero => intro i Λ n c j _ _; rfl
  | succ k ih => intro i Λ n c j h hc; rw [bkL, ih _ _ _ _ _ (by omega) hc]; simp (disch := omega) only [refL_ne, lX0_2, newL2_ne]
theorem lsLy_1 {arr : Nat} : ∀ (k i : Nat) (Λ : Ly) (n c : Nat), c ≤ n → (lsLy arr k i Λ n).1 c = Λ.1 c := by
  intro k
  induction k with
  | zero => intro i Λ n c _; rfl
  | succ k ih => intro i Λ n c h; rw [lsLy, ih _ _ _ _ (by omega)]; simp (disch := omega) only [refL_1, lX5_1, newL_ne]
theorem lsLy_2 {arr : Nat} : ∀ (k i : Nat) (Λ : Ly) (n c j : Nat), c ≤ n → c ≠ arr → (lsLy arr k i Λ n).2 c j = Λ.2 c j := by
  intro k
  induction k with
  | zero => intro i Λ n c j _ _; rfl
  | succ k ih => intro i Λ n c j h hc; rw [lsLy, ih _ _ _ _ _ (by omega) hc]; simp (disch := omega) only [refL_ne, lX5_2, newL2_ne]
def p7L (Λ : Ly) (a n : Nat) : Ly := refL (newL (refL (newL (refL (newL (refL (newL (refL (newL (refL (newL (Λ) (n + 1) (.inr (3, 6))) a 0 (n + 1)) (n + 2) (.inr (0, 8))) a 2 (n + 2)) (n + 3) (.inr (4, 8))) a 3 (n + 3)) (n + 4) (.inr (0, 10))) a 5 (n + 4)) (n + 5) (.inr (0, 500))) a 7 (n + 5)) (n + 6) (.inr (0, 64))) a 9 (n + 6)
def lX7 (Λ : Ly) (a n : Nat) : Ly := lsLy (n + 3) 8 0 (bkL (n + 1) 6 0 (p7L Λ a n) (n + 6)) (n + 36)
def gX7 (G : Wd) (_a n : Nat) : Wd := gF G (n + 4) 10
theorem zX7 {G : Wd} {a n m : Nat} (h0 : zF G m) (_ha : a ≤ m) (hn : n + 52 ≤ m) : zF (gX7 G a n) m := zF_f h0 (by omega)
theorem p7L_1 {Λ : Ly} {a n c : Nat} (h : c ≤ n) : (p7L Λ a n).1 c = Λ.1 c := by unfold p7L; simp (disch := omega) only [newL_ne, refL_1]
theorem lX7_1 {Λ : Ly} {a n c : Nat} (h : c ≤ n) : (lX7 Λ a n).1 c = Λ.1 c := by unfold lX7; rw [lsLy_1 _ _ _ _ _ (by omega), bkL_1 _ _ _ _ _ (by omega), p7L_1 h]
set_option maxRecDepth 100000 in
set_option maxHeartbeats 4000000 in
theorem i_X7 {κ : Kx} (hκ : KOK κ) {d a n : Nat} {Λ : Ly} {G : Wd} (ha : 0 < a ∧ a ≤ n) (hn : n + 52 < 1000000) (hL : Λ.1 a = some (.inl 6)) (h0 : zF G n) (hd : 6 ≤ d) : Ct κ MX7_init d 52 1938 [VR a] (Λ, some n, G) (fun u Ω' => u = none ∧ Ω' = (lX7 Λ a n, some (n + 52), gX7 G a n)) noX := by
  refine Ct_of hκ kX7_init.1 rfl (Nat.le_of_ble_eq_true rfl) (ls := [some (VR a), none]) rfl (fun μ => ?_)
  have L3 : ∀ (k i : Nat) (z : Int) (Λc : Ly), i + k = 10 → z = (i : Int) → Λc.1 a = some (.inl 6) → Λc.2 a 5 = some (n + 4) → Λc.1 (n + 4) = some (.inr (0, 10)) → Λc = lX7 Λ a n → V κ MX7_init (rmD d 52 1938) (fun u Ω' => u = none ∧ Ω' = (lX7 Λ a n, some (n + 52), gX7 G a n)) noX 52 1938 μ 52 1938 (Λc, some (n + 52), gF G (n + 4) i) 117 [some (VR a), some (VI z)] [] := by
    intro k
    induction k with
    | zero =>
      intro i z Λc hk hz h1 h2 h3 h4
      obtain rfl : i = 10 := by omega
      subst hz
      refine V_ex sX7_init_117 (by simp (disch := omega) only [Option.toList, List.cons_append, List.nil_append, exN, ex1, gI, gL, gR, pI, pL, pR, lget, lset1, lset2, kl, b2I, b2L, nob, ob32, ob64, xGet, xPut, xLen, xLd, xLdR, xSt, obA, true_and, and_true, and_self, eq_self, Nat.reduceEqDiff, Nat.zero_ne_one, reduceIte, Nat.reduceLeDiff, and_false, false_and, show skd 6 5 = 2 from rfl, h1, h2, h3, upd2_eq, Int.reduceToNat, Int.toNat_natCast]; rfl) (by first | exact trivial | (simp only [ob, obA]; omega) | (simp only [ob, obA, R32]; omega) | (simp only [ob, obA]; and_intros <;> first | omega | assumption)) ?_
      refine V_icmpge dX7_init_123 (tgt := 140) (by decide) (by simp only [R32]; omega) (fun q => ?_) (fun q => ?_)
      · exact V_vret dX7_init_140 rfl ⟨Nat.le_of_ble_eq_true rfl, Nat.le_of_ble_eq_true rfl⟩ ⟨rfl, by rw [h4]; rfl⟩
      · omega
    | succ k ih =>
      intro i z Λc hk hz h1 h2 h3 h4
      subst hz
      refine V_ex sX7_init_117 (by simp (disch := omega) only [Option.toList, List.cons_append, List.nil_append, exN, ex1, gI, gL, gR, pI, pL, pR, lget, lset1, lset2, kl, b2I, b2L, nob, ob32, ob64, xGet, xPut, xLen, xLd, xLdR, xSt, obA, true_and, and_true, and_self, eq_self, Nat.reduceEqDiff, Nat.zero_ne_one, reduceIte, Nat.reduceLeDiff, and_false, false_and, show skd 6 5 = 2 from rfl, h1, h2, h3, upd2_eq, Int.reduceToNat, Int.toNat_natCast]; rfl) (by first | exact trivial | (simp only [ob, obA]; omega) | (simp only [ob, obA, R32]; omega) | (simp only [ob, obA]; and_intros <;> first | omega | assumption)) ?_
      refine V_icmpge dX7_init_123 (tgt := 140) (by decide) (by simp only [R32]; omega) (fun q => ?_) (fun q => ?_)
      · omega
      · refine V_ex sX7_init_126 (by simp (disch := omega) only [Option.toList, List.cons_append, List.nil_append, exN, ex1, gI, gL, gR, pI, pL, pR, lget, lset1, lset2, kl, b2I, b2L, nob, ob32, ob64, xGet, xPut, xLen, xLd, xLdR, xSt, obA, true_and, and_true, and_self, eq_self, Nat.reduceEqDiff, Nat.zero_ne_one, reduceIte, Nat.reduceLeDiff, and_false, false_and, show skd 6 5 = 2 from rfl, h1, h2, h3, upd2_eq, Int.reduceToNat, Int.toNat_natCast]; rfl) (by first | exact trivial | (simp only [ob, obA]; omega) | (simp only [ob, obA, R32]; omega) | (simp only [ob, obA]; and_intros <;> first | omega | assumption)) ?_
        refine V_goto dX7_init_137 (tgt := 117) (by decide) ?_
        rw [gF_s]
        exact ih (i + 1) ((i : Int) + 1) Λc (by omega) (by omega) h1 h2 h3 h4
  have L2 : ∀ (k i nc c s : Nat) (z : Int) (Λc : Ly), i + k = 8 → z = (i : Int) → nc = n + 36 + 2 * i → c = 36 + 2 * i → s = 1418 + 65 * i → Λc.1 a = some (.inl 6) → Λc.2 a 3 = some (n + 3) → Λc.1 (n + 3) = some (.inr (4, 8)) → Λc.2 a 5 = some (n + 4) → Λc.1 (n + 4) = some (.inr (0, 10)) → lsLy (n + 3) k i Λc nc = lX7 Λ a n → V κ MX7_init (rmD d 52 1938) (fun u Ω' => u = none ∧ Ω' = (lX7 Λ a n, some (n + 52), gX7 G a n)) noX 52 1938 μ c s (Λc, some nc, G) 87 [some (VR a), some (VI z)] [] := by
    intro k
    induction k with
    | zero =>
      intro i nc c s z Λc hk hz hnc hc hs h1 h2 h3 h5 h6 h4
      obtain rfl : i = 8 := by omega
      obtain rfl : nc = n + 52 := by omega
      subst hz hc hs
      refine V_ex sX7_init_87 (by simp (disch := omega) only [Option.toList, List.cons_append, List.nil_append, exN, ex1, gI, gL, gR, pI, pL, pR, lget, lset1, lset2, kl, b2I, b2L, nob, ob32, ob64, xGet, xPut, xLen, xLd, xLdR, xSt, obA, true_and, and_true, and_self, eq_self, Nat.reduceEqDiff, Nat.zero_ne_one, reduceIte, Nat.reduceLeDiff, and_false, false_and, show skd 6 3 = 2 from rfl, h1, h2, h3, upd2_eq, Int.reduceToNat, Int.toNat_natCast]; rfl) (by first | exact trivial | (simp only [ob, obA]; omega) | (simp only [ob, obA, R32]; omega) | (simp only [ob, obA]; and_intros <;> first | omega | assumption)) ?_
      refine V_icmpge dX7_init_93 (tgt := 115) (by decide) (by simp only [R32]; omega) (fun q => ?_) (fun q => ?_)
      · refine V_ex sX7_init_115 (by rfl) (by exact trivial) ?_
        have h := L3 10 0 0 Λc (by omega) rfl h1 h5 h6 h4
        rw [gF_0] at h
        exact h
      · omega
    | succ k ih =>
      intro i nc c s z Λc hk hz hnc hc hs h1 h2 h3 h5 h6 h4
      subst hz
      refine V_ex sX7_init_87 (by simp (disch := omega) only [Option.toList, List.cons_append, List.nil_append, exN, ex1, gI, gL, gR, pI, pL, pR, lget, lset1, lset2, kl, b2I, b2L, nob, ob32, ob64, xGet, xPut, xLen, xLd, xLdR, xSt, obA, true_and, and_true, and_self, eq_self, Nat.reduceEqDiff, Nat.zero_ne_one, reduceIte, Nat.reduceLeDiff, and_false, false_and, show skd 6 3 = 2 from rfl, h1, h2, h3, upd2_eq, Int.reduceToNat, Int.toNat_natCast]; rfl) (by first | exact trivial | (simp only [ob, obA]; omega) | (simp only [ob, obA, R32]; omega) | (simp only [ob, obA]; and_intros <;> first | omega | assumption)) ?_
      refine V_icmpge dX7_init_93 (tgt := 115) (by decide) (by simp only [R32]; omega) (fun q => ?_) (fun q => ?_)
      · omega
      · refine V_ex sX7_init_96 (by simp (disch := omega) only [Option.toList, List.cons_append, List.nil_append, exN, ex1, gI, gL, gR, pI, pL, pR, lget, lset1, lset2, kl, b2I, b2L, nob, ob32, ob64, xGet, xPut, xLen, xLd, xLdR, xSt, obA, true_and, and_true, and_self, eq_self, Nat.reduceEqDiff, Nat.zero_ne_one, reduceIte, Nat.reduceLeDiff, and_false, false_and, show skd 6 3 = 2 from rfl, h1, h2, h3, upd2_eq, Int.reduceToNat, Int.toNat_natCast]; rfl) (by first | exact trivial | (simp only [ob, obA]; omega) | (simp only [ob, obA, R32]; omega) | (simp only [ob, obA]; and_intros <;> first | omega | assumption)) ?_
        refine V_new (M := MX7_init) (ci := 4) (r := (RX5, TX5, 2)) dX7_init_101 rfl (by decide +kernel) (by decide +kernel) (by decide +kernel) (zF.mono h0 (by omega)) (by omega) ⟨by show c + 1 ≤ 52; omega, by show s + 2 ≤ 1938; omega⟩ ?_
        refine V_ex sX7_init_104 (by rfl) (by exact trivial) ?_
        refine V_callIN (M := MX7_init) (N := MX5_init) dX7_init_105 lRX7_37 kX5_init rfl rfl ⟨by omega, by omega⟩ (i_X5 (d := 1) hκ ⟨by omega, by omega⟩ (by omega) (by simp only [newL_at]) (zF.mono h0 (by omega)) (by omega)) rfl rfl (Nat.le_of_ble_eq_true rfl) (fit_rm (by omega)) ⟨by show c + 1 + 1 ≤ 52; omega, by show s + 2 + 63 ≤ 1938; omega⟩ (fun v Ω' hp => ?_) (fun _ _ h => h.elim)
        obtain ⟨rfl, rfl⟩ := hp
        refine V_aastR (M := MX7_init) (k := 4) (N := 8) (j := i) (ci := 4) (C := "TornLeaves$LeafSet") dX7_init_108 (by simp (disch := omega) only [newL_ne, refL_1, lX5_1, h3]) (by decide) rfl (by omega) (by simp (disch := omega) only [newL_at, lX5_1]) rfl ?_
        refine V_ex sX7_init_109 (by rfl) (by exact trivial) ?_
        refine V_goto dX7_init_112 (tgt := 87) (by decide) ?_
        refine ih (i + 1) _ _ _ ((i : Int) + 1) _ (by omega) (by omega) (by omega) (by omega) (by dsimp only; omega) ?_ ?_ ?_ ?_ ?_ (by rw [lsLy] at h4; exact h4)
        · simp (disch := omega) only [newL_ne, refL_1, lX5_1, h1]
        · simp (disch := omega) only [newL2_ne, refL_ne, lX5_2, h2]
        · simp (disch := omega) only [newL_ne, refL_1, lX5_1, h3]
        · simp (disch := omega) only [newL2_ne, refL_ne, lX5_2, h5]
        · simp (disch := omega) only [newL_ne, refL_1, lX5_1, h6]
  have L1 : ∀ (k i nc c s : Nat) (z : Int) (Λc : Ly), i + k = 6 → z = (i : Int) → nc = n + 6 + 5 * i → c = 6 + 5 * i → s = 596 + 137 * i → Λc.1 a = some (.inl 6) → Λc.2 a 0 = some (n + 1) → Λc.1 (n + 1) = some (.inr (3, 6)) → Λc.2 a 3 = some (n + 3) → Λc.1 (n + 3) = some (.inr (4, 8)) → Λc.2 a 5 = some (n + 4) → Λc.1 (n + 4) = some (.inr (0, 10)) → lsLy (n + 3) 8 0 (bkL (n + 1) k i Λc nc) (n + 36) = lX7 Λ a n → V κ MX7_init (rmD d 52 1938) (fun u Ω' => u = none ∧ Ω' = (lX7 Λ a n, some (n + 52), gX7 G a n)) noX 52 1938 μ c s (Λc, some nc, G) 57 [some (VR a), some (VI z)] [] := by
    intro k
    induction k with
    | zero =>
      intro i nc c s z Λc hk hz hnc hc hs h1 h2 h3 h5 h6 h7 h8 h4
      obtain rfl : i = 6 := by omega
      obtain rfl : nc = n + 36 := by omega
      subst hz hc hs
      refine V_ex sX7_init_57 (by simp (disch := omega) only [Option.toList, List.cons_append, List.nil_append, exN, ex1, gI, gL, gR, pI, pL, pR, lget, lset1, lset2, kl, b2I, b2L, nob, ob32, ob64, xGet, xPut, xLen, xLd, xLdR, xSt, obA, true_and, and_true, and_self, eq_self, Nat.reduceEqDiff, Nat.zero_ne_one, reduceIte, Nat.reduceLeDiff, and_false, false_and, show skd 6 0 = 2 from rfl, h1, h2, h3, upd2_eq, Int.reduceToNat, Int.toNat_natCast]; rfl) (by first | exact trivial | (simp only [ob, obA]; omega) | (simp only [ob, obA, R32]; omega) | (simp only [ob, obA]; and_intros <;> first | omega | assumption)) ?_
      refine V_icmpge dX7_init_63 (tgt := 85) (by decide) (by simp only [R32]; omega) (fun q => ?_) (fun q => ?_)
      · refine V_ex sX7_init_85 (by rfl) (by exact trivial) ?_
        exact L2 8 0 (n + 36) _ _ 0 Λc (by omega) rfl (by omega) (by omega) (by omega) h1 h5 h6 h7 h8 h4
      · omega
    | succ k ih =>
      intro i nc c s z Λc hk hz hnc hc hs h1 h2 h3 h5 h6 h7 h8 h4
      subst hz
      refine V_ex sX7_init_57 (by simp (disch := omega) only [Option.toList, List.cons_append, List.nil_append, exN, ex1, gI, gL, gR, pI, pL, pR, lget, lset1, lset2, kl, b2I, b2L, nob, ob32, ob64, xGet, xPut, xLen, xLd, xLdR, xSt, obA, true_and, and_true, and_self, eq_self, Nat.reduceEqDiff, Nat.zero_ne_one, reduceIte, Nat.reduceLeDiff, and_false, false_and, show skd 6 0 = 2 from rfl, h1, h2, h3, upd2_eq, Int.reduceToNat, Int.toNat_natCast]; rfl) (by first | exact trivial | (simp only [ob, obA]; omega) | (simp only [ob, obA, R32]; omega) | (simp only [ob, obA]; and_intros <;> first | omega | assumption)) ?_
      refine V_icmpge dX7_init_63 (tgt := 85) (by decide) (by simp only [R32]; omega) (fun q => ?_) (fun q => ?_)
      · omega
      · refine V_ex sX7_init_66 (by simp (disch := omega) only [Option.toList, List.cons_append, List.nil_append, exN, ex1, gI, gL, gR, pI, pL, pR, lget, lset1, lset2, kl, b2I, b2L, nob, ob32, ob64, xGet, xPut, xLen, xLd, xLdR, xSt, obA, true_and, and_true, and_self, eq_self, Nat.reduceEqDiff, Nat.zero_ne_one, reduceIte, Nat.reduceLeDiff, and_false, false_and, show skd 6 0 = 2 from rfl, h1, h2, h3, upd2_eq, Int.reduceToNat, Int.toNat_natCast]; rfl) (by first | exact trivial | (simp only [ob, obA]; omega) | (simp only [ob, obA, R32]; omega) | (simp only [ob, obA]; and_intros <;> first | omega | assumption)) ?_
        refine V_new (M := MX7_init) (ci := 0) (r := (RX0, TX0, 7)) dX7_init_71 rfl (by decide +kernel) (by decide +kernel) (by decide +kernel) (zF.mono h0 (by omega)) (by omega) ⟨by show c + 1 ≤ 52; omega, by show s + 7 ≤ 1938; omega⟩ ?_
        refine V_ex sX7_init_74 (by rfl) (by exact trivial) ?_
        refine V_callIN (M := MX7_init) (N := MX0_init) dX7_init_75 lRX7_36 kX0_init rfl rfl ⟨by omega, by omega⟩ (i_X0 (d := 3) hκ ⟨by omega, by omega⟩ (by omega) (by simp only [newL_at]) (zF.mono h0 (by omega)) (by omega)) rfl rfl (Nat.le_of_ble_eq_true rfl) (fit_rm (by omega)) ⟨by show c + 1 + 4 ≤ 52; omega, by show s + 7 + 130 ≤ 1938; omega⟩ (fun v Ω' hp => ?_) (fun _ _ h => h.elim)
        obtain ⟨rfl, rfl⟩ := hp
        refine V_aastR (M := MX7_init) (k := 3) (N := 6) (j := i) (ci := 0) (C := "TornLeaves$Book") dX7_init_78 (by simp (disch := omega) only [newL_ne, refL_1, lX0_1, h3]) (by decide) rfl (by omega) (by simp (disch := omega) only [newL_at, lX0_1]) rfl ?_
        refine V_ex sX7_init_79 (by rfl) (by exact trivial) ?_
        refine V_goto dX7_init_82 (tgt := 57) (by decide) ?_
        refine ih (i + 1) _ _ _ ((i : Int) + 1) _ (by omega) (by omega) (by omega) (by omega) (by dsimp only; omega) ?_ ?_ ?_ ?_ ?_ ?_ ?_ (by rw [bkL] at h4; exact h4)
        · simp (disch := omega) only [newL_ne, refL_1, lX0_1, h1]
        · simp (disch := omega) only [newL2_ne, refL_ne, lX0_2, h2]
        · simp (disch := omega) only [newL_ne, refL_1, lX0_1, h3]
        · simp (disch := omega) only [newL2_ne, refL_ne, lX0_2, h5]
        · simp (disch := omega) only [newL_ne, refL_1, lX0_1, h6]
        · simp (disch := omega) only [newL2_ne, refL_ne, lX0_2, h7]
        · simp (disch := omega) only [newL_ne, refL_1, lX0_1, h8]
  refine V_ex sX7_init_0 (by rfl) (by exact trivial) ?_
  refine V_objI (M := MX7_init) dX7_init_1 (by decide +kernel) ⟨by omega, by omega⟩ (Nat.le_of_ble_eq_true rfl) ⟨by show 1 ≤ d; omega, by show 30 ≤ 100 + 40 * d; omega⟩ ?_
  refine V_ex sX7_init_4 (by rfl) (by exact trivial) ?_
  refine V_anew (M := MX7_init) (N := 6) (k := 3) dX7_init_7 rfl (by decide) (by decide +kernel) (by decide +kernel) (by omega) (by decide) ⟨Nat.le_of_ble_eq_true rfl, Nat.le_of_ble_eq_true rfl⟩ ?_
  refine V_putF (M := MX7_init) (ci := 6) (k := 0) dX7_init_10 (by decide +kernel) rfl (by simp (disch := omega) only [newL_ne, refL_1, hL, lX5_1, lX0_1, lX2_1, lX4_1, lX10_1, lX6_1, lX1_1, lX9_1, lX8_1]) rfl ?_
  refine V_ex sX7_init_13 (by rfl) (by exact trivial) ?_
  refine V_newa (M := MX7_init) (N := 8) (k := 0) dX7_init_16 rfl (by decide) (by decide +kernel) (zF.mono h0 (by omega)) (by omega) (by decide) ⟨Nat.le_of_ble_eq_true rfl, Nat.le_of_ble_eq_true rfl⟩ ?_
  refine V_putF (M := MX7_init) (ci := 6) (k := 2) dX7_init_18 (by decide +kernel) rfl (by simp (disch := omega) only [newL_ne, refL_1, hL, lX5_1, lX0_1, lX2_1, lX4_1, lX10_1, lX6_1, lX1_1, lX9_1, lX8_1]) rfl ?_
  refine V_ex sX7_init_21 (by rfl) (by exact trivial) ?_
  refine V_anew (M := MX7_init) (N := 8) (k := 4) dX7_init_24 rfl (by decide) (by decide +kernel) (by decide +kernel) (by omega) (by decide) ⟨Nat.le_of_ble_eq_true rfl, Nat.le_of_ble_eq_true rfl⟩ ?_
  refine V_putF (M := MX7_init) (ci := 6) (k := 3) dX7_init_27 (by decide +kernel) rfl (by simp (disch := omega) only [newL_ne, refL_1, hL, lX5_1, lX0_1, lX2_1, lX4_1, lX10_1, lX6_1, lX1_1, lX9_1, lX8_1]) rfl ?_
  refine V_ex sX7_init_30 (by rfl) (by exact trivial) ?_
  refine V_newa (M := MX7_init) (N := 10) (k := 0) dX7_init_33 rfl (by decide) (by decide +kernel) (zF.mono h0 (by omega)) (by omega) (by decide) ⟨Nat.le_of_ble_eq_true rfl, Nat.le_of_ble_eq_true rfl⟩ ?_
  refine V_putF (M := MX7_init) (ci := 6) (k := 5) dX7_init_35 (by decide +kernel) rfl (by simp (disch := omega) only [newL_ne, refL_1, hL, lX5_1, lX0_1, lX2_1, lX4_1, lX10_1, lX6_1, lX1_1, lX9_1, lX8_1]) rfl ?_
  refine V_ex sX7_init_38 (by rfl) (by exact trivial) ?_
  refine V_newa (M := MX7_init) (N := 500) (k := 0) dX7_init_42 rfl (by decide) (by decide +kernel) (zF.mono h0 (by omega)) (by omega) (by decide) ⟨Nat.le_of_ble_eq_true rfl, Nat.le_of_ble_eq_true rfl⟩ ?_
  refine V_putF (M := MX7_init) (ci := 6) (k := 7) dX7_init_44 (by decide +kernel) rfl (by simp (disch := omega) only [newL_ne, refL_1, hL, lX5_1, lX0_1, lX2_1, lX4_1, lX10_1, lX6_1, lX1_1, lX9_1, lX8_1]) rfl ?_
  refine V_ex sX7_init_47 (by rfl) (by exact trivial) ?_
  refine V_newa (M := MX7_init) (N := 64) (k := 0) dX7_init_50 rfl (by decide) (by decide +kernel) (zF.mono h0 (by omega)) (by omega) (by decide) ⟨Nat.le_of_ble_eq_true rfl, Nat.le_of_ble_eq_true rfl⟩ ?_
  refine V_putF (M := MX7_init) (ci := 6) (k := 9) dX7_init_52 (by decide +kernel) rfl (by simp (disch := omega) only [newL_ne, refL_1, hL, lX5_1, lX0_1, lX2_1, lX4_1, lX10_1, lX6_1, lX1_1, lX9_1, lX8_1]) rfl ?_
  refine V_ex sX7_init_55 (by rfl) (by exact trivial) ?_
  refine L1 6 0 (n + 6) _ _ 0 (p7L Λ a n) (by omega) rfl (by omega) (by omega) (by omega) ?_ ?_ ?_ ?_ ?_ ?_ ?_ rfl
  · rw [p7L_1 (by omega)]; exact hL
  · unfold p7L; simp (disch := omega) only [newL2_ne, refL_ne, refL_at]
  · unfold p7L; simp (disch := omega) only [newL_ne, refL_1, newL_at]
  · unfold p7L; simp (disch := omega) only [newL2_ne, refL_ne, refL_at]
  · unfold p7L; simp (disch := omega) only [newL_ne, refL_1, newL_at]
  · unfold p7L; simp (disch := omega) only [newL2_ne, refL_ne, refL_at]
  · unfold p7L; simp (disch := omega) only [newL_ne, refL_1, newL_at]
