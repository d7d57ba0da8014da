/-! Shelf: books and copies by number, lead, the rule's stack -/
def bkAt (G : Wd) (s : Nat) (i : Int) : Nat := if 0 ≤ i ∧ i < G.1 s 1 ∧ i < 6 then s + 7 + 5 * i.toNat else 0
set_option maxRecDepth 100000 in
set_option maxHeartbeats 4000000 in
theorem c_bookAt {κ : Kx} (hκ : KOK κ) {d s : Nat} {i : Int} {G : Wd} (hS : SHa s) (hi : R32 i) (hb : R32 (G.1 s 1)) : Ct κ MX7_bookAt d 0 0 [VR s, VI i] (Wm G) (keepG G (VR (bkAt G s i))) noX := by
  refine Ct_of hκ kX7_bookAt.1 rfl (Nat.le_of_ble_eq_true rfl) (ls := [some (VR s), some (VI i)]) rfl (fun μ => ?_)
  obtain ⟨h1, h2, h3, -⟩ := sh_facts hS
  have out : ¬ (0 ≤ i ∧ i < G.1 s 1 ∧ i < 6) → V κ MX7_bookAt (rmD d 0 0) (keepG G (VR (bkAt G s i))) noX 0 0 μ 0 0 (Wm G) 30 [some (VR s), some (VI i)] [] := fun h => by
    refine V_ex sX7_bookAt_30 (by rfl) (by exact trivial) ?_
    refine V_aret dX7_bookAt_31 rfl (by first | exact Or.inl ⟨_, rfl⟩ | exact Or.inr ⟨_, rfl⟩) (by decide) ⟨by rw [bkAt, if_neg h], rfl⟩
  refine V_ex sX7_bookAt_0 (by rfl) (by exact trivial) ?_
  refine V_iflt dX7_bookAt_1 (tgt := 30) (by decide) (by exact hi) (fun q => ?_) (fun q => ?_)
  · exact out (by omega)
  · refine V_ex sX7_bookAt_4 (by simp only [exN, ex1, gI, gL, gR, pI, pL, pR, lget, lset1, lset2, kl, b2I, b2L, nob, ob32, ob64, xGet, xPut, xLen, xLd, xLdR, xSt, obA, true_and, and_true, and_self, eq_self, Nat.reduceEqDiff, Nat.zero_ne_one, reduceIte, Nat.reduceLeDiff, and_false, false_and, show skd 6 1 = 0 from rfl, h1]; rfl) (by exact trivial) ?_
    refine V_icmpge dX7_bookAt_9 (tgt := 30) (by decide) (by exact ⟨hi, hb⟩) (fun q2 => ?_) (fun q2 => ?_)
    · exact out (by omega)
    · refine V_ex sX7_bookAt_12 (by simp only [exN, ex1, gI, gL, gR, pI, pL, pR, lget, lset1, lset2, kl, b2I, b2L, nob, ob32, ob64, xGet, xPut, xLen, xLd, xLdR, xSt, obA, true_and, and_true, and_self, eq_self, Nat.reduceEqDiff, Nat.zero_ne_one, reduceIte, Nat.reduceLeDiff, and_false, false_and, show skd 6 0 = 2 from rfl, h1, h2, h3]; rfl) (by exact trivial) ?_
      refine V_icmpge dX7_bookAt_18 (tgt := 30) (by decide) (by exact ⟨hi, by unfold R32; omega⟩) (fun q3 => ?_) (fun q3 => ?_)
      · exact out (by omega)
      · have hk := (sh_books hS i.toNat (by omega)).1
        refine V_ex sX7_bookAt_21 (by simp only [exN, ex1, gI, gL, gR, pI, pL, pR, lget, lset1, lset2, kl, b2I, b2L, nob, ob32, ob64, xGet, xPut, xLen, xLd, xLdR, xSt, obA, true_and, and_true, and_self, eq_self, Nat.reduceEqDiff, Nat.zero_ne_one, reduceIte, Nat.reduceLeDiff, and_false, false_and, show skd 6 0 = 2 from rfl, h1, h2, h3, hk, Option.getD_some]; rfl) (by exact ⟨q, q3⟩) ?_
        refine V_goto dX7_bookAt_27 (tgt := 31) (by decide) ?_
        refine V_aret dX7_bookAt_31 rfl (by first | exact Or.inl ⟨_, rfl⟩ | exact Or.inr ⟨_, rfl⟩) (by decide) ⟨by rw [bkAt, if_pos ⟨q, q2, q3⟩], rfl⟩
def cpAt (G : Wd) (s : Nat) (i : Int) : Nat := if 0 ≤ i ∧ i < G.1 s 4 ∧ i < 8 then s + 37 + 2 * i.toNat else 0
set_option maxRecDepth 100000 in
set_option maxHeartbeats 4000000 in
theorem c_missingOf {κ : Kx} (hκ : KOK κ) {d s : Nat} {i : Int} {G : Wd} (hS : SHa s) (hi : R32 i) (hb : R32 (G.1 s 4)) : Ct κ MX7_missingOf d 0 0 [VR s, VI i] (Wm G) (keepG G (VR (cpAt G s i))) noX := by
  refine Ct_of hκ kX7_missingOf.1 rfl (Nat.le_of_ble_eq_true rfl) (ls := [some (VR s), some (VI i)]) rfl (fun μ => ?_)
  obtain ⟨h1, -, -, -, -, h2, h3, -⟩ := sh_facts hS
  have out : ¬ (0 ≤ i ∧ i < G.1 s 4 ∧ i < 8) → V κ MX7_missingOf (rmD d 0 0) (keepG G (VR (cpAt G s i))) noX 0 0 μ 0 0 (Wm G) 30 [some (VR s), some (VI i)] [] := fun h => by
    refine V_ex sX7_missingOf_30 (by rfl) (by exact trivial) ?_
    refine V_aret dX7_missingOf_31 rfl (by first | exact Or.inl ⟨_, rfl⟩ | exact Or.inr ⟨_, rfl⟩) (by decide) ⟨by rw [cpAt, if_neg h], rfl⟩
  refine V_ex sX7_missingOf_0 (by rfl) (by exact trivial) ?_
  refine V_iflt dX7_missingOf_1 (tgt := 30) (by decide) (by exact hi) (fun q => ?_) (fun q => ?_)
  · exact out (by omega)
  · refine V_ex sX7_missingOf_4 (by simp only [exN, ex1, gI, gL, gR, pI, pL, pR, lget, lset1, lset2, kl, b2I, b2L, nob, ob32, ob64, xGet, xPut, xLen, xLd, xLdR, xSt, obA, true_and, and_true, and_self, eq_self, Nat.reduceEqDiff, Nat.zero_ne_one, reduceIte, Nat.reduceLeDiff, and_false, false_and, show skd 6 4 = 0 from rfl, h1]; rfl) (by exact trivial) ?_
    refine V_icmpge dX7_missingOf_9 (tgt := 30) (by decide) (by exact ⟨hi, hb⟩) (fun q2 => ?_) (fun q2 => ?_)
    · exact out (by omega)
    · refine V_ex sX7_missingOf_12 (by simp only [exN, ex1, gI, gL, gR, pI, pL, pR, lget, lset1, lset2, kl, b2I, b2L, nob, ob32, ob64, xGet, xPut, xLen, xLd, xLdR, xSt, obA, true_and, and_true, and_self, eq_self, Nat.reduceEqDiff, Nat.zero_ne_one, reduceIte, Nat.reduceLeDiff, and_false, false_and, show skd 6 3 = 2 from rfl, h1, h2, h3]; rfl) (by exact trivial) ?_
      refine V_icmpge dX7_missingOf_18 (tgt := 30) (by decide) (by exact ⟨hi, by unfold R32; omega⟩) (fun q3 => ?_) (fun q3 => ?_)
      · exact out (by omega)
      · have hk := (sh_copies hS i.toNat (by omega)).1
        refine V_ex sX7_missingOf_21 (by simp only [exN, ex1, gI, gL, gR, pI, pL, pR, lget, lset1, lset2, kl, b2I, b2L, nob, ob32, ob64, xGet, xPut, xLen, xLd, xLdR, xSt, obA, true_and, and_true, and_self, eq_self, Nat.reduceEqDiff, Nat.zero_ne_one, reduceIte, Nat.reduceLeDiff, and_false, false_and, show skd 6 3 = 2 from rfl, h1, h2, h3, hk, Option.getD_some]; rfl) (by exact ⟨q, q3⟩) ?_
        refine V_goto dX7_missingOf_27 (tgt := 31) (by decide) ?_
        refine V_aret dX7_missingOf_31 rfl (by first | exact Or.inl ⟨_, rfl⟩ | exact Or.inr ⟨_, rfl⟩) (by decide) ⟨by rw [cpAt, if_pos ⟨q, q2, q3⟩], rfl⟩
set_option maxRecDepth 100000 in
set_option maxHeartbeats 4000000 in
theorem c_leadOf {κ : Kx} (hκ : KOK κ) {d s : Nat} {i : Int} {G : Wd} (hS : SHa s) (hi : R32 i) (hd : 1 ≤ d) : Ct κ MX7_leadOf d 0 0 [VR s, VI i] (Wm G) (keepG G (VI (rAt (G.1 (s + 4)) 10 i))) noX := by
  refine Ct_of hκ kX7_leadOf.1 rfl (Nat.le_of_ble_eq_true rfl) (ls := [some (VR s), some (VI i)]) rfl (fun μ => ?_)
  obtain ⟨h1, -, -, -, -, -, -, h2, h3, -⟩ := sh_facts hS
  refine V_ex sX7_leadOf_0 (by simp only [exN, ex1, gI, gL, gR, pI, pL, pR, lget, lset1, lset2, kl, b2I, b2L, nob, ob32, ob64, xGet, xPut, xLen, xLd, xLdR, xSt, obA, true_and, and_true, and_self, eq_self, Nat.reduceEqDiff, Nat.zero_ne_one, reduceIte, Nat.reduceLeDiff, and_false, false_and, show skd 6 5 = 2 from rfl, h1, h2]; rfl) (by exact trivial) ?_
  refine V_callSN (M := MX7_leadOf) (N := MX11_at) (As := [VR (s + 4), VI i]) (rest := []) dX7_leadOf_5 lRX7_71 kX11_at rfl (c_at (d := 0) hκ h3 (by decide) hi) rfl rfl (Nat.le_of_ble_eq_true rfl) (fit_rm (by omega)) (⟨Nat.le_refl _, Nat.le_refl _⟩) (fun v Ω' hp => ?_) (fun _ _ h => h.elim)
  obtain ⟨rfl, rfl⟩ := hp
  refine V_iret dX7_leadOf_8 rfl (by decide) ⟨rfl, rfl⟩
set_option maxRecDepth 100000 in
set_option maxHeartbeats 4000000 in
theorem c_push {κ : Kx} (hκ : KOK κ) {d s : Nat} {z : Int} {G : Wd} (hS : SHa s) (hn : 0 ≤ G.1 s 10 ∧ G.1 s 10 < 64) (hd : 1 ≤ d) : Ct κ MX7_push d 0 0 [VR s, VI z] (Wm G) (voidG (uI (uI G (s + 6) (G.1 s 10).toNat z) s 10 (G.1 s 10 + 1))) noX := by
  refine Ct_of hκ kX7_push.1 rfl (Nat.le_of_ble_eq_true rfl) (ls := [some (VR s), some (VI z)]) rfl (fun μ => ?_)
  obtain ⟨h1, -, -, -, -, -, -, -, -, -, -, h2, h3⟩ := sh_facts hS
  refine V_ex sX7_push_0 (by simp only [exN, ex1, gI, gL, gR, pI, pL, pR, lget, lset1, lset2, kl, b2I, b2L, nob, ob32, ob64, xGet, xPut, xLen, xLd, xLdR, xSt, obA, true_and, and_true, and_self, eq_self, Nat.reduceEqDiff, Nat.zero_ne_one, reduceIte, Nat.reduceLeDiff, and_false, false_and, show skd 6 9 = 2 from rfl, show skd 6 10 = 0 from rfl, h1, h2]; rfl) (by exact trivial) ?_
  refine V_callSN (M := MX7_push) (N := MX11_setAt) (As := [VR (s + 6), VI (G.1 s 10), VI z]) (rest := []) dX7_push_9 lRX7_67 kX11_setAt rfl (c_setAt (d := 0) hκ h3 (by decide) (by unfold R32; omega)) rfl rfl (Nat.le_of_ble_eq_true rfl) (fit_rm (by omega)) (⟨Nat.le_refl _, Nat.le_refl _⟩) (fun v Ω' hp => ?_) (fun _ _ h => h.elim)
  obtain ⟨rfl, rfl⟩ := hp
  rw [rSet, if_pos ⟨hn.1, by omega⟩]
  have e : upd2 G.1 (s + 6) (G.1 s 10).toNat z s 10 = G.1 s 10 := by simp [upd2]
  refine V_ex sX7_push_12 (by simp only [exN, ex1, gI, gL, gR, pI, pL, pR, lget, lset1, lset2, kl, b2I, b2L, nob, ob32, ob64, xGet, xPut, xLen, xLd, xLdR, xSt, obA, true_and, and_true, and_self, eq_self, Nat.reduceEqDiff, Nat.zero_ne_one, reduceIte, Nat.reduceLeDiff, and_false, false_and, show skd 6 10 = 0 from rfl, h1, e]; rfl) (by exact trivial) ?_
  refine V_vret dX7_push_22 rfl (by decide) ⟨rfl, rfl⟩
set_option maxRecDepth 100000 in
set_option maxHeartbeats 4000000 in
theorem c_pop {κ : Kx} (hκ : KOK κ) {d s : Nat} {G : Wd} (hS : SHa s) (hn : 1 ≤ G.1 s 10 ∧ G.1 s 10 ≤ 64) (hd : 1 ≤ d) : Ct κ MX7_pop d 0 0 [VR s] (Wm G) (fun v Ω' => v = some (VI (G.1 (s + 6) (G.1 s 10 - 1).toNat)) ∧ Ω' = Wm (uI G s 10 (G.1 s 10 - 1))) noX := by
  refine Ct_of hκ kX7_pop.1 rfl (Nat.le_of_ble_eq_true rfl) (ls := [some (VR s)]) rfl (fun μ => ?_)
  obtain ⟨h1, -, -, -, -, -, -, -, -, -, -, h2, h3⟩ := sh_facts hS
  have e : upd2 G.1 s 10 (G.1 s 10 - 1) s 10 = G.1 s 10 - 1 := by simp [upd2]
  have e2 : upd2 G.1 s 10 (G.1 s 10 - 1) (s + 6) = G.1 (s + 6) := by funext j; simp [upd2]
  refine V_ex sX7_pop_0 (by simp only [exN, ex1, gI, gL, gR, pI, pL, pR, lget, lset1, lset2, kl, b2I, b2L, nob, ob32, ob64, xGet, xPut, xLen, xLd, xLdR, xSt, obA, true_and, and_true, and_self, eq_self, Nat.reduceEqDiff, Nat.zero_ne_one, reduceIte, Nat.reduceLeDiff, and_false, false_and, show skd 6 10 = 0 from rfl, show skd 6 9 = 2 from rfl, h1, h2, e]; rfl) (by exact trivial) ?_
  refine V_callSN (M := MX7_pop) (N := MX11_at) (As := [VR (s + 6), VI (G.1 s 10 - 1)]) (rest := []) dX7_pop_18 lRX7_71 kX11_at rfl (c_at (d := 0) hκ h3 (by decide) (by unfold R32; omega)) rfl rfl (Nat.le_of_ble_eq_true rfl) (fit_rm (by omega)) (⟨Nat.le_refl _, Nat.le_refl _⟩) (fun v Ω' hp => ?_) (fun _ _ h => h.elim)
  obtain ⟨rfl, rfl⟩ := hp
  refine V_iret dX7_pop_21 rfl (by decide) ⟨by rw [rAt, if_pos ⟨by omega, by omega⟩]; simp only [e2], rfl⟩
/-- what a VALUE gives -/
def valOf (op leaves page : Int) : Int := if op = -1 then page else if op = -2 then (page - 1) / 2 else if op = -3 then (if page % 2 = 0 then 1 else 0) else leaves
set_option maxRecDepth 100000 in
set_option maxHeartbeats 4000000 in
theorem c_valueOf {κ : Kx} (hκ : KOK κ) {d a : Nat} {op p : Int} {G : Wd} (hB : BKa a) (ho : R32 op) (hp : 1 ≤ p) (hp2 : R32 p) (hd : 1 ≤ d) : Ct κ MX7_valueOf d 0 0 [VI op, VR a, VI p] (Wm G) (keepG G (VI (valOf op (G.1 a 1) p))) noX := by
  refine Ct_of hκ kX7_valueOf.1 rfl (Nat.le_of_ble_eq_true rfl) (ls := [some (VI op), some (VR a), some (VI p)]) rfl (fun μ => ?_)
  refine V_ex sX7_valueOf_0 (by rfl) (by exact trivial) ?_
  refine V_tsw dX7_valueOf_1 (dt := 47) (tg := [35, 30, 28]) ho (by decide) (by decide) (by decide) (fun q => ?_) ⟨fun q => ?_, fun q => ?_, fun q => ?_, trivial⟩
  · refine V_ex sX7_valueOf_47 (by simp only [exN, ex1, gI, gL, gR, pI, pL, pR, lget, lset1, lset2, kl, b2I, b2L, nob, ob32, ob64, xGet, xPut, xLen, xLd, xLdR, xSt, obA, true_and, and_true, and_self, eq_self, Nat.reduceEqDiff, Nat.zero_ne_one, reduceIte, Nat.reduceLeDiff, and_false, false_and, show skd 0 1 = 0 from rfl, hB.1]; rfl) (by exact trivial) ?_
    refine V_iret dX7_valueOf_51 rfl (by decide) ⟨by rw [valOf, if_neg (by omega), if_neg (by omega), if_neg (by omega)], rfl⟩
  · refine V_ex sX7_valueOf_35 (by rfl) (by exact ⟨hp2, by unfold R32; omega, by decide⟩) ?_
    rw [tm_nn (by omega)]
    refine V_ifne dX7_valueOf_38 (tgt := 45) (by decide) (by unfold R32; omega) (fun q2 => ?_) (fun q2 => ?_)
    · refine V_ex sX7_valueOf_45 (by rfl) (by exact trivial) ?_
      refine V_iret dX7_valueOf_46 rfl (by decide) ⟨by rw [valOf, if_neg (by omega), if_neg (by omega), if_pos (by omega), if_neg q2], rfl⟩
    · refine V_ex sX7_valueOf_41 (by rfl) (by exact trivial) ?_
      refine V_goto dX7_valueOf_42 (tgt := 46) (by decide) ?_
      refine V_iret dX7_valueOf_46 rfl (by decide) ⟨by rw [valOf, if_neg (by omega), if_neg (by omega), if_pos (by omega), if_pos q2], rfl⟩
  · refine V_ex sX7_valueOf_30 (by rfl) (by exact trivial) ?_
    refine V_callSN (M := MX7_valueOf) (N := MX11_leafOf) (As := [VI p]) (rest := []) dX7_valueOf_31 lRX7_115 kX11_leafOf rfl (c_leafOf (d := 0) hκ hp hp2) rfl rfl (Nat.le_of_ble_eq_true rfl) (fit_rm (by omega)) (⟨Nat.le_refl _, Nat.le_refl _⟩) (fun v Ω' hp => ?_) (fun _ _ h => h.elim)
    obtain ⟨rfl, rfl⟩ := hp
    refine V_iret dX7_valueOf_34 rfl (by decide) ⟨by rw [valOf, if_neg (by omega), if_pos (by omega)], rfl⟩
  · refine V_ex sX7_valueOf_28 (by rfl) (by exact trivial) ?_
    refine V_iret dX7_valueOf_29 rfl (by decide) ⟨by rw [valOf, if_pos (by omega)], rfl⟩
/-- a sign on two numbers -/
def comb (op x y : Int) : Int :=
  if op = -6 then (if x ≠ 0 ∧ y ≠ 0 then 1 else 0) else if op = -7 then (if x ≠ 0 ∨ y ≠ 0 then 1 else 0) else if op = -8 then (if x < y then 1 else 0) else if op = -9 then (if x = y then 1 else 0) else
  if op = -10 then w32 (x + y) else if op = -11 then w32 (x - y) else if op = -12 then w32 (x * y) else if y = 0 then 0 else w32 (x.tdiv y)
theorem comb_R (op x y : Int) : R32 (comb op x y) := by
  unfold comb
  repeat' split
  all_goals first | exact w32_R _ | exact ⟨by decide, by decide⟩
set_option maxRecDepth 100000 in
set_option maxHeartbeats 4000000 in
theorem c_combine {κ : Kx} (hκ : KOK κ) {d : Nat} {op x y : Int} {G : Wd} (ho : R32 op) (hx : R32 x) (hy : R32 y) : Ct κ MX7_combine d 0 0 [VI op, VI x, VI y] (Wm G) (keepG G (VI (comb op x y))) noX := by
  refine Ct_of hκ kX7_combine.1 rfl (Nat.le_of_ble_eq_true rfl) (ls := [some (VI op), some (VI x), some (VI y)]) rfl (fun μ => ?_)
  refine V_ex sX7_combine_0 (by rfl) (by exact trivial) ?_
  refine V_tsw dX7_combine_1 (dt := 106) (tg := [102, 98, 94, 83, 72, 58, 44]) ho (by decide) (by decide) (by decide) (fun q => ?_) ⟨fun q => ?_, fun q => ?_, fun q => ?_, fun q => ?_, fun q => ?_, fun q => ?_, fun q => ?_, trivial⟩
  · refine V_ex sX7_combine_106 (by rfl) (by exact trivial) ?_
    refine V_ifne dX7_combine_107 (tgt := 114) (by decide) (by exact hy) (fun q2 => ?_) (fun q2 => ?_)
    · refine V_ex sX7_combine_114 (by rfl) (by exact ⟨hx, hy, q2⟩) ?_
      refine V_w32 ?_
      refine V_iret dX7_combine_117 rfl (by decide) ⟨by simp only [comb]; rw [if_neg (by omega), if_neg (by omega), if_neg (by omega), if_neg (by omega), if_neg (by omega), if_neg (by omega), if_neg (by omega), if_neg q2], rfl⟩
    · refine V_ex sX7_combine_110 (by rfl) (by exact trivial) ?_
      refine V_goto dX7_combine_111 (tgt := 117) (by decide) ?_
      refine V_iret dX7_combine_117 rfl (by decide) ⟨by simp only [comb]; rw [if_neg (by omega), if_neg (by omega), if_neg (by omega), if_neg (by omega), if_neg (by omega), if_neg (by omega), if_neg (by omega), if_pos q2], rfl⟩
  · refine V_ex sX7_combine_102 (by rfl) (by exact trivial) ?_
    refine V_w32 ?_
    refine V_iret dX7_combine_105 rfl (by decide) ⟨by simp [comb, q], rfl⟩
  · refine V_ex sX7_combine_98 (by rfl) (by exact trivial) ?_
    refine V_w32 ?_
    refine V_iret dX7_combine_101 rfl (by decide) ⟨by simp [comb, q], rfl⟩
  · refine V_ex sX7_combine_94 (by rfl) (by exact trivial) ?_
    refine V_w32 ?_
    refine V_iret dX7_combine_97 rfl (by decide) ⟨by simp [comb, q], rfl⟩
  · refine V_ex sX7_combine_83 (by rfl) (by exact trivial) ?_
    refine V_icmpne dX7_combine_85 (tgt := 92) (by decide) (by exact ⟨hx, hy⟩) (fun q2 => ?_) (fun q2 => ?_)
    · refine V_ex sX7_combine_92 (by rfl) (by exact trivial) ?_
      refine V_iret dX7_combine_93 rfl (by decide) ⟨by simp [comb, q, q2], rfl⟩
    · refine V_ex sX7_combine_88 (by rfl) (by exact trivial) ?_
      refine V_goto dX7_combine_89 (tgt := 93) (by decide) ?_
      refine V_iret dX7_combine_93 rfl (by decide) ⟨by simp [comb, q, q2], rfl⟩
  · refine V_ex sX7_combine_72 (by rfl) (by exact trivial) ?_
    refine V_icmpge dX7_combine_74 (tgt := 81) (by decide) (by exact ⟨hx, hy⟩) (fun q2 => ?_) (fun q2 => ?_)
    · refine V_ex sX7_combine_81 (by rfl) (by exact trivial) ?_
      refine V_iret dX7_combine_82 rfl (by decide) ⟨by simp [comb, q, show ¬ x < y by omega], rfl⟩
    · refine V_ex sX7_combine_77 (by rfl) (by exact trivial) ?_
      refine V_goto dX7_combine_78 (tgt := 82) (by decide) ?_
      refine V_iret dX7_combine_82 rfl (by decide) ⟨by simp [comb, q, q2], rfl⟩
  · refine V_ex sX7_combine_58 (by rfl) (by exact trivial) ?_
    refine V_ifne dX7_combine_59 (tgt := 66) (by decide) (by exact hx) (fun q2 => ?_) (fun q2 => ?_)
    · refine V_ex sX7_combine_66 (by rfl) (by exact trivial) ?_
      refine V_goto dX7_combine_67 (tgt := 71) (by decide) ?_
      refine V_iret dX7_combine_71 rfl (by decide) ⟨by simp [comb, q, q2], rfl⟩
    · refine V_ex sX7_combine_62 (by rfl) (by exact trivial) ?_
      refine V_ifeq dX7_combine_63 (tgt := 70) (by decide) (by exact hy) (fun q3 => ?_) (fun q3 => ?_)
      · refine V_ex sX7_combine_70 (by rfl) (by exact trivial) ?_
        refine V_iret dX7_combine_71 rfl (by decide) ⟨by simp [comb, q, q2, q3], rfl⟩
      · refine V_ex sX7_combine_66 (by rfl) (by exact trivial) ?_
        refine V_goto dX7_combine_67 (tgt := 71) (by decide) ?_
        refine V_iret dX7_combine_71 rfl (by decide) ⟨by simp [comb, q, q2, q3], rfl⟩
  · refine V_ex sX7_combine_44 (by rfl) (by exact trivial) ?_
    refine V_ifeq dX7_combine_45 (tgt := 56) (by decide) (by exact hx) (fun q2 => ?_) (fun q2 => ?_)
    · refine V_ex sX7_combine_56 (by rfl) (by exact trivial) ?_
      refine V_iret dX7_combine_57 rfl (by decide) ⟨by simp [comb, q, q2], rfl⟩
    · refine V_ex sX7_combine_48 (by rfl) (by exact trivial) ?_
      refine V_ifeq dX7_combine_49 (tgt := 56) (by decide) (by exact hy) (fun q3 => ?_) (fun q3 => ?_)
      · refine V_ex sX7_combine_56 (by rfl) (by exact trivial) ?_
        refine V_iret dX7_combine_57 rfl (by decide) ⟨by simp [comb, q, q2, q3], rfl⟩
      · refine V_ex sX7_combine_52 (by rfl) (by exact trivial) ?_
        refine V_goto dX7_combine_53 (tgt := 57) (by decide) ?_
        refine V_iret dX7_combine_57 rfl (by decide) ⟨by simp [comb, q, q2, q3], rfl⟩
