/-! Sharing, the rest -/
set_option maxRecDepth 100000 in
set_option maxHeartbeats 4000000 in
theorem c_shForget {κ : Kx} (hκ : KOK κ) {d : Nat} {G : Wd} : Ct κ MX6_forget d 0 0 [VR 135] (Wm G) (voidG (uI G 135 8 (-1))) noX := by
  refine Ct_of hκ kX6_forget.1 rfl (Nat.le_of_ble_eq_true rfl) (ls := [some (VR 135)]) rfl (fun μ => ?_)
  refine V_ex sX6_forget_0 (by simp only [Option.toList, List.cons_append, List.nil_append, exN, ex1, gI, gL, gR, pI, pL, pR, lget, lset1, lset2, kl, b2I, b2L, nob, ob32, ob64, xGet, xPut, xLen, xLd, xLdR, xSt, obA, true_and, and_true, and_self, eq_self, Nat.reduceEqDiff, Nat.zero_ne_one, reduceIte, Nat.reduceLeDiff, and_false, false_and, show skd 5 8 = 0 from rfl, show LF.1 135 = some (.inl 5) from rfl]; rfl) (by first | exact trivial | exact Or.inl trivial | exact Or.inr rfl | exact Or.inl rfl) ?_
  refine V_vret dX6_forget_5 rfl (by decide) ⟨rfl, rfl⟩
set_option maxRecDepth 100000 in
set_option maxHeartbeats 4000000 in
theorem c_shHasKept {κ : Kx} (hκ : KOK κ) {d : Nat} {i : Int} {G : Wd} (hi : R32 i) (hk : R32 (G.1 135 8)) : Ct κ MX6_hasKept d 0 0 [VR 135, VI i] (Wm G) (keepG G (VI (b2i (decide (0 ≤ i ∧ i < G.1 135 8))))) noX := by
  refine Ct_of hκ kX6_hasKept.1 rfl (Nat.le_of_ble_eq_true rfl) (ls := [some (VR 135), some (VI i)]) rfl (fun μ => ?_)
  refine V_ex sX6_hasKept_0 (by rfl) (by first | exact trivial | exact Or.inl trivial | exact Or.inr rfl | exact Or.inl rfl) ?_
  refine V_iflt dX6_hasKept_1 (tgt := 16) (by decide) (by exact hi) (fun q => ?_) (fun q => ?_)
  · refine V_ex sX6_hasKept_16 (by rfl) (by first | exact trivial | exact Or.inl trivial | exact Or.inr rfl | exact Or.inl rfl) ?_
    refine V_zret dX6_hasKept_17 rfl (by first | exact Or.inl rfl | exact Or.inr rfl | exact b2i_01 _) (by decide) ⟨by rw [decide_eq_false (by omega)]; rfl, rfl⟩
  · refine V_ex sX6_hasKept_4 (by simp only [Option.toList, List.cons_append, List.nil_append, exN, ex1, gI, gL, gR, pI, pL, pR, lget, lset1, lset2, kl, b2I, b2L, nob, ob32, ob64, xGet, xPut, xLen, xLd, xLdR, xSt, obA, true_and, and_true, and_self, eq_self, Nat.reduceEqDiff, Nat.zero_ne_one, reduceIte, Nat.reduceLeDiff, and_false, false_and, show skd 5 8 = 0 from rfl, show LF.1 135 = some (.inl 5) from rfl]; rfl) (by first | exact trivial | exact Or.inl trivial | exact Or.inr rfl | exact Or.inl rfl) ?_
    refine V_icmpge dX6_hasKept_9 (tgt := 16) (by decide) (by exact ⟨hi, hk⟩) (fun q2 => ?_) (fun q2 => ?_)
    · refine V_ex sX6_hasKept_16 (by rfl) (by first | exact trivial | exact Or.inl trivial | exact Or.inr rfl | exact Or.inl rfl) ?_
      refine V_zret dX6_hasKept_17 rfl (by first | exact Or.inl rfl | exact Or.inr rfl | exact b2i_01 _) (by decide) ⟨by rw [decide_eq_false (by omega)]; rfl, rfl⟩
    · refine V_ex sX6_hasKept_12 (by rfl) (by first | exact trivial | exact Or.inl trivial | exact Or.inr rfl | exact Or.inl rfl) ?_
      refine V_goto dX6_hasKept_13 (tgt := 17) (by decide) ?_
      refine V_zret dX6_hasKept_17 rfl (by first | exact Or.inl rfl | exact Or.inr rfl | exact b2i_01 _) (by decide) ⟨by rw [decide_eq_true (by omega)]; rfl, rfl⟩
set_option maxRecDepth 100000 in
set_option maxHeartbeats 4000000 in
theorem c_shChildOf {κ : Kx} (hκ : KOK κ) {d : Nat} {i : Int} {G : Wd} (hi : R32 i) (hd : 1 ≤ d) : Ct κ MX6_childOf d 0 0 [VR 135, VI i] (Wm G) (keepG G (VI (rAt (G.1 139) 10 i))) noX := by
  refine Ct_of hκ kX6_childOf.1 rfl (Nat.le_of_ble_eq_true rfl) (ls := [some (VR 135), some (VI i)]) rfl (fun μ => ?_)
  refine V_ex sX6_childOf_0 (by simp only [Option.toList, List.cons_append, List.nil_append, exN, ex1, gI, gL, gR, pI, pL, pR, lget, lset1, lset2, kl, b2I, b2L, nob, ob32, ob64, xGet, xPut, xLen, xLd, xLdR, xSt, obA, true_and, and_true, and_self, eq_self, Nat.reduceEqDiff, Nat.zero_ne_one, reduceIte, Nat.reduceLeDiff, and_false, false_and, show skd 5 7 = 2 from rfl, show LF.1 135 = some (.inl 5) from rfl, show LF.2 135 7 = some 139 from rfl]; rfl) (by first | exact trivial | exact Or.inl trivial | exact Or.inr rfl | exact Or.inl rfl) ?_
  refine V_callSN (M := MX6_childOf) (N := MX11_at) (As := [VR 139, VI i]) (rest := []) dX6_childOf_5 lRX6_28 kX11_at rfl (c_at (d := 0) hκ (a := 139) (n := 10) rfl (by decide) hi) rfl rfl (Nat.le_of_ble_eq_true rfl) (fit_rm (by omega)) (⟨Nat.le_refl _, Nat.le_refl _⟩) (fun v Ω' hp => ?_) (fun _ _ h => h.elim)
  obtain ⟨rfl, rfl⟩ := hp
  refine V_iret dX6_childOf_8 rfl (by decide) ⟨rfl, rfl⟩
set_option maxRecDepth 100000 in
set_option maxHeartbeats 4000000 in
theorem c_shOpen {κ : Kx} (hκ : KOK κ) {d : Nat} {n : Int} {G : Wd} : Ct κ MX6_open d 0 0 [VR 135, VI n] (Wm G) (voidG (uI (uI (uI G 135 2 n) 135 1 0) 135 3 0)) noX := by
  refine Ct_of hκ kX6_open.1 rfl (Nat.le_of_ble_eq_true rfl) (ls := [some (VR 135), some (VI n)]) rfl (fun μ => ?_)
  refine V_ex sX6_open_0 (by simp only [Option.toList, List.cons_append, List.nil_append, exN, ex1, gI, gL, gR, pI, pL, pR, lget, lset1, lset2, kl, b2I, b2L, nob, ob32, ob64, xGet, xPut, xLen, xLd, xLdR, xSt, obA, true_and, and_true, and_self, eq_self, Nat.reduceEqDiff, Nat.zero_ne_one, reduceIte, Nat.reduceLeDiff, and_false, false_and, show skd 5 2 = 0 from rfl, show skd 5 1 = 0 from rfl, show skd 5 3 = 0 from rfl, show LF.1 135 = some (.inl 5) from rfl]; rfl) (by first | exact trivial | exact Or.inl trivial | exact Or.inr rfl | exact Or.inl rfl) ?_
  refine V_vret dX6_open_15 rfl (by decide) ⟨rfl, rfl⟩
set_option maxRecDepth 100000 in
set_option maxHeartbeats 4000000 in
theorem c_shOffer {κ : Kx} (hκ : KOK κ) {d : Nat} {z : Int} {G : Wd} (hm : 0 ≤ G.1 135 1 ∧ G.1 135 1 < 10) (hd : 1 ≤ d) : Ct κ MX6_offer d 0 0 [VR 135, VI z] (Wm G) (voidG (uI (uI (uI G 136 (G.1 135 1).toNat z) 135 1 (G.1 135 1 + 1)) 135 3 (G.1 135 3 + z))) noX := by
  refine Ct_of hκ kX6_offer.1 rfl (Nat.le_of_ble_eq_true rfl) (ls := [some (VR 135), some (VI z)]) rfl (fun μ => ?_)
  refine V_ex sX6_offer_0 (by simp only [Option.toList, List.cons_append, List.nil_append, exN, ex1, gI, gL, gR, pI, pL, pR, lget, lset1, lset2, kl, b2I, b2L, nob, ob32, ob64, xGet, xPut, xLen, xLd, xLdR, xSt, obA, true_and, and_true, and_self, eq_self, Nat.reduceEqDiff, Nat.zero_ne_one, reduceIte, Nat.reduceLeDiff, and_false, false_and, show skd 5 0 = 2 from rfl, show skd 5 1 = 0 from rfl, show LF.1 135 = some (.inl 5) from rfl, show LF.2 135 0 = some 136 from rfl]; rfl) (by first | exact trivial | exact Or.inl trivial | exact Or.inr rfl | exact Or.inl rfl) ?_
  refine V_callSN (M := MX6_offer) (N := MX11_setAt) (As := [VR 136, VI (G.1 135 1), VI z]) (rest := []) dX6_offer_9 lRX6_41 kX11_setAt rfl (c_setAt (d := 0) hκ (a := 136) (n := 10) rfl (by decide) (by unfold R32; omega)) rfl rfl (Nat.le_of_ble_eq_true rfl) (fit_rm (by omega)) (⟨Nat.le_refl _, Nat.le_refl _⟩) (fun v Ω' hp => ?_) (fun _ _ h => h.elim)
  obtain ⟨rfl, rfl⟩ := hp
  rw [rSet_in (by omega) (by omega)]
  have q1 : upd2 G.1 136 (G.1 135 1).toNat z 135 1 = G.1 135 1 := by simp [upd2_eq]
  have q2 : upd2 (upd2 G.1 136 (G.1 135 1).toNat z) 135 1 (G.1 135 1 + 1) 135 3 = G.1 135 3 := by simp [upd2_eq]
  refine V_ex sX6_offer_12 (by simp only [Option.toList, List.cons_append, List.nil_append, exN, ex1, gI, gL, gR, pI, pL, pR, lget, lset1, lset2, kl, b2I, b2L, nob, ob32, ob64, xGet, xPut, xLen, xLd, xLdR, xSt, obA, true_and, and_true, and_self, eq_self, Nat.reduceEqDiff, Nat.zero_ne_one, reduceIte, Nat.reduceLeDiff, and_false, false_and, show skd 5 1 = 0 from rfl, show skd 5 3 = 0 from rfl, show LF.1 135 = some (.inl 5) from rfl, q1, q2]; rfl) (by first | exact trivial | exact Or.inl trivial | exact Or.inr rfl | exact Or.inl rfl) ?_
  refine V_vret dX6_offer_32 rfl (by decide) ⟨rfl, rfl⟩
/-- the most even shares: the spread and who gets what -/
def shareS (w : Nat → Int) (ch many : Nat) (total : Int) : SB := dealS w ch total many 0 (fun _ => 0) 0 [] (1000000000, [])
set_option maxRecDepth 100000 in
set_option maxHeartbeats 4000000 in
theorem c_share {κ : Kx} (hκ : KOK κ) {d many ch : Nat} {total : Int} {G : Wd} (hc : 1 ≤ ch ∧ ch ≤ 4) (hm : many ≤ 10) (ht : 0 ≤ total ∧ total ≤ 100000000) (hw : ∀ j, 0 ≤ G.1 136 j ∧ G.1 136 j ≤ 1000000) (h1 : G.1 135 1 = (many : Nat)) (h2 : G.1 135 2 = (ch : Nat)) (h3 : G.1 135 3 = total) (hd : 24 ≤ d) :
    Ct κ MX6_share d 0 0 [VR 135] (Wm G) (fun v Ω' => v = some (VI (shareS (G.1 136) ch many total).1) ∧ ∃ G', Ω' = Wm G' ∧ Fr [135, 137, 138, 139] G G' ∧ G'.1 135 8 = (many : Nat) ∧ rowIs (G'.1 139) 0 (shareS (G.1 136) ch many total).2) noX := by
  refine Ct_of hκ kX6_share.1 rfl (Nat.le_of_ble_eq_true rfl) (ls := [some (VR 135), none]) rfl (fun μ => ?_)
  refine V_ex sX6_share_0 (by rfl) (by first | exact trivial | exact Or.inl trivial | exact Or.inr rfl | exact Or.inl rfl) ?_
  suffices L : ∀ (k i : Nat) (ii : Int) (G' : Wd), ii = (i : Int) → i + k = 4 → Fr [137] G G' → (∀ j, j < i → G'.1 137 j = 0) → V κ MX6_share (rmD d 0 0) (fun v Ω' => v = some (VI (shareS (G.1 136) ch many total).1) ∧ ∃ G', Ω' = Wm G' ∧ Fr [135, 137, 138, 139] G G' ∧ G'.1 135 8 = (many : Nat) ∧ rowIs (G'.1 139) 0 (shareS (G.1 136) ch many total).2) noX 0 0 μ 0 0 (Wm G') 2 [some (VR 135), some (VI ii)] [] from L 4 0 0 G rfl rfl (Fr.refl _ _) (fun j hj => by omega)
  intro k
  induction k with
  | zero =>
    intro i ii G' hi hk f0 hz
    refine V_ex sX6_share_2 (by simp only [Option.toList, List.cons_append, List.nil_append, exN, ex1, gI, gL, gR, pI, pL, pR, lget, lset1, lset2, kl, b2I, b2L, nob, ob32, ob64, xGet, xPut, xLen, xLd, xLdR, xSt, obA, true_and, and_true, and_self, eq_self, Nat.reduceEqDiff, Nat.zero_ne_one, reduceIte, Nat.reduceLeDiff, and_false, false_and, show skd 5 4 = 2 from rfl, show LF.1 135 = some (.inl 5) from rfl, show LF.2 135 4 = some 137 from rfl, show LF.1 137 = some (.inr (0, 4)) from rfl]; rfl) (by first | exact trivial | exact Or.inl trivial | exact Or.inr rfl | exact Or.inl rfl) ?_
    refine V_icmpge dX6_share_8 (tgt := 24) (by decide) (by unfold R32; constructor <;> omega) (fun q => ?_) (fun q => ?_)
    · refine V_ex sX6_share_24 (by simp only [Option.toList, List.cons_append, List.nil_append, exN, ex1, gI, gL, gR, pI, pL, pR, lget, lset1, lset2, kl, b2I, b2L, nob, ob32, ob64, xGet, xPut, xLen, xLd, xLdR, xSt, obA, true_and, and_true, and_self, eq_self, Nat.reduceEqDiff, Nat.zero_ne_one, reduceIte, Nat.reduceLeDiff, and_false, false_and, show skd 5 6 = 0 from rfl, show LF.1 135 = some (.inl 5) from rfl]; rfl) (by first | exact trivial | exact Or.inl trivial | exact Or.inr rfl | exact Or.inl rfl) ?_
      have f1 : Fr [135, 137, 138, 139] G (uI G' 135 6 1000000000) := (f0.mono (by decide)).upd (by decide)
      have a1 : ShA (uI G' 135 6 1000000000) (G.1 136) (fun _ => 0) many ch total [] (1000000000, []) := by
        refine ⟨?_, ?_, ?_, by simp [upd2_eq], ?_, fun j hj => ?_, trivial, trivial⟩
        · simp [upd2_eq]; exact (f0.at (by decide) 1).trans h1
        · simp [upd2_eq]; exact (f0.at (by decide) 2).trans h2
        · simp [upd2_eq]; exact (f0.at (by decide) 3).trans h3
        · funext j; simp [upd2_eq]; exact f0.at (by decide) j
        · simp [upd2_eq]; exact hz j (by omega)
      refine V_callV (M := MX6_share) (N := MX6_deal) (As := [VI ((0 : Nat) : Int), VI ((0 : Nat) : Int)]) (rest := []) dX6_share_33 lRX6_49 kX6_deal rfl (rfl) rfl (c_deal hκ hc hm ht hw many (d - 1) 0 0 [] (fun _ => 0) (1000000000, []) _ (by omega) (by omega) rfl (by omega) a1 (fun j => by simp) (by decide) (by omega)) rfl rfl (Nat.le_of_ble_eq_true rfl) (fit_rm (by omega)) (⟨Nat.le_refl _, Nat.le_refl _⟩) (fun v Ω' hp2 => ?_) (fun _ _ h => h.elim)
      obtain ⟨rfl, G2, rfl, f2, a2⟩ := hp2
      obtain ⟨t1, t2, t3, t4, t5, t6, t7, t8⟩ := a2
      have e6 : upd2 G2.1 135 8 (many : Nat) 135 6 = (shareS (G.1 136) ch many total).1 := by simp [upd2_eq]; exact t4
      refine V_ex sX6_share_36 (by simp only [Option.toList, List.cons_append, List.nil_append, exN, ex1, gI, gL, gR, pI, pL, pR, lget, lset1, lset2, kl, b2I, b2L, nob, ob32, ob64, xGet, xPut, xLen, xLd, xLdR, xSt, obA, true_and, and_true, and_self, eq_self, Nat.reduceEqDiff, Nat.zero_ne_one, reduceIte, Nat.reduceLeDiff, and_false, false_and, show skd 5 1 = 0 from rfl, show skd 5 8 = 0 from rfl, show skd 5 6 = 0 from rfl, show LF.1 135 = some (.inl 5) from rfl, t1, e6]; rfl) (by first | exact trivial | exact Or.inl trivial | exact Or.inr rfl | exact Or.inl rfl) ?_
      refine V_iret dX6_share_48 rfl (by decide) ⟨rfl, _, rfl, (f1.trans f2).upd (by decide), by simp [upd2_eq], ?_⟩
      refine rowIs_of (fun j hj => ?_)
      have := rowIs_at t8 j hj
      simp only [upd2_eq]; rw [if_neg (by omega)]; exact this
    · omega
  | succ k ih =>
    intro i ii G' hi hk f0 hz
    subst hi
    refine V_ex sX6_share_2 (by simp only [Option.toList, List.cons_append, List.nil_append, exN, ex1, gI, gL, gR, pI, pL, pR, lget, lset1, lset2, kl, b2I, b2L, nob, ob32, ob64, xGet, xPut, xLen, xLd, xLdR, xSt, obA, true_and, and_true, and_self, eq_self, Nat.reduceEqDiff, Nat.zero_ne_one, reduceIte, Nat.reduceLeDiff, and_false, false_and, show skd 5 4 = 2 from rfl, show LF.1 135 = some (.inl 5) from rfl, show LF.2 135 4 = some 137 from rfl, show LF.1 137 = some (.inr (0, 4)) from rfl]; rfl) (by first | exact trivial | exact Or.inl trivial | exact Or.inr rfl | exact Or.inl rfl) ?_
    refine V_icmpge dX6_share_8 (tgt := 24) (by decide) (by unfold R32; constructor <;> omega) (fun q => ?_) (fun q => ?_)
    · omega
    · refine V_ex sX6_share_11 (by simp only [Option.toList, List.cons_append, List.nil_append, exN, ex1, gI, gL, gR, pI, pL, pR, lget, lset1, lset2, kl, b2I, b2L, nob, ob32, ob64, xGet, xPut, xLen, xLd, xLdR, xSt, obA, true_and, and_true, and_self, eq_self, Nat.reduceEqDiff, Nat.zero_ne_one, reduceIte, Nat.reduceLeDiff, and_false, false_and, show skd 5 4 = 2 from rfl, show LF.1 135 = some (.inl 5) from rfl, show LF.2 135 4 = some 137 from rfl, show LF.1 137 = some (.inr (0, 4)) from rfl, Int.toNat_natCast]; rfl) (by exact ⟨by omega, by omega⟩) ?_
      refine V_goto dX6_share_21 (tgt := 2) (by decide) ?_
      refine ih (i + 1) _ _ (by omega) (by omega) (f0.upd (by decide)) (fun j hj => ?_)
      simp only [upd2_eq]
      by_cases hji : j = i
      · simp [hji]
      · rw [if_neg (by omega)]; exact hz j (by omega)
