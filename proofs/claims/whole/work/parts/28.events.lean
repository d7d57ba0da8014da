/-! Events: what was torn, added, stuck, refused; a page's bearer -/
def EVa (e : Nat) : Prop := e = 114 ∨ e = 121
theorem ev_facts {e : Nat} (h : EVa e) : LF.1 e = some (.inl 2) ∧ LF.2 e 0 = some (e + 1) ∧ LF.1 (e + 1) = some (.inr (0, 360)) ∧ LF.2 e 1 = some (e + 2) ∧ LF.1 (e + 2) = some (.inr (0, 360)) ∧ LF.2 e 2 = some (e + 3) ∧ LF.1 (e + 3) = some (.inr (0, 360)) ∧ LF.2 e 7 = some (e + 4) ∧ LF.1 (e + 4) = some (.inr (0, 20)) ∧ LF.2 e 8 = some (e + 5) ∧ LF.1 (e + 5) = some (.inr (0, 20)) ∧ LF.2 e 10 = some (e + 6) ∧ LF.1 (e + 6) = some (.inr (0, 4)) := by
  rcases h with rfl | rfl <;> exact ⟨rfl, rfl, rfl, rfl, rfl, rfl, rfl, rfl, rfl, rfl, rfl, rfl, rfl⟩
set_option maxRecDepth 100000 in
set_option maxHeartbeats 4000000 in
theorem c_forgetAdded {κ : Kx} (hκ : KOK κ) {d e : Nat} {G : Wd} (hE : EVa e) : Ct κ MX2_forgetAdded d 0 0 [VR e] (Wm G) (voidG (uI (uI G e 5 0) e 6 (-1))) noX := by
  refine Ct_of hκ kX2_forgetAdded.1 rfl (Nat.le_of_ble_eq_true rfl) (ls := [some (VR e)]) rfl (fun μ => ?_)
  obtain ⟨h1, -⟩ := ev_facts hE
  refine V_ex sX2_forgetAdded_0 (by simp only [Option.toList, List.cons_append, List.nil_append, exN, ex1, gI, gL, gR, pI, pL, pR, lget, lset1, lset2, kl, b2I, b2L, nob, ob32, ob64, xGet, xPut, xLen, xLd, xLdR, xSt, obA, true_and, and_true, and_self, eq_self, Nat.reduceEqDiff, Nat.zero_ne_one, reduceIte, Nat.reduceLeDiff, and_false, false_and, show skd 2 5 = 0 from rfl, show skd 2 6 = 0 from rfl, h1]; rfl) (by first | exact trivial | exact Or.inl trivial | exact Or.inr rfl | exact Or.inl rfl) ?_
  refine V_vret dX2_forgetAdded_10 rfl (by decide) ⟨rfl, rfl⟩
set_option maxRecDepth 100000 in
set_option maxHeartbeats 4000000 in
theorem c_forget {κ : Kx} (hκ : KOK κ) {d e : Nat} {G : Wd} (hE : EVa e) (hd : 1 ≤ d) : Ct κ MX2_forget d 0 0 [VR e] (Wm G) (voidG (uI (uI (uI (uI G e 3 0) e 9 0) e 5 0) e 6 (-1))) noX := by
  refine Ct_of hκ kX2_forget.1 rfl (Nat.le_of_ble_eq_true rfl) (ls := [some (VR e)]) rfl (fun μ => ?_)
  obtain ⟨h1, -⟩ := ev_facts hE
  refine V_ex sX2_forget_0 (by simp only [Option.toList, List.cons_append, List.nil_append, exN, ex1, gI, gL, gR, pI, pL, pR, lget, lset1, lset2, kl, b2I, b2L, nob, ob32, ob64, xGet, xPut, xLen, xLd, xLdR, xSt, obA, true_and, and_true, and_self, eq_self, Nat.reduceEqDiff, Nat.zero_ne_one, reduceIte, Nat.reduceLeDiff, and_false, false_and, show skd 2 3 = 0 from rfl, show skd 2 9 = 0 from rfl, h1]; rfl) (by first | exact trivial | exact Or.inl trivial | exact Or.inr rfl | exact Or.inl rfl) ?_
  refine V_callV (M := MX2_forget) (N := MX2_forgetAdded) (As := []) (rest := []) dX2_forget_11 lRX2_40 kX2_forgetAdded rfl (h1) rfl (c_forgetAdded (d := 0) hκ hE) rfl rfl (Nat.le_of_ble_eq_true rfl) (fit_rm (by omega)) (⟨Nat.le_refl _, Nat.le_refl _⟩) (fun v Ω' hp => ?_) (fun _ _ h => h.elim)
  obtain ⟨rfl, rfl⟩ := hp
  refine V_vret dX2_forget_14 rfl (by decide) ⟨rfl, rfl⟩
def stuckIn (G : Wd) (e : Nat) (b l : Int) : Nat → Nat → Bool
  | 0, _ => false
  | k + 1, c => if G.1 (e + 4) c = b ∧ G.1 (e + 5) c = l then true else stuckIn G e b l k (c + 1)
set_option maxRecDepth 100000 in
set_option maxHeartbeats 4000000 in
theorem c_isStuck {κ : Kx} (hκ : KOK κ) {d e : Nat} {b l : Int} {G : Wd} (hE : EVa e) (hb : R32 b) (hl : R32 l) (h4 : ∀ j, R32 (G.1 (e + 4) j)) (h5 : ∀ j, R32 (G.1 (e + 5) j)) (hm : 0 ≤ G.1 e 9 ∧ G.1 e 9 ≤ 20) (hd : 1 ≤ d) : Ct κ MX2_isStuck d 0 0 [VR e, VI b, VI l] (Wm G) (keepG G (VI (b2i (stuckIn G e b l (G.1 e 9).toNat 0)))) noX := by
  refine Ct_of hκ kX2_isStuck.1 rfl (Nat.le_of_ble_eq_true rfl) (ls := [some (VR e), some (VI b), some (VI l), none]) rfl (fun μ => ?_)
  obtain ⟨h1, -, -, -, -, -, -, g1, g2, g3, g4, -⟩ := ev_facts hE
  refine V_ex sX2_isStuck_0 (by rfl) (by first | exact trivial | exact Or.inl trivial | exact Or.inr rfl | exact Or.inl rfl) ?_
  suffices L : ∀ (k : Nat) (c : Nat) (i : Int), i = (c : Int) → (c : Int) + k = G.1 e 9 → stuckIn G e b l k c = stuckIn G e b l (G.1 e 9).toNat 0 → V κ MX2_isStuck (rmD d 0 0) (keepG G (VI (b2i (stuckIn G e b l (G.1 e 9).toNat 0)))) noX 0 0 μ 0 0 (Wm G) 2 [some (VR e), some (VI b), some (VI l), some (VI i)] [] from L (G.1 e 9).toNat 0 0 rfl (by omega) rfl
  intro k
  induction k with
  | zero =>
    intro c i hi hk he
    refine V_ex sX2_isStuck_2 (by simp only [Option.toList, List.cons_append, List.nil_append, exN, ex1, gI, gL, gR, pI, pL, pR, lget, lset1, lset2, kl, b2I, b2L, nob, ob32, ob64, xGet, xPut, xLen, xLd, xLdR, xSt, obA, true_and, and_true, and_self, eq_self, Nat.reduceEqDiff, Nat.zero_ne_one, reduceIte, Nat.reduceLeDiff, and_false, false_and, show skd 2 9 = 0 from rfl, h1]; rfl) (by first | exact trivial | exact Or.inl trivial | exact Or.inr rfl | exact Or.inl rfl) ?_
    refine V_icmpge dX2_isStuck_7 (tgt := 42) (by decide) (by unfold R32; constructor <;> omega) (fun q => ?_) (fun q => ?_)
    · refine V_ex sX2_isStuck_42 (by rfl) (by first | exact trivial | exact Or.inl trivial | exact Or.inr rfl | exact Or.inl rfl) ?_
      refine V_zret dX2_isStuck_43 rfl (by first | exact Or.inl rfl | exact Or.inr rfl | exact b2i_01 _) (by decide) ⟨by rw [← he]; rfl, rfl⟩
    · omega
  | succ k ih =>
    intro c i hi hk he
    rw [stuckIn] at he
    refine V_ex sX2_isStuck_2 (by simp only [Option.toList, List.cons_append, List.nil_append, exN, ex1, gI, gL, gR, pI, pL, pR, lget, lset1, lset2, kl, b2I, b2L, nob, ob32, ob64, xGet, xPut, xLen, xLd, xLdR, xSt, obA, true_and, and_true, and_self, eq_self, Nat.reduceEqDiff, Nat.zero_ne_one, reduceIte, Nat.reduceLeDiff, and_false, false_and, show skd 2 9 = 0 from rfl, h1]; rfl) (by first | exact trivial | exact Or.inl trivial | exact Or.inr rfl | exact Or.inl rfl) ?_
    refine V_icmpge dX2_isStuck_7 (tgt := 42) (by decide) (by unfold R32; constructor <;> omega) (fun q => ?_) (fun q => ?_)
    · omega
    · have next : ¬ (G.1 (e + 4) c = b ∧ G.1 (e + 5) c = l) → V κ MX2_isStuck (rmD d 0 0) (keepG G (VI (b2i (stuckIn G e b l (G.1 e 9).toNat 0)))) noX 0 0 μ 0 0 (Wm G) 36 [some (VR e), some (VI b), some (VI l), some (VI i)] [] := fun h => by
        refine V_ex sX2_isStuck_36 (by rfl) (by first | exact trivial | exact Or.inl trivial | exact Or.inr rfl | exact Or.inl rfl) ?_
        refine V_goto dX2_isStuck_39 (tgt := 2) (by decide) ?_
        exact ih (c + 1) _ (by omega) (by omega) (by rw [if_neg h] at he; exact he)
      refine V_ex sX2_isStuck_10 (by simp only [Option.toList, List.cons_append, List.nil_append, exN, ex1, gI, gL, gR, pI, pL, pR, lget, lset1, lset2, kl, b2I, b2L, nob, ob32, ob64, xGet, xPut, xLen, xLd, xLdR, xSt, obA, true_and, and_true, and_self, eq_self, Nat.reduceEqDiff, Nat.zero_ne_one, reduceIte, Nat.reduceLeDiff, and_false, false_and, show skd 2 7 = 2 from rfl, h1, g1]; rfl) (by first | exact trivial | exact Or.inl trivial | exact Or.inr rfl | exact Or.inl rfl) ?_
      refine V_callSN (M := MX2_isStuck) (N := MX11_at) (As := [VR (e + 4), VI i]) (rest := []) dX2_isStuck_15 lRX2_46 kX11_at rfl (c_at (d := 0) hκ g2 (by decide) (by unfold R32; omega)) rfl rfl (Nat.le_of_ble_eq_true rfl) (fit_rm (by omega)) (⟨Nat.le_refl _, Nat.le_refl _⟩) (fun v Ω' hp => ?_) (fun _ _ h => h.elim)
      obtain ⟨rfl, rfl⟩ := hp
      rw [rAt, if_pos ⟨by omega, by omega⟩, show i.toNat = c by omega]
      refine V_ex sX2_isStuck_18 (by rfl) (by first | exact trivial | exact Or.inl trivial | exact Or.inr rfl | exact Or.inl rfl) ?_
      refine V_icmpne dX2_isStuck_19 (tgt := 36) (by decide) (by exact ⟨h4 c, hb⟩) (fun q2 => ?_) (fun q2 => ?_)
      · exact next (fun h => q2 h.1)
      · refine V_ex sX2_isStuck_22 (by simp only [Option.toList, List.cons_append, List.nil_append, exN, ex1, gI, gL, gR, pI, pL, pR, lget, lset1, lset2, kl, b2I, b2L, nob, ob32, ob64, xGet, xPut, xLen, xLd, xLdR, xSt, obA, true_and, and_true, and_self, eq_self, Nat.reduceEqDiff, Nat.zero_ne_one, reduceIte, Nat.reduceLeDiff, and_false, false_and, show skd 2 8 = 2 from rfl, h1, g3]; rfl) (by first | exact trivial | exact Or.inl trivial | exact Or.inr rfl | exact Or.inl rfl) ?_
        refine V_callSN (M := MX2_isStuck) (N := MX11_at) (As := [VR (e + 5), VI i]) (rest := []) dX2_isStuck_27 lRX2_46 kX11_at rfl (c_at (d := 0) hκ g4 (by decide) (by unfold R32; omega)) rfl rfl (Nat.le_of_ble_eq_true rfl) (fit_rm (by omega)) (⟨Nat.le_refl _, Nat.le_refl _⟩) (fun v Ω' hp => ?_) (fun _ _ h => h.elim)
        obtain ⟨rfl, rfl⟩ := hp
        rw [rAt, if_pos ⟨by omega, by omega⟩, show i.toNat = c by omega]
        refine V_ex sX2_isStuck_30 (by rfl) (by first | exact trivial | exact Or.inl trivial | exact Or.inr rfl | exact Or.inl rfl) ?_
        refine V_icmpne dX2_isStuck_31 (tgt := 36) (by decide) (by exact ⟨h5 c, hl⟩) (fun q3 => ?_) (fun q3 => ?_)
        · exact next (fun h => q3 h.2)
        · refine V_ex sX2_isStuck_34 (by rfl) (by first | exact trivial | exact Or.inl trivial | exact Or.inr rfl | exact Or.inl rfl) ?_
          refine V_zret dX2_isStuck_35 rfl (by first | exact Or.inl rfl | exact Or.inr rfl | exact b2i_01 _) (by decide) ⟨by rw [← he, if_pos ⟨q2, q3⟩]; rfl, rfl⟩
def evAdd (G : Wd) (e : Nat) (b : Int) (ok : Bool) : Wd := uI (if ok = false ∧ G.1 e 6 = -1 then uI (uI G e 4 b) e 6 (G.1 e 5) else uI G e 4 b) e 5 (G.1 e 5 + 1)
set_option maxRecDepth 100000 in
set_option maxHeartbeats 4000000 in
theorem c_noteAdded {κ : Kx} (hκ : KOK κ) {d e : Nat} {b : Int} {ok : Bool} {G : Wd} (hE : EVa e) (h6 : R32 (G.1 e 6)) : Ct κ MX2_noteAdded d 0 0 [VR e, VI b, VI (b2i ok)] (Wm G) (voidG (evAdd G e b ok)) noX := by
  refine Ct_of hκ kX2_noteAdded.1 rfl (Nat.le_of_ble_eq_true rfl) (ls := [some (VR e), some (VI b), some (VI (b2i ok))]) rfl (fun μ => ?_)
  obtain ⟨h1, -⟩ := ev_facts hE
  have e6 : upd2 G.1 e 4 b e 6 = G.1 e 6 := by simp [upd2_eq]
  have e5 : upd2 G.1 e 4 b e 5 = G.1 e 5 := by simp [upd2_eq]
  have e5b : upd2 (upd2 G.1 e 4 b) e 6 (G.1 e 5) e 5 = G.1 e 5 := by simp [upd2_eq]
  refine V_ex sX2_noteAdded_0 (by simp only [Option.toList, List.cons_append, List.nil_append, exN, ex1, gI, gL, gR, pI, pL, pR, lget, lset1, lset2, kl, b2I, b2L, nob, ob32, ob64, xGet, xPut, xLen, xLd, xLdR, xSt, obA, true_and, and_true, and_self, eq_self, Nat.reduceEqDiff, Nat.zero_ne_one, reduceIte, Nat.reduceLeDiff, and_false, false_and, show skd 2 4 = 0 from rfl, h1]; rfl) (by first | exact trivial | exact Or.inl trivial | exact Or.inr rfl | exact Or.inl rfl) ?_
  refine V_ifneB dX2_noteAdded_6 (tgt := 25) (by decide) (fun q => ?_) (fun q => ?_)
  · refine V_ex sX2_noteAdded_25 (by simp only [Option.toList, List.cons_append, List.nil_append, exN, ex1, gI, gL, gR, pI, pL, pR, lget, lset1, lset2, kl, b2I, b2L, nob, ob32, ob64, xGet, xPut, xLen, xLd, xLdR, xSt, obA, true_and, and_true, and_self, eq_self, Nat.reduceEqDiff, Nat.zero_ne_one, reduceIte, Nat.reduceLeDiff, and_false, false_and, show skd 2 5 = 0 from rfl, h1, e5]; rfl) (by first | exact trivial | exact Or.inl trivial | exact Or.inr rfl | exact Or.inl rfl) ?_
    refine V_vret dX2_noteAdded_35 rfl (by decide) ⟨rfl, by rw [evAdd, if_neg (by rw [q]; simp)]⟩
  · refine V_ex sX2_noteAdded_9 (by simp only [Option.toList, List.cons_append, List.nil_append, exN, ex1, gI, gL, gR, pI, pL, pR, lget, lset1, lset2, kl, b2I, b2L, nob, ob32, ob64, xGet, xPut, xLen, xLd, xLdR, xSt, obA, true_and, and_true, and_self, eq_self, Nat.reduceEqDiff, Nat.zero_ne_one, reduceIte, Nat.reduceLeDiff, and_false, false_and, show skd 2 6 = 0 from rfl, h1, e6]; rfl) (by first | exact trivial | exact Or.inl trivial | exact Or.inr rfl | exact Or.inl rfl) ?_
    refine V_icmpne dX2_noteAdded_14 (tgt := 25) (by decide) (by exact ⟨h6, by unfold R32; omega⟩) (fun q2 => ?_) (fun q2 => ?_)
    · refine V_ex sX2_noteAdded_25 (by simp only [Option.toList, List.cons_append, List.nil_append, exN, ex1, gI, gL, gR, pI, pL, pR, lget, lset1, lset2, kl, b2I, b2L, nob, ob32, ob64, xGet, xPut, xLen, xLd, xLdR, xSt, obA, true_and, and_true, and_self, eq_self, Nat.reduceEqDiff, Nat.zero_ne_one, reduceIte, Nat.reduceLeDiff, and_false, false_and, show skd 2 5 = 0 from rfl, h1, e5]; rfl) (by first | exact trivial | exact Or.inl trivial | exact Or.inr rfl | exact Or.inl rfl) ?_
      refine V_vret dX2_noteAdded_35 rfl (by decide) ⟨rfl, by rw [evAdd, if_neg (fun h => q2 h.2)]⟩
    · refine V_ex sX2_noteAdded_17 (by simp only [Option.toList, List.cons_append, List.nil_append, exN, ex1, gI, gL, gR, pI, pL, pR, lget, lset1, lset2, kl, b2I, b2L, nob, ob32, ob64, xGet, xPut, xLen, xLd, xLdR, xSt, obA, true_and, and_true, and_self, eq_self, Nat.reduceEqDiff, Nat.zero_ne_one, reduceIte, Nat.reduceLeDiff, and_false, false_and, show skd 2 5 = 0 from rfl, show skd 2 6 = 0 from rfl, h1, e5]; rfl) (by first | exact trivial | exact Or.inl trivial | exact Or.inr rfl | exact Or.inl rfl) ?_
      refine V_ex sX2_noteAdded_25 (by simp only [Option.toList, List.cons_append, List.nil_append, exN, ex1, gI, gL, gR, pI, pL, pR, lget, lset1, lset2, kl, b2I, b2L, nob, ob32, ob64, xGet, xPut, xLen, xLd, xLdR, xSt, obA, true_and, and_true, and_self, eq_self, Nat.reduceEqDiff, Nat.zero_ne_one, reduceIte, Nat.reduceLeDiff, and_false, false_and, show skd 2 5 = 0 from rfl, h1, e5b]; rfl) (by first | exact trivial | exact Or.inl trivial | exact Or.inr rfl | exact Or.inl rfl) ?_
      refine V_vret dX2_noteAdded_35 rfl (by decide) ⟨rfl, by rw [evAdd, if_pos ⟨q, q2⟩]⟩
set_option maxRecDepth 100000 in
set_option maxHeartbeats 4000000 in
theorem c_noteStuck {κ : Kx} (hκ : KOK κ) {d e : Nat} {b l : Int} {G : Wd} (hE : EVa e) (hm : 0 ≤ G.1 e 9 ∧ G.1 e 9 < 20) (hd : 1 ≤ d) : Ct κ MX2_noteStuck d 0 0 [VR e, VI b, VI l] (Wm G) (fun v Ω' => v = some (VI (G.1 e 9 + 1)) ∧ Ω' = Wm (uI (uI (uI G (e + 4) (G.1 e 9).toNat b) (e + 5) (G.1 e 9).toNat l) e 9 (G.1 e 9 + 1))) noX := by
  refine Ct_of hκ kX2_noteStuck.1 rfl (Nat.le_of_ble_eq_true rfl) (ls := [some (VR e), some (VI b), some (VI l)]) rfl (fun μ => ?_)
  obtain ⟨h1, -, -, -, -, -, -, g1, g2, g3, g4, -⟩ := ev_facts hE
  refine V_ex sX2_noteStuck_0 (by simp only [Option.toList, List.cons_append, List.nil_append, exN, ex1, gI, gL, gR, pI, pL, pR, lget, lset1, lset2, kl, b2I, b2L, nob, ob32, ob64, xGet, xPut, xLen, xLd, xLdR, xSt, obA, true_and, and_true, and_self, eq_self, Nat.reduceEqDiff, Nat.zero_ne_one, reduceIte, Nat.reduceLeDiff, and_false, false_and, show skd 2 7 = 2 from rfl, show skd 2 9 = 0 from rfl, h1, g1]; rfl) (by first | exact trivial | exact Or.inl trivial | exact Or.inr rfl | exact Or.inl rfl) ?_
  refine V_callSN (M := MX2_noteStuck) (N := MX11_setAt) (As := [VR (e + 4), VI (G.1 e 9), VI b]) (rest := []) dX2_noteStuck_9 lRX2_50 kX11_setAt rfl (c_setAt (d := 0) hκ g2 (by decide) (by unfold R32; omega)) rfl rfl (Nat.le_of_ble_eq_true rfl) (fit_rm (by omega)) (⟨Nat.le_refl _, Nat.le_refl _⟩) (fun v Ω' hp => ?_) (fun _ _ h => h.elim)
  obtain ⟨rfl, rfl⟩ := hp
  rw [rSet, if_pos ⟨by omega, by omega⟩]
  have q1 : upd2 G.1 (e + 4) (G.1 e 9).toNat b e 9 = G.1 e 9 := by simp [upd2_eq]
  refine V_ex sX2_noteStuck_12 (by simp only [Option.toList, List.cons_append, List.nil_append, exN, ex1, gI, gL, gR, pI, pL, pR, lget, lset1, lset2, kl, b2I, b2L, nob, ob32, ob64, xGet, xPut, xLen, xLd, xLdR, xSt, obA, true_and, and_true, and_self, eq_self, Nat.reduceEqDiff, Nat.zero_ne_one, reduceIte, Nat.reduceLeDiff, and_false, false_and, show skd 2 8 = 2 from rfl, show skd 2 9 = 0 from rfl, h1, g3, q1]; rfl) (by first | exact trivial | exact Or.inl trivial | exact Or.inr rfl | exact Or.inl rfl) ?_
  refine V_callSN (M := MX2_noteStuck) (N := MX11_setAt) (As := [VR (e + 5), VI (G.1 e 9), VI l]) (rest := []) dX2_noteStuck_21 lRX2_50 kX11_setAt rfl (c_setAt (d := 0) hκ g4 (by decide) (by unfold R32; omega)) rfl rfl (Nat.le_of_ble_eq_true rfl) (fit_rm (by omega)) (⟨Nat.le_refl _, Nat.le_refl _⟩) (fun v Ω' hp => ?_) (fun _ _ h => h.elim)
  obtain ⟨rfl, rfl⟩ := hp
  rw [rSet, if_pos ⟨by omega, by omega⟩]
  have q2 : upd2 (upd2 G.1 (e + 4) (G.1 e 9).toNat b) (e + 5) (G.1 e 9).toNat l e 9 = G.1 e 9 := by simp [upd2_eq]
  refine V_ex sX2_noteStuck_24 (by simp only [Option.toList, List.cons_append, List.nil_append, exN, ex1, gI, gL, gR, pI, pL, pR, lget, lset1, lset2, kl, b2I, b2L, nob, ob32, ob64, xGet, xPut, xLen, xLd, xLdR, xSt, obA, true_and, and_true, and_self, eq_self, Nat.reduceEqDiff, Nat.zero_ne_one, reduceIte, Nat.reduceLeDiff, and_false, false_and, show skd 2 9 = 0 from rfl, h1, q2, upd2_same]; rfl) (by first | exact trivial | exact Or.inl trivial | exact Or.inr rfl | exact Or.inl rfl) ?_
  refine V_iret dX2_noteStuck_38 rfl (by decide) ⟨rfl, rfl⟩
set_option maxRecDepth 100000 in
set_option maxHeartbeats 4000000 in
theorem c_noteTorn {κ : Kx} (hκ : KOK κ) {d e : Nat} {b l o : Int} {G : Wd} (hE : EVa e) (hm : 0 ≤ G.1 e 3 ∧ G.1 e 3 < 360) (hd : 1 ≤ d) : Ct κ MX2_noteTorn d 0 0 [VR e, VI b, VI l, VI o] (Wm G) (voidG (uI (uI (uI (uI G (e + 1) (G.1 e 3).toNat b) (e + 2) (G.1 e 3).toNat l) (e + 3) (G.1 e 3).toNat o) e 3 (G.1 e 3 + 1))) noX := by
  refine Ct_of hκ kX2_noteTorn.1 rfl (Nat.le_of_ble_eq_true rfl) (ls := [some (VR e), some (VI b), some (VI l), some (VI o)]) rfl (fun μ => ?_)
  obtain ⟨h1, g1, g2, g3, g4, g5, g6, -⟩ := ev_facts hE
  refine V_ex sX2_noteTorn_0 (by simp only [Option.toList, List.cons_append, List.nil_append, exN, ex1, gI, gL, gR, pI, pL, pR, lget, lset1, lset2, kl, b2I, b2L, nob, ob32, ob64, xGet, xPut, xLen, xLd, xLdR, xSt, obA, true_and, and_true, and_self, eq_self, Nat.reduceEqDiff, Nat.zero_ne_one, reduceIte, Nat.reduceLeDiff, and_false, false_and, show skd 2 0 = 2 from rfl, show skd 2 3 = 0 from rfl, h1, g1]; rfl) (by first | exact trivial | exact Or.inl trivial | exact Or.inr rfl | exact Or.inl rfl) ?_
  refine V_callSN (M := MX2_noteTorn) (N := MX11_setAt) (As := [VR (e + 1), VI (G.1 e 3), VI b]) (rest := []) dX2_noteTorn_9 lRX2_50 kX11_setAt rfl (c_setAt (d := 0) hκ g2 (by decide) (by unfold R32; omega)) rfl rfl (Nat.le_of_ble_eq_true rfl) (fit_rm (by omega)) (⟨Nat.le_refl _, Nat.le_refl _⟩) (fun v Ω' hp => ?_) (fun _ _ h => h.elim)
  obtain ⟨rfl, rfl⟩ := hp
  rw [rSet, if_pos ⟨by omega, by omega⟩]
  have q1 : upd2 G.1 (e + 1) (G.1 e 3).toNat b e 3 = G.1 e 3 := by simp [upd2_eq]
  refine V_ex sX2_noteTorn_12 (by simp only [Option.toList, List.cons_append, List.nil_append, exN, ex1, gI, gL, gR, pI, pL, pR, lget, lset1, lset2, kl, b2I, b2L, nob, ob32, ob64, xGet, xPut, xLen, xLd, xLdR, xSt, obA, true_and, and_true, and_self, eq_self, Nat.reduceEqDiff, Nat.zero_ne_one, reduceIte, Nat.reduceLeDiff, and_false, false_and, show skd 2 1 = 2 from rfl, show skd 2 3 = 0 from rfl, h1, g3, q1]; rfl) (by first | exact trivial | exact Or.inl trivial | exact Or.inr rfl | exact Or.inl rfl) ?_
  refine V_callSN (M := MX2_noteTorn) (N := MX11_setAt) (As := [VR (e + 2), VI (G.1 e 3), VI l]) (rest := []) dX2_noteTorn_21 lRX2_50 kX11_setAt rfl (c_setAt (d := 0) hκ g4 (by decide) (by unfold R32; omega)) rfl rfl (Nat.le_of_ble_eq_true rfl) (fit_rm (by omega)) (⟨Nat.le_refl _, Nat.le_refl _⟩) (fun v Ω' hp => ?_) (fun _ _ h => h.elim)
  obtain ⟨rfl, rfl⟩ := hp
  rw [rSet, if_pos ⟨by omega, by omega⟩]
  have q2 : upd2 (upd2 G.1 (e + 1) (G.1 e 3).toNat b) (e + 2) (G.1 e 3).toNat l e 3 = G.1 e 3 := by simp [upd2_eq]
  refine V_ex sX2_noteTorn_24 (by simp only [Option.toList, List.cons_append, List.nil_append, exN, ex1, gI, gL, gR, pI, pL, pR, lget, lset1, lset2, kl, b2I, b2L, nob, ob32, ob64, xGet, xPut, xLen, xLd, xLdR, xSt, obA, true_and, and_true, and_self, eq_self, Nat.reduceEqDiff, Nat.zero_ne_one, reduceIte, Nat.reduceLeDiff, and_false, false_and, show skd 2 2 = 2 from rfl, show skd 2 3 = 0 from rfl, h1, g5, q2]; rfl) (by first | exact trivial | exact Or.inl trivial | exact Or.inr rfl | exact Or.inl rfl) ?_
  refine V_callSN (M := MX2_noteTorn) (N := MX11_setAt) (As := [VR (e + 3), VI (G.1 e 3), VI o]) (rest := []) dX2_noteTorn_33 lRX2_50 kX11_setAt rfl (c_setAt (d := 0) hκ g6 (by decide) (by unfold R32; omega)) rfl rfl (Nat.le_of_ble_eq_true rfl) (fit_rm (by omega)) (⟨Nat.le_refl _, Nat.le_refl _⟩) (fun v Ω' hp => ?_) (fun _ _ h => h.elim)
  obtain ⟨rfl, rfl⟩ := hp
  rw [rSet, if_pos ⟨by omega, by omega⟩]
  have q3 : upd2 (upd2 (upd2 G.1 (e + 1) (G.1 e 3).toNat b) (e + 2) (G.1 e 3).toNat l) (e + 3) (G.1 e 3).toNat o e 3 = G.1 e 3 := by simp [upd2_eq]
  refine V_ex sX2_noteTorn_36 (by simp only [Option.toList, List.cons_append, List.nil_append, exN, ex1, gI, gL, gR, pI, pL, pR, lget, lset1, lset2, kl, b2I, b2L, nob, ob32, ob64, xGet, xPut, xLen, xLd, xLdR, xSt, obA, true_and, and_true, and_self, eq_self, Nat.reduceEqDiff, Nat.zero_ne_one, reduceIte, Nat.reduceLeDiff, and_false, false_and, show skd 2 3 = 0 from rfl, h1, q3]; rfl) (by first | exact trivial | exact Or.inl trivial | exact Or.inr rfl | exact Or.inl rfl) ?_
  refine V_vret dX2_noteTorn_46 rfl (by decide) ⟨rfl, rfl⟩
set_option maxRecDepth 100000 in
set_option maxHeartbeats 4000000 in
theorem c_refuse {κ : Kx} (hκ : KOK κ) {d e : Nat} {w : Int} {G : Wd} (hE : EVa e) (hw : 0 ≤ w ∧ w < 4) (hd : 1 ≤ d) : Ct κ MX2_refuse d 0 0 [VR e, VI w] (Wm G) (fun v Ω' => v = some (VI (-1)) ∧ Ω' = Wm (uI G (e + 6) w.toNat (G.1 (e + 6) w.toNat + 1))) noX := by
  refine Ct_of hκ kX2_refuse.1 rfl (Nat.le_of_ble_eq_true rfl) (ls := [some (VR e), some (VI w)]) rfl (fun μ => ?_)
  obtain ⟨h1, -, -, -, -, -, -, -, -, -, -, g1, g2⟩ := ev_facts hE
  refine V_ex sX2_refuse_0 (by simp only [Option.toList, List.cons_append, List.nil_append, exN, ex1, gI, gL, gR, pI, pL, pR, lget, lset1, lset2, kl, b2I, b2L, nob, ob32, ob64, xGet, xPut, xLen, xLd, xLdR, xSt, obA, true_and, and_true, and_self, eq_self, Nat.reduceEqDiff, Nat.zero_ne_one, reduceIte, Nat.reduceLeDiff, and_false, false_and, show skd 2 10 = 2 from rfl, h1, g1]; rfl) (by first | exact trivial | exact Or.inl trivial | exact Or.inr rfl | exact Or.inl rfl) ?_
  refine V_callSN (M := MX2_refuse) (N := MX11_at) (As := [VR (e + 6), VI w]) (rest := [VI w, VR (e + 6)]) dX2_refuse_10 lRX2_46 kX11_at rfl (c_at (d := 0) hκ g2 (by decide) (by unfold R32; omega)) rfl rfl (Nat.le_of_ble_eq_true rfl) (fit_rm (by omega)) (⟨Nat.le_refl _, Nat.le_refl _⟩) (fun v Ω' hp => ?_) (fun _ _ h => h.elim)
  obtain ⟨rfl, rfl⟩ := hp
  rw [rAt, if_pos ⟨by omega, by omega⟩]
  refine V_ex sX2_refuse_13 (by rfl) (by first | exact trivial | exact Or.inl trivial | exact Or.inr rfl | exact Or.inl rfl) ?_
  refine V_callSN (M := MX2_refuse) (N := MX11_setAt) (As := [VR (e + 6), VI w, VI (G.1 (e + 6) w.toNat + 1)]) (rest := []) dX2_refuse_15 lRX2_50 kX11_setAt rfl (c_setAt (d := 0) hκ g2 (by decide) (by unfold R32; omega)) rfl rfl (Nat.le_of_ble_eq_true rfl) (fit_rm (by omega)) (⟨Nat.le_refl _, Nat.le_refl _⟩) (fun v Ω' hp => ?_) (fun _ _ h => h.elim)
  obtain ⟨rfl, rfl⟩ := hp
  rw [rSet, if_pos ⟨by omega, by omega⟩]
  refine V_ex sX2_refuse_18 (by rfl) (by first | exact trivial | exact Or.inl trivial | exact Or.inr rfl | exact Or.inl rfl) ?_
  refine V_iret dX2_refuse_19 rfl (by decide) ⟨rfl, rfl⟩
set_option maxRecDepth 100000 in
set_option maxHeartbeats 4000000 in
theorem c_refusedSoFar {κ : Kx} (hκ : KOK κ) {d e : Nat} {w : Int} {G : Wd} (hE : EVa e) (hw : R32 w) (hd : 1 ≤ d) : Ct κ MX2_refusedSoFar d 0 0 [VR e, VI w] (Wm G) (keepG G (VI (rAt (G.1 (e + 6)) 4 w))) noX := by
  refine Ct_of hκ kX2_refusedSoFar.1 rfl (Nat.le_of_ble_eq_true rfl) (ls := [some (VR e), some (VI w)]) rfl (fun μ => ?_)
  obtain ⟨h1, -, -, -, -, -, -, -, -, -, -, g1, g2⟩ := ev_facts hE
  refine V_ex sX2_refusedSoFar_0 (by simp only [Option.toList, List.cons_append, List.nil_append, exN, ex1, gI, gL, gR, pI, pL, pR, lget, lset1, lset2, kl, b2I, b2L, nob, ob32, ob64, xGet, xPut, xLen, xLd, xLdR, xSt, obA, true_and, and_true, and_self, eq_self, Nat.reduceEqDiff, Nat.zero_ne_one, reduceIte, Nat.reduceLeDiff, and_false, false_and, show skd 2 10 = 2 from rfl, h1, g1]; rfl) (by first | exact trivial | exact Or.inl trivial | exact Or.inr rfl | exact Or.inl rfl) ?_
  refine V_callSN (M := MX2_refusedSoFar) (N := MX11_at) (As := [VR (e + 6), VI w]) (rest := []) dX2_refusedSoFar_5 lRX2_46 kX11_at rfl (c_at (d := 0) hκ g2 (by decide) hw) rfl rfl (Nat.le_of_ble_eq_true rfl) (fit_rm (by omega)) (⟨Nat.le_refl _, Nat.le_refl _⟩) (fun v Ω' hp => ?_) (fun _ _ h => h.elim)
  obtain ⟨rfl, rfl⟩ := hp
  refine V_iret dX2_refusedSoFar_8 rfl (by decide) ⟨rfl, rfl⟩
/-- the page of a number, by a book's own rule; -1 where none -/
def ownP (kind mark n : Int) : Int := if kind = 2 then n + mark else if kind = 3 then (if n.tmod 2 = 0 then -1 else (n + 1).tdiv 2) else if kind = 4 then (if n.tmod 2 = 0 then n.tdiv 2 else -1) else if kind = 5 then pwR (pwC mark 18 n 1) else n
set_option maxRecDepth 100000 in
set_option maxHeartbeats 4000000 in
theorem c_pageBearing {κ : Kx} (hκ : KOK κ) {d a : Nat} {n : Int} {G : Wd} (hS : BKa a) (hn : R32 n) (hk : R32 (G.1 a 0)) (hm : R32 (G.1 a 2)) (hd : 1 ≤ d) : Ct κ MX0_pageBearing d 0 0 [VR a, VI n] (Wm G) (keepG G (VL (ownP (G.1 a 0) (G.1 a 2) n))) noX := by
  refine Ct_of hκ kX0_pageBearing.1 rfl (Nat.le_of_ble_eq_true rfl) (ls := [some (VR a), some (VI n)]) rfl (fun μ => ?_)
  have hR : R32 (n.tmod 2) := by
    have h1 := Int.tmod_lt_of_pos n (show (0:Int) < 2 by decide)
    have h2 : -2 < n.tmod 2 := by
      have := Int.tmod_lt_of_pos (-n) (show (0:Int) < 2 by decide)
      rw [Int.neg_tmod] at this; omega
    unfold R32; omega
  refine V_ex sX0_pageBearing_0 (by simp only [Option.toList, List.cons_append, List.nil_append, exN, ex1, gI, gL, gR, pI, pL, pR, lget, lset1, lset2, kl, b2I, b2L, nob, ob32, ob64, xGet, xPut, xLen, xLd, xLdR, xSt, obA, true_and, and_true, and_self, eq_self, Nat.reduceEqDiff, Nat.zero_ne_one, reduceIte, Nat.reduceLeDiff, and_false, false_and, show skd 0 0 = 0 from rfl, hS.1]; rfl) (by first | exact trivial | exact Or.inl trivial | exact Or.inr rfl | exact Or.inl rfl) ?_
  refine V_tsw dX0_pageBearing_4 (dt := 93) (tg := [36, 45, 66, 83]) hk (by decide) (by decide) (by decide) (fun q => ?_) ⟨fun q => ?_, fun q => ?_, fun q => ?_, fun q => ?_, trivial⟩
  · refine V_ex sX0_pageBearing_93 (by rfl) (by exact hn) ?_
    refine V_lret dX0_pageBearing_95 rfl (by decide) ⟨by rw [ownP, if_neg (by omega), if_neg (by omega), if_neg (by omega), if_neg (by omega)], rfl⟩
  · refine V_ex sX0_pageBearing_36 (by simp only [Option.toList, List.cons_append, List.nil_append, exN, ex1, gI, gL, gR, pI, pL, pR, lget, lset1, lset2, kl, b2I, b2L, nob, ob32, ob64, xGet, xPut, xLen, xLd, xLdR, xSt, obA, true_and, and_true, and_self, eq_self, Nat.reduceEqDiff, Nat.zero_ne_one, reduceIte, Nat.reduceLeDiff, and_false, false_and, show skd 0 2 = 0 from rfl, hS.1]; rfl) (by exact ⟨hn, hm⟩) ?_
    refine V_lret dX0_pageBearing_44 rfl (by decide) ⟨by rw [ownP, if_pos q], rfl⟩
  · refine V_ex sX0_pageBearing_45 (by rfl) (by exact ⟨hn, by unfold R32; omega, by decide⟩) ?_
    refine V_ifeq dX0_pageBearing_48 (tgt := 62) (by decide) (by exact hR) (fun q2 => ?_) (fun q2 => ?_)
    · refine V_ex sX0_pageBearing_62 (by rfl) (by first | exact trivial | exact Or.inl trivial | exact Or.inr rfl | exact Or.inl rfl) ?_
      refine V_lret dX0_pageBearing_65 rfl (by decide) ⟨by rw [ownP, if_neg (by omega), if_pos (by omega), if_pos q2], rfl⟩
    · refine V_ex sX0_pageBearing_51 (by rfl) (by exact ⟨hn, by unfold R64; unfold R32 at hn; omega, by unfold R64; omega, by decide⟩) ?_
      refine V_goto dX0_pageBearing_59 (tgt := 65) (by decide) ?_
      refine V_lret dX0_pageBearing_65 rfl (by decide) ⟨by rw [ownP, if_neg (by omega), if_pos (by omega), if_neg q2], rfl⟩
  · refine V_ex sX0_pageBearing_66 (by rfl) (by exact ⟨hn, by unfold R32; omega, by decide⟩) ?_
    refine V_ifne dX0_pageBearing_69 (tgt := 79) (by decide) (by exact hR) (fun q2 => ?_) (fun q2 => ?_)
    · refine V_ex sX0_pageBearing_79 (by rfl) (by first | exact trivial | exact Or.inl trivial | exact Or.inr rfl | exact Or.inl rfl) ?_
      refine V_lret dX0_pageBearing_82 rfl (by decide) ⟨by rw [ownP, if_neg (by omega), if_neg (by omega), if_pos (by omega), if_neg q2], rfl⟩
    · have hd2 : R32 (n.tdiv 2) := by have := Int.mul_tdiv_add_tmod n 2; unfold R32 at *; omega
      refine V_ex sX0_pageBearing_72 (by rfl) (by exact ⟨⟨hn, by unfold R32; omega, by decide⟩, hd2⟩) ?_
      refine V_goto dX0_pageBearing_76 (tgt := 82) (by decide) ?_
      refine V_lret dX0_pageBearing_82 rfl (by decide) ⟨by rw [ownP, if_neg (by omega), if_neg (by omega), if_pos (by omega), if_pos q2], rfl⟩
  · refine V_ex sX0_pageBearing_83 (by simp only [Option.toList, List.cons_append, List.nil_append, exN, ex1, gI, gL, gR, pI, pL, pR, lget, lset1, lset2, kl, b2I, b2L, nob, ob32, ob64, xGet, xPut, xLen, xLd, xLdR, xSt, obA, true_and, and_true, and_self, eq_self, Nat.reduceEqDiff, Nat.zero_ne_one, reduceIte, Nat.reduceLeDiff, and_false, false_and, show skd 0 2 = 0 from rfl, hS.1]; rfl) (by exact hn) ?_
    refine V_callS (M := MX0_pageBearing) (N := MX3_placeWithout) (As := [VI (G.1 a 2), VL n]) (rest := []) dX0_pageBearing_89 lRX0_58 kX3_placeWithout rfl (c_placeWithout (d := 0) hκ hm (r32_64 hn)) rfl rfl (Nat.le_of_ble_eq_true rfl) (fit_rm (by omega)) (⟨Nat.le_refl _, Nat.le_refl _⟩) (fun v Ω' hp => ?_) (fun _ _ h => h.elim)
    obtain ⟨rfl, rfl⟩ := hp
    refine V_lret dX0_pageBearing_92 rfl (by decide) ⟨by rw [ownP, if_neg (by omega), if_neg (by omega), if_neg (by omega), if_pos (by omega)], rfl⟩
example (f : Nat → Nat → Int) (x j : Nat) (z : Int) : upd2 (upd2 f 3 2 z) 4 2 z x j = if x = 3 ∧ j = 2 then z else if x = 4 ∧ j = 2 then z else f x j := by
  simp only [upd2_eq]
  grind
