/-! Shelf: beginning books and copies, keeping what is gone, the told number -/
def shClear (G : Wd) (s : Nat) : Wd := uA (uI (uI (uI (uI G s 1 0) s 4 0) s 6 0) s 8 0) (s + 4) (fillT 10 100 (G.1 (s + 4)))
set_option maxRecDepth 100000 in
set_option maxHeartbeats 4000000 in
theorem c_clear {κ : Kx} (hκ : KOK κ) {d s : Nat} {G : Wd} (hS : SHa s) : Ct κ MX7_clear d 0 0 [VR s] (Wm G) (voidG (shClear G s)) noX := by
  refine Ct_of hκ kX7_clear.1 rfl (Nat.le_of_ble_eq_true rfl) (ls := [some (VR s), none]) rfl (fun μ => ?_)
  obtain ⟨h1, -, -, -, -, -, -, h2, h3, -⟩ := sh_facts hS
  refine V_ex sX7_clear_0 (by simp only [Option.toList, List.cons_append, List.nil_append, exN, ex1, gI, gL, gR, pI, pL, pR, lget, lset1, lset2, kl, b2I, b2L, nob, ob32, ob64, xGet, xPut, xLen, xLd, xLdR, xSt, obA, true_and, and_true, and_self, eq_self, Nat.reduceEqDiff, Nat.zero_ne_one, reduceIte, Nat.reduceLeDiff, and_false, false_and, show skd 6 1 = 0 from rfl, show skd 6 4 = 0 from rfl, show skd 6 6 = 4 from rfl, show skd 6 8 = 0 from rfl, h1]; rfl) (by first | exact trivial | exact Or.inl trivial | exact Or.inr rfl | exact Or.inl rfl) ?_
  generalize hG : (upd2 (upd2 (upd2 (upd2 G.1 s 1 0) s 4 0) s 6 0) s 8 0, G.2) = G1
  have e4 : G1.1 (s + 4) = G.1 (s + 4) := by rw [← hG]; funext j; simp [upd2_eq]
  suffices L : ∀ (k : Nat) (i : Int), i = 10 - (k : Int) → k ≤ 10 → V κ MX7_clear (rmD d 0 0) (voidG (shClear G s)) noX 0 0 μ 0 0 (Wm (uA G1 (s + 4) (fillT (10 - k) 100 (G1.1 (s + 4))))) 22 [some (VR s), some (VI i)] [] from
    V_W _ (by refine uI_ext (fun x j => ?_) rfl; by_cases hx : x = s + 4 <;> simp [hx, fillT]) (L 10 0 (by omega) (by omega))
  intro k
  induction k with
  | zero =>
    intro i hi hk
    refine V_ex sX7_clear_22 (by simp only [Option.toList, List.cons_append, List.nil_append, exN, ex1, gI, gL, gR, pI, pL, pR, lget, lset1, lset2, kl, b2I, b2L, nob, ob32, ob64, xGet, xPut, xLen, xLd, xLdR, xSt, obA, true_and, and_true, and_self, eq_self, Nat.reduceEqDiff, Nat.zero_ne_one, reduceIte, Nat.reduceLeDiff, and_false, false_and, show skd 6 5 = 2 from rfl, h1, h2, h3]; rfl) (by first | exact trivial | exact Or.inl trivial | exact Or.inr rfl | exact Or.inl rfl) ?_
    refine V_icmpge dX7_clear_28 (tgt := 45) (by decide) (by unfold R32; constructor <;> omega) (fun q => ?_) (fun q => ?_)
    · refine V_vret dX7_clear_45 rfl (by decide) ⟨rfl, by rw [e4, ← hG]; rfl⟩
    · omega
  | succ k ih =>
    intro i hi hk
    refine V_ex sX7_clear_22 (by simp only [Option.toList, List.cons_append, List.nil_append, exN, ex1, gI, gL, gR, pI, pL, pR, lget, lset1, lset2, kl, b2I, b2L, nob, ob32, ob64, xGet, xPut, xLen, xLd, xLdR, xSt, obA, true_and, and_true, and_self, eq_self, Nat.reduceEqDiff, Nat.zero_ne_one, reduceIte, Nat.reduceLeDiff, and_false, false_and, show skd 6 5 = 2 from rfl, h1, h2, h3]; rfl) (by first | exact trivial | exact Or.inl trivial | exact Or.inr rfl | exact Or.inl rfl) ?_
    refine V_icmpge dX7_clear_28 (tgt := 45) (by decide) (by unfold R32; constructor <;> omega) (fun q => ?_) (fun q => ?_)
    · omega
    · refine V_ex sX7_clear_31 (by simp only [Option.toList, List.cons_append, List.nil_append, exN, ex1, gI, gL, gR, pI, pL, pR, lget, lset1, lset2, kl, b2I, b2L, nob, ob32, ob64, xGet, xPut, xLen, xLd, xLdR, xSt, obA, true_and, and_true, and_self, eq_self, Nat.reduceEqDiff, Nat.zero_ne_one, reduceIte, Nat.reduceLeDiff, and_false, false_and, show skd 6 5 = 2 from rfl, h1, h2, h3]; rfl) (by exact ⟨by omega, by omega⟩) ?_
      refine V_goto dX7_clear_42 (tgt := 22) (by decide) ?_
      refine V_W _ ?_ (ih (i + 1) (by omega) (by omega))
      refine uI_ext (fun x j => ?_) rfl
      simp only [upd2_eq]
      by_cases hx : x = s + 4
      · simp only [hx, if_true, true_and, fillT]
        repeat' split
        all_goals first | rfl | omega
      · simp only [hx, if_false, false_and]
set_option maxRecDepth 100000 in
set_option maxHeartbeats 4000000 in
theorem c_nextBook {κ : Kx} (hκ : KOK κ) {d s : Nat} {kind : Int} {G : Wd} (hS : SHa s) (hb : 0 ≤ G.1 s 1 ∧ G.1 s 1 < 6) (hd : 2 ≤ d) : Ct κ MX7_nextBook d 0 0 [VR s, VI kind] (Wm G) (fun v Ω' => v = some (VR (s + 7 + 5 * (G.1 s 1).toNat)) ∧ Ω' = Wm (bkBegin (uI G s 1 (G.1 s 1 + 1)) (s + 7 + 5 * (G.1 s 1).toNat) kind)) noX := by
  refine Ct_of hκ kX7_nextBook.1 rfl (Nat.le_of_ble_eq_true rfl) (ls := [some (VR s), some (VI kind), none]) rfl (fun μ => ?_)
  obtain ⟨h1, -⟩ := sh_facts hS
  have hk := (sh_books hS (G.1 s 1).toNat (by omega)).2
  refine V_ex sX7_nextBook_0 (by simp only [Option.toList, List.cons_append, List.nil_append, exN, ex1, gI, gL, gR, pI, pL, pR, lget, lset1, lset2, kl, b2I, b2L, nob, ob32, ob64, xGet, xPut, xLen, xLd, xLdR, xSt, obA, true_and, and_true, and_self, eq_self, Nat.reduceEqDiff, Nat.zero_ne_one, reduceIte, Nat.reduceLeDiff, and_false, false_and, show skd 6 1 = 0 from rfl, h1, upd2_same, Int.add_sub_cancel]; rfl) (by first | exact trivial | exact Or.inl trivial | exact Or.inr rfl | exact Or.inl rfl) ?_
  refine V_callV (M := MX7_nextBook) (N := MX7_bookAt) (As := [VI (G.1 s 1)]) (rest := []) dX7_nextBook_17 lRX7_52 kX7_bookAt rfl (h1) rfl (c_bookAt (d := 0) hκ hS (by unfold R32; omega) (by show R32 (upd2 _ _ _ _ _ _); rw [upd2_same]; unfold R32; omega)) rfl rfl (Nat.le_of_ble_eq_true rfl) (fit_rm (by omega)) (⟨Nat.le_refl _, Nat.le_refl _⟩) (fun v Ω' hp => ?_) (fun _ _ h => h.elim)
  obtain ⟨rfl, rfl⟩ := hp
  have e : bkAt (upd2 G.1 s 1 (G.1 s 1 + 1), G.2) s (G.1 s 1) = s + 7 + 5 * (G.1 s 1).toNat := by
    rw [bkAt, if_pos]; show 0 ≤ G.1 s 1 ∧ G.1 s 1 < upd2 _ _ _ _ _ _ ∧ _; rw [upd2_same]; omega
  rw [e]
  refine V_ex sX7_nextBook_20 (by rfl) (by first | exact trivial | exact Or.inl trivial | exact Or.inr rfl | exact Or.inl rfl) ?_
  refine V_ifnull dX7_nextBook_22 (tgt := 30) (by decide) (fun q => ?_) (fun q => ?_)
  · exact absurd q (by omega)
  · refine V_ex sX7_nextBook_25 (by rfl) (by first | exact trivial | exact Or.inl trivial | exact Or.inr rfl | exact Or.inl rfl) ?_
    refine V_callV (M := MX7_nextBook) (N := MX0_begin) (As := [VI kind]) (rest := []) dX7_nextBook_27 lRX7_56 kX0_begin rfl (hk.1) rfl (c_begin (d := 1) hκ hk (by omega)) rfl rfl (Nat.le_of_ble_eq_true rfl) (fit_rm (by omega)) (⟨Nat.le_refl _, Nat.le_refl _⟩) (fun v Ω' hp => ?_) (fun _ _ h => h.elim)
    obtain ⟨rfl, rfl⟩ := hp
    refine V_ex sX7_nextBook_30 (by rfl) (by first | exact trivial | exact Or.inl trivial | exact Or.inr rfl | exact Or.inl rfl) ?_
    refine V_aret dX7_nextBook_31 rfl (by first | exact Or.inl ⟨_, rfl⟩ | exact Or.inr ⟨_, rfl⟩) (by decide) ⟨rfl, rfl⟩
set_option maxRecDepth 100000 in
set_option maxHeartbeats 4000000 in
theorem c_nextCopy {κ : Kx} (hκ : KOK κ) {d s : Nat} {G : Wd} (hS : SHa s) (hb : 0 ≤ G.1 s 4 ∧ G.1 s 4 < 8) (hd : 2 ≤ d) : Ct κ MX7_nextCopy d 0 0 [VR s] (Wm G) (fun v Ω' => v = some (VR (s + 37 + 2 * (G.1 s 4).toNat)) ∧ Ω' = Wm (lsEmpty (uI G s 4 (G.1 s 4 + 1)) (s + 37 + 2 * (G.1 s 4).toNat))) noX := by
  refine Ct_of hκ kX7_nextCopy.1 rfl (Nat.le_of_ble_eq_true rfl) (ls := [some (VR s), none]) rfl (fun μ => ?_)
  obtain ⟨h1, -⟩ := sh_facts hS
  have hk := (sh_copies hS (G.1 s 4).toNat (by omega)).2
  refine V_ex sX7_nextCopy_0 (by simp only [Option.toList, List.cons_append, List.nil_append, exN, ex1, gI, gL, gR, pI, pL, pR, lget, lset1, lset2, kl, b2I, b2L, nob, ob32, ob64, xGet, xPut, xLen, xLd, xLdR, xSt, obA, true_and, and_true, and_self, eq_self, Nat.reduceEqDiff, Nat.zero_ne_one, reduceIte, Nat.reduceLeDiff, and_false, false_and, show skd 6 4 = 0 from rfl, h1, upd2_same, Int.add_sub_cancel]; rfl) (by first | exact trivial | exact Or.inl trivial | exact Or.inr rfl | exact Or.inl rfl) ?_
  refine V_callV (M := MX7_nextCopy) (N := MX7_missingOf) (As := [VI (G.1 s 4)]) (rest := []) dX7_nextCopy_17 lRX7_60 kX7_missingOf rfl (h1) rfl (c_missingOf (d := 0) hκ hS (by unfold R32; omega) (by show R32 (upd2 _ _ _ _ _ _); rw [upd2_same]; unfold R32; omega)) rfl rfl (Nat.le_of_ble_eq_true rfl) (fit_rm (by omega)) (⟨Nat.le_refl _, Nat.le_refl _⟩) (fun v Ω' hp => ?_) (fun _ _ h => h.elim)
  obtain ⟨rfl, rfl⟩ := hp
  have e : cpAt (upd2 G.1 s 4 (G.1 s 4 + 1), G.2) s (G.1 s 4) = s + 37 + 2 * (G.1 s 4).toNat := by
    rw [cpAt, if_pos]; show 0 ≤ G.1 s 4 ∧ G.1 s 4 < upd2 _ _ _ _ _ _ ∧ _; rw [upd2_same]; omega
  rw [e]
  refine V_ex sX7_nextCopy_20 (by rfl) (by first | exact trivial | exact Or.inl trivial | exact Or.inr rfl | exact Or.inl rfl) ?_
  refine V_ifnull dX7_nextCopy_22 (tgt := 29) (by decide) (fun q => ?_) (fun q => ?_)
  · exact absurd q (by omega)
  · refine V_ex sX7_nextCopy_25 (by rfl) (by first | exact trivial | exact Or.inl trivial | exact Or.inr rfl | exact Or.inl rfl) ?_
    refine V_callV (M := MX7_nextCopy) (N := MX5_empty) (As := []) (rest := []) dX7_nextCopy_26 lRX7_64 kX5_empty rfl (hk.1) rfl (c_empty (d := 0) hκ hk) rfl rfl (Nat.le_of_ble_eq_true rfl) (fit_rm (by omega)) (⟨Nat.le_refl _, Nat.le_refl _⟩) (fun v Ω' hp => ?_) (fun _ _ h => h.elim)
    obtain ⟨rfl, rfl⟩ := hp
    refine V_ex sX7_nextCopy_29 (by rfl) (by first | exact trivial | exact Or.inl trivial | exact Or.inr rfl | exact Or.inl rfl) ?_
    refine V_aret dX7_nextCopy_30 rfl (by first | exact Or.inl ⟨_, rfl⟩ | exact Or.inr ⟨_, rfl⟩) (by decide) ⟨rfl, rfl⟩
set_option maxRecDepth 100000 in
set_option maxHeartbeats 4000000 in
theorem c_tellCopyOf {κ : Kx} (hκ : KOK κ) {d s : Nat} {z : Int} {G : Wd} (hS : SHa s) (hb : 1 ≤ G.1 s 4 ∧ G.1 s 4 ≤ 8) (hd : 1 ≤ d) : Ct κ MX7_tellCopyOf d 0 0 [VR s, VI z] (Wm G) (voidG (uI G (s + 2) (G.1 s 4 - 1).toNat z)) noX := by
  refine Ct_of hκ kX7_tellCopyOf.1 rfl (Nat.le_of_ble_eq_true rfl) (ls := [some (VR s), some (VI z)]) rfl (fun μ => ?_)
  obtain ⟨h1, -, -, h2, h3, -⟩ := sh_facts hS
  refine V_ex sX7_tellCopyOf_0 (by simp only [Option.toList, List.cons_append, List.nil_append, exN, ex1, gI, gL, gR, pI, pL, pR, lget, lset1, lset2, kl, b2I, b2L, nob, ob32, ob64, xGet, xPut, xLen, xLd, xLdR, xSt, obA, true_and, and_true, and_self, eq_self, Nat.reduceEqDiff, Nat.zero_ne_one, reduceIte, Nat.reduceLeDiff, and_false, false_and, show skd 6 2 = 2 from rfl, show skd 6 4 = 0 from rfl, h1, h2]; rfl) (by first | exact trivial | exact Or.inl trivial | exact Or.inr rfl | exact Or.inl rfl) ?_
  refine V_callSN (M := MX7_tellCopyOf) (N := MX11_setAt) (As := [VR (s + 2), VI (G.1 s 4 - 1), VI z]) (rest := []) dX7_tellCopyOf_11 lRX7_67 kX11_setAt rfl (c_setAt (d := 0) hκ h3 (by decide) (by unfold R32; omega)) rfl rfl (Nat.le_of_ble_eq_true rfl) (fit_rm (by omega)) (⟨Nat.le_refl _, Nat.le_refl _⟩) (fun v Ω' hp => ?_) (fun _ _ h => h.elim)
  obtain ⟨rfl, rfl⟩ := hp
  rw [rSet, if_pos ⟨by omega, by omega⟩]
  refine V_vret dX7_tellCopyOf_14 rfl (by decide) ⟨rfl, rfl⟩
set_option maxRecDepth 100000 in
set_option maxHeartbeats 4000000 in
theorem c_tellLead {κ : Kx} (hκ : KOK κ) {d s : Nat} {f z : Int} {G : Wd} (hS : SHa s) (hf : 0 ≤ f ∧ f < 10) (hd : 1 ≤ d) : Ct κ MX7_tellLead d 0 0 [VR s, VI f, VI z] (Wm G) (voidG (uI G (s + 4) f.toNat z)) noX := by
  refine Ct_of hκ kX7_tellLead.1 rfl (Nat.le_of_ble_eq_true rfl) (ls := [some (VR s), some (VI f), some (VI z)]) rfl (fun μ => ?_)
  obtain ⟨h1, -, -, -, -, -, -, h2, h3, -⟩ := sh_facts hS
  refine V_ex sX7_tellLead_0 (by simp only [Option.toList, List.cons_append, List.nil_append, exN, ex1, gI, gL, gR, pI, pL, pR, lget, lset1, lset2, kl, b2I, b2L, nob, ob32, ob64, xGet, xPut, xLen, xLd, xLdR, xSt, obA, true_and, and_true, and_self, eq_self, Nat.reduceEqDiff, Nat.zero_ne_one, reduceIte, Nat.reduceLeDiff, and_false, false_and, show skd 6 5 = 2 from rfl, h1, h2]; rfl) (by first | exact trivial | exact Or.inl trivial | exact Or.inr rfl | exact Or.inl rfl) ?_
  refine V_callSN (M := MX7_tellLead) (N := MX11_setAt) (As := [VR (s + 4), VI f, VI z]) (rest := []) dX7_tellLead_6 lRX7_67 kX11_setAt rfl (c_setAt (d := 0) hκ h3 (by decide) (by unfold R32; omega)) rfl rfl (Nat.le_of_ble_eq_true rfl) (fit_rm (by omega)) (⟨Nat.le_refl _, Nat.le_refl _⟩) (fun v Ω' hp => ?_) (fun _ _ h => h.elim)
  obtain ⟨rfl, rfl⟩ := hp
  rw [rSet, if_pos ⟨by omega, by omega⟩]
  refine V_vret dX7_tellLead_9 rfl (by decide) ⟨rfl, rfl⟩
set_option maxRecDepth 100000 in
set_option maxHeartbeats 4000000 in
theorem c_write {κ : Kx} (hκ : KOK κ) {d s : Nat} {z : Int} {G : Wd} (hS : SHa s) (hb : 0 ≤ G.1 s 8 ∧ G.1 s 8 < 500) (hd : 1 ≤ d) : Ct κ MX7_write d 0 0 [VR s, VI z] (Wm G) (voidG (uI (uI G (s + 5) (G.1 s 8).toNat z) s 8 (G.1 s 8 + 1))) noX := by
  refine Ct_of hκ kX7_write.1 rfl (Nat.le_of_ble_eq_true rfl) (ls := [some (VR s), some (VI z)]) rfl (fun μ => ?_)
  obtain ⟨h1, -, -, -, -, -, -, -, -, h2, h3, -⟩ := sh_facts hS
  refine V_ex sX7_write_0 (by simp only [Option.toList, List.cons_append, List.nil_append, exN, ex1, gI, gL, gR, pI, pL, pR, lget, lset1, lset2, kl, b2I, b2L, nob, ob32, ob64, xGet, xPut, xLen, xLd, xLdR, xSt, obA, true_and, and_true, and_self, eq_self, Nat.reduceEqDiff, Nat.zero_ne_one, reduceIte, Nat.reduceLeDiff, and_false, false_and, show skd 6 7 = 2 from rfl, show skd 6 8 = 0 from rfl, h1, h2]; rfl) (by first | exact trivial | exact Or.inl trivial | exact Or.inr rfl | exact Or.inl rfl) ?_
  refine V_callSN (M := MX7_write) (N := MX11_setAt) (As := [VR (s + 5), VI (G.1 s 8), VI z]) (rest := []) dX7_write_9 lRX7_67 kX11_setAt rfl (c_setAt (d := 0) hκ h3 (by decide) (by unfold R32; omega)) rfl rfl (Nat.le_of_ble_eq_true rfl) (fit_rm (by omega)) (⟨Nat.le_refl _, Nat.le_refl _⟩) (fun v Ω' hp => ?_) (fun _ _ h => h.elim)
  obtain ⟨rfl, rfl⟩ := hp
  rw [rSet, if_pos ⟨by omega, by omega⟩]
  have e : upd2 G.1 (s + 5) (G.1 s 8).toNat z s 8 = G.1 s 8 := by rw [upd2_ne z (by omega)]
  refine V_ex sX7_write_12 (by simp only [Option.toList, List.cons_append, List.nil_append, exN, ex1, gI, gL, gR, pI, pL, pR, lget, lset1, lset2, kl, b2I, b2L, nob, ob32, ob64, xGet, xPut, xLen, xLd, xLdR, xSt, obA, true_and, and_true, and_self, eq_self, Nat.reduceEqDiff, Nat.zero_ne_one, reduceIte, Nat.reduceLeDiff, and_false, false_and, show skd 6 8 = 0 from rfl, h1, e]; rfl) (by first | exact trivial | exact Or.inl trivial | exact Or.inr rfl | exact Or.inl rfl) ?_
  refine V_vret dX7_write_22 rfl (by decide) ⟨rfl, rfl⟩
/-- the copies of a book that have a leaf, as bits -/
def cwB (G : Wd) (s : Nat) (book leaf : Int) : Nat → Nat → Int → Int
  | 0, _, w => w
  | k + 1, c, w => cwB G s book leaf k (c + 1) (if G.1 (s + 2) c = book ∧ lsHas (G.1 (s + 37 + 2 * c + 1)) leaf = false then iOr w (iShl 1 (c : Nat)) else w)
set_option maxRecDepth 100000 in
set_option maxHeartbeats 4000000 in
theorem c_copiesWith {κ : Kx} (hκ : KOK κ) {d s : Nat} {b l : Int} {G : Wd} (hS : SHa s) (hb : R32 b) (hl : R32 l) (hc : ∀ j, R32 (G.1 (s + 2) j)) (hm : 0 ≤ G.1 s 4 ∧ G.1 s 4 ≤ 8) (hd : 2 ≤ d) : Ct κ MX7_copiesWith d 0 0 [VR s, VI b, VI l] (Wm G) (keepG G (VI (cwB G s b l (G.1 s 4).toNat 0 0))) noX := by
  refine Ct_of hκ kX7_copiesWith.1 rfl (Nat.le_of_ble_eq_true rfl) (ls := [some (VR s), some (VI b), some (VI l), none, none, none]) rfl (fun μ => ?_)
  obtain ⟨h1, -, -, h2, h3, -⟩ := sh_facts hS
  refine V_ex sX7_copiesWith_0 (by rfl) (by first | exact trivial | exact Or.inl trivial | exact Or.inr rfl | exact Or.inl rfl) ?_
  suffices L : ∀ (k : Nat) (c : Nat) (w i : Int) (x : Option Vl), i = (c : Int) → (c : Int) + k = G.1 s 4 → cwB G s b l k c w = cwB G s b l (G.1 s 4).toNat 0 0 → V κ MX7_copiesWith (rmD d 0 0) (keepG G (VI (cwB G s b l (G.1 s 4).toNat 0 0))) noX 0 0 μ 0 0 (Wm G) 5 [some (VR s), some (VI b), some (VI l), some (VI w), some (VI i), x] [] from L (G.1 s 4).toNat 0 0 0 _ rfl (by omega) rfl
  intro k
  induction k with
  | zero =>
    intro c w i x hi hk he
    refine V_ex sX7_copiesWith_5 (by simp only [Option.toList, List.cons_append, List.nil_append, exN, ex1, gI, gL, gR, pI, pL, pR, lget, lset1, lset2, kl, b2I, b2L, nob, ob32, ob64, xGet, xPut, xLen, xLd, xLdR, xSt, obA, true_and, and_true, and_self, eq_self, Nat.reduceEqDiff, Nat.zero_ne_one, reduceIte, Nat.reduceLeDiff, and_false, false_and, show skd 6 4 = 0 from rfl, h1]; rfl) (by first | exact trivial | exact Or.inl trivial | exact Or.inr rfl | exact Or.inl rfl) ?_
    refine V_icmpge dX7_copiesWith_11 (tgt := 62) (by decide) (by unfold R32; constructor <;> omega) (fun q => ?_) (fun q => ?_)
    · refine V_ex sX7_copiesWith_62 (by rfl) (by first | exact trivial | exact Or.inl trivial | exact Or.inr rfl | exact Or.inl rfl) ?_
      refine V_iret dX7_copiesWith_63 rfl (by decide) ⟨by rw [← he]; rfl, rfl⟩
    · omega
  | succ k ih =>
    intro c w i x hi hk he
    have hk2 := (sh_copies hS c (by omega)).2
    rw [cwB] at he
    refine V_ex sX7_copiesWith_5 (by simp only [Option.toList, List.cons_append, List.nil_append, exN, ex1, gI, gL, gR, pI, pL, pR, lget, lset1, lset2, kl, b2I, b2L, nob, ob32, ob64, xGet, xPut, xLen, xLd, xLdR, xSt, obA, true_and, and_true, and_self, eq_self, Nat.reduceEqDiff, Nat.zero_ne_one, reduceIte, Nat.reduceLeDiff, and_false, false_and, show skd 6 4 = 0 from rfl, h1]; rfl) (by first | exact trivial | exact Or.inl trivial | exact Or.inr rfl | exact Or.inl rfl) ?_
    refine V_icmpge dX7_copiesWith_11 (tgt := 62) (by decide) (by unfold R32; constructor <;> omega) (fun q => ?_) (fun q => ?_)
    · omega
    · have next : ∀ w2 y, w2 = (if G.1 (s + 2) c = b ∧ lsHas (G.1 (s + 37 + 2 * c + 1)) l = false then iOr w (iShl 1 (c : Nat)) else w) → V κ MX7_copiesWith (rmD d 0 0) (keepG G (VI (cwB G s b l (G.1 s 4).toNat 0 0))) noX 0 0 μ 0 0 (Wm G) 56 [some (VR s), some (VI b), some (VI l), some (VI w2), some (VI i), y] [] := fun w2 y hw => by
        refine V_ex sX7_copiesWith_56 (by rfl) (by first | exact trivial | exact Or.inl trivial | exact Or.inr rfl | exact Or.inl rfl) ?_
        refine V_goto dX7_copiesWith_59 (tgt := 5) (by decide) ?_
        exact ih (c + 1) _ _ _ (by omega) (by omega) (by rw [hw]; exact he)
      refine V_ex sX7_copiesWith_14 (by rfl) (by first | exact trivial | exact Or.inl trivial | exact Or.inr rfl | exact Or.inl rfl) ?_
      refine V_callV (M := MX7_copiesWith) (N := MX7_missingOf) (As := [VI i]) (rest := []) dX7_copiesWith_17 lRX7_60 kX7_missingOf rfl (h1) rfl (c_missingOf (d := 0) hκ hS (by unfold R32; omega) (by unfold R32; omega)) rfl rfl (Nat.le_of_ble_eq_true rfl) (fit_rm (by omega)) (⟨Nat.le_refl _, Nat.le_refl _⟩) (fun v Ω' hp => ?_) (fun _ _ h => h.elim)
      obtain ⟨rfl, rfl⟩ := hp
      have e : cpAt G s i = s + 37 + 2 * c := by rw [cpAt, if_pos ⟨by omega, by omega, by omega⟩, hi]; rfl
      rw [e]
      refine V_ex sX7_copiesWith_20 (by rfl) (by first | exact trivial | exact Or.inl trivial | exact Or.inr rfl | exact Or.inl rfl) ?_
      refine V_ifnull dX7_copiesWith_24 (tgt := 56) (by decide) (fun q => ?_) (fun q => ?_)
      · exact absurd q (by omega)
      · refine V_ex sX7_copiesWith_27 (by simp only [Option.toList, List.cons_append, List.nil_append, exN, ex1, gI, gL, gR, pI, pL, pR, lget, lset1, lset2, kl, b2I, b2L, nob, ob32, ob64, xGet, xPut, xLen, xLd, xLdR, xSt, obA, true_and, and_true, and_self, eq_self, Nat.reduceEqDiff, Nat.zero_ne_one, reduceIte, Nat.reduceLeDiff, and_false, false_and, show skd 6 2 = 2 from rfl, h1, h2]; rfl) (by first | exact trivial | exact Or.inl trivial | exact Or.inr rfl | exact Or.inl rfl) ?_
        refine V_callSN (M := MX7_copiesWith) (N := MX11_at) (As := [VR (s + 2), VI i]) (rest := []) dX7_copiesWith_33 lRX7_71 kX11_at rfl (c_at (d := 0) hκ h3 (by decide) (by unfold R32; omega)) rfl rfl (Nat.le_of_ble_eq_true rfl) (fit_rm (by omega)) (⟨Nat.le_refl _, Nat.le_refl _⟩) (fun v Ω' hp => ?_) (fun _ _ h => h.elim)
        obtain ⟨rfl, rfl⟩ := hp
        rw [rAt, if_pos ⟨by omega, by omega⟩, show i.toNat = c by omega]
        refine V_ex sX7_copiesWith_36 (by rfl) (by first | exact trivial | exact Or.inl trivial | exact Or.inr rfl | exact Or.inl rfl) ?_
        refine V_icmpne dX7_copiesWith_37 (tgt := 56) (by decide) (by exact ⟨hc _, hb⟩) (fun q2 => ?_) (fun q2 => ?_)
        · exact next _ _ (by rw [if_neg (fun h => q2 h.1)])
        · refine V_ex sX7_copiesWith_40 (by rfl) (by first | exact trivial | exact Or.inl trivial | exact Or.inr rfl | exact Or.inl rfl) ?_
          refine V_callV (M := MX7_copiesWith) (N := MX5_has) (As := [VI l]) (rest := []) dX7_copiesWith_43 lRX7_75 kX5_has rfl (hk2.1) rfl (c_has (d := 0) hκ hk2 hl) rfl rfl (Nat.le_of_ble_eq_true rfl) (fit_rm (by omega)) (⟨Nat.le_refl _, Nat.le_refl _⟩) (fun v Ω' hp => ?_) (fun _ _ h => h.elim)
          obtain ⟨rfl, rfl⟩ := hp
          refine V_ifneB dX7_copiesWith_46 (tgt := 56) (by decide) (fun q3 => ?_) (fun q3 => ?_)
          · exact next _ _ (by rw [if_neg (by rw [q3]; simp)])
          · refine V_ex sX7_copiesWith_49 (by rfl) (by first | exact trivial | exact Or.inl trivial | exact Or.inr rfl | exact Or.inl rfl) ?_
            exact next _ _ (by rw [if_pos ⟨q2, q3⟩, hi])
