/-! TornLeaves: needPage, needLeaf, fault, isSeen, isThere -/
theorem bk_in {G : Wd} {s : Nat} {i : Int} (hS : SHa s) (h : bkAt G s i ≠ 0) : BKa (bkAt G s i) ∧ (0 ≤ i ∧ i < G.1 s 1 ∧ i < 6) ∧ bkAt G s i = s + 7 + 5 * i.toNat := by
  unfold bkAt at h ⊢
  by_cases c : 0 ≤ i ∧ i < G.1 s 1 ∧ i < 6
  · simp only [if_pos c]
    exact ⟨(sh_books hS i.toNat (by omega)).2, c, trivial⟩
  · rw [if_neg c] at h; exact absurd rfl h
def hasP (G : Wd) (s : Nat) (i p : Int) : Prop := bkAt G s i ≠ 0 ∧ 1 ≤ p ∧ p ≤ 2 * G.1 (bkAt G s i) 1
def hasL (G : Wd) (s : Nat) (i l : Int) : Prop := bkAt G s i ≠ 0 ∧ 0 ≤ l ∧ l < G.1 (bkAt G s i) 1
set_option maxRecDepth 100000 in
set_option maxHeartbeats 4000000 in
theorem c_needPage {κ : Kx} (hκ : KOK κ) {d s : Nat} {i p : Int} {G : Wd} (hn : G.2.2 1 3 = s) (hS : SHa s) (hi : R32 i) (hp : R32 p) (hb : R32 (G.1 s 1)) (hl : ∀ j, j < 6 → 0 ≤ G.1 (s + 7 + 5 * j) 1 ∧ G.1 (s + 7 + 5 * j) 1 ≤ 100000) (hd : 7 ≤ d) : Ct κ MX11_needPage d 2 12 [VR 1, VI i, VI p] (Wm G) (fun v Ω' => hasP G s i p ∧ keepG G (VR (bkAt G s i)) v Ω') (exE (¬ hasP G s i p) NSE G) := by
  refine Ct_of hκ kX11_needPage.1 rfl (Nat.le_of_ble_eq_true rfl) (ls := [some (VR 1), some (VI i), some (VI p), none]) rfl (fun μ => ?_)
  refine V_ex sX11_needPage_0 (by rfl) (by first | exact trivial | exact Or.inl trivial | exact Or.inr rfl | exact Or.inl rfl) ?_
  refine V_callV (M := MX11_needPage) (N := MX11_needBook) (As := [VI i]) (rest := []) dX11_needPage_2 lRX11_154 kX11_needBook rfl (rfl) rfl (c_needBook (d := 6) hκ hn hS hi hb (by omega)) rfl rfl (Nat.le_of_ble_eq_true rfl) (fit_rm (by omega)) (⟨Nat.le_of_ble_eq_true rfl, Nat.le_of_ble_eq_true rfl⟩) (fun v Ω' hp2 => ?_) (fun E Ω' h => ⟨⟨fun hh => hh.1 h.1, h.2.1, h.2.2⟩, rfl, Nat.le_of_ble_eq_true rfl, Nat.le_of_ble_eq_true rfl⟩)
  obtain ⟨hne, rfl, rfl⟩ := hp2
  obtain ⟨hB, hin, hbk⟩ := bk_in hS hne
  have hl2 := hl i.toNat (by omega)
  rw [← hbk] at hl2
  refine V_ex sX11_needPage_5 (by rfl) (by first | exact trivial | exact Or.inl trivial | exact Or.inr rfl | exact Or.inl rfl) ?_
  refine V_callV (M := MX11_needPage) (N := MX0_hasPage) (As := [VI p]) (rest := []) dX11_needPage_8 lRX11_165 kX0_hasPage rfl (hB.1) rfl (c_hasPage (d := 5) hκ hB hp hl2) rfl rfl (Nat.le_of_ble_eq_true rfl) (fit_rm (by omega)) (⟨Nat.le_of_ble_eq_true rfl, Nat.le_of_ble_eq_true rfl⟩) (fun v Ω' hp2 => ?_) (fun _ _ h => h.elim)
  obtain ⟨rfl, rfl⟩ := hp2
  refine V_ifneB dX11_needPage_11 (tgt := 24) (by decide) (fun q => ?_) (fun q => ?_)
  · refine V_ex sX11_needPage_24 (by rfl) (by first | exact trivial | exact Or.inl trivial | exact Or.inr rfl | exact Or.inl rfl) ?_
    refine V_aret dX11_needPage_25 rfl (by first | exact Or.inl ⟨_, rfl⟩ | exact Or.inr ⟨_, rfl⟩) (by decide) ⟨⟨hne, of_decide_eq_true q⟩, rfl, rfl⟩
  · refine V_throw (M := MX11_needPage) (is := 168) (text := "no such page") tC_nse (by decide +kernel) dX11_needPage_14 (by decide +kernel) dX11_needPage_18 dX11_needPage_20 dX11_needPage_23 rfl (Nat.le_of_ble_eq_true rfl) ⟨by show 6 ≤ d; omega, by show 100 ≤ 100 + 40 * d; omega⟩ ⟨Nat.le_of_ble_eq_true rfl, Nat.le_of_ble_eq_true rfl⟩ ⟨Nat.le_of_ble_eq_true rfl, Nat.le_of_ble_eq_true rfl⟩ ⟨fun hh => (of_decide_eq_false q) hh.2, rfl, rfl⟩
set_option maxRecDepth 100000 in
set_option maxHeartbeats 4000000 in
theorem c_needLeaf {κ : Kx} (hκ : KOK κ) {d s : Nat} {i p : Int} {G : Wd} (hn : G.2.2 1 3 = s) (hS : SHa s) (hi : R32 i) (hp : R32 p) (hb : R32 (G.1 s 1)) (hl : ∀ j, j < 6 → 0 ≤ G.1 (s + 7 + 5 * j) 1 ∧ G.1 (s + 7 + 5 * j) 1 ≤ 100000) (hd : 7 ≤ d) : Ct κ MX11_needLeaf d 2 12 [VR 1, VI i, VI p] (Wm G) (fun v Ω' => hasL G s i p ∧ keepG G (VR (bkAt G s i)) v Ω') (exE (¬ hasL G s i p) NSE G) := by
  refine Ct_of hκ kX11_needLeaf.1 rfl (Nat.le_of_ble_eq_true rfl) (ls := [some (VR 1), some (VI i), some (VI p), none]) rfl (fun μ => ?_)
  refine V_ex sX11_needLeaf_0 (by rfl) (by first | exact trivial | exact Or.inl trivial | exact Or.inr rfl | exact Or.inl rfl) ?_
  refine V_callV (M := MX11_needLeaf) (N := MX11_needBook) (As := [VI i]) (rest := []) dX11_needLeaf_2 lRX11_154 kX11_needBook rfl (rfl) rfl (c_needBook (d := 6) hκ hn hS hi hb (by omega)) rfl rfl (Nat.le_of_ble_eq_true rfl) (fit_rm (by omega)) (⟨Nat.le_of_ble_eq_true rfl, Nat.le_of_ble_eq_true rfl⟩) (fun v Ω' hp2 => ?_) (fun E Ω' h => ⟨⟨fun hh => hh.1 h.1, h.2.1, h.2.2⟩, rfl, Nat.le_of_ble_eq_true rfl, Nat.le_of_ble_eq_true rfl⟩)
  obtain ⟨hne, rfl, rfl⟩ := hp2
  obtain ⟨hB, hin, hbk⟩ := bk_in hS hne
  have hl2 := hl i.toNat (by omega)
  rw [← hbk] at hl2
  refine V_ex sX11_needLeaf_5 (by rfl) (by first | exact trivial | exact Or.inl trivial | exact Or.inr rfl | exact Or.inl rfl) ?_
  refine V_callV (M := MX11_needLeaf) (N := MX0_hasLeaf) (As := [VI p]) (rest := []) dX11_needLeaf_8 lRX11_157 kX0_hasLeaf rfl (hB.1) rfl (c_hasLeaf (d := 5) hκ hB hp (by unfold R32; omega)) rfl rfl (Nat.le_of_ble_eq_true rfl) (fit_rm (by omega)) (⟨Nat.le_of_ble_eq_true rfl, Nat.le_of_ble_eq_true rfl⟩) (fun v Ω' hp2 => ?_) (fun _ _ h => h.elim)
  obtain ⟨rfl, rfl⟩ := hp2
  refine V_ifneB dX11_needLeaf_11 (tgt := 24) (by decide) (fun q => ?_) (fun q => ?_)
  · refine V_ex sX11_needLeaf_24 (by rfl) (by first | exact trivial | exact Or.inl trivial | exact Or.inr rfl | exact Or.inl rfl) ?_
    refine V_aret dX11_needLeaf_25 rfl (by first | exact Or.inl ⟨_, rfl⟩ | exact Or.inr ⟨_, rfl⟩) (by decide) ⟨⟨hne, of_decide_eq_true q⟩, rfl, rfl⟩
  · refine V_throw (M := MX11_needLeaf) (is := 163) (text := "no such leaf") tC_nse (by decide +kernel) dX11_needLeaf_14 (by decide +kernel) dX11_needLeaf_18 dX11_needLeaf_20 dX11_needLeaf_23 rfl (Nat.le_of_ble_eq_true rfl) ⟨by show 6 ≤ d; omega, by show 100 ≤ 100 + 40 * d; omega⟩ ⟨Nat.le_of_ble_eq_true rfl, Nat.le_of_ble_eq_true rfl⟩ ⟨Nat.le_of_ble_eq_true rfl, Nat.le_of_ble_eq_true rfl⟩ ⟨fun hh => (of_decide_eq_false q) hh.2, rfl, rfl⟩
set_option maxRecDepth 100000 in
set_option maxHeartbeats 4000000 in
theorem c_fault {κ : Kx} (hκ : KOK κ) {d : Nat} {G : Wd} : Ct κ MX11_fault d 0 0 [VR 1] (Wm G) (keepG G (VI (G.1 1 5))) noX := by
  refine Ct_of hκ kX11_fault.1 rfl (Nat.le_of_ble_eq_true rfl) (ls := [some (VR 1)]) rfl (fun μ => ?_)
  refine V_ex sX11_fault_0 (by simp only [Option.toList, List.cons_append, List.nil_append, exN, ex1, gI, gL, gR, pI, pL, pR, lget, lset1, lset2, kl, b2I, b2L, nob, ob32, ob64, xGet, xPut, xLen, xLd, xLdR, xSt, obA, true_and, and_true, and_self, eq_self, Nat.reduceEqDiff, Nat.zero_ne_one, reduceIte, Nat.reduceLeDiff, and_false, false_and, show skd 10 5 = 0 from rfl, show LF.1 1 = some (.inl 10) from rfl]; rfl) (by first | exact trivial | exact Or.inl trivial | exact Or.inr rfl | exact Or.inl rfl) ?_
  refine V_iret dX11_fault_4 rfl (by decide) ⟨rfl, rfl⟩
set_option maxRecDepth 100000 in
set_option maxHeartbeats 4000000 in
theorem c_isThere {κ : Kx} (hκ : KOK κ) {d s : Nat} {i l : Int} {G : Wd} (hn : G.2.2 1 3 = s) (hS : SHa s) (hi : R32 i) (hp : R32 l) (hb : R32 (G.1 s 1)) (hl : ∀ j, j < 6 → 0 ≤ G.1 (s + 7 + 5 * j) 1 ∧ G.1 (s + 7 + 5 * j) 1 ≤ 100000) (hd : 8 ≤ d) : Ct κ MX11_isThere d 2 12 [VR 1, VI i, VI l] (Wm G) (fun v Ω' => hasL G s i l ∧ keepG G (VI (b2i (!(lsHas (G.1 (bkAt G s i + 2)) l)))) v Ω') (exE (¬ hasL G s i l) NSE G) := by
  refine Ct_of hκ kX11_isThere.1 rfl (Nat.le_of_ble_eq_true rfl) (ls := [some (VR 1), some (VI i), some (VI l)]) rfl (fun μ => ?_)
  refine V_ex sX11_isThere_0 (by rfl) (by first | exact trivial | exact Or.inl trivial | exact Or.inr rfl | exact Or.inl rfl) ?_
  refine V_callV (M := MX11_isThere) (N := MX11_needLeaf) (As := [VI i, VI l]) (rest := []) dX11_isThere_3 lRX11_198 kX11_needLeaf rfl (rfl) rfl (c_needLeaf (d := 7) hκ hn hS hi hp hb hl (by omega)) rfl rfl (Nat.le_of_ble_eq_true rfl) (fit_rm (by omega)) (⟨Nat.le_of_ble_eq_true rfl, Nat.le_of_ble_eq_true rfl⟩) (fun v Ω' hp2 => ?_) (fun E Ω' h => ⟨h, rfl, Nat.le_of_ble_eq_true rfl, Nat.le_of_ble_eq_true rfl⟩)
  obtain ⟨hL, rfl, rfl⟩ := hp2
  obtain ⟨hB, hin, hbk⟩ := bk_in hS hL.1
  refine V_ex sX11_isThere_6 (by simp only [Option.toList, List.cons_append, List.nil_append, exN, ex1, gI, gL, gR, pI, pL, pR, lget, lset1, lset2, kl, b2I, b2L, nob, ob32, ob64, xGet, xPut, xLen, xLd, xLdR, xSt, obA, true_and, and_true, and_self, eq_self, Nat.reduceEqDiff, Nat.zero_ne_one, reduceIte, Nat.reduceLeDiff, and_false, false_and, show skd 0 5 = 2 from rfl, hB.1, hB.2.1]; rfl) (by first | exact trivial | exact Or.inl trivial | exact Or.inr rfl | exact Or.inl rfl) ?_
  refine V_callV (M := MX11_isThere) (N := MX5_has) (As := [VI l]) (rest := []) dX11_isThere_10 lRX11_202 kX5_has rfl (hB.2.2.1.1) rfl (c_has (d := 0) hκ hB.2.2.1 hp) rfl rfl (Nat.le_of_ble_eq_true rfl) (fit_rm (by omega)) (⟨Nat.le_of_ble_eq_true rfl, Nat.le_of_ble_eq_true rfl⟩) (fun v Ω' hp2 => ?_) (fun _ _ h => h.elim)
  obtain ⟨rfl, rfl⟩ := hp2
  refine V_ifneB dX11_isThere_13 (tgt := 20) (by decide) (fun q => ?_) (fun q => ?_)
  · refine V_ex sX11_isThere_20 (by rfl) (by first | exact trivial | exact Or.inl trivial | exact Or.inr rfl | exact Or.inl rfl) ?_
    refine V_zret dX11_isThere_21 rfl (by first | exact Or.inl rfl | exact Or.inr rfl | exact b2i_01 _) (by decide) ⟨hL, by rw [q]; rfl, rfl⟩
  · refine V_ex sX11_isThere_16 (by rfl) (by first | exact trivial | exact Or.inl trivial | exact Or.inr rfl | exact Or.inl rfl) ?_
    refine V_goto dX11_isThere_17 (tgt := 21) (by decide) ?_
    refine V_zret dX11_isThere_21 rfl (by first | exact Or.inl rfl | exact Or.inr rfl | exact b2i_01 _) (by decide) ⟨hL, by rw [q]; rfl, rfl⟩
set_option maxRecDepth 100000 in
set_option maxHeartbeats 4000000 in
theorem c_isSeen {κ : Kx} (hκ : KOK κ) {d a : Nat} {b p : Int} {G : Wd} (hB : BKa a) (hb : R32 b) (hp1 : 1 ≤ p) (hp : R32 p) (h4 : ∀ j, R32 (G.1 118 j)) (h5 : ∀ j, R32 (G.1 119 j)) (hm : 0 ≤ G.1 114 9 ∧ G.1 114 9 ≤ 20) (hd : 2 ≤ d) : Ct κ MX11_isSeen d 0 0 [VR 1, VI b, VR a, VI p] (Wm G) (keepG G (VI (b2i (!(lsHas (G.1 (a + 2)) ((p - 1) / 2)) && !(stuckIn G 114 b (p / 2 - 1) (G.1 114 9).toNat 0))))) noX := by
  refine Ct_of hκ kX11_isSeen.1 rfl (Nat.le_of_ble_eq_true rfl) (ls := [some (VR 1), some (VI b), some (VR a), some (VI p)]) rfl (fun μ => ?_)
  refine V_ex sX11_isSeen_0 (by simp only [Option.toList, List.cons_append, List.nil_append, exN, ex1, gI, gL, gR, pI, pL, pR, lget, lset1, lset2, kl, b2I, b2L, nob, ob32, ob64, xGet, xPut, xLen, xLd, xLdR, xSt, obA, true_and, and_true, and_self, eq_self, Nat.reduceEqDiff, Nat.zero_ne_one, reduceIte, Nat.reduceLeDiff, and_false, false_and, show skd 0 5 = 2 from rfl, hB.1, hB.2.1]; rfl) (by first | exact trivial | exact Or.inl trivial | exact Or.inr rfl | exact Or.inl rfl) ?_
  refine V_callS (M := MX11_isSeen) (N := MX11_leafOf) (As := [VI p]) (rest := [VR (a + 1)]) dX11_isSeen_5 lRX11_245 kX11_leafOf rfl (c_leafOf (d := 1) hκ hp1 hp) rfl rfl (Nat.le_of_ble_eq_true rfl) (fit_rm (by omega)) (⟨Nat.le_of_ble_eq_true rfl, Nat.le_of_ble_eq_true rfl⟩) (fun v Ω' hp => ?_) (fun _ _ h => h.elim)
  obtain ⟨rfl, rfl⟩ := hp
  refine V_callV (M := MX11_isSeen) (N := MX5_has) (As := [VI ((p - 1) / 2)]) (rest := []) dX11_isSeen_8 lRX11_202 kX5_has rfl (hB.2.2.1.1) rfl (c_has (d := 1) hκ hB.2.2.1 (leaf := (p - 1) / 2) (by unfold R32 at *; omega)) rfl rfl (Nat.le_of_ble_eq_true rfl) (fit_rm (by omega)) (⟨Nat.le_of_ble_eq_true rfl, Nat.le_of_ble_eq_true rfl⟩) (fun v Ω' hp2 => ?_) (fun _ _ h => h.elim)
  obtain ⟨rfl, rfl⟩ := hp2
  refine V_ifneB dX11_isSeen_11 (tgt := 34) (by decide) (fun q => ?_) (fun q => ?_)
  · refine V_ex sX11_isSeen_34 (by rfl) (by first | exact trivial | exact Or.inl trivial | exact Or.inr rfl | exact Or.inl rfl) ?_
    refine V_zret dX11_isSeen_35 rfl (by first | exact Or.inl rfl | exact Or.inr rfl | exact b2i_01 _) (by decide) ⟨by rw [q]; rfl, rfl⟩
  · refine V_ex sX11_isSeen_14 (by simp only [Option.toList, List.cons_append, List.nil_append, exN, ex1, gI, gL, gR, pI, pL, pR, lget, lset1, lset2, kl, b2I, b2L, nob, ob32, ob64, xGet, xPut, xLen, xLd, xLdR, xSt, obA, true_and, and_true, and_self, eq_self, Nat.reduceEqDiff, Nat.zero_ne_one, reduceIte, Nat.reduceLeDiff, and_false, false_and, show skd 10 6 = 2 from rfl, show LF.1 1 = some (.inl 10) from rfl, show LF.2 1 6 = some 114 from rfl]; rfl) (by exact ⟨hp, by unfold R32; omega, by decide⟩) ?_
    rw [td_nn (by omega)]
    refine V_callV (M := MX11_isSeen) (N := MX2_isStuck) (As := [VI b, VI (p / 2 - 1)]) (rest := []) dX11_isSeen_24 lRX11_409 kX2_isStuck rfl (rfl) rfl (c_isStuck (d := 1) hκ (e := 114) (Or.inl rfl) hb (l := p / 2 - 1) (by unfold R32 at *; omega) h4 h5 hm (by omega)) rfl rfl (Nat.le_of_ble_eq_true rfl) (fit_rm (by omega)) (⟨Nat.le_of_ble_eq_true rfl, Nat.le_of_ble_eq_true rfl⟩) (fun v Ω' hp2 => ?_) (fun _ _ h => h.elim)
    obtain ⟨rfl, rfl⟩ := hp2
    refine V_ifneB dX11_isSeen_27 (tgt := 34) (by decide) (fun q2 => ?_) (fun q2 => ?_)
    · refine V_ex sX11_isSeen_34 (by rfl) (by first | exact trivial | exact Or.inl trivial | exact Or.inr rfl | exact Or.inl rfl) ?_
      refine V_zret dX11_isSeen_35 rfl (by first | exact Or.inl rfl | exact Or.inr rfl | exact b2i_01 _) (by decide) ⟨by rw [q, q2]; rfl, rfl⟩
    · refine V_ex sX11_isSeen_30 (by rfl) (by first | exact trivial | exact Or.inl trivial | exact Or.inr rfl | exact Or.inl rfl) ?_
      refine V_goto dX11_isSeen_31 (tgt := 35) (by decide) ?_
      refine V_zret dX11_isSeen_35 rfl (by first | exact Or.inl rfl | exact Or.inr rfl | exact b2i_01 _) (by decide) ⟨by rw [q, q2]; rfl, rfl⟩
set_option maxRecDepth 100000 in
set_option maxHeartbeats 4000000 in
theorem c_wrong {κ : Kx} (hκ : KOK κ) {d : Nat} {G : Wd} (hd : 1 ≤ d) : Ct κ MX11_wrong d 0 0 [VR 1] (Wm G) (fun v Ω' => v = some (VI (G.1 114 6)) ∧ Ω' = Wm (uI (uI G 114 5 0) 114 6 (-1))) noX := by
  refine Ct_of hκ kX11_wrong.1 rfl (Nat.le_of_ble_eq_true rfl) (ls := [some (VR 1), none]) rfl (fun μ => ?_)
  refine V_ex sX11_wrong_0 (by simp only [Option.toList, List.cons_append, List.nil_append, exN, ex1, gI, gL, gR, pI, pL, pR, lget, lset1, lset2, kl, b2I, b2L, nob, ob32, ob64, xGet, xPut, xLen, xLd, xLdR, xSt, obA, true_and, and_true, and_self, eq_self, Nat.reduceEqDiff, Nat.zero_ne_one, reduceIte, Nat.reduceLeDiff, and_false, false_and, show skd 10 6 = 2 from rfl, show skd 2 6 = 0 from rfl, show LF.1 1 = some (.inl 10) from rfl, show LF.2 1 6 = some 114 from rfl, show LF.1 114 = some (.inl 2) from rfl]; rfl) (by first | exact trivial | exact Or.inl trivial | exact Or.inr rfl | exact Or.inl rfl) ?_
  refine V_callV (M := MX11_wrong) (N := MX2_forgetAdded) (As := []) (rest := []) dX11_wrong_12 lRX11_305 kX2_forgetAdded rfl (rfl) rfl (c_forgetAdded (d := 0) hκ (e := 114) (Or.inl rfl)) rfl rfl (Nat.le_of_ble_eq_true rfl) (fit_rm (by omega)) (⟨Nat.le_of_ble_eq_true rfl, Nat.le_of_ble_eq_true rfl⟩) (fun v Ω' hp2 => ?_) (fun _ _ h => h.elim)
  obtain ⟨rfl, rfl⟩ := hp2
  refine V_ex sX11_wrong_15 (by rfl) (by first | exact trivial | exact Or.inl trivial | exact Or.inr rfl | exact Or.inl rfl) ?_
  refine V_iret dX11_wrong_16 rfl (by decide) ⟨rfl, rfl⟩
set_option maxRecDepth 100000 in
set_option maxHeartbeats 4000000 in
theorem c_loosen {κ : Kx} (hκ : KOK κ) {d : Nat} {G : Wd} (hm : 0 ≤ G.1 114 9 ∧ G.1 114 9 ≤ 20) : Ct κ MX11_loosen d 0 0 [VR 1] (Wm G) (fun v Ω' => if G.1 114 9 < 1 then keepG G (VI (-1)) v Ω' else v = some (VI (G.1 114 9 - 1)) ∧ Ω' = Wm (uI G 114 9 (G.1 114 9 - 1))) noX := by
  refine Ct_of hκ kX11_loosen.1 rfl (Nat.le_of_ble_eq_true rfl) (ls := [some (VR 1)]) rfl (fun μ => ?_)
  refine V_ex sX11_loosen_0 (by simp only [Option.toList, List.cons_append, List.nil_append, exN, ex1, gI, gL, gR, pI, pL, pR, lget, lset1, lset2, kl, b2I, b2L, nob, ob32, ob64, xGet, xPut, xLen, xLd, xLdR, xSt, obA, true_and, and_true, and_self, eq_self, Nat.reduceEqDiff, Nat.zero_ne_one, reduceIte, Nat.reduceLeDiff, and_false, false_and, show skd 10 6 = 2 from rfl, show skd 2 9 = 0 from rfl, show LF.1 1 = some (.inl 10) from rfl, show LF.2 1 6 = some 114 from rfl, show LF.1 114 = some (.inl 2) from rfl]; rfl) (by first | exact trivial | exact Or.inl trivial | exact Or.inr rfl | exact Or.inl rfl) ?_
  refine V_icmpge dX11_loosen_8 (tgt := 13) (by decide) (by unfold R32; omega) (fun q => ?_) (fun q => ?_)
  · refine V_ex sX11_loosen_13 (by simp only [Option.toList, List.cons_append, List.nil_append, exN, ex1, gI, gL, gR, pI, pL, pR, lget, lset1, lset2, kl, b2I, b2L, nob, ob32, ob64, xGet, xPut, xLen, xLd, xLdR, xSt, obA, true_and, and_true, and_self, eq_self, Nat.reduceEqDiff, Nat.zero_ne_one, reduceIte, Nat.reduceLeDiff, and_false, false_and, show skd 10 6 = 2 from rfl, show skd 2 9 = 0 from rfl, show LF.1 1 = some (.inl 10) from rfl, show LF.2 1 6 = some 114 from rfl, show LF.1 114 = some (.inl 2) from rfl, upd2_same]; rfl) (by first | exact trivial | exact Or.inl trivial | exact Or.inr rfl | exact Or.inl rfl) ?_
    refine V_iret dX11_loosen_33 rfl (by decide) (by rw [if_neg (by omega)]; exact ⟨rfl, rfl⟩)
  · refine V_ex sX11_loosen_11 (by rfl) (by first | exact trivial | exact Or.inl trivial | exact Or.inr rfl | exact Or.inl rfl) ?_
    refine V_iret dX11_loosen_12 rfl (by decide) (by rw [if_pos (by omega)]; exact ⟨rfl, rfl⟩)
