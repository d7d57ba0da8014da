/-! THE MODEL: a shelf is read -/
theorem pLine_lead {w v : Nat → Int} {i : Nat} {S : Sh} (h : (pLine w v i S).2.1 = 0) : (pLine w v i S).2.2.2.2.2.1 = (S.2.2.2.1 || decide (w i = 266)) := by
  unfold pLine at *
  by_cases h4 : w i = 264
  · rw [if_pos h4] at h ⊢
    have : decide (w i = 266) = false := decide_eq_false (by omega)
    rw [this, Bool.or_false]
    unfold pGone at *
    split
    · rfl
    · split <;> rfl
  · rw [if_neg h4] at h ⊢
    by_cases h5 : w i = 265
    · rw [if_pos h5] at h ⊢
      have : decide (w i = 266) = false := decide_eq_false (by omega)
      rw [this, Bool.or_false]
      unfold pCopy at *
      split
      · rfl
      · split <;> rfl
    · rw [if_neg h5] at h ⊢
      by_cases h6 : w i = 266
      · rw [if_pos h6] at h ⊢
        rw [decide_eq_true h6, Bool.or_true]
        unfold pLead at *
        split
        · rename_i c; rw [if_pos c] at h; exact absurd h (show ¬ (5 : Int) = 0 by decide)
        · rfl
      · rw [if_neg h6] at h ⊢
        rw [decide_eq_false h6, Bool.or_false]
        split
        · unfold pBook pBk2
          (repeat' split) <;> rfl
        · rfl
theorem pLns_end {w v : Nat → Int} (k : Nat) {i : Nat} {S : Sh} (h : w i ≠ -1) : pLns w v (k + 1) i S = if (pEnd w (pLine w v i S)).2.1 ≠ 0 then pEnd w (pLine w v i S) else pLns w v k (pEnd w (pLine w v i S)).1 (pEnd w (pLine w v i S)).2.2 := by
  rw [pLns, if_neg h]
  unfold pEnd
  by_cases a : (pLine w v i S).2.1 ≠ 0
  · rw [if_pos a, if_pos a, if_pos a]
  · rw [if_neg a, if_neg a]
    by_cases b : w (pLine w v i S).1 = 59
    · rw [if_pos b, if_pos b]
      rfl
    · rw [if_neg b, if_neg b, if_pos (show (1 : Int) ≠ 0 by decide)]
/-- the text is read: what is at the end -/
def shM (G : Wd) (n : Nat) (r : PS) : Option Vl → Om → Prop := fun u Ω' => u = some (VI r.2.1) ∧ ∃ G', Ω' = Wm G' ∧ G'.2 = G.2 ∧ (r.2.1 ≠ 0 → (∀ x j, ¬ up x j → ¬ (x = 145 ∧ (j = 2 ∨ j = 18 ∨ j = 20 ∨ j = 28)) → ¬ (x = 161 ∧ j = 0) → G'.1 x j = G.1 x j) ∧ G'.1 145 2 = 0 ∧ G'.1 145 18 = 0 ∧ G'.1 145 28 = (tkB (tk (G.1 162) n 0) r.1 : Nat) ∧ G'.1 161 0 = G.1 161 0 + 1) ∧ (r.2.1 = 0 → (∀ x j, ¬ (148 ≤ x ∧ x ≤ 160) → ¬ (x = 145 ∧ (j = 2 ∨ (18 ≤ j ∧ j ≤ 28) ∨ tkS j)) → G'.1 x j = G.1 x j) ∧ G'.1 145 2 = 0 ∧ G'.1 145 18 = 0 ∧ G'.1 145 28 = -1 ∧ G'.1 145 48 = 0 ∧ G'.1 145 57 = -1 ∧ G'.1 145 58 = -1 ∧ G'.1 145 34 = 0 ∧ G'.1 145 35 = 0 ∧ G'.1 145 36 = 0 ∧ G'.1 145 60 = 0 ∧ mS0 G' r.2.2)
/-- the shelf begins -/
def shB (G : Wd) (n : Nat) : Wd := uI (uI (uI (uI (uI (uI (uI (uI (uI G 145 2 0) 145 18 0) 145 20 (n : Nat)) 145 19 0) 145 26 0) 145 28 (-1)) 148 2 0) 148 3 0) 145 23 0
theorem shB_x {G : Wd} {n x j : Nat} (h : ¬ (x = 145 ∧ (j = 2 ∨ j = 18 ∨ j = 20 ∨ j = 19 ∨ j = 26 ∨ j = 28 ∨ j = 23))) (h2 : ¬ (x = 148 ∧ 2 ≤ j)) : (shB G n).1 x j = G.1 x j := by
  unfold shB
  rw [iv (by omega), iv (by omega), iv (by omega), iv (by omega), iv (by omega), iv (by omega), iv (by omega), iv (by omega), iv (by omega)]
theorem shB_5 (G : Wd) (n : Nat) : (shB G n).1 145 2 = 0 ∧ (shB G n).1 145 18 = 0 ∧ (shB G n).1 145 20 = (n : Nat) ∧ (shB G n).1 145 19 = 0 ∧ (shB G n).1 145 26 = 0 ∧ (shB G n).1 145 28 = -1 ∧ (shB G n).1 148 2 = 0 ∧ (shB G n).1 148 3 = 0 ∧ (shB G n).1 145 23 = 0 := by
  unfold shB
  refine ⟨?_, ?_, ?_, ?_, ?_, ?_, ?_, ?_, ?_⟩ <;> simp [upd2_eq]
theorem up_5 {j : Nat} (h : j = 2 ∨ j = 18 ∨ j = 20 ∨ j = 28) : ¬ up 145 j := by unfold up; omega
set_option maxRecDepth 100000 in
set_option maxHeartbeats 4000000 in
theorem c_mShelf {κ : Kx} (hκ : KOK κ) (hKS : KS κ) {d n : Nat} {tp : Int} {G : Wd} (htp : G.1 145 18 = tp) (htp5 : tp ≤ 500) (hn : (n : Int) ≤ tp) (hb : ∀ j, j < 500 → 0 ≤ G.1 162 j ∧ G.1 162 j ≤ 255) (hd : 48 ≤ d) : Ct κ MX12_shelf d 0 0 [VR 145, VI (n : Nat)] (Wm G) (shM G n (pTxt (G.1 162) n)) noX := by
  refine Ct_of hκ kX12_shelf.1 rfl (Nat.le_of_ble_eq_true rfl) (ls := [some (VR 145), some (VI (n : Nat)), none]) rfl (fun μ => ?_)
  have hf : ∀ j, j < n → 0 ≤ G.1 162 j ∧ G.1 162 j ≤ 255 := fun j hj => hb j (by omega)
  have hT := tk_pTok hf
  have hL1 := tk_len (G.1 162) n n 0 (by omega)
  have hpT : pTxt (G.1 162) n = pLns (tkW (tk (G.1 162) n 0)) (tkV (tk (G.1 162) n 0)) 501 0 sh0 := rfl
  have hfin := pLns_ok (v := tkV (tk (G.1 162) n 0)) hT 501 0 sh0 (by omega) (by omega) okSh0
  rw [← hpT] at hfin
  generalize hff : G.1 162 = f at *
  generalize pTxt f n = rr at *
  obtain ⟨z1, z2, z3, z4⟩ := hfin
  obtain ⟨y1, y2, y3, y4, y5, y6, y7, y8, y9⟩ := shB_5 G n
  -- the lead of 100 each
  have L1 : ∀ (k j : Nat) (jj : Int) (G1 : Wd), j + k = 10 → jj = (j : Int) → G1.2 = G.2 → (∀ x y, ¬ (x = 157 ∧ 10 ≤ y) → G1.1 x y = (shB G n).1 x y) → (∀ y, y < j → G1.1 157 (10 + y) = 100) → (∀ G2 : Wd, G2.2 = G.2 → (∀ x y, ¬ (x = 157 ∧ 10 ≤ y) → G2.1 x y = (shB G n).1 x y) → (∀ y, y < 10 → G2.1 157 (10 + y) = 100) → ∀ x, V κ MX12_shelf (rmD d 0 0) (shM G n rr) noX 0 0 μ 0 0 (Wm (G2)) 92 [some (VR 145), some (VI (n : Nat)), x] []) → V κ MX12_shelf (rmD d 0 0) (shM G n rr) noX 0 0 μ 0 0 (Wm (G1)) 69 [some (VR 145), some (VI (n : Nat)), some (VI jj)] [] := by
    intro k
    induction k with
    | zero =>
      intro j jj G1 hj hjj g2 gx gl kk
      refine V_ex sX12_shelf_69 (by rfl) (by first | exact trivial | exact Or.inr rfl | exact Or.inl rfl | (simp only [ob, obA, R32, R64] at *; omega) | (simp only [ob, obA, R32, R64] at *; and_intros <;> omega)) ?_
      refine V_icmpge dX12_shelf_72 (tgt := 92) (by decide) (by simp only [R32, R64] at *; omega) (fun q72 => ?_) (fun q72 => ?_)
      · exact kk G1 g2 gx (fun y hy => gl y (by omega)) _
      · omega
    | succ k ih =>
      intro j jj G1 hj hjj g2 gx gl kk
      subst hjj
      have e1 : ((10 : Int) + (j : Int)).toNat = 10 + j := by omega
      refine V_ex sX12_shelf_69 (by rfl) (by first | exact trivial | exact Or.inr rfl | exact Or.inl rfl | (simp only [ob, obA, R32, R64] at *; omega) | (simp only [ob, obA, R32, R64] at *; and_intros <;> omega)) ?_
      refine V_icmpge dX12_shelf_72 (tgt := 92) (by decide) (by simp only [R32, R64] at *; omega) (fun q72 => ?_) (fun q72 => ?_)
      · omega
      · refine V_ex sX12_shelf_75 (by simp only [Option.toList, List.cons_append, List.nil_append, exN, ex1, gI, gL, gR, pI, pL, pR, lget, lset1, lset2, kl, b2I, b2L, nob, ob32, ob64, xGet, xPut, xLen, xLd, xLdR, xSt, obA, true_and, and_true, and_self, eq_self, Nat.reduceEqDiff, Nat.zero_ne_one, reduceIte, Nat.reduceLeDiff, and_false, false_and, show skd 11 12 = 2 from rfl, show LF.1 145 = some (.inl 11) from rfl, show LF.2 145 12 = some 157 from rfl, show LF.1 157 = some (.inr (0, 20)) from rfl, e1, upd2_eq, Int.reduceToNat, Int.toNat_natCast]; rfl) (by first | exact trivial | exact Or.inr rfl | exact Or.inl rfl | (simp only [ob, obA, R32, R64] at *; omega) | (simp only [ob, obA, R32, R64] at *; and_intros <;> omega)) ?_
        refine V_goto dX12_shelf_89 (tgt := 69) (by decide) ?_
        exact ih (j + 1) _ _ (by omega) (by omega) g2 (fun x y p => by rw [iv (by omega)]; exact gx x y p) (fun y hy => by by_cases c : y = j; subst c; rw [iu]; rw [iv (by omega)]; exact gl y (by omega)) kk
  -- the end
  have E0 : ∀ (S1 : Sh) (G1 : Wd) (x : Option Vl), G1.2 = G.2 → (∀ x j, ¬ up x j → G1.1 x j = (shB G n).1 x j) → G1.1 145 26 = 0 → mS1 G1 S1 → rr.2.1 = 0 → rr.2.2 = S1 → okSh 500 S1 → V κ MX12_shelf (rmD d 0 0) (shM G n rr) noX 0 0 μ 0 0 (Wm (G1)) 121 [some (VR 145), some (VI (n : Nat)), x] [] := fun S1 G1 x g2 gx h26 hs hr0 hr2 hok => by
    refine V_ex sX12_shelf_121 (by simp only [Option.toList, List.cons_append, List.nil_append, exN, ex1, gI, gL, gR, pI, pL, pR, lget, lset1, lset2, kl, b2I, b2L, nob, ob32, ob64, xGet, xPut, xLen, xLd, xLdR, xSt, obA, true_and, and_true, and_self, eq_self, Nat.reduceEqDiff, Nat.zero_ne_one, reduceIte, Nat.reduceLeDiff, and_false, false_and, show skd 11 26 = 0 from rfl, show LF.1 145 = some (.inl 11) from rfl, upd2_eq, Int.reduceToNat, Int.toNat_natCast]; rfl) (by first | exact trivial | exact Or.inr rfl | exact Or.inl rfl | (simp only [ob, obA, R32, R64] at *; omega) | (simp only [ob, obA, R32, R64] at *; and_intros <;> omega)) ?_
    refine V_ifeq dX12_shelf_125 (tgt := 151) (by decide) (by rw [h26]; unfold R32; decide) (fun q125 => ?_) (fun q125 => ?_)
    · refine V_ex sX12_shelf_151 (by rfl) (by first | exact trivial | exact Or.inr rfl | exact Or.inl rfl | (simp only [ob, obA, R32, R64] at *; omega) | (simp only [ob, obA, R32, R64] at *; and_intros <;> omega)) ?_
      refine V_callV (M := MX12_shelf) (N := MX12_take) dX12_shelf_152 lRX12_331 kX12_take rfl (rfl) rfl (c_mTake (d := 1) hκ (by omega)) rfl rfl (Nat.le_of_ble_eq_true rfl) (fit_rm (by omega)) (⟨Nat.le_of_ble_eq_true rfl, Nat.le_of_ble_eq_true rfl⟩) (fun v Ω' hp => ?_) (fun _ _ h => h.elim)
      obtain ⟨rfl, rfl⟩ := hp
      refine V_ex sX12_shelf_155 (by rfl) (by first | exact trivial | exact Or.inr rfl | exact Or.inl rfl | (simp only [ob, obA, R32, R64] at *; omega) | (simp only [ob, obA, R32, R64] at *; and_intros <;> omega)) ?_
      refine V_iret dX12_shelf_156 rfl (by decide) ?_
      refine ⟨by rw [hr0], _, rfl, (takeG_2 G1).trans g2, fun q => absurd hr0 q, fun _ => ?_⟩
      obtain ⟨t1, t2, t3, t4, t5, t6, t7⟩ := takeG_S G1
      refine ⟨fun x j p q => ?_, ?_, ?_, ?_, t1, t2, t3, t4, t5, t6, t7, by rw [hr2]; exact mS0_take hs hok (by omega)⟩
      · by_cases c : x = 145
        · subst c
          rw [takeG_5 (fun h => q ⟨rfl, Or.inr (Or.inr h)⟩), gx _ _ (by unfold up; omega), shB_x (by omega) (by omega)]
        · rw [takeG_x p c, gx _ _ (by unfold up; omega), shB_x (by omega) (by omega)]
      · rw [takeG_5 (by unfold tkS; omega), gx _ _ (up_5 (by omega))]; exact y1
      · rw [takeG_5 (by unfold tkS; omega), gx _ _ (up_5 (by omega))]; exact y2
      · rw [takeG_5 (by unfold tkS; omega), gx _ _ (up_5 (by omega))]; exact y6
    · exact absurd h26 q125
  have EB : ∀ (G1 : Wd) (x : Option Vl), G1.2 = G.2 → (∀ x j, ¬ up x j → G1.1 x j = (shB G n).1 x j) → rr.2.1 ≠ 0 → G1.1 145 26 = rr.2.1 → G1.1 145 27 = (tkB (tk f n 0) rr.1 : Nat) → V κ MX12_shelf (rmD d 0 0) (shM G n rr) noX 0 0 μ 0 0 (Wm (G1)) 121 [some (VR 145), some (VI (n : Nat)), x] [] := fun G1 x g2 gx hb p1 p2 => by
    refine V_ex sX12_shelf_121 (by simp only [Option.toList, List.cons_append, List.nil_append, exN, ex1, gI, gL, gR, pI, pL, pR, lget, lset1, lset2, kl, b2I, b2L, nob, ob32, ob64, xGet, xPut, xLen, xLd, xLdR, xSt, obA, true_and, and_true, and_self, eq_self, Nat.reduceEqDiff, Nat.zero_ne_one, reduceIte, Nat.reduceLeDiff, and_false, false_and, show skd 11 26 = 0 from rfl, show LF.1 145 = some (.inl 11) from rfl, p1, p2, upd2_eq, Int.reduceToNat, Int.toNat_natCast]; rfl) (by first | exact trivial | exact Or.inr rfl | exact Or.inl rfl | (simp only [ob, obA, R32, R64] at *; omega) | (simp only [ob, obA, R32, R64] at *; and_intros <;> omega)) ?_
    refine V_ifeq dX12_shelf_125 (tgt := 151) (by decide) (by unfold R32; omega) (fun q125 => ?_) (fun q125 => ?_)
    · exact absurd q125 hb
    · refine V_ex sX12_shelf_128 (by simp only [Option.toList, List.cons_append, List.nil_append, exN, ex1, gI, gL, gR, pI, pL, pR, lget, lset1, lset2, kl, b2I, b2L, nob, ob32, ob64, xGet, xPut, xLen, xLd, xLdR, xSt, obA, true_and, and_true, and_self, eq_self, Nat.reduceEqDiff, Nat.zero_ne_one, reduceIte, Nat.reduceLeDiff, and_false, false_and, show skd 11 27 = 0 from rfl, show skd 11 28 = 0 from rfl, show skd 11 16 = 2 from rfl, show skd 11 26 = 0 from rfl, show LF.1 145 = some (.inl 11) from rfl, show LF.2 145 16 = some 161 from rfl, show LF.1 161 = some (.inr (0, 4)) from rfl, p1, p2, upd2_eq, Int.reduceToNat, Int.toNat_natCast]; rfl) (by first | exact trivial | exact Or.inr rfl | exact Or.inl rfl | (simp only [ob, obA, R32, R64] at *; omega) | (simp only [ob, obA, R32, R64] at *; and_intros <;> omega)) ?_
      refine V_iret dX12_shelf_150 rfl (by decide) ?_
      refine ⟨by first | rfl | rw [p1], uI (uI G1 145 28 _) 161 0 _, rfl, g2, fun _ => ⟨fun x j p q r => ?_, ?_, ?_, ?_, ?_⟩, fun q => absurd q hb⟩
      · rw [iv (by omega), iv (by omega), gx _ _ p]; exact shB_x (by unfold up at p; omega) (by unfold up at p; omega)
      · rw [iv (by omega), iv (by omega), gx _ _ (up_5 (by omega))]; exact y1
      · rw [iv (by omega), iv (by omega), gx _ _ (up_5 (by omega))]; exact y2
      · rw [hff, iv (by omega), iu]
      · rw [iu, gx _ _ (by unfold up; omega), shB_x (by omega) (by omega)]
  have BB : ∀ (G1 : Wd) (x : Option Vl), G1.2 = G.2 → (∀ x j, ¬ up x j → G1.1 x j = (shB G n).1 x j) → rr.2.1 ≠ 0 → G1.1 145 26 = rr.2.1 → G1.1 145 27 = (tkB (tk f n 0) rr.1 : Nat) → V κ MX12_shelf (rmD d 0 0) (shM G n rr) noX 0 0 μ 0 0 (Wm (G1)) 98 [some (VR 145), some (VI (n : Nat)), x] [] := fun G1 x g2 gx hb p1 p2 => by
    refine V_ex sX12_shelf_98 (by simp only [Option.toList, List.cons_append, List.nil_append, exN, ex1, gI, gL, gR, pI, pL, pR, lget, lset1, lset2, kl, b2I, b2L, nob, ob32, ob64, xGet, xPut, xLen, xLd, xLdR, xSt, obA, true_and, and_true, and_self, eq_self, Nat.reduceEqDiff, Nat.zero_ne_one, reduceIte, Nat.reduceLeDiff, and_false, false_and, show skd 11 26 = 0 from rfl, show LF.1 145 = some (.inl 11) from rfl, upd2_eq, Int.reduceToNat, Int.toNat_natCast]; rfl) (by first | exact trivial | exact Or.inr rfl | exact Or.inl rfl | (simp only [ob, obA, R32, R64] at *; omega) | (simp only [ob, obA, R32, R64] at *; and_intros <;> omega)) ?_
    refine V_ifne dX12_shelf_102 (tgt := 121) (by decide) (by rw [p1]; unfold R32; omega) (fun q102 => ?_) (fun q102 => ?_)
    · exact EB G1 _ g2 gx hb p1 p2
    · exact absurd (p1.symm.trans q102) hb
  -- line by line
  have L2 : ∀ (k i : Nat) (S1 : Sh) (G1 : Wd), G1.2 = G.2 → (∀ x j, ¬ up x j → G1.1 x j = (shB G n).1 x j) → mI f n G1 i → mS1 G1 S1 → okSh i S1 → (tk f n 0).length ≤ i + k → pLns (tkW (tk f n 0)) (tkV (tk f n 0)) k i S1 = rr → V κ MX12_shelf (rmD d 0 0) (shM G n rr) noX 0 0 μ 0 0 (Wm (G1)) 98 [some (VR 145), some (VI (n : Nat)), some (VI (b2i S1.2.2.2.1))] [] := by
    intro k
    induction k with
    | zero => intro i S1 G1 g2 gx hI hs hok hk he; have := (mI_lt hI).1; omega
    | succ k ih =>
      intro i S1 G1 g2 gx hI hs hok hk he
      obtain ⟨h26, h21⟩ := mI_26 hI
      have hlt := mI_lt hI
      by_cases hw : tkW (tk f n 0) i = -1
      · rw [pLns, if_pos hw] at he
        have h21b : G1.1 145 21 = 0 := by rw [h21, hw]; decide
        refine V_ex sX12_shelf_98 (by simp only [Option.toList, List.cons_append, List.nil_append, exN, ex1, gI, gL, gR, pI, pL, pR, lget, lset1, lset2, kl, b2I, b2L, nob, ob32, ob64, xGet, xPut, xLen, xLd, xLdR, xSt, obA, true_and, and_true, and_self, eq_self, Nat.reduceEqDiff, Nat.zero_ne_one, reduceIte, Nat.reduceLeDiff, and_false, false_and, show skd 11 26 = 0 from rfl, show LF.1 145 = some (.inl 11) from rfl, upd2_eq, Int.reduceToNat, Int.toNat_natCast]; rfl) (by first | exact trivial | exact Or.inr rfl | exact Or.inl rfl | (simp only [ob, obA, R32, R64] at *; omega) | (simp only [ob, obA, R32, R64] at *; and_intros <;> omega)) ?_
        refine V_ifne dX12_shelf_102 (tgt := 121) (by decide) (by rw [h26]; unfold R32; decide) (fun q102 => ?_) (fun q102 => ?_)
        · exact absurd h26 q102
        · refine V_ex sX12_shelf_105 (by simp only [Option.toList, List.cons_append, List.nil_append, exN, ex1, gI, gL, gR, pI, pL, pR, lget, lset1, lset2, kl, b2I, b2L, nob, ob32, ob64, xGet, xPut, xLen, xLd, xLdR, xSt, obA, true_and, and_true, and_self, eq_self, Nat.reduceEqDiff, Nat.zero_ne_one, reduceIte, Nat.reduceLeDiff, and_false, false_and, show skd 11 21 = 0 from rfl, show LF.1 145 = some (.inl 11) from rfl, upd2_eq, Int.reduceToNat, Int.toNat_natCast]; rfl) (by first | exact trivial | exact Or.inr rfl | exact Or.inl rfl | (simp only [ob, obA, R32, R64] at *; omega) | (simp only [ob, obA, R32, R64] at *; and_intros <;> omega)) ?_
          refine V_ifeq dX12_shelf_109 (tgt := 121) (by decide) (by rw [h21b]; unfold R32; decide) (fun q109 => ?_) (fun q109 => ?_)
          · exact E0 S1 G1 _ g2 gx h26 hs (by rw [← he]) (by rw [← he]) (okSh_more hok (by omega))
          · exact absurd h21b q109
      · have hiN : i < (tk f n 0).length - 1 := by
          have := (hT.1 i hlt.1).mpr
          have := hlt.1
          omega
        rw [pLns_end k hw] at he
        have hC := c_mLine hκ hKS (d := 47) (fun j hj => hf j hj) ⟨hI, hiN, hs, hok⟩ (by omega)
        have hok1 := pLine_ok (v := tkV (tk f n 0)) hT hiN hok
        have hld := pLine_lead (w := tkW (tk f n 0)) (v := tkV (tk f n 0)) (i := i) (S := S1)
        have hkd : G1.1 145 21 ≠ 0 := by rw [h21]; intro q; exact hw ((kd_0 _).mp q)
        have hkR := kd_R (tkW (tk f n 0) i)
        generalize pLine (tkW (tk f n 0)) (tkV (tk f n 0)) i S1 = r at *
        obtain ⟨o1, o2, o3, o4, o5⟩ := hok1
        generalize hre : pEnd (tkW (tk f n 0)) r = e at *
        have hee : (r.2.1 = 0 ∧ e.2.2 = r.2.2 ∧ e.1 = r.1 + 1) ∨ e.2.1 ≠ 0 := by
          unfold pEnd at hre
          by_cases a : r.2.1 ≠ 0
          · rw [if_pos a] at hre; rw [← hre]; exact Or.inr a
          · rw [if_neg a] at hre
            by_cases b : tkW (tk f n 0) r.1 = 59
            · rw [if_pos b] at hre; rw [← hre]; exact Or.inl ⟨by omega, rfl, rfl⟩
            · rw [if_neg b] at hre; rw [← hre]; exact Or.inr (show (1 : Int) ≠ 0 by decide)
        refine V_ex sX12_shelf_98 (by simp only [Option.toList, List.cons_append, List.nil_append, exN, ex1, gI, gL, gR, pI, pL, pR, lget, lset1, lset2, kl, b2I, b2L, nob, ob32, ob64, xGet, xPut, xLen, xLd, xLdR, xSt, obA, true_and, and_true, and_self, eq_self, Nat.reduceEqDiff, Nat.zero_ne_one, reduceIte, Nat.reduceLeDiff, and_false, false_and, show skd 11 26 = 0 from rfl, show LF.1 145 = some (.inl 11) from rfl, upd2_eq, Int.reduceToNat, Int.toNat_natCast]; rfl) (by first | exact trivial | exact Or.inr rfl | exact Or.inl rfl | (simp only [ob, obA, R32, R64] at *; omega) | (simp only [ob, obA, R32, R64] at *; and_intros <;> omega)) ?_
        refine V_ifne dX12_shelf_102 (tgt := 121) (by decide) (by rw [h26]; unfold R32; decide) (fun q102 => ?_) (fun q102 => ?_)
        · exact absurd h26 q102
        · refine V_ex sX12_shelf_105 (by simp only [Option.toList, List.cons_append, List.nil_append, exN, ex1, gI, gL, gR, pI, pL, pR, lget, lset1, lset2, kl, b2I, b2L, nob, ob32, ob64, xGet, xPut, xLen, xLd, xLdR, xSt, obA, true_and, and_true, and_self, eq_self, Nat.reduceEqDiff, Nat.zero_ne_one, reduceIte, Nat.reduceLeDiff, and_false, false_and, show skd 11 21 = 0 from rfl, show LF.1 145 = some (.inl 11) from rfl, upd2_eq, Int.reduceToNat, Int.toNat_natCast]; rfl) (by first | exact trivial | exact Or.inr rfl | exact Or.inl rfl | (simp only [ob, obA, R32, R64] at *; omega) | (simp only [ob, obA, R32, R64] at *; and_intros <;> omega)) ?_
          refine V_ifeq dX12_shelf_109 (tgt := 121) (by decide) (by rw [h21]; unfold R32; omega) (fun q109 => ?_) (fun q109 => ?_)
          · exact absurd q109 hkd
          · refine V_ex sX12_shelf_112 (by rfl) (by first | exact trivial | exact Or.inr rfl | exact Or.inl rfl | (simp only [ob, obA, R32, R64] at *; omega) | (simp only [ob, obA, R32, R64] at *; and_intros <;> omega)) ?_
            refine V_callV (M := MX12_shelf) (N := MX12_readLine) dX12_shelf_114 lRX12_327 kX12_readLine rfl (rfl) rfl (hC) rfl rfl (Nat.le_of_ble_eq_true rfl) (fit_rm (by omega)) (⟨Nat.le_of_ble_eq_true rfl, Nat.le_of_ble_eq_true rfl⟩) (fun v Ω' hp => ?_) (fun _ _ h => h.elim)
            obtain ⟨rfl, G2, rfl, f2, m2⟩ := hp
            have g2' : G2.2 = G.2 := f2.1.trans g2
            have gx' : ∀ x j, ¬ up x j → G2.1 x j = (shB G n).1 x j := fun x j p => (f2.2 x j p).trans (gx x j p)
            refine V_ex sX12_shelf_117 (by rfl) (by first | exact trivial | exact Or.inr rfl | exact Or.inl rfl | (simp only [ob, obA, R32, R64] at *; omega) | (simp only [ob, obA, R32, R64] at *; and_intros <;> omega)) ?_
            refine V_goto dX12_shelf_118 (tgt := 98) (by decide) ?_
            by_cases hb : e.2.1 = 0
            · rcases hee with ⟨a1, a2, a3⟩ | a
              · rw [if_neg (by omega)] at he
                obtain ⟨i2, s2⟩ := m2.1 hb
                rw [← hld a1, ← a2]
                exact ih e.1 e.2.2 G2 g2' gx' i2 s2 (by rw [a2, a3]; exact okSh_more (o5 a1).2 (by omega)) (by have := (o5 a1).1; omega) he
              · exact absurd hb a
            · rw [if_pos hb] at he
              obtain ⟨g26, g27⟩ := m2.2 hb
              subst he
              exact BB G2 _ g2' gx' hb g26 g27
  have B92 : ∀ (G2 : Wd) (x : Option Vl), G2.2 = G.2 → (∀ x y, ¬ (x = 157 ∧ 10 ≤ y) → G2.1 x y = (shB G n).1 x y) → (∀ y, y < 10 → G2.1 157 (10 + y) = 100) → V κ MX12_shelf (rmD d 0 0) (shM G n rr) noX 0 0 μ 0 0 (Wm (G2)) 92 [some (VR 145), some (VI (n : Nat)), x] [] := fun G2 x g2 gx gl => by
    have h162 : G2.1 162 = f := by funext j; rw [gx _ _ (by omega), shB_x (by omega) (by omega), hff]
    have hx2 : mTx G2 n := ⟨by rw [gx _ _ (by omega)]; exact y3, by omega, fun j hj => by rw [h162]; exact hb j hj⟩
    have hst := c_mStepOn hκ (d := 2) hx2 (p := 0) (by rw [gx _ _ (by omega)]; exact y4) (by omega) (by omega)
    unfold soP at hst
    rw [h162] at hst
    refine V_ex sX12_shelf_92 (by rfl) (by first | exact trivial | exact Or.inr rfl | exact Or.inl rfl | (simp only [ob, obA, R32, R64] at *; omega) | (simp only [ob, obA, R32, R64] at *; and_intros <;> omega)) ?_
    refine V_callV (M := MX12_shelf) (N := MX12_stepOn) dX12_shelf_93 lRX12_249 kX12_stepOn rfl (rfl) rfl (hst) rfl rfl (Nat.le_of_ble_eq_true rfl) (fit_rm (by omega)) (⟨Nat.le_of_ble_eq_true rfl, Nat.le_of_ble_eq_true rfl⟩) (fun v Ω' hp => ?_) (fun _ _ h => h.elim)
    obtain ⟨rfl, G3, t, l, rfl, f3, ht, hA, hl⟩ := hp
    refine V_ex sX12_shelf_96 (by rfl) (by first | exact trivial | exact Or.inr rfl | exact Or.inl rfl | (simp only [ob, obA, R32, R64] at *; omega) | (simp only [ob, obA, R32, R64] at *; and_intros <;> omega)) ?_
    refine L2 501 0 sh0 G3 (f3.1.trans g2) (fun x j p => (f3.2 x j (by unfold up at p; omega)).trans (gx x j (by unfold up at p; omega))) ⟨by rw [f3.tape]; exact h162, t, l, ht, ⟨f3.tx hx2, ?_, hA, ?_⟩, hl⟩ ?_ okSh0 (by omega) hpT.symm
    · rw [f3.tape, h162]; exact tkF_mem n 0 (by omega) t (by rw [ht]; exact List.mem_cons_self ..)
    · rw [f3.2 _ _ (by omega), gx _ _ (by omega)]; exact y5
    · refine mS1_m (G := G2) ⟨?_, fun j hj => absurd hj (by simp [sh0]), ?_, fun j hj => absurd hj (by simp [sh0]), fun k hk => ?_, ?_, fun k hk => absurd hk (by simp [sh0])⟩ f3
      · rw [gx _ _ (by omega)]; exact y7
      · rw [gx _ _ (by omega)]; exact y8
      · have hk' : k < 10 := by simpa [sh0] using hk
        simp only [sh0, List.getElem_replicate]; exact gl k hk'
      · rw [gx _ _ (by omega)]; exact y9
  refine V_ex sX12_shelf_0 (by simp only [Option.toList, List.cons_append, List.nil_append, exN, ex1, gI, gL, gR, pI, pL, pR, lget, lset1, lset2, kl, b2I, b2L, nob, ob32, ob64, xGet, xPut, xLen, xLd, xLdR, xSt, obA, true_and, and_true, and_self, eq_self, Nat.reduceEqDiff, Nat.zero_ne_one, reduceIte, Nat.reduceLeDiff, and_false, false_and, show skd 11 2 = 0 from rfl, show LF.1 145 = some (.inl 11) from rfl, htp, upd2_eq, Int.reduceToNat, Int.toNat_natCast]; rfl) (by first | exact trivial | exact Or.inr rfl | exact Or.inl rfl | (simp only [ob, obA, R32, R64] at *; omega) | (simp only [ob, obA, R32, R64] at *; and_intros <;> omega)) ?_
  refine V_iflt dX12_shelf_6 (tgt := 17) (by decide) (by simp only [R32, R64] at *; omega) (fun q6 => ?_) (fun q6 => ?_)
  · omega
  · refine V_ex sX12_shelf_9 (by simp only [Option.toList, List.cons_append, List.nil_append, exN, ex1, gI, gL, gR, pI, pL, pR, lget, lset1, lset2, kl, b2I, b2L, nob, ob32, ob64, xGet, xPut, xLen, xLd, xLdR, xSt, obA, true_and, and_true, and_self, eq_self, Nat.reduceEqDiff, Nat.zero_ne_one, reduceIte, Nat.reduceLeDiff, and_false, false_and, show skd 11 18 = 0 from rfl, show LF.1 145 = some (.inl 11) from rfl, htp, upd2_eq, Int.reduceToNat, Int.toNat_natCast]; rfl) (by first | exact trivial | exact Or.inr rfl | exact Or.inl rfl | (simp only [ob, obA, R32, R64] at *; omega) | (simp only [ob, obA, R32, R64] at *; and_intros <;> omega)) ?_
    refine V_icmple dX12_shelf_14 (tgt := 23) (by decide) (by simp only [R32, R64] at *; omega) (fun q14 => ?_) (fun q14 => ?_)
    · refine V_ex sX12_shelf_23 (by simp only [Option.toList, List.cons_append, List.nil_append, exN, ex1, gI, gL, gR, pI, pL, pR, lget, lset1, lset2, kl, b2I, b2L, nob, ob32, ob64, xGet, xPut, xLen, xLd, xLdR, xSt, obA, true_and, and_true, and_self, eq_self, Nat.reduceEqDiff, Nat.zero_ne_one, reduceIte, Nat.reduceLeDiff, and_false, false_and, show skd 11 18 = 0 from rfl, show skd 11 20 = 0 from rfl, show skd 11 19 = 0 from rfl, show skd 11 26 = 0 from rfl, show skd 11 28 = 0 from rfl, show skd 11 3 = 2 from rfl, show skd 11 23 = 0 from rfl, show LF.1 145 = some (.inl 11) from rfl, show LF.2 145 3 = some 148 from rfl, show LF.1 148 = some (.inr (0, 4)) from rfl, htp, upd2_eq, Int.reduceToNat, Int.toNat_natCast]; rfl) (by first | exact trivial | exact Or.inr rfl | exact Or.inl rfl | (simp only [ob, obA, R32, R64] at *; omega) | (simp only [ob, obA, R32, R64] at *; and_intros <;> omega)) ?_
      exact L1 10 0 0 (shB G n) rfl rfl rfl (fun _ _ _ => rfl) (fun y hy => absurd hy (by omega)) (fun G2 g2 gx gl x => B92 G2 x g2 gx gl)
    · omega
set_option maxRecDepth 100000 in
set_option maxHeartbeats 4000000 in
theorem c_mShelfNo {κ : Kx} (hκ : KOK κ) {d : Nat} {n tp : Int} {G : Wd} (htp : G.1 145 18 = tp) (htp5 : 0 ≤ tp ∧ tp ≤ 500) (hnR : R32 n) (hn : ¬ (0 ≤ n ∧ n ≤ tp)) (hd : 1 ≤ d) : Ct κ MX12_shelf d 0 0 [VR 145, VI n] (Wm G) (fun u Ω' => u = some (VI 0) ∧ Ω' = Wm (uI (uI G 145 2 0) 145 2 1)) noX := by
  refine Ct_of hκ kX12_shelf.1 rfl (Nat.le_of_ble_eq_true rfl) (ls := [some (VR 145), some (VI n), none]) rfl (fun μ => ?_)
  refine V_ex sX12_shelf_0 (by simp only [Option.toList, List.cons_append, List.nil_append, exN, ex1, gI, gL, gR, pI, pL, pR, lget, lset1, lset2, kl, b2I, b2L, nob, ob32, ob64, xGet, xPut, xLen, xLd, xLdR, xSt, obA, true_and, and_true, and_self, eq_self, Nat.reduceEqDiff, Nat.zero_ne_one, reduceIte, Nat.reduceLeDiff, and_false, false_and, show skd 11 2 = 0 from rfl, show LF.1 145 = some (.inl 11) from rfl, htp, upd2_eq, Int.reduceToNat, Int.toNat_natCast]; rfl) (by first | exact trivial | exact Or.inr rfl | exact Or.inl rfl | (simp only [ob, obA, R32, R64] at *; omega) | (simp only [ob, obA, R32, R64] at *; and_intros <;> omega)) ?_
  refine V_iflt dX12_shelf_6 (tgt := 17) (by decide) (by simp only [R32, R64] at *; omega) (fun q6 => ?_) (fun q6 => ?_)
  · refine V_ex sX12_shelf_17 (by rfl) (by first | exact trivial | exact Or.inr rfl | exact Or.inl rfl | (simp only [ob, obA, R32, R64] at *; omega) | (simp only [ob, obA, R32, R64] at *; and_intros <;> omega)) ?_
    refine V_callV (M := MX12_shelf) (N := MX12_fail) dX12_shelf_19 lRX12_324 kX12_fail rfl (rfl) rfl (c_mfail hκ (d := 0)) rfl rfl (Nat.le_of_ble_eq_true rfl) (fit_rm (by omega)) (⟨Nat.le_of_ble_eq_true rfl, Nat.le_of_ble_eq_true rfl⟩) (fun v Ω' hp => ?_) (fun _ _ h => h.elim)
    obtain ⟨rfl, rfl⟩ := hp
    refine V_iret dX12_shelf_22 rfl (by decide) ⟨rfl, rfl⟩
  · refine V_ex sX12_shelf_9 (by simp only [Option.toList, List.cons_append, List.nil_append, exN, ex1, gI, gL, gR, pI, pL, pR, lget, lset1, lset2, kl, b2I, b2L, nob, ob32, ob64, xGet, xPut, xLen, xLd, xLdR, xSt, obA, true_and, and_true, and_self, eq_self, Nat.reduceEqDiff, Nat.zero_ne_one, reduceIte, Nat.reduceLeDiff, and_false, false_and, show skd 11 18 = 0 from rfl, show LF.1 145 = some (.inl 11) from rfl, htp, upd2_eq, Int.reduceToNat, Int.toNat_natCast]; rfl) (by first | exact trivial | exact Or.inr rfl | exact Or.inl rfl | (simp only [ob, obA, R32, R64] at *; omega) | (simp only [ob, obA, R32, R64] at *; and_intros <;> omega)) ?_
    refine V_icmple dX12_shelf_14 (tgt := 23) (by decide) (by simp only [R32, R64] at *; omega) (fun q14 => ?_) (fun q14 => ?_)
    · omega
    · refine V_ex sX12_shelf_17 (by rfl) (by first | exact trivial | exact Or.inr rfl | exact Or.inl rfl | (simp only [ob, obA, R32, R64] at *; omega) | (simp only [ob, obA, R32, R64] at *; and_intros <;> omega)) ?_
      refine V_callV (M := MX12_shelf) (N := MX12_fail) dX12_shelf_19 lRX12_324 kX12_fail rfl (rfl) rfl (c_mfail hκ (d := 0)) rfl rfl (Nat.le_of_ble_eq_true rfl) (fit_rm (by omega)) (⟨Nat.le_of_ble_eq_true rfl, Nat.le_of_ble_eq_true rfl⟩) (fun v Ω' hp => ?_) (fun _ _ h => h.elim)
      obtain ⟨rfl, rfl⟩ := hp
      refine V_iret dX12_shelf_22 rfl (by decide) ⟨rfl, rfl⟩
