/-! THE MODEL: shares as a call -/
theorem RM_shares {G G3 : Wd} {A : Ab} {l : List Int} (h : RM G A) (f : FM [2, 42, 45, 56, 59] [163, 164, 171, 174, 175, 176, 177] [168, 169, 170, 179, 180] G G3) (hk : ∀ t (ht : t < l.length), G3.1 176 t = l[t]'ht) : RM (uI G3 145 57 (l.length : Nat)) (sharesA A l) ∧ FrM G (uI G3 145 57 (l.length : Nat)) := by
  obtain ⟨r1, r2, r3, r4, r5, r6, r7, r8, r9⟩ := h
  have fx : ∀ x y, x ≠ 163 → x ≠ 164 → x ≠ 171 → ¬ (174 ≤ x ∧ x ≤ 177) → ¬ (x = 145 ∧ (y = 2 ∨ y = 42 ∨ y = 45 ∨ y = 56 ∨ y = 59 ∨ y = 57)) → (uI G3 145 57 (l.length : Nat)).1 x y = G.1 x y := fun x y a b c d e => by
    rw [iv (by omega)]
    exact f.2.1 x y (by simp; omega) (by simp; omega)
  have fl : ∀ x y, ¬ (168 ≤ x ∧ x ≤ 170) → x ≠ 179 → x ≠ 180 → ¬ (x = 145 ∧ (y = 2 ∨ y = 42 ∨ y = 45 ∨ y = 56 ∨ y = 59)) → (uI G3 145 57 (l.length : Nat)).2.1 x y = G.2.1 x y := fun x y a b c d => f.2.2 x y (by simp; omega) (by simp; omega)
  refine ⟨⟨mS0_c r1 (fun x a b => funext fun y => fx x y (by omega) (by omega) (by omega) (by omega) (by omega)), evM_c r2 (Or.inl rfl) (fun j hj => fx _ _ (by omega) (by omega) (by omega) (by omega) (by omega)) (fun j hj => fl _ _ (by omega) (by omega) (by omega) (by omega)) (fun x hx => funext fun y => fx _ _ (by omega) (by omega) (by omega) (by omega) (by omega)), (fx _ _ (by omega) (by omega) (by omega) (by omega) (by omega)).trans r3, imM_c r4 (fun j hj => fx _ _ (by omega) (by omega) (by omega) (by omega) (by omega)) (fl _ _ (by omega) (by omega) (by omega) (by omega)) (fun x hx => funext fun y => fx _ _ (by omega) (by omega) (by omega) (by omega) (by omega)), (fx _ _ (by omega) (by omega) (by omega) (by omega) (by omega)).trans r5, (fx _ _ (by omega) (by omega) (by omega) (by omega) (by omega)).trans r6, fun j hj => (fx _ _ (by omega) (by omega) (by omega) (by omega) (by omega)).trans (r7 j hj), ?_, ?_⟩, fun x a => funext fun y => fx _ _ (by omega) (by omega) (by omega) (by omega) (by omega), fun x a => funext fun y => fl _ _ (by omega) (by omega) (by omega) (by omega), f.1⟩
  · refine ⟨iu, fun t ht => ?_⟩
    rw [iv (by omega)]; exact hk t ht
  · rw [fx 145 58 (by omega) (by omega) (by omega) (by omega) (by omega)]
    exact kpO_c r9 (funext fun y => fx _ _ (by omega) (by omega) (by omega) (by omega) (by omega))
theorem best_O {W : List Int} {ch : Nat} (hW : ∀ z ∈ W, 0 ≤ z ∧ z ≤ 199998) (hl : W.length ≤ 10) (hch : 1 ≤ ch) : (allL (lw W) ch W.length 0 (fun _ => 0) []).foldl keepO none = some (bestS W ch) := by
  obtain ⟨h1, h2⟩ := allL_rows (w := lw W) (fun j => (lw_nn hW j).1) hch W.length 0 (fun _ => 0) [] (fun _ => Int.le_refl _) (fun c hc => by cases hc)
  have hs := smW_R (fun j => lw_nn hW j) W.length 0
  unfold bestS
  generalize allL (lw W) ch W.length 0 (fun _ => 0) [] = L at *
  cases L with
  | nil => exact absurd rfl h1
  | cons q r =>
    have h3 := (h2 q List.mem_cons_self).2.2
    rw [smH_0] at h3
    rw [List.foldl_cons, List.foldl_cons, show keepO none q = some q from rfl, keepO_some, show keepB (1000000000, []) q = q from if_pos (show q.1 < 1000000000 by omega)]
set_option maxRecDepth 100000 in
set_option maxHeartbeats 4000000 in
theorem c_mxShares {κ : Kx} (hκ : KOK κ) {d : Nat} {K i ch : Int} {A : Ab} {G : Wd} (hC : RM G A) (hI : Inv K A) (hi : R32 i) (hch : R32 ch) (hd : 20 ≤ d) : Ct κ MX12_shares d 0 0 [VR 145, VI i, VI ch] (Wm G) (mdP G (sharesP A i ch).2.2 (some (VL (sharesP A i ch).2.1)) (sharesP A i ch).1) noX := by
  refine Ct_of hκ kX12_shares.1 rfl (Nat.le_of_ble_eq_true rfl) (ls := [some (VR 145), some (VI i), some (VI ch), none]) rfl (fun μ => ?_)
  have hC1 := RM_0 hC 0
  have hch64 := r32_64 hch
  by_cases hin : inB A.1 i
  · obtain ⟨j, hj⟩ : ∃ j : Nat, i = (j : Int) := ⟨i.toNat, by have := hin.1; omega⟩
    subst hj
    have hj : j < A.1.1.length := by have := hin.2; omega
    obtain ⟨g1, g2, g3, g4, g5⟩ := gone_ok hI.1 hj
    have hj6 : j < 6 := by have := hI.1.1; omega
    by_cases hk2 : 2 ≤ ch ∧ ch ≤ 4
    · obtain ⟨c, hc⟩ : ∃ c : Nat, ch = (c : Int) := ⟨ch.toNat, by omega⟩
      subst hc
      have hTT := c_mTellThere (κ := κ) hκ (d := 10) (j := j) (m := 10) (G := uI G 145 2 0) hC1.1 hI.1 hj (by omega) (by omega)
      by_cases h10 : 10 < (bkJ A.1 j).2.2.1 - ((bkJ A.1 j).2.2.2.2.2.length : Nat)
      · have e : sharesP A (j : Nat) (c : Nat) = (0, -2, A) := by have h10' : 10 < (bkA A (j : Nat)).2.2.1 - ((bkA A (j : Nat)).2.2.2.2.2.length : Nat) := h10; unfold sharesP; rw [if_neg (fun h => h hin), if_neg (fun h => h hk2), if_pos h10']
        rw [decide_eq_false (show ¬ (bkJ A.1 j).2.2.1 - ((bkJ A.1 j).2.2.2.2.2.length : Nat) ≤ ((10 : Nat) : Int) by omega)] at hTT
        refine V_ex sX12_shares_0 (by simp only [Option.toList, List.cons_append, List.nil_append, exN, ex1, gI, gL, gR, pI, pL, pR, lget, lset1, lset2, kl, b2I, b2L, nob, ob32, ob64, xGet, xPut, xLen, xLd, xLdR, xSt, obA, true_and, and_true, and_self, eq_self, Nat.reduceEqDiff, Nat.zero_ne_one, reduceIte, Nat.reduceLeDiff, and_false, false_and, show skd 11 2 = 0 from rfl, show LF.1 145 = some (.inl 11) from rfl, upd2_eq, Int.reduceToNat, Int.toNat_natCast]; rfl) (by first | exact trivial | exact Or.inr rfl | exact Or.inl rfl | (simp only [ob, obA, R32, R64] at *; omega) | (simp only [ob, obA, R32, R64] at *; and_intros <;> omega) | (simp [ob, obA])) ?_
        refine V_callV (M := MX12_shares) (N := MX12_isBook) dX12_shares_7 lRX12_386 kX12_isBook rfl (rfl) rfl (c_mIsBook (d := 2) hκ hC1.1 hI.1 hi (by omega)) rfl rfl (Nat.le_of_ble_eq_true rfl) (fit_rm (by omega)) (⟨Nat.le_of_ble_eq_true rfl, Nat.le_of_ble_eq_true rfl⟩) (fun v Ω' hp => ?_) (fun _ _ h => h.elim)
        obtain ⟨rfl, rfl⟩ := hp
        refine V_ifneB dX12_shares_10 (tgt := 20) (by decide) (fun q10 => ?_) (fun q10 => ?_)
        · refine V_ex sX12_shares_20 (by rfl) (by first | exact trivial | exact Or.inr rfl | exact Or.inl rfl | (simp only [ob, obA, R32, R64] at *; omega) | (simp only [ob, obA, R32, R64] at *; and_intros <;> omega) | (simp [ob, obA])) ?_
          refine V_callS (M := MX12_shares) (N := MX12_isIn) dX12_shares_28 lRX12_178 kX12_isIn rfl (c_misIn (d := 2) hκ hch64 (by unfold R64; omega) (by unfold R64; omega)) rfl rfl (Nat.le_of_ble_eq_true rfl) (fit_rm (by omega)) (⟨Nat.le_of_ble_eq_true rfl, Nat.le_of_ble_eq_true rfl⟩) (fun v Ω' hp => ?_) (fun _ _ h => h.elim)
          obtain ⟨rfl, rfl⟩ := hp
          refine V_ifneB dX12_shares_31 (tgt := 41) (by decide) (fun q31 => ?_) (fun q31 => ?_)
          · refine V_ex sX12_shares_41 (by rfl) (by first | exact trivial | exact Or.inr rfl | exact Or.inl rfl | (simp only [ob, obA, R32, R64] at *; omega) | (simp only [ob, obA, R32, R64] at *; and_intros <;> omega) | (simp [ob, obA])) ?_
            refine V_callV (M := MX12_shares) (N := MX12_tellThere) dX12_shares_45 lRX12_544 kX12_tellThere rfl (rfl) rfl (hTT) rfl rfl (Nat.le_of_ble_eq_true rfl) (fit_rm (by omega)) (⟨Nat.le_of_ble_eq_true rfl, Nat.le_of_ble_eq_true rfl⟩) (fun v Ω' hp => ?_) (fun _ _ h => h.elim)
            obtain ⟨rfl, G2, rfl, f2, -⟩ := hp
            refine V_ifneB dX12_shares_48 (tgt := 55) (by decide) (fun q48 => ?_) (fun q48 => ?_)
            · cases q48
            · refine V_ex sX12_shares_51 (by rfl) (by first | exact trivial | exact Or.inr rfl | exact Or.inl rfl | (simp only [ob, obA, R32, R64] at *; omega) | (simp only [ob, obA, R32, R64] at *; and_intros <;> omega) | (simp [ob, obA])) ?_
              refine V_lret dX12_shares_54 rfl (by decide) (by rw [e]; exact md_f hC ((fn0 G 0).trans (f2.mono (by decide) (by decide) (by decide))) rfl ((f2.i5 (by decide) (by decide)).trans iu))
          · exact absurd hk2 (of_decide_eq_false q31)
        · exact absurd hin (of_decide_eq_false q10)
      · obtain ⟨n, hn⟩ : ∃ n : Nat, n = (bkJ A.1 j).2.2.1.toNat := ⟨_, rfl⟩
        have hnI : (n : Int) = (bkJ A.1 j).2.2.1 := by omega
        have e : sharesP A (j : Nat) (c : Nat) = (0, (bestS (wsL A.1 j n) c).1, sharesA A ((bestS (wsL A.1 j n) c).2.map (fun c : Nat => (c : Int)))) := by have h10' : ¬ 10 < (bkA A (j : Nat)).2.2.1 - ((bkA A (j : Nat)).2.2.2.2.2.length : Nat) := h10; unfold sharesP; rw [if_neg (fun h => h hin), if_neg (fun h => h hk2), if_neg h10', hn]; rfl
        have hlen := thL_len (g := (bkJ A.1 j).2.2.2.2.2) (n := n) g1 (fun z hz => by have := g3 z hz; omega)
        rw [decide_eq_true (show (bkJ A.1 j).2.2.1 - ((bkJ A.1 j).2.2.2.2.2.length : Nat) ≤ ((10 : Nat) : Int) by omega)] at hTT
        have hWR := wsL_R (S := A.1) (j := j) (n := n) hI.1 hj (by omega)
        have hwl : (wsL A.1 j n).length = (thL (bkJ A.1 j).2.2.2.2.2 n).length := wsL_len
        have hm10 : (wsL A.1 j n).length ≤ 10 := by omega
        have hO := best_O (ch := c) hWR hm10 (by omega)
        have hok := bestS_ok (ch := c) hWR hm10 (by omega)
        have hw : ∀ y, 0 ≤ lw (wsL A.1 j n) y ∧ lw (wsL A.1 j n) y ≤ 1000000 := fun y => by have := lw_nn hWR y; omega
        have main : ∀ G2 : Wd, FN G G2 → G2.1 145 2 = 0 → G2.1 145 56 = ((wsL A.1 j n).length : Nat) → (∀ k, k < (wsL A.1 j n).length → G2.2.1 179 k = lw (wsL A.1 j n) k) → V κ MX12_shares (rmD d 0 0) (mdP G (sharesP A (j : Nat) (c : Nat)).2.2 (some (VL (sharesP A (j : Nat) (c : Nat)).2.1)) (sharesP A (j : Nat) (c : Nat)).1) noX 0 0 μ 0 0 (Wm (G2)) 55 [some (VR 145), some (VI (j : Nat)), some (VI (c : Nat)), none] [] := fun G2 f2 c2 h56 h179 => by
          have L : ∀ (k y : Nat) (yy : Int) (G3 : Wd), y + k = 4 → yy = (y : Int) → FM [] [] [180] G2 G3 → (∀ x, x < y → G3.2.1 180 x = 0) → V κ MX12_shares (rmD d 0 0) (mdP G (sharesP A (j : Nat) (c : Nat)).2.2 (some (VL (sharesP A (j : Nat) (c : Nat)).2.1)) (sharesP A (j : Nat) (c : Nat)).1) noX 0 0 μ 0 0 (Wm (G3)) 57 [some (VR 145), some (VI (j : Nat)), some (VI (c : Nat)), some (VI yy)] [] := by
            intro k
            induction k with
            | zero =>
              intro y yy G3 hyk hyy f3 hz
              obtain rfl : y = 4 := by omega
              have f4 : FM [59] [175, 176] [180] G2 (uL G3 145 59 (-1)) := (f3.mono (by decide) (by decide) (by decide)).sL (by decide)
              have hR := shC_all (ch := c) hκ hm10 ⟨by omega, by omega⟩ hw (wsL A.1 j n).length 12 (by omega) 0 (fun _ => 0) [] none (uL G3 145 59 (-1)) (by omega) rfl ((f4.i5 (by decide) (by decide)).trans h56) (fun y hy => by rw [f4.l (by decide) (by decide)]; exact h179 y hy) (fun _ => ⟨Int.le_refl _, by show (0 : Int) ≤ 1000000 * ((0 : Nat) : Int); decide⟩) ⟨fun x hx => by show upd2 G3.2.1 145 59 (-1) 180 x = 0; rw [uv (by omega)]; exact hz x (by omega), fun k q => absurd q (Nat.not_lt_zero _), by show upd2 G3.2.1 145 59 (-1) 145 59 = -1; exact upd2_same ..⟩
              rw [hO] at hR
              have hR : Ct κ MX12_shareOn 12 0 0 [VR 145, VI 0, VI (c : Nat)] (Wm (uL G3 145 59 (-1))) (shPo 0 c (fun _ => 0) [] (some (bestS (wsL A.1 j n) c)) (uL G3 145 59 (-1))) noX := hR
              refine V_ex sX12_shares_57 (by rfl) (by first | exact trivial | exact Or.inr rfl | exact Or.inl rfl | (simp only [ob, obA, R32, R64] at *; omega) | (simp only [ob, obA, R32, R64] at *; and_intros <;> omega) | (simp [ob, obA])) ?_
              refine V_icmpge dX12_shares_59 (tgt := 75) (by decide) (by simp only [R32, R64] at *; omega) (fun q59 => ?_) (fun q59 => ?_)
              · refine V_ex sX12_shares_75 (by simp only [Option.toList, List.cons_append, List.nil_append, exN, ex1, gI, gL, gR, pI, pL, pR, lget, lset1, lset2, kl, b2I, b2L, nob, ob32, ob64, xGet, xPut, xLen, xLd, xLdR, xSt, obA, true_and, and_true, and_self, eq_self, Nat.reduceEqDiff, Nat.zero_ne_one, reduceIte, Nat.reduceLeDiff, and_false, false_and, show skd 11 59 = 1 from rfl, show LF.1 145 = some (.inl 11) from rfl, upd2_eq, Int.reduceToNat, Int.toNat_natCast]; rfl) (by first | exact trivial | exact Or.inr rfl | exact Or.inl rfl | (simp only [ob, obA, R32, R64] at *; omega) | (simp only [ob, obA, R32, R64] at *; and_intros <;> omega) | (simp [ob, obA])) ?_
                refine V_callV (M := MX12_shares) (N := MX12_shareOn) dX12_shares_85 lRX12_540 kX12_shareOn rfl (rfl) rfl (hR) rfl rfl (Nat.le_of_ble_eq_true rfl) (fit_rm (by omega)) (⟨Nat.le_of_ble_eq_true rfl, Nat.le_of_ble_eq_true rfl⟩) (fun v Ω' hp => ?_) (fun _ _ h => h.elim)
                obtain ⟨rfl, G5, rfl, f5, -, -, z1, z2, z3⟩ := hp
                have f45 := f4.trans f5
                have c56 : G5.1 145 56 = ((wsL A.1 j n).length : Nat) := (f45.i5 (by decide) (by decide)).trans h56
                obtain ⟨y1, y2⟩ := RM_shares (l := (bestS (wsL A.1 j n) c).2.map (fun c : Nat => (c : Int))) hC ((f2.mono (by decide) (by decide) (by decide)).trans (f45.mono (by decide) (by decide) (by decide))) (fun t ht => by rw [List.getElem_map]; exact z3 t (by simpa using ht))
                rw [List.length_map, hok.1] at y1 y2
                refine V_ex sX12_shares_88 (by simp only [Option.toList, List.cons_append, List.nil_append, exN, ex1, gI, gL, gR, pI, pL, pR, lget, lset1, lset2, kl, b2I, b2L, nob, ob32, ob64, xGet, xPut, xLen, xLd, xLdR, xSt, obA, true_and, and_true, and_self, eq_self, Nat.reduceEqDiff, Nat.zero_ne_one, reduceIte, Nat.reduceLeDiff, and_false, false_and, show skd 11 56 = 0 from rfl, show skd 11 57 = 0 from rfl, show skd 11 59 = 1 from rfl, show LF.1 145 = some (.inl 11) from rfl, c56, z1, upd2_eq, Int.reduceToNat, Int.toNat_natCast]; rfl) (by first | exact trivial | exact Or.inr rfl | exact Or.inl rfl | (simp only [ob, obA, R32, R64] at *; omega) | (simp only [ob, obA, R32, R64] at *; and_intros <;> omega) | (simp [ob, obA])) ?_
                refine V_lret dX12_shares_100 rfl (by decide) (by rw [e]; exact ⟨rfl, _, rfl, y1, y2, (iv (by decide)).trans ((f45.i5 (by decide) (by decide)).trans c2)⟩)
              · omega
            | succ k ih =>
              intro y yy G3 hyk hyy f3 hz
              subst hyy
              have nx := ih (y + 1) ((y : Int) + 1) (uL G3 180 y 0) (by omega) (by omega) (f3.b (by decide)) (fun x hx => by
                show upd2 G3.2.1 180 y 0 180 x = 0
                by_cases q : x = y
                · subst q; exact upd2_same ..
                · rw [uv (by omega)]; exact hz x (by omega))
              refine V_ex sX12_shares_57 (by rfl) (by first | exact trivial | exact Or.inr rfl | exact Or.inl rfl | (simp only [ob, obA, R32, R64] at *; omega) | (simp only [ob, obA, R32, R64] at *; and_intros <;> omega) | (simp [ob, obA])) ?_
              refine V_icmpge dX12_shares_59 (tgt := 75) (by decide) (by simp only [R32, R64] at *; omega) (fun q59 => ?_) (fun q59 => ?_)
              · omega
              · refine V_ex sX12_shares_62 (by simp only [Option.toList, List.cons_append, List.nil_append, exN, ex1, gI, gL, gR, pI, pL, pR, lget, lset1, lset2, kl, b2I, b2L, nob, ob32, ob64, xGet, xPut, xLen, xLd, xLdR, xSt, obA, true_and, and_true, and_self, eq_self, Nat.reduceEqDiff, Nat.zero_ne_one, reduceIte, Nat.reduceLeDiff, and_false, false_and, show skd 11 55 = 2 from rfl, show LF.1 145 = some (.inl 11) from rfl, show LF.2 145 55 = some 180 from rfl, show LF.1 180 = some (.inr (1, 4)) from rfl, Int.toNat_natCast, upd2_eq, Int.reduceToNat, Int.toNat_natCast]; rfl) (by first | exact trivial | exact Or.inr rfl | exact Or.inl rfl | (simp only [ob, obA, R32, R64] at *; omega) | (simp only [ob, obA, R32, R64] at *; and_intros <;> omega) | (simp [ob, obA])) ?_
                refine V_goto dX12_shares_72 (tgt := 57) (by decide) ?_
                exact nx
          have st := L 4 0 0 G2 (by omega) rfl (FM.refl _ _ _ _) (fun x hx => absurd hx (Nat.not_lt_zero _))
          refine V_ex sX12_shares_55 (by rfl) (by first | exact trivial | exact Or.inr rfl | exact Or.inl rfl | (simp only [ob, obA, R32, R64] at *; omega) | (simp only [ob, obA, R32, R64] at *; and_intros <;> omega) | (simp [ob, obA])) ?_
          exact st
        refine V_ex sX12_shares_0 (by simp only [Option.toList, List.cons_append, List.nil_append, exN, ex1, gI, gL, gR, pI, pL, pR, lget, lset1, lset2, kl, b2I, b2L, nob, ob32, ob64, xGet, xPut, xLen, xLd, xLdR, xSt, obA, true_and, and_true, and_self, eq_self, Nat.reduceEqDiff, Nat.zero_ne_one, reduceIte, Nat.reduceLeDiff, and_false, false_and, show skd 11 2 = 0 from rfl, show LF.1 145 = some (.inl 11) from rfl, upd2_eq, Int.reduceToNat, Int.toNat_natCast]; rfl) (by first | exact trivial | exact Or.inr rfl | exact Or.inl rfl | (simp only [ob, obA, R32, R64] at *; omega) | (simp only [ob, obA, R32, R64] at *; and_intros <;> omega) | (simp [ob, obA])) ?_
        refine V_callV (M := MX12_shares) (N := MX12_isBook) dX12_shares_7 lRX12_386 kX12_isBook rfl (rfl) rfl (c_mIsBook (d := 2) hκ hC1.1 hI.1 hi (by omega)) rfl rfl (Nat.le_of_ble_eq_true rfl) (fit_rm (by omega)) (⟨Nat.le_of_ble_eq_true rfl, Nat.le_of_ble_eq_true rfl⟩) (fun v Ω' hp => ?_) (fun _ _ h => h.elim)
        obtain ⟨rfl, rfl⟩ := hp
        refine V_ifneB dX12_shares_10 (tgt := 20) (by decide) (fun q10 => ?_) (fun q10 => ?_)
        · refine V_ex sX12_shares_20 (by rfl) (by first | exact trivial | exact Or.inr rfl | exact Or.inl rfl | (simp only [ob, obA, R32, R64] at *; omega) | (simp only [ob, obA, R32, R64] at *; and_intros <;> omega) | (simp [ob, obA])) ?_
          refine V_callS (M := MX12_shares) (N := MX12_isIn) dX12_shares_28 lRX12_178 kX12_isIn rfl (c_misIn (d := 2) hκ hch64 (by unfold R64; omega) (by unfold R64; omega)) rfl rfl (Nat.le_of_ble_eq_true rfl) (fit_rm (by omega)) (⟨Nat.le_of_ble_eq_true rfl, Nat.le_of_ble_eq_true rfl⟩) (fun v Ω' hp => ?_) (fun _ _ h => h.elim)
          obtain ⟨rfl, rfl⟩ := hp
          refine V_ifneB dX12_shares_31 (tgt := 41) (by decide) (fun q31 => ?_) (fun q31 => ?_)
          · refine V_ex sX12_shares_41 (by rfl) (by first | exact trivial | exact Or.inr rfl | exact Or.inl rfl | (simp only [ob, obA, R32, R64] at *; omega) | (simp only [ob, obA, R32, R64] at *; and_intros <;> omega) | (simp [ob, obA])) ?_
            refine V_callV (M := MX12_shares) (N := MX12_tellThere) dX12_shares_45 lRX12_544 kX12_tellThere rfl (rfl) rfl (hTT) rfl rfl (Nat.le_of_ble_eq_true rfl) (fit_rm (by omega)) (⟨Nat.le_of_ble_eq_true rfl, Nat.le_of_ble_eq_true rfl⟩) (fun v Ω' hp => ?_) (fun _ _ h => h.elim)
            obtain ⟨rfl, G2, rfl, f2, ht⟩ := hp
            obtain ⟨t56, tk⟩ := ht (by omega)
            refine V_ifneB dX12_shares_48 (tgt := 55) (by decide) (fun q48 => ?_) (fun q48 => ?_)
            · exact main G2 ((fn0 G 0).trans (f2.mono (by decide) (by decide) (by decide))) ((f2.i5 (by decide) (by decide)).trans iu) (by rw [hwl, hn]; exact t56) (fun k hk => by rw [wsL_at (by omega)]; subst hn; exact (tk k (by omega)).2)
            · cases q48
          · exact absurd hk2 (of_decide_eq_false q31)
        · exact absurd hin (of_decide_eq_false q10)
    · have e : sharesP A (j : Nat) ch = (2, 0, A) := by unfold sharesP; rw [if_neg (fun h => h hin), if_pos hk2]
      refine V_ex sX12_shares_0 (by simp only [Option.toList, List.cons_append, List.nil_append, exN, ex1, gI, gL, gR, pI, pL, pR, lget, lset1, lset2, kl, b2I, b2L, nob, ob32, ob64, xGet, xPut, xLen, xLd, xLdR, xSt, obA, true_and, and_true, and_self, eq_self, Nat.reduceEqDiff, Nat.zero_ne_one, reduceIte, Nat.reduceLeDiff, and_false, false_and, show skd 11 2 = 0 from rfl, show LF.1 145 = some (.inl 11) from rfl, upd2_eq, Int.reduceToNat, Int.toNat_natCast]; rfl) (by first | exact trivial | exact Or.inr rfl | exact Or.inl rfl | (simp only [ob, obA, R32, R64] at *; omega) | (simp only [ob, obA, R32, R64] at *; and_intros <;> omega) | (simp [ob, obA])) ?_
      refine V_callV (M := MX12_shares) (N := MX12_isBook) dX12_shares_7 lRX12_386 kX12_isBook rfl (rfl) rfl (c_mIsBook (d := 2) hκ hC1.1 hI.1 hi (by omega)) rfl rfl (Nat.le_of_ble_eq_true rfl) (fit_rm (by omega)) (⟨Nat.le_of_ble_eq_true rfl, Nat.le_of_ble_eq_true rfl⟩) (fun v Ω' hp => ?_) (fun _ _ h => h.elim)
      obtain ⟨rfl, rfl⟩ := hp
      refine V_ifneB dX12_shares_10 (tgt := 20) (by decide) (fun q10 => ?_) (fun q10 => ?_)
      · refine V_ex sX12_shares_20 (by rfl) (by first | exact trivial | exact Or.inr rfl | exact Or.inl rfl | (simp only [ob, obA, R32, R64] at *; omega) | (simp only [ob, obA, R32, R64] at *; and_intros <;> omega) | (simp [ob, obA])) ?_
        refine V_callS (M := MX12_shares) (N := MX12_isIn) dX12_shares_28 lRX12_178 kX12_isIn rfl (c_misIn (d := 2) hκ hch64 (by unfold R64; omega) (by unfold R64; omega)) rfl rfl (Nat.le_of_ble_eq_true rfl) (fit_rm (by omega)) (⟨Nat.le_of_ble_eq_true rfl, Nat.le_of_ble_eq_true rfl⟩) (fun v Ω' hp => ?_) (fun _ _ h => h.elim)
        obtain ⟨rfl, rfl⟩ := hp
        refine V_ifneB dX12_shares_31 (tgt := 41) (by decide) (fun q31 => ?_) (fun q31 => ?_)
        · exact absurd (of_decide_eq_true q31) hk2
        · refine V_ex sX12_shares_34 (by rfl) (by first | exact trivial | exact Or.inr rfl | exact Or.inl rfl | (simp only [ob, obA, R32, R64] at *; omega) | (simp only [ob, obA, R32, R64] at *; and_intros <;> omega) | (simp [ob, obA])) ?_
          refine V_callV (M := MX12_shares) (N := MX12_fail) dX12_shares_36 lRX12_324 kX12_fail rfl (rfl) rfl (c_mfail (d := 2) hκ) rfl rfl (Nat.le_of_ble_eq_true rfl) (fit_rm (by omega)) (⟨Nat.le_of_ble_eq_true rfl, Nat.le_of_ble_eq_true rfl⟩) (fun v Ω' hp => ?_) (fun _ _ h => h.elim)
          obtain ⟨rfl, rfl⟩ := hp
          refine V_ex sX12_shares_39 (by rfl) (by first | exact trivial | exact Or.inr rfl | exact Or.inl rfl | (simp only [ob, obA, R32, R64] at *; omega) | (simp only [ob, obA, R32, R64] at *; and_intros <;> omega) | (simp [ob, obA])) ?_
          refine V_lret dX12_shares_40 rfl (by decide) (by rw [e]; exact md_1 hC rfl rfl)
      · exact absurd hin (of_decide_eq_false q10)
  · have e : sharesP A i ch = (1, 0, A) := by unfold sharesP; rw [if_pos hin]
    refine V_ex sX12_shares_0 (by simp only [Option.toList, List.cons_append, List.nil_append, exN, ex1, gI, gL, gR, pI, pL, pR, lget, lset1, lset2, kl, b2I, b2L, nob, ob32, ob64, xGet, xPut, xLen, xLd, xLdR, xSt, obA, true_and, and_true, and_self, eq_self, Nat.reduceEqDiff, Nat.zero_ne_one, reduceIte, Nat.reduceLeDiff, and_false, false_and, show skd 11 2 = 0 from rfl, show LF.1 145 = some (.inl 11) from rfl, upd2_eq, Int.reduceToNat, Int.toNat_natCast]; rfl) (by first | exact trivial | exact Or.inr rfl | exact Or.inl rfl | (simp only [ob, obA, R32, R64] at *; omega) | (simp only [ob, obA, R32, R64] at *; and_intros <;> omega) | (simp [ob, obA])) ?_
    refine V_callV (M := MX12_shares) (N := MX12_isBook) dX12_shares_7 lRX12_386 kX12_isBook rfl (rfl) rfl (c_mIsBook (d := 2) hκ hC1.1 hI.1 hi (by omega)) rfl rfl (Nat.le_of_ble_eq_true rfl) (fit_rm (by omega)) (⟨Nat.le_of_ble_eq_true rfl, Nat.le_of_ble_eq_true rfl⟩) (fun v Ω' hp => ?_) (fun _ _ h => h.elim)
    obtain ⟨rfl, rfl⟩ := hp
    refine V_ifneB dX12_shares_10 (tgt := 20) (by decide) (fun q10 => ?_) (fun q10 => ?_)
    · exact absurd (of_decide_eq_true q10) hin
    · refine V_ex sX12_shares_13 (by rfl) (by first | exact trivial | exact Or.inr rfl | exact Or.inl rfl | (simp only [ob, obA, R32, R64] at *; omega) | (simp only [ob, obA, R32, R64] at *; and_intros <;> omega) | (simp [ob, obA])) ?_
      refine V_callV (M := MX12_shares) (N := MX12_fail) dX12_shares_15 lRX12_324 kX12_fail rfl (rfl) rfl (c_mfail (d := 2) hκ) rfl rfl (Nat.le_of_ble_eq_true rfl) (fit_rm (by omega)) (⟨Nat.le_of_ble_eq_true rfl, Nat.le_of_ble_eq_true rfl⟩) (fun v Ω' hp => ?_) (fun _ _ h => h.elim)
      obtain ⟨rfl, rfl⟩ := hp
      refine V_ex sX12_shares_18 (by rfl) (by first | exact trivial | exact Or.inr rfl | exact Or.inl rfl | (simp only [ob, obA, R32, R64] at *; omega) | (simp only [ob, obA, R32, R64] at *; and_intros <;> omega) | (simp [ob, obA])) ?_
      refine V_lret dX12_shares_19 rfl (by decide) (by rw [e]; exact md_1 hC rfl rfl)
