/-! THE MODEL: least -/
theorem smW_snoc {W : List Int} {z : Int} : smW (lw (W ++ [z])) 0 (W ++ [z]).length = smW (lw W) 0 W.length + z := by
  rw [List.length_append, List.length_singleton, smW_app, smW_c (w' := lw W) W.length 0 (fun j _ hj => by rw [lw_app, if_pos (by omega)]), lw_app, if_neg (by omega), if_pos (by omega)]
theorem sumLe_w (S : Sh) (j : Nat) : ∀ n, sumLe (cdS S) (bkJ S j) n = smW (lw (wsL S j n)) 0 (wsL S j n).length := by
  intro n
  induction n with
  | zero => rfl
  | succ n ih =>
    rw [sumLe, ih, wsL_s]
    split
    · omega
    · rw [smW_snoc]
theorem pickS_min {w : Nat → Int} (hw : ∀ j, 0 ≤ w j) (many size : Nat) (out : Int) : pickU w many size 0 out = pickS w many size 0 out := pickU_S hw _ _ _ _
/-- the model's cells that a choice sets -/
theorem RM_least {G G2 : Wd} {A : Ab} {l : List Int} (h : RM G A) (f : FN G G2) (hk : ∀ t (ht : t < l.length), G2.1 177 t = l[t]'ht) (h4 : l.length ≤ 4) : RM (beW (uI G2 145 58 (l.length : Nat)) 178 177 4) (leastA A l) ∧ FrM G (beW (uI G2 145 58 (l.length : Nat)) 178 177 4) := by
  obtain ⟨⟨r1, r2, r3, r4, r5, r6, r7, r8, r9⟩, g⟩ := RM_f h f
  have fx : ∀ x y, x ≠ 178 → ¬ (x = 145 ∧ y = 58) → (beW (uI G2 145 58 (l.length : Nat)) 178 177 4).1 x y = G2.1 x y := fun x y a b => by rw [be_n a, iv b]
  refine ⟨⟨mS0_c r1 (fun x a b => funext fun y => fx x y (by omega) (by omega)), evM_c r2 (Or.inl rfl) (fun j hj => fx _ _ (by omega) (by omega)) (fun _ _ => rfl) (fun x hx => funext fun y => fx _ _ (by omega) (by omega)), (fx _ _ (by omega) (by omega)).trans r3, imM_c r4 (fun j hj => fx _ _ (by omega) (by omega)) rfl (fun x hx => funext fun y => fx _ _ (by omega) (by omega)), (fx _ _ (by omega) (by omega)).trans r5, (fx _ _ (by omega) (by omega)).trans r6, fun j hj => (fx _ _ (by omega) (by omega)).trans (r7 j hj), ?_, ?_⟩, g.trans ⟨fun x a => funext fun y => fx _ _ (by omega) (by omega), fun _ _ => rfl, rfl⟩⟩
  · rw [fx 145 57 (by omega) (by omega)]
    exact kpO_c r8 (funext fun y => fx _ _ (by omega) (by omega))
  · refine ⟨by rw [be_n (by omega)]; exact iu, fun t ht => ?_⟩
    rw [be_a, if_pos (by omega), iv (by omega)]; exact hk t ht
set_option maxRecDepth 100000 in
set_option maxHeartbeats 4000000 in
theorem c_mxLeast {κ : Kx} (hκ : KOK κ) {d : Nat} {K i s : Int} {A : Ab} {G : Wd} (hC : RM G A) (hI : Inv K A) (hi : R32 i) (hs : R64 s) (hd : 20 ≤ d) : Ct κ MX12_least d 0 0 [VR 145, VI i, VL s] (Wm G) (mdP G (leastP A i s).2.2 (some (VI (leastP A i s).2.1)) (leastP A i s).1) noX := by
  refine Ct_of hκ kX12_least.1 rfl (Nat.le_of_ble_eq_true rfl) (ls := [some (VR 145), some (VI i), some (VL s), none, none, none, none]) rfl (fun μ => ?_)
  have hC1 := RM_0 hC 0
  by_cases hin : inB A.1 i
  · obtain ⟨j, hj⟩ : ∃ j : Nat, i = (j : Int) := ⟨i.toNat, by have := hin.1; omega⟩
    subst hj
    have hj : j < A.1.1.length := by have := hin.2; omega
    obtain ⟨g1, g2, g3, g4, g5⟩ := gone_ok hI.1 hj
    have hj6 : j < 6 := by have := hI.1.1; omega
    by_cases hk2 : 0 ≤ s ∧ s ≤ 1000000000000000000
    · have hTT := c_mTellThere (κ := κ) hκ (d := 10) (j := j) (m := 30) (G := uI G 145 2 0) hC1.1 hI.1 hj (by omega) (by omega)
      by_cases h30 : 30 < (bkJ A.1 j).2.2.1 - ((bkJ A.1 j).2.2.2.2.2.length : Nat)
      · have e : leastP A (j : Nat) s = (0, -2, A) := by have h30' : 30 < (bkA A (j : Nat)).2.2.1 - ((bkA A (j : Nat)).2.2.2.2.2.length : Nat) := h30; unfold leastP; rw [if_neg (fun h => h hin), if_neg (fun h => h hk2), if_pos h30']
        rw [decide_eq_false (show ¬ (bkJ A.1 j).2.2.1 - ((bkJ A.1 j).2.2.2.2.2.length : Nat) ≤ ((30 : Nat) : Int) by omega)] at hTT
        refine V_ex sX12_least_0 (by simp only [Option.toList, List.cons_append, List.nil_append, exN, ex1, gI, gL, gR, pI, pL, pR, lget, lset1, lset2, kl, b2I, b2L, nob, ob32, ob64, xGet, xPut, xLen, xLd, xLdR, xSt, obA, true_and, and_true, and_self, eq_self, Nat.reduceEqDiff, Nat.zero_ne_one, reduceIte, Nat.reduceLeDiff, and_false, false_and, show skd 11 2 = 0 from rfl, show LF.1 145 = some (.inl 11) from rfl, upd2_eq, Int.reduceToNat, Int.toNat_natCast]; rfl) (by first | exact trivial | exact Or.inr rfl | exact Or.inl rfl | (simp only [ob, obA, R32, R64] at *; omega) | (simp only [ob, obA, R32, R64] at *; and_intros <;> omega) | (simp [ob, obA])) ?_
        refine V_callV (M := MX12_least) (N := MX12_isBook) dX12_least_7 lRX12_386 kX12_isBook rfl (rfl) rfl (c_mIsBook (d := 2) hκ hC1.1 hI.1 hi (by omega)) rfl rfl (Nat.le_of_ble_eq_true rfl) (fit_rm (by omega)) (⟨Nat.le_of_ble_eq_true rfl, Nat.le_of_ble_eq_true rfl⟩) (fun v Ω' hp => ?_) (fun _ _ h => h.elim)
        obtain ⟨rfl, rfl⟩ := hp
        refine V_ifneB dX12_least_10 (tgt := 19) (by decide) (fun q10 => ?_) (fun q10 => ?_)
        · refine V_ex sX12_least_19 (by rfl) (by first | exact trivial | exact Or.inr rfl | exact Or.inl rfl | (simp only [ob, obA, R32, R64] at *; omega) | (simp only [ob, obA, R32, R64] at *; and_intros <;> omega) | (simp [ob, obA])) ?_
          refine V_callS (M := MX12_least) (N := MX12_isIn) dX12_least_24 lRX12_178 kX12_isIn rfl (c_misIn (d := 2) hκ hs (by unfold R64; omega) (by unfold R64; omega)) rfl rfl (Nat.le_of_ble_eq_true rfl) (fit_rm (by omega)) (⟨Nat.le_of_ble_eq_true rfl, Nat.le_of_ble_eq_true rfl⟩) (fun v Ω' hp => ?_) (fun _ _ h => h.elim)
          obtain ⟨rfl, rfl⟩ := hp
          refine V_ifneB dX12_least_27 (tgt := 36) (by decide) (fun q27 => ?_) (fun q27 => ?_)
          · refine V_ex sX12_least_36 (by rfl) (by first | exact trivial | exact Or.inr rfl | exact Or.inl rfl | (simp only [ob, obA, R32, R64] at *; omega) | (simp only [ob, obA, R32, R64] at *; and_intros <;> omega) | (simp [ob, obA])) ?_
            refine V_callV (M := MX12_least) (N := MX12_tellThere) dX12_least_40 lRX12_544 kX12_tellThere rfl (rfl) rfl (hTT) rfl rfl (Nat.le_of_ble_eq_true rfl) (fit_rm (by omega)) (⟨Nat.le_of_ble_eq_true rfl, Nat.le_of_ble_eq_true rfl⟩) (fun v Ω' hp => ?_) (fun _ _ h => h.elim)
            obtain ⟨rfl, G2, rfl, f2, -⟩ := hp
            refine V_ifneB dX12_least_43 (tgt := 49) (by decide) (fun q43 => ?_) (fun q43 => ?_)
            · cases q43
            · refine V_ex sX12_least_46 (by rfl) (by first | exact trivial | exact Or.inr rfl | exact Or.inl rfl | (simp only [ob, obA, R32, R64] at *; omega) | (simp only [ob, obA, R32, R64] at *; and_intros <;> omega) | (simp [ob, obA])) ?_
              refine V_iret dX12_least_48 rfl (by decide) (by rw [e]; exact md_f hC ((fn0 G 0).trans (f2.mono (by decide) (by decide) (by decide))) rfl ((f2.i5 (by decide) (by decide)).trans iu))
          · exact absurd hk2 (of_decide_eq_false q27)
        · exact absurd hin (of_decide_eq_false q10)
      · obtain ⟨n, hn⟩ : ∃ n : Nat, n = (bkJ A.1 j).2.2.1.toNat := ⟨_, rfl⟩
        have hnI : (n : Int) = (bkJ A.1 j).2.2.1 := by omega
        have e := leastP_5 hin hk2 h30
        have hlen := thL_len (g := (bkJ A.1 j).2.2.2.2.2) (n := n) g1 (fun z hz => by have := g3 z hz; omega)
        rw [decide_eq_true (show (bkJ A.1 j).2.2.1 - ((bkJ A.1 j).2.2.2.2.2.length : Nat) ≤ ((30 : Nat) : Int) by omega)] at hTT
        rw [← hn, sumLe_w] at e
        have hWR := wsL_R (S := A.1) (j := j) (n := n) hI.1 hj (by omega)
        obtain ⟨w, hwd⟩ : ∃ w, w = lw (wsL A.1 j n) := ⟨_, rfl⟩
        have hw : ∀ y, 0 ≤ w y ∧ w y ≤ 1000000 := fun y => by have := lw_nn hWR y; rw [hwd]; omega
        have hwl : (wsL A.1 j n).length = (thL (bkJ A.1 j).2.2.2.2.2 n).length := wsL_len
        obtain ⟨many, hmany⟩ : ∃ many, many = (thL (bkJ A.1 j).2.2.2.2.2 n).length := ⟨_, rfl⟩
        have hm30 : many ≤ 30 := by omega
        have hlS : ∀ out, lstS A.1 j out = leastS w many out 5 0 := fun out => by unfold lstS; rw [← hn, hwl, ← hmany, ← hwd]
        rw [hwl, ← hmany, ← hwd, hlS] at e
        have main : ∀ G2 : Wd, FN G G2 → G2.1 145 2 = 0 → G2.1 145 56 = (many : Nat) → (∀ k (h : k < (thL (bkJ A.1 j).2.2.2.2.2 n).length), G2.1 174 k = (thL (bkJ A.1 j).2.2.2.2.2 n)[k]'h) → (∀ k, k < many → G2.2.1 179 k = w k) → V κ MX12_least (rmD d 0 0) (mdP G (leastP A (j : Nat) s).2.2 (some (VI (leastP A (j : Nat) s).2.1)) (leastP A (j : Nat) s).1) noX 0 0 μ 0 0 (Wm (G2)) 49 [some (VR 145), some (VI (j : Nat)), some (VL s), none, none, none, none] [] := fun G2 f2 c2 h56 h174 h179 => by
          have hsR : ∀ i, i ≤ many → 0 ≤ smW w 0 i ∧ smW w 0 i ≤ 199998 * (i : Int) := fun i _ => smW_R (fun y => by rw [hwd]; exact lw_nn hWR y) i 0
          obtain ⟨out, hout⟩ : ∃ out, out = smW w 0 many - s := ⟨_, rfl⟩
          have hoR := hsR many (Nat.le_refl _)
          rw [← hout] at e
          have sizes : ∀ (k size : Nat) (ss : Int) (G3 : Wd), size + k = 5 → ss = (size : Int) → FM [] [177] [] G2 G3 → leastS w many out k size = leastS w many out 5 0 → V κ MX12_least (rmD d 0 0) (mdP G (leastP A (j : Nat) s).2.2 (some (VI (leastP A (j : Nat) s).2.1)) (leastP A (j : Nat) s).1) noX 0 0 μ 0 0 (Wm (G3)) 85 [some (VR 145), some (VI (j : Nat)), some (VL s), none, some (VL (smW w 0 many)), none, some (VI ss)] [] := by
            intro k
            induction k with
            | zero =>
              intro size ss G3 hsk hss f3 he
              rw [leastS] at he
              rw [← he] at e
              refine V_ex sX12_least_85 (by rfl) (by first | exact trivial | exact Or.inr rfl | exact Or.inl rfl | (simp only [ob, obA, R32, R64] at *; omega) | (simp only [ob, obA, R32, R64] at *; and_intros <;> omega) | (simp [ob, obA])) ?_
              refine V_icmpgt dX12_least_88 (tgt := 135) (by decide) (by simp only [R32, R64] at *; omega) (fun q88 => ?_) (fun q88 => ?_)
              · refine V_ex sX12_least_135 (by rfl) (by first | exact trivial | exact Or.inr rfl | exact Or.inl rfl | (simp only [ob, obA, R32, R64] at *; omega) | (simp only [ob, obA, R32, R64] at *; and_intros <;> omega) | (simp [ob, obA])) ?_
                refine V_iret dX12_least_136 rfl (by decide) (by rw [e]; exact md_f hC (f2.trans (f3.mono (by decide) (by decide) (by decide))) rfl ((f3.i5 (by decide) (by decide)).trans c2))
              · omega
            | succ k ih =>
              intro size ss G3 hsk hss f3 he
              subst hss
              have hT := toC_all hκ hm30 hw size 8 (by omega) 0 size 0 out G3 (by omega) (by omega) (by omega) ⟨by omega, by omega⟩ ((f3.i5 (by decide) (by decide)).trans h56) (fun y hy => by rw [f3.l (by decide) (by decide)]; exact h179 y hy)
              rw [Nat.sub_zero, pickS_min (fun y => (hw y).1)] at hT
              have hT : Ct κ MX12_tearOn 8 0 0 [VR 145, VI 0, VI (size : Nat), VI 0, VL out] (Wm G3) (toP G3 0 (pickS w many size 0 out)) noX := hT
              rw [leastS] at he
              refine V_ex sX12_least_85 (by rfl) (by first | exact trivial | exact Or.inr rfl | exact Or.inl rfl | (simp only [ob, obA, R32, R64] at *; omega) | (simp only [ob, obA, R32, R64] at *; and_intros <;> omega) | (simp [ob, obA])) ?_
              refine V_icmpgt dX12_least_88 (tgt := 135) (by decide) (by simp only [R32, R64] at *; omega) (fun q88 => ?_) (fun q88 => ?_)
              · omega
              · refine V_ex sX12_least_91 (by simp only [Option.toList, List.cons_append, List.nil_append, exN, ex1, gI, gL, gR, pI, pL, pR, lget, lset1, lset2, kl, b2I, b2L, nob, ob32, ob64, xGet, xPut, xLen, xLd, xLdR, xSt, obA, true_and, and_true, and_self, eq_self, Nat.reduceEqDiff, Nat.zero_ne_one, reduceIte, Nat.reduceLeDiff, and_false, false_and, ← hout, upd2_eq, Int.reduceToNat, Int.toNat_natCast]; rfl) (by first | exact trivial | exact Or.inr rfl | exact Or.inl rfl | (simp only [ob, obA, R32, R64] at *; omega) | (simp only [ob, obA, R32, R64] at *; and_intros <;> omega) | (simp [ob, obA])) ?_
                refine V_callV (M := MX12_least) (N := MX12_tearOn) dX12_least_100 lRX12_549 kX12_tearOn rfl (rfl) rfl (hT) rfl rfl (Nat.le_of_ble_eq_true rfl) (fit_rm (by omega)) (⟨Nat.le_of_ble_eq_true rfl, Nat.le_of_ble_eq_true rfl⟩) (fun v Ω' hp => ?_) (fun _ _ h => h.elim)
                obtain ⟨rfl, G4, rfl, f4, -, hrow⟩ := hp
                have f34 := f3.trans f4
                refine V_ifneB dX12_least_103 (tgt := 109) (by decide) (fun q103 => ?_) (fun q103 => ?_)
                · refine V_ex sX12_least_109 (by simp only [Option.toList, List.cons_append, List.nil_append, exN, ex1, gI, gL, gR, pI, pL, pR, lget, lset1, lset2, kl, b2I, b2L, nob, ob32, ob64, xGet, xPut, xLen, xLd, xLdR, xSt, obA, true_and, and_true, and_self, eq_self, Nat.reduceEqDiff, Nat.zero_ne_one, reduceIte, Nat.reduceLeDiff, and_false, false_and, show skd 11 58 = 0 from rfl, show skd 11 53 = 2 from rfl, show skd 11 52 = 2 from rfl, show LF.1 145 = some (.inl 11) from rfl, show LF.2 145 53 = some 178 from rfl, show LF.2 145 52 = some 177 from rfl, upd2_eq, Int.reduceToNat, Int.toNat_natCast]; rfl) (by first | exact trivial | exact Or.inr rfl | exact Or.inl rfl | (simp only [ob, obA, R32, R64] at *; omega) | (simp only [ob, obA, R32, R64] at *; and_intros <;> omega) | (simp [ob, obA])) ?_
                  refine V_callS (M := MX12_least) (N := MX12_be) dX12_least_123 lRX12_536 kX12_be rfl (c_mBe (d := 2) (a := 178) (b := 177) (n := 4) (G := uI G4 145 58 (size : Nat)) hκ rfl rfl (by decide) (by decide)) rfl rfl (Nat.le_of_ble_eq_true rfl) (fit_rm (by omega)) (⟨Nat.le_of_ble_eq_true rfl, Nat.le_of_ble_eq_true rfl⟩) (fun v Ω' hp => ?_) (fun _ _ h => h.elim)
                  obtain ⟨rfl, rfl⟩ := hp
                  refine V_ex sX12_least_126 (by rfl) (by first | exact trivial | exact Or.inr rfl | exact Or.inl rfl | (simp only [ob, obA, R32, R64] at *; omega) | (simp only [ob, obA, R32, R64] at *; and_intros <;> omega) | (simp [ob, obA])) ?_
                  refine V_iret dX12_least_128 rfl (by decide) ?_
                  obtain ⟨l, hl⟩ := Option.isSome_iff_exists.mp q103
                  rw [hl] at he
                  have he2 : some l = leastS w many out 5 0 := he
                  rw [← he2] at e
                  obtain ⟨hls, hlx⟩ := pickS_len w _ _ _ _ _ hl
                  have hln : (lstL A.1 j l).length = size := by unfold lstL; rw [List.length_map]; exact hls
                  obtain ⟨z1, z2⟩ := RM_least (l := lstL A.1 j l) hC (f2.trans (f34.mono (by decide) (by decide) (by decide))) (fun t ht => by
                    have ht2 : t < l.length := by omega
                    have hq := hrow l hl t ht2
                    rw [Nat.zero_add] at hq
                    have hly := hlx _ (List.getElem_mem ht2)
                    have hly2 : l[t]'ht2 < (thL (bkJ A.1 j).2.2.2.2.2 n).length := by omega
                    have h3 : G3.1 174 = G2.1 174 := f3.i (by decide) (by decide)
                    rw [hq, h3, h174 _ hly2, show (lstL A.1 j l)[t]'ht = (thL (bkJ A.1 j).2.2.2.2.2 (bkJ A.1 j).2.2.1.toNat).getD (l[t]'ht2) 0 from List.getElem_map _, ← hn, List.getD_eq_getElem?_getD, List.getElem?_eq_getElem hly2]; rfl) (by omega)
                  rw [hln] at z1 z2
                  rw [e]
                  exact ⟨congrArg (fun t : Nat => some (VI (t : Int))) hls.symm, _, rfl, z1, z2, (be_n (by decide)).trans ((iv (by decide)).trans ((f34.i5 (by decide) (by decide)).trans c2))⟩
                · refine V_goto dX12_least_106 (tgt := 129) (by decide) ?_
                  refine V_ex sX12_least_129 (by rfl) (by first | exact trivial | exact Or.inr rfl | exact Or.inl rfl | (simp only [ob, obA, R32, R64] at *; omega) | (simp only [ob, obA, R32, R64] at *; and_intros <;> omega) | (simp [ob, obA])) ?_
                  refine V_goto dX12_least_132 (tgt := 85) (by decide) ?_
                  have q6 : pickS w many size 0 out = none := Option.not_isSome_iff_eq_none.mp (by rw [q103]; decide)
                  rw [q6] at he
                  exact ih (size + 1) _ G4 (by omega) (by omega) f34 he
          have L : ∀ (k i : Nat) (ii : Int), i + k = many → ii = (i : Int) → V κ MX12_least (rmD d 0 0) (mdP G (leastP A (j : Nat) s).2.2 (some (VI (leastP A (j : Nat) s).2.1)) (leastP A (j : Nat) s).1) noX 0 0 μ 0 0 (Wm (G2)) 55 [some (VR 145), some (VI (j : Nat)), some (VL s), none, some (VL (smW w 0 i)), none, some (VI ii)] [] := by
            intro k
            induction k with
            | zero =>
              intro i ii hik hii
              obtain rfl : i = many := by omega
              have st := sizes 5 0 0 G2 (by omega) rfl (FM.refl _ _ _ _) rfl
              refine V_ex sX12_least_55 (by simp only [Option.toList, List.cons_append, List.nil_append, exN, ex1, gI, gL, gR, pI, pL, pR, lget, lset1, lset2, kl, b2I, b2L, nob, ob32, ob64, xGet, xPut, xLen, xLd, xLdR, xSt, obA, true_and, and_true, and_self, eq_self, Nat.reduceEqDiff, Nat.zero_ne_one, reduceIte, Nat.reduceLeDiff, and_false, false_and, show skd 11 56 = 0 from rfl, show LF.1 145 = some (.inl 11) from rfl, h56, upd2_eq, Int.reduceToNat, Int.toNat_natCast]; rfl) (by first | exact trivial | exact Or.inr rfl | exact Or.inl rfl | (simp only [ob, obA, R32, R64] at *; omega) | (simp only [ob, obA, R32, R64] at *; and_intros <;> omega) | (simp [ob, obA])) ?_
              refine V_icmpge dX12_least_61 (tgt := 82) (by decide) (by simp only [R32, R64] at *; omega) (fun q61 => ?_) (fun q61 => ?_)
              · refine V_ex sX12_least_82 (by rfl) (by first | exact trivial | exact Or.inr rfl | exact Or.inl rfl | (simp only [ob, obA, R32, R64] at *; omega) | (simp only [ob, obA, R32, R64] at *; and_intros <;> omega) | (simp [ob, obA])) ?_
                exact st
              · omega
            | succ k ih =>
              intro i ii hik hii
              subst hii
              have e9 := h179 i (by omega)
              have h1 := hsR i (by omega)
              have h2 := hsR (i + 1) (by omega)
              have hsm : smW w 0 (i + 1) = smW w 0 i + w i := by rw [smW_app, Nat.zero_add]
              have nx := ih (i + 1) ((i : Int) + 1) (by omega) (by omega)
              rw [hsm] at nx
              refine V_ex sX12_least_55 (by simp only [Option.toList, List.cons_append, List.nil_append, exN, ex1, gI, gL, gR, pI, pL, pR, lget, lset1, lset2, kl, b2I, b2L, nob, ob32, ob64, xGet, xPut, xLen, xLd, xLdR, xSt, obA, true_and, and_true, and_self, eq_self, Nat.reduceEqDiff, Nat.zero_ne_one, reduceIte, Nat.reduceLeDiff, and_false, false_and, show skd 11 56 = 0 from rfl, show LF.1 145 = some (.inl 11) from rfl, h56, upd2_eq, Int.reduceToNat, Int.toNat_natCast]; rfl) (by first | exact trivial | exact Or.inr rfl | exact Or.inl rfl | (simp only [ob, obA, R32, R64] at *; omega) | (simp only [ob, obA, R32, R64] at *; and_intros <;> omega) | (simp [ob, obA])) ?_
              refine V_icmpge dX12_least_61 (tgt := 82) (by decide) (by simp only [R32, R64] at *; omega) (fun q61 => ?_) (fun q61 => ?_)
              · omega
              · refine V_ex sX12_least_64 (by simp only [Option.toList, List.cons_append, List.nil_append, exN, ex1, gI, gL, gR, pI, pL, pR, lget, lset1, lset2, kl, b2I, b2L, nob, ob32, ob64, xGet, xPut, xLen, xLd, xLdR, xSt, obA, true_and, and_true, and_self, eq_self, Nat.reduceEqDiff, Nat.zero_ne_one, reduceIte, Nat.reduceLeDiff, and_false, false_and, show skd 11 54 = 2 from rfl, show LF.1 145 = some (.inl 11) from rfl, show LF.2 145 54 = some 179 from rfl, show LF.1 179 = some (.inr (1, 30)) from rfl, e9, Int.toNat_natCast, upd2_eq, Int.reduceToNat, Int.toNat_natCast]; rfl) (by first | exact trivial | exact Or.inr rfl | exact Or.inl rfl | (simp only [ob, obA, R32, R64] at *; omega) | (simp only [ob, obA, R32, R64] at *; and_intros <;> omega) | (simp [ob, obA])) ?_
                refine V_goto dX12_least_79 (tgt := 55) (by decide) ?_
                exact nx
          have st := L many 0 0 (by omega) rfl
          refine V_ex sX12_least_49 (by rfl) (by first | exact trivial | exact Or.inr rfl | exact Or.inl rfl | (simp only [ob, obA, R32, R64] at *; omega) | (simp only [ob, obA, R32, R64] at *; and_intros <;> omega) | (simp [ob, obA])) ?_
          exact st
        refine V_ex sX12_least_0 (by simp only [Option.toList, List.cons_append, List.nil_append, exN, ex1, gI, gL, gR, pI, pL, pR, lget, lset1, lset2, kl, b2I, b2L, nob, ob32, ob64, xGet, xPut, xLen, xLd, xLdR, xSt, obA, true_and, and_true, and_self, eq_self, Nat.reduceEqDiff, Nat.zero_ne_one, reduceIte, Nat.reduceLeDiff, and_false, false_and, show skd 11 2 = 0 from rfl, show LF.1 145 = some (.inl 11) from rfl, upd2_eq, Int.reduceToNat, Int.toNat_natCast]; rfl) (by first | exact trivial | exact Or.inr rfl | exact Or.inl rfl | (simp only [ob, obA, R32, R64] at *; omega) | (simp only [ob, obA, R32, R64] at *; and_intros <;> omega) | (simp [ob, obA])) ?_
        refine V_callV (M := MX12_least) (N := MX12_isBook) dX12_least_7 lRX12_386 kX12_isBook rfl (rfl) rfl (c_mIsBook (d := 2) hκ hC1.1 hI.1 hi (by omega)) rfl rfl (Nat.le_of_ble_eq_true rfl) (fit_rm (by omega)) (⟨Nat.le_of_ble_eq_true rfl, Nat.le_of_ble_eq_true rfl⟩) (fun v Ω' hp => ?_) (fun _ _ h => h.elim)
        obtain ⟨rfl, rfl⟩ := hp
        refine V_ifneB dX12_least_10 (tgt := 19) (by decide) (fun q10 => ?_) (fun q10 => ?_)
        · refine V_ex sX12_least_19 (by rfl) (by first | exact trivial | exact Or.inr rfl | exact Or.inl rfl | (simp only [ob, obA, R32, R64] at *; omega) | (simp only [ob, obA, R32, R64] at *; and_intros <;> omega) | (simp [ob, obA])) ?_
          refine V_callS (M := MX12_least) (N := MX12_isIn) dX12_least_24 lRX12_178 kX12_isIn rfl (c_misIn (d := 2) hκ hs (by unfold R64; omega) (by unfold R64; omega)) rfl rfl (Nat.le_of_ble_eq_true rfl) (fit_rm (by omega)) (⟨Nat.le_of_ble_eq_true rfl, Nat.le_of_ble_eq_true rfl⟩) (fun v Ω' hp => ?_) (fun _ _ h => h.elim)
          obtain ⟨rfl, rfl⟩ := hp
          refine V_ifneB dX12_least_27 (tgt := 36) (by decide) (fun q27 => ?_) (fun q27 => ?_)
          · refine V_ex sX12_least_36 (by rfl) (by first | exact trivial | exact Or.inr rfl | exact Or.inl rfl | (simp only [ob, obA, R32, R64] at *; omega) | (simp only [ob, obA, R32, R64] at *; and_intros <;> omega) | (simp [ob, obA])) ?_
            refine V_callV (M := MX12_least) (N := MX12_tellThere) dX12_least_40 lRX12_544 kX12_tellThere rfl (rfl) rfl (hTT) rfl rfl (Nat.le_of_ble_eq_true rfl) (fit_rm (by omega)) (⟨Nat.le_of_ble_eq_true rfl, Nat.le_of_ble_eq_true rfl⟩) (fun v Ω' hp => ?_) (fun _ _ h => h.elim)
            obtain ⟨rfl, G2, rfl, f2, ht⟩ := hp
            obtain ⟨t56, tk⟩ := ht (by omega)
            refine V_ifneB dX12_least_43 (tgt := 49) (by decide) (fun q43 => ?_) (fun q43 => ?_)
            · exact main G2 ((fn0 G 0).trans (f2.mono (by decide) (by decide) (by decide))) ((f2.i5 (by decide) (by decide)).trans iu) (by rw [hmany, hn]; exact t56) (by rw [hn]; exact fun k h => (tk k h).1) (fun k hk => by rw [hwd, wsL_at (by omega)]; subst hn; exact (tk k (by omega)).2)
            · cases q43
          · exact absurd hk2 (of_decide_eq_false q27)
        · exact absurd hin (of_decide_eq_false q10)
    · have e : leastP A (j : Nat) s = (2, 0, A) := by unfold leastP; rw [if_neg (fun h => h hin), if_pos hk2]
      refine V_ex sX12_least_0 (by simp only [Option.toList, List.cons_append, List.nil_append, exN, ex1, gI, gL, gR, pI, pL, pR, lget, lset1, lset2, kl, b2I, b2L, nob, ob32, ob64, xGet, xPut, xLen, xLd, xLdR, xSt, obA, true_and, and_true, and_self, eq_self, Nat.reduceEqDiff, Nat.zero_ne_one, reduceIte, Nat.reduceLeDiff, and_false, false_and, show skd 11 2 = 0 from rfl, show LF.1 145 = some (.inl 11) from rfl, upd2_eq, Int.reduceToNat, Int.toNat_natCast]; rfl) (by first | exact trivial | exact Or.inr rfl | exact Or.inl rfl | (simp only [ob, obA, R32, R64] at *; omega) | (simp only [ob, obA, R32, R64] at *; and_intros <;> omega) | (simp [ob, obA])) ?_
      refine V_callV (M := MX12_least) (N := MX12_isBook) dX12_least_7 lRX12_386 kX12_isBook rfl (rfl) rfl (c_mIsBook (d := 2) hκ hC1.1 hI.1 hi (by omega)) rfl rfl (Nat.le_of_ble_eq_true rfl) (fit_rm (by omega)) (⟨Nat.le_of_ble_eq_true rfl, Nat.le_of_ble_eq_true rfl⟩) (fun v Ω' hp => ?_) (fun _ _ h => h.elim)
      obtain ⟨rfl, rfl⟩ := hp
      refine V_ifneB dX12_least_10 (tgt := 19) (by decide) (fun q10 => ?_) (fun q10 => ?_)
      · refine V_ex sX12_least_19 (by rfl) (by first | exact trivial | exact Or.inr rfl | exact Or.inl rfl | (simp only [ob, obA, R32, R64] at *; omega) | (simp only [ob, obA, R32, R64] at *; and_intros <;> omega) | (simp [ob, obA])) ?_
        refine V_callS (M := MX12_least) (N := MX12_isIn) dX12_least_24 lRX12_178 kX12_isIn rfl (c_misIn (d := 2) hκ hs (by unfold R64; omega) (by unfold R64; omega)) rfl rfl (Nat.le_of_ble_eq_true rfl) (fit_rm (by omega)) (⟨Nat.le_of_ble_eq_true rfl, Nat.le_of_ble_eq_true rfl⟩) (fun v Ω' hp => ?_) (fun _ _ h => h.elim)
        obtain ⟨rfl, rfl⟩ := hp
        refine V_ifneB dX12_least_27 (tgt := 36) (by decide) (fun q27 => ?_) (fun q27 => ?_)
        · exact absurd (of_decide_eq_true q27) hk2
        · refine V_ex sX12_least_30 (by rfl) (by first | exact trivial | exact Or.inr rfl | exact Or.inl rfl | (simp only [ob, obA, R32, R64] at *; omega) | (simp only [ob, obA, R32, R64] at *; and_intros <;> omega) | (simp [ob, obA])) ?_
          refine V_callV (M := MX12_least) (N := MX12_fail) dX12_least_32 lRX12_324 kX12_fail rfl (rfl) rfl (c_mfail (d := 2) hκ) rfl rfl (Nat.le_of_ble_eq_true rfl) (fit_rm (by omega)) (⟨Nat.le_of_ble_eq_true rfl, Nat.le_of_ble_eq_true rfl⟩) (fun v Ω' hp => ?_) (fun _ _ h => h.elim)
          obtain ⟨rfl, rfl⟩ := hp
          refine V_iret dX12_least_35 rfl (by decide) (by rw [e]; exact md_1 hC rfl rfl)
      · exact absurd hin (of_decide_eq_false q10)
  · have e : leastP A i s = (1, 0, A) := by unfold leastP; rw [if_pos hin]
    refine V_ex sX12_least_0 (by simp only [Option.toList, List.cons_append, List.nil_append, exN, ex1, gI, gL, gR, pI, pL, pR, lget, lset1, lset2, kl, b2I, b2L, nob, ob32, ob64, xGet, xPut, xLen, xLd, xLdR, xSt, obA, true_and, and_true, and_self, eq_self, Nat.reduceEqDiff, Nat.zero_ne_one, reduceIte, Nat.reduceLeDiff, and_false, false_and, show skd 11 2 = 0 from rfl, show LF.1 145 = some (.inl 11) from rfl, upd2_eq, Int.reduceToNat, Int.toNat_natCast]; rfl) (by first | exact trivial | exact Or.inr rfl | exact Or.inl rfl | (simp only [ob, obA, R32, R64] at *; omega) | (simp only [ob, obA, R32, R64] at *; and_intros <;> omega) | (simp [ob, obA])) ?_
    refine V_callV (M := MX12_least) (N := MX12_isBook) dX12_least_7 lRX12_386 kX12_isBook rfl (rfl) rfl (c_mIsBook (d := 2) hκ hC1.1 hI.1 hi (by omega)) rfl rfl (Nat.le_of_ble_eq_true rfl) (fit_rm (by omega)) (⟨Nat.le_of_ble_eq_true rfl, Nat.le_of_ble_eq_true rfl⟩) (fun v Ω' hp => ?_) (fun _ _ h => h.elim)
    obtain ⟨rfl, rfl⟩ := hp
    refine V_ifneB dX12_least_10 (tgt := 19) (by decide) (fun q10 => ?_) (fun q10 => ?_)
    · exact absurd (of_decide_eq_true q10) hin
    · refine V_ex sX12_least_13 (by rfl) (by first | exact trivial | exact Or.inr rfl | exact Or.inl rfl | (simp only [ob, obA, R32, R64] at *; omega) | (simp only [ob, obA, R32, R64] at *; and_intros <;> omega) | (simp [ob, obA])) ?_
      refine V_callV (M := MX12_least) (N := MX12_fail) dX12_least_15 lRX12_324 kX12_fail rfl (rfl) rfl (c_mfail (d := 2) hκ) rfl rfl (Nat.le_of_ble_eq_true rfl) (fit_rm (by omega)) (⟨Nat.le_of_ble_eq_true rfl, Nat.le_of_ble_eq_true rfl⟩) (fun v Ω' hp => ?_) (fun _ _ h => h.elim)
      obtain ⟨rfl, rfl⟩ := hp
      refine V_iret dX12_least_18 rfl (by decide) (by rw [e]; exact md_1 hC rfl rfl)
