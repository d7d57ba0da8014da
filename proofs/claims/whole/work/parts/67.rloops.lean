/-! ShelfReader: loops of rules, tests, nots -/
theorem upd2_twice (f : Nat → Nat → Int) (a k : Nat) (y z : Int) : upd2 (upd2 f a k y) a k z = upd2 f a k z := by
  funext x j; simp only [upd2_eq]; split <;> rfl
theorem uI_twice {G : Wd} {a k : Nat} {y z : Int} : uI (uI G a k y) a k z = uI G a k z := by
  show (upd2 (upd2 G.1 a k y) a k z, G.2) = (upd2 G.1 a k z, G.2)
  rw [upd2_twice]
theorem uI_self {G : Wd} {a k : Nat} : uI G a k (G.1 a k) = G := by
  have : upd2 G.1 a k (G.1 a k) = G.1 := by
    funext x j; simp only [upd2_eq]; split
    · rename_i h; rw [h.1, h.2]
    · rfl
  show (upd2 G.1 a k (G.1 a k), G.2) = G
  rw [this]
set_option maxRecDepth 100000 in
set_option maxHeartbeats 4000000 in
theorem c_rProduct {κ : Kx} (hκ : KOK κ) {d d' s N H : Nat} {lv : Int} {w v : Nat → Int} {p : PE → PE} (hE : eE s w v N) (hsub : eC κ MX8_readPart d' s lv w v N p) (hPG : PG N H p) (hd : d' + 1 ≤ d) (hd2 : 3 ≤ d) {G : Wd} {i : Nat} {c : List Int} (h : eH s w v N G i c) : Ct κ MX8_readProduct d 0 0 [VR 3, VR s, VI lv] (Wm G) (eP s G i (pLoop opP w p 501 (p (i, 0, c)))) noX := by
  refine Ct_of hκ kX8_readProduct.1 rfl (Nat.le_of_ble_eq_true rfl) (ls := [some (VR 3), some (VR s), some (VI lv), none, none, none]) rfl (fun μ => ?_)
  have hE0 := hE
  obtain ⟨hS, hT, hN, hw⟩ := hE
  have h0 := h
  obtain ⟨hr, hi, hiN, hcd, hci⟩ := h
  have hne := sh_ne hS
  have h1S := (sh_facts hS).1
  have L : ∀ (k : Nat) (r : PE) (G1 : Wd) (ii : Int) (x : Option Vl), ii = 501 - (k : Int) → k ≤ 501 → eI s N (H + 1) G i c G1 r → pLoop opP w p k r = pLoop opP w p 501 (p (i, 0, c)) → V κ MX8_readProduct (rmD d 0 0) (eP s G i (pLoop opP w p 501 (p (i, 0, c)))) noX 0 0 μ 0 0 (Wm G1) 10 [some (VR 3), some (VR s), some (VI lv), some (VI (b2i (decide (r.2.1 = 0)))), some (VI ii), x] [] := by
    intro k
    induction k with
    | zero =>
      intro r G1 ii x hii hk hI he
      rw [pLoop] at he
      refine V_ex sX8_readProduct_10 (by rfl) (by first | exact trivial | exact Or.inr rfl | exact Or.inl rfl | (simp only [ob, obA, R32, R64] at *; omega) | (simp only [ob, obA, R32, R64] at *; and_intros <;> omega)) ?_
      refine V_icmpgt dX8_readProduct_15 (tgt := 93) (by decide) (by simp only [R32, R64] at *; omega) (fun q15 => ?_) (fun q15 => ?_)
      · refine V_ex sX8_readProduct_93 (by rfl) (by first | exact trivial | exact Or.inr rfl | exact Or.inl rfl | (simp only [ob, obA, R32, R64] at *; omega) | (simp only [ob, obA, R32, R64] at *; and_intros <;> omega)) ?_
        refine V_zret dX8_readProduct_94 rfl (by first | exact Or.inl rfl | exact Or.inr rfl | exact b2i_01 _) (by decide) (by rw [← he]; exact eI_P hI)
      · omega
    | succ k ih =>
      intro r G1 ii x hii hk hI he
      have hI0 := hI
      obtain ⟨f1, a1, b1, c1, d1, e1, g1⟩ := hI
      have hr1 := f1.rd hS hr
      have rN := g1.2.1
      have e5 := (hr1 r.1 rN).1
      have hwr := hw r.1 rN
      have stop : opP (w r.1) = none → V κ MX8_readProduct (rmD d 0 0) (eP s G i (pLoop opP w p 501 (p (i, 0, c)))) noX 0 0 μ 0 0 (Wm G1) 93 [some (VR 3), some (VR s), some (VI lv), some (VI (b2i (decide (r.2.1 = 0)))), some (VI ii), x] [] := fun hn => by
        rw [pLoop_no _ hn] at he
        refine V_ex sX8_readProduct_93 (by rfl) (by first | exact trivial | exact Or.inr rfl | exact Or.inl rfl | (simp only [ob, obA, R32, R64] at *; omega) | (simp only [ob, obA, R32, R64] at *; and_intros <;> omega)) ?_
        refine V_zret dX8_readProduct_94 rfl (by first | exact Or.inl rfl | exact Or.inr rfl | exact b2i_01 _) (by decide) (by rw [← he]; exact eI_P hI0)
      have stopb : r.2.1 ≠ 0 → V κ MX8_readProduct (rmD d 0 0) (eP s G i (pLoop opP w p 501 (p (i, 0, c)))) noX 0 0 μ 0 0 (Wm G1) 93 [some (VR 3), some (VR s), some (VI lv), some (VI (b2i (decide (r.2.1 = 0)))), some (VI ii), x] [] := fun hn => by
        rw [pLoop_bad _ hn] at he
        refine V_ex sX8_readProduct_93 (by rfl) (by first | exact trivial | exact Or.inr rfl | exact Or.inl rfl | (simp only [ob, obA, R32, R64] at *; omega) | (simp only [ob, obA, R32, R64] at *; and_intros <;> omega)) ?_
        refine V_zret dX8_readProduct_94 rfl (by first | exact Or.inl rfl | exact Or.inr rfl | exact b2i_01 _) (by decide) (by rw [← he]; exact eI_P hI0)
      have go : ∀ (o : Int), r.2.1 = 0 → opP (w r.1) = some o → V κ MX8_readProduct (rmD d 0 0) (eP s G i (pLoop opP w p 501 (p (i, 0, c)))) noX 0 0 μ 0 0 (Wm G1) 65 [some (VR 3), some (VR s), some (VI lv), some (VI (b2i (decide (r.2.1 = 0)))), some (VI ii), x] [VI o] := fun o hb ho => by
        have hlt : r.1 < N := pTok_lt hT rN (fun q => by rw [q] at ho; cases ho)
        rw [pLoop_go k hb ho] at he
        have hcr := (b1 hb).2
        have hlen : r.2.2.length ≤ r.1 := by
          obtain ⟨-, cs, k1, -, k3, -⟩ := g1.2.2.2.2 hb
          have := g1.1
          rw [k1]; simp; omega
        have hoo := opP_o _ _ ho
        refine V_ex sX8_readProduct_65 (by simp only [Option.toList, List.cons_append, List.nil_append, exN, ex1, gI, gL, gR, pI, pL, pR, lget, lset1, lset2, kl, b2I, b2L, nob, ob32, ob64, xGet, xPut, xLen, xLd, xLdR, xSt, obA, true_and, and_true, and_self, eq_self, Nat.reduceEqDiff, Nat.zero_ne_one, reduceIte, Nat.reduceLeDiff, and_false, false_and, show skd 7 0 = 2 from rfl, show LF.1 3 = some (.inl 7) from rfl, show LF.2 3 0 = some 4 from rfl, upd2_eq, Int.reduceToNat, Int.toNat_natCast]; rfl) (by first | exact trivial | exact Or.inr rfl | exact Or.inl rfl | (simp only [ob, obA, R32, R64] at *; omega) | (simp only [ob, obA, R32, R64] at *; and_intros <;> omega)) ?_
        refine V_callV (M := MX8_readProduct) (N := MX9_advance) dX8_readProduct_71 lRX8_52 kX9_advance rfl (rfl) rfl (c_tAdvance (d := 0) hκ) rfl rfl (Nat.le_of_ble_eq_true rfl) (fit_rm (by omega)) (⟨Nat.le_of_ble_eq_true rfl, Nat.le_of_ble_eq_true rfl⟩) (fun v Ω' hp => ?_) (fun _ _ h => h.elim)
        obtain ⟨rfl, rfl⟩ := hp
        rw [a1]
        refine V_ex sX8_readProduct_74 (by rfl) (by first | exact trivial | exact Or.inr rfl | exact Or.inl rfl | (simp only [ob, obA, R32, R64] at *; omega) | (simp only [ob, obA, R32, R64] at *; and_intros <;> omega)) ?_
        refine V_callV (M := MX8_readProduct) (N := MX8_readPart) dX8_readProduct_77 lRX8_177 kX8_readPart rfl (rfl) rfl (hsub (uI G1 4 6 ((r.1 : Int) + 1)) (r.1 + 1) r.2.2 ⟨(FE.cur s G1 _).rd hS hr1, by rw [of_cur]; omega, by omega, cd_cur hne hcr, by omega⟩) rfl rfl (Nat.le_of_ble_eq_true rfl) (fit_rm (by omega)) (⟨Nat.le_of_ble_eq_true rfl, Nat.le_of_ble_eq_true rfl⟩) (fun v Ω' hp => ?_) (fun _ _ h => h.elim)
        obtain ⟨rfl, G3, rfl, f3, a3, b3, c3, d3, e3⟩ := hp
        have hI3 := eI_next hE0 hcd hci hI0 hb hlt hPG hoo f3 a3 b3 c3 d3 e3
        have hg3 := hPG (r.1 + 1) r.2.2 (by omega)
        have hb8 : 0 ≤ G3.1 s 8 ∧ G3.1 s 8 ≤ 2000 := ⟨d3, by rw [at_cur (by omega)] at e3; have := hcr.1; have := hg3.2.1; omega⟩
        refine V_ex sX8_readProduct_80 (by rfl) (by first | exact trivial | exact Or.inr rfl | exact Or.inl rfl | (simp only [ob, obA, R32, R64] at *; omega) | (simp only [ob, obA, R32, R64] at *; and_intros <;> omega)) ?_
        refine V_callV (M := MX8_readProduct) (N := MX7_write) dX8_readProduct_84 lRX8_162 kX7_write rfl (h1S) rfl (c_write2 (d := 1) hκ hS hb8 (by omega)) rfl rfl (Nat.le_of_ble_eq_true rfl) (fit_rm (by omega)) (⟨Nat.le_of_ble_eq_true rfl, Nat.le_of_ble_eq_true rfl⟩) (fun v Ω' hp => ?_) (fun _ _ h => h.elim)
        obtain ⟨rfl, rfl⟩ := hp
        refine V_ex sX8_readProduct_87 (by rfl) (by first | exact trivial | exact Or.inr rfl | exact Or.inl rfl | (simp only [ob, obA, R32, R64] at *; omega) | (simp only [ob, obA, R32, R64] at *; and_intros <;> omega)) ?_
        refine V_goto dX8_readProduct_90 (tgt := 10) (by decide) ?_
        have hbb : decide ((p (r.1 + 1, 0, r.2.2)).2.1 = 0) = decide ((if (p (r.1 + 1, 0, r.2.2)).2.1 = 0 then ((p (r.1 + 1, 0, r.2.2)).1, (0 : Int), (p (r.1 + 1, 0, r.2.2)).2.2 ++ [o]) else p (r.1 + 1, 0, r.2.2)).2.1 = 0) := by
          by_cases c9 : (p (r.1 + 1, 0, r.2.2)).2.1 = 0
          · rw [if_pos c9, decide_eq_true c9]; rfl
          · rw [if_neg c9]
        rw [hbb]
        exact ih _ _ _ _ (by omega) (by omega) hI3 he
      refine V_ex sX8_readProduct_10 (by rfl) (by first | exact trivial | exact Or.inr rfl | exact Or.inl rfl | (simp only [ob, obA, R32, R64] at *; omega) | (simp only [ob, obA, R32, R64] at *; and_intros <;> omega)) ?_
      refine V_icmpgt dX8_readProduct_15 (tgt := 93) (by decide) (by simp only [R32, R64] at *; omega) (fun q15 => ?_) (fun q15 => ?_)
      · omega
      · refine V_ex sX8_readProduct_18 (by rfl) (by first | exact trivial | exact Or.inr rfl | exact Or.inl rfl | (simp only [ob, obA, R32, R64] at *; omega) | (simp only [ob, obA, R32, R64] at *; and_intros <;> omega)) ?_
        refine V_ifeqB dX8_readProduct_19 (tgt := 93) (by decide) (fun q19 => ?_) (fun q19 => ?_)
        · exact stopb (of_decide_eq_false q19)
        · have hb := of_decide_eq_true q19
          refine V_ex sX8_readProduct_22 (by simp only [Option.toList, List.cons_append, List.nil_append, exN, ex1, gI, gL, gR, pI, pL, pR, lget, lset1, lset2, kl, b2I, b2L, nob, ob32, ob64, xGet, xPut, xLen, xLd, xLdR, xSt, obA, true_and, and_true, and_self, eq_self, Nat.reduceEqDiff, Nat.zero_ne_one, reduceIte, Nat.reduceLeDiff, and_false, false_and, show skd 7 0 = 2 from rfl, show LF.1 3 = some (.inl 7) from rfl, show LF.2 3 0 = some 4 from rfl, upd2_eq, Int.reduceToNat, Int.toNat_natCast]; rfl) (by first | exact trivial | exact Or.inr rfl | exact Or.inl rfl | (simp only [ob, obA, R32, R64] at *; omega) | (simp only [ob, obA, R32, R64] at *; and_intros <;> omega)) ?_
          refine V_callV (M := MX8_readProduct) (N := MX9_is) dX8_readProduct_28 lRX8_37 kX9_is rfl (rfl) rfl (c_tIs (d := 0) hκ a1 (by omega) (by rw [e5]; unfold R32; omega) (by unfold R32; omega)) rfl rfl (Nat.le_of_ble_eq_true rfl) (fit_rm (by omega)) (⟨Nat.le_of_ble_eq_true rfl, Nat.le_of_ble_eq_true rfl⟩) (fun v Ω' hp => ?_) (fun _ _ h => h.elim)
          obtain ⟨rfl, rfl⟩ := hp
          rw [e5]
          refine V_ifneB dX8_readProduct_31 (tgt := 46) (by decide) (fun q31 => ?_) (fun q31 => ?_)
          · have h42 := of_decide_eq_true q31
            refine V_ex sX8_readProduct_46 (by simp only [Option.toList, List.cons_append, List.nil_append, exN, ex1, gI, gL, gR, pI, pL, pR, lget, lset1, lset2, kl, b2I, b2L, nob, ob32, ob64, xGet, xPut, xLen, xLd, xLdR, xSt, obA, true_and, and_true, and_self, eq_self, Nat.reduceEqDiff, Nat.zero_ne_one, reduceIte, Nat.reduceLeDiff, and_false, false_and, show skd 7 0 = 2 from rfl, show LF.1 3 = some (.inl 7) from rfl, show LF.2 3 0 = some 4 from rfl, upd2_eq, Int.reduceToNat, Int.toNat_natCast]; rfl) (by first | exact trivial | exact Or.inr rfl | exact Or.inl rfl | (simp only [ob, obA, R32, R64] at *; omega) | (simp only [ob, obA, R32, R64] at *; and_intros <;> omega)) ?_
            refine V_callV (M := MX8_readProduct) (N := MX9_is) dX8_readProduct_52 lRX8_37 kX9_is rfl (rfl) rfl (c_tIs (d := 0) hκ a1 (by omega) (by rw [e5]; unfold R32; omega) (by unfold R32; omega)) rfl rfl (Nat.le_of_ble_eq_true rfl) (fit_rm (by omega)) (⟨Nat.le_of_ble_eq_true rfl, Nat.le_of_ble_eq_true rfl⟩) (fun v Ω' hp => ?_) (fun _ _ h => h.elim)
            obtain ⟨rfl, rfl⟩ := hp
            rw [e5]
            refine V_ifeqB dX8_readProduct_55 (tgt := 63) (by decide) (fun q55 => ?_) (fun q55 => ?_)
            · exact absurd h42 (of_decide_eq_false q55)
            · refine V_ex sX8_readProduct_58 (by rfl) (by first | exact trivial | exact Or.inr rfl | exact Or.inl rfl | (simp only [ob, obA, R32, R64] at *; omega) | (simp only [ob, obA, R32, R64] at *; and_intros <;> omega)) ?_
              refine V_goto dX8_readProduct_60 (tgt := 65) (by decide) ?_
              exact go (-12) hb (by rw [opP, if_pos h42])
          · have h42 := of_decide_eq_false q31
            refine V_ex sX8_readProduct_34 (by simp only [Option.toList, List.cons_append, List.nil_append, exN, ex1, gI, gL, gR, pI, pL, pR, lget, lset1, lset2, kl, b2I, b2L, nob, ob32, ob64, xGet, xPut, xLen, xLd, xLdR, xSt, obA, true_and, and_true, and_self, eq_self, Nat.reduceEqDiff, Nat.zero_ne_one, reduceIte, Nat.reduceLeDiff, and_false, false_and, show skd 7 0 = 2 from rfl, show LF.1 3 = some (.inl 7) from rfl, show LF.2 3 0 = some 4 from rfl, upd2_eq, Int.reduceToNat, Int.toNat_natCast]; rfl) (by first | exact trivial | exact Or.inr rfl | exact Or.inl rfl | (simp only [ob, obA, R32, R64] at *; omega) | (simp only [ob, obA, R32, R64] at *; and_intros <;> omega)) ?_
            refine V_callV (M := MX8_readProduct) (N := MX9_is) dX8_readProduct_40 lRX8_37 kX9_is rfl (rfl) rfl (c_tIs (d := 0) hκ a1 (by omega) (by rw [e5]; unfold R32; omega) (by unfold R32; omega)) rfl rfl (Nat.le_of_ble_eq_true rfl) (fit_rm (by omega)) (⟨Nat.le_of_ble_eq_true rfl, Nat.le_of_ble_eq_true rfl⟩) (fun v Ω' hp => ?_) (fun _ _ h => h.elim)
            obtain ⟨rfl, rfl⟩ := hp
            rw [e5]
            refine V_ifeqB dX8_readProduct_43 (tgt := 93) (by decide) (fun q43 => ?_) (fun q43 => ?_)
            · have h47 := of_decide_eq_false q43
              exact stop (by rw [opP, if_neg h42, if_neg h47])
            · have h47 := of_decide_eq_true q43
              refine V_ex sX8_readProduct_46 (by simp only [Option.toList, List.cons_append, List.nil_append, exN, ex1, gI, gL, gR, pI, pL, pR, lget, lset1, lset2, kl, b2I, b2L, nob, ob32, ob64, xGet, xPut, xLen, xLd, xLdR, xSt, obA, true_and, and_true, and_self, eq_self, Nat.reduceEqDiff, Nat.zero_ne_one, reduceIte, Nat.reduceLeDiff, and_false, false_and, show skd 7 0 = 2 from rfl, show LF.1 3 = some (.inl 7) from rfl, show LF.2 3 0 = some 4 from rfl, upd2_eq, Int.reduceToNat, Int.toNat_natCast]; rfl) (by first | exact trivial | exact Or.inr rfl | exact Or.inl rfl | (simp only [ob, obA, R32, R64] at *; omega) | (simp only [ob, obA, R32, R64] at *; and_intros <;> omega)) ?_
              refine V_callV (M := MX8_readProduct) (N := MX9_is) dX8_readProduct_52 lRX8_37 kX9_is rfl (rfl) rfl (c_tIs (d := 0) hκ a1 (by omega) (by rw [e5]; unfold R32; omega) (by unfold R32; omega)) rfl rfl (Nat.le_of_ble_eq_true rfl) (fit_rm (by omega)) (⟨Nat.le_of_ble_eq_true rfl, Nat.le_of_ble_eq_true rfl⟩) (fun v Ω' hp => ?_) (fun _ _ h => h.elim)
              obtain ⟨rfl, rfl⟩ := hp
              rw [e5]
              refine V_ifeqB dX8_readProduct_55 (tgt := 63) (by decide) (fun q55 => ?_) (fun q55 => ?_)
              · refine V_ex sX8_readProduct_63 (by rfl) (by first | exact trivial | exact Or.inr rfl | exact Or.inl rfl | (simp only [ob, obA, R32, R64] at *; omega) | (simp only [ob, obA, R32, R64] at *; and_intros <;> omega)) ?_
                exact go (-13) hb (by rw [opP, if_neg h42, if_pos h47])
              · exact absurd (of_decide_eq_true q55) h42
  have hp0 := hPG i c hiN
  refine V_ex sX8_readProduct_0 (by rfl) (by first | exact trivial | exact Or.inr rfl | exact Or.inl rfl | (simp only [ob, obA, R32, R64] at *; omega) | (simp only [ob, obA, R32, R64] at *; and_intros <;> omega)) ?_
  refine V_callV (M := MX8_readProduct) (N := MX8_readPart) dX8_readProduct_3 lRX8_177 kX8_readPart rfl (rfl) rfl (hsub G i c h0) rfl rfl (Nat.le_of_ble_eq_true rfl) (fit_rm (by omega)) (⟨Nat.le_of_ble_eq_true rfl, Nat.le_of_ble_eq_true rfl⟩) (fun v Ω' hp => ?_) (fun _ _ h => h.elim)
  obtain ⟨rfl, G3, rfl, f3, a3, b3, c3, d3, e3⟩ := hp
  refine V_ex sX8_readProduct_6 (by rfl) (by first | exact trivial | exact Or.inr rfl | exact Or.inl rfl | (simp only [ob, obA, R32, R64] at *; omega) | (simp only [ob, obA, R32, R64] at *; and_intros <;> omega)) ?_
  exact L 501 _ G3 0 _ rfl (by omega) ⟨f3, a3, b3, c3, d3, e3, pRes_mono hp0 (by omega)⟩ rfl
set_option maxRecDepth 100000 in
set_option maxHeartbeats 4000000 in
theorem c_rSum {κ : Kx} (hκ : KOK κ) {d d' s N H : Nat} {lv : Int} {w v : Nat → Int} {p : PE → PE} (hE : eE s w v N) (hsub : eC κ MX8_readProduct d' s lv w v N p) (hPG : PG N H p) (hd : d' + 1 ≤ d) (hd2 : 3 ≤ d) {G : Wd} {i : Nat} {c : List Int} (h : eH s w v N G i c) : Ct κ MX8_readSum d 0 0 [VR 3, VR s, VI lv] (Wm G) (eP s G i (pLoop opS w p 501 (p (i, 0, c)))) noX := by
  refine Ct_of hκ kX8_readSum.1 rfl (Nat.le_of_ble_eq_true rfl) (ls := [some (VR 3), some (VR s), some (VI lv), none, none, none]) rfl (fun μ => ?_)
  have hE0 := hE
  obtain ⟨hS, hT, hN, hw⟩ := hE
  have h0 := h
  obtain ⟨hr, hi, hiN, hcd, hci⟩ := h
  have hne := sh_ne hS
  have h1S := (sh_facts hS).1
  have L : ∀ (k : Nat) (r : PE) (G1 : Wd) (ii : Int) (x : Option Vl), ii = 501 - (k : Int) → k ≤ 501 → eI s N (H + 1) G i c G1 r → pLoop opS w p k r = pLoop opS w p 501 (p (i, 0, c)) → V κ MX8_readSum (rmD d 0 0) (eP s G i (pLoop opS w p 501 (p (i, 0, c)))) noX 0 0 μ 0 0 (Wm G1) 10 [some (VR 3), some (VR s), some (VI lv), some (VI (b2i (decide (r.2.1 = 0)))), some (VI ii), x] [] := by
    intro k
    induction k with
    | zero =>
      intro r G1 ii x hii hk hI he
      rw [pLoop] at he
      refine V_ex sX8_readSum_10 (by rfl) (by first | exact trivial | exact Or.inr rfl | exact Or.inl rfl | (simp only [ob, obA, R32, R64] at *; omega) | (simp only [ob, obA, R32, R64] at *; and_intros <;> omega)) ?_
      refine V_icmpgt dX8_readSum_15 (tgt := 93) (by decide) (by simp only [R32, R64] at *; omega) (fun q15 => ?_) (fun q15 => ?_)
      · refine V_ex sX8_readSum_93 (by rfl) (by first | exact trivial | exact Or.inr rfl | exact Or.inl rfl | (simp only [ob, obA, R32, R64] at *; omega) | (simp only [ob, obA, R32, R64] at *; and_intros <;> omega)) ?_
        refine V_zret dX8_readSum_94 rfl (by first | exact Or.inl rfl | exact Or.inr rfl | exact b2i_01 _) (by decide) (by rw [← he]; exact eI_P hI)
      · omega
    | succ k ih =>
      intro r G1 ii x hii hk hI he
      have hI0 := hI
      obtain ⟨f1, a1, b1, c1, d1, e1, g1⟩ := hI
      have hr1 := f1.rd hS hr
      have rN := g1.2.1
      have e5 := (hr1 r.1 rN).1
      have hwr := hw r.1 rN
      have stop : opS (w r.1) = none → V κ MX8_readSum (rmD d 0 0) (eP s G i (pLoop opS w p 501 (p (i, 0, c)))) noX 0 0 μ 0 0 (Wm G1) 93 [some (VR 3), some (VR s), some (VI lv), some (VI (b2i (decide (r.2.1 = 0)))), some (VI ii), x] [] := fun hn => by
        rw [pLoop_no _ hn] at he
        refine V_ex sX8_readSum_93 (by rfl) (by first | exact trivial | exact Or.inr rfl | exact Or.inl rfl | (simp only [ob, obA, R32, R64] at *; omega) | (simp only [ob, obA, R32, R64] at *; and_intros <;> omega)) ?_
        refine V_zret dX8_readSum_94 rfl (by first | exact Or.inl rfl | exact Or.inr rfl | exact b2i_01 _) (by decide) (by rw [← he]; exact eI_P hI0)
      have stopb : r.2.1 ≠ 0 → V κ MX8_readSum (rmD d 0 0) (eP s G i (pLoop opS w p 501 (p (i, 0, c)))) noX 0 0 μ 0 0 (Wm G1) 93 [some (VR 3), some (VR s), some (VI lv), some (VI (b2i (decide (r.2.1 = 0)))), some (VI ii), x] [] := fun hn => by
        rw [pLoop_bad _ hn] at he
        refine V_ex sX8_readSum_93 (by rfl) (by first | exact trivial | exact Or.inr rfl | exact Or.inl rfl | (simp only [ob, obA, R32, R64] at *; omega) | (simp only [ob, obA, R32, R64] at *; and_intros <;> omega)) ?_
        refine V_zret dX8_readSum_94 rfl (by first | exact Or.inl rfl | exact Or.inr rfl | exact b2i_01 _) (by decide) (by rw [← he]; exact eI_P hI0)
      have go : ∀ (o : Int), r.2.1 = 0 → opS (w r.1) = some o → V κ MX8_readSum (rmD d 0 0) (eP s G i (pLoop opS w p 501 (p (i, 0, c)))) noX 0 0 μ 0 0 (Wm G1) 65 [some (VR 3), some (VR s), some (VI lv), some (VI (b2i (decide (r.2.1 = 0)))), some (VI ii), x] [VI o] := fun o hb ho => by
        have hlt : r.1 < N := pTok_lt hT rN (fun q => by rw [q] at ho; cases ho)
        rw [pLoop_go k hb ho] at he
        have hcr := (b1 hb).2
        have hlen : r.2.2.length ≤ r.1 := by
          obtain ⟨-, cs, k1, -, k3, -⟩ := g1.2.2.2.2 hb
          have := g1.1
          rw [k1]; simp; omega
        have hoo := opS_o _ _ ho
        refine V_ex sX8_readSum_65 (by simp only [Option.toList, List.cons_append, List.nil_append, exN, ex1, gI, gL, gR, pI, pL, pR, lget, lset1, lset2, kl, b2I, b2L, nob, ob32, ob64, xGet, xPut, xLen, xLd, xLdR, xSt, obA, true_and, and_true, and_self, eq_self, Nat.reduceEqDiff, Nat.zero_ne_one, reduceIte, Nat.reduceLeDiff, and_false, false_and, show skd 7 0 = 2 from rfl, show LF.1 3 = some (.inl 7) from rfl, show LF.2 3 0 = some 4 from rfl, upd2_eq, Int.reduceToNat, Int.toNat_natCast]; rfl) (by first | exact trivial | exact Or.inr rfl | exact Or.inl rfl | (simp only [ob, obA, R32, R64] at *; omega) | (simp only [ob, obA, R32, R64] at *; and_intros <;> omega)) ?_
        refine V_callV (M := MX8_readSum) (N := MX9_advance) dX8_readSum_71 lRX8_52 kX9_advance rfl (rfl) rfl (c_tAdvance (d := 0) hκ) rfl rfl (Nat.le_of_ble_eq_true rfl) (fit_rm (by omega)) (⟨Nat.le_of_ble_eq_true rfl, Nat.le_of_ble_eq_true rfl⟩) (fun v Ω' hp => ?_) (fun _ _ h => h.elim)
        obtain ⟨rfl, rfl⟩ := hp
        rw [a1]
        refine V_ex sX8_readSum_74 (by rfl) (by first | exact trivial | exact Or.inr rfl | exact Or.inl rfl | (simp only [ob, obA, R32, R64] at *; omega) | (simp only [ob, obA, R32, R64] at *; and_intros <;> omega)) ?_
        refine V_callV (M := MX8_readSum) (N := MX8_readProduct) dX8_readSum_77 lRX8_174 kX8_readProduct rfl (rfl) rfl (hsub (uI G1 4 6 ((r.1 : Int) + 1)) (r.1 + 1) r.2.2 ⟨(FE.cur s G1 _).rd hS hr1, by rw [of_cur]; omega, by omega, cd_cur hne hcr, by omega⟩) rfl rfl (Nat.le_of_ble_eq_true rfl) (fit_rm (by omega)) (⟨Nat.le_of_ble_eq_true rfl, Nat.le_of_ble_eq_true rfl⟩) (fun v Ω' hp => ?_) (fun _ _ h => h.elim)
        obtain ⟨rfl, G3, rfl, f3, a3, b3, c3, d3, e3⟩ := hp
        have hI3 := eI_next hE0 hcd hci hI0 hb hlt hPG hoo f3 a3 b3 c3 d3 e3
        have hg3 := hPG (r.1 + 1) r.2.2 (by omega)
        have hb8 : 0 ≤ G3.1 s 8 ∧ G3.1 s 8 ≤ 2000 := ⟨d3, by rw [at_cur (by omega)] at e3; have := hcr.1; have := hg3.2.1; omega⟩
        refine V_ex sX8_readSum_80 (by rfl) (by first | exact trivial | exact Or.inr rfl | exact Or.inl rfl | (simp only [ob, obA, R32, R64] at *; omega) | (simp only [ob, obA, R32, R64] at *; and_intros <;> omega)) ?_
        refine V_callV (M := MX8_readSum) (N := MX7_write) dX8_readSum_84 lRX8_162 kX7_write rfl (h1S) rfl (c_write2 (d := 1) hκ hS hb8 (by omega)) rfl rfl (Nat.le_of_ble_eq_true rfl) (fit_rm (by omega)) (⟨Nat.le_of_ble_eq_true rfl, Nat.le_of_ble_eq_true rfl⟩) (fun v Ω' hp => ?_) (fun _ _ h => h.elim)
        obtain ⟨rfl, rfl⟩ := hp
        refine V_ex sX8_readSum_87 (by rfl) (by first | exact trivial | exact Or.inr rfl | exact Or.inl rfl | (simp only [ob, obA, R32, R64] at *; omega) | (simp only [ob, obA, R32, R64] at *; and_intros <;> omega)) ?_
        refine V_goto dX8_readSum_90 (tgt := 10) (by decide) ?_
        have hbb : decide ((p (r.1 + 1, 0, r.2.2)).2.1 = 0) = decide ((if (p (r.1 + 1, 0, r.2.2)).2.1 = 0 then ((p (r.1 + 1, 0, r.2.2)).1, (0 : Int), (p (r.1 + 1, 0, r.2.2)).2.2 ++ [o]) else p (r.1 + 1, 0, r.2.2)).2.1 = 0) := by
          by_cases c9 : (p (r.1 + 1, 0, r.2.2)).2.1 = 0
          · rw [if_pos c9, decide_eq_true c9]; rfl
          · rw [if_neg c9]
        rw [hbb]
        exact ih _ _ _ _ (by omega) (by omega) hI3 he
      refine V_ex sX8_readSum_10 (by rfl) (by first | exact trivial | exact Or.inr rfl | exact Or.inl rfl | (simp only [ob, obA, R32, R64] at *; omega) | (simp only [ob, obA, R32, R64] at *; and_intros <;> omega)) ?_
      refine V_icmpgt dX8_readSum_15 (tgt := 93) (by decide) (by simp only [R32, R64] at *; omega) (fun q15 => ?_) (fun q15 => ?_)
      · omega
      · refine V_ex sX8_readSum_18 (by rfl) (by first | exact trivial | exact Or.inr rfl | exact Or.inl rfl | (simp only [ob, obA, R32, R64] at *; omega) | (simp only [ob, obA, R32, R64] at *; and_intros <;> omega)) ?_
        refine V_ifeqB dX8_readSum_19 (tgt := 93) (by decide) (fun q19 => ?_) (fun q19 => ?_)
        · exact stopb (of_decide_eq_false q19)
        · have hb := of_decide_eq_true q19
          refine V_ex sX8_readSum_22 (by simp only [Option.toList, List.cons_append, List.nil_append, exN, ex1, gI, gL, gR, pI, pL, pR, lget, lset1, lset2, kl, b2I, b2L, nob, ob32, ob64, xGet, xPut, xLen, xLd, xLdR, xSt, obA, true_and, and_true, and_self, eq_self, Nat.reduceEqDiff, Nat.zero_ne_one, reduceIte, Nat.reduceLeDiff, and_false, false_and, show skd 7 0 = 2 from rfl, show LF.1 3 = some (.inl 7) from rfl, show LF.2 3 0 = some 4 from rfl, upd2_eq, Int.reduceToNat, Int.toNat_natCast]; rfl) (by first | exact trivial | exact Or.inr rfl | exact Or.inl rfl | (simp only [ob, obA, R32, R64] at *; omega) | (simp only [ob, obA, R32, R64] at *; and_intros <;> omega)) ?_
          refine V_callV (M := MX8_readSum) (N := MX9_is) dX8_readSum_28 lRX8_37 kX9_is rfl (rfl) rfl (c_tIs (d := 0) hκ a1 (by omega) (by rw [e5]; unfold R32; omega) (by unfold R32; omega)) rfl rfl (Nat.le_of_ble_eq_true rfl) (fit_rm (by omega)) (⟨Nat.le_of_ble_eq_true rfl, Nat.le_of_ble_eq_true rfl⟩) (fun v Ω' hp => ?_) (fun _ _ h => h.elim)
          obtain ⟨rfl, rfl⟩ := hp
          rw [e5]
          refine V_ifneB dX8_readSum_31 (tgt := 46) (by decide) (fun q31 => ?_) (fun q31 => ?_)
          · have h42 := of_decide_eq_true q31
            refine V_ex sX8_readSum_46 (by simp only [Option.toList, List.cons_append, List.nil_append, exN, ex1, gI, gL, gR, pI, pL, pR, lget, lset1, lset2, kl, b2I, b2L, nob, ob32, ob64, xGet, xPut, xLen, xLd, xLdR, xSt, obA, true_and, and_true, and_self, eq_self, Nat.reduceEqDiff, Nat.zero_ne_one, reduceIte, Nat.reduceLeDiff, and_false, false_and, show skd 7 0 = 2 from rfl, show LF.1 3 = some (.inl 7) from rfl, show LF.2 3 0 = some 4 from rfl, upd2_eq, Int.reduceToNat, Int.toNat_natCast]; rfl) (by first | exact trivial | exact Or.inr rfl | exact Or.inl rfl | (simp only [ob, obA, R32, R64] at *; omega) | (simp only [ob, obA, R32, R64] at *; and_intros <;> omega)) ?_
            refine V_callV (M := MX8_readSum) (N := MX9_is) dX8_readSum_52 lRX8_37 kX9_is rfl (rfl) rfl (c_tIs (d := 0) hκ a1 (by omega) (by rw [e5]; unfold R32; omega) (by unfold R32; omega)) rfl rfl (Nat.le_of_ble_eq_true rfl) (fit_rm (by omega)) (⟨Nat.le_of_ble_eq_true rfl, Nat.le_of_ble_eq_true rfl⟩) (fun v Ω' hp => ?_) (fun _ _ h => h.elim)
            obtain ⟨rfl, rfl⟩ := hp
            rw [e5]
            refine V_ifeqB dX8_readSum_55 (tgt := 63) (by decide) (fun q55 => ?_) (fun q55 => ?_)
            · exact absurd h42 (of_decide_eq_false q55)
            · refine V_ex sX8_readSum_58 (by rfl) (by first | exact trivial | exact Or.inr rfl | exact Or.inl rfl | (simp only [ob, obA, R32, R64] at *; omega) | (simp only [ob, obA, R32, R64] at *; and_intros <;> omega)) ?_
              refine V_goto dX8_readSum_60 (tgt := 65) (by decide) ?_
              exact go (-10) hb (by rw [opS, if_pos h42])
          · have h42 := of_decide_eq_false q31
            refine V_ex sX8_readSum_34 (by simp only [Option.toList, List.cons_append, List.nil_append, exN, ex1, gI, gL, gR, pI, pL, pR, lget, lset1, lset2, kl, b2I, b2L, nob, ob32, ob64, xGet, xPut, xLen, xLd, xLdR, xSt, obA, true_and, and_true, and_self, eq_self, Nat.reduceEqDiff, Nat.zero_ne_one, reduceIte, Nat.reduceLeDiff, and_false, false_and, show skd 7 0 = 2 from rfl, show LF.1 3 = some (.inl 7) from rfl, show LF.2 3 0 = some 4 from rfl, upd2_eq, Int.reduceToNat, Int.toNat_natCast]; rfl) (by first | exact trivial | exact Or.inr rfl | exact Or.inl rfl | (simp only [ob, obA, R32, R64] at *; omega) | (simp only [ob, obA, R32, R64] at *; and_intros <;> omega)) ?_
            refine V_callV (M := MX8_readSum) (N := MX9_is) dX8_readSum_40 lRX8_37 kX9_is rfl (rfl) rfl (c_tIs (d := 0) hκ a1 (by omega) (by rw [e5]; unfold R32; omega) (by unfold R32; omega)) rfl rfl (Nat.le_of_ble_eq_true rfl) (fit_rm (by omega)) (⟨Nat.le_of_ble_eq_true rfl, Nat.le_of_ble_eq_true rfl⟩) (fun v Ω' hp => ?_) (fun _ _ h => h.elim)
            obtain ⟨rfl, rfl⟩ := hp
            rw [e5]
            refine V_ifeqB dX8_readSum_43 (tgt := 93) (by decide) (fun q43 => ?_) (fun q43 => ?_)
            · have h47 := of_decide_eq_false q43
              exact stop (by rw [opS, if_neg h42, if_neg h47])
            · have h47 := of_decide_eq_true q43
              refine V_ex sX8_readSum_46 (by simp only [Option.toList, List.cons_append, List.nil_append, exN, ex1, gI, gL, gR, pI, pL, pR, lget, lset1, lset2, kl, b2I, b2L, nob, ob32, ob64, xGet, xPut, xLen, xLd, xLdR, xSt, obA, true_and, and_true, and_self, eq_self, Nat.reduceEqDiff, Nat.zero_ne_one, reduceIte, Nat.reduceLeDiff, and_false, false_and, show skd 7 0 = 2 from rfl, show LF.1 3 = some (.inl 7) from rfl, show LF.2 3 0 = some 4 from rfl, upd2_eq, Int.reduceToNat, Int.toNat_natCast]; rfl) (by first | exact trivial | exact Or.inr rfl | exact Or.inl rfl | (simp only [ob, obA, R32, R64] at *; omega) | (simp only [ob, obA, R32, R64] at *; and_intros <;> omega)) ?_
              refine V_callV (M := MX8_readSum) (N := MX9_is) dX8_readSum_52 lRX8_37 kX9_is rfl (rfl) rfl (c_tIs (d := 0) hκ a1 (by omega) (by rw [e5]; unfold R32; omega) (by unfold R32; omega)) rfl rfl (Nat.le_of_ble_eq_true rfl) (fit_rm (by omega)) (⟨Nat.le_of_ble_eq_true rfl, Nat.le_of_ble_eq_true rfl⟩) (fun v Ω' hp => ?_) (fun _ _ h => h.elim)
              obtain ⟨rfl, rfl⟩ := hp
              rw [e5]
              refine V_ifeqB dX8_readSum_55 (tgt := 63) (by decide) (fun q55 => ?_) (fun q55 => ?_)
              · refine V_ex sX8_readSum_63 (by rfl) (by first | exact trivial | exact Or.inr rfl | exact Or.inl rfl | (simp only [ob, obA, R32, R64] at *; omega) | (simp only [ob, obA, R32, R64] at *; and_intros <;> omega)) ?_
                exact go (-11) hb (by rw [opS, if_neg h42, if_pos h47])
              · exact absurd (of_decide_eq_true q55) h42
  have hp0 := hPG i c hiN
  refine V_ex sX8_readSum_0 (by rfl) (by first | exact trivial | exact Or.inr rfl | exact Or.inl rfl | (simp only [ob, obA, R32, R64] at *; omega) | (simp only [ob, obA, R32, R64] at *; and_intros <;> omega)) ?_
  refine V_callV (M := MX8_readSum) (N := MX8_readProduct) dX8_readSum_3 lRX8_174 kX8_readProduct rfl (rfl) rfl (hsub G i c h0) rfl rfl (Nat.le_of_ble_eq_true rfl) (fit_rm (by omega)) (⟨Nat.le_of_ble_eq_true rfl, Nat.le_of_ble_eq_true rfl⟩) (fun v Ω' hp => ?_) (fun _ _ h => h.elim)
  obtain ⟨rfl, G3, rfl, f3, a3, b3, c3, d3, e3⟩ := hp
  refine V_ex sX8_readSum_6 (by rfl) (by first | exact trivial | exact Or.inr rfl | exact Or.inl rfl | (simp only [ob, obA, R32, R64] at *; omega) | (simp only [ob, obA, R32, R64] at *; and_intros <;> omega)) ?_
  exact L 501 _ G3 0 _ rfl (by omega) ⟨f3, a3, b3, c3, d3, e3, pRes_mono hp0 (by omega)⟩ rfl
set_option maxRecDepth 100000 in
set_option maxHeartbeats 4000000 in
theorem c_rTest {κ : Kx} (hκ : KOK κ) {d d' s N H : Nat} {lv : Int} {w v : Nat → Int} {rec : PE → PE} (hE : eE s w v N) (hsub : eC κ MX8_readSum d' s lv w v N (pSum w v rec)) (hPG : PG N (H + 1) (pSum w v rec)) (hd : d' + 1 ≤ d) (hd2 : 3 ≤ d) {G : Wd} {i : Nat} {c : List Int} (h : eH s w v N G i c) : Ct κ MX8_readTest d 0 0 [VR 3, VR s, VI lv] (Wm G) (eP s G i (pTst w v rec (i, 0, c))) noX := by
  refine Ct_of hκ kX8_readTest.1 rfl (Nat.le_of_ble_eq_true rfl) (ls := [some (VR 3), some (VR s), some (VI lv), none, none]) rfl (fun μ => ?_)
  have hE0 := hE
  obtain ⟨hS, hT, hN, hw⟩ := hE
  have h0 := h
  obtain ⟨hr, hi, hiN, hcd, hci⟩ := h
  have hne := sh_ne hS
  have h1S := (sh_facts hS).1
  have hp0 := hPG i c hiN
  have body : ∀ (G1 : Wd) (r : PE), r = pSum w v rec (i, 0, c) → eI s N (H + 2) G i c G1 r → V κ MX8_readTest (rmD d 0 0) (eP s G i (pTst w v rec (i, 0, c))) noX 0 0 μ 0 0 (Wm G1) 6 [some (VR 3), some (VR s), some (VI lv), none, none] [VI (b2i (decide (r.2.1 = 0)))] := by
    intro G1 r hrr hI
    have hI0 := hI
    obtain ⟨f1, a1, b1, c1, d1, e1, g1⟩ := hI
    have hr1 := f1.rd hS hr
    have rN := g1.2.1
    have e5 := (hr1 r.1 rN).1
    have hwr := hw r.1 rN
    have hT1 : r.2.1 ≠ 0 → pTst w v rec (i, 0, c) = r := fun q => by unfold pTst; rw [← hrr, if_pos q]
    have hT2 : r.2.1 = 0 → ¬ (w r.1 = 60 ∨ w r.1 = 61) → pTst w v rec (i, 0, c) = r := fun q1 q2 => by unfold pTst; rw [← hrr, if_neg (not_not_intro q1), if_neg q2]
    have go : ∀ (o : Int), r.2.1 = 0 → (w r.1 = 60 ∨ w r.1 = 61) → o = (if w r.1 = 60 then -8 else -9) → V κ MX8_readTest (rmD d 0 0) (eP s G i (pTst w v rec (i, 0, c))) noX 0 0 μ 0 0 (Wm G1) 39 [some (VR 3), some (VR s), some (VI lv), some (VI (b2i (decide (r.2.1 = 0)))), some (VI (b2i (decide (w r.1 = 60))))] [] := fun o hb hc ho => by
      have hlt : r.1 < N := pTok_lt hT rN (by omega)
      have hcr := (b1 hb).2
      have hlen : r.2.2.length ≤ r.1 := by
        obtain ⟨-, cs, k1, -, k3, -⟩ := g1.2.2.2.2 hb
        have := g1.1
        rw [k1]; simp; omega
      have hoo : -13 ≤ o ∧ o < -5 := by rw [ho]; split <;> decide
      have hT3 : pTst w v rec (i, 0, c) = if (pSum w v rec (r.1 + 1, 0, r.2.2)).2.1 = 0 then ((pSum w v rec (r.1 + 1, 0, r.2.2)).1, 0, (pSum w v rec (r.1 + 1, 0, r.2.2)).2.2 ++ [o]) else pSum w v rec (r.1 + 1, 0, r.2.2) := by unfold pTst; rw [← hrr, if_neg (not_not_intro hb), if_pos hc, ← ho]
      have fin : ∀ (G3 : Wd), eI s N (H + 2) G i c (wrW G3 s o) (if (pSum w v rec (r.1 + 1, 0, r.2.2)).2.1 = 0 then ((pSum w v rec (r.1 + 1, 0, r.2.2)).1, 0, (pSum w v rec (r.1 + 1, 0, r.2.2)).2.2 ++ [o]) else pSum w v rec (r.1 + 1, 0, r.2.2)) → 0 ≤ G3.1 s 8 ∧ G3.1 s 8 ≤ 2000 → V κ MX8_readTest (rmD d 0 0) (eP s G i (pTst w v rec (i, 0, c))) noX 0 0 μ 0 0 (Wm G3) 66 [some (VR 3), some (VR s), some (VI lv), some (VI (b2i (decide ((pSum w v rec (r.1 + 1, 0, r.2.2)).2.1 = 0)))), some (VI (b2i (decide (w r.1 = 60))))] [VI o, VR s] := fun G3 hI3 hb8 => by
        have hbb : decide ((pSum w v rec (r.1 + 1, 0, r.2.2)).2.1 = 0) = decide ((if (pSum w v rec (r.1 + 1, 0, r.2.2)).2.1 = 0 then ((pSum w v rec (r.1 + 1, 0, r.2.2)).1, (0 : Int), (pSum w v rec (r.1 + 1, 0, r.2.2)).2.2 ++ [o]) else pSum w v rec (r.1 + 1, 0, r.2.2)).2.1 = 0) := by
          by_cases c9 : (pSum w v rec (r.1 + 1, 0, r.2.2)).2.1 = 0
          · rw [if_pos c9, decide_eq_true c9]; rfl
          · rw [if_neg c9]
        rw [hbb]
        refine V_callV (M := MX8_readTest) (N := MX7_write) dX8_readTest_66 lRX8_162 kX7_write rfl (h1S) rfl (c_write2 (d := 1) hκ hS hb8 (by omega)) rfl rfl (Nat.le_of_ble_eq_true rfl) (fit_rm (by omega)) (⟨Nat.le_of_ble_eq_true rfl, Nat.le_of_ble_eq_true rfl⟩) (fun v Ω' hp => ?_) (fun _ _ h => h.elim)
        obtain ⟨rfl, rfl⟩ := hp
        refine V_ex sX8_readTest_69 (by rfl) (by first | exact trivial | exact Or.inr rfl | exact Or.inl rfl | (simp only [ob, obA, R32, R64] at *; omega) | (simp only [ob, obA, R32, R64] at *; and_intros <;> omega)) ?_
        refine V_zret dX8_readTest_70 rfl (by first | exact Or.inl rfl | exact Or.inr rfl | exact b2i_01 _) (by decide) (by rw [hT3]; exact eI_P hI3)
      refine V_ex sX8_readTest_39 (by simp only [Option.toList, List.cons_append, List.nil_append, exN, ex1, gI, gL, gR, pI, pL, pR, lget, lset1, lset2, kl, b2I, b2L, nob, ob32, ob64, xGet, xPut, xLen, xLd, xLdR, xSt, obA, true_and, and_true, and_self, eq_self, Nat.reduceEqDiff, Nat.zero_ne_one, reduceIte, Nat.reduceLeDiff, and_false, false_and, show skd 7 0 = 2 from rfl, show LF.1 3 = some (.inl 7) from rfl, show LF.2 3 0 = some 4 from rfl, upd2_eq, Int.reduceToNat, Int.toNat_natCast]; rfl) (by first | exact trivial | exact Or.inr rfl | exact Or.inl rfl | (simp only [ob, obA, R32, R64] at *; omega) | (simp only [ob, obA, R32, R64] at *; and_intros <;> omega)) ?_
      refine V_callV (M := MX8_readTest) (N := MX9_advance) dX8_readTest_43 lRX8_52 kX9_advance rfl (rfl) rfl (c_tAdvance (d := 0) hκ) rfl rfl (Nat.le_of_ble_eq_true rfl) (fit_rm (by omega)) (⟨Nat.le_of_ble_eq_true rfl, Nat.le_of_ble_eq_true rfl⟩) (fun v Ω' hp => ?_) (fun _ _ h => h.elim)
      obtain ⟨rfl, rfl⟩ := hp
      rw [a1]
      refine V_ex sX8_readTest_46 (by rfl) (by first | exact trivial | exact Or.inr rfl | exact Or.inl rfl | (simp only [ob, obA, R32, R64] at *; omega) | (simp only [ob, obA, R32, R64] at *; and_intros <;> omega)) ?_
      refine V_callV (M := MX8_readTest) (N := MX8_readSum) dX8_readTest_49 lRX8_171 kX8_readSum rfl (rfl) rfl (hsub (uI G1 4 6 ((r.1 : Int) + 1)) (r.1 + 1) r.2.2 ⟨(FE.cur s G1 _).rd hS hr1, by rw [of_cur]; omega, by omega, cd_cur hne hcr, by omega⟩) rfl rfl (Nat.le_of_ble_eq_true rfl) (fit_rm (by omega)) (⟨Nat.le_of_ble_eq_true rfl, Nat.le_of_ble_eq_true rfl⟩) (fun v Ω' hp => ?_) (fun _ _ h => h.elim)
      obtain ⟨rfl, G3, rfl, f3, a3, b3, c3, d3, e3⟩ := hp
      have hI3 := eI_next hE0 hcd hci hI0 hb hlt hPG hoo f3 a3 b3 c3 d3 e3
      have hg3 := hPG (r.1 + 1) r.2.2 (by omega)
      have hb8 : 0 ≤ G3.1 s 8 ∧ G3.1 s 8 ≤ 2000 := ⟨d3, by rw [at_cur (by omega)] at e3; have := hcr.1; have := hg3.2.1; omega⟩
      refine V_ex sX8_readTest_52 (by rfl) (by first | exact trivial | exact Or.inr rfl | exact Or.inl rfl | (simp only [ob, obA, R32, R64] at *; omega) | (simp only [ob, obA, R32, R64] at *; and_intros <;> omega)) ?_
      refine V_ifeqB dX8_readTest_56 (tgt := 64) (by decide) (fun q56 => ?_) (fun q56 => ?_)
      · refine V_ex sX8_readTest_64 (by rfl) (by first | exact trivial | exact Or.inr rfl | exact Or.inl rfl | (simp only [ob, obA, R32, R64] at *; omega) | (simp only [ob, obA, R32, R64] at *; and_intros <;> omega)) ?_
        have eo : o = -9 := by rw [ho, if_neg (of_decide_eq_false q56)]
        subst eo
        exact fin G3 hI3 hb8
      · refine V_ex sX8_readTest_59 (by rfl) (by first | exact trivial | exact Or.inr rfl | exact Or.inl rfl | (simp only [ob, obA, R32, R64] at *; omega) | (simp only [ob, obA, R32, R64] at *; and_intros <;> omega)) ?_
        refine V_goto dX8_readTest_61 (tgt := 66) (by decide) ?_
        have eo : o = -8 := by rw [ho, if_pos (of_decide_eq_true q56)]
        subst eo
        exact fin G3 hI3 hb8
    refine V_ex sX8_readTest_6 (by simp only [Option.toList, List.cons_append, List.nil_append, exN, ex1, gI, gL, gR, pI, pL, pR, lget, lset1, lset2, kl, b2I, b2L, nob, ob32, ob64, xGet, xPut, xLen, xLd, xLdR, xSt, obA, true_and, and_true, and_self, eq_self, Nat.reduceEqDiff, Nat.zero_ne_one, reduceIte, Nat.reduceLeDiff, and_false, false_and, show skd 7 0 = 2 from rfl, show LF.1 3 = some (.inl 7) from rfl, show LF.2 3 0 = some 4 from rfl, upd2_eq, Int.reduceToNat, Int.toNat_natCast]; rfl) (by first | exact trivial | exact Or.inr rfl | exact Or.inl rfl | (simp only [ob, obA, R32, R64] at *; omega) | (simp only [ob, obA, R32, R64] at *; and_intros <;> omega)) ?_
    refine V_callV (M := MX8_readTest) (N := MX9_is) dX8_readTest_13 lRX8_37 kX9_is rfl (rfl) rfl (c_tIs (d := 0) hκ a1 (by omega) (by rw [e5]; unfold R32; omega) (by unfold R32; omega)) rfl rfl (Nat.le_of_ble_eq_true rfl) (fit_rm (by omega)) (⟨Nat.le_of_ble_eq_true rfl, Nat.le_of_ble_eq_true rfl⟩) (fun v Ω' hp => ?_) (fun _ _ h => h.elim)
    obtain ⟨rfl, rfl⟩ := hp
    rw [e5]
    refine V_ex sX8_readTest_16 (by rfl) (by first | exact trivial | exact Or.inr rfl | exact Or.inl rfl | (simp only [ob, obA, R32, R64] at *; omega) | (simp only [ob, obA, R32, R64] at *; and_intros <;> omega)) ?_
    refine V_ifeqB dX8_readTest_19 (tgt := 69) (by decide) (fun q19 => ?_) (fun q19 => ?_)
    · refine V_ex sX8_readTest_69 (by rfl) (by first | exact trivial | exact Or.inr rfl | exact Or.inl rfl | (simp only [ob, obA, R32, R64] at *; omega) | (simp only [ob, obA, R32, R64] at *; and_intros <;> omega)) ?_
      refine V_zret dX8_readTest_70 rfl (by first | exact Or.inl rfl | exact Or.inr rfl | exact b2i_01 _) (by decide) (by rw [hT1 (of_decide_eq_false q19)]; exact eI_P hI0)
    · have hb := of_decide_eq_true q19
      refine V_ex sX8_readTest_22 (by rfl) (by first | exact trivial | exact Or.inr rfl | exact Or.inl rfl | (simp only [ob, obA, R32, R64] at *; omega) | (simp only [ob, obA, R32, R64] at *; and_intros <;> omega)) ?_
      refine V_ifneB dX8_readTest_24 (tgt := 39) (by decide) (fun q24 => ?_) (fun q24 => ?_)
      · exact go _ hb (Or.inl (of_decide_eq_true q24)) rfl
      · refine V_ex sX8_readTest_27 (by simp only [Option.toList, List.cons_append, List.nil_append, exN, ex1, gI, gL, gR, pI, pL, pR, lget, lset1, lset2, kl, b2I, b2L, nob, ob32, ob64, xGet, xPut, xLen, xLd, xLdR, xSt, obA, true_and, and_true, and_self, eq_self, Nat.reduceEqDiff, Nat.zero_ne_one, reduceIte, Nat.reduceLeDiff, and_false, false_and, show skd 7 0 = 2 from rfl, show LF.1 3 = some (.inl 7) from rfl, show LF.2 3 0 = some 4 from rfl, upd2_eq, Int.reduceToNat, Int.toNat_natCast]; rfl) (by first | exact trivial | exact Or.inr rfl | exact Or.inl rfl | (simp only [ob, obA, R32, R64] at *; omega) | (simp only [ob, obA, R32, R64] at *; and_intros <;> omega)) ?_
        refine V_callV (M := MX8_readTest) (N := MX9_is) dX8_readTest_33 lRX8_37 kX9_is rfl (rfl) rfl (c_tIs (d := 0) hκ a1 (by omega) (by rw [e5]; unfold R32; omega) (by unfold R32; omega)) rfl rfl (Nat.le_of_ble_eq_true rfl) (fit_rm (by omega)) (⟨Nat.le_of_ble_eq_true rfl, Nat.le_of_ble_eq_true rfl⟩) (fun v Ω' hp => ?_) (fun _ _ h => h.elim)
        obtain ⟨rfl, rfl⟩ := hp
        rw [e5]
        refine V_ifeqB dX8_readTest_36 (tgt := 69) (by decide) (fun q36 => ?_) (fun q36 => ?_)
        · refine V_ex sX8_readTest_69 (by rfl) (by first | exact trivial | exact Or.inr rfl | exact Or.inl rfl | (simp only [ob, obA, R32, R64] at *; omega) | (simp only [ob, obA, R32, R64] at *; and_intros <;> omega)) ?_
          refine V_zret dX8_readTest_70 rfl (by first | exact Or.inl rfl | exact Or.inr rfl | exact b2i_01 _) (by decide) (by rw [hT2 hb (by have := of_decide_eq_false q24; have := of_decide_eq_false q36; omega)]; exact eI_P hI0)
        · exact go _ hb (Or.inr (of_decide_eq_true q36)) rfl
  refine V_ex sX8_readTest_0 (by rfl) (by first | exact trivial | exact Or.inr rfl | exact Or.inl rfl | (simp only [ob, obA, R32, R64] at *; omega) | (simp only [ob, obA, R32, R64] at *; and_intros <;> omega)) ?_
  refine V_callV (M := MX8_readTest) (N := MX8_readSum) dX8_readTest_3 lRX8_171 kX8_readSum rfl (rfl) rfl (hsub G i c h0) rfl rfl (Nat.le_of_ble_eq_true rfl) (fit_rm (by omega)) (⟨Nat.le_of_ble_eq_true rfl, Nat.le_of_ble_eq_true rfl⟩) (fun v Ω' hp => ?_) (fun _ _ h => h.elim)
  obtain ⟨rfl, G3, rfl, f3, a3, b3, c3, d3, e3⟩ := hp
  exact body G3 _ rfl ⟨f3, a3, b3, c3, d3, e3, pRes_mono hp0 (by omega)⟩
set_option maxRecDepth 100000 in
set_option maxHeartbeats 4000000 in
theorem c_rNot {κ : Kx} (hκ : KOK κ) {d d' s N H : Nat} {lv : Int} {w v : Nat → Int} {rec : PE → PE} (hE : eE s w v N) (hsub : eC κ MX8_readTest d' s lv w v N (pTst w v rec)) (hPG : PG N H (pTst w v rec)) (hd : d' + 1 ≤ d) (hd2 : 3 ≤ d) {G : Wd} {i : Nat} {c : List Int} (h : eH s w v N G i c) : Ct κ MX8_readNot d 0 0 [VR 3, VR s, VI lv] (Wm G) (eP s G i (pNot w v rec (i, 0, c))) noX := by
  refine Ct_of hκ kX8_readNot.1 rfl (Nat.le_of_ble_eq_true rfl) (ls := [some (VR 3), some (VR s), some (VI lv), none, none, none]) rfl (fun μ => ?_)
  have hE0 := hE
  obtain ⟨hS, hT, hN, hw⟩ := hE
  have h0 := h
  obtain ⟨hr, hi, hiN, hcd, hci⟩ := h
  have hne := sh_ne hS
  have h1S := (sh_facts hS).1
  have hcd8 := hcd.1
  have nmax := pNots_le hT 6 i hiN
  -- the signs of the nots
  have W : ∀ (k j : Nat) (jj : Int) (G1 : Wd) (r0 : PE), pTst w v rec (i + pNots w 6 i, 0, c) = r0 → ¬ (pNots w 6 i = 6 ∧ w (i + 6) = 271) → jj = (j : Int) → j + k = pNots w 6 i → FE s G G1 → G1.1 4 6 = (r0.1 : Nat) → (r0.2.1 = 0 → G1.1 3 1 = G.1 3 1 ∧ codeIs G1 s (r0.2.2 ++ List.replicate j (-5))) → (r0.2.1 ≠ 0 → G1.1 3 1 = r0.2.1) → 0 ≤ G1.1 s 8 → G1.1 s 8 ≤ G.1 s 8 + (r0.1 : Int) - (i : Int) - (k : Int) + 1 → V κ MX8_readNot (rmD d 0 0) (eP s G i (pNot w v rec (i, 0, c))) noX 0 0 μ 0 0 (Wm G1) 77 [some (VR 3), some (VR s), some (VI lv), some (VI (pNots w 6 i : Nat)), some (VI (b2i (decide (r0.2.1 = 0)))), some (VI jj)] [] := by
    intro k
    induction k with
    | zero =>
      intro j jj G1 r0 hr0 h6 hjj hjk f1 a1 b1 c1 d1 e1
      have hP : pNot w v rec (i, 0, c) = if r0.2.1 = 0 then (r0.1, 0, r0.2.2 ++ List.replicate (pNots w 6 i) (-5)) else r0 := by unfold pNot; dsimp only; rw [if_neg h6, hr0]
      obtain rfl : j = pNots w 6 i := by omega
      refine V_ex sX8_readNot_77 (by rfl) (by first | exact trivial | exact Or.inr rfl | exact Or.inl rfl | (simp only [ob, obA, R32, R64] at *; omega) | (simp only [ob, obA, R32, R64] at *; and_intros <;> omega)) ?_
      refine V_icmpge dX8_readNot_80 (tgt := 95) (by decide) (by simp only [R32, R64] at *; omega) (fun q80 => ?_) (fun q80 => ?_)
      · refine V_ex sX8_readNot_95 (by rfl) (by first | exact trivial | exact Or.inr rfl | exact Or.inl rfl | (simp only [ob, obA, R32, R64] at *; omega) | (simp only [ob, obA, R32, R64] at *; and_intros <;> omega)) ?_
        refine V_zret dX8_readNot_97 rfl (by first | exact Or.inl rfl | exact Or.inr rfl | exact b2i_01 _) (by decide) ?_
        rw [hP]
        by_cases hb : r0.2.1 = 0
        · rw [if_pos hb, decide_eq_true hb]
          exact eP_ok rfl f1 a1 (b1 hb).1 (b1 hb).2 (by show _ ≤ G.1 s 8 + (r0.1 : Int) - (i : Int) + 1; omega)
        · rw [if_neg hb, decide_eq_false hb]
          exact eP_no hb f1 a1 (c1 hb) d1 (by omega)
      · omega
    | succ k ih =>
      intro j jj G1 r0 hr0 h6 hjj hjk f1 a1 b1 c1 d1 e1
      subst hjj
      have hq := hPG (i + pNots w 6 i) c nmax.1
      rw [hr0] at hq
      have hq2 := hq.2.1
      refine V_ex sX8_readNot_77 (by rfl) (by first | exact trivial | exact Or.inr rfl | exact Or.inl rfl | (simp only [ob, obA, R32, R64] at *; omega) | (simp only [ob, obA, R32, R64] at *; and_intros <;> omega)) ?_
      refine V_icmpge dX8_readNot_80 (tgt := 95) (by decide) (by simp only [R32, R64] at *; omega) (fun q80 => ?_) (fun q80 => ?_)
      · omega
      · refine V_ex sX8_readNot_83 (by rfl) (by first | exact trivial | exact Or.inr rfl | exact Or.inl rfl | (simp only [ob, obA, R32, R64] at *; omega) | (simp only [ob, obA, R32, R64] at *; and_intros <;> omega)) ?_
        refine V_callV (M := MX8_readNot) (N := MX7_write) dX8_readNot_86 lRX8_162 kX7_write rfl (h1S) rfl (c_write2 (d := 1) hκ hS ⟨d1, by omega⟩ (by omega)) rfl rfl (Nat.le_of_ble_eq_true rfl) (fit_rm (by omega)) (⟨Nat.le_of_ble_eq_true rfl, Nat.le_of_ble_eq_true rfl⟩) (fun v Ω' hp => ?_) (fun _ _ h => h.elim)
        obtain ⟨rfl, rfl⟩ := hp
        refine V_ex sX8_readNot_89 (by rfl) (by first | exact trivial | exact Or.inr rfl | exact Or.inl rfl | (simp only [ob, obA, R32, R64] at *; omega) | (simp only [ob, obA, R32, R64] at *; and_intros <;> omega)) ?_
        refine V_goto dX8_readNot_92 (tgt := 77) (by decide) ?_
        have w46 : (wrW G1 s (-5)).1 4 6 = G1.1 4 6 := wr_at (by omega) (by omega)
        have w31 : (wrW G1 s (-5)).1 3 1 = G1.1 3 1 := wr_at (by omega) (by omega)
        refine ih (j + 1) _ _ r0 hr0 h6 (by omega) (by omega) (f1.trans (FE.wr s G1 (-5))) (by rw [w46]; exact a1) (fun hb => ⟨by rw [w31]; exact (b1 hb).1, ?_⟩) (fun hb => by rw [w31]; exact c1 hb) (by rw [wr_8]; omega) (by rw [wr_8]; omega)
        rw [List.replicate_succ', ← List.append_assoc]
        obtain ⟨q6, cs, l1, l2, l3, l4⟩ := hq.2.2.2.2 hb
        exact wr_code (b1 hb).2 (by rw [l1]; simp; omega)
  -- the nots themselves
  have go : ∀ (G1 : Wd) (x y : Option Vl), pNots w 6 i ≤ 6 → G1 = uI G 4 6 (((i + pNots w 6 i : Nat)) : Int) → V κ MX8_readNot (rmD d 0 0) (eP s G i (pNot w v rec (i, 0, c))) noX 0 0 μ 0 0 (Wm G1) 41 [some (VR 3), some (VR s), some (VI lv), some (VI (pNots w 6 i : Nat)), x, y] [] := fun G1 x y h66 hG1 => by
    subst hG1
    have hr1 := (FE.cur s G (((i + pNots w 6 i : Nat)) : Int)).rd hS hr
    have rest : ¬ (pNots w 6 i = 6 ∧ w (i + 6) = 271) → V κ MX8_readNot (rmD d 0 0) (eP s G i (pNot w v rec (i, 0, c))) noX 0 0 μ 0 0 (Wm (uI G 4 6 (((i + pNots w 6 i : Nat)) : Int))) 66 [some (VR 3), some (VR s), some (VI lv), some (VI (pNots w 6 i : Nat)), x, y] [] := fun hn6 => by
      refine V_ex sX8_readNot_66 (by rfl) (by first | exact trivial | exact Or.inr rfl | exact Or.inl rfl | (simp only [ob, obA, R32, R64] at *; omega) | (simp only [ob, obA, R32, R64] at *; and_intros <;> omega)) ?_
      refine V_callV (M := MX8_readNot) (N := MX8_readTest) dX8_readNot_69 lRX8_168 kX8_readTest rfl (rfl) rfl (hsub (uI G 4 6 (((i + pNots w 6 i : Nat)) : Int)) (i + pNots w 6 i) c ⟨hr1, by rw [of_cur], nmax.1, cd_cur hne hcd, by omega⟩) rfl rfl (Nat.le_of_ble_eq_true rfl) (fit_rm (by omega)) (⟨Nat.le_of_ble_eq_true rfl, Nat.le_of_ble_eq_true rfl⟩) (fun v Ω' hp => ?_) (fun _ _ h => h.elim)
      obtain ⟨rfl, G3, rfl, f3, a3, b3, c3, d3, e3⟩ := hp
      refine V_ex sX8_readNot_72 (by rfl) (by first | exact trivial | exact Or.inr rfl | exact Or.inl rfl | (simp only [ob, obA, R32, R64] at *; omega) | (simp only [ob, obA, R32, R64] at *; and_intros <;> omega)) ?_
      rw [at_cur (by omega)] at b3 e3
      exact W (pNots w 6 i) 0 0 G3 _ rfl hn6 rfl (by omega) ((FE.cur s G _).trans f3) a3 (fun hb => by simpa using b3 hb) c3 d3 (by omega)
    have e5 := (hr1 (i + pNots w 6 i) nmax.1).1
    have hwr := hw (i + pNots w 6 i) nmax.1
    refine V_ex sX8_readNot_41 (by rfl) (by first | exact trivial | exact Or.inr rfl | exact Or.inl rfl | (simp only [ob, obA, R32, R64] at *; omega) | (simp only [ob, obA, R32, R64] at *; and_intros <;> omega)) ?_
    refine V_icmpne dX8_readNot_44 (tgt := 66) (by decide) (by simp only [R32, R64] at *; omega) (fun q44 => ?_) (fun q44 => ?_)
    · exact rest (by omega)
    · refine V_ex sX8_readNot_47 (by simp only [Option.toList, List.cons_append, List.nil_append, exN, ex1, gI, gL, gR, pI, pL, pR, lget, lset1, lset2, kl, b2I, b2L, nob, ob32, ob64, xGet, xPut, xLen, xLd, xLdR, xSt, obA, true_and, and_true, and_self, eq_self, Nat.reduceEqDiff, Nat.zero_ne_one, reduceIte, Nat.reduceLeDiff, and_false, false_and, show skd 7 0 = 2 from rfl, show LF.1 3 = some (.inl 7) from rfl, show LF.2 3 0 = some 4 from rfl, upd2_eq, Int.reduceToNat, Int.toNat_natCast]; rfl) (by first | exact trivial | exact Or.inr rfl | exact Or.inl rfl | (simp only [ob, obA, R32, R64] at *; omega) | (simp only [ob, obA, R32, R64] at *; and_intros <;> omega)) ?_
      refine V_callV (M := MX8_readNot) (N := MX9_is) dX8_readNot_54 lRX8_37 kX9_is rfl (rfl) rfl (c_tIs (d := 0) hκ (i := i + pNots w 6 i) of_cur (by omega) (by rw [e5]; unfold R32; omega) (by unfold R32; omega)) rfl rfl (Nat.le_of_ble_eq_true rfl) (fit_rm (by omega)) (⟨Nat.le_of_ble_eq_true rfl, Nat.le_of_ble_eq_true rfl⟩) (fun v Ω' hp => ?_) (fun _ _ h => h.elim)
      obtain ⟨rfl, rfl⟩ := hp
      rw [e5]
      refine V_ifeqB dX8_readNot_57 (tgt := 66) (by decide) (fun q57 => ?_) (fun q57 => ?_)
      · exact rest (fun q => of_decide_eq_false q57 (by rw [q.1]; exact q.2))
      · refine V_ex sX8_readNot_60 (by rfl) (by first | exact trivial | exact Or.inr rfl | exact Or.inl rfl | (simp only [ob, obA, R32, R64] at *; omega) | (simp only [ob, obA, R32, R64] at *; and_intros <;> omega)) ?_
        refine V_callV (M := MX8_readNot) (N := MX8_refuse) dX8_readNot_62 lRX8_49 kX8_refuse rfl (rfl) rfl (c_rRefuse (d := 0) hκ) rfl rfl (Nat.le_of_ble_eq_true rfl) (fit_rm (by omega)) (⟨Nat.le_of_ble_eq_true rfl, Nat.le_of_ble_eq_true rfl⟩) (fun v Ω' hp => ?_) (fun _ _ h => h.elim)
        obtain ⟨rfl, rfl⟩ := hp
        refine V_zret dX8_readNot_65 rfl (by first | exact Or.inl rfl | exact Or.inr rfl | exact b2i_01 _) (by decide) ?_
        have h66e : pNots w 6 i = 6 := by omega
        have h271 : w (i + 6) = 271 := by have := of_decide_eq_true q57; rwa [h66e] at this
        have hP : pNot w v rec (i, 0, c) = (i + 6, 2, c) := by unfold pNot; dsimp only; rw [if_pos ⟨h66e, h271⟩]
        rw [hP]
        exact eP_no (show (2 : Int) ≠ 0 by decide) ((FE.cur s G _).trans (FE.fnd s _ 2)) (by rw [at_fnd (by omega), of_cur, h66e]) of_fnd (by rw [at_fnd (by omega), at_cur (by omega)]; omega) (by rw [at_fnd (by omega), at_cur (by omega)]; show _ ≤ G.1 s 8 + ((i + 6 : Nat) : Int) - (i : Int) + 1; omega)
  have L : ∀ (k j : Nat) (jj mm : Int) (x : Option Vl), jj = (j : Int) → mm = (j : Int) → j + k = 6 → j + pNots w k (i + j) = pNots w 6 i → i + j ≤ N → V κ MX8_readNot (rmD d 0 0) (eP s G i (pNot w v rec (i, 0, c))) noX 0 0 μ 0 0 (Wm (uI G 4 6 (((i + j : Nat)) : Int))) 5 [some (VR 3), some (VR s), some (VI lv), some (VI mm), some (VI jj), x] [] := by
    intro k
    induction k with
    | zero =>
      intro j jj mm x hjj hmm hjk he hjN
      rw [pNots, Nat.add_zero] at he
      subst hjj hmm
      refine V_ex sX8_readNot_5 (by rfl) (by first | exact trivial | exact Or.inr rfl | exact Or.inl rfl | (simp only [ob, obA, R32, R64] at *; omega) | (simp only [ob, obA, R32, R64] at *; and_intros <;> omega)) ?_
      refine V_icmpge dX8_readNot_9 (tgt := 41) (by decide) (by simp only [R32, R64] at *; omega) (fun q9 => ?_) (fun q9 => ?_)
      · have := go (uI G 4 6 (((i + j : Nat)) : Int)) (some (VI (j : Nat))) x (by omega) (by rw [← he])
        rw [← he] at this
        exact this
      · omega
    | succ k ih =>
      intro j jj mm x hjj hmm hjk he hjN
      subst hjj hmm
      have hr1 := (FE.cur s G (((i + j : Nat)) : Int)).rd hS hr
      have e5 := (hr1 (i + j) hjN).1
      have hwr := hw (i + j) hjN
      rw [pNots] at he
      refine V_ex sX8_readNot_5 (by rfl) (by first | exact trivial | exact Or.inr rfl | exact Or.inl rfl | (simp only [ob, obA, R32, R64] at *; omega) | (simp only [ob, obA, R32, R64] at *; and_intros <;> omega)) ?_
      refine V_icmpge dX8_readNot_9 (tgt := 41) (by decide) (by simp only [R32, R64] at *; omega) (fun q9 => ?_) (fun q9 => ?_)
      · omega
      · refine V_ex sX8_readNot_12 (by simp only [Option.toList, List.cons_append, List.nil_append, exN, ex1, gI, gL, gR, pI, pL, pR, lget, lset1, lset2, kl, b2I, b2L, nob, ob32, ob64, xGet, xPut, xLen, xLd, xLdR, xSt, obA, true_and, and_true, and_self, eq_self, Nat.reduceEqDiff, Nat.zero_ne_one, reduceIte, Nat.reduceLeDiff, and_false, false_and, show skd 7 0 = 2 from rfl, show LF.1 3 = some (.inl 7) from rfl, show LF.2 3 0 = some 4 from rfl, upd2_eq, Int.reduceToNat, Int.toNat_natCast]; rfl) (by first | exact trivial | exact Or.inr rfl | exact Or.inl rfl | (simp only [ob, obA, R32, R64] at *; omega) | (simp only [ob, obA, R32, R64] at *; and_intros <;> omega)) ?_
        refine V_callV (M := MX8_readNot) (N := MX9_is) dX8_readNot_19 lRX8_37 kX9_is rfl (rfl) rfl (c_tIs (d := 0) hκ (i := i + j) of_cur (by omega) (by rw [e5]; unfold R32; omega) (by unfold R32; omega)) rfl rfl (Nat.le_of_ble_eq_true rfl) (fit_rm (by omega)) (⟨Nat.le_of_ble_eq_true rfl, Nat.le_of_ble_eq_true rfl⟩) (fun v Ω' hp => ?_) (fun _ _ h => h.elim)
        obtain ⟨rfl, rfl⟩ := hp
        rw [e5]
        refine V_ifeqB dX8_readNot_22 (tgt := 41) (by decide) (fun q22 => ?_) (fun q22 => ?_)
        · rw [if_neg (of_decide_eq_false q22), Nat.add_zero] at he
          have := go (uI G 4 6 (((i + j : Nat)) : Int)) (some (VI (j : Nat))) x (by omega) (by rw [← he])
          rw [← he] at this
          exact this
        · have h271 := of_decide_eq_true q22
          rw [if_pos h271] at he
          have hlt := pTok_lt hT hjN (by omega)
          refine V_ex sX8_readNot_25 (by simp only [Option.toList, List.cons_append, List.nil_append, exN, ex1, gI, gL, gR, pI, pL, pR, lget, lset1, lset2, kl, b2I, b2L, nob, ob32, ob64, xGet, xPut, xLen, xLd, xLdR, xSt, obA, true_and, and_true, and_self, eq_self, Nat.reduceEqDiff, Nat.zero_ne_one, reduceIte, Nat.reduceLeDiff, and_false, false_and, show skd 7 0 = 2 from rfl, show LF.1 3 = some (.inl 7) from rfl, show LF.2 3 0 = some 4 from rfl, upd2_eq, Int.reduceToNat, Int.toNat_natCast]; rfl) (by first | exact trivial | exact Or.inr rfl | exact Or.inl rfl | (simp only [ob, obA, R32, R64] at *; omega) | (simp only [ob, obA, R32, R64] at *; and_intros <;> omega)) ?_
          refine V_callV (M := MX8_readNot) (N := MX9_advance) dX8_readNot_32 lRX8_52 kX9_advance rfl (rfl) rfl (c_tAdvance (d := 0) hκ) rfl rfl (Nat.le_of_ble_eq_true rfl) (fit_rm (by omega)) (⟨Nat.le_of_ble_eq_true rfl, Nat.le_of_ble_eq_true rfl⟩) (fun v Ω' hp => ?_) (fun _ _ h => h.elim)
          obtain ⟨rfl, rfl⟩ := hp
          rw [of_cur, show ((i + j : Nat) : Int) + 1 = ((i + (j + 1) : Nat) : Int) by omega]
          refine V_ex sX8_readNot_35 (by rfl) (by first | exact trivial | exact Or.inr rfl | exact Or.inl rfl | (simp only [ob, obA, R32, R64] at *; omega) | (simp only [ob, obA, R32, R64] at *; and_intros <;> omega)) ?_
          refine V_goto dX8_readNot_38 (tgt := 5) (by decide) ?_
          rw [uI_twice]
          exact ih (j + 1) _ _ _ (by omega) (by omega) (by omega) (by rw [← he]; rw [show i + j + 1 = i + (j + 1) by omega]; omega) (by omega)
  refine V_ex sX8_readNot_0 (by rfl) (by first | exact trivial | exact Or.inr rfl | exact Or.inl rfl | (simp only [ob, obA, R32, R64] at *; omega) | (simp only [ob, obA, R32, R64] at *; and_intros <;> omega)) ?_
  have e0 : uI G 4 6 (((i + 0 : Nat)) : Int) = G := by rw [Nat.add_zero, ← hi]; exact uI_self
  have := L 6 0 0 0 none rfl rfl (by omega) (by simp) (by omega)
  rw [e0] at this
  exact this
set_option maxRecDepth 100000 in
set_option maxHeartbeats 4000000 in
theorem c_rAnd {κ : Kx} (hκ : KOK κ) {d d' s N H : Nat} {lv : Int} {w v : Nat → Int} {p : PE → PE} (hE : eE s w v N) (hsub : eC κ MX8_readNot d' s lv w v N p) (hPG : PG N H p) (hd : d' + 1 ≤ d) (hd2 : 3 ≤ d) {G : Wd} {i : Nat} {c : List Int} (h : eH s w v N G i c) : Ct κ MX8_readAnd d 0 0 [VR 3, VR s, VI lv] (Wm G) (eP s G i (pLoop opA w p 501 (p (i, 0, c)))) noX := by
  refine Ct_of hκ kX8_readAnd.1 rfl (Nat.le_of_ble_eq_true rfl) (ls := [some (VR 3), some (VR s), some (VI lv), none, none]) rfl (fun μ => ?_)
  have hE0 := hE
  obtain ⟨hS, hT, hN, hw⟩ := hE
  have h0 := h
  obtain ⟨hr, hi, hiN, hcd, hci⟩ := h
  have hne := sh_ne hS
  have h1S := (sh_facts hS).1
  have L : ∀ (k : Nat) (r : PE) (G1 : Wd) (ii : Int), ii = 501 - (k : Int) → k ≤ 501 → eI s N (H + 1) G i c G1 r → pLoop opA w p k r = pLoop opA w p 501 (p (i, 0, c)) → V κ MX8_readAnd (rmD d 0 0) (eP s G i (pLoop opA w p 501 (p (i, 0, c)))) noX 0 0 μ 0 0 (Wm G1) 10 [some (VR 3), some (VR s), some (VI lv), some (VI (b2i (decide (r.2.1 = 0)))), some (VI ii)] [] := by
    intro k
    induction k with
    | zero =>
      intro r G1 ii hii hk hI he
      rw [pLoop] at he
      refine V_ex sX8_readAnd_10 (by rfl) (by first | exact trivial | exact Or.inr rfl | exact Or.inl rfl | (simp only [ob, obA, R32, R64] at *; omega) | (simp only [ob, obA, R32, R64] at *; and_intros <;> omega)) ?_
      refine V_icmpgt dX8_readAnd_15 (tgt := 61) (by decide) (by simp only [R32, R64] at *; omega) (fun q15 => ?_) (fun q15 => ?_)
      · refine V_ex sX8_readAnd_61 (by rfl) (by first | exact trivial | exact Or.inr rfl | exact Or.inl rfl | (simp only [ob, obA, R32, R64] at *; omega) | (simp only [ob, obA, R32, R64] at *; and_intros <;> omega)) ?_
        refine V_zret dX8_readAnd_62 rfl (by first | exact Or.inl rfl | exact Or.inr rfl | exact b2i_01 _) (by decide) (by rw [← he]; exact eI_P hI)
      · omega
    | succ k ih =>
      intro r G1 ii hii hk hI he
      have hI0 := hI
      obtain ⟨f1, a1, b1, c1, d1, e1, g1⟩ := hI
      have hr1 := f1.rd hS hr
      have rN := g1.2.1
      have e5 := (hr1 r.1 rN).1
      have hwr := hw r.1 rN
      have stop : opA (w r.1) = none → V κ MX8_readAnd (rmD d 0 0) (eP s G i (pLoop opA w p 501 (p (i, 0, c)))) noX 0 0 μ 0 0 (Wm G1) 61 [some (VR 3), some (VR s), some (VI lv), some (VI (b2i (decide (r.2.1 = 0)))), some (VI ii)] [] := fun hn => by
        rw [pLoop_no _ hn] at he
        refine V_ex sX8_readAnd_61 (by rfl) (by first | exact trivial | exact Or.inr rfl | exact Or.inl rfl | (simp only [ob, obA, R32, R64] at *; omega) | (simp only [ob, obA, R32, R64] at *; and_intros <;> omega)) ?_
        refine V_zret dX8_readAnd_62 rfl (by first | exact Or.inl rfl | exact Or.inr rfl | exact b2i_01 _) (by decide) (by rw [← he]; exact eI_P hI0)
      have stopb : r.2.1 ≠ 0 → V κ MX8_readAnd (rmD d 0 0) (eP s G i (pLoop opA w p 501 (p (i, 0, c)))) noX 0 0 μ 0 0 (Wm G1) 61 [some (VR 3), some (VR s), some (VI lv), some (VI (b2i (decide (r.2.1 = 0)))), some (VI ii)] [] := fun hn => by
        rw [pLoop_bad _ hn] at he
        refine V_ex sX8_readAnd_61 (by rfl) (by first | exact trivial | exact Or.inr rfl | exact Or.inl rfl | (simp only [ob, obA, R32, R64] at *; omega) | (simp only [ob, obA, R32, R64] at *; and_intros <;> omega)) ?_
        refine V_zret dX8_readAnd_62 rfl (by first | exact Or.inl rfl | exact Or.inr rfl | exact b2i_01 _) (by decide) (by rw [← he]; exact eI_P hI0)
      have go : r.2.1 = 0 → opA (w r.1) = some (-6) → V κ MX8_readAnd (rmD d 0 0) (eP s G i (pLoop opA w p 501 (p (i, 0, c)))) noX 0 0 μ 0 0 (Wm G1) 35 [some (VR 3), some (VR s), some (VI lv), some (VI (b2i (decide (r.2.1 = 0)))), some (VI ii)] [] := fun hb ho => by
        have hlt : r.1 < N := pTok_lt hT rN (fun q => by rw [q] at ho; cases ho)
        rw [pLoop_go k hb ho] at he
        have hcr := (b1 hb).2
        have hlen : r.2.2.length ≤ r.1 := by
          obtain ⟨-, cs, k1, -, k3, -⟩ := g1.2.2.2.2 hb
          have := g1.1
          rw [k1]; simp; omega
        have hoo := opA_o _ _ ho
        refine V_ex sX8_readAnd_35 (by simp only [Option.toList, List.cons_append, List.nil_append, exN, ex1, gI, gL, gR, pI, pL, pR, lget, lset1, lset2, kl, b2I, b2L, nob, ob32, ob64, xGet, xPut, xLen, xLd, xLdR, xSt, obA, true_and, and_true, and_self, eq_self, Nat.reduceEqDiff, Nat.zero_ne_one, reduceIte, Nat.reduceLeDiff, and_false, false_and, show skd 7 0 = 2 from rfl, show LF.1 3 = some (.inl 7) from rfl, show LF.2 3 0 = some 4 from rfl, upd2_eq, Int.reduceToNat, Int.toNat_natCast]; rfl) (by first | exact trivial | exact Or.inr rfl | exact Or.inl rfl | (simp only [ob, obA, R32, R64] at *; omega) | (simp only [ob, obA, R32, R64] at *; and_intros <;> omega)) ?_
        refine V_callV (M := MX8_readAnd) (N := MX9_advance) dX8_readAnd_39 lRX8_52 kX9_advance rfl (rfl) rfl (c_tAdvance (d := 0) hκ) rfl rfl (Nat.le_of_ble_eq_true rfl) (fit_rm (by omega)) (⟨Nat.le_of_ble_eq_true rfl, Nat.le_of_ble_eq_true rfl⟩) (fun v Ω' hp => ?_) (fun _ _ h => h.elim)
        obtain ⟨rfl, rfl⟩ := hp
        rw [a1]
        refine V_ex sX8_readAnd_42 (by rfl) (by first | exact trivial | exact Or.inr rfl | exact Or.inl rfl | (simp only [ob, obA, R32, R64] at *; omega) | (simp only [ob, obA, R32, R64] at *; and_intros <;> omega)) ?_
        refine V_callV (M := MX8_readAnd) (N := MX8_readNot) dX8_readAnd_45 lRX8_165 kX8_readNot rfl (rfl) rfl (hsub (uI G1 4 6 ((r.1 : Int) + 1)) (r.1 + 1) r.2.2 ⟨(FE.cur s G1 _).rd hS hr1, by rw [of_cur]; omega, by omega, cd_cur hne hcr, by omega⟩) rfl rfl (Nat.le_of_ble_eq_true rfl) (fit_rm (by omega)) (⟨Nat.le_of_ble_eq_true rfl, Nat.le_of_ble_eq_true rfl⟩) (fun v Ω' hp => ?_) (fun _ _ h => h.elim)
        obtain ⟨rfl, G3, rfl, f3, a3, b3, c3, d3, e3⟩ := hp
        have hI3 := eI_next hE0 hcd hci hI0 hb hlt hPG hoo f3 a3 b3 c3 d3 e3
        have hg3 := hPG (r.1 + 1) r.2.2 (by omega)
        have hb8 : 0 ≤ G3.1 s 8 ∧ G3.1 s 8 ≤ 2000 := ⟨d3, by rw [at_cur (by omega)] at e3; have := hcr.1; have := hg3.2.1; omega⟩
        refine V_ex sX8_readAnd_48 (by rfl) (by first | exact trivial | exact Or.inr rfl | exact Or.inl rfl | (simp only [ob, obA, R32, R64] at *; omega) | (simp only [ob, obA, R32, R64] at *; and_intros <;> omega)) ?_
        refine V_callV (M := MX8_readAnd) (N := MX7_write) dX8_readAnd_52 lRX8_162 kX7_write rfl (h1S) rfl (c_write2 (d := 1) hκ hS hb8 (by omega)) rfl rfl (Nat.le_of_ble_eq_true rfl) (fit_rm (by omega)) (⟨Nat.le_of_ble_eq_true rfl, Nat.le_of_ble_eq_true rfl⟩) (fun v Ω' hp => ?_) (fun _ _ h => h.elim)
        obtain ⟨rfl, rfl⟩ := hp
        refine V_ex sX8_readAnd_55 (by rfl) (by first | exact trivial | exact Or.inr rfl | exact Or.inl rfl | (simp only [ob, obA, R32, R64] at *; omega) | (simp only [ob, obA, R32, R64] at *; and_intros <;> omega)) ?_
        refine V_goto dX8_readAnd_58 (tgt := 10) (by decide) ?_
        have hbb : decide ((p (r.1 + 1, 0, r.2.2)).2.1 = 0) = decide ((if (p (r.1 + 1, 0, r.2.2)).2.1 = 0 then ((p (r.1 + 1, 0, r.2.2)).1, (0 : Int), (p (r.1 + 1, 0, r.2.2)).2.2 ++ [(-6)]) else p (r.1 + 1, 0, r.2.2)).2.1 = 0) := by
          by_cases c9 : (p (r.1 + 1, 0, r.2.2)).2.1 = 0
          · rw [if_pos c9, decide_eq_true c9]; rfl
          · rw [if_neg c9]
        rw [hbb]
        exact ih _ _ _ (by omega) (by omega) hI3 he
      refine V_ex sX8_readAnd_10 (by rfl) (by first | exact trivial | exact Or.inr rfl | exact Or.inl rfl | (simp only [ob, obA, R32, R64] at *; omega) | (simp only [ob, obA, R32, R64] at *; and_intros <;> omega)) ?_
      refine V_icmpgt dX8_readAnd_15 (tgt := 61) (by decide) (by simp only [R32, R64] at *; omega) (fun q15 => ?_) (fun q15 => ?_)
      · omega
      · refine V_ex sX8_readAnd_18 (by rfl) (by first | exact trivial | exact Or.inr rfl | exact Or.inl rfl | (simp only [ob, obA, R32, R64] at *; omega) | (simp only [ob, obA, R32, R64] at *; and_intros <;> omega)) ?_
        refine V_ifeqB dX8_readAnd_19 (tgt := 61) (by decide) (fun q19 => ?_) (fun q19 => ?_)
        · exact stopb (of_decide_eq_false q19)
        · have hb := of_decide_eq_true q19
          refine V_ex sX8_readAnd_22 (by simp only [Option.toList, List.cons_append, List.nil_append, exN, ex1, gI, gL, gR, pI, pL, pR, lget, lset1, lset2, kl, b2I, b2L, nob, ob32, ob64, xGet, xPut, xLen, xLd, xLdR, xSt, obA, true_and, and_true, and_self, eq_self, Nat.reduceEqDiff, Nat.zero_ne_one, reduceIte, Nat.reduceLeDiff, and_false, false_and, show skd 7 0 = 2 from rfl, show LF.1 3 = some (.inl 7) from rfl, show LF.2 3 0 = some 4 from rfl, upd2_eq, Int.reduceToNat, Int.toNat_natCast]; rfl) (by first | exact trivial | exact Or.inr rfl | exact Or.inl rfl | (simp only [ob, obA, R32, R64] at *; omega) | (simp only [ob, obA, R32, R64] at *; and_intros <;> omega)) ?_
          refine V_callV (M := MX8_readAnd) (N := MX9_is) dX8_readAnd_29 lRX8_37 kX9_is rfl (rfl) rfl (c_tIs (d := 0) hκ a1 (by omega) (by rw [e5]; unfold R32; omega) (by unfold R32; omega)) rfl rfl (Nat.le_of_ble_eq_true rfl) (fit_rm (by omega)) (⟨Nat.le_of_ble_eq_true rfl, Nat.le_of_ble_eq_true rfl⟩) (fun v Ω' hp => ?_) (fun _ _ h => h.elim)
          obtain ⟨rfl, rfl⟩ := hp
          rw [e5]
          refine V_ifeqB dX8_readAnd_32 (tgt := 61) (by decide) (fun q32 => ?_) (fun q32 => ?_)
          · exact stop (by rw [opA, if_neg (of_decide_eq_false q32)])
          · exact go hb (by rw [opA, if_pos (of_decide_eq_true q32)])
  have hp0 := hPG i c hiN
  refine V_ex sX8_readAnd_0 (by rfl) (by first | exact trivial | exact Or.inr rfl | exact Or.inl rfl | (simp only [ob, obA, R32, R64] at *; omega) | (simp only [ob, obA, R32, R64] at *; and_intros <;> omega)) ?_
  refine V_callV (M := MX8_readAnd) (N := MX8_readNot) dX8_readAnd_3 lRX8_165 kX8_readNot rfl (rfl) rfl (hsub G i c h0) rfl rfl (Nat.le_of_ble_eq_true rfl) (fit_rm (by omega)) (⟨Nat.le_of_ble_eq_true rfl, Nat.le_of_ble_eq_true rfl⟩) (fun v Ω' hp => ?_) (fun _ _ h => h.elim)
  obtain ⟨rfl, G3, rfl, f3, a3, b3, c3, d3, e3⟩ := hp
  refine V_ex sX8_readAnd_6 (by rfl) (by first | exact trivial | exact Or.inr rfl | exact Or.inl rfl | (simp only [ob, obA, R32, R64] at *; omega) | (simp only [ob, obA, R32, R64] at *; and_intros <;> omega)) ?_
  exact L 501 _ G3 0 rfl (by omega) ⟨f3, a3, b3, c3, d3, e3, pRes_mono hp0 (by omega)⟩ rfl
set_option maxRecDepth 100000 in
set_option maxHeartbeats 4000000 in
theorem c_rOr {κ : Kx} (hκ : KOK κ) {d d' s N H : Nat} {lv : Int} {w v : Nat → Int} {p : PE → PE} (hE : eE s w v N) (hlv : 0 ≤ lv ∧ lv < 6) (hsub : eC κ MX8_readAnd d' s lv w v N p) (hPG : PG N H p) (hd : d' + 1 ≤ d) (hd2 : 3 ≤ d) {G : Wd} {i : Nat} {c : List Int} (h : eH s w v N G i c) : Ct κ MX8_readOr d 0 0 [VR 3, VR s, VI lv] (Wm G) (eP s G i (pLoop opO w p 501 (p (i, 0, c)))) noX := by
  refine Ct_of hκ kX8_readOr.1 rfl (Nat.le_of_ble_eq_true rfl) (ls := [some (VR 3), some (VR s), some (VI lv), none, none]) rfl (fun μ => ?_)
  have hE0 := hE
  obtain ⟨hS, hT, hN, hw⟩ := hE
  have h0 := h
  obtain ⟨hr, hi, hiN, hcd, hci⟩ := h
  have hne := sh_ne hS
  have h1S := (sh_facts hS).1
  have L : ∀ (k : Nat) (r : PE) (G1 : Wd) (ii : Int), ii = 501 - (k : Int) → k ≤ 501 → eI s N (H + 1) G i c G1 r → pLoop opO w p k r = pLoop opO w p 501 (p (i, 0, c)) → V κ MX8_readOr (rmD d 0 0) (eP s G i (pLoop opO w p 501 (p (i, 0, c)))) noX 0 0 μ 0 0 (Wm G1) 53 [some (VR 3), some (VR s), some (VI lv), some (VI (b2i (decide (r.2.1 = 0)))), some (VI ii)] [] := by
    intro k
    induction k with
    | zero =>
      intro r G1 ii hii hk hI he
      rw [pLoop] at he
      refine V_ex sX8_readOr_53 (by rfl) (by first | exact trivial | exact Or.inr rfl | exact Or.inl rfl | (simp only [ob, obA, R32, R64] at *; omega) | (simp only [ob, obA, R32, R64] at *; and_intros <;> omega)) ?_
      refine V_icmpgt dX8_readOr_58 (tgt := 104) (by decide) (by simp only [R32, R64] at *; omega) (fun q58 => ?_) (fun q58 => ?_)
      · refine V_ex sX8_readOr_104 (by rfl) (by first | exact trivial | exact Or.inr rfl | exact Or.inl rfl | (simp only [ob, obA, R32, R64] at *; omega) | (simp only [ob, obA, R32, R64] at *; and_intros <;> omega)) ?_
        refine V_zret dX8_readOr_105 rfl (by first | exact Or.inl rfl | exact Or.inr rfl | exact b2i_01 _) (by decide) (by rw [← he]; exact eI_P hI)
      · omega
    | succ k ih =>
      intro r G1 ii hii hk hI he
      have hI0 := hI
      obtain ⟨f1, a1, b1, c1, d1, e1, g1⟩ := hI
      have hr1 := f1.rd hS hr
      have rN := g1.2.1
      have e5 := (hr1 r.1 rN).1
      have hwr := hw r.1 rN
      have stop : opO (w r.1) = none → V κ MX8_readOr (rmD d 0 0) (eP s G i (pLoop opO w p 501 (p (i, 0, c)))) noX 0 0 μ 0 0 (Wm G1) 104 [some (VR 3), some (VR s), some (VI lv), some (VI (b2i (decide (r.2.1 = 0)))), some (VI ii)] [] := fun hn => by
        rw [pLoop_no _ hn] at he
        refine V_ex sX8_readOr_104 (by rfl) (by first | exact trivial | exact Or.inr rfl | exact Or.inl rfl | (simp only [ob, obA, R32, R64] at *; omega) | (simp only [ob, obA, R32, R64] at *; and_intros <;> omega)) ?_
        refine V_zret dX8_readOr_105 rfl (by first | exact Or.inl rfl | exact Or.inr rfl | exact b2i_01 _) (by decide) (by rw [← he]; exact eI_P hI0)
      have stopb : r.2.1 ≠ 0 → V κ MX8_readOr (rmD d 0 0) (eP s G i (pLoop opO w p 501 (p (i, 0, c)))) noX 0 0 μ 0 0 (Wm G1) 104 [some (VR 3), some (VR s), some (VI lv), some (VI (b2i (decide (r.2.1 = 0)))), some (VI ii)] [] := fun hn => by
        rw [pLoop_bad _ hn] at he
        refine V_ex sX8_readOr_104 (by rfl) (by first | exact trivial | exact Or.inr rfl | exact Or.inl rfl | (simp only [ob, obA, R32, R64] at *; omega) | (simp only [ob, obA, R32, R64] at *; and_intros <;> omega)) ?_
        refine V_zret dX8_readOr_105 rfl (by first | exact Or.inl rfl | exact Or.inr rfl | exact b2i_01 _) (by decide) (by rw [← he]; exact eI_P hI0)
      have go : r.2.1 = 0 → opO (w r.1) = some (-7) → V κ MX8_readOr (rmD d 0 0) (eP s G i (pLoop opO w p 501 (p (i, 0, c)))) noX 0 0 μ 0 0 (Wm G1) 78 [some (VR 3), some (VR s), some (VI lv), some (VI (b2i (decide (r.2.1 = 0)))), some (VI ii)] [] := fun hb ho => by
        have hlt : r.1 < N := pTok_lt hT rN (fun q => by rw [q] at ho; cases ho)
        rw [pLoop_go k hb ho] at he
        have hcr := (b1 hb).2
        have hlen : r.2.2.length ≤ r.1 := by
          obtain ⟨-, cs, k1, -, k3, -⟩ := g1.2.2.2.2 hb
          have := g1.1
          rw [k1]; simp; omega
        have hoo := opO_o _ _ ho
        refine V_ex sX8_readOr_78 (by simp only [Option.toList, List.cons_append, List.nil_append, exN, ex1, gI, gL, gR, pI, pL, pR, lget, lset1, lset2, kl, b2I, b2L, nob, ob32, ob64, xGet, xPut, xLen, xLd, xLdR, xSt, obA, true_and, and_true, and_self, eq_self, Nat.reduceEqDiff, Nat.zero_ne_one, reduceIte, Nat.reduceLeDiff, and_false, false_and, show skd 7 0 = 2 from rfl, show LF.1 3 = some (.inl 7) from rfl, show LF.2 3 0 = some 4 from rfl, upd2_eq, Int.reduceToNat, Int.toNat_natCast]; rfl) (by first | exact trivial | exact Or.inr rfl | exact Or.inl rfl | (simp only [ob, obA, R32, R64] at *; omega) | (simp only [ob, obA, R32, R64] at *; and_intros <;> omega)) ?_
        refine V_callV (M := MX8_readOr) (N := MX9_advance) dX8_readOr_82 lRX8_52 kX9_advance rfl (rfl) rfl (c_tAdvance (d := 0) hκ) rfl rfl (Nat.le_of_ble_eq_true rfl) (fit_rm (by omega)) (⟨Nat.le_of_ble_eq_true rfl, Nat.le_of_ble_eq_true rfl⟩) (fun v Ω' hp => ?_) (fun _ _ h => h.elim)
        obtain ⟨rfl, rfl⟩ := hp
        rw [a1]
        refine V_ex sX8_readOr_85 (by rfl) (by first | exact trivial | exact Or.inr rfl | exact Or.inl rfl | (simp only [ob, obA, R32, R64] at *; omega) | (simp only [ob, obA, R32, R64] at *; and_intros <;> omega)) ?_
        refine V_callV (M := MX8_readOr) (N := MX8_readAnd) dX8_readOr_88 lRX8_159 kX8_readAnd rfl (rfl) rfl (hsub (uI G1 4 6 ((r.1 : Int) + 1)) (r.1 + 1) r.2.2 ⟨(FE.cur s G1 _).rd hS hr1, by rw [of_cur]; omega, by omega, cd_cur hne hcr, by omega⟩) rfl rfl (Nat.le_of_ble_eq_true rfl) (fit_rm (by omega)) (⟨Nat.le_of_ble_eq_true rfl, Nat.le_of_ble_eq_true rfl⟩) (fun v Ω' hp => ?_) (fun _ _ h => h.elim)
        obtain ⟨rfl, G3, rfl, f3, a3, b3, c3, d3, e3⟩ := hp
        have hI3 := eI_next hE0 hcd hci hI0 hb hlt hPG hoo f3 a3 b3 c3 d3 e3
        have hg3 := hPG (r.1 + 1) r.2.2 (by omega)
        have hb8 : 0 ≤ G3.1 s 8 ∧ G3.1 s 8 ≤ 2000 := ⟨d3, by rw [at_cur (by omega)] at e3; have := hcr.1; have := hg3.2.1; omega⟩
        refine V_ex sX8_readOr_91 (by rfl) (by first | exact trivial | exact Or.inr rfl | exact Or.inl rfl | (simp only [ob, obA, R32, R64] at *; omega) | (simp only [ob, obA, R32, R64] at *; and_intros <;> omega)) ?_
        refine V_callV (M := MX8_readOr) (N := MX7_write) dX8_readOr_95 lRX8_162 kX7_write rfl (h1S) rfl (c_write2 (d := 1) hκ hS hb8 (by omega)) rfl rfl (Nat.le_of_ble_eq_true rfl) (fit_rm (by omega)) (⟨Nat.le_of_ble_eq_true rfl, Nat.le_of_ble_eq_true rfl⟩) (fun v Ω' hp => ?_) (fun _ _ h => h.elim)
        obtain ⟨rfl, rfl⟩ := hp
        refine V_ex sX8_readOr_98 (by rfl) (by first | exact trivial | exact Or.inr rfl | exact Or.inl rfl | (simp only [ob, obA, R32, R64] at *; omega) | (simp only [ob, obA, R32, R64] at *; and_intros <;> omega)) ?_
        refine V_goto dX8_readOr_101 (tgt := 53) (by decide) ?_
        have hbb : decide ((p (r.1 + 1, 0, r.2.2)).2.1 = 0) = decide ((if (p (r.1 + 1, 0, r.2.2)).2.1 = 0 then ((p (r.1 + 1, 0, r.2.2)).1, (0 : Int), (p (r.1 + 1, 0, r.2.2)).2.2 ++ [(-7)]) else p (r.1 + 1, 0, r.2.2)).2.1 = 0) := by
          by_cases c9 : (p (r.1 + 1, 0, r.2.2)).2.1 = 0
          · rw [if_pos c9, decide_eq_true c9]; rfl
          · rw [if_neg c9]
        rw [hbb]
        exact ih _ _ _ (by omega) (by omega) hI3 he
      refine V_ex sX8_readOr_53 (by rfl) (by first | exact trivial | exact Or.inr rfl | exact Or.inl rfl | (simp only [ob, obA, R32, R64] at *; omega) | (simp only [ob, obA, R32, R64] at *; and_intros <;> omega)) ?_
      refine V_icmpgt dX8_readOr_58 (tgt := 104) (by decide) (by simp only [R32, R64] at *; omega) (fun q58 => ?_) (fun q58 => ?_)
      · omega
      · refine V_ex sX8_readOr_61 (by rfl) (by first | exact trivial | exact Or.inr rfl | exact Or.inl rfl | (simp only [ob, obA, R32, R64] at *; omega) | (simp only [ob, obA, R32, R64] at *; and_intros <;> omega)) ?_
        refine V_ifeqB dX8_readOr_62 (tgt := 104) (by decide) (fun q62 => ?_) (fun q62 => ?_)
        · exact stopb (of_decide_eq_false q62)
        · have hb := of_decide_eq_true q62
          refine V_ex sX8_readOr_65 (by simp only [Option.toList, List.cons_append, List.nil_append, exN, ex1, gI, gL, gR, pI, pL, pR, lget, lset1, lset2, kl, b2I, b2L, nob, ob32, ob64, xGet, xPut, xLen, xLd, xLdR, xSt, obA, true_and, and_true, and_self, eq_self, Nat.reduceEqDiff, Nat.zero_ne_one, reduceIte, Nat.reduceLeDiff, and_false, false_and, show skd 7 0 = 2 from rfl, show LF.1 3 = some (.inl 7) from rfl, show LF.2 3 0 = some 4 from rfl, upd2_eq, Int.reduceToNat, Int.toNat_natCast]; rfl) (by first | exact trivial | exact Or.inr rfl | exact Or.inl rfl | (simp only [ob, obA, R32, R64] at *; omega) | (simp only [ob, obA, R32, R64] at *; and_intros <;> omega)) ?_
          refine V_callV (M := MX8_readOr) (N := MX9_is) dX8_readOr_72 lRX8_37 kX9_is rfl (rfl) rfl (c_tIs (d := 0) hκ a1 (by omega) (by rw [e5]; unfold R32; omega) (by unfold R32; omega)) rfl rfl (Nat.le_of_ble_eq_true rfl) (fit_rm (by omega)) (⟨Nat.le_of_ble_eq_true rfl, Nat.le_of_ble_eq_true rfl⟩) (fun v Ω' hp => ?_) (fun _ _ h => h.elim)
          obtain ⟨rfl, rfl⟩ := hp
          rw [e5]
          refine V_ifeqB dX8_readOr_75 (tgt := 104) (by decide) (fun q75 => ?_) (fun q75 => ?_)
          · exact stop (by rw [opO, if_neg (of_decide_eq_false q75)])
          · exact go hb (by rw [opO, if_pos (of_decide_eq_true q75)])
  have hp0 := hPG i c hiN
  refine V_ex sX8_readOr_0 (by rfl) (by first | exact trivial | exact Or.inr rfl | exact Or.inl rfl | (simp only [ob, obA, R32, R64] at *; omega) | (simp only [ob, obA, R32, R64] at *; and_intros <;> omega)) ?_
  refine V_icmplt dX8_readOr_3 (tgt := 43) (by decide) (by simp only [R32, R64] at *; omega) (fun q3 => ?_) (fun q3 => ?_)
  · refine V_ex sX8_readOr_43 (by rfl) (by first | exact trivial | exact Or.inr rfl | exact Or.inl rfl | (simp only [ob, obA, R32, R64] at *; omega) | (simp only [ob, obA, R32, R64] at *; and_intros <;> omega)) ?_
    refine V_callV (M := MX8_readOr) (N := MX8_readAnd) dX8_readOr_46 lRX8_159 kX8_readAnd rfl (rfl) rfl (hsub G i c h0) rfl rfl (Nat.le_of_ble_eq_true rfl) (fit_rm (by omega)) (⟨Nat.le_of_ble_eq_true rfl, Nat.le_of_ble_eq_true rfl⟩) (fun v Ω' hp => ?_) (fun _ _ h => h.elim)
    obtain ⟨rfl, G3, rfl, f3, a3, b3, c3, d3, e3⟩ := hp
    refine V_ex sX8_readOr_49 (by rfl) (by first | exact trivial | exact Or.inr rfl | exact Or.inl rfl | (simp only [ob, obA, R32, R64] at *; omega) | (simp only [ob, obA, R32, R64] at *; and_intros <;> omega)) ?_
    exact L 501 _ G3 0 rfl (by omega) ⟨f3, a3, b3, c3, d3, e3, pRes_mono hp0 (by omega)⟩ rfl
  · omega