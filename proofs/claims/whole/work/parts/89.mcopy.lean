/-! THE MODEL's reader: copies, rules -/
theorem mS1_cp {G G' : Wd} {S : Sh} {z : Int} {g : List Int} (h : mS1 G S) (hb : S.1.length ≤ 6) (h30 : ∀ q ∈ S.2.1, q.2.length ≤ 30) (e : ∀ x k, 148 ≤ x → x ≤ 160 → ¬ (x = 148 ∧ k = 3) → ¬ (x = 154 ∧ k = 8 + S.2.1.length) → ¬ (x = 155 ∧ k = 8 + S.2.1.length) → ¬ (x = 156 ∧ 30 * (8 + S.2.1.length) ≤ k ∧ k < 30 * (8 + S.2.1.length) + 30) → G'.1 x k = G.1 x k) (e23 : G'.1 145 23 = G.1 145 23) (h3' : G'.1 148 3 = ((S.2.1.length + 1 : Nat) : Int)) (hz : G'.1 154 (8 + S.2.1.length) = z) (hm : G'.1 155 (8 + S.2.1.length) = (g.length : Nat)) (hg : ∀ k (h : k < g.length), G'.1 156 (30 * (8 + S.2.1.length) + k) = g[k]'h) : mS1 G' (S.1, S.2.1 ++ [(z, g)], S.2.2) := by
  obtain ⟨h1, h2, h3, h4, h5, h6, h7⟩ := h
  refine ⟨by rw [e _ _ (by omega) (by omega) (by omega) (by omega) (by omega) (by omega)]; exact h1, fun j (hj : j < S.1.length) => mBk_congr (h2 j hj) (fun x a => e _ _ (by omega) (by omega) (by omega) (by omega) (by omega) (by omega)) (fun k a b => e _ _ (by omega) (by omega) (by omega) (by omega) (by omega) (by omega)), by simpa using h3', fun k hk => ?_, fun k hk => by rw [e _ _ (by omega) (by omega) (by omega) (by omega) (by omega) (by omega)]; exact h5 k hk, by rw [e23]; exact h6, fun k hk => by rw [e _ _ (by omega) (by omega) (by omega) (by omega) (by omega) (by omega)]; exact h7 k hk⟩
  have hk' : k < S.2.1.length + 1 := by simpa using hk
  by_cases c : k < S.2.1.length
  · have hl := h30 _ (List.getElem_mem c)
    simp only [List.getElem_append_left c]
    exact mCp_congr (h4 k c) (fun x a b => e _ _ (by omega) (by omega) (by omega) (by omega) (by omega) (by omega)) (fun y a b => e _ _ (by omega) (by omega) (by omega) (by omega) (by omega) (by omega))
  · obtain rfl : k = S.2.1.length := by omega
    simp only [List.getElem_append_right (Nat.le_refl _), Nat.sub_self, List.getElem_singleton]
    exact ⟨hz, hm, hg⟩
set_option maxRecDepth 100000 in
set_option maxHeartbeats 4000000 in
theorem c_mCopy {κ : Kx} (hκ : KOK κ) {d n i : Nat} {f : Nat → Int} {S : Sh} {G : Wd} (h : mlH f n G i S) (hw : tkW (tk f n 0) i = 265) (hd : 3 ≤ d) : Ct κ MX12_readCopy d 0 0 [VR 145] (Wm G) (mlP f n (pCopy (tkW (tk f n 0)) (tkV (tk f n 0)) i S) G) noX := by
  refine Ct_of hκ kX12_readCopy.1 rfl (Nat.le_of_ble_eq_true rfl) (ls := [some (VR 145), none]) rfl (fun μ => ?_)
  obtain ⟨hI, hiN, hS, hO⟩ := h
  have hS0 := hS
  obtain ⟨h1, h2, h3, -⟩ := hS
  obtain ⟨s1, s2, s3, s4, -⟩ := hO
  obtain ⟨h26, h21⟩ := mI_26 hI
  have hL1 := (tk_len f n n 0 (by omega)).1
  by_cases hc8 : 8 ≤ S.2.1.length
  · refine V_ex sX12_readCopy_0 (by simp only [Option.toList, List.cons_append, List.nil_append, exN, ex1, gI, gL, gR, pI, pL, pR, lget, lset1, lset2, kl, b2I, b2L, nob, ob32, ob64, xGet, xPut, xLen, xLd, xLdR, xSt, obA, true_and, and_true, and_self, eq_self, Nat.reduceEqDiff, Nat.zero_ne_one, reduceIte, Nat.reduceLeDiff, and_false, false_and, show skd 11 3 = 2 from rfl, show LF.1 145 = some (.inl 11) from rfl, show LF.2 145 3 = some 148 from rfl, show LF.1 148 = some (.inr (0, 4)) from rfl, h3, upd2_eq, Int.reduceToNat, Int.toNat_natCast]; rfl) (by first | exact trivial | exact Or.inr rfl | exact Or.inl rfl | (simp only [ob, obA, R32, R64] at *; omega) | (simp only [ob, obA, R32, R64] at *; and_intros <;> omega)) ?_
    refine V_icmpne dX12_readCopy_8 (tgt := 16) (by decide) (by simp only [R32, R64] at *; omega) (fun q8 => ?_) (fun q8 => ?_)
    · omega
    · refine V_ex sX12_readCopy_11 (by rfl) (by first | exact trivial | exact Or.inr rfl | exact Or.inl rfl | (simp only [ob, obA, R32, R64] at *; omega) | (simp only [ob, obA, R32, R64] at *; and_intros <;> omega)) ?_
      refine V_callV (M := MX12_readCopy) (N := MX12_cant) dX12_readCopy_13 lRX12_245 kX12_cant rfl (rfl) rfl (c_iCant (d := 0) hκ hI) rfl rfl (Nat.le_of_ble_eq_true rfl) (fit_rm (by omega)) (⟨Nat.le_of_ble_eq_true rfl, Nat.le_of_ble_eq_true rfl⟩) (fun v Ω' hp => ?_) (fun _ _ h => h.elim)
      obtain ⟨rfl, rfl⟩ := hp
      refine V_ex sX12_readCopy_16 (by simp only [Option.toList, List.cons_append, List.nil_append, exN, ex1, gI, gL, gR, pI, pL, pR, lget, lset1, lset2, kl, b2I, b2L, nob, ob32, ob64, xGet, xPut, xLen, xLd, xLdR, xSt, obA, true_and, and_true, and_self, eq_self, Nat.reduceEqDiff, Nat.zero_ne_one, reduceIte, Nat.reduceLeDiff, and_false, false_and, show skd 11 26 = 0 from rfl, show LF.1 145 = some (.inl 11) from rfl, upd2_eq, Int.reduceToNat, Int.toNat_natCast]; rfl) (by first | exact trivial | exact Or.inr rfl | exact Or.inl rfl | (simp only [ob, obA, R32, R64] at *; omega) | (simp only [ob, obA, R32, R64] at *; and_intros <;> omega)) ?_
      refine V_ifeq dX12_readCopy_20 (tgt := 24) (by decide) (by rw [ct_26]; unfold R32; decide) (fun q20 => ?_) (fun q20 => ?_)
      · rw [ct_26] at q20; exact absurd q20 (by decide)
      · refine V_vret dX12_readCopy_23 rfl (by decide) ⟨rfl, _, rfl, FU.ct G, by unfold pCopy; rw [if_pos hc8]; exact mlR_ct (by decide)⟩
  · have st := c_iNext hκ (d := 2) hI (by omega) (by omega)
    have e8 : (8 : Int) + ((S.2.1.length : Nat) : Int) = ((8 + S.2.1.length : Nat) : Int) := by omega
    have e30 : (30 : Int) * ((8 + S.2.1.length : Nat) : Int) = ((30 * (8 + S.2.1.length) : Nat) : Int) := by omega
    by_cases hx : pIdx (tkW (tk f n 0)) (tkV (tk f n 0)) S.1.length (i + 1) = 0
    · obtain ⟨hw1, hlt⟩ := pIdx_0 hx
      have rest : ∀ (b : Nat) (G3 : Wd), tkV (tk f n 0) (i + 1) = (b : Int) → FU G G3 → mI f n G3 (i + 2) → mS1 G3 S → V κ MX12_readCopy (rmD d 0 0) (mlP f n (pCopy (tkW (tk f n 0)) (tkV (tk f n 0)) i S) G) noX 0 0 μ 0 0 (Wm (G3)) 47 [some (VR 145), some (VI ((8 + S.2.1.length : Nat) : Int))] [VI (b : Nat), VI ((8 + S.2.1.length : Nat) : Int), VR 154] := fun b G3 hb fu3 i3 hS3 => by
        rw [hb] at hlt
        have hbl : b < S.1.length := by omega
        obtain ⟨g26, g21⟩ := mI_26 i3
        have hlt3 := mI_lt i3
        have hok := s2 _ (List.getElem_mem hbl)
        have hgd : S.1.getD b (0, 0, 0, 0, 0, []) = S.1[b]'hbl := by rw [List.getD_eq_getElem?_getD, List.getElem?_eq_getElem hbl]; rfl
        have hlvS : bkLv S b = (S.1[b]'hbl).2.2.1 := by unfold bkLv; rw [hgd]
        have hPe : pCopy (tkW (tk f n 0)) (tkV (tk f n 0)) i S = ((pLvs (tkW (tk f n 0)) (tkV (tk f n 0)) (S.1[b]'hbl).2.2.1 30 501 (i + 2) []).1, (pLvs (tkW (tk f n 0)) (tkV (tk f n 0)) (S.1[b]'hbl).2.2.1 30 501 (i + 2) []).2.1, (S.1, S.2.1 ++ [((b : Int), (pLvs (tkW (tk f n 0)) (tkV (tk f n 0)) (S.1[b]'hbl).2.2.1 30 501 (i + 2) []).2.2)], S.2.2)) := by
          unfold pCopy
          rw [if_neg hc8, if_neg (by omega), hb, Int.toNat_natCast, hlvS]
        obtain ⟨b1, b2, b3, -⟩ := hS3.2.1 b hbl
        obtain ⟨o1, o2, o3, o4, o5⟩ := hok
        have i4 : mI f n (uI G3 154 (8 + S.2.1.length) b) (i + 2) := mI_keep (fun j p q r => iv (by omega)) (by funext j; exact iv (by omega)) i3
        have b34 : (uI G3 154 (8 + S.2.1.length) b).1 151 (6 + b) = (S.1[b]'hbl).2.2.1 := by rw [iv (by omega)]; exact b3
        have fu4 : FU G (uI G3 154 (8 + S.2.1.length) b) := fu3.trans (FU.u G3 _ (by unfold up; omega))
        have hC := c_mLeaves (κ := κ) hκ (d := 2) i4 (a := 156) (sz := 480) (bk := b) (fr := 30 * (8 + S.2.1.length)) (most := 30) (g := []) rfl (by omega) (by omega) (by omega) (by omega) b34 (by omega) (fun j hj => absurd hj (by simp)) (by simp) (fun z hz => absurd hz (by simp)) (by omega) 501 (by omega)
        generalize pLvs (tkW (tk f n 0)) (tkV (tk f n 0)) (S.1[b]'hbl).2.2.1 30 501 (i + 2) [] = r at *
        have h31 : G3.1 148 3 = ((S.2.1.length : Nat) : Int) := hS3.2.2.1
        generalize hM : S.2.1.length = m at *
        refine V_ex sX12_readCopy_47 (by simp only [Option.toList, List.cons_append, List.nil_append, exN, ex1, gI, gL, gR, pI, pL, pR, lget, lset1, lset2, kl, b2I, b2L, nob, ob32, ob64, xGet, xPut, xLen, xLd, xLdR, xSt, obA, true_and, and_true, and_self, eq_self, Nat.reduceEqDiff, Nat.zero_ne_one, reduceIte, Nat.reduceLeDiff, and_false, false_and, show skd 11 10 = 2 from rfl, show skd 11 26 = 0 from rfl, show LF.1 154 = some (.inr (0, 16)) from rfl, show LF.1 145 = some (.inl 11) from rfl, show LF.2 145 10 = some 155 from rfl, upd2_eq, Int.reduceToNat, Int.toNat_natCast]; rfl) (by first | exact trivial | exact Or.inr rfl | exact Or.inl rfl | (simp only [ob, obA, R32, R64] at *; omega) | (simp only [ob, obA, R32, R64] at *; and_intros <;> omega)) ?_
        refine V_ifne dX12_readCopy_57 (tgt := 84) (by decide) (by rw [g26]; unfold R32; decide) (fun q57 => ?_) (fun q57 => ?_)
        · exact absurd g26 q57
        · refine V_ex sX12_readCopy_60 (by simp only [Option.toList, List.cons_append, List.nil_append, exN, ex1, gI, gL, gR, pI, pL, pR, lget, lset1, lset2, kl, b2I, b2L, nob, ob32, ob64, xGet, xPut, xLen, xLd, xLdR, xSt, obA, true_and, and_true, and_self, eq_self, Nat.reduceEqDiff, Nat.zero_ne_one, reduceIte, Nat.reduceLeDiff, and_false, false_and, show skd 11 9 = 2 from rfl, show skd 11 11 = 2 from rfl, show LF.1 145 = some (.inl 11) from rfl, show LF.2 145 9 = some 154 from rfl, show LF.1 154 = some (.inr (0, 16)) from rfl, show LF.2 145 11 = some 156 from rfl, upd2_eq, Int.reduceToNat, Int.toNat_natCast]; rfl) (by first | exact trivial | exact Or.inr rfl | exact Or.inl rfl | (simp only [ob, obA, R32, R64] at *; omega) | (simp only [ob, obA, R32, R64] at *; and_intros <;> omega)) ?_
          rw [e30]
          refine V_callV (M := MX12_readCopy) (N := MX12_readLeaves) dX12_readCopy_78 lRX12_307 kX12_readLeaves rfl (rfl) rfl (hC) rfl rfl (Nat.le_of_ble_eq_true rfl) (fit_rm (by omega)) (⟨Nat.le_of_ble_eq_true rfl, Nat.le_of_ble_eq_true rfl⟩) (fun v Ω' hp => ?_) (fun _ _ h => h.elim)
          obtain ⟨G4, rfl, f4, hr0, hr1⟩ := hp
          have f4u : FU G G4 := fu4.trans (FU.lv f4 (fun j p q => by unfold up; omega))
          have hMV : ∃ z, v = some (VI z) ∧ (r.2.1 = 0 → z = (r.2.2.length : Nat)) := by
            by_cases c : r.2.1 = 0
            · exact ⟨_, (hr0 c).2.1, fun _ => rfl⟩
            · obtain ⟨-, -, z, hz⟩ := hr1 c
              exact ⟨z, hz, fun q => absurd q c⟩
          obtain ⟨z, rfl, hz⟩ := hMV
          have g3 : G4.1 148 3 = ((m : Nat) : Int) := by rw [f4.2 _ _ (by omega) (by omega), iv (by omega)]; exact h31
          refine V_goto dX12_readCopy_81 (tgt := 85) (by decide) ?_
          refine V_ex sX12_readCopy_85 (by simp only [Option.toList, List.cons_append, List.nil_append, exN, ex1, gI, gL, gR, pI, pL, pR, lget, lset1, lset2, kl, b2I, b2L, nob, ob32, ob64, xGet, xPut, xLen, xLd, xLdR, xSt, obA, true_and, and_true, and_self, eq_self, Nat.reduceEqDiff, Nat.zero_ne_one, reduceIte, Nat.reduceLeDiff, and_false, false_and, show skd 11 3 = 2 from rfl, show LF.1 155 = some (.inr (0, 16)) from rfl, show LF.1 145 = some (.inl 11) from rfl, show LF.2 145 3 = some 148 from rfl, show LF.1 148 = some (.inr (0, 4)) from rfl, g3, upd2_eq, Int.reduceToNat, Int.toNat_natCast]; rfl) (by first | exact trivial | exact Or.inr rfl | exact Or.inl rfl | (simp only [ob, obA, R32, R64] at *; omega) | (simp only [ob, obA, R32, R64] at *; and_intros <;> omega)) ?_
          refine V_vret dX12_readCopy_96 rfl (by decide) ?_
          refine ⟨rfl, uI (uI G4 155 (8 + m) z) 148 3 ((m : Int) + 1), rfl, (f4u.trans (FU.u G4 (a := 155) (k := 8 + m) z (by unfold up; omega))).trans (FU.u _ _ (by unfold up; omega)), ?_⟩
          rw [hPe]
          subst hM
          refine ⟨fun q => ⟨mI_keep (fun j p q r => by rw [iv (by omega), iv (by omega)]) (by funext j; rw [iv (by omega), iv (by omega)]) (hr0 q).1, mS1_cp hS3 s1 (fun q hq => (s4 q hq).2.2.1) (fun x k p q r t u w => by rw [iv (by omega), iv (by omega), f4.2 _ _ (by omega) (by omega), iv (by omega)]) (by rw [iv (by omega), iv (by omega), f4.2 _ _ (by omega) (by omega), iv (by omega)]) (by rw [iu]; omega) (by rw [iv (by omega), iv (by omega), f4.2 _ _ (by omega) (by omega), iu]) (by rw [iv (by omega), iu, hz q]) (fun k hk => by rw [iv (by omega), iv (by omega)]; exact (hr0 q).2.2 k hk)⟩, fun q => ⟨by rw [iv (by omega), iv (by omega)]; exact (hr1 q).1, by rw [iv (by omega), iv (by omega)]; exact (hr1 q).2.1⟩⟩
      refine V_ex sX12_readCopy_0 (by simp only [Option.toList, List.cons_append, List.nil_append, exN, ex1, gI, gL, gR, pI, pL, pR, lget, lset1, lset2, kl, b2I, b2L, nob, ob32, ob64, xGet, xPut, xLen, xLd, xLdR, xSt, obA, true_and, and_true, and_self, eq_self, Nat.reduceEqDiff, Nat.zero_ne_one, reduceIte, Nat.reduceLeDiff, and_false, false_and, show skd 11 3 = 2 from rfl, show LF.1 145 = some (.inl 11) from rfl, show LF.2 145 3 = some 148 from rfl, show LF.1 148 = some (.inr (0, 4)) from rfl, h3, upd2_eq, Int.reduceToNat, Int.toNat_natCast]; rfl) (by first | exact trivial | exact Or.inr rfl | exact Or.inl rfl | (simp only [ob, obA, R32, R64] at *; omega) | (simp only [ob, obA, R32, R64] at *; and_intros <;> omega)) ?_
      refine V_icmpne dX12_readCopy_8 (tgt := 16) (by decide) (by simp only [R32, R64] at *; omega) (fun q8 => ?_) (fun q8 => ?_)
      · refine V_ex sX12_readCopy_16 (by simp only [Option.toList, List.cons_append, List.nil_append, exN, ex1, gI, gL, gR, pI, pL, pR, lget, lset1, lset2, kl, b2I, b2L, nob, ob32, ob64, xGet, xPut, xLen, xLd, xLdR, xSt, obA, true_and, and_true, and_self, eq_self, Nat.reduceEqDiff, Nat.zero_ne_one, reduceIte, Nat.reduceLeDiff, and_false, false_and, show skd 11 26 = 0 from rfl, show LF.1 145 = some (.inl 11) from rfl, upd2_eq, Int.reduceToNat, Int.toNat_natCast]; rfl) (by first | exact trivial | exact Or.inr rfl | exact Or.inl rfl | (simp only [ob, obA, R32, R64] at *; omega) | (simp only [ob, obA, R32, R64] at *; and_intros <;> omega)) ?_
        refine V_ifeq dX12_readCopy_20 (tgt := 24) (by decide) (by rw [h26]; unfold R32; decide) (fun q20 => ?_) (fun q20 => ?_)
        · refine V_ex sX12_readCopy_24 (by rfl) (by first | exact trivial | exact Or.inr rfl | exact Or.inl rfl | (simp only [ob, obA, R32, R64] at *; omega) | (simp only [ob, obA, R32, R64] at *; and_intros <;> omega)) ?_
          refine V_callV (M := MX12_readCopy) (N := MX12_stepOn) dX12_readCopy_25 lRX12_249 kX12_stepOn rfl (rfl) rfl (st) rfl rfl (Nat.le_of_ble_eq_true rfl) (fit_rm (by omega)) (⟨Nat.le_of_ble_eq_true rfl, Nat.le_of_ble_eq_true rfl⟩) (fun v Ω' hp => ?_) (fun _ _ h => h.elim)
          obtain ⟨rfl, G2, rfl, f2, i2⟩ := hp
          have h12 : G2.1 148 2 = (S.1.length : Nat) := by rw [f2.2 _ _ (by omega)]; exact h1
          have h13 : G2.1 148 3 = (S.2.1.length : Nat) := by rw [f2.2 _ _ (by omega)]; exact h3
          have hv1 := (mI_lt i2).2.2.2.2.1
          obtain ⟨b, hb⟩ : ∃ b : Nat, tkV (tk f n 0) (i + 1) = (b : Int) := ⟨(tkV (tk f n 0) (i + 1)).toNat, by omega⟩
          refine V_ex sX12_readCopy_28 (by simp only [Option.toList, List.cons_append, List.nil_append, exN, ex1, gI, gL, gR, pI, pL, pR, lget, lset1, lset2, kl, b2I, b2L, nob, ob32, ob64, xGet, xPut, xLen, xLd, xLdR, xSt, obA, true_and, and_true, and_self, eq_self, Nat.reduceEqDiff, Nat.zero_ne_one, reduceIte, Nat.reduceLeDiff, and_false, false_and, show skd 11 3 = 2 from rfl, show skd 11 9 = 2 from rfl, show LF.1 145 = some (.inl 11) from rfl, show LF.2 145 3 = some 148 from rfl, show LF.1 148 = some (.inr (0, 4)) from rfl, show LF.2 145 9 = some 154 from rfl, h13, upd2_eq, Int.reduceToNat, Int.toNat_natCast]; rfl) (by first | exact trivial | exact Or.inr rfl | exact Or.inl rfl | (simp only [ob, obA, R32, R64] at *; omega) | (simp only [ob, obA, R32, R64] at *; and_intros <;> omega)) ?_
          rw [e8]
          refine V_callV (M := MX12_readCopy) (N := MX12_readOneOf) dX12_readCopy_44 lRX12_304 kX12_readOneOf rfl (rfl) rfl (c_mOneOf hκ (d := 2) i2 h12 (by omega) (by omega)) rfl rfl (Nat.le_of_ble_eq_true rfl) (fit_rm (by omega)) (⟨Nat.le_of_ble_eq_true rfl, Nat.le_of_ble_eq_true rfl⟩) (fun v Ω' hp => ?_) (fun _ _ h => h.elim)
          obtain ⟨hp, -⟩ := hp
          obtain ⟨rfl, -, G3, rfl, f3, i3⟩ := hp hx
          rw [hb]
          exact rest b G3 hb ((FU.m f2).trans (FU.m f3)) i3 (mS1_m (mS1_m hS0 f2) f3)
        · exact absurd h26 q20
      · omega
    · have hR := pIdx_R (tkW (tk f n 0)) (tkV (tk f n 0)) S.1.length (i + 1)
      generalize hk : pIdx (tkW (tk f n 0)) (tkV (tk f n 0)) S.1.length (i + 1) = kk at *
      refine V_ex sX12_readCopy_0 (by simp only [Option.toList, List.cons_append, List.nil_append, exN, ex1, gI, gL, gR, pI, pL, pR, lget, lset1, lset2, kl, b2I, b2L, nob, ob32, ob64, xGet, xPut, xLen, xLd, xLdR, xSt, obA, true_and, and_true, and_self, eq_self, Nat.reduceEqDiff, Nat.zero_ne_one, reduceIte, Nat.reduceLeDiff, and_false, false_and, show skd 11 3 = 2 from rfl, show LF.1 145 = some (.inl 11) from rfl, show LF.2 145 3 = some 148 from rfl, show LF.1 148 = some (.inr (0, 4)) from rfl, h3, upd2_eq, Int.reduceToNat, Int.toNat_natCast]; rfl) (by first | exact trivial | exact Or.inr rfl | exact Or.inl rfl | (simp only [ob, obA, R32, R64] at *; omega) | (simp only [ob, obA, R32, R64] at *; and_intros <;> omega)) ?_
      refine V_icmpne dX12_readCopy_8 (tgt := 16) (by decide) (by simp only [R32, R64] at *; omega) (fun q8 => ?_) (fun q8 => ?_)
      · refine V_ex sX12_readCopy_16 (by simp only [Option.toList, List.cons_append, List.nil_append, exN, ex1, gI, gL, gR, pI, pL, pR, lget, lset1, lset2, kl, b2I, b2L, nob, ob32, ob64, xGet, xPut, xLen, xLd, xLdR, xSt, obA, true_and, and_true, and_self, eq_self, Nat.reduceEqDiff, Nat.zero_ne_one, reduceIte, Nat.reduceLeDiff, and_false, false_and, show skd 11 26 = 0 from rfl, show LF.1 145 = some (.inl 11) from rfl, upd2_eq, Int.reduceToNat, Int.toNat_natCast]; rfl) (by first | exact trivial | exact Or.inr rfl | exact Or.inl rfl | (simp only [ob, obA, R32, R64] at *; omega) | (simp only [ob, obA, R32, R64] at *; and_intros <;> omega)) ?_
        refine V_ifeq dX12_readCopy_20 (tgt := 24) (by decide) (by rw [h26]; unfold R32; decide) (fun q20 => ?_) (fun q20 => ?_)
        · refine V_ex sX12_readCopy_24 (by rfl) (by first | exact trivial | exact Or.inr rfl | exact Or.inl rfl | (simp only [ob, obA, R32, R64] at *; omega) | (simp only [ob, obA, R32, R64] at *; and_intros <;> omega)) ?_
          refine V_callV (M := MX12_readCopy) (N := MX12_stepOn) dX12_readCopy_25 lRX12_249 kX12_stepOn rfl (rfl) rfl (st) rfl rfl (Nat.le_of_ble_eq_true rfl) (fit_rm (by omega)) (⟨Nat.le_of_ble_eq_true rfl, Nat.le_of_ble_eq_true rfl⟩) (fun v Ω' hp => ?_) (fun _ _ h => h.elim)
          obtain ⟨rfl, G2, rfl, f2, i2⟩ := hp
          have h12 : G2.1 148 2 = (S.1.length : Nat) := by rw [f2.2 _ _ (by omega)]; exact h1
          have h13 : G2.1 148 3 = (S.2.1.length : Nat) := by rw [f2.2 _ _ (by omega)]; exact h3
          refine V_ex sX12_readCopy_28 (by simp only [Option.toList, List.cons_append, List.nil_append, exN, ex1, gI, gL, gR, pI, pL, pR, lget, lset1, lset2, kl, b2I, b2L, nob, ob32, ob64, xGet, xPut, xLen, xLd, xLdR, xSt, obA, true_and, and_true, and_self, eq_self, Nat.reduceEqDiff, Nat.zero_ne_one, reduceIte, Nat.reduceLeDiff, and_false, false_and, show skd 11 3 = 2 from rfl, show skd 11 9 = 2 from rfl, show LF.1 145 = some (.inl 11) from rfl, show LF.2 145 3 = some 148 from rfl, show LF.1 148 = some (.inr (0, 4)) from rfl, show LF.2 145 9 = some 154 from rfl, h13, upd2_eq, Int.reduceToNat, Int.toNat_natCast]; rfl) (by first | exact trivial | exact Or.inr rfl | exact Or.inl rfl | (simp only [ob, obA, R32, R64] at *; omega) | (simp only [ob, obA, R32, R64] at *; and_intros <;> omega)) ?_
          rw [e8]
          refine V_callV (M := MX12_readCopy) (N := MX12_readOneOf) dX12_readCopy_44 lRX12_304 kX12_readOneOf rfl (rfl) rfl (c_mOneOf hκ (d := 2) i2 h12 (by omega) (by omega)) rfl rfl (Nat.le_of_ble_eq_true rfl) (fit_rm (by omega)) (⟨Nat.le_of_ble_eq_true rfl, Nat.le_of_ble_eq_true rfl⟩) (fun v Ω' hp => ?_) (fun _ _ h => h.elim)
          obtain ⟨-, hp⟩ := hp
          rw [hk] at hp
          obtain ⟨rfl, rfl⟩ := hp hx
          refine V_ex sX12_readCopy_47 (by simp only [Option.toList, List.cons_append, List.nil_append, exN, ex1, gI, gL, gR, pI, pL, pR, lget, lset1, lset2, kl, b2I, b2L, nob, ob32, ob64, xGet, xPut, xLen, xLd, xLdR, xSt, obA, true_and, and_true, and_self, eq_self, Nat.reduceEqDiff, Nat.zero_ne_one, reduceIte, Nat.reduceLeDiff, and_false, false_and, show skd 11 10 = 2 from rfl, show skd 11 26 = 0 from rfl, show LF.1 154 = some (.inr (0, 16)) from rfl, show LF.1 145 = some (.inl 11) from rfl, show LF.2 145 10 = some 155 from rfl, upd2_eq, Int.reduceToNat, Int.toNat_natCast]; rfl) (by first | exact trivial | exact Or.inr rfl | exact Or.inl rfl | (simp only [ob, obA, R32, R64] at *; omega) | (simp only [ob, obA, R32, R64] at *; and_intros <;> omega)) ?_
          refine V_ifne dX12_readCopy_57 (tgt := 84) (by decide) (by rw [ct_26]; unfold R32; omega) (fun q57 => ?_) (fun q57 => ?_)
          · refine V_ex sX12_readCopy_84 (by rfl) (by first | exact trivial | exact Or.inr rfl | exact Or.inl rfl | (simp only [ob, obA, R32, R64] at *; omega) | (simp only [ob, obA, R32, R64] at *; and_intros <;> omega)) ?_
            refine V_ex sX12_readCopy_85 (by simp only [Option.toList, List.cons_append, List.nil_append, exN, ex1, gI, gL, gR, pI, pL, pR, lget, lset1, lset2, kl, b2I, b2L, nob, ob32, ob64, xGet, xPut, xLen, xLd, xLdR, xSt, obA, true_and, and_true, and_self, eq_self, Nat.reduceEqDiff, Nat.zero_ne_one, reduceIte, Nat.reduceLeDiff, and_false, false_and, show skd 11 3 = 2 from rfl, show LF.1 155 = some (.inr (0, 16)) from rfl, show LF.1 145 = some (.inl 11) from rfl, show LF.2 145 3 = some 148 from rfl, show LF.1 148 = some (.inr (0, 4)) from rfl, upd2_eq, Int.reduceToNat, Int.toNat_natCast]; rfl) (by first | exact trivial | exact Or.inr rfl | exact Or.inl rfl | (simp only [ob, obA, R32, R64] at *; omega) | (simp only [ob, obA, R32, R64] at *; and_intros <;> omega)) ?_
            refine V_vret dX12_readCopy_96 rfl (by decide) ?_
            refine ⟨rfl, uI (uI (uI (ctW f n (i + 1) kk G2) 154 (8 + S.2.1.length) 0) 155 (8 + S.2.1.length) 0) 148 3 _, rfl, ((((FU.m f2).trans (FU.ct G2)).trans (FU.u _ (a := 154) (k := 8 + S.2.1.length) 0 (by unfold up; omega))).trans (FU.u _ (a := 155) (k := 8 + S.2.1.length) 0 (by unfold up; omega))).trans (FU.u _ _ (by unfold up; omega)), ?_⟩
            have hPe : pCopy (tkW (tk f n 0)) (tkV (tk f n 0)) i S = (i + 1, kk, S) := by unfold pCopy; rw [if_neg hc8, hk, if_pos hx]
            rw [hPe]
            exact ⟨fun q => absurd q hx, fun _ => ⟨by rw [iv (by omega), iv (by omega), iv (by omega)]; exact ct_26, by rw [iv (by omega), iv (by omega), iv (by omega)]; unfold ctW; rw [iu]⟩⟩
          · rw [ct_26] at q57; exact absurd q57 hx
        · exact absurd h26 q20
      · omega
/-- a rule behind its book -/
def pRule (w v : Nat → Int) (s : PE) : PE := if w s.1 ≠ 263 then (s.1, 1, s.2.2) else pOr w v 6 (s.1 + 1, 0, s.2.2)
set_option maxRecDepth 100000 in
set_option maxHeartbeats 4000000 in
theorem c_mRule0 {κ : Kx} (hκ : KOK κ) {d : Nat} {G : Wd} (hb : G.1 145 26 ≠ 0) (hR : R32 (G.1 145 26)) (hd : 1 ≤ d) : Ct κ MX12_readRule d 0 0 [VR 145] (Wm G) (voidG G) noX := by
  refine Ct_of hκ kX12_readRule.1 rfl (Nat.le_of_ble_eq_true rfl) (ls := [some (VR 145)]) rfl (fun μ => ?_)
  refine V_ex sX12_readRule_0 (by simp only [Option.toList, List.cons_append, List.nil_append, exN, ex1, gI, gL, gR, pI, pL, pR, lget, lset1, lset2, kl, b2I, b2L, nob, ob32, ob64, xGet, xPut, xLen, xLd, xLdR, xSt, obA, true_and, and_true, and_self, eq_self, Nat.reduceEqDiff, Nat.zero_ne_one, reduceIte, Nat.reduceLeDiff, and_false, false_and, show skd 11 26 = 0 from rfl, show LF.1 145 = some (.inl 11) from rfl, upd2_eq, Int.reduceToNat, Int.toNat_natCast]; rfl) (by first | exact trivial | exact Or.inr rfl | exact Or.inl rfl | (simp only [ob, obA, R32, R64] at *; omega) | (simp only [ob, obA, R32, R64] at *; and_intros <;> omega)) ?_
  refine V_ifne dX12_readRule_4 (tgt := 22) (by decide) (by exact hR) (fun q4 => ?_) (fun q4 => ?_)
  · refine V_ex sX12_readRule_22 (by simp only [Option.toList, List.cons_append, List.nil_append, exN, ex1, gI, gL, gR, pI, pL, pR, lget, lset1, lset2, kl, b2I, b2L, nob, ob32, ob64, xGet, xPut, xLen, xLd, xLdR, xSt, obA, true_and, and_true, and_self, eq_self, Nat.reduceEqDiff, Nat.zero_ne_one, reduceIte, Nat.reduceLeDiff, and_false, false_and, show skd 11 26 = 0 from rfl, show LF.1 145 = some (.inl 11) from rfl, upd2_eq, Int.reduceToNat, Int.toNat_natCast]; rfl) (by first | exact trivial | exact Or.inr rfl | exact Or.inl rfl | (simp only [ob, obA, R32, R64] at *; omega) | (simp only [ob, obA, R32, R64] at *; and_intros <;> omega)) ?_
    refine V_ifne dX12_readRule_26 (tgt := 33) (by decide) (by exact hR) (fun q26 => ?_) (fun q26 => ?_)
    · refine V_ex sX12_readRule_33 (by rfl) (by first | exact trivial | exact Or.inr rfl | exact Or.inl rfl | (simp only [ob, obA, R32, R64] at *; omega) | (simp only [ob, obA, R32, R64] at *; and_intros <;> omega)) ?_
      refine V_callV (M := MX12_readRule) (N := MX12_readExpression) dX12_readRule_35 lRX12_271 kX12_readExpression rfl (rfl) rfl (c_mExpr0 (d := 0) hκ hb hR) rfl rfl (Nat.le_of_ble_eq_true rfl) (fit_rm (by omega)) (⟨Nat.le_of_ble_eq_true rfl, Nat.le_of_ble_eq_true rfl⟩) (fun v Ω' hp => ?_) (fun _ _ h => h.elim)
      obtain ⟨rfl, rfl⟩ := hp
      refine V_vret dX12_readRule_38 rfl (by decide) ⟨rfl, rfl⟩
    · exact absurd q26 hb
  · exact absurd q4 hb
set_option maxRecDepth 100000 in
set_option maxHeartbeats 4000000 in
theorem c_mRule {κ : Kx} (hκ : KOK κ) (hKS : KS κ) {d n i : Nat} {f : Nat → Int} {c : List Int} {G : Wd} (hT : pTok (tkW (tk f n 0)) (tkV (tk f n 0)) ((tk f n 0).length - 1)) (h : mH f n G i c) (hd : 45 ≤ d) : Ct κ MX12_readRule d 0 0 [VR 145] (Wm G) (mQ f n (pRule (tkW (tk f n 0)) (tkV (tk f n 0)) (i, 0, c)) G) noX := by
  refine Ct_of hκ kX12_readRule.1 rfl (Nat.le_of_ble_eq_true rfl) (ls := [some (VR 145)]) rfl (fun μ => ?_)
  obtain ⟨hI, hc, hci⟩ := h
  obtain ⟨h26, h21⟩ := mI_26 hI
  have hwd := ks_M hKS (j := 14) (by omega)
  have his := c_iIs hκ hKS (d := 4) hI hwd (by decide) (by omega)
  have hE := c_mExpression hκ hKS hT 6 (by omega)
  by_cases hw : tkW (tk f n 0) i = 263
  · have hPe : pRule (tkW (tk f n 0)) (tkV (tk f n 0)) (i, 0, c) = pOr (tkW (tk f n 0)) (tkV (tk f n 0)) 6 (i + 1, 0, c) := by unfold pRule; rw [if_neg (by simpa using hw)]
    rw [hPe]
    generalize pOr (tkW (tk f n 0)) (tkV (tk f n 0)) 6 = p at *
    refine V_ex sX12_readRule_0 (by simp only [Option.toList, List.cons_append, List.nil_append, exN, ex1, gI, gL, gR, pI, pL, pR, lget, lset1, lset2, kl, b2I, b2L, nob, ob32, ob64, xGet, xPut, xLen, xLd, xLdR, xSt, obA, true_and, and_true, and_self, eq_self, Nat.reduceEqDiff, Nat.zero_ne_one, reduceIte, Nat.reduceLeDiff, and_false, false_and, show skd 11 26 = 0 from rfl, show LF.1 145 = some (.inl 11) from rfl, upd2_eq, Int.reduceToNat, Int.toNat_natCast]; rfl) (by first | exact trivial | exact Or.inr rfl | exact Or.inl rfl | (simp only [ob, obA, R32, R64] at *; omega) | (simp only [ob, obA, R32, R64] at *; and_intros <;> omega)) ?_
    refine V_ifne dX12_readRule_4 (tgt := 22) (by decide) (by rw [h26]; unfold R32; decide) (fun q4 => ?_) (fun q4 => ?_)
    · exact absurd h26 q4
    · refine V_ex sX12_readRule_7 (by rfl) (by first | exact trivial | exact Or.inr rfl | exact Or.inl rfl | (simp only [ob, obA, R32, R64] at *; omega) | (simp only [ob, obA, R32, R64] at *; and_intros <;> omega)) ?_
      refine V_ldcSw (n := 1000033) (ks_R hKS (i := 32) rfl) dX12_readRule_8 ?_
      refine V_callV (M := MX12_readRule) (N := MX12_is) dX12_readRule_11 lRX12_238 kX12_is rfl (rfl) rfl (his) rfl rfl (Nat.le_of_ble_eq_true rfl) (fit_rm (by omega)) (⟨Nat.le_of_ble_eq_true rfl, Nat.le_of_ble_eq_true rfl⟩) (fun v Ω' hp => ?_) (fun _ _ h => h.elim)
      obtain ⟨rfl, rfl⟩ := hp
      refine V_ifneB dX12_readRule_14 (tgt := 22) (by decide) (fun q14 => ?_) (fun q14 => ?_)
      · refine V_ex sX12_readRule_22 (by simp only [Option.toList, List.cons_append, List.nil_append, exN, ex1, gI, gL, gR, pI, pL, pR, lget, lset1, lset2, kl, b2I, b2L, nob, ob32, ob64, xGet, xPut, xLen, xLd, xLdR, xSt, obA, true_and, and_true, and_self, eq_self, Nat.reduceEqDiff, Nat.zero_ne_one, reduceIte, Nat.reduceLeDiff, and_false, false_and, show skd 11 26 = 0 from rfl, show LF.1 145 = some (.inl 11) from rfl, upd2_eq, Int.reduceToNat, Int.toNat_natCast]; rfl) (by first | exact trivial | exact Or.inr rfl | exact Or.inl rfl | (simp only [ob, obA, R32, R64] at *; omega) | (simp only [ob, obA, R32, R64] at *; and_intros <;> omega)) ?_
        refine V_ifne dX12_readRule_26 (tgt := 33) (by decide) (by rw [h26]; unfold R32; decide) (fun q26 => ?_) (fun q26 => ?_)
        · exact absurd h26 q26
        · refine V_ex sX12_readRule_29 (by rfl) (by first | exact trivial | exact Or.inr rfl | exact Or.inl rfl | (simp only [ob, obA, R32, R64] at *; omega) | (simp only [ob, obA, R32, R64] at *; and_intros <;> omega)) ?_
          refine V_callV (M := MX12_readRule) (N := MX12_stepOn) dX12_readRule_30 lRX12_249 kX12_stepOn rfl (rfl) rfl (c_iNext (d := 2) hκ hI (by omega) (by omega)) rfl rfl (Nat.le_of_ble_eq_true rfl) (fit_rm (by omega)) (⟨Nat.le_of_ble_eq_true rfl, Nat.le_of_ble_eq_true rfl⟩) (fun v Ω' hp => ?_) (fun _ _ h => h.elim)
          obtain ⟨rfl, G2, rfl, f2, i2⟩ := hp
          refine V_ex sX12_readRule_33 (by rfl) (by first | exact trivial | exact Or.inr rfl | exact Or.inl rfl | (simp only [ob, obA, R32, R64] at *; omega) | (simp only [ob, obA, R32, R64] at *; and_intros <;> omega)) ?_
          refine V_callV (M := MX12_readRule) (N := MX12_readExpression) dX12_readRule_35 lRX12_271 kX12_readExpression rfl (rfl) rfl (hE.1 G2 (i + 1) c ⟨i2, cd_m f2 hc, by omega⟩) rfl rfl (Nat.le_of_ble_eq_true rfl) (fit_rm (by omega)) (⟨Nat.le_of_ble_eq_true rfl, Nat.le_of_ble_eq_true rfl⟩) (fun v Ω' hp => ?_) (fun _ _ h => h.elim)
          obtain ⟨rfl, G3, rfl, f3, m3⟩ := hp
          refine V_vret dX12_readRule_38 rfl (by decide) ⟨rfl, G3, rfl, (FX.m f2).trans f3, m3⟩
      · exact absurd hw (of_decide_eq_false q14)
  · have hPe : pRule (tkW (tk f n 0)) (tkV (tk f n 0)) (i, 0, c) = (i, 1, c) := by unfold pRule; rw [if_pos (by simpa using hw)]
    rw [hPe]
    have hb : (ctW f n i 1 G).1 145 26 ≠ 0 := by rw [ct_26]; decide
    have hR : R32 ((ctW f n i 1 G).1 145 26) := by rw [ct_26]; unfold R32; decide
    refine V_ex sX12_readRule_0 (by simp only [Option.toList, List.cons_append, List.nil_append, exN, ex1, gI, gL, gR, pI, pL, pR, lget, lset1, lset2, kl, b2I, b2L, nob, ob32, ob64, xGet, xPut, xLen, xLd, xLdR, xSt, obA, true_and, and_true, and_self, eq_self, Nat.reduceEqDiff, Nat.zero_ne_one, reduceIte, Nat.reduceLeDiff, and_false, false_and, show skd 11 26 = 0 from rfl, show LF.1 145 = some (.inl 11) from rfl, upd2_eq, Int.reduceToNat, Int.toNat_natCast]; rfl) (by first | exact trivial | exact Or.inr rfl | exact Or.inl rfl | (simp only [ob, obA, R32, R64] at *; omega) | (simp only [ob, obA, R32, R64] at *; and_intros <;> omega)) ?_
    refine V_ifne dX12_readRule_4 (tgt := 22) (by decide) (by rw [h26]; unfold R32; decide) (fun q4 => ?_) (fun q4 => ?_)
    · exact absurd h26 q4
    · refine V_ex sX12_readRule_7 (by rfl) (by first | exact trivial | exact Or.inr rfl | exact Or.inl rfl | (simp only [ob, obA, R32, R64] at *; omega) | (simp only [ob, obA, R32, R64] at *; and_intros <;> omega)) ?_
      refine V_ldcSw (n := 1000033) (ks_R hKS (i := 32) rfl) dX12_readRule_8 ?_
      refine V_callV (M := MX12_readRule) (N := MX12_is) dX12_readRule_11 lRX12_238 kX12_is rfl (rfl) rfl (his) rfl rfl (Nat.le_of_ble_eq_true rfl) (fit_rm (by omega)) (⟨Nat.le_of_ble_eq_true rfl, Nat.le_of_ble_eq_true rfl⟩) (fun v Ω' hp => ?_) (fun _ _ h => h.elim)
      obtain ⟨rfl, rfl⟩ := hp
      refine V_ifneB dX12_readRule_14 (tgt := 22) (by decide) (fun q14 => ?_) (fun q14 => ?_)
      · exact absurd (of_decide_eq_true q14) hw
      · refine V_ex sX12_readRule_17 (by rfl) (by first | exact trivial | exact Or.inr rfl | exact Or.inl rfl | (simp only [ob, obA, R32, R64] at *; omega) | (simp only [ob, obA, R32, R64] at *; and_intros <;> omega)) ?_
        refine V_callV (M := MX12_readRule) (N := MX12_cant) dX12_readRule_19 lRX12_245 kX12_cant rfl (rfl) rfl (c_iCant (d := 0) hκ hI) rfl rfl (Nat.le_of_ble_eq_true rfl) (fit_rm (by omega)) (⟨Nat.le_of_ble_eq_true rfl, Nat.le_of_ble_eq_true rfl⟩) (fun v Ω' hp => ?_) (fun _ _ h => h.elim)
        obtain ⟨rfl, rfl⟩ := hp
        refine V_ex sX12_readRule_22 (by simp only [Option.toList, List.cons_append, List.nil_append, exN, ex1, gI, gL, gR, pI, pL, pR, lget, lset1, lset2, kl, b2I, b2L, nob, ob32, ob64, xGet, xPut, xLen, xLd, xLdR, xSt, obA, true_and, and_true, and_self, eq_self, Nat.reduceEqDiff, Nat.zero_ne_one, reduceIte, Nat.reduceLeDiff, and_false, false_and, show skd 11 26 = 0 from rfl, show LF.1 145 = some (.inl 11) from rfl, upd2_eq, Int.reduceToNat, Int.toNat_natCast]; rfl) (by first | exact trivial | exact Or.inr rfl | exact Or.inl rfl | (simp only [ob, obA, R32, R64] at *; omega) | (simp only [ob, obA, R32, R64] at *; and_intros <;> omega)) ?_
        refine V_ifne dX12_readRule_26 (tgt := 33) (by decide) (by exact hR) (fun q26 => ?_) (fun q26 => ?_)
        · refine V_ex sX12_readRule_33 (by rfl) (by first | exact trivial | exact Or.inr rfl | exact Or.inl rfl | (simp only [ob, obA, R32, R64] at *; omega) | (simp only [ob, obA, R32, R64] at *; and_intros <;> omega)) ?_
          refine V_callV (M := MX12_readRule) (N := MX12_readExpression) dX12_readRule_35 lRX12_271 kX12_readExpression rfl (rfl) rfl (c_mExpr0 (d := 0) hκ hb hR) rfl rfl (Nat.le_of_ble_eq_true rfl) (fit_rm (by omega)) (⟨Nat.le_of_ble_eq_true rfl, Nat.le_of_ble_eq_true rfl⟩) (fun v Ω' hp => ?_) (fun _ _ h => h.elim)
          obtain ⟨rfl, rfl⟩ := hp
          refine V_vret dX12_readRule_38 rfl (by decide) (mQ_ct G (by decide) rfl)
        · exact absurd q26 hb
