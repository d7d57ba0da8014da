/-! THE MODEL's reader: tests and nots -/
set_option maxRecDepth 100000 in
set_option maxHeartbeats 4000000 in
theorem c_mNot {κ : Kx} (hκ : KOK κ) (hKS : KS κ) {d d' n H : Nat} {lv : Int} {f : Nat → Int} {rec : PE → PE} (hsub : mEC κ MX12_readSum d' lv f n (pSum (tkW (tk f n 0)) (tkV (tk f n 0)) rec)) (hPG : PG ((tk f n 0).length - 1) H (pSum (tkW (tk f n 0)) (tkV (tk f n 0)) rec)) (hd : d' + 1 ≤ d) (hd2 : 6 ≤ d) {G : Wd} {i : Nat} {c : List Int} (h : mH f n G i c) : Ct κ MX12_readNot d 0 0 [VR 145, VI lv] (Wm G) (mQ f n (pNot (tkW (tk f n 0)) (tkV (tk f n 0)) rec (i, 0, c)) G) noX := by
  refine Ct_of hκ kX12_readNot.1 rfl (Nat.le_of_ble_eq_true rfl) (ls := [some (VR 145), some (VI lv), none, none]) rfl (fun μ => ?_)
  have h0 := h
  obtain ⟨hI, hc, hci⟩ := h
  obtain ⟨l1, l2, l3, l4, l5, l6⟩ := mI_lt hI
  have hw15 := ks_M hKS (j := 11) (by omega)
  have hL1 := (tk_len f n n 0 (by omega)).1
  -- the signs of the nots
  have lay : ∀ (k : Nat) (s : PE) (x : Nat) (G2 : Wd), FX G G2 → mI f n G2 s.1 → s.2.2.length + k ≤ s.1 → ∀ (m j : Nat) (ii : Int) (G1 : Wd), j + m = k → ii = (j : Int) → FX G G1 → mI f n G1 s.1 → mCd G1 (s.2.2 ++ List.replicate j (-5)) → pNot (tkW (tk f n 0)) (tkV (tk f n 0)) rec (i, 0, c) = (s.1, 0, s.2.2 ++ List.replicate k (-5)) → V κ MX12_readNot (rmD d 0 0) (mQ f n (pNot (tkW (tk f n 0)) (tkV (tk f n 0)) rec (i, 0, c)) G) noX 0 0 μ 0 0 (Wm G1) 96 [some (VR 145), some (VI lv), some (VI (k : Nat)), some (VI ii)] [] := by
    intro k s x G2 f2 i2 hcap m
    have hn2 := mI_lt i2
    induction m with
    | zero =>
      intro j ii G1 hj hii f1 i1 c1 he
      obtain rfl : j = k := by omega
      refine V_ex sX12_readNot_96 (by rfl) (by first | exact trivial | exact Or.inr rfl | exact Or.inl rfl | (simp only [ob, obA, R32, R64] at *; omega) | (simp only [ob, obA, R32, R64] at *; and_intros <;> omega)) ?_
      refine V_icmpge dX12_readNot_98 (tgt := 113) (by decide) (by simp only [R32, R64] at *; omega) (fun q98 => ?_) (fun q98 => ?_)
      · refine V_vret dX12_readNot_113 rfl (by decide) (by rw [he]; exact ⟨rfl, G1, rfl, f1, fun _ => ⟨i1, c1⟩, fun q => absurd rfl q⟩)
      · omega
    | succ m ih =>
      intro j ii G1 hj hii f1 i1 c1 he
      subst hii
      have hl : (s.2.2 ++ List.replicate j (-5)).length < 500 := by simp; omega
      refine V_ex sX12_readNot_96 (by rfl) (by first | exact trivial | exact Or.inr rfl | exact Or.inl rfl | (simp only [ob, obA, R32, R64] at *; omega) | (simp only [ob, obA, R32, R64] at *; and_intros <;> omega)) ?_
      refine V_icmpge dX12_readNot_98 (tgt := 113) (by decide) (by simp only [R32, R64] at *; omega) (fun q98 => ?_) (fun q98 => ?_)
      · omega
      · refine V_ex sX12_readNot_101 (by rfl) (by first | exact trivial | exact Or.inr rfl | exact Or.inl rfl | (simp only [ob, obA, R32, R64] at *; omega) | (simp only [ob, obA, R32, R64] at *; and_intros <;> omega)) ?_
        refine V_callV (M := MX12_readNot) (N := MX12_lay) dX12_readNot_104 lRX12_261 kX12_lay rfl (rfl) rfl (c_iLay (d := 0) hκ i1 c1 hl) rfl rfl (Nat.le_of_ble_eq_true rfl) (fit_rm (by omega)) (⟨Nat.le_of_ble_eq_true rfl, Nat.le_of_ble_eq_true rfl⟩) (fun v Ω' hp => ?_) (fun _ _ h => h.elim)
        obtain ⟨rfl, rfl⟩ := hp
        refine V_ex sX12_readNot_107 (by rfl) (by first | exact trivial | exact Or.inr rfl | exact Or.inl rfl | (simp only [ob, obA, R32, R64] at *; omega) | (simp only [ob, obA, R32, R64] at *; and_intros <;> omega)) ?_
        refine V_goto dX12_readNot_110 (tgt := 96) (by decide) ?_
        exact ih (j + 1) _ _ (by omega) (by omega) (f1.trans (FX.ly G1 _ _)) (ly_I i1) (by rw [List.replicate_succ', ← List.append_assoc]; exact ly_cd (z := -5) c1) he
  have layB : ∀ (k m j : Nat) (ii : Int) (G1 : Wd), j + m = k → k ≤ 7 → ii = (j : Int) → FX G G1 → mR f n G1 (pNot (tkW (tk f n 0)) (tkV (tk f n 0)) rec (i, 0, c)) → G1.1 145 26 ≠ 0 → R32 (G1.1 145 26) → V κ MX12_readNot (rmD d 0 0) (mQ f n (pNot (tkW (tk f n 0)) (tkV (tk f n 0)) rec (i, 0, c)) G) noX 0 0 μ 0 0 (Wm G1) 96 [some (VR 145), some (VI lv), some (VI (k : Nat)), some (VI ii)] [] := by
    intro k m
    induction m with
    | zero =>
      intro j ii G1 hj hk7 hii f1 m1 h26b hR
      refine V_ex sX12_readNot_96 (by rfl) (by first | exact trivial | exact Or.inr rfl | exact Or.inl rfl | (simp only [ob, obA, R32, R64] at *; omega) | (simp only [ob, obA, R32, R64] at *; and_intros <;> omega)) ?_
      refine V_icmpge dX12_readNot_98 (tgt := 113) (by decide) (by simp only [R32, R64] at *; omega) (fun q98 => ?_) (fun q98 => ?_)
      · refine V_vret dX12_readNot_113 rfl (by decide) ⟨rfl, G1, rfl, f1, m1⟩
      · omega
    | succ m ih =>
      intro j ii G1 hj hk7 hii f1 m1 h26b hR
      subst hii
      refine V_ex sX12_readNot_96 (by rfl) (by first | exact trivial | exact Or.inr rfl | exact Or.inl rfl | (simp only [ob, obA, R32, R64] at *; omega) | (simp only [ob, obA, R32, R64] at *; and_intros <;> omega)) ?_
      refine V_icmpge dX12_readNot_98 (tgt := 113) (by decide) (by simp only [R32, R64] at *; omega) (fun q98 => ?_) (fun q98 => ?_)
      · omega
      · refine V_ex sX12_readNot_101 (by rfl) (by first | exact trivial | exact Or.inr rfl | exact Or.inl rfl | (simp only [ob, obA, R32, R64] at *; omega) | (simp only [ob, obA, R32, R64] at *; and_intros <;> omega)) ?_
        refine V_callV (M := MX12_readNot) (N := MX12_lay) dX12_readNot_104 lRX12_261 kX12_lay rfl (rfl) rfl (c_mLay0 (d := 0) hκ h26b hR) rfl rfl (Nat.le_of_ble_eq_true rfl) (fit_rm (by omega)) (⟨Nat.le_of_ble_eq_true rfl, Nat.le_of_ble_eq_true rfl⟩) (fun v Ω' hp => ?_) (fun _ _ h => h.elim)
        obtain ⟨rfl, rfl⟩ := hp
        refine V_ex sX12_readNot_107 (by rfl) (by first | exact trivial | exact Or.inr rfl | exact Or.inl rfl | (simp only [ob, obA, R32, R64] at *; omega) | (simp only [ob, obA, R32, R64] at *; and_intros <;> omega)) ?_
        refine V_goto dX12_readNot_110 (tgt := 96) (by decide) ?_
        exact ih (j + 1) _ G1 (by omega) hk7 (by omega) f1 m1 h26b hR
  have fin : ∀ (k : Nat) (r : PE) (G1 : Wd) (x : Option Vl), k ≤ 6 → FX G G1 → mR f n G1 r → (r.2.1 = 0 → r.2.2.length + k ≤ r.1) → 0 ≤ r.2.1 ∧ r.2.1 ≤ 5 → pNot (tkW (tk f n 0)) (tkV (tk f n 0)) rec (i, 0, c) = (if r.2.1 = 0 then (r.1, 0, r.2.2 ++ List.replicate k (-5)) else r) → V κ MX12_readNot (rmD d 0 0) (mQ f n (pNot (tkW (tk f n 0)) (tkV (tk f n 0)) rec (i, 0, c)) G) noX 0 0 μ 0 0 (Wm G1) 94 [some (VR 145), some (VI lv), some (VI (k : Nat)), x] [] := by
    intro k r G1 x hk f1 m1 hlen hR he
    by_cases hb : r.2.1 = 0
    · rw [if_pos hb] at he
      obtain ⟨i1, c1⟩ := m1.1 hb
      refine V_ex sX12_readNot_94 (by rfl) (by first | exact trivial | exact Or.inr rfl | exact Or.inl rfl | (simp only [ob, obA, R32, R64] at *; omega) | (simp only [ob, obA, R32, R64] at *; and_intros <;> omega)) ?_
      exact lay k r 0 G1 f1 i1 (hlen hb) k 0 0 G1 (by omega) rfl f1 i1 (by simpa using c1) he
    · rw [if_neg hb] at he
      have hm := m1.2 hb
      refine V_ex sX12_readNot_94 (by rfl) (by first | exact trivial | exact Or.inr rfl | exact Or.inl rfl | (simp only [ob, obA, R32, R64] at *; omega) | (simp only [ob, obA, R32, R64] at *; and_intros <;> omega)) ?_
      exact layB k k 0 0 G1 (by omega) (by omega) rfl f1 (by rw [he]; exact m1) (by rw [hm.1]; exact hb) (by rw [hm.1]; unfold R32; omega)
  have tail : ∀ (k : Nat) (G1 : Wd), k ≤ 6 → FX G G1 → mI f n G1 (i + k) → mCd G1 c → pNot (tkW (tk f n 0)) (tkV (tk f n 0)) rec (i, 0, c) = (if (pTst (tkW (tk f n 0)) (tkV (tk f n 0)) rec (i + k, 0, c)).2.1 = 0 then ((pTst (tkW (tk f n 0)) (tkV (tk f n 0)) rec (i + k, 0, c)).1, 0, (pTst (tkW (tk f n 0)) (tkV (tk f n 0)) rec (i + k, 0, c)).2.2 ++ List.replicate k (-5)) else pTst (tkW (tk f n 0)) (tkV (tk f n 0)) rec (i + k, 0, c)) → V κ MX12_readNot (rmD d 0 0) (mQ f n (pNot (tkW (tk f n 0)) (tkV (tk f n 0)) rec (i, 0, c)) G) noX 0 0 μ 0 0 (Wm G1) 40 [some (VR 145), some (VI lv), some (VI (k : Nat)), none] [] := by
    intro k G1 hk f1 i1 c1 he
    have hn1 := mI_lt i1
    have hg := hPG (i + k) c hn1.1
    have hs1 := hsub.1 G1 (i + k) c ⟨i1, c1, by omega⟩
    have hs2 := hsub.1
    unfold pTst at he
    generalize pSum (tkW (tk f n 0)) (tkV (tk f n 0)) rec = p at *
    generalize p (i + k, 0, c) = r at *
    obtain ⟨p1, p2, p3, p4, p5⟩ := hg
    by_cases hb : r.2.1 = 0
    · obtain ⟨p6, cs, e1, e2, e3, e4⟩ := p5 hb
      have hlen : r.2.2.length + k ≤ r.1 := by rw [e1]; simp; omega
      rw [if_neg (not_not_intro hb)] at he
      by_cases hm : tkW (tk f n 0) r.1 = 60 ∨ tkW (tk f n 0) r.1 = 61
      · rw [if_pos hm] at he
        have go : ∀ (o : Int) (G3 : Wd), (if tkW (tk f n 0) r.1 = 60 then (-8 : Int) else -9) = o → FX G G3 → mI f n G3 r.1 → mCd G3 r.2.2 → V κ MX12_readNot (rmD d 0 0) (mQ f n (pNot (tkW (tk f n 0)) (tkV (tk f n 0)) rec (i, 0, c)) G) noX 0 0 μ 0 0 (Wm G3) 79 [some (VR 145), some (VI lv), some (VI (k : Nat)), none] [VI (sm o)] := fun o G3 ho f3 i3 c3 => by
          have hw3 : tkW (tk f n 0) r.1 ≠ -1 := by omega
          have hnl := mI_nl i3 hw3
          have hq := hPG (r.1 + 1) r.2.2 (Nat.le_sub_one_of_lt hnl)
          rw [ho] at he
          have hrr : ∀ G4 : Wd, mH f n G4 (r.1 + 1) r.2.2 → Ct κ MX12_readSum d' 0 0 [VR 145, VI lv] (Wm G4) (mQ f n (p (r.1 + 1, 0, r.2.2)) G4) noX := fun G4 h => hs2 G4 _ _ h
          generalize p (r.1 + 1, 0, r.2.2) = s at *
          obtain ⟨s1, s2, s3, s4, s5⟩ := hq
          by_cases hs : s.2.1 = 0
          · rw [if_pos hs] at he
            obtain ⟨s6, ds, d1, d2, d3, d4⟩ := s5 hs
            have hlen2 : s.2.2.length + 1 + k ≤ s.1 := by rw [d1]; simp; omega
            refine V_ex sX12_readNot_79 (by rfl) (by first | exact trivial | exact Or.inr rfl | exact Or.inl rfl | (simp only [ob, obA, R32, R64] at *; omega) | (simp only [ob, obA, R32, R64] at *; and_intros <;> omega)) ?_
            refine V_callV (M := MX12_readNot) (N := MX12_stepOn) dX12_readNot_81 lRX12_249 kX12_stepOn rfl (rfl) rfl (c_iNext (d := 2) hκ i3 hw3 (by omega)) rfl rfl (Nat.le_of_ble_eq_true rfl) (fit_rm (by omega)) (⟨Nat.le_of_ble_eq_true rfl, Nat.le_of_ble_eq_true rfl⟩) (fun v Ω' hp => ?_) (fun _ _ h => h.elim)
            obtain ⟨rfl, G4, rfl, f4, i4⟩ := hp
            refine V_ex sX12_readNot_84 (by rfl) (by first | exact trivial | exact Or.inr rfl | exact Or.inl rfl | (simp only [ob, obA, R32, R64] at *; omega) | (simp only [ob, obA, R32, R64] at *; and_intros <;> omega)) ?_
            refine V_callV (M := MX12_readNot) (N := MX12_readSum) dX12_readNot_86 lRX12_282 kX12_readSum rfl (rfl) rfl (hrr G4 ⟨i4, cd_m f4 c3, by omega⟩) rfl rfl (Nat.le_of_ble_eq_true rfl) (fit_rm (by omega)) (⟨Nat.le_of_ble_eq_true rfl, Nat.le_of_ble_eq_true rfl⟩) (fun v Ω' hp => ?_) (fun _ _ h => h.elim)
            obtain ⟨rfl, G5, rfl, f5, m5⟩ := hp
            obtain ⟨i5, c5⟩ := m5.1 hs
            have hn5 := mI_lt i5
            refine V_ex sX12_readNot_89 (by rfl) (by first | exact trivial | exact Or.inr rfl | exact Or.inl rfl | (simp only [ob, obA, R32, R64] at *; omega) | (simp only [ob, obA, R32, R64] at *; and_intros <;> omega)) ?_
            refine V_callV (M := MX12_readNot) (N := MX12_lay) dX12_readNot_91 lRX12_261 kX12_lay rfl (rfl) rfl (c_iLay (d := 0) hκ i5 c5 (by omega)) rfl rfl (Nat.le_of_ble_eq_true rfl) (fit_rm (by omega)) (⟨Nat.le_of_ble_eq_true rfl, Nat.le_of_ble_eq_true rfl⟩) (fun v Ω' hp => ?_) (fun _ _ h => h.elim)
            obtain ⟨rfl, rfl⟩ := hp
            exact fin k (s.1, 0, s.2.2 ++ [o]) _ _ hk (((f3.trans (FX.m f4)).trans f5).trans (FX.ly G5 _ _)) ⟨fun _ => ⟨ly_I i5, ly_cd c5⟩, fun q => absurd rfl q⟩ (fun _ => by simp; omega) ⟨Int.le_refl _, (show (0 : Int) ≤ 5 by decide)⟩ he
          · rw [if_neg hs] at he
            refine V_ex sX12_readNot_79 (by rfl) (by first | exact trivial | exact Or.inr rfl | exact Or.inl rfl | (simp only [ob, obA, R32, R64] at *; omega) | (simp only [ob, obA, R32, R64] at *; and_intros <;> omega)) ?_
            refine V_callV (M := MX12_readNot) (N := MX12_stepOn) dX12_readNot_81 lRX12_249 kX12_stepOn rfl (rfl) rfl (c_iNext (d := 2) hκ i3 hw3 (by omega)) rfl rfl (Nat.le_of_ble_eq_true rfl) (fit_rm (by omega)) (⟨Nat.le_of_ble_eq_true rfl, Nat.le_of_ble_eq_true rfl⟩) (fun v Ω' hp => ?_) (fun _ _ h => h.elim)
            obtain ⟨rfl, G4, rfl, f4, i4⟩ := hp
            refine V_ex sX12_readNot_84 (by rfl) (by first | exact trivial | exact Or.inr rfl | exact Or.inl rfl | (simp only [ob, obA, R32, R64] at *; omega) | (simp only [ob, obA, R32, R64] at *; and_intros <;> omega)) ?_
            refine V_callV (M := MX12_readNot) (N := MX12_readSum) dX12_readNot_86 lRX12_282 kX12_readSum rfl (rfl) rfl (hrr G4 ⟨i4, cd_m f4 c3, by omega⟩) rfl rfl (Nat.le_of_ble_eq_true rfl) (fit_rm (by omega)) (⟨Nat.le_of_ble_eq_true rfl, Nat.le_of_ble_eq_true rfl⟩) (fun v Ω' hp => ?_) (fun _ _ h => h.elim)
            obtain ⟨rfl, G5, rfl, f5, m5⟩ := hp
            have hm5 := m5.2 hs
            have h26b : G5.1 145 26 ≠ 0 := by rw [hm5.1]; exact hs
            refine V_ex sX12_readNot_89 (by rfl) (by first | exact trivial | exact Or.inr rfl | exact Or.inl rfl | (simp only [ob, obA, R32, R64] at *; omega) | (simp only [ob, obA, R32, R64] at *; and_intros <;> omega)) ?_
            refine V_callV (M := MX12_readNot) (N := MX12_lay) dX12_readNot_91 lRX12_261 kX12_lay rfl (rfl) rfl (c_mLay0 (d := 0) hκ h26b (by rw [hm5.1]; unfold R32; omega)) rfl rfl (Nat.le_of_ble_eq_true rfl) (fit_rm (by omega)) (⟨Nat.le_of_ble_eq_true rfl, Nat.le_of_ble_eq_true rfl⟩) (fun v Ω' hp => ?_) (fun _ _ h => h.elim)
            obtain ⟨rfl, rfl⟩ := hp
            exact fin k s G5 _ hk ((f3.trans (FX.m f4)).trans f5) m5 (fun q => absurd q hs) ⟨s3, s4⟩ he
        refine V_ex sX12_readNot_40 (by rfl) (by first | exact trivial | exact Or.inr rfl | exact Or.inl rfl | (simp only [ob, obA, R32, R64] at *; omega) | (simp only [ob, obA, R32, R64] at *; and_intros <;> omega)) ?_
        refine V_callV (M := MX12_readNot) (N := MX12_readSum) dX12_readNot_42 lRX12_282 kX12_readSum rfl (rfl) rfl (hs1) rfl rfl (Nat.le_of_ble_eq_true rfl) (fit_rm (by omega)) (⟨Nat.le_of_ble_eq_true rfl, Nat.le_of_ble_eq_true rfl⟩) (fun v Ω' hp => ?_) (fun _ _ h => h.elim)
        obtain ⟨rfl, G2, rfl, f2, m2⟩ := hp
        obtain ⟨i2, c2⟩ := m2.1 hb
        refine V_ex sX12_readNot_45 (by rfl) (by first | exact trivial | exact Or.inr rfl | exact Or.inl rfl | (simp only [ob, obA, R32, R64] at *; omega) | (simp only [ob, obA, R32, R64] at *; and_intros <;> omega)) ?_
        refine V_callV (M := MX12_readNot) (N := MX12_isMarked) dX12_readNot_48 lRX12_242 kX12_isMarked rfl (rfl) rfl (c_iMarked (d := 2) hκ i2 (by decide) (by omega)) rfl rfl (Nat.le_of_ble_eq_true rfl) (fit_rm (by omega)) (⟨Nat.le_of_ble_eq_true rfl, Nat.le_of_ble_eq_true rfl⟩) (fun v Ω' hp => ?_) (fun _ _ h => h.elim)
        obtain ⟨rfl, rfl⟩ := hp
        refine V_ifneB dX12_readNot_51 (tgt := 63) (by decide) (fun q51 => ?_) (fun q51 => ?_)
        · have z1 := of_decide_eq_true q51
          refine V_ex sX12_readNot_63 (by rfl) (by first | exact trivial | exact Or.inr rfl | exact Or.inl rfl | (simp only [ob, obA, R32, R64] at *; omega) | (simp only [ob, obA, R32, R64] at *; and_intros <;> omega)) ?_
          refine V_callV (M := MX12_readNot) (N := MX12_isMarked) dX12_readNot_66 lRX12_242 kX12_isMarked rfl (rfl) rfl (c_iMarked (d := 2) hκ i2 (by decide) (by omega)) rfl rfl (Nat.le_of_ble_eq_true rfl) (fit_rm (by omega)) (⟨Nat.le_of_ble_eq_true rfl, Nat.le_of_ble_eq_true rfl⟩) (fun v Ω' hp => ?_) (fun _ _ h => h.elim)
          obtain ⟨rfl, rfl⟩ := hp
          refine V_ifeqB dX12_readNot_69 (tgt := 77) (by decide) (fun q69 => ?_) (fun q69 => ?_)
          · exact absurd z1 (of_decide_eq_false q69)
          · refine V_ex sX12_readNot_72 (by rfl) (by first | exact trivial | exact Or.inr rfl | exact Or.inl rfl | (simp only [ob, obA, R32, R64] at *; omega) | (simp only [ob, obA, R32, R64] at *; and_intros <;> omega)) ?_
            refine V_goto dX12_readNot_74 (tgt := 79) (by decide) ?_
            exact go (-8) G2 (if_pos z1) (f1.trans f2) i2 c2
        · have z1 := of_decide_eq_false q51
          refine V_ex sX12_readNot_54 (by rfl) (by first | exact trivial | exact Or.inr rfl | exact Or.inl rfl | (simp only [ob, obA, R32, R64] at *; omega) | (simp only [ob, obA, R32, R64] at *; and_intros <;> omega)) ?_
          refine V_callV (M := MX12_readNot) (N := MX12_isMarked) dX12_readNot_57 lRX12_242 kX12_isMarked rfl (rfl) rfl (c_iMarked (d := 2) hκ i2 (by decide) (by omega)) rfl rfl (Nat.le_of_ble_eq_true rfl) (fit_rm (by omega)) (⟨Nat.le_of_ble_eq_true rfl, Nat.le_of_ble_eq_true rfl⟩) (fun v Ω' hp => ?_) (fun _ _ h => h.elim)
          obtain ⟨rfl, rfl⟩ := hp
          refine V_ifeqB dX12_readNot_60 (tgt := 94) (by decide) (fun q60 => ?_) (fun q60 => ?_)
          · exact absurd hm (by have := of_decide_eq_false q60; omega)
          · refine V_ex sX12_readNot_63 (by rfl) (by first | exact trivial | exact Or.inr rfl | exact Or.inl rfl | (simp only [ob, obA, R32, R64] at *; omega) | (simp only [ob, obA, R32, R64] at *; and_intros <;> omega)) ?_
            refine V_callV (M := MX12_readNot) (N := MX12_isMarked) dX12_readNot_66 lRX12_242 kX12_isMarked rfl (rfl) rfl (c_iMarked (d := 2) hκ i2 (by decide) (by omega)) rfl rfl (Nat.le_of_ble_eq_true rfl) (fit_rm (by omega)) (⟨Nat.le_of_ble_eq_true rfl, Nat.le_of_ble_eq_true rfl⟩) (fun v Ω' hp => ?_) (fun _ _ h => h.elim)
            obtain ⟨rfl, rfl⟩ := hp
            refine V_ifeqB dX12_readNot_69 (tgt := 77) (by decide) (fun q69 => ?_) (fun q69 => ?_)
            · refine V_ex sX12_readNot_77 (by rfl) (by first | exact trivial | exact Or.inr rfl | exact Or.inl rfl | (simp only [ob, obA, R32, R64] at *; omega) | (simp only [ob, obA, R32, R64] at *; and_intros <;> omega)) ?_
              exact go (-9) G2 (if_neg z1) (f1.trans f2) i2 c2
            · exact absurd (of_decide_eq_true q69) z1
      · rw [if_neg hm] at he
        refine V_ex sX12_readNot_40 (by rfl) (by first | exact trivial | exact Or.inr rfl | exact Or.inl rfl | (simp only [ob, obA, R32, R64] at *; omega) | (simp only [ob, obA, R32, R64] at *; and_intros <;> omega)) ?_
        refine V_callV (M := MX12_readNot) (N := MX12_readSum) dX12_readNot_42 lRX12_282 kX12_readSum rfl (rfl) rfl (hs1) rfl rfl (Nat.le_of_ble_eq_true rfl) (fit_rm (by omega)) (⟨Nat.le_of_ble_eq_true rfl, Nat.le_of_ble_eq_true rfl⟩) (fun v Ω' hp => ?_) (fun _ _ h => h.elim)
        obtain ⟨rfl, G2, rfl, f2, m2⟩ := hp
        obtain ⟨i2, c2⟩ := m2.1 hb
        refine V_ex sX12_readNot_45 (by rfl) (by first | exact trivial | exact Or.inr rfl | exact Or.inl rfl | (simp only [ob, obA, R32, R64] at *; omega) | (simp only [ob, obA, R32, R64] at *; and_intros <;> omega)) ?_
        refine V_callV (M := MX12_readNot) (N := MX12_isMarked) dX12_readNot_48 lRX12_242 kX12_isMarked rfl (rfl) rfl (c_iMarked (d := 2) hκ i2 (by decide) (by omega)) rfl rfl (Nat.le_of_ble_eq_true rfl) (fit_rm (by omega)) (⟨Nat.le_of_ble_eq_true rfl, Nat.le_of_ble_eq_true rfl⟩) (fun v Ω' hp => ?_) (fun _ _ h => h.elim)
        obtain ⟨rfl, rfl⟩ := hp
        refine V_ifneB dX12_readNot_51 (tgt := 63) (by decide) (fun q51 => ?_) (fun q51 => ?_)
        · exact absurd (Or.inl (of_decide_eq_true q51)) hm
        · refine V_ex sX12_readNot_54 (by rfl) (by first | exact trivial | exact Or.inr rfl | exact Or.inl rfl | (simp only [ob, obA, R32, R64] at *; omega) | (simp only [ob, obA, R32, R64] at *; and_intros <;> omega)) ?_
          refine V_callV (M := MX12_readNot) (N := MX12_isMarked) dX12_readNot_57 lRX12_242 kX12_isMarked rfl (rfl) rfl (c_iMarked (d := 2) hκ i2 (by decide) (by omega)) rfl rfl (Nat.le_of_ble_eq_true rfl) (fit_rm (by omega)) (⟨Nat.le_of_ble_eq_true rfl, Nat.le_of_ble_eq_true rfl⟩) (fun v Ω' hp => ?_) (fun _ _ h => h.elim)
          obtain ⟨rfl, rfl⟩ := hp
          refine V_ifeqB dX12_readNot_60 (tgt := 94) (by decide) (fun q60 => ?_) (fun q60 => ?_)
          · exact fin k r G2 _ hk (f1.trans f2) m2 (fun _ => hlen) ⟨p3, p4⟩ he
          · exact absurd (Or.inr (of_decide_eq_true q60)) hm
    · rw [if_pos hb] at he
      refine V_ex sX12_readNot_40 (by rfl) (by first | exact trivial | exact Or.inr rfl | exact Or.inl rfl | (simp only [ob, obA, R32, R64] at *; omega) | (simp only [ob, obA, R32, R64] at *; and_intros <;> omega)) ?_
      refine V_callV (M := MX12_readNot) (N := MX12_readSum) dX12_readNot_42 lRX12_282 kX12_readSum rfl (rfl) rfl (hs1) rfl rfl (Nat.le_of_ble_eq_true rfl) (fit_rm (by omega)) (⟨Nat.le_of_ble_eq_true rfl, Nat.le_of_ble_eq_true rfl⟩) (fun v Ω' hp => ?_) (fun _ _ h => h.elim)
      obtain ⟨rfl, G2, rfl, f2, m2⟩ := hp
      have hm2 := m2.2 hb
      have h26b : G2.1 145 26 ≠ 0 := by rw [hm2.1]; exact hb
      have hR2 : R32 (G2.1 145 26) := by rw [hm2.1]; unfold R32; omega
      refine V_ex sX12_readNot_45 (by rfl) (by first | exact trivial | exact Or.inr rfl | exact Or.inl rfl | (simp only [ob, obA, R32, R64] at *; omega) | (simp only [ob, obA, R32, R64] at *; and_intros <;> omega)) ?_
      refine V_callV (M := MX12_readNot) (N := MX12_isMarked) dX12_readNot_48 lRX12_242 kX12_isMarked rfl (rfl) rfl (c_mIsMarked0b (d := 2) hκ h26b hR2) rfl rfl (Nat.le_of_ble_eq_true rfl) (fit_rm (by omega)) (⟨Nat.le_of_ble_eq_true rfl, Nat.le_of_ble_eq_true rfl⟩) (fun v Ω' hp => ?_) (fun _ _ h => h.elim)
      obtain ⟨rfl, rfl⟩ := hp
      refine V_ifneB dX12_readNot_51 (tgt := 63) (by decide) (fun q51 => ?_) (fun q51 => ?_)
      · exact absurd q51 (by decide)
      · refine V_ex sX12_readNot_54 (by rfl) (by first | exact trivial | exact Or.inr rfl | exact Or.inl rfl | (simp only [ob, obA, R32, R64] at *; omega) | (simp only [ob, obA, R32, R64] at *; and_intros <;> omega)) ?_
        refine V_callV (M := MX12_readNot) (N := MX12_isMarked) dX12_readNot_57 lRX12_242 kX12_isMarked rfl (rfl) rfl (c_mIsMarked0b (d := 2) hκ h26b hR2) rfl rfl (Nat.le_of_ble_eq_true rfl) (fit_rm (by omega)) (⟨Nat.le_of_ble_eq_true rfl, Nat.le_of_ble_eq_true rfl⟩) (fun v Ω' hp => ?_) (fun _ _ h => h.elim)
        obtain ⟨rfl, rfl⟩ := hp
        refine V_ifeqB dX12_readNot_60 (tgt := 94) (by decide) (fun q60 => ?_) (fun q60 => ?_)
        · exact fin k r G2 _ hk (f1.trans f2) m2 (fun q => absurd q hb) ⟨p3, p4⟩ he
        · exact absurd q60 (by decide)
  have L : ∀ (m k : Nat) (ii : Int) (G1 : Wd), k + m = 6 → ii = (k : Int) → FX G G1 → mI f n G1 (i + k) → mCd G1 c → pNots (tkW (tk f n 0)) 6 i = k + pNots (tkW (tk f n 0)) m (i + k) → V κ MX12_readNot (rmD d 0 0) (mQ f n (pNot (tkW (tk f n 0)) (tkV (tk f n 0)) rec (i, 0, c)) G) noX 0 0 μ 0 0 (Wm G1) 2 [some (VR 145), some (VI lv), some (VI ii), none] [] := by
    intro m
    induction m with
    | zero =>
      intro k ii G1 hk hii f1 i1 c1 he
      obtain rfl : k = 6 := by omega
      obtain ⟨h26, -⟩ := mI_26 i1
      rw [pNots] at he
      by_cases hw : tkW (tk f n 0) (i + 6) = 271
      · have hP : pNot (tkW (tk f n 0)) (tkV (tk f n 0)) rec (i, 0, c) = (i + 6, 2, c) := by rw [pNot]; dsimp only; rw [if_pos ⟨he, hw⟩]
        have h2 : (ctW f n (i + 6) 2 G1).1 145 26 ≠ 0 := by rw [ct_26]; decide
        have h2R : R32 ((ctW f n (i + 6) 2 G1).1 145 26) := by rw [ct_26]; unfold R32; omega
        have hq := c_iIs hκ hKS (d := 4) i1 hw15 (by decide) (by omega)
        rw [decide_eq_true (show tkW (tk f n 0) (i + 6) = 256 + ((mWd.getD 11 0 : Nat) : Int) from hw)] at hq
        have bad : V κ MX12_readNot (rmD d 0 0) (mQ f n (pNot (tkW (tk f n 0)) (tkV (tk f n 0)) rec (i, 0, c)) G) noX 0 0 μ 0 0 (Wm (ctW f n (i + 6) 2 G1)) 2 [some (VR 145), some (VI lv), some (VI 7), none] [] := by
          refine V_ex sX12_readNot_2 (by rfl) (by first | exact trivial | exact Or.inr rfl | exact Or.inl rfl | (simp only [ob, obA, R32, R64] at *; omega) | (simp only [ob, obA, R32, R64] at *; and_intros <;> omega)) ?_
          refine V_ldcSw (n := 1000030) (ks_R hKS (i := 29) rfl) dX12_readNot_3 ?_
          refine V_callV (M := MX12_readNot) (N := MX12_is) dX12_readNot_6 lRX12_238 kX12_is rfl (rfl) rfl (c_mIs0b (d := 4) hκ h2 h2R) rfl rfl (Nat.le_of_ble_eq_true rfl) (fit_rm (by omega)) (⟨Nat.le_of_ble_eq_true rfl, Nat.le_of_ble_eq_true rfl⟩) (fun v Ω' hp => ?_) (fun _ _ h => h.elim)
          obtain ⟨rfl, rfl⟩ := hp
          refine V_ifeqB dX12_readNot_9 (tgt := 40) (by decide) (fun q9 => ?_) (fun q9 => ?_)
          · refine V_ex sX12_readNot_40 (by rfl) (by first | exact trivial | exact Or.inr rfl | exact Or.inl rfl | (simp only [ob, obA, R32, R64] at *; omega) | (simp only [ob, obA, R32, R64] at *; and_intros <;> omega)) ?_
            refine V_callV (M := MX12_readNot) (N := MX12_readSum) dX12_readNot_42 lRX12_282 kX12_readSum rfl (rfl) rfl (hsub.2 _ h2 h2R) rfl rfl (Nat.le_of_ble_eq_true rfl) (fit_rm (by omega)) (⟨Nat.le_of_ble_eq_true rfl, Nat.le_of_ble_eq_true rfl⟩) (fun v Ω' hp => ?_) (fun _ _ h => h.elim)
            obtain ⟨rfl, rfl⟩ := hp
            refine V_ex sX12_readNot_45 (by rfl) (by first | exact trivial | exact Or.inr rfl | exact Or.inl rfl | (simp only [ob, obA, R32, R64] at *; omega) | (simp only [ob, obA, R32, R64] at *; and_intros <;> omega)) ?_
            refine V_callV (M := MX12_readNot) (N := MX12_isMarked) dX12_readNot_48 lRX12_242 kX12_isMarked rfl (rfl) rfl (c_mIsMarked0b (d := 2) hκ h2 h2R) rfl rfl (Nat.le_of_ble_eq_true rfl) (fit_rm (by omega)) (⟨Nat.le_of_ble_eq_true rfl, Nat.le_of_ble_eq_true rfl⟩) (fun v Ω' hp => ?_) (fun _ _ h => h.elim)
            obtain ⟨rfl, rfl⟩ := hp
            refine V_ifneB dX12_readNot_51 (tgt := 63) (by decide) (fun q51 => ?_) (fun q51 => ?_)
            · exact absurd q51 (by decide)
            · refine V_ex sX12_readNot_54 (by rfl) (by first | exact trivial | exact Or.inr rfl | exact Or.inl rfl | (simp only [ob, obA, R32, R64] at *; omega) | (simp only [ob, obA, R32, R64] at *; and_intros <;> omega)) ?_
              refine V_callV (M := MX12_readNot) (N := MX12_isMarked) dX12_readNot_57 lRX12_242 kX12_isMarked rfl (rfl) rfl (c_mIsMarked0b (d := 2) hκ h2 h2R) rfl rfl (Nat.le_of_ble_eq_true rfl) (fit_rm (by omega)) (⟨Nat.le_of_ble_eq_true rfl, Nat.le_of_ble_eq_true rfl⟩) (fun v Ω' hp => ?_) (fun _ _ h => h.elim)
              obtain ⟨rfl, rfl⟩ := hp
              refine V_ifeqB dX12_readNot_60 (tgt := 94) (by decide) (fun q60 => ?_) (fun q60 => ?_)
              · refine V_ex sX12_readNot_94 (by rfl) (by first | exact trivial | exact Or.inr rfl | exact Or.inl rfl | (simp only [ob, obA, R32, R64] at *; omega) | (simp only [ob, obA, R32, R64] at *; and_intros <;> omega)) ?_
                exact layB 7 7 0 0 _ (by omega) (by omega) rfl (f1.trans (FX.ct G1)) (by rw [hP]; exact mR_ct G1 (by decide)) h2 h2R
              · exact absurd q60 (by decide)
          · exact absurd q9 (by decide)
        subst hii
        refine V_ex sX12_readNot_2 (by rfl) (by first | exact trivial | exact Or.inr rfl | exact Or.inl rfl | (simp only [ob, obA, R32, R64] at *; omega) | (simp only [ob, obA, R32, R64] at *; and_intros <;> omega)) ?_
        refine V_ldcSw (n := 1000030) (ks_R hKS (i := 29) rfl) dX12_readNot_3 ?_
        refine V_callV (M := MX12_readNot) (N := MX12_is) dX12_readNot_6 lRX12_238 kX12_is rfl (rfl) rfl (hq) rfl rfl (Nat.le_of_ble_eq_true rfl) (fit_rm (by omega)) (⟨Nat.le_of_ble_eq_true rfl, Nat.le_of_ble_eq_true rfl⟩) (fun v Ω' hp => ?_) (fun _ _ h => h.elim)
        obtain ⟨rfl, rfl⟩ := hp
        refine V_ifeqB dX12_readNot_9 (tgt := 40) (by decide) (fun q9 => ?_) (fun q9 => ?_)
        · exact absurd q9 (by decide)
        · refine V_ex sX12_readNot_12 (by rfl) (by first | exact trivial | exact Or.inr rfl | exact Or.inl rfl | (simp only [ob, obA, R32, R64] at *; omega) | (simp only [ob, obA, R32, R64] at *; and_intros <;> omega)) ?_
          refine V_icmpne dX12_readNot_15 (tgt := 23) (by decide) (by simp only [R32, R64] at *; omega) (fun q15 => ?_) (fun q15 => ?_)
          · omega
          · refine V_ex sX12_readNot_18 (by rfl) (by first | exact trivial | exact Or.inr rfl | exact Or.inl rfl | (simp only [ob, obA, R32, R64] at *; omega) | (simp only [ob, obA, R32, R64] at *; and_intros <;> omega)) ?_
            refine V_callV (M := MX12_readNot) (N := MX12_cant) dX12_readNot_20 lRX12_245 kX12_cant rfl (rfl) rfl (c_iCant (d := 2) hκ i1) rfl rfl (Nat.le_of_ble_eq_true rfl) (fit_rm (by omega)) (⟨Nat.le_of_ble_eq_true rfl, Nat.le_of_ble_eq_true rfl⟩) (fun v Ω' hp => ?_) (fun _ _ h => h.elim)
            obtain ⟨rfl, rfl⟩ := hp
            refine V_ex sX12_readNot_23 (by simp only [Option.toList, List.cons_append, List.nil_append, exN, ex1, gI, gL, gR, pI, pL, pR, lget, lset1, lset2, kl, b2I, b2L, nob, ob32, ob64, xGet, xPut, xLen, xLd, xLdR, xSt, obA, true_and, and_true, and_self, eq_self, Nat.reduceEqDiff, Nat.zero_ne_one, reduceIte, Nat.reduceLeDiff, and_false, false_and, show skd 11 26 = 0 from rfl, show LF.1 145 = some (.inl 11) from rfl, ct_26, upd2_eq, Int.reduceToNat, Int.toNat_natCast]; rfl) (by first | exact trivial | exact Or.inr rfl | exact Or.inl rfl | (simp only [ob, obA, R32, R64] at *; omega) | (simp only [ob, obA, R32, R64] at *; and_intros <;> omega)) ?_
            refine V_ifne dX12_readNot_30 (tgt := 2) (by decide) (by simp only [R32, R64] at *; omega) (fun q30 => ?_) (fun q30 => ?_)
            · exact bad
            · omega
      · have hP : pNot (tkW (tk f n 0)) (tkV (tk f n 0)) rec (i, 0, c) = (if (pTst (tkW (tk f n 0)) (tkV (tk f n 0)) rec (i + 6, 0, c)).2.1 = 0 then ((pTst (tkW (tk f n 0)) (tkV (tk f n 0)) rec (i + 6, 0, c)).1, 0, (pTst (tkW (tk f n 0)) (tkV (tk f n 0)) rec (i + 6, 0, c)).2.2 ++ List.replicate 6 (-5)) else pTst (tkW (tk f n 0)) (tkV (tk f n 0)) rec (i + 6, 0, c)) := by
          rw [pNot]; dsimp only; rw [if_neg (fun q => hw q.2), he]
        have hq := c_iIs hκ hKS (d := 4) i1 hw15 (by decide) (by omega)
        rw [decide_eq_false (show ¬ tkW (tk f n 0) (i + 6) = 256 + ((mWd.getD 11 0 : Nat) : Int) from hw)] at hq
        subst hii
        refine V_ex sX12_readNot_2 (by rfl) (by first | exact trivial | exact Or.inr rfl | exact Or.inl rfl | (simp only [ob, obA, R32, R64] at *; omega) | (simp only [ob, obA, R32, R64] at *; and_intros <;> omega)) ?_
        refine V_ldcSw (n := 1000030) (ks_R hKS (i := 29) rfl) dX12_readNot_3 ?_
        refine V_callV (M := MX12_readNot) (N := MX12_is) dX12_readNot_6 lRX12_238 kX12_is rfl (rfl) rfl (hq) rfl rfl (Nat.le_of_ble_eq_true rfl) (fit_rm (by omega)) (⟨Nat.le_of_ble_eq_true rfl, Nat.le_of_ble_eq_true rfl⟩) (fun v Ω' hp => ?_) (fun _ _ h => h.elim)
        obtain ⟨rfl, rfl⟩ := hp
        refine V_ifeqB dX12_readNot_9 (tgt := 40) (by decide) (fun q9 => ?_) (fun q9 => ?_)
        · exact tail 6 G1 (by omega) f1 i1 c1 hP
        · exact absurd q9 (by decide)
    | succ m ih =>
      intro k ii G1 hk hii f1 i1 c1 he
      obtain ⟨h26, -⟩ := mI_26 i1
      rw [show pNots (tkW (tk f n 0)) (m + 1) (i + k) = if tkW (tk f n 0) (i + k) = 271 then 1 + pNots (tkW (tk f n 0)) m (i + k + 1) else 0 from rfl] at he
      by_cases hw : tkW (tk f n 0) (i + k) = 271
      · rw [if_pos hw] at he
        have hq := c_iIs hκ hKS (d := 4) i1 hw15 (by decide) (by omega)
        rw [decide_eq_true (show tkW (tk f n 0) (i + k) = 256 + ((mWd.getD 11 0 : Nat) : Int) from hw)] at hq
        subst hii
        refine V_ex sX12_readNot_2 (by rfl) (by first | exact trivial | exact Or.inr rfl | exact Or.inl rfl | (simp only [ob, obA, R32, R64] at *; omega) | (simp only [ob, obA, R32, R64] at *; and_intros <;> omega)) ?_
        refine V_ldcSw (n := 1000030) (ks_R hKS (i := 29) rfl) dX12_readNot_3 ?_
        refine V_callV (M := MX12_readNot) (N := MX12_is) dX12_readNot_6 lRX12_238 kX12_is rfl (rfl) rfl (hq) rfl rfl (Nat.le_of_ble_eq_true rfl) (fit_rm (by omega)) (⟨Nat.le_of_ble_eq_true rfl, Nat.le_of_ble_eq_true rfl⟩) (fun v Ω' hp => ?_) (fun _ _ h => h.elim)
        obtain ⟨rfl, rfl⟩ := hp
        refine V_ifeqB dX12_readNot_9 (tgt := 40) (by decide) (fun q9 => ?_) (fun q9 => ?_)
        · exact absurd q9 (by decide)
        · refine V_ex sX12_readNot_12 (by rfl) (by first | exact trivial | exact Or.inr rfl | exact Or.inl rfl | (simp only [ob, obA, R32, R64] at *; omega) | (simp only [ob, obA, R32, R64] at *; and_intros <;> omega)) ?_
          refine V_icmpne dX12_readNot_15 (tgt := 23) (by decide) (by simp only [R32, R64] at *; omega) (fun q15 => ?_) (fun q15 => ?_)
          · refine V_ex sX12_readNot_23 (by simp only [Option.toList, List.cons_append, List.nil_append, exN, ex1, gI, gL, gR, pI, pL, pR, lget, lset1, lset2, kl, b2I, b2L, nob, ob32, ob64, xGet, xPut, xLen, xLd, xLdR, xSt, obA, true_and, and_true, and_self, eq_self, Nat.reduceEqDiff, Nat.zero_ne_one, reduceIte, Nat.reduceLeDiff, and_false, false_and, show skd 11 26 = 0 from rfl, show LF.1 145 = some (.inl 11) from rfl, h26, upd2_eq, Int.reduceToNat, Int.toNat_natCast]; rfl) (by first | exact trivial | exact Or.inr rfl | exact Or.inl rfl | (simp only [ob, obA, R32, R64] at *; omega) | (simp only [ob, obA, R32, R64] at *; and_intros <;> omega)) ?_
            refine V_ifne dX12_readNot_30 (tgt := 2) (by decide) (by simp only [R32, R64] at *; omega) (fun q30 => ?_) (fun q30 => ?_)
            · exact absurd rfl q30
            · refine V_ex sX12_readNot_33 (by rfl) (by first | exact trivial | exact Or.inr rfl | exact Or.inl rfl | (simp only [ob, obA, R32, R64] at *; omega) | (simp only [ob, obA, R32, R64] at *; and_intros <;> omega)) ?_
              refine V_callV (M := MX12_readNot) (N := MX12_stepOn) dX12_readNot_34 lRX12_249 kX12_stepOn rfl (rfl) rfl (c_iNext (d := 2) hκ i1 (by omega) (by omega)) rfl rfl (Nat.le_of_ble_eq_true rfl) (fit_rm (by omega)) (⟨Nat.le_of_ble_eq_true rfl, Nat.le_of_ble_eq_true rfl⟩) (fun v Ω' hp => ?_) (fun _ _ h => h.elim)
              obtain ⟨rfl, G2, rfl, f2, i2⟩ := hp
              refine V_goto dX12_readNot_37 (tgt := 2) (by decide) ?_
              exact ih (k + 1) _ G2 (by omega) (by omega) (f1.trans (FX.m f2)) i2 (cd_m f2 c1) (by rw [he, show i + (k + 1) = i + k + 1 by omega]; omega)
          · omega
      · rw [if_neg hw] at he
        have hk6 : pNots (tkW (tk f n 0)) 6 i = k := by omega
        have hP : pNot (tkW (tk f n 0)) (tkV (tk f n 0)) rec (i, 0, c) = (if (pTst (tkW (tk f n 0)) (tkV (tk f n 0)) rec (i + k, 0, c)).2.1 = 0 then ((pTst (tkW (tk f n 0)) (tkV (tk f n 0)) rec (i + k, 0, c)).1, 0, (pTst (tkW (tk f n 0)) (tkV (tk f n 0)) rec (i + k, 0, c)).2.2 ++ List.replicate k (-5)) else pTst (tkW (tk f n 0)) (tkV (tk f n 0)) rec (i + k, 0, c)) := by
          rw [pNot]; dsimp only; rw [if_neg (fun q => by have := q.1; omega), hk6]
        have hq := c_iIs hκ hKS (d := 4) i1 hw15 (by decide) (by omega)
        rw [decide_eq_false (show ¬ tkW (tk f n 0) (i + k) = 256 + ((mWd.getD 11 0 : Nat) : Int) from hw)] at hq
        subst hii
        refine V_ex sX12_readNot_2 (by rfl) (by first | exact trivial | exact Or.inr rfl | exact Or.inl rfl | (simp only [ob, obA, R32, R64] at *; omega) | (simp only [ob, obA, R32, R64] at *; and_intros <;> omega)) ?_
        refine V_ldcSw (n := 1000030) (ks_R hKS (i := 29) rfl) dX12_readNot_3 ?_
        refine V_callV (M := MX12_readNot) (N := MX12_is) dX12_readNot_6 lRX12_238 kX12_is rfl (rfl) rfl (hq) rfl rfl (Nat.le_of_ble_eq_true rfl) (fit_rm (by omega)) (⟨Nat.le_of_ble_eq_true rfl, Nat.le_of_ble_eq_true rfl⟩) (fun v Ω' hp => ?_) (fun _ _ h => h.elim)
        obtain ⟨rfl, rfl⟩ := hp
        refine V_ifeqB dX12_readNot_9 (tgt := 40) (by decide) (fun q9 => ?_) (fun q9 => ?_)
        · exact tail k G1 (by omega) f1 i1 c1 hP
        · exact absurd q9 (by decide)
  refine V_ex sX12_readNot_0 (by rfl) (by first | exact trivial | exact Or.inr rfl | exact Or.inl rfl | (simp only [ob, obA, R32, R64] at *; omega) | (simp only [ob, obA, R32, R64] at *; and_intros <;> omega)) ?_
  exact L 6 0 0 G (by omega) rfl (FX.refl G) hI hc (by rw [Nat.zero_add, Nat.add_zero])
set_option maxRecDepth 100000 in
set_option maxHeartbeats 4000000 in
theorem c_mNot0 {κ : Kx} (hκ : KOK κ) (hKS : KS κ) {d d' n : Nat} {lv : Int} {f : Nat → Int} {p : PE → PE} (hsub : mEC κ MX12_readSum d' lv f n p) (hd : d' + 1 ≤ d) (hd2 : 6 ≤ d) {G : Wd} (h26b : G.1 145 26 ≠ 0) (hR : R32 (G.1 145 26)) : Ct κ MX12_readNot d 0 0 [VR 145, VI lv] (Wm G) (voidG G) noX := by
  refine Ct_of hκ kX12_readNot.1 rfl (Nat.le_of_ble_eq_true rfl) (ls := [some (VR 145), some (VI lv), none, none]) rfl (fun μ => ?_)
  refine V_ex sX12_readNot_0 (by rfl) (by first | exact trivial | exact Or.inr rfl | exact Or.inl rfl | (simp only [ob, obA, R32, R64] at *; omega) | (simp only [ob, obA, R32, R64] at *; and_intros <;> omega)) ?_
  refine V_ex sX12_readNot_2 (by rfl) (by first | exact trivial | exact Or.inr rfl | exact Or.inl rfl | (simp only [ob, obA, R32, R64] at *; omega) | (simp only [ob, obA, R32, R64] at *; and_intros <;> omega)) ?_
  refine V_ldcSw (n := 1000030) (ks_R hKS (i := 29) rfl) dX12_readNot_3 ?_
  refine V_callV (M := MX12_readNot) (N := MX12_is) dX12_readNot_6 lRX12_238 kX12_is rfl (rfl) rfl (c_mIs0b (d := 4) hκ h26b hR) rfl rfl (Nat.le_of_ble_eq_true rfl) (fit_rm (by omega)) (⟨Nat.le_of_ble_eq_true rfl, Nat.le_of_ble_eq_true rfl⟩) (fun v Ω' hp => ?_) (fun _ _ h => h.elim)
  obtain ⟨rfl, rfl⟩ := hp
  refine V_ifeqB dX12_readNot_9 (tgt := 40) (by decide) (fun q9 => ?_) (fun q9 => ?_)
  · refine V_ex sX12_readNot_40 (by rfl) (by first | exact trivial | exact Or.inr rfl | exact Or.inl rfl | (simp only [ob, obA, R32, R64] at *; omega) | (simp only [ob, obA, R32, R64] at *; and_intros <;> omega)) ?_
    refine V_callV (M := MX12_readNot) (N := MX12_readSum) dX12_readNot_42 lRX12_282 kX12_readSum rfl (rfl) rfl (hsub.2 G h26b hR) rfl rfl (Nat.le_of_ble_eq_true rfl) (fit_rm (by omega)) (⟨Nat.le_of_ble_eq_true rfl, Nat.le_of_ble_eq_true rfl⟩) (fun v Ω' hp => ?_) (fun _ _ h => h.elim)
    obtain ⟨rfl, rfl⟩ := hp
    refine V_ex sX12_readNot_45 (by rfl) (by first | exact trivial | exact Or.inr rfl | exact Or.inl rfl | (simp only [ob, obA, R32, R64] at *; omega) | (simp only [ob, obA, R32, R64] at *; and_intros <;> omega)) ?_
    refine V_callV (M := MX12_readNot) (N := MX12_isMarked) dX12_readNot_48 lRX12_242 kX12_isMarked rfl (rfl) rfl (c_mIsMarked0b (d := 2) hκ h26b hR) rfl rfl (Nat.le_of_ble_eq_true rfl) (fit_rm (by omega)) (⟨Nat.le_of_ble_eq_true rfl, Nat.le_of_ble_eq_true rfl⟩) (fun v Ω' hp => ?_) (fun _ _ h => h.elim)
    obtain ⟨rfl, rfl⟩ := hp
    refine V_ifneB dX12_readNot_51 (tgt := 63) (by decide) (fun q51 => ?_) (fun q51 => ?_)
    · exact absurd q51 (by decide)
    · refine V_ex sX12_readNot_54 (by rfl) (by first | exact trivial | exact Or.inr rfl | exact Or.inl rfl | (simp only [ob, obA, R32, R64] at *; omega) | (simp only [ob, obA, R32, R64] at *; and_intros <;> omega)) ?_
      refine V_callV (M := MX12_readNot) (N := MX12_isMarked) dX12_readNot_57 lRX12_242 kX12_isMarked rfl (rfl) rfl (c_mIsMarked0b (d := 2) hκ h26b hR) rfl rfl (Nat.le_of_ble_eq_true rfl) (fit_rm (by omega)) (⟨Nat.le_of_ble_eq_true rfl, Nat.le_of_ble_eq_true rfl⟩) (fun v Ω' hp => ?_) (fun _ _ h => h.elim)
      obtain ⟨rfl, rfl⟩ := hp
      refine V_ifeqB dX12_readNot_60 (tgt := 94) (by decide) (fun q60 => ?_) (fun q60 => ?_)
      · refine V_ex sX12_readNot_94 (by rfl) (by first | exact trivial | exact Or.inr rfl | exact Or.inl rfl | (simp only [ob, obA, R32, R64] at *; omega) | (simp only [ob, obA, R32, R64] at *; and_intros <;> omega)) ?_
        refine V_ex sX12_readNot_96 (by rfl) (by first | exact trivial | exact Or.inr rfl | exact Or.inl rfl | (simp only [ob, obA, R32, R64] at *; omega) | (simp only [ob, obA, R32, R64] at *; and_intros <;> omega)) ?_
        refine V_icmpge dX12_readNot_98 (tgt := 113) (by decide) (by simp only [R32, R64] at *; omega) (fun q98 => ?_) (fun q98 => ?_)
        · refine V_vret dX12_readNot_113 rfl (by decide) ⟨rfl, rfl⟩
        · exact absurd q98 (by decide)
      · exact absurd q60 (by decide)
  · exact absurd q9 (by decide)
