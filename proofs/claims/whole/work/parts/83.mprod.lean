/-! THE MODEL's reader: products, sums -/
set_option maxRecDepth 100000 in
set_option maxHeartbeats 4000000 in
theorem c_mProd {κ : Kx} (hκ : KOK κ) {d d' n H : Nat} {lv : Int} {f : Nat → Int} {p : PE → PE} (hT : pTok (tkW (tk f n 0)) (tkV (tk f n 0)) ((tk f n 0).length - 1)) (hsub : mEC κ MX12_readPart d' lv f n p) (hPG : PG ((tk f n 0).length - 1) H p) (hd : d' + 1 ≤ d) (hd2 : 3 ≤ d) {G : Wd} {i : Nat} {c : List Int} (h : mH f n G i c) : Ct κ MX12_readProduct d 0 0 [VR 145, VI lv] (Wm G) (mQ f n (pLoop opP (tkW (tk f n 0)) p 501 (p (i, 0, c))) G) noX := by
  refine Ct_of hκ kX12_readProduct.1 rfl (Nat.le_of_ble_eq_true rfl) (ls := [some (VR 145), some (VI lv), none]) rfl (fun μ => ?_)
  have h0 := h
  obtain ⟨hI, hc, hci⟩ := h
  obtain ⟨l1, l2, l3, l4, l5, l6⟩ := mI_lt hI
  have L : ∀ (k : Nat) (r : PE) (G1 : Wd) (x : Option Vl), FX G G1 → mR f n G1 r → pRes ((tk f n 0).length - 1) (H + 1) i c r → (tk f n 0).length ≤ r.1 + k → pLoop opP (tkW (tk f n 0)) p k r = pLoop opP (tkW (tk f n 0)) p 501 (p (i, 0, c)) → V κ MX12_readProduct (rmD d 0 0) (mQ f n (pLoop opP (tkW (tk f n 0)) p 501 (p (i, 0, c))) G) noX 0 0 μ 0 0 (Wm G1) 5 [some (VR 145), some (VI lv), x] [] := by
    intro k
    induction k with
    | zero => intro r G1 x f1 m1 g1 hk he; exact absurd g1.2.1 (by have := (tk_len f n n 0 (by omega)).1; omega)
    | succ k ih =>
      intro r G1 x f1 m1 g1 hk he
      have g10 := g1
      obtain ⟨p1, p2, p3, p4, p5⟩ := g1
      by_cases hb : r.2.1 = 0
      · obtain ⟨i1, c1⟩ := m1.1 hb
        obtain ⟨p6, cs, e1, e2, e3, e4⟩ := p5 hb
        obtain ⟨j1, j2, j3, j4, j5, j6⟩ := mI_lt i1
        have hlen : r.2.2.length ≤ r.1 := by rw [e1]; simp; omega
        have go : ∀ (o : Int), opP (tkW (tk f n 0) r.1) = some o → tkW (tk f n 0) r.1 ≠ -1 → V κ MX12_readProduct (rmD d 0 0) (mQ f n (pLoop opP (tkW (tk f n 0)) p 501 (p (i, 0, c))) G) noX 0 0 μ 0 0 (Wm G1) 39 [some (VR 145), some (VI lv), x] [VI (sm o)] := fun o ho hw => by
          have hoo := opP_o _ _ ho
          have hnl := mI_nl i1 hw
          have hq := hPG (r.1 + 1) r.2.2 (Nat.le_sub_one_of_lt hnl)
          rw [pLoop_go k hb ho] at he
          have hg := pLoop_res (w := tkW (tk f n 0)) (v := tkV (tk f n 0)) (op := fun x => if x = tkW (tk f n 0) r.1 then some o else none) hT (fun x o' h => by split at h; cases h; exact hoo; cases h) (if_neg (fun q => hw q.symm)) hPG 1 r g10
          rw [pLoop_go 0 hb (show (fun x => if x = tkW (tk f n 0) r.1 then some o else none) (tkW (tk f n 0) r.1) = some o from if_pos rfl), pLoop] at hg
          have hrr : ∀ G2 : Wd, mH f n G2 (r.1 + 1) r.2.2 → Ct κ MX12_readPart d' 0 0 [VR 145, VI lv] (Wm G2) (mQ f n (p (r.1 + 1, 0, r.2.2)) G2) noX := fun G2 h => hsub.1 G2 _ _ h
          generalize p (r.1 + 1, 0, r.2.2) = s at *
          obtain ⟨s1, s2, s3, s4, s5⟩ := hq
          by_cases hs : s.2.1 = 0
          · rw [if_pos hs] at he hg
            obtain ⟨s6, ds, d1, d2, d3, d4⟩ := s5 hs
            have hlen2 : s.2.2.length ≤ s.1 - 1 := by rw [d1]; simp; omega
            refine V_ex sX12_readProduct_39 (by rfl) (by first | exact trivial | exact Or.inr rfl | exact Or.inl rfl | (simp only [ob, obA, R32, R64] at *; omega) | (simp only [ob, obA, R32, R64] at *; and_intros <;> omega)) ?_
            refine V_callV (M := MX12_readProduct) (N := MX12_stepOn) dX12_readProduct_41 lRX12_249 kX12_stepOn rfl (rfl) rfl (c_iNext (d := 2) hκ i1 hw (by omega)) rfl rfl (Nat.le_of_ble_eq_true rfl) (fit_rm (by omega)) (⟨Nat.le_of_ble_eq_true rfl, Nat.le_of_ble_eq_true rfl⟩) (fun v Ω' hp => ?_) (fun _ _ h => h.elim)
            obtain ⟨rfl, G2, rfl, f2, i2⟩ := hp
            refine V_ex sX12_readProduct_44 (by rfl) (by first | exact trivial | exact Or.inr rfl | exact Or.inl rfl | (simp only [ob, obA, R32, R64] at *; omega) | (simp only [ob, obA, R32, R64] at *; and_intros <;> omega)) ?_
            refine V_callV (M := MX12_readProduct) (N := MX12_readPart) dX12_readProduct_46 lRX12_274 kX12_readPart rfl (rfl) rfl (hrr G2 ⟨i2, cd_m f2 c1, by omega⟩) rfl rfl (Nat.le_of_ble_eq_true rfl) (fit_rm (by omega)) (⟨Nat.le_of_ble_eq_true rfl, Nat.le_of_ble_eq_true rfl⟩) (fun v Ω' hp => ?_) (fun _ _ h => h.elim)
            obtain ⟨rfl, G3, rfl, f3, m3⟩ := hp
            obtain ⟨i3, c3⟩ := m3.1 hs
            have hn3 := mI_lt i3
            refine V_ex sX12_readProduct_49 (by rfl) (by first | exact trivial | exact Or.inr rfl | exact Or.inl rfl | (simp only [ob, obA, R32, R64] at *; omega) | (simp only [ob, obA, R32, R64] at *; and_intros <;> omega)) ?_
            refine V_callV (M := MX12_readProduct) (N := MX12_lay) dX12_readProduct_51 lRX12_261 kX12_lay rfl (rfl) rfl (c_iLay (d := 0) hκ i3 c3 (by omega)) rfl rfl (Nat.le_of_ble_eq_true rfl) (fit_rm (by omega)) (⟨Nat.le_of_ble_eq_true rfl, Nat.le_of_ble_eq_true rfl⟩) (fun v Ω' hp => ?_) (fun _ _ h => h.elim)
            obtain ⟨rfl, rfl⟩ := hp
            refine V_goto dX12_readProduct_54 (tgt := 5) (by decide) ?_
            exact ih (s.1, 0, s.2.2 ++ [o]) _ _ (((f1.trans (FX.m f2)).trans f3).trans (FX.ly G3 _ _)) ⟨fun _ => ⟨ly_I i3, ly_cd c3⟩, fun q => absurd rfl q⟩ hg (by show _ ≤ s.1 + k; omega) he
          · rw [if_neg hs] at he hg
            refine V_ex sX12_readProduct_39 (by rfl) (by first | exact trivial | exact Or.inr rfl | exact Or.inl rfl | (simp only [ob, obA, R32, R64] at *; omega) | (simp only [ob, obA, R32, R64] at *; and_intros <;> omega)) ?_
            refine V_callV (M := MX12_readProduct) (N := MX12_stepOn) dX12_readProduct_41 lRX12_249 kX12_stepOn rfl (rfl) rfl (c_iNext (d := 2) hκ i1 hw (by omega)) rfl rfl (Nat.le_of_ble_eq_true rfl) (fit_rm (by omega)) (⟨Nat.le_of_ble_eq_true rfl, Nat.le_of_ble_eq_true rfl⟩) (fun v Ω' hp => ?_) (fun _ _ h => h.elim)
            obtain ⟨rfl, G2, rfl, f2, i2⟩ := hp
            refine V_ex sX12_readProduct_44 (by rfl) (by first | exact trivial | exact Or.inr rfl | exact Or.inl rfl | (simp only [ob, obA, R32, R64] at *; omega) | (simp only [ob, obA, R32, R64] at *; and_intros <;> omega)) ?_
            refine V_callV (M := MX12_readProduct) (N := MX12_readPart) dX12_readProduct_46 lRX12_274 kX12_readPart rfl (rfl) rfl (hrr G2 ⟨i2, cd_m f2 c1, by omega⟩) rfl rfl (Nat.le_of_ble_eq_true rfl) (fit_rm (by omega)) (⟨Nat.le_of_ble_eq_true rfl, Nat.le_of_ble_eq_true rfl⟩) (fun v Ω' hp => ?_) (fun _ _ h => h.elim)
            obtain ⟨rfl, G3, rfl, f3, m3⟩ := hp
            have hm3 := m3.2 hs
            have h26b : G3.1 145 26 ≠ 0 := by rw [hm3.1]; exact hs
            refine V_ex sX12_readProduct_49 (by rfl) (by first | exact trivial | exact Or.inr rfl | exact Or.inl rfl | (simp only [ob, obA, R32, R64] at *; omega) | (simp only [ob, obA, R32, R64] at *; and_intros <;> omega)) ?_
            refine V_callV (M := MX12_readProduct) (N := MX12_lay) dX12_readProduct_51 lRX12_261 kX12_lay rfl (rfl) rfl (c_mLay0 (d := 0) hκ h26b (by rw [hm3.1]; unfold R32; omega)) rfl rfl (Nat.le_of_ble_eq_true rfl) (fit_rm (by omega)) (⟨Nat.le_of_ble_eq_true rfl, Nat.le_of_ble_eq_true rfl⟩) (fun v Ω' hp => ?_) (fun _ _ h => h.elim)
            obtain ⟨rfl, rfl⟩ := hp
            refine V_goto dX12_readProduct_54 (tgt := 5) (by decide) ?_
            exact ih s G3 _ ((f1.trans (FX.m f2)).trans f3) m3 hg (by omega) he
        refine V_ex sX12_readProduct_5 (by rfl) (by first | exact trivial | exact Or.inr rfl | exact Or.inl rfl | (simp only [ob, obA, R32, R64] at *; omega) | (simp only [ob, obA, R32, R64] at *; and_intros <;> omega)) ?_
        refine V_callV (M := MX12_readProduct) (N := MX12_isMarked) dX12_readProduct_8 lRX12_242 kX12_isMarked rfl (rfl) rfl (c_iMarked (d := 2) hκ i1 (by decide) (by omega)) rfl rfl (Nat.le_of_ble_eq_true rfl) (fit_rm (by omega)) (⟨Nat.le_of_ble_eq_true rfl, Nat.le_of_ble_eq_true rfl⟩) (fun v Ω' hp => ?_) (fun _ _ h => h.elim)
        obtain ⟨rfl, rfl⟩ := hp
        refine V_ifneB dX12_readProduct_11 (tgt := 23) (by decide) (fun q11 => ?_) (fun q11 => ?_)
        · have z1 := of_decide_eq_true q11
          refine V_ex sX12_readProduct_23 (by rfl) (by first | exact trivial | exact Or.inr rfl | exact Or.inl rfl | (simp only [ob, obA, R32, R64] at *; omega) | (simp only [ob, obA, R32, R64] at *; and_intros <;> omega)) ?_
          refine V_callV (M := MX12_readProduct) (N := MX12_isMarked) dX12_readProduct_26 lRX12_242 kX12_isMarked rfl (rfl) rfl (c_iMarked (d := 2) hκ i1 (by decide) (by omega)) rfl rfl (Nat.le_of_ble_eq_true rfl) (fit_rm (by omega)) (⟨Nat.le_of_ble_eq_true rfl, Nat.le_of_ble_eq_true rfl⟩) (fun v Ω' hp => ?_) (fun _ _ h => h.elim)
          obtain ⟨rfl, rfl⟩ := hp
          refine V_ifeqB dX12_readProduct_29 (tgt := 37) (by decide) (fun q29 => ?_) (fun q29 => ?_)
          · exact absurd z1 (of_decide_eq_false q29)
          · refine V_ex sX12_readProduct_32 (by rfl) (by first | exact trivial | exact Or.inr rfl | exact Or.inl rfl | (simp only [ob, obA, R32, R64] at *; omega) | (simp only [ob, obA, R32, R64] at *; and_intros <;> omega)) ?_
            refine V_goto dX12_readProduct_34 (tgt := 39) (by decide) ?_
            exact go (-12) (by rw [opP, if_pos z1]) (by omega)
        · have z1 := of_decide_eq_false q11
          refine V_ex sX12_readProduct_14 (by rfl) (by first | exact trivial | exact Or.inr rfl | exact Or.inl rfl | (simp only [ob, obA, R32, R64] at *; omega) | (simp only [ob, obA, R32, R64] at *; and_intros <;> omega)) ?_
          refine V_callV (M := MX12_readProduct) (N := MX12_isMarked) dX12_readProduct_17 lRX12_242 kX12_isMarked rfl (rfl) rfl (c_iMarked (d := 2) hκ i1 (by decide) (by omega)) rfl rfl (Nat.le_of_ble_eq_true rfl) (fit_rm (by omega)) (⟨Nat.le_of_ble_eq_true rfl, Nat.le_of_ble_eq_true rfl⟩) (fun v Ω' hp => ?_) (fun _ _ h => h.elim)
          obtain ⟨rfl, rfl⟩ := hp
          refine V_ifeqB dX12_readProduct_20 (tgt := 57) (by decide) (fun q20 => ?_) (fun q20 => ?_)
          · refine V_vret dX12_readProduct_57 rfl (by decide) ?_
            have hn : opP (tkW (tk f n 0) r.1) = none := by rw [opP, if_neg z1, if_neg (of_decide_eq_false q20)]
            rw [pLoop_no _ hn] at he
            rw [← he]; exact ⟨rfl, G1, rfl, f1, m1⟩
          · have z2 := of_decide_eq_true q20
            refine V_ex sX12_readProduct_23 (by rfl) (by first | exact trivial | exact Or.inr rfl | exact Or.inl rfl | (simp only [ob, obA, R32, R64] at *; omega) | (simp only [ob, obA, R32, R64] at *; and_intros <;> omega)) ?_
            refine V_callV (M := MX12_readProduct) (N := MX12_isMarked) dX12_readProduct_26 lRX12_242 kX12_isMarked rfl (rfl) rfl (c_iMarked (d := 2) hκ i1 (by decide) (by omega)) rfl rfl (Nat.le_of_ble_eq_true rfl) (fit_rm (by omega)) (⟨Nat.le_of_ble_eq_true rfl, Nat.le_of_ble_eq_true rfl⟩) (fun v Ω' hp => ?_) (fun _ _ h => h.elim)
            obtain ⟨rfl, rfl⟩ := hp
            refine V_ifeqB dX12_readProduct_29 (tgt := 37) (by decide) (fun q29 => ?_) (fun q29 => ?_)
            · refine V_ex sX12_readProduct_37 (by rfl) (by first | exact trivial | exact Or.inr rfl | exact Or.inl rfl | (simp only [ob, obA, R32, R64] at *; omega) | (simp only [ob, obA, R32, R64] at *; and_intros <;> omega)) ?_
              exact go (-13) (by rw [opP, if_neg z1, if_pos z2]) (by omega)
            · exact absurd (of_decide_eq_true q29) z1
      · have hm1 := m1.2 hb
        have h26b : G1.1 145 26 ≠ 0 := by rw [hm1.1]; exact hb
        have hR : R32 (G1.1 145 26) := by rw [hm1.1]; unfold R32; omega
        rw [pLoop_bad _ hb] at he
        refine V_ex sX12_readProduct_5 (by rfl) (by first | exact trivial | exact Or.inr rfl | exact Or.inl rfl | (simp only [ob, obA, R32, R64] at *; omega) | (simp only [ob, obA, R32, R64] at *; and_intros <;> omega)) ?_
        refine V_callV (M := MX12_readProduct) (N := MX12_isMarked) dX12_readProduct_8 lRX12_242 kX12_isMarked rfl (rfl) rfl (c_mIsMarked0b (d := 2) hκ h26b hR) rfl rfl (Nat.le_of_ble_eq_true rfl) (fit_rm (by omega)) (⟨Nat.le_of_ble_eq_true rfl, Nat.le_of_ble_eq_true rfl⟩) (fun v Ω' hp => ?_) (fun _ _ h => h.elim)
        obtain ⟨rfl, rfl⟩ := hp
        refine V_ifneB dX12_readProduct_11 (tgt := 23) (by decide) (fun q11 => ?_) (fun q11 => ?_)
        · exact absurd q11 (by decide)
        · refine V_ex sX12_readProduct_14 (by rfl) (by first | exact trivial | exact Or.inr rfl | exact Or.inl rfl | (simp only [ob, obA, R32, R64] at *; omega) | (simp only [ob, obA, R32, R64] at *; and_intros <;> omega)) ?_
          refine V_callV (M := MX12_readProduct) (N := MX12_isMarked) dX12_readProduct_17 lRX12_242 kX12_isMarked rfl (rfl) rfl (c_mIsMarked0b (d := 2) hκ h26b hR) rfl rfl (Nat.le_of_ble_eq_true rfl) (fit_rm (by omega)) (⟨Nat.le_of_ble_eq_true rfl, Nat.le_of_ble_eq_true rfl⟩) (fun v Ω' hp => ?_) (fun _ _ h => h.elim)
          obtain ⟨rfl, rfl⟩ := hp
          refine V_ifeqB dX12_readProduct_20 (tgt := 57) (by decide) (fun q20 => ?_) (fun q20 => ?_)
          · refine V_vret dX12_readProduct_57 rfl (by decide) (by rw [← he]; exact ⟨rfl, G1, rfl, f1, m1⟩)
          · exact absurd q20 (by decide)
  have hq := hPG i c (by omega)
  refine V_ex sX12_readProduct_0 (by rfl) (by first | exact trivial | exact Or.inr rfl | exact Or.inl rfl | (simp only [ob, obA, R32, R64] at *; omega) | (simp only [ob, obA, R32, R64] at *; and_intros <;> omega)) ?_
  refine V_callV (M := MX12_readProduct) (N := MX12_readPart) dX12_readProduct_2 lRX12_274 kX12_readPart rfl (rfl) rfl (hsub.1 G i c h0) rfl rfl (Nat.le_of_ble_eq_true rfl) (fit_rm (by omega)) (⟨Nat.le_of_ble_eq_true rfl, Nat.le_of_ble_eq_true rfl⟩) (fun v Ω' hp => ?_) (fun _ _ h => h.elim)
  obtain ⟨rfl, G1, rfl, f1, m1⟩ := hp
  exact L 501 (p (i, 0, c)) G1 _ f1 m1 (pRes_mono hq (by omega)) (by omega) rfl
set_option maxRecDepth 100000 in
set_option maxHeartbeats 4000000 in
theorem c_mProd0 {κ : Kx} (hκ : KOK κ) {d d' n : Nat} {lv : Int} {f : Nat → Int} {p : PE → PE} (hsub : mEC κ MX12_readPart d' lv f n p) (hd : d' + 1 ≤ d) (hd2 : 3 ≤ d) {G : Wd} (h26b : G.1 145 26 ≠ 0) (hR : R32 (G.1 145 26)) : Ct κ MX12_readProduct d 0 0 [VR 145, VI lv] (Wm G) (voidG G) noX := by
  refine Ct_of hκ kX12_readProduct.1 rfl (Nat.le_of_ble_eq_true rfl) (ls := [some (VR 145), some (VI lv), none]) rfl (fun μ => ?_)
  refine V_ex sX12_readProduct_0 (by rfl) (by first | exact trivial | exact Or.inr rfl | exact Or.inl rfl | (simp only [ob, obA, R32, R64] at *; omega) | (simp only [ob, obA, R32, R64] at *; and_intros <;> omega)) ?_
  refine V_callV (M := MX12_readProduct) (N := MX12_readPart) dX12_readProduct_2 lRX12_274 kX12_readPart rfl (rfl) rfl (hsub.2 G h26b hR) rfl rfl (Nat.le_of_ble_eq_true rfl) (fit_rm (by omega)) (⟨Nat.le_of_ble_eq_true rfl, Nat.le_of_ble_eq_true rfl⟩) (fun v Ω' hp => ?_) (fun _ _ h => h.elim)
  obtain ⟨rfl, rfl⟩ := hp
  refine V_ex sX12_readProduct_5 (by rfl) (by first | exact trivial | exact Or.inr rfl | exact Or.inl rfl | (simp only [ob, obA, R32, R64] at *; omega) | (simp only [ob, obA, R32, R64] at *; and_intros <;> omega)) ?_
  refine V_callV (M := MX12_readProduct) (N := MX12_isMarked) dX12_readProduct_8 lRX12_242 kX12_isMarked rfl (rfl) rfl (c_mIsMarked0b (d := 2) hκ h26b hR) rfl rfl (Nat.le_of_ble_eq_true rfl) (fit_rm (by omega)) (⟨Nat.le_of_ble_eq_true rfl, Nat.le_of_ble_eq_true rfl⟩) (fun v Ω' hp => ?_) (fun _ _ h => h.elim)
  obtain ⟨rfl, rfl⟩ := hp
  refine V_ifneB dX12_readProduct_11 (tgt := 23) (by decide) (fun q11 => ?_) (fun q11 => ?_)
  · exact absurd q11 (by decide)
  · refine V_ex sX12_readProduct_14 (by rfl) (by first | exact trivial | exact Or.inr rfl | exact Or.inl rfl | (simp only [ob, obA, R32, R64] at *; omega) | (simp only [ob, obA, R32, R64] at *; and_intros <;> omega)) ?_
    refine V_callV (M := MX12_readProduct) (N := MX12_isMarked) dX12_readProduct_17 lRX12_242 kX12_isMarked rfl (rfl) rfl (c_mIsMarked0b (d := 2) hκ h26b hR) rfl rfl (Nat.le_of_ble_eq_true rfl) (fit_rm (by omega)) (⟨Nat.le_of_ble_eq_true rfl, Nat.le_of_ble_eq_true rfl⟩) (fun v Ω' hp => ?_) (fun _ _ h => h.elim)
    obtain ⟨rfl, rfl⟩ := hp
    refine V_ifeqB dX12_readProduct_20 (tgt := 57) (by decide) (fun q20 => ?_) (fun q20 => ?_)
    · refine V_vret dX12_readProduct_57 rfl (by decide) ⟨rfl, rfl⟩
    · exact absurd q20 (by decide)
set_option maxRecDepth 100000 in
set_option maxHeartbeats 4000000 in
theorem c_mSum {κ : Kx} (hκ : KOK κ) {d d' n H : Nat} {lv : Int} {f : Nat → Int} {p : PE → PE} (hT : pTok (tkW (tk f n 0)) (tkV (tk f n 0)) ((tk f n 0).length - 1)) (hsub : mEC κ MX12_readProduct d' lv f n p) (hPG : PG ((tk f n 0).length - 1) H p) (hd : d' + 1 ≤ d) (hd2 : 3 ≤ d) {G : Wd} {i : Nat} {c : List Int} (h : mH f n G i c) : Ct κ MX12_readSum d 0 0 [VR 145, VI lv] (Wm G) (mQ f n (pLoop opS (tkW (tk f n 0)) p 501 (p (i, 0, c))) G) noX := by
  refine Ct_of hκ kX12_readSum.1 rfl (Nat.le_of_ble_eq_true rfl) (ls := [some (VR 145), some (VI lv), none]) rfl (fun μ => ?_)
  have h0 := h
  obtain ⟨hI, hc, hci⟩ := h
  obtain ⟨l1, l2, l3, l4, l5, l6⟩ := mI_lt hI
  have L : ∀ (k : Nat) (r : PE) (G1 : Wd) (x : Option Vl), FX G G1 → mR f n G1 r → pRes ((tk f n 0).length - 1) (H + 1) i c r → (tk f n 0).length ≤ r.1 + k → pLoop opS (tkW (tk f n 0)) p k r = pLoop opS (tkW (tk f n 0)) p 501 (p (i, 0, c)) → V κ MX12_readSum (rmD d 0 0) (mQ f n (pLoop opS (tkW (tk f n 0)) p 501 (p (i, 0, c))) G) noX 0 0 μ 0 0 (Wm G1) 5 [some (VR 145), some (VI lv), x] [] := by
    intro k
    induction k with
    | zero => intro r G1 x f1 m1 g1 hk he; exact absurd g1.2.1 (by have := (tk_len f n n 0 (by omega)).1; omega)
    | succ k ih =>
      intro r G1 x f1 m1 g1 hk he
      have g10 := g1
      obtain ⟨p1, p2, p3, p4, p5⟩ := g1
      by_cases hb : r.2.1 = 0
      · obtain ⟨i1, c1⟩ := m1.1 hb
        obtain ⟨p6, cs, e1, e2, e3, e4⟩ := p5 hb
        obtain ⟨j1, j2, j3, j4, j5, j6⟩ := mI_lt i1
        have hlen : r.2.2.length ≤ r.1 := by rw [e1]; simp; omega
        have go : ∀ (o : Int), opS (tkW (tk f n 0) r.1) = some o → tkW (tk f n 0) r.1 ≠ -1 → V κ MX12_readSum (rmD d 0 0) (mQ f n (pLoop opS (tkW (tk f n 0)) p 501 (p (i, 0, c))) G) noX 0 0 μ 0 0 (Wm G1) 39 [some (VR 145), some (VI lv), x] [VI (sm o)] := fun o ho hw => by
          have hoo := opS_o _ _ ho
          have hnl := mI_nl i1 hw
          have hq := hPG (r.1 + 1) r.2.2 (Nat.le_sub_one_of_lt hnl)
          rw [pLoop_go k hb ho] at he
          have hg := pLoop_res (w := tkW (tk f n 0)) (v := tkV (tk f n 0)) (op := fun x => if x = tkW (tk f n 0) r.1 then some o else none) hT (fun x o' h => by split at h; cases h; exact hoo; cases h) (if_neg (fun q => hw q.symm)) hPG 1 r g10
          rw [pLoop_go 0 hb (show (fun x => if x = tkW (tk f n 0) r.1 then some o else none) (tkW (tk f n 0) r.1) = some o from if_pos rfl), pLoop] at hg
          have hrr : ∀ G2 : Wd, mH f n G2 (r.1 + 1) r.2.2 → Ct κ MX12_readProduct d' 0 0 [VR 145, VI lv] (Wm G2) (mQ f n (p (r.1 + 1, 0, r.2.2)) G2) noX := fun G2 h => hsub.1 G2 _ _ h
          generalize p (r.1 + 1, 0, r.2.2) = s at *
          obtain ⟨s1, s2, s3, s4, s5⟩ := hq
          by_cases hs : s.2.1 = 0
          · rw [if_pos hs] at he hg
            obtain ⟨s6, ds, d1, d2, d3, d4⟩ := s5 hs
            have hlen2 : s.2.2.length ≤ s.1 - 1 := by rw [d1]; simp; omega
            refine V_ex sX12_readSum_39 (by rfl) (by first | exact trivial | exact Or.inr rfl | exact Or.inl rfl | (simp only [ob, obA, R32, R64] at *; omega) | (simp only [ob, obA, R32, R64] at *; and_intros <;> omega)) ?_
            refine V_callV (M := MX12_readSum) (N := MX12_stepOn) dX12_readSum_41 lRX12_249 kX12_stepOn rfl (rfl) rfl (c_iNext (d := 2) hκ i1 hw (by omega)) rfl rfl (Nat.le_of_ble_eq_true rfl) (fit_rm (by omega)) (⟨Nat.le_of_ble_eq_true rfl, Nat.le_of_ble_eq_true rfl⟩) (fun v Ω' hp => ?_) (fun _ _ h => h.elim)
            obtain ⟨rfl, G2, rfl, f2, i2⟩ := hp
            refine V_ex sX12_readSum_44 (by rfl) (by first | exact trivial | exact Or.inr rfl | exact Or.inl rfl | (simp only [ob, obA, R32, R64] at *; omega) | (simp only [ob, obA, R32, R64] at *; and_intros <;> omega)) ?_
            refine V_callV (M := MX12_readSum) (N := MX12_readProduct) dX12_readSum_46 lRX12_277 kX12_readProduct rfl (rfl) rfl (hrr G2 ⟨i2, cd_m f2 c1, by omega⟩) rfl rfl (Nat.le_of_ble_eq_true rfl) (fit_rm (by omega)) (⟨Nat.le_of_ble_eq_true rfl, Nat.le_of_ble_eq_true rfl⟩) (fun v Ω' hp => ?_) (fun _ _ h => h.elim)
            obtain ⟨rfl, G3, rfl, f3, m3⟩ := hp
            obtain ⟨i3, c3⟩ := m3.1 hs
            have hn3 := mI_lt i3
            refine V_ex sX12_readSum_49 (by rfl) (by first | exact trivial | exact Or.inr rfl | exact Or.inl rfl | (simp only [ob, obA, R32, R64] at *; omega) | (simp only [ob, obA, R32, R64] at *; and_intros <;> omega)) ?_
            refine V_callV (M := MX12_readSum) (N := MX12_lay) dX12_readSum_51 lRX12_261 kX12_lay rfl (rfl) rfl (c_iLay (d := 0) hκ i3 c3 (by omega)) rfl rfl (Nat.le_of_ble_eq_true rfl) (fit_rm (by omega)) (⟨Nat.le_of_ble_eq_true rfl, Nat.le_of_ble_eq_true rfl⟩) (fun v Ω' hp => ?_) (fun _ _ h => h.elim)
            obtain ⟨rfl, rfl⟩ := hp
            refine V_goto dX12_readSum_54 (tgt := 5) (by decide) ?_
            exact ih (s.1, 0, s.2.2 ++ [o]) _ _ (((f1.trans (FX.m f2)).trans f3).trans (FX.ly G3 _ _)) ⟨fun _ => ⟨ly_I i3, ly_cd c3⟩, fun q => absurd rfl q⟩ hg (by show _ ≤ s.1 + k; omega) he
          · rw [if_neg hs] at he hg
            refine V_ex sX12_readSum_39 (by rfl) (by first | exact trivial | exact Or.inr rfl | exact Or.inl rfl | (simp only [ob, obA, R32, R64] at *; omega) | (simp only [ob, obA, R32, R64] at *; and_intros <;> omega)) ?_
            refine V_callV (M := MX12_readSum) (N := MX12_stepOn) dX12_readSum_41 lRX12_249 kX12_stepOn rfl (rfl) rfl (c_iNext (d := 2) hκ i1 hw (by omega)) rfl rfl (Nat.le_of_ble_eq_true rfl) (fit_rm (by omega)) (⟨Nat.le_of_ble_eq_true rfl, Nat.le_of_ble_eq_true rfl⟩) (fun v Ω' hp => ?_) (fun _ _ h => h.elim)
            obtain ⟨rfl, G2, rfl, f2, i2⟩ := hp
            refine V_ex sX12_readSum_44 (by rfl) (by first | exact trivial | exact Or.inr rfl | exact Or.inl rfl | (simp only [ob, obA, R32, R64] at *; omega) | (simp only [ob, obA, R32, R64] at *; and_intros <;> omega)) ?_
            refine V_callV (M := MX12_readSum) (N := MX12_readProduct) dX12_readSum_46 lRX12_277 kX12_readProduct rfl (rfl) rfl (hrr G2 ⟨i2, cd_m f2 c1, by omega⟩) rfl rfl (Nat.le_of_ble_eq_true rfl) (fit_rm (by omega)) (⟨Nat.le_of_ble_eq_true rfl, Nat.le_of_ble_eq_true rfl⟩) (fun v Ω' hp => ?_) (fun _ _ h => h.elim)
            obtain ⟨rfl, G3, rfl, f3, m3⟩ := hp
            have hm3 := m3.2 hs
            have h26b : G3.1 145 26 ≠ 0 := by rw [hm3.1]; exact hs
            refine V_ex sX12_readSum_49 (by rfl) (by first | exact trivial | exact Or.inr rfl | exact Or.inl rfl | (simp only [ob, obA, R32, R64] at *; omega) | (simp only [ob, obA, R32, R64] at *; and_intros <;> omega)) ?_
            refine V_callV (M := MX12_readSum) (N := MX12_lay) dX12_readSum_51 lRX12_261 kX12_lay rfl (rfl) rfl (c_mLay0 (d := 0) hκ h26b (by rw [hm3.1]; unfold R32; omega)) rfl rfl (Nat.le_of_ble_eq_true rfl) (fit_rm (by omega)) (⟨Nat.le_of_ble_eq_true rfl, Nat.le_of_ble_eq_true rfl⟩) (fun v Ω' hp => ?_) (fun _ _ h => h.elim)
            obtain ⟨rfl, rfl⟩ := hp
            refine V_goto dX12_readSum_54 (tgt := 5) (by decide) ?_
            exact ih s G3 _ ((f1.trans (FX.m f2)).trans f3) m3 hg (by omega) he
        refine V_ex sX12_readSum_5 (by rfl) (by first | exact trivial | exact Or.inr rfl | exact Or.inl rfl | (simp only [ob, obA, R32, R64] at *; omega) | (simp only [ob, obA, R32, R64] at *; and_intros <;> omega)) ?_
        refine V_callV (M := MX12_readSum) (N := MX12_isMarked) dX12_readSum_8 lRX12_242 kX12_isMarked rfl (rfl) rfl (c_iMarked (d := 2) hκ i1 (by decide) (by omega)) rfl rfl (Nat.le_of_ble_eq_true rfl) (fit_rm (by omega)) (⟨Nat.le_of_ble_eq_true rfl, Nat.le_of_ble_eq_true rfl⟩) (fun v Ω' hp => ?_) (fun _ _ h => h.elim)
        obtain ⟨rfl, rfl⟩ := hp
        refine V_ifneB dX12_readSum_11 (tgt := 23) (by decide) (fun q11 => ?_) (fun q11 => ?_)
        · have z1 := of_decide_eq_true q11
          refine V_ex sX12_readSum_23 (by rfl) (by first | exact trivial | exact Or.inr rfl | exact Or.inl rfl | (simp only [ob, obA, R32, R64] at *; omega) | (simp only [ob, obA, R32, R64] at *; and_intros <;> omega)) ?_
          refine V_callV (M := MX12_readSum) (N := MX12_isMarked) dX12_readSum_26 lRX12_242 kX12_isMarked rfl (rfl) rfl (c_iMarked (d := 2) hκ i1 (by decide) (by omega)) rfl rfl (Nat.le_of_ble_eq_true rfl) (fit_rm (by omega)) (⟨Nat.le_of_ble_eq_true rfl, Nat.le_of_ble_eq_true rfl⟩) (fun v Ω' hp => ?_) (fun _ _ h => h.elim)
          obtain ⟨rfl, rfl⟩ := hp
          refine V_ifeqB dX12_readSum_29 (tgt := 37) (by decide) (fun q29 => ?_) (fun q29 => ?_)
          · exact absurd z1 (of_decide_eq_false q29)
          · refine V_ex sX12_readSum_32 (by rfl) (by first | exact trivial | exact Or.inr rfl | exact Or.inl rfl | (simp only [ob, obA, R32, R64] at *; omega) | (simp only [ob, obA, R32, R64] at *; and_intros <;> omega)) ?_
            refine V_goto dX12_readSum_34 (tgt := 39) (by decide) ?_
            exact go (-10) (by rw [opS, if_pos z1]) (by omega)
        · have z1 := of_decide_eq_false q11
          refine V_ex sX12_readSum_14 (by rfl) (by first | exact trivial | exact Or.inr rfl | exact Or.inl rfl | (simp only [ob, obA, R32, R64] at *; omega) | (simp only [ob, obA, R32, R64] at *; and_intros <;> omega)) ?_
          refine V_callV (M := MX12_readSum) (N := MX12_isMarked) dX12_readSum_17 lRX12_242 kX12_isMarked rfl (rfl) rfl (c_iMarked (d := 2) hκ i1 (by decide) (by omega)) rfl rfl (Nat.le_of_ble_eq_true rfl) (fit_rm (by omega)) (⟨Nat.le_of_ble_eq_true rfl, Nat.le_of_ble_eq_true rfl⟩) (fun v Ω' hp => ?_) (fun _ _ h => h.elim)
          obtain ⟨rfl, rfl⟩ := hp
          refine V_ifeqB dX12_readSum_20 (tgt := 57) (by decide) (fun q20 => ?_) (fun q20 => ?_)
          · refine V_vret dX12_readSum_57 rfl (by decide) ?_
            have hn : opS (tkW (tk f n 0) r.1) = none := by rw [opS, if_neg z1, if_neg (of_decide_eq_false q20)]
            rw [pLoop_no _ hn] at he
            rw [← he]; exact ⟨rfl, G1, rfl, f1, m1⟩
          · have z2 := of_decide_eq_true q20
            refine V_ex sX12_readSum_23 (by rfl) (by first | exact trivial | exact Or.inr rfl | exact Or.inl rfl | (simp only [ob, obA, R32, R64] at *; omega) | (simp only [ob, obA, R32, R64] at *; and_intros <;> omega)) ?_
            refine V_callV (M := MX12_readSum) (N := MX12_isMarked) dX12_readSum_26 lRX12_242 kX12_isMarked rfl (rfl) rfl (c_iMarked (d := 2) hκ i1 (by decide) (by omega)) rfl rfl (Nat.le_of_ble_eq_true rfl) (fit_rm (by omega)) (⟨Nat.le_of_ble_eq_true rfl, Nat.le_of_ble_eq_true rfl⟩) (fun v Ω' hp => ?_) (fun _ _ h => h.elim)
            obtain ⟨rfl, rfl⟩ := hp
            refine V_ifeqB dX12_readSum_29 (tgt := 37) (by decide) (fun q29 => ?_) (fun q29 => ?_)
            · refine V_ex sX12_readSum_37 (by rfl) (by first | exact trivial | exact Or.inr rfl | exact Or.inl rfl | (simp only [ob, obA, R32, R64] at *; omega) | (simp only [ob, obA, R32, R64] at *; and_intros <;> omega)) ?_
              exact go (-11) (by rw [opS, if_neg z1, if_pos z2]) (by omega)
            · exact absurd (of_decide_eq_true q29) z1
      · have hm1 := m1.2 hb
        have h26b : G1.1 145 26 ≠ 0 := by rw [hm1.1]; exact hb
        have hR : R32 (G1.1 145 26) := by rw [hm1.1]; unfold R32; omega
        rw [pLoop_bad _ hb] at he
        refine V_ex sX12_readSum_5 (by rfl) (by first | exact trivial | exact Or.inr rfl | exact Or.inl rfl | (simp only [ob, obA, R32, R64] at *; omega) | (simp only [ob, obA, R32, R64] at *; and_intros <;> omega)) ?_
        refine V_callV (M := MX12_readSum) (N := MX12_isMarked) dX12_readSum_8 lRX12_242 kX12_isMarked rfl (rfl) rfl (c_mIsMarked0b (d := 2) hκ h26b hR) rfl rfl (Nat.le_of_ble_eq_true rfl) (fit_rm (by omega)) (⟨Nat.le_of_ble_eq_true rfl, Nat.le_of_ble_eq_true rfl⟩) (fun v Ω' hp => ?_) (fun _ _ h => h.elim)
        obtain ⟨rfl, rfl⟩ := hp
        refine V_ifneB dX12_readSum_11 (tgt := 23) (by decide) (fun q11 => ?_) (fun q11 => ?_)
        · exact absurd q11 (by decide)
        · refine V_ex sX12_readSum_14 (by rfl) (by first | exact trivial | exact Or.inr rfl | exact Or.inl rfl | (simp only [ob, obA, R32, R64] at *; omega) | (simp only [ob, obA, R32, R64] at *; and_intros <;> omega)) ?_
          refine V_callV (M := MX12_readSum) (N := MX12_isMarked) dX12_readSum_17 lRX12_242 kX12_isMarked rfl (rfl) rfl (c_mIsMarked0b (d := 2) hκ h26b hR) rfl rfl (Nat.le_of_ble_eq_true rfl) (fit_rm (by omega)) (⟨Nat.le_of_ble_eq_true rfl, Nat.le_of_ble_eq_true rfl⟩) (fun v Ω' hp => ?_) (fun _ _ h => h.elim)
          obtain ⟨rfl, rfl⟩ := hp
          refine V_ifeqB dX12_readSum_20 (tgt := 57) (by decide) (fun q20 => ?_) (fun q20 => ?_)
          · refine V_vret dX12_readSum_57 rfl (by decide) (by rw [← he]; exact ⟨rfl, G1, rfl, f1, m1⟩)
          · exact absurd q20 (by decide)
  have hq := hPG i c (by omega)
  refine V_ex sX12_readSum_0 (by rfl) (by first | exact trivial | exact Or.inr rfl | exact Or.inl rfl | (simp only [ob, obA, R32, R64] at *; omega) | (simp only [ob, obA, R32, R64] at *; and_intros <;> omega)) ?_
  refine V_callV (M := MX12_readSum) (N := MX12_readProduct) dX12_readSum_2 lRX12_277 kX12_readProduct rfl (rfl) rfl (hsub.1 G i c h0) rfl rfl (Nat.le_of_ble_eq_true rfl) (fit_rm (by omega)) (⟨Nat.le_of_ble_eq_true rfl, Nat.le_of_ble_eq_true rfl⟩) (fun v Ω' hp => ?_) (fun _ _ h => h.elim)
  obtain ⟨rfl, G1, rfl, f1, m1⟩ := hp
  exact L 501 (p (i, 0, c)) G1 _ f1 m1 (pRes_mono hq (by omega)) (by omega) rfl
set_option maxRecDepth 100000 in
set_option maxHeartbeats 4000000 in
theorem c_mSum0 {κ : Kx} (hκ : KOK κ) {d d' n : Nat} {lv : Int} {f : Nat → Int} {p : PE → PE} (hsub : mEC κ MX12_readProduct d' lv f n p) (hd : d' + 1 ≤ d) (hd2 : 3 ≤ d) {G : Wd} (h26b : G.1 145 26 ≠ 0) (hR : R32 (G.1 145 26)) : Ct κ MX12_readSum d 0 0 [VR 145, VI lv] (Wm G) (voidG G) noX := by
  refine Ct_of hκ kX12_readSum.1 rfl (Nat.le_of_ble_eq_true rfl) (ls := [some (VR 145), some (VI lv), none]) rfl (fun μ => ?_)
  refine V_ex sX12_readSum_0 (by rfl) (by first | exact trivial | exact Or.inr rfl | exact Or.inl rfl | (simp only [ob, obA, R32, R64] at *; omega) | (simp only [ob, obA, R32, R64] at *; and_intros <;> omega)) ?_
  refine V_callV (M := MX12_readSum) (N := MX12_readProduct) dX12_readSum_2 lRX12_277 kX12_readProduct rfl (rfl) rfl (hsub.2 G h26b hR) rfl rfl (Nat.le_of_ble_eq_true rfl) (fit_rm (by omega)) (⟨Nat.le_of_ble_eq_true rfl, Nat.le_of_ble_eq_true rfl⟩) (fun v Ω' hp => ?_) (fun _ _ h => h.elim)
  obtain ⟨rfl, rfl⟩ := hp
  refine V_ex sX12_readSum_5 (by rfl) (by first | exact trivial | exact Or.inr rfl | exact Or.inl rfl | (simp only [ob, obA, R32, R64] at *; omega) | (simp only [ob, obA, R32, R64] at *; and_intros <;> omega)) ?_
  refine V_callV (M := MX12_readSum) (N := MX12_isMarked) dX12_readSum_8 lRX12_242 kX12_isMarked rfl (rfl) rfl (c_mIsMarked0b (d := 2) hκ h26b hR) rfl rfl (Nat.le_of_ble_eq_true rfl) (fit_rm (by omega)) (⟨Nat.le_of_ble_eq_true rfl, Nat.le_of_ble_eq_true rfl⟩) (fun v Ω' hp => ?_) (fun _ _ h => h.elim)
  obtain ⟨rfl, rfl⟩ := hp
  refine V_ifneB dX12_readSum_11 (tgt := 23) (by decide) (fun q11 => ?_) (fun q11 => ?_)
  · exact absurd q11 (by decide)
  · refine V_ex sX12_readSum_14 (by rfl) (by first | exact trivial | exact Or.inr rfl | exact Or.inl rfl | (simp only [ob, obA, R32, R64] at *; omega) | (simp only [ob, obA, R32, R64] at *; and_intros <;> omega)) ?_
    refine V_callV (M := MX12_readSum) (N := MX12_isMarked) dX12_readSum_17 lRX12_242 kX12_isMarked rfl (rfl) rfl (c_mIsMarked0b (d := 2) hκ h26b hR) rfl rfl (Nat.le_of_ble_eq_true rfl) (fit_rm (by omega)) (⟨Nat.le_of_ble_eq_true rfl, Nat.le_of_ble_eq_true rfl⟩) (fun v Ω' hp => ?_) (fun _ _ h => h.elim)
    obtain ⟨rfl, rfl⟩ := hp
    refine V_ifeqB dX12_readSum_20 (tgt := 57) (by decide) (fun q20 => ?_) (fun q20 => ?_)
    · refine V_vret dX12_readSum_57 rfl (by decide) ⟨rfl, rfl⟩
    · exact absurd q20 (by decide)
