/-! THE LAW: calls, by program -/
set_option maxRecDepth 100000 in
set_option maxHeartbeats 4000000 in
theorem lw_between {κ : Kx} (hκ : KOK κ) (hB : HB κ) (hKS : KS κ) {μ : Mu} {c t s0 i : Nat} {K : Int} {A : Ab} {G : Wd} {x5 x6 x7 : Option Vl} (hC : RC G s0 A) (hM : RM G A) (hI : Inv K A) (hR : aR G) (hi : i + 7 ≤ κ.2.2.2.2.1) (hL : κ.2.2.2.2.1 ≤ 3584) (hc : c ≤ 500000) (ht : t ≤ 7000000) (go : LG κ μ c t K (i : Nat)) : LV κ μ c t G 2611 [some (VR 1000000), some (VR 1), some (VR 145), some (VR 189), some (VI (i : Nat)), x5, x6, x7] [] := by
  refine V_ex sL_law_2611 (by rfl) (by exact trivial) ?_
  refine V_sld (i + 1) dL_law_2617 (by omega) (by omega) hL ?_
  refine V_ex sL_law_2618 (by rfl) (by exact scv_R _ _) ?_
  refine V_sld (i + 2) dL_law_2627 (by omega) (by omega) hL ?_
  refine V_ex sL_law_2628 (by rfl) (by exact scv_R _ _) ?_
  refine V_sld (i + 3) dL_law_2639 (by omega) (by omega) hL ?_
  refine V_ex sL_law_2640 (by rfl) (by exact scv_R _ _) ?_
  refine V_sld (i + 4) dL_law_2649 (by omega) (by omega) hL ?_
  refine V_ex sL_law_2650 (by rfl) (by exact scv_R _ _) ?_
  refine V_sld (i + 5) dL_law_2661 (by omega) (by omega) hL ?_
  refine V_ex sL_law_2662 (by rfl) (by exact trivial) ?_
  have h1 := c_wBetween (κ := κ) (d := 90) hκ hB hC hI hR (lgv_R κ (i + 1) (i + 2)) (lgv_R κ (i + 3) (i + 4)) (scv_R κ (i + 5)) (by decide)
  refine V_callSH (M := ML_law) (N := ML_between) dL_law_2663 lRL_254 kL_between (by decide) h1 rfl rfl (Nat.le_of_ble_eq_true rfl) fit_law ⟨by show _ ≤ 601024; omega, by show _ ≤ 7293034; omega⟩ (fun v Ω' hp => ?_) (fun _ _ h => h.elim)
  obtain ⟨rfl, hcd, G1, s1, rfl, hC1, hf1, hv1⟩ := hp
  have hM1 := RM_W hM hf1
  refine V_ex sL_law_2666 (by rfl) (by exact trivial) ?_
  refine V_sld (i + 1) dL_law_2674 (by omega) (by omega) hL ?_
  refine V_ex sL_law_2675 (by rfl) (by exact scv_R _ _) ?_
  refine V_sld (i + 2) dL_law_2684 (by omega) (by omega) hL ?_
  refine V_ex sL_law_2685 (by rfl) (by exact scv_R _ _) ?_
  refine V_sld (i + 3) dL_law_2696 (by omega) (by omega) hL ?_
  refine V_ex sL_law_2697 (by rfl) (by exact scv_R _ _) ?_
  refine V_sld (i + 4) dL_law_2706 (by omega) (by omega) hL ?_
  refine V_ex sL_law_2707 (by rfl) (by exact scv_R _ _) ?_
  refine V_sld (i + 5) dL_law_2718 (by omega) (by omega) hL ?_
  have h2 := c_mxBetween (κ := κ) (d := 90) hκ hM1 (lgv_R κ (i + 1) (i + 2)) (lgv_R κ (i + 3) (i + 4)) (scv_R κ (i + 5)) (by decide)
  refine V_callV (M := ML_law) (N := MX12_between) dL_law_2719 lRL_257 kX12_between rfl rfl rfl h2 rfl rfl (Nat.le_of_ble_eq_true rfl) fit_law ⟨by show _ ≤ 601024; omega, by show _ ≤ 7293034; omega⟩ (fun v Ω' hp => ?_) (fun _ _ h => h.elim)
  obtain ⟨rfl, G2, rfl, hM2, hf2, hc2⟩ := hp
  have hI2 : Inv (K + 1) (A) := Inv_mono hI (by omega)
  have hC2 := RC_M hC1 hI2 hf2
  refine V_w64 ?_
  refine V_ex sL_law_2722 (by rfl) (by exact trivial) ?_
  refine V_callV (M := ML_law) (N := MX12_thrown) dL_law_2725 lRL_148 kX12_thrown rfl rfl rfl (c_mThrown (d := 90) hκ) rfl rfl (Nat.le_of_ble_eq_true rfl) fit_law ⟨by show _ ≤ 601024; omega, by show _ ≤ 7293034; omega⟩ (fun v Ω' hp => ?_) (fun _ _ h => h.elim)
  obtain ⟨rfl, rfl⟩ := hp
  rw [hc2]
  refine V_ex sL_law_2728 (by rfl) (by exact trivial) ?_
  refine V_icmpeq dL_law_2730 (tgt := 2735) (by decide) ⟨cd_R hcd, cd_R hcd⟩ (fun q => ?_) (fun q => ?_)
  rotate_left
  · exact absurd rfl q
  refine V_ex sL_law_2735 (by rfl) (by exact trivial) ?_
  refine V_ifne dL_law_2737 (tgt := 2751) (by decide) (cd_R hcd) (fun q => ?_) (fun q => ?_)
  · refine V_goto dL_law_2751 (tgt := 3271) (by decide) ?_
    exact go G2 s1 (A) _ _ _ _ _ hC2 hM2 hI2 (by omega) (by omega)
  have e9 : G2.2.1 189 0 = w64 (betweenP (lgv κ (i + 1) (i + 2)) (lgv κ (i + 3) (i + 4)) (scv κ (i + 5))).2 := (congrFun (hf2.2.1 189 (Or.inr rfl)) 0).trans (hv1 q)
  refine V_ex sL_law_2740 (by simp only [Option.toList, List.cons_append, List.nil_append, exN, ex1, gI, gL, gR, pI, pL, pR, lget, lset1, lset2, kl, b2I, b2L, nob, ob32, ob64, xGet, xPut, xLen, xLd, xLdR, xSt, obA, true_and, and_true, and_self, eq_self, Nat.reduceEqDiff, Nat.zero_ne_one, reduceIte, Nat.reduceLeDiff, and_false, false_and, show LF.1 189 = some (.inr (1, 1)) from rfl, upd2_eq, Int.reduceToNat, Int.toNat_natCast, e9]; rfl) (by exact ⟨⟨by decide, by decide⟩, w64_R _⟩) ?_
  refine V_lifeq dL_law_2746 (tgt := 2751) (by decide) (fun q => ?_) (fun q => ?_)
  rotate_left
  · exact absurd rfl q
  refine V_goto dL_law_2751 (tgt := 3271) (by decide) ?_
  exact go G2 s1 (A) _ _ _ _ _ hC2 hM2 hI2 (by omega) (by omega)
set_option maxRecDepth 100000 in
set_option maxHeartbeats 4000000 in
theorem lw_stick {κ : Kx} (hκ : KOK κ) (hB : HB κ) (hKS : KS κ) {μ : Mu} {c t s0 i : Nat} {K : Int} {A : Ab} {G : Wd} {x5 x6 x7 : Option Vl} (hC : RC G s0 A) (hM : RM G A) (hI : Inv K A) (hR : aR G) (hi : i + 7 ≤ κ.2.2.2.2.1) (hL : κ.2.2.2.2.1 ≤ 3584) (hc : c ≤ 500000) (ht : t ≤ 7000000) (go : LG κ μ c t K (i : Nat)) : LV κ μ c t G 2754 [some (VR 1000000), some (VR 1), some (VR 145), some (VR 189), some (VI (i : Nat)), x5, x6, x7] [] := by
  refine V_ex sL_law_2754 (by rfl) (by exact trivial) ?_
  refine V_sld (i + 1) dL_law_2760 (by omega) (by omega) hL ?_
  refine V_ex sL_law_2761 (by rfl) (by exact trivial) ?_
  refine V_sld (i + 2) dL_law_2766 (by omega) (by omega) hL ?_
  refine V_ex sL_law_2767 (by rfl) (by exact trivial) ?_
  have h1 := c_wStick (κ := κ) (d := 90) hκ hB hC hI hR (scv_R κ (i + 1)) (scv_R κ (i + 2)) (by decide)
  refine V_callSH (M := ML_law) (N := ML_stick) dL_law_2768 lRL_258 kL_stick (by decide) h1 rfl rfl (Nat.le_of_ble_eq_true rfl) fit_law ⟨by show _ ≤ 601024; omega, by show _ ≤ 7293034; omega⟩ (fun v Ω' hp => ?_) (fun _ _ h => h.elim)
  obtain ⟨rfl, hcd, G1, s1, rfl, hC1, hf1, hv1⟩ := hp
  have hM1 := RM_W hM hf1
  refine V_ex sL_law_2771 (by rfl) (by exact trivial) ?_
  refine V_sld (i + 1) dL_law_2779 (by omega) (by omega) hL ?_
  refine V_ex sL_law_2780 (by rfl) (by exact trivial) ?_
  refine V_sld (i + 2) dL_law_2785 (by omega) (by omega) hL ?_
  have h2 := c_mxStick (κ := κ) (d := 90) hκ hM1 hI (scv_R κ (i + 1)) (scv_R κ (i + 2)) (by decide)
  refine V_callV (M := ML_law) (N := MX12_stick) dL_law_2786 lRL_260 kX12_stick rfl rfl rfl h2 rfl rfl (Nat.le_of_ble_eq_true rfl) fit_law ⟨by show _ ≤ 601024; omega, by show _ ≤ 7293034; omega⟩ (fun v Ω' hp => ?_) (fun _ _ h => h.elim)
  obtain ⟨rfl, G2, rfl, hM2, hf2, hc2⟩ := hp
  have hI2 : Inv (K + 1) ((stickP A (scv κ (i + 1)) (scv κ (i + 2))).2.2) := Inv_stick hI
  have hC2 := RC_M hC1 hI2 hf2
  refine V_w32 ?_
  refine V_ex sL_law_2789 (by rfl) (by exact trivial) ?_
  refine V_callV (M := ML_law) (N := MX12_thrown) dL_law_2792 lRL_148 kX12_thrown rfl rfl rfl (c_mThrown (d := 90) hκ) rfl rfl (Nat.le_of_ble_eq_true rfl) fit_law ⟨by show _ ≤ 601024; omega, by show _ ≤ 7293034; omega⟩ (fun v Ω' hp => ?_) (fun _ _ h => h.elim)
  obtain ⟨rfl, rfl⟩ := hp
  rw [hc2]
  refine V_ex sL_law_2795 (by rfl) (by exact trivial) ?_
  refine V_icmpeq dL_law_2797 (tgt := 2802) (by decide) ⟨cd_R hcd, cd_R hcd⟩ (fun q => ?_) (fun q => ?_)
  rotate_left
  · exact absurd rfl q
  refine V_ex sL_law_2802 (by rfl) (by exact trivial) ?_
  refine V_ifne dL_law_2804 (tgt := 2819) (by decide) (cd_R hcd) (fun q => ?_) (fun q => ?_)
  · refine V_goto dL_law_2819 (tgt := 3271) (by decide) ?_
    exact go G2 s1 ((stickP A (scv κ (i + 1)) (scv κ (i + 2))).2.2) _ _ _ _ _ hC2 hM2 hI2 (by omega) (by omega)
  have e9 : G2.2.1 189 0 = w32 (stickP A (scv κ (i + 1)) (scv κ (i + 2))).2.1 := (congrFun (hf2.2.1 189 (Or.inr rfl)) 0).trans (hv1 q)
  refine V_ex sL_law_2807 (by simp only [Option.toList, List.cons_append, List.nil_append, exN, ex1, gI, gL, gR, pI, pL, pR, lget, lset1, lset2, kl, b2I, b2L, nob, ob32, ob64, xGet, xPut, xLen, xLd, xLdR, xSt, obA, true_and, and_true, and_self, eq_self, Nat.reduceEqDiff, Nat.zero_ne_one, reduceIte, Nat.reduceLeDiff, and_false, false_and, show LF.1 189 = some (.inr (1, 1)) from rfl, upd2_eq, Int.reduceToNat, Int.toNat_natCast, e9]; rfl) (by exact ⟨⟨by decide, by decide⟩, w32_R _, r64w _⟩) ?_
  refine V_lifeq dL_law_2814 (tgt := 2819) (by decide) (fun q => ?_) (fun q => ?_)
  rotate_left
  · exact absurd rfl q
  refine V_goto dL_law_2819 (tgt := 3271) (by decide) ?_
  exact go G2 s1 ((stickP A (scv κ (i + 1)) (scv κ (i + 2))).2.2) _ _ _ _ _ hC2 hM2 hI2 (by omega) (by omega)
set_option maxRecDepth 100000 in
set_option maxHeartbeats 4000000 in
theorem lw_loosen {κ : Kx} (hκ : KOK κ) (hB : HB κ) (hKS : KS κ) {μ : Mu} {c t s0 i : Nat} {K : Int} {A : Ab} {G : Wd} {x5 x6 x7 : Option Vl} (hC : RC G s0 A) (hM : RM G A) (hI : Inv K A) (hR : aR G) (hi : i + 7 ≤ κ.2.2.2.2.1) (hL : κ.2.2.2.2.1 ≤ 3584) (hc : c ≤ 500000) (ht : t ≤ 7000000) (go : LG κ μ c t K (i : Nat)) : LV κ μ c t G 2822 [some (VR 1000000), some (VR 1), some (VR 145), some (VR 189), some (VI (i : Nat)), x5, x6, x7] [] := by
  refine V_ex sL_law_2822 (by rfl) (by exact trivial) ?_
  have h1 := c_xLoosen (κ := κ) (d := 90) hκ hC hI hR  (by decide)
  refine V_callV (M := ML_law) (N := MX11_loosen) dL_law_2823 lRL_261 kX11_loosen rfl rfl rfl h1 rfl rfl (Nat.le_of_ble_eq_true rfl) fit_law ⟨by show _ ≤ 601024; omega, by show _ ≤ 7293034; omega⟩ (fun v Ω' hp => ?_) (fun _ _ h => h.elim)
  obtain ⟨-, rfl, G1, s1, rfl, hC1, hf1⟩ := hp
  have hM1 := RM_W hM hf1.c
  refine V_w32 ?_
  refine V_ex sL_law_2826 (by rfl) (by exact trivial) ?_
  have h2 := c_mxLoosen (κ := κ) (d := 90) hκ hM1 hI  (by decide)
  refine V_callV (M := ML_law) (N := MX12_loosen) dL_law_2827 lRL_264 kX12_loosen rfl rfl rfl h2 rfl rfl (Nat.le_of_ble_eq_true rfl) fit_law ⟨by show _ ≤ 601024; omega, by show _ ≤ 7293034; omega⟩ (fun v Ω' hp => ?_) (fun _ _ h => h.elim)
  obtain ⟨rfl, G2, rfl, hM2, hf2, hc2⟩ := hp
  have hI2 : Inv (K + 1) ((loosenP A).2.2) := Inv_mono (Inv_loosen hI) (by omega)
  have hC2 := RC_M hC1 hI2 hf2
  refine V_w32 ?_
  refine V_icmpeq dL_law_2830 (tgt := 3271) (by decide) ⟨w32_R _, w32_R _⟩ (fun q => ?_) (fun q => ?_)
  rotate_left
  · exact absurd rfl q
  exact go G2 s1 ((loosenP A).2.2) _ _ _ _ _ hC2 hM2 hI2 (by omega) (by omega)
set_option maxRecDepth 100000 in
set_option maxHeartbeats 4000000 in
theorem lw_read {κ : Kx} (hκ : KOK κ) (hB : HB κ) (hKS : KS κ) {μ : Mu} {c t s0 i : Nat} {K : Int} {A : Ab} {G : Wd} {x5 x6 x7 : Option Vl} (hC : RC G s0 A) (hM : RM G A) (hI : Inv K A) (hR : aR G) (hi : i + 7 ≤ κ.2.2.2.2.1) (hL : κ.2.2.2.2.1 ≤ 3584) (hc : c ≤ 500000) (ht : t ≤ 7000000) (go : LG κ μ c t K (i : Nat)) : LV κ μ c t G 2835 [some (VR 1000000), some (VR 1), some (VR 145), some (VR 189), some (VI (i : Nat)), x5, x6, x7] [] := by
  by_cases hb : scv κ (i + 6) = 0
  · refine V_ex sL_law_2835 (by rfl) (by exact trivial) ?_
    refine V_sld (i + 1) dL_law_2841 (by omega) (by omega) hL ?_
    refine V_ex sL_law_2842 (by rfl) (by exact trivial) ?_
    refine V_sld (i + 2) dL_law_2847 (by omega) (by omega) hL ?_
    refine V_ex sL_law_2848 (by rfl) (by exact trivial) ?_
    refine V_sld (i + 3) dL_law_2853 (by omega) (by omega) hL ?_
    refine V_ex sL_law_2854 (by rfl) (by exact trivial) ?_
    refine V_sld (i + 4) dL_law_2859 (by omega) (by omega) hL ?_
    refine V_ex sL_law_2860 (by rfl) (by exact trivial) ?_
    refine V_sld (i + 5) dL_law_2865 (by omega) (by omega) hL ?_
    refine V_ex sL_law_2866 (by rfl) (by exact trivial) ?_
    refine V_sld (i + 6) dL_law_2872 (by omega) (by omega) hL ?_
    refine V_ifeq dL_law_2873 (tgt := 2880) (by decide) (scv_R _ _) (fun q => ?_) (fun q => ?_)
    rotate_left
    · exact absurd hb q
    refine V_ex sL_law_2880 (by rfl) (by exact trivial) ?_
    refine V_ex sL_law_2881 (by rfl) (by exact trivial) ?_
    have h1 := c_wRead (κ := κ) (d := 90) (many := false) hκ hB hC hI hR (scv_R κ (i + 1)) (scv_R κ (i + 2)) (scv_R κ (i + 3)) (scv_R κ (i + 4)) (scv_R κ (i + 5)) (by decide)
    refine V_callSH (M := ML_law) (N := ML_read) dL_law_2882 lRL_265 kL_read (by decide) h1 rfl rfl (Nat.le_of_ble_eq_true rfl) fit_law ⟨by show _ ≤ 601024; omega, by show _ ≤ 7293034; omega⟩ (fun v Ω' hp => ?_) (fun _ _ h => h.elim)
    obtain ⟨rfl, hcd, G1, s1, rfl, hC1, hf1, hv1⟩ := hp
    have hM1 := RM_W hM hf1
    refine V_ex sL_law_2885 (by rfl) (by exact trivial) ?_
    refine V_sld (i + 1) dL_law_2893 (by omega) (by omega) hL ?_
    refine V_ex sL_law_2894 (by rfl) (by exact trivial) ?_
    refine V_sld (i + 2) dL_law_2899 (by omega) (by omega) hL ?_
    refine V_ex sL_law_2900 (by rfl) (by exact trivial) ?_
    refine V_sld (i + 3) dL_law_2905 (by omega) (by omega) hL ?_
    refine V_ex sL_law_2906 (by rfl) (by exact trivial) ?_
    refine V_sld (i + 4) dL_law_2911 (by omega) (by omega) hL ?_
    refine V_ex sL_law_2912 (by rfl) (by exact trivial) ?_
    refine V_sld (i + 5) dL_law_2917 (by omega) (by omega) hL ?_
    refine V_ex sL_law_2918 (by rfl) (by exact trivial) ?_
    refine V_sld (i + 6) dL_law_2924 (by omega) (by omega) hL ?_
    refine V_ifeq dL_law_2925 (tgt := 2932) (by decide) (scv_R _ _) (fun q => ?_) (fun q => ?_)
    rotate_left
    · exact absurd hb q
    refine V_ex sL_law_2932 (by rfl) (by exact trivial) ?_
    have h2 := c_mxRead (κ := κ) (d := 90) (many := false) hκ hM1 hI (scv_R κ (i + 1)) (scv_R κ (i + 2)) (scv_R κ (i + 3)) (scv_R κ (i + 4)) (scv_R κ (i + 5)) (by decide)
    refine V_callV (M := ML_law) (N := MX12_read) dL_law_2933 lRL_268 kX12_read rfl rfl rfl h2 rfl rfl (Nat.le_of_ble_eq_true rfl) fit_law ⟨by show _ ≤ 601024; omega, by show _ ≤ 7293034; omega⟩ (fun v Ω' hp => ?_) (fun _ _ h => h.elim)
    obtain ⟨rfl, G2, rfl, hM2, hf2, hc2⟩ := hp
    have hI2 : Inv (K + 1) (A) := Inv_mono hI (by omega)
    have hC2 := RC_M hC1 hI2 hf2
    refine V_w64 ?_
    refine V_ex sL_law_2936 (by rfl) (by exact trivial) ?_
    refine V_callV (M := ML_law) (N := MX12_thrown) dL_law_2939 lRL_148 kX12_thrown rfl rfl rfl (c_mThrown (d := 90) hκ) rfl rfl (Nat.le_of_ble_eq_true rfl) fit_law ⟨by show _ ≤ 601024; omega, by show _ ≤ 7293034; omega⟩ (fun v Ω' hp => ?_) (fun _ _ h => h.elim)
    obtain ⟨rfl, rfl⟩ := hp
    rw [hc2]
    refine V_ex sL_law_2942 (by rfl) (by exact trivial) ?_
    refine V_icmpeq dL_law_2944 (tgt := 2949) (by decide) ⟨cd_R hcd, cd_R hcd⟩ (fun q => ?_) (fun q => ?_)
    rotate_left
    · exact absurd rfl q
    refine V_ex sL_law_2949 (by rfl) (by exact trivial) ?_
    refine V_ifne dL_law_2951 (tgt := 2965) (by decide) (cd_R hcd) (fun q => ?_) (fun q => ?_)
    · refine V_goto dL_law_2965 (tgt := 3271) (by decide) ?_
      exact go G2 s1 (A) _ _ _ _ _ hC2 hM2 hI2 (by omega) (by omega)
    have e9 : G2.2.1 189 0 = w64 (readP A (scv κ (i + 1)) (scv κ (i + 2)) (scv κ (i + 3)) (scv κ (i + 4)) (scv κ (i + 5)) false).2 := (congrFun (hf2.2.1 189 (Or.inr rfl)) 0).trans (hv1 q)
    refine V_ex sL_law_2954 (by simp only [Option.toList, List.cons_append, List.nil_append, exN, ex1, gI, gL, gR, pI, pL, pR, lget, lset1, lset2, kl, b2I, b2L, nob, ob32, ob64, xGet, xPut, xLen, xLd, xLdR, xSt, obA, true_and, and_true, and_self, eq_self, Nat.reduceEqDiff, Nat.zero_ne_one, reduceIte, Nat.reduceLeDiff, and_false, false_and, show LF.1 189 = some (.inr (1, 1)) from rfl, upd2_eq, Int.reduceToNat, Int.toNat_natCast, e9]; rfl) (by exact ⟨⟨by decide, by decide⟩, w64_R _⟩) ?_
    refine V_lifeq dL_law_2960 (tgt := 2965) (by decide) (fun q => ?_) (fun q => ?_)
    rotate_left
    · exact absurd rfl q
    refine V_goto dL_law_2965 (tgt := 3271) (by decide) ?_
    exact go G2 s1 (A) _ _ _ _ _ hC2 hM2 hI2 (by omega) (by omega)
  · refine V_ex sL_law_2835 (by rfl) (by exact trivial) ?_
    refine V_sld (i + 1) dL_law_2841 (by omega) (by omega) hL ?_
    refine V_ex sL_law_2842 (by rfl) (by exact trivial) ?_
    refine V_sld (i + 2) dL_law_2847 (by omega) (by omega) hL ?_
    refine V_ex sL_law_2848 (by rfl) (by exact trivial) ?_
    refine V_sld (i + 3) dL_law_2853 (by omega) (by omega) hL ?_
    refine V_ex sL_law_2854 (by rfl) (by exact trivial) ?_
    refine V_sld (i + 4) dL_law_2859 (by omega) (by omega) hL ?_
    refine V_ex sL_law_2860 (by rfl) (by exact trivial) ?_
    refine V_sld (i + 5) dL_law_2865 (by omega) (by omega) hL ?_
    refine V_ex sL_law_2866 (by rfl) (by exact trivial) ?_
    refine V_sld (i + 6) dL_law_2872 (by omega) (by omega) hL ?_
    refine V_ifeq dL_law_2873 (tgt := 2880) (by decide) (scv_R _ _) (fun q => ?_) (fun q => ?_)
    · exact absurd q hb
    refine V_ex sL_law_2876 (by rfl) (by exact trivial) ?_
    refine V_goto dL_law_2877 (tgt := 2881) (by decide) ?_
    refine V_ex sL_law_2881 (by rfl) (by exact trivial) ?_
    have h1 := c_wRead (κ := κ) (d := 90) (many := true) hκ hB hC hI hR (scv_R κ (i + 1)) (scv_R κ (i + 2)) (scv_R κ (i + 3)) (scv_R κ (i + 4)) (scv_R κ (i + 5)) (by decide)
    refine V_callSH (M := ML_law) (N := ML_read) dL_law_2882 lRL_265 kL_read (by decide) h1 rfl rfl (Nat.le_of_ble_eq_true rfl) fit_law ⟨by show _ ≤ 601024; omega, by show _ ≤ 7293034; omega⟩ (fun v Ω' hp => ?_) (fun _ _ h => h.elim)
    obtain ⟨rfl, hcd, G1, s1, rfl, hC1, hf1, hv1⟩ := hp
    have hM1 := RM_W hM hf1
    refine V_ex sL_law_2885 (by rfl) (by exact trivial) ?_
    refine V_sld (i + 1) dL_law_2893 (by omega) (by omega) hL ?_
    refine V_ex sL_law_2894 (by rfl) (by exact trivial) ?_
    refine V_sld (i + 2) dL_law_2899 (by omega) (by omega) hL ?_
    refine V_ex sL_law_2900 (by rfl) (by exact trivial) ?_
    refine V_sld (i + 3) dL_law_2905 (by omega) (by omega) hL ?_
    refine V_ex sL_law_2906 (by rfl) (by exact trivial) ?_
    refine V_sld (i + 4) dL_law_2911 (by omega) (by omega) hL ?_
    refine V_ex sL_law_2912 (by rfl) (by exact trivial) ?_
    refine V_sld (i + 5) dL_law_2917 (by omega) (by omega) hL ?_
    refine V_ex sL_law_2918 (by rfl) (by exact trivial) ?_
    refine V_sld (i + 6) dL_law_2924 (by omega) (by omega) hL ?_
    refine V_ifeq dL_law_2925 (tgt := 2932) (by decide) (scv_R _ _) (fun q => ?_) (fun q => ?_)
    · exact absurd q hb
    refine V_ex sL_law_2928 (by rfl) (by exact trivial) ?_
    refine V_goto dL_law_2929 (tgt := 2933) (by decide) ?_
    have h2 := c_mxRead (κ := κ) (d := 90) (many := true) hκ hM1 hI (scv_R κ (i + 1)) (scv_R κ (i + 2)) (scv_R κ (i + 3)) (scv_R κ (i + 4)) (scv_R κ (i + 5)) (by decide)
    refine V_callV (M := ML_law) (N := MX12_read) dL_law_2933 lRL_268 kX12_read rfl rfl rfl h2 rfl rfl (Nat.le_of_ble_eq_true rfl) fit_law ⟨by show _ ≤ 601024; omega, by show _ ≤ 7293034; omega⟩ (fun v Ω' hp => ?_) (fun _ _ h => h.elim)
    obtain ⟨rfl, G2, rfl, hM2, hf2, hc2⟩ := hp
    have hI2 : Inv (K + 1) (A) := Inv_mono hI (by omega)
    have hC2 := RC_M hC1 hI2 hf2
    refine V_w64 ?_
    refine V_ex sL_law_2936 (by rfl) (by exact trivial) ?_
    refine V_callV (M := ML_law) (N := MX12_thrown) dL_law_2939 lRL_148 kX12_thrown rfl rfl rfl (c_mThrown (d := 90) hκ) rfl rfl (Nat.le_of_ble_eq_true rfl) fit_law ⟨by show _ ≤ 601024; omega, by show _ ≤ 7293034; omega⟩ (fun v Ω' hp => ?_) (fun _ _ h => h.elim)
    obtain ⟨rfl, rfl⟩ := hp
    rw [hc2]
    refine V_ex sL_law_2942 (by rfl) (by exact trivial) ?_
    refine V_icmpeq dL_law_2944 (tgt := 2949) (by decide) ⟨cd_R hcd, cd_R hcd⟩ (fun q => ?_) (fun q => ?_)
    rotate_left
    · exact absurd rfl q
    refine V_ex sL_law_2949 (by rfl) (by exact trivial) ?_
    refine V_ifne dL_law_2951 (tgt := 2965) (by decide) (cd_R hcd) (fun q => ?_) (fun q => ?_)
    · refine V_goto dL_law_2965 (tgt := 3271) (by decide) ?_
      exact go G2 s1 (A) _ _ _ _ _ hC2 hM2 hI2 (by omega) (by omega)
    have e9 : G2.2.1 189 0 = w64 (readP A (scv κ (i + 1)) (scv κ (i + 2)) (scv κ (i + 3)) (scv κ (i + 4)) (scv κ (i + 5)) true).2 := (congrFun (hf2.2.1 189 (Or.inr rfl)) 0).trans (hv1 q)
    refine V_ex sL_law_2954 (by simp only [Option.toList, List.cons_append, List.nil_append, exN, ex1, gI, gL, gR, pI, pL, pR, lget, lset1, lset2, kl, b2I, b2L, nob, ob32, ob64, xGet, xPut, xLen, xLd, xLdR, xSt, obA, true_and, and_true, and_self, eq_self, Nat.reduceEqDiff, Nat.zero_ne_one, reduceIte, Nat.reduceLeDiff, and_false, false_and, show LF.1 189 = some (.inr (1, 1)) from rfl, upd2_eq, Int.reduceToNat, Int.toNat_natCast, e9]; rfl) (by exact ⟨⟨by decide, by decide⟩, w64_R _⟩) ?_
    refine V_lifeq dL_law_2960 (tgt := 2965) (by decide) (fun q => ?_) (fun q => ?_)
    rotate_left
    · exact absurd rfl q
    refine V_goto dL_law_2965 (tgt := 3271) (by decide) ?_
    exact go G2 s1 (A) _ _ _ _ _ hC2 hM2 hI2 (by omega) (by omega)
set_option maxRecDepth 100000 in
set_option maxHeartbeats 4000000 in
theorem lw_shares {κ : Kx} (hκ : KOK κ) (hB : HB κ) (hKS : KS κ) {μ : Mu} {c t s0 i : Nat} {K : Int} {A : Ab} {G : Wd} {x5 x6 x7 : Option Vl} (hC : RC G s0 A) (hM : RM G A) (hI : Inv K A) (hR : aR G) (hi : i + 7 ≤ κ.2.2.2.2.1) (hL : κ.2.2.2.2.1 ≤ 3584) (hc : c ≤ 500000) (ht : t ≤ 7000000) (go : LG κ μ c t K (i : Nat)) : LV κ μ c t G 2968 [some (VR 1000000), some (VR 1), some (VR 145), some (VR 189), some (VI (i : Nat)), x5, x6, x7] [] := by
  refine V_ex sL_law_2968 (by rfl) (by exact trivial) ?_
  refine V_sld (i + 1) dL_law_2974 (by omega) (by omega) hL ?_
  refine V_ex sL_law_2975 (by rfl) (by exact trivial) ?_
  refine V_sld (i + 2) dL_law_2980 (by omega) (by omega) hL ?_
  refine V_ex sL_law_2981 (by rfl) (by exact trivial) ?_
  have h1 := c_wShares (κ := κ) (d := 90) hκ hB hC hI hR (scv_R κ (i + 1)) (scv_R κ (i + 2)) (by decide)
  refine V_callSH (M := ML_law) (N := ML_shares) dL_law_2982 lRL_269 kL_shares (by decide) h1 rfl rfl (Nat.le_of_ble_eq_true rfl) fit_law ⟨by show _ ≤ 601024; omega, by show _ ≤ 7293034; omega⟩ (fun v Ω' hp => ?_) (fun _ _ h => h.elim)
  obtain ⟨rfl, hcd, G1, s1, rfl, hC1, hf1, hv1⟩ := hp
  have hM1 := RM_W hM hf1
  refine V_ex sL_law_2985 (by rfl) (by exact trivial) ?_
  refine V_sld (i + 1) dL_law_2993 (by omega) (by omega) hL ?_
  refine V_ex sL_law_2994 (by rfl) (by exact trivial) ?_
  refine V_sld (i + 2) dL_law_2999 (by omega) (by omega) hL ?_
  have h2 := c_mxShares (κ := κ) (d := 90) hκ hM1 hI (scv_R κ (i + 1)) (scv_R κ (i + 2)) (by decide)
  refine V_callV (M := ML_law) (N := MX12_shares) dL_law_3000 lRL_271 kX12_shares rfl rfl rfl h2 rfl rfl (Nat.le_of_ble_eq_true rfl) fit_law ⟨by show _ ≤ 601024; omega, by show _ ≤ 7293034; omega⟩ (fun v Ω' hp => ?_) (fun _ _ h => h.elim)
  obtain ⟨rfl, G2, rfl, hM2, hf2, hc2⟩ := hp
  have hI2 : Inv (K + 1) ((sharesP A (scv κ (i + 1)) (scv κ (i + 2))).2.2) := Inv_mono (Inv_shares hI) (by omega)
  have hC2 := RC_M hC1 hI2 hf2
  refine V_w64 ?_
  refine V_ex sL_law_3003 (by rfl) (by exact trivial) ?_
  refine V_callV (M := ML_law) (N := MX12_thrown) dL_law_3006 lRL_148 kX12_thrown rfl rfl rfl (c_mThrown (d := 90) hκ) rfl rfl (Nat.le_of_ble_eq_true rfl) fit_law ⟨by show _ ≤ 601024; omega, by show _ ≤ 7293034; omega⟩ (fun v Ω' hp => ?_) (fun _ _ h => h.elim)
  obtain ⟨rfl, rfl⟩ := hp
  rw [hc2]
  refine V_ex sL_law_3009 (by rfl) (by exact trivial) ?_
  refine V_icmpeq dL_law_3011 (tgt := 3016) (by decide) ⟨cd_R hcd, cd_R hcd⟩ (fun q => ?_) (fun q => ?_)
  rotate_left
  · exact absurd rfl q
  refine V_ex sL_law_3016 (by rfl) (by exact trivial) ?_
  refine V_ifne dL_law_3018 (tgt := 3032) (by decide) (cd_R hcd) (fun q => ?_) (fun q => ?_)
  · refine V_goto dL_law_3032 (tgt := 3271) (by decide) ?_
    exact go G2 s1 ((sharesP A (scv κ (i + 1)) (scv κ (i + 2))).2.2) _ _ _ _ _ hC2 hM2 hI2 (by omega) (by omega)
  have e9 : G2.2.1 189 0 = w64 (sharesP A (scv κ (i + 1)) (scv κ (i + 2))).2.1 := (congrFun (hf2.2.1 189 (Or.inr rfl)) 0).trans (hv1 q)
  refine V_ex sL_law_3021 (by simp only [Option.toList, List.cons_append, List.nil_append, exN, ex1, gI, gL, gR, pI, pL, pR, lget, lset1, lset2, kl, b2I, b2L, nob, ob32, ob64, xGet, xPut, xLen, xLd, xLdR, xSt, obA, true_and, and_true, and_self, eq_self, Nat.reduceEqDiff, Nat.zero_ne_one, reduceIte, Nat.reduceLeDiff, and_false, false_and, show LF.1 189 = some (.inr (1, 1)) from rfl, upd2_eq, Int.reduceToNat, Int.toNat_natCast, e9]; rfl) (by exact ⟨⟨by decide, by decide⟩, w64_R _⟩) ?_
  refine V_lifeq dL_law_3027 (tgt := 3032) (by decide) (fun q => ?_) (fun q => ?_)
  rotate_left
  · exact absurd rfl q
  refine V_goto dL_law_3032 (tgt := 3271) (by decide) ?_
  exact go G2 s1 ((sharesP A (scv κ (i + 1)) (scv κ (i + 2))).2.2) _ _ _ _ _ hC2 hM2 hI2 (by omega) (by omega)
set_option maxRecDepth 100000 in
set_option maxHeartbeats 4000000 in
theorem lw_child {κ : Kx} (hκ : KOK κ) (hB : HB κ) (hKS : KS κ) {μ : Mu} {c t s0 i : Nat} {K : Int} {A : Ab} {G : Wd} {x5 x6 x7 : Option Vl} (hC : RC G s0 A) (hM : RM G A) (hI : Inv K A) (hR : aR G) (hi : i + 7 ≤ κ.2.2.2.2.1) (hL : κ.2.2.2.2.1 ≤ 3584) (hc : c ≤ 500000) (ht : t ≤ 7000000) (go : LG κ μ c t K (i : Nat)) : LV κ μ c t G 3035 [some (VR 1000000), some (VR 1), some (VR 145), some (VR 189), some (VI (i : Nat)), x5, x6, x7] [] := by
  refine V_ex sL_law_3035 (by rfl) (by exact trivial) ?_
  refine V_sld (i + 1) dL_law_3041 (by omega) (by omega) hL ?_
  refine V_ex sL_law_3042 (by rfl) (by exact trivial) ?_
  have h1 := c_wChild (κ := κ) (d := 90) hκ hB hC hI hR (scv_R κ (i + 1)) (by decide)
  refine V_callSH (M := ML_law) (N := ML_child) dL_law_3043 lRL_272 kL_child (by decide) h1 rfl rfl (Nat.le_of_ble_eq_true rfl) fit_law ⟨by show _ ≤ 601024; omega, by show _ ≤ 7293034; omega⟩ (fun v Ω' hp => ?_) (fun _ _ h => h.elim)
  obtain ⟨rfl, hcd, G1, s1, rfl, hC1, hf1, hv1⟩ := hp
  have hM1 := RM_W hM hf1
  refine V_ex sL_law_3046 (by rfl) (by exact trivial) ?_
  refine V_sld (i + 1) dL_law_3054 (by omega) (by omega) hL ?_
  have h2 := c_mxChild (κ := κ) (d := 90) hκ hM1 hI (scv_R κ (i + 1)) (by decide)
  refine V_callV (M := ML_law) (N := MX12_child) dL_law_3055 lRL_274 kX12_child rfl rfl rfl h2 rfl rfl (Nat.le_of_ble_eq_true rfl) fit_law ⟨by show _ ≤ 601024; omega, by show _ ≤ 7293034; omega⟩ (fun v Ω' hp => ?_) (fun _ _ h => h.elim)
  obtain ⟨rfl, G2, rfl, hM2, hf2, hc2⟩ := hp
  have hI2 : Inv (K + 1) (A) := Inv_mono hI (by omega)
  have hC2 := RC_M hC1 hI2 hf2
  refine V_w32 ?_
  refine V_ex sL_law_3058 (by rfl) (by exact trivial) ?_
  refine V_callV (M := ML_law) (N := MX12_thrown) dL_law_3061 lRL_148 kX12_thrown rfl rfl rfl (c_mThrown (d := 90) hκ) rfl rfl (Nat.le_of_ble_eq_true rfl) fit_law ⟨by show _ ≤ 601024; omega, by show _ ≤ 7293034; omega⟩ (fun v Ω' hp => ?_) (fun _ _ h => h.elim)
  obtain ⟨rfl, rfl⟩ := hp
  rw [hc2]
  refine V_ex sL_law_3064 (by rfl) (by exact trivial) ?_
  refine V_icmpeq dL_law_3066 (tgt := 3071) (by decide) ⟨cd_R hcd, cd_R hcd⟩ (fun q => ?_) (fun q => ?_)
  rotate_left
  · exact absurd rfl q
  refine V_ex sL_law_3071 (by rfl) (by exact trivial) ?_
  refine V_ifne dL_law_3073 (tgt := 3088) (by decide) (cd_R hcd) (fun q => ?_) (fun q => ?_)
  · refine V_goto dL_law_3088 (tgt := 3271) (by decide) ?_
    exact go G2 s1 (A) _ _ _ _ _ hC2 hM2 hI2 (by omega) (by omega)
  have e9 : G2.2.1 189 0 = w32 (keptP A.2.2.2.2.1 (scv κ (i + 1))).2 := (congrFun (hf2.2.1 189 (Or.inr rfl)) 0).trans (hv1 q)
  refine V_ex sL_law_3076 (by simp only [Option.toList, List.cons_append, List.nil_append, exN, ex1, gI, gL, gR, pI, pL, pR, lget, lset1, lset2, kl, b2I, b2L, nob, ob32, ob64, xGet, xPut, xLen, xLd, xLdR, xSt, obA, true_and, and_true, and_self, eq_self, Nat.reduceEqDiff, Nat.zero_ne_one, reduceIte, Nat.reduceLeDiff, and_false, false_and, show LF.1 189 = some (.inr (1, 1)) from rfl, upd2_eq, Int.reduceToNat, Int.toNat_natCast, e9]; rfl) (by exact ⟨⟨by decide, by decide⟩, w32_R _, r64w _⟩) ?_
  refine V_lifeq dL_law_3083 (tgt := 3088) (by decide) (fun q => ?_) (fun q => ?_)
  rotate_left
  · exact absurd rfl q
  refine V_goto dL_law_3088 (tgt := 3271) (by decide) ?_
  exact go G2 s1 (A) _ _ _ _ _ hC2 hM2 hI2 (by omega) (by omega)
set_option maxRecDepth 100000 in
set_option maxHeartbeats 4000000 in
theorem lw_least {κ : Kx} (hκ : KOK κ) (hB : HB κ) (hKS : KS κ) {μ : Mu} {c t s0 i : Nat} {K : Int} {A : Ab} {G : Wd} {x5 x6 x7 : Option Vl} (hC : RC G s0 A) (hM : RM G A) (hI : Inv K A) (hR : aR G) (hi : i + 7 ≤ κ.2.2.2.2.1) (hL : κ.2.2.2.2.1 ≤ 3584) (hc : c ≤ 500000) (ht : t ≤ 7000000) (go : LG κ μ c t K (i : Nat)) : LV κ μ c t G 3091 [some (VR 1000000), some (VR 1), some (VR 145), some (VR 189), some (VI (i : Nat)), x5, x6, x7] [] := by
  refine V_ex sL_law_3091 (by rfl) (by exact trivial) ?_
  refine V_sld (i + 1) dL_law_3097 (by omega) (by omega) hL ?_
  refine V_ex sL_law_3098 (by rfl) (by exact trivial) ?_
  refine V_sld (i + 2) dL_law_3103 (by omega) (by omega) hL ?_
  refine V_ex sL_law_3104 (by rfl) (by exact scv_R _ _) ?_
  refine V_sld (i + 3) dL_law_3113 (by omega) (by omega) hL ?_
  refine V_ex sL_law_3114 (by rfl) (by exact scv_R _ _) ?_
  have h1 := c_wLeast (κ := κ) (d := 90) hκ hB hC hI hR (scv_R κ (i + 1)) (lgv_R κ (i + 2) (i + 3)) (by decide)
  refine V_callSH (M := ML_law) (N := ML_least) dL_law_3121 lRL_275 kL_least (by decide) h1 rfl rfl (Nat.le_of_ble_eq_true rfl) fit_law ⟨by show _ ≤ 601024; omega, by show _ ≤ 7293034; omega⟩ (fun v Ω' hp => ?_) (fun _ _ h => h.elim)
  obtain ⟨rfl, hcd, G1, s1, rfl, hC1, hf1, hv1⟩ := hp
  have hM1 := RM_W hM hf1
  refine V_ex sL_law_3124 (by rfl) (by exact trivial) ?_
  refine V_sld (i + 1) dL_law_3132 (by omega) (by omega) hL ?_
  refine V_ex sL_law_3133 (by rfl) (by exact trivial) ?_
  refine V_sld (i + 2) dL_law_3138 (by omega) (by omega) hL ?_
  refine V_ex sL_law_3139 (by rfl) (by exact scv_R _ _) ?_
  refine V_sld (i + 3) dL_law_3148 (by omega) (by omega) hL ?_
  refine V_ex sL_law_3149 (by rfl) (by exact scv_R _ _) ?_
  have h2 := c_mxLeast (κ := κ) (d := 90) hκ hM1 hI (scv_R κ (i + 1)) (lgv_R κ (i + 2) (i + 3)) (by decide)
  refine V_callV (M := ML_law) (N := MX12_least) dL_law_3155 lRL_277 kX12_least rfl rfl rfl h2 rfl rfl (Nat.le_of_ble_eq_true rfl) fit_law ⟨by show _ ≤ 601024; omega, by show _ ≤ 7293034; omega⟩ (fun v Ω' hp => ?_) (fun _ _ h => h.elim)
  obtain ⟨rfl, G2, rfl, hM2, hf2, hc2⟩ := hp
  have hI2 : Inv (K + 1) ((leastP A (scv κ (i + 1)) (lgv κ (i + 2) (i + 3))).2.2) := Inv_mono (Inv_least hI) (by omega)
  have hC2 := RC_M hC1 hI2 hf2
  refine V_w32 ?_
  refine V_ex sL_law_3158 (by rfl) (by exact trivial) ?_
  refine V_callV (M := ML_law) (N := MX12_thrown) dL_law_3161 lRL_148 kX12_thrown rfl rfl rfl (c_mThrown (d := 90) hκ) rfl rfl (Nat.le_of_ble_eq_true rfl) fit_law ⟨by show _ ≤ 601024; omega, by show _ ≤ 7293034; omega⟩ (fun v Ω' hp => ?_) (fun _ _ h => h.elim)
  obtain ⟨rfl, rfl⟩ := hp
  rw [hc2]
  refine V_ex sL_law_3164 (by rfl) (by exact trivial) ?_
  refine V_icmpeq dL_law_3166 (tgt := 3171) (by decide) ⟨cd_R hcd, cd_R hcd⟩ (fun q => ?_) (fun q => ?_)
  rotate_left
  · exact absurd rfl q
  refine V_ex sL_law_3171 (by rfl) (by exact trivial) ?_
  refine V_ifne dL_law_3173 (tgt := 3188) (by decide) (cd_R hcd) (fun q => ?_) (fun q => ?_)
  · refine V_goto dL_law_3188 (tgt := 3271) (by decide) ?_
    exact go G2 s1 ((leastP A (scv κ (i + 1)) (lgv κ (i + 2) (i + 3))).2.2) _ _ _ _ _ hC2 hM2 hI2 (by omega) (by omega)
  have e9 : G2.2.1 189 0 = w32 (leastP A (scv κ (i + 1)) (lgv κ (i + 2) (i + 3))).2.1 := (congrFun (hf2.2.1 189 (Or.inr rfl)) 0).trans (hv1 q)
  refine V_ex sL_law_3176 (by simp only [Option.toList, List.cons_append, List.nil_append, exN, ex1, gI, gL, gR, pI, pL, pR, lget, lset1, lset2, kl, b2I, b2L, nob, ob32, ob64, xGet, xPut, xLen, xLd, xLdR, xSt, obA, true_and, and_true, and_self, eq_self, Nat.reduceEqDiff, Nat.zero_ne_one, reduceIte, Nat.reduceLeDiff, and_false, false_and, show LF.1 189 = some (.inr (1, 1)) from rfl, upd2_eq, Int.reduceToNat, Int.toNat_natCast, e9]; rfl) (by exact ⟨⟨by decide, by decide⟩, w32_R _, r64w _⟩) ?_
  refine V_lifeq dL_law_3183 (tgt := 3188) (by decide) (fun q => ?_) (fun q => ?_)
  rotate_left
  · exact absurd rfl q
  refine V_goto dL_law_3188 (tgt := 3271) (by decide) ?_
  exact go G2 s1 ((leastP A (scv κ (i + 1)) (lgv κ (i + 2) (i + 3))).2.2) _ _ _ _ _ hC2 hM2 hI2 (by omega) (by omega)
set_option maxRecDepth 100000 in
set_option maxHeartbeats 4000000 in
theorem lw_torn {κ : Kx} (hκ : KOK κ) (hB : HB κ) (hKS : KS κ) {μ : Mu} {c t s0 i : Nat} {K : Int} {A : Ab} {G : Wd} {x5 x6 x7 : Option Vl} (hC : RC G s0 A) (hM : RM G A) (hI : Inv K A) (hR : aR G) (hi : i + 7 ≤ κ.2.2.2.2.1) (hL : κ.2.2.2.2.1 ≤ 3584) (hc : c ≤ 500000) (ht : t ≤ 7000000) (go : LG κ μ c t K (i : Nat)) : LV κ μ c t G 3191 [some (VR 1000000), some (VR 1), some (VR 145), some (VR 189), some (VI (i : Nat)), x5, x6, x7] [] := by
  refine V_ex sL_law_3191 (by rfl) (by exact trivial) ?_
  refine V_sld (i + 1) dL_law_3197 (by omega) (by omega) hL ?_
  refine V_ex sL_law_3198 (by rfl) (by exact trivial) ?_
  have h1 := c_wTorn (κ := κ) (d := 90) hκ hB hC hI hR (scv_R κ (i + 1)) (by decide)
  refine V_callSH (M := ML_law) (N := ML_torn) dL_law_3199 lRL_278 kL_torn (by decide) h1 rfl rfl (Nat.le_of_ble_eq_true rfl) fit_law ⟨by show _ ≤ 601024; omega, by show _ ≤ 7293034; omega⟩ (fun v Ω' hp => ?_) (fun _ _ h => h.elim)
  obtain ⟨rfl, hcd, G1, s1, rfl, hC1, hf1, hv1⟩ := hp
  have hM1 := RM_W hM hf1
  refine V_ex sL_law_3202 (by rfl) (by exact trivial) ?_
  refine V_sld (i + 1) dL_law_3210 (by omega) (by omega) hL ?_
  have h2 := c_mxTorn (κ := κ) (d := 90) hκ hM1 hI (scv_R κ (i + 1)) (by decide)
  refine V_callV (M := ML_law) (N := MX12_torn) dL_law_3211 lRL_280 kX12_torn rfl rfl rfl h2 rfl rfl (Nat.le_of_ble_eq_true rfl) fit_law ⟨by show _ ≤ 601024; omega, by show _ ≤ 7293034; omega⟩ (fun v Ω' hp => ?_) (fun _ _ h => h.elim)
  obtain ⟨rfl, G2, rfl, hM2, hf2, hc2⟩ := hp
  have hI2 : Inv (K + 1) (A) := Inv_mono hI (by omega)
  have hC2 := RC_M hC1 hI2 hf2
  refine V_w32 ?_
  refine V_ex sL_law_3214 (by rfl) (by exact trivial) ?_
  refine V_callV (M := ML_law) (N := MX12_thrown) dL_law_3217 lRL_148 kX12_thrown rfl rfl rfl (c_mThrown (d := 90) hκ) rfl rfl (Nat.le_of_ble_eq_true rfl) fit_law ⟨by show _ ≤ 601024; omega, by show _ ≤ 7293034; omega⟩ (fun v Ω' hp => ?_) (fun _ _ h => h.elim)
  obtain ⟨rfl, rfl⟩ := hp
  rw [hc2]
  refine V_ex sL_law_3220 (by rfl) (by exact trivial) ?_
  refine V_icmpeq dL_law_3222 (tgt := 3227) (by decide) ⟨cd_R hcd, cd_R hcd⟩ (fun q => ?_) (fun q => ?_)
  rotate_left
  · exact absurd rfl q
  refine V_ex sL_law_3227 (by rfl) (by exact trivial) ?_
  refine V_ifne dL_law_3229 (tgt := 3244) (by decide) (cd_R hcd) (fun q => ?_) (fun q => ?_)
  · refine V_goto dL_law_3244 (tgt := 3271) (by decide) ?_
    exact go G2 s1 (A) _ _ _ _ _ hC2 hM2 hI2 (by omega) (by omega)
  have e9 : G2.2.1 189 0 = w32 (keptP A.2.2.2.2.2 (scv κ (i + 1))).2 := (congrFun (hf2.2.1 189 (Or.inr rfl)) 0).trans (hv1 q)
  refine V_ex sL_law_3232 (by simp only [Option.toList, List.cons_append, List.nil_append, exN, ex1, gI, gL, gR, pI, pL, pR, lget, lset1, lset2, kl, b2I, b2L, nob, ob32, ob64, xGet, xPut, xLen, xLd, xLdR, xSt, obA, true_and, and_true, and_self, eq_self, Nat.reduceEqDiff, Nat.zero_ne_one, reduceIte, Nat.reduceLeDiff, and_false, false_and, show LF.1 189 = some (.inr (1, 1)) from rfl, upd2_eq, Int.reduceToNat, Int.toNat_natCast, e9]; rfl) (by exact ⟨⟨by decide, by decide⟩, w32_R _, r64w _⟩) ?_
  refine V_lifeq dL_law_3239 (tgt := 3244) (by decide) (fun q => ?_) (fun q => ?_)
  rotate_left
  · exact absurd rfl q
  refine V_goto dL_law_3244 (tgt := 3271) (by decide) ?_
  exact go G2 s1 (A) _ _ _ _ _ hC2 hM2 hI2 (by omega) (by omega)
set_option maxRecDepth 100000 in
set_option maxHeartbeats 4000000 in
theorem lw_image {κ : Kx} (hκ : KOK κ) (hB : HB κ) (hKS : KS κ) {μ : Mu} {c t s0 i : Nat} {K : Int} {A : Ab} {G : Wd} {x5 x6 x7 : Option Vl} (hC : RC G s0 A) (hM : RM G A) (hI : Inv K A) (hR : aR G) (hi : i + 7 ≤ κ.2.2.2.2.1) (hL : κ.2.2.2.2.1 ≤ 3584) (hc : c ≤ 500000) (ht : t ≤ 7000000) (go : LG κ μ c t K (i : Nat)) : LV κ μ c t G 3247 [some (VR 1000000), some (VR 1), some (VR 145), some (VR 189), some (VI (i : Nat)), x5, x6, x7] [] := by
  refine V_ex sL_law_3247 (by rfl) (by exact trivial) ?_
  have h1 := c_xImage (κ := κ) (d := 90) hκ hC hI hR  (by decide)
  refine V_callV (M := ML_law) (N := MX11_image) dL_law_3248 lRL_281 kX11_image rfl rfl rfl h1 rfl rfl (Nat.le_of_ble_eq_true rfl) fit_law ⟨by show _ ≤ 601024; omega, by show _ ≤ 7293034; omega⟩ (fun v Ω' hp => ?_) (fun _ _ h => h.elim)
  obtain ⟨-, rfl, G1, s1, rfl, hC1, hf1⟩ := hp
  have hM1 := RM_W hM hf1.c
  refine V_ex sL_law_3251 (by rfl) (by exact trivial) ?_
  have h2 := c_mxImage (κ := κ) (d := 90) hκ hM1 hI  (by decide)
  refine V_callV (M := ML_law) (N := MX12_image) dL_law_3252 lRL_284 kX12_image rfl rfl rfl h2 rfl rfl (Nat.le_of_ble_eq_true rfl) fit_law ⟨by show _ ≤ 601024; omega, by show _ ≤ 7293034; omega⟩ (fun v Ω' hp => ?_) (fun _ _ h => h.elim)
  obtain ⟨rfl, G2, rfl, hM2, hf2, hc2⟩ := hp
  have hI2 : Inv (K + 1) (imageA A) := Inv_mono (Inv_image hI) (by omega)
  have hC2 := RC_M hC1 hI2 hf2
  refine V_goto dL_law_3255 (tgt := 3271) (by decide) ?_
  exact go G2 s1 (imageA A) _ _ _ _ _ hC2 hM2 hI2 (by omega) (by omega)
set_option maxRecDepth 100000 in
set_option maxHeartbeats 4000000 in
theorem lw_restore {κ : Kx} (hκ : KOK κ) (hB : HB κ) (hKS : KS κ) {μ : Mu} {c t s0 i : Nat} {K : Int} {A : Ab} {G : Wd} {x5 x6 x7 : Option Vl} (hC : RC G s0 A) (hM : RM G A) (hI : Inv K A) (hR : aR G) (hi : i + 7 ≤ κ.2.2.2.2.1) (hL : κ.2.2.2.2.1 ≤ 3584) (hc : c ≤ 500000) (ht : t ≤ 7000000) (go : LG κ μ c t K (i : Nat)) : LV κ μ c t G 3258 [some (VR 1000000), some (VR 1), some (VR 145), some (VR 189), some (VI (i : Nat)), x5, x6, x7] [] := by
  refine V_ex sL_law_3258 (by rfl) (by exact trivial) ?_
  have h1 := c_xRestore (κ := κ) (d := 90) hκ hC hI hR  (by decide)
  refine V_callV (M := ML_law) (N := MX11_restore) dL_law_3259 lRL_285 kX11_restore rfl rfl rfl h1 rfl rfl (Nat.le_of_ble_eq_true rfl) fit_law ⟨by show _ ≤ 601024; omega, by show _ ≤ 7293034; omega⟩ (fun v Ω' hp => ?_) (fun _ _ h => h.elim)
  obtain ⟨-, rfl, G1, s1, rfl, hC1, hf1⟩ := hp
  have hM1 := RM_W hM hf1.c
  refine V_w32 ?_
  refine V_ex sL_law_3262 (by rfl) (by exact trivial) ?_
  have h2 := c_mxRestore (κ := κ) (d := 90) hκ hM1 hI  (by decide)
  refine V_callV (M := ML_law) (N := MX12_restore) dL_law_3263 lRL_289 kX12_restore rfl rfl rfl h2 rfl rfl (Nat.le_of_ble_eq_true rfl) fit_law ⟨by show _ ≤ 601024; omega, by show _ ≤ 7293034; omega⟩ (fun v Ω' hp => ?_) (fun _ _ h => h.elim)
  obtain ⟨rfl, G2, rfl, hM2, hf2, hc2⟩ := hp
  have hI2 : Inv (K + 1) (restoreA A) := Inv_mono (Inv_restore hI) (by omega)
  have hC2 := RC_M hC1 hI2 hf2
  refine V_w32 ?_
  refine V_icmpeq dL_law_3266 (tgt := 3271) (by decide) ⟨w32_R _, w32_R _⟩ (fun q => ?_) (fun q => ?_)
  rotate_left
  · exact absurd rfl q
  exact go G2 s1 (restoreA A) _ _ _ _ _ hC2 hM2 hI2 (by omega) (by omega)
