/-! THE LAW: calls, by program -/
set_option maxRecDepth 100000 in
set_option maxHeartbeats 4000000 in
theorem lw_sheet {κ : Kx} (hκ : KOK κ) (hB : HB κ) (hKS : KS κ) {μ : Mu} {c t s0 i : Nat} {K : Int} {A : Ab} {G : Wd} {x5 x6 x7 : Option Vl} (hC : RC G s0 A) (hM : RM G A) (hI : Inv K A) (hR : aR G) (hi : i + 7 ≤ κ.2.2.2.2.1) (hL : κ.2.2.2.2.1 ≤ 3584) (hc : c ≤ 500000) (ht : t ≤ 7000000) (go : LG κ μ c t K (i : Nat)) : LV κ μ c t G 888 [some (VR 1000000), some (VR 1), some (VR 145), some (VR 189), some (VI (i : Nat)), x5, x6, x7] [] := by
  refine V_ex sL_law_888 (by rfl) (by exact trivial) ?_
  refine V_sld (i + 1) dL_law_894 (by omega) (by omega) hL ?_
  refine V_ex sL_law_895 (by rfl) (by exact trivial) ?_
  refine V_sld (i + 2) dL_law_900 (by omega) (by omega) hL ?_
  refine V_ex sL_law_901 (by rfl) (by exact trivial) ?_
  have h1 := c_wSheet (κ := κ) (d := 90) hκ hB hC hI hR (scv_R κ (i + 1)) (scv_R κ (i + 2)) (by decide)
  refine V_callSH (M := ML_law) (N := ML_sheet) dL_law_902 lRL_181 kL_sheet (by decide) h1 rfl rfl (Nat.le_of_ble_eq_true rfl) fit_law ⟨by show _ ≤ 601024; omega, by show _ ≤ 7293034; omega⟩ (fun v Ω' hp => ?_) (fun _ _ h => h.elim)
  obtain ⟨rfl, hcd, G1, s1, rfl, hC1, hf1, hv1⟩ := hp
  have hM1 := RM_W hM hf1
  refine V_ex sL_law_905 (by rfl) (by exact trivial) ?_
  refine V_sld (i + 1) dL_law_913 (by omega) (by omega) hL ?_
  refine V_ex sL_law_914 (by rfl) (by exact trivial) ?_
  refine V_sld (i + 2) dL_law_919 (by omega) (by omega) hL ?_
  have h2 := c_mxSheet (κ := κ) (d := 90) hκ hM1 hI (scv_R κ (i + 1)) (scv_R κ (i + 2)) (by decide)
  refine V_callV (M := ML_law) (N := MX12_sheet) dL_law_920 lRL_183 kX12_sheet rfl rfl rfl h2 rfl rfl (Nat.le_of_ble_eq_true rfl) fit_law ⟨by show _ ≤ 601024; omega, by show _ ≤ 7293034; omega⟩ (fun v Ω' hp => ?_) (fun _ _ h => h.elim)
  obtain ⟨rfl, G2, rfl, hM2, hf2, hc2⟩ := hp
  have hI2 : Inv (K + 1) ((sheetP A (scv κ (i + 1)) (scv κ (i + 2))).2.2) := Inv_sheet hI
  have hC2 := RC_M hC1 hI2 hf2
  refine V_w32 ?_
  refine V_ex sL_law_923 (by rfl) (by exact trivial) ?_
  refine V_callV (M := ML_law) (N := MX12_thrown) dL_law_926 lRL_148 kX12_thrown rfl rfl rfl (c_mThrown (d := 90) hκ) rfl rfl (Nat.le_of_ble_eq_true rfl) fit_law ⟨by show _ ≤ 601024; omega, by show _ ≤ 7293034; omega⟩ (fun v Ω' hp => ?_) (fun _ _ h => h.elim)
  obtain ⟨rfl, rfl⟩ := hp
  rw [hc2]
  refine V_ex sL_law_929 (by rfl) (by exact trivial) ?_
  refine V_icmpeq dL_law_931 (tgt := 936) (by decide) ⟨cd_R hcd, cd_R hcd⟩ (fun q => ?_) (fun q => ?_)
  rotate_left
  · exact absurd rfl q
  refine V_ex sL_law_936 (by rfl) (by exact trivial) ?_
  refine V_ifne dL_law_938 (tgt := 953) (by decide) (cd_R hcd) (fun q => ?_) (fun q => ?_)
  · refine V_goto dL_law_953 (tgt := 3271) (by decide) ?_
    exact go G2 s1 ((sheetP A (scv κ (i + 1)) (scv κ (i + 2))).2.2) _ _ _ _ _ hC2 hM2 hI2 (by omega) (by omega)
  have e9 : G2.2.1 189 0 = w32 (sheetP A (scv κ (i + 1)) (scv κ (i + 2))).2.1 := (congrFun (hf2.2.1 189 (Or.inr rfl)) 0).trans (hv1 q)
  refine V_ex sL_law_941 (by simp only [Option.toList, List.cons_append, List.nil_append, exN, ex1, gI, gL, gR, pI, pL, pR, lget, lset1, lset2, kl, b2I, b2L, nob, ob32, ob64, xGet, xPut, xLen, xLd, xLdR, xSt, obA, true_and, and_true, and_self, eq_self, Nat.reduceEqDiff, Nat.zero_ne_one, reduceIte, Nat.reduceLeDiff, and_false, false_and, show LF.1 189 = some (.inr (1, 1)) from rfl, upd2_eq, Int.reduceToNat, Int.toNat_natCast, e9]; rfl) (by exact ⟨⟨by decide, by decide⟩, w32_R _, r64w _⟩) ?_
  refine V_lifeq dL_law_948 (tgt := 953) (by decide) (fun q => ?_) (fun q => ?_)
  rotate_left
  · exact absurd rfl q
  refine V_goto dL_law_953 (tgt := 3271) (by decide) ?_
  exact go G2 s1 ((sheetP A (scv κ (i + 1)) (scv κ (i + 2))).2.2) _ _ _ _ _ hC2 hM2 hI2 (by omega) (by omega)
set_option maxRecDepth 100000 in
set_option maxHeartbeats 4000000 in
theorem lw_put {κ : Kx} (hκ : KOK κ) (hB : HB κ) (hKS : KS κ) {μ : Mu} {c t s0 i : Nat} {K : Int} {A : Ab} {G : Wd} {x5 x6 x7 : Option Vl} (hC : RC G s0 A) (hM : RM G A) (hI : Inv K A) (hR : aR G) (hi : i + 7 ≤ κ.2.2.2.2.1) (hL : κ.2.2.2.2.1 ≤ 3584) (hc : c ≤ 500000) (ht : t ≤ 7000000) (go : LG κ μ c t K (i : Nat)) : LV κ μ c t G 956 [some (VR 1000000), some (VR 1), some (VR 145), some (VR 189), some (VI (i : Nat)), x5, x6, x7] [] := by
  refine V_ex sL_law_956 (by rfl) (by exact trivial) ?_
  have h1 := c_xPut (κ := κ) (d := 90) hκ hC hI hR  (by decide)
  refine V_callV (M := ML_law) (N := MX11_put) dL_law_957 lRL_184 kX11_put rfl rfl rfl h1 rfl rfl (Nat.le_of_ble_eq_true rfl) fit_law ⟨by show _ ≤ 601024; omega, by show _ ≤ 7293034; omega⟩ (fun v Ω' hp => ?_) (fun _ _ h => h.elim)
  obtain ⟨-, rfl, G1, s1, rfl, hC1, hf1⟩ := hp
  have hM1 := RM_W hM hf1.c
  refine V_w32 ?_
  refine V_ex sL_law_960 (by rfl) (by exact trivial) ?_
  have h2 := c_mxPut (κ := κ) (d := 90) hκ hM1 hI  (by decide)
  refine V_callV (M := ML_law) (N := MX12_put) dL_law_961 lRL_187 kX12_put rfl rfl rfl h2 rfl rfl (Nat.le_of_ble_eq_true rfl) fit_law ⟨by show _ ≤ 601024; omega, by show _ ≤ 7293034; omega⟩ (fun v Ω' hp => ?_) (fun _ _ h => h.elim)
  obtain ⟨rfl, G2, rfl, hM2, hf2, hc2⟩ := hp
  have hI2 : Inv (K + 1) ((putP A).2.2) := Inv_mono (Inv_put hI) (by omega)
  have hC2 := RC_M hC1 hI2 hf2
  refine V_w32 ?_
  refine V_icmpeq dL_law_964 (tgt := 3271) (by decide) ⟨w32_R _, w32_R _⟩ (fun q => ?_) (fun q => ?_)
  rotate_left
  · exact absurd rfl q
  exact go G2 s1 ((putP A).2.2) _ _ _ _ _ hC2 hM2 hI2 (by omega) (by omega)
set_option maxRecDepth 100000 in
set_option maxHeartbeats 4000000 in
theorem lw_add {κ : Kx} (hκ : KOK κ) (hB : HB κ) (hKS : KS κ) {μ : Mu} {c t s0 i : Nat} {K : Int} {A : Ab} {G : Wd} {x5 x6 x7 : Option Vl} (hC : RC G s0 A) (hM : RM G A) (hI : Inv K A) (hR : aR G) (hi : i + 7 ≤ κ.2.2.2.2.1) (hL : κ.2.2.2.2.1 ≤ 3584) (hc : c ≤ 500000) (ht : t ≤ 7000000) (go : LG κ μ c t K (i : Nat)) : LV κ μ c t G 969 [some (VR 1000000), some (VR 1), some (VR 145), some (VR 189), some (VI (i : Nat)), x5, x6, x7] [] := by
  refine V_ex sL_law_969 (by rfl) (by exact trivial) ?_
  refine V_sld (i + 1) dL_law_975 (by omega) (by omega) hL ?_
  refine V_ex sL_law_976 (by rfl) (by exact trivial) ?_
  refine V_sld (i + 2) dL_law_981 (by omega) (by omega) hL ?_
  refine V_ex sL_law_982 (by rfl) (by exact scv_R _ _) ?_
  refine V_sld (i + 3) dL_law_991 (by omega) (by omega) hL ?_
  refine V_ex sL_law_992 (by rfl) (by exact scv_R _ _) ?_
  have h1 := c_wAdd (κ := κ) (d := 90) hκ hB hC hI hR (scv_R κ (i + 1)) (lgv_R κ (i + 2) (i + 3)) (by decide)
  refine V_callSH (M := ML_law) (N := ML_add) dL_law_999 lRL_190 kL_add (by decide) h1 rfl rfl (Nat.le_of_ble_eq_true rfl) fit_law ⟨by show _ ≤ 601024; omega, by show _ ≤ 7293034; omega⟩ (fun v Ω' hp => ?_) (fun _ _ h => h.elim)
  obtain ⟨rfl, hcd, G1, s1, rfl, hC1, hf1, hv1⟩ := hp
  have hM1 := RM_W hM hf1
  refine V_ex sL_law_1002 (by rfl) (by exact trivial) ?_
  refine V_sld (i + 1) dL_law_1010 (by omega) (by omega) hL ?_
  refine V_ex sL_law_1011 (by rfl) (by exact trivial) ?_
  refine V_sld (i + 2) dL_law_1016 (by omega) (by omega) hL ?_
  refine V_ex sL_law_1017 (by rfl) (by exact scv_R _ _) ?_
  refine V_sld (i + 3) dL_law_1026 (by omega) (by omega) hL ?_
  refine V_ex sL_law_1027 (by rfl) (by exact scv_R _ _) ?_
  have h2 := c_mxAdd (κ := κ) (d := 90) hκ hM1 hI (scv_R κ (i + 1)) (lgv_R κ (i + 2) (i + 3)) (by decide)
  refine V_callV (M := ML_law) (N := MX12_add) dL_law_1033 lRL_193 kX12_add rfl rfl rfl h2 rfl rfl (Nat.le_of_ble_eq_true rfl) fit_law ⟨by show _ ≤ 601024; omega, by show _ ≤ 7293034; omega⟩ (fun v Ω' hp => ?_) (fun _ _ h => h.elim)
  obtain ⟨rfl, G2, rfl, hM2, hf2, hc2⟩ := hp
  have hI2 : Inv (K + 1) ((addP A (scv κ (i + 1)) (lgv κ (i + 2) (i + 3))).2.2) := Inv_add hI
  have hC2 := RC_M hC1 hI2 hf2
  refine V_w32 ?_
  refine V_ex sL_law_1036 (by rfl) (by exact trivial) ?_
  refine V_callV (M := ML_law) (N := MX12_thrown) dL_law_1039 lRL_148 kX12_thrown rfl rfl rfl (c_mThrown (d := 90) hκ) rfl rfl (Nat.le_of_ble_eq_true rfl) fit_law ⟨by show _ ≤ 601024; omega, by show _ ≤ 7293034; omega⟩ (fun v Ω' hp => ?_) (fun _ _ h => h.elim)
  obtain ⟨rfl, rfl⟩ := hp
  rw [hc2]
  refine V_ex sL_law_1042 (by rfl) (by exact trivial) ?_
  refine V_icmpeq dL_law_1044 (tgt := 1049) (by decide) ⟨cd_R hcd, cd_R hcd⟩ (fun q => ?_) (fun q => ?_)
  rotate_left
  · exact absurd rfl q
  refine V_ex sL_law_1049 (by rfl) (by exact trivial) ?_
  refine V_ifne dL_law_1051 (tgt := 1073) (by decide) (cd_R hcd) (fun q => ?_) (fun q => ?_)
  · refine V_goto dL_law_1073 (tgt := 3271) (by decide) ?_
    exact go G2 s1 ((addP A (scv κ (i + 1)) (lgv κ (i + 2) (i + 3))).2.2) _ _ _ _ _ hC2 hM2 hI2 (by omega) (by omega)
  have e9 : G2.2.1 189 0 = zb (addP A (scv κ (i + 1)) (lgv κ (i + 2) (i + 3))).2.1 := (congrFun (hf2.2.1 189 (Or.inr rfl)) 0).trans (hv1 q)
  refine V_ex sL_law_1054 (by simp only [Option.toList, List.cons_append, List.nil_append, exN, ex1, gI, gL, gR, pI, pL, pR, lget, lset1, lset2, kl, b2I, b2L, nob, ob32, ob64, xGet, xPut, xLen, xLd, xLdR, xSt, obA, true_and, and_true, and_self, eq_self, Nat.reduceEqDiff, Nat.zero_ne_one, reduceIte, Nat.reduceLeDiff, and_false, false_and, show LF.1 189 = some (.inr (1, 1)) from rfl, upd2_eq, Int.reduceToNat, Int.toNat_natCast, e9]; rfl) (by simp only [ob, obA]; and_intros <;> first | decide | omega) ?_
  refine V_ifeq dL_law_1059 (tgt := 1066) (by decide) (w32_R _) (fun q9 => ?_) (fun q9 => ?_)
  · have hzb : zb (addP A (scv κ (i + 1)) (lgv κ (i + 2) (i + 3))).2.1 = 0 := if_pos q9
    refine V_ex sL_law_1066 (by rfl) (by exact trivial) ?_
    rw [hzb]
    refine V_ex sL_law_1067 (by rfl) (by exact ⟨⟨by decide, by decide⟩, ⟨by decide, by decide⟩⟩) ?_
    refine V_lifeq dL_law_1068 (tgt := 1073) (by decide) (fun q8 => ?_) (fun q8 => ?_)
    rotate_left
    · exact absurd rfl q8
    refine V_goto dL_law_1073 (tgt := 3271) (by decide) ?_
    exact go G2 s1 ((addP A (scv κ (i + 1)) (lgv κ (i + 2) (i + 3))).2.2) _ _ _ _ _ hC2 hM2 hI2 (by omega) (by omega)
  · have hzb : zb (addP A (scv κ (i + 1)) (lgv κ (i + 2) (i + 3))).2.1 = 1 := if_neg q9
    refine V_ex sL_law_1062 (by rfl) (by exact trivial) ?_
    refine V_goto dL_law_1063 (tgt := 1067) (by decide) ?_
    rw [hzb]
    refine V_ex sL_law_1067 (by rfl) (by exact ⟨⟨by decide, by decide⟩, ⟨by decide, by decide⟩⟩) ?_
    refine V_lifeq dL_law_1068 (tgt := 1073) (by decide) (fun q8 => ?_) (fun q8 => ?_)
    rotate_left
    · exact absurd rfl q8
    refine V_goto dL_law_1073 (tgt := 3271) (by decide) ?_
    exact go G2 s1 ((addP A (scv κ (i + 1)) (lgv κ (i + 2) (i + 3))).2.2) _ _ _ _ _ hC2 hM2 hI2 (by omega) (by omega)
set_option maxRecDepth 100000 in
set_option maxHeartbeats 4000000 in
theorem lw_wrong {κ : Kx} (hκ : KOK κ) (hB : HB κ) (hKS : KS κ) {μ : Mu} {c t s0 i : Nat} {K : Int} {A : Ab} {G : Wd} {x5 x6 x7 : Option Vl} (hC : RC G s0 A) (hM : RM G A) (hI : Inv K A) (hR : aR G) (hi : i + 7 ≤ κ.2.2.2.2.1) (hL : κ.2.2.2.2.1 ≤ 3584) (hc : c ≤ 500000) (ht : t ≤ 7000000) (go : LG κ μ c t K (i : Nat)) : LV κ μ c t G 1076 [some (VR 1000000), some (VR 1), some (VR 145), some (VR 189), some (VI (i : Nat)), x5, x6, x7] [] := by
  refine V_ex sL_law_1076 (by rfl) (by exact trivial) ?_
  have h1 := c_xWrong (κ := κ) (d := 90) hκ hC hI hR  (by decide)
  refine V_callV (M := ML_law) (N := MX11_wrong) dL_law_1077 lRL_194 kX11_wrong rfl rfl rfl h1 rfl rfl (Nat.le_of_ble_eq_true rfl) fit_law ⟨by show _ ≤ 601024; omega, by show _ ≤ 7293034; omega⟩ (fun v Ω' hp => ?_) (fun _ _ h => h.elim)
  obtain ⟨-, rfl, G1, s1, rfl, hC1, hf1⟩ := hp
  have hM1 := RM_W hM hf1.c
  refine V_w32 ?_
  refine V_ex sL_law_1080 (by rfl) (by exact trivial) ?_
  have h2 := c_mxWrong (κ := κ) (d := 90) hκ hM1 hI  (by decide)
  refine V_callV (M := ML_law) (N := MX12_wrong) dL_law_1081 lRL_197 kX12_wrong rfl rfl rfl h2 rfl rfl (Nat.le_of_ble_eq_true rfl) fit_law ⟨by show _ ≤ 601024; omega, by show _ ≤ 7293034; omega⟩ (fun v Ω' hp => ?_) (fun _ _ h => h.elim)
  obtain ⟨rfl, G2, rfl, hM2, hf2, hc2⟩ := hp
  have hI2 : Inv (K + 1) ((wrongP A).2.2) := Inv_mono (Inv_wrong hI) (by omega)
  have hC2 := RC_M hC1 hI2 hf2
  refine V_w32 ?_
  refine V_icmpeq dL_law_1084 (tgt := 3271) (by decide) ⟨w32_R _, w32_R _⟩ (fun q => ?_) (fun q => ?_)
  rotate_left
  · exact absurd rfl q
  exact go G2 s1 ((wrongP A).2.2) _ _ _ _ _ hC2 hM2 hI2 (by omega) (by omega)
set_option maxRecDepth 100000 in
set_option maxHeartbeats 4000000 in
theorem lw_fits {κ : Kx} (hκ : KOK κ) (hB : HB κ) (hKS : KS κ) {μ : Mu} {c t s0 i : Nat} {K : Int} {A : Ab} {G : Wd} {x5 x6 x7 : Option Vl} (hC : RC G s0 A) (hM : RM G A) (hI : Inv K A) (hR : aR G) (hi : i + 7 ≤ κ.2.2.2.2.1) (hL : κ.2.2.2.2.1 ≤ 3584) (hc : c ≤ 500000) (ht : t ≤ 7000000) (go : LG κ μ c t K (i : Nat)) : LV κ μ c t G 1089 [some (VR 1000000), some (VR 1), some (VR 145), some (VR 189), some (VI (i : Nat)), x5, x6, x7] [] := by
  refine V_ex sL_law_1089 (by rfl) (by exact trivial) ?_
  refine V_sld (i + 1) dL_law_1095 (by omega) (by omega) hL ?_
  refine V_ex sL_law_1096 (by rfl) (by exact scv_R _ _) ?_
  refine V_sld (i + 2) dL_law_1105 (by omega) (by omega) hL ?_
  refine V_ex sL_law_1106 (by rfl) (by exact scv_R _ _) ?_
  refine V_sld (i + 3) dL_law_1117 (by omega) (by omega) hL ?_
  refine V_ex sL_law_1118 (by rfl) (by exact trivial) ?_
  have h1 := c_wFits (κ := κ) (d := 90) hκ hB hC hI hR (lgv_R κ (i + 1) (i + 2)) (scv_R κ (i + 3)) (by decide)
  refine V_callSH (M := ML_law) (N := ML_fits) dL_law_1119 lRL_198 kL_fits (by decide) h1 rfl rfl (Nat.le_of_ble_eq_true rfl) fit_law ⟨by show _ ≤ 601024; omega, by show _ ≤ 7293034; omega⟩ (fun v Ω' hp => ?_) (fun _ _ h => h.elim)
  obtain ⟨rfl, hcd, G1, s1, rfl, hC1, hf1, hv1⟩ := hp
  have hM1 := RM_W hM hf1
  refine V_ex sL_law_1122 (by rfl) (by exact trivial) ?_
  refine V_sld (i + 1) dL_law_1130 (by omega) (by omega) hL ?_
  refine V_ex sL_law_1131 (by rfl) (by exact scv_R _ _) ?_
  refine V_sld (i + 2) dL_law_1140 (by omega) (by omega) hL ?_
  refine V_ex sL_law_1141 (by rfl) (by exact scv_R _ _) ?_
  refine V_sld (i + 3) dL_law_1152 (by omega) (by omega) hL ?_
  have h2 := c_mxFits (κ := κ) (d := 90) hκ hM1 (lgv_R κ (i + 1) (i + 2)) (scv_R κ (i + 3)) (by decide)
  refine V_callV (M := ML_law) (N := MX12_fits) dL_law_1153 lRL_201 kX12_fits rfl rfl rfl h2 rfl rfl (Nat.le_of_ble_eq_true rfl) fit_law ⟨by show _ ≤ 601024; omega, by show _ ≤ 7293034; omega⟩ (fun v Ω' hp => ?_) (fun _ _ h => h.elim)
  obtain ⟨rfl, G2, rfl, hM2, hf2, hc2⟩ := hp
  have hI2 : Inv (K + 1) (A) := Inv_mono hI (by omega)
  have hC2 := RC_M hC1 hI2 hf2
  refine V_w64 ?_
  refine V_ex sL_law_1156 (by rfl) (by exact trivial) ?_
  refine V_callV (M := ML_law) (N := MX12_thrown) dL_law_1159 lRL_148 kX12_thrown rfl rfl rfl (c_mThrown (d := 90) hκ) rfl rfl (Nat.le_of_ble_eq_true rfl) fit_law ⟨by show _ ≤ 601024; omega, by show _ ≤ 7293034; omega⟩ (fun v Ω' hp => ?_) (fun _ _ h => h.elim)
  obtain ⟨rfl, rfl⟩ := hp
  rw [hc2]
  refine V_ex sL_law_1162 (by rfl) (by exact trivial) ?_
  refine V_icmpeq dL_law_1164 (tgt := 1169) (by decide) ⟨cd_R hcd, cd_R hcd⟩ (fun q => ?_) (fun q => ?_)
  rotate_left
  · exact absurd rfl q
  refine V_ex sL_law_1169 (by rfl) (by exact trivial) ?_
  refine V_ifne dL_law_1171 (tgt := 1185) (by decide) (cd_R hcd) (fun q => ?_) (fun q => ?_)
  · refine V_goto dL_law_1185 (tgt := 3271) (by decide) ?_
    exact go G2 s1 (A) _ _ _ _ _ hC2 hM2 hI2 (by omega) (by omega)
  have e9 : G2.2.1 189 0 = w64 (fitsP (lgv κ (i + 1) (i + 2)) (scv κ (i + 3))).2 := (congrFun (hf2.2.1 189 (Or.inr rfl)) 0).trans (hv1 q)
  refine V_ex sL_law_1174 (by simp only [Option.toList, List.cons_append, List.nil_append, exN, ex1, gI, gL, gR, pI, pL, pR, lget, lset1, lset2, kl, b2I, b2L, nob, ob32, ob64, xGet, xPut, xLen, xLd, xLdR, xSt, obA, true_and, and_true, and_self, eq_self, Nat.reduceEqDiff, Nat.zero_ne_one, reduceIte, Nat.reduceLeDiff, and_false, false_and, show LF.1 189 = some (.inr (1, 1)) from rfl, upd2_eq, Int.reduceToNat, Int.toNat_natCast, e9]; rfl) (by exact ⟨⟨by decide, by decide⟩, w64_R _⟩) ?_
  refine V_lifeq dL_law_1180 (tgt := 1185) (by decide) (fun q => ?_) (fun q => ?_)
  rotate_left
  · exact absurd rfl q
  refine V_goto dL_law_1185 (tgt := 3271) (by decide) ?_
  exact go G2 s1 (A) _ _ _ _ _ hC2 hM2 hI2 (by omega) (by omega)
set_option maxRecDepth 100000 in
set_option maxHeartbeats 4000000 in
theorem lw_leaf {κ : Kx} (hκ : KOK κ) (hB : HB κ) (hKS : KS κ) {μ : Mu} {c t s0 i : Nat} {K : Int} {A : Ab} {G : Wd} {x5 x6 x7 : Option Vl} (hC : RC G s0 A) (hM : RM G A) (hI : Inv K A) (hR : aR G) (hi : i + 7 ≤ κ.2.2.2.2.1) (hL : κ.2.2.2.2.1 ≤ 3584) (hc : c ≤ 500000) (ht : t ≤ 7000000) (go : LG κ μ c t K (i : Nat)) : LV κ μ c t G 1188 [some (VR 1000000), some (VR 1), some (VR 145), some (VR 189), some (VI (i : Nat)), x5, x6, x7] [] := by
  refine V_ex sL_law_1188 (by rfl) (by exact trivial) ?_
  refine V_sld (i + 1) dL_law_1194 (by omega) (by omega) hL ?_
  refine V_ex sL_law_1195 (by rfl) (by exact scv_R _ _) ?_
  refine V_sld (i + 2) dL_law_1204 (by omega) (by omega) hL ?_
  refine V_ex sL_law_1205 (by rfl) (by exact scv_R _ _) ?_
  refine V_sld (i + 3) dL_law_1216 (by omega) (by omega) hL ?_
  refine V_ex sL_law_1217 (by rfl) (by exact trivial) ?_
  have h1 := c_wLeaf (κ := κ) (d := 90) hκ hB hC hI hR (lgv_R κ (i + 1) (i + 2)) (scv_R κ (i + 3)) (by decide)
  refine V_callSH (M := ML_law) (N := ML_leaf) dL_law_1218 lRL_202 kL_leaf (by decide) h1 rfl rfl (Nat.le_of_ble_eq_true rfl) fit_law ⟨by show _ ≤ 601024; omega, by show _ ≤ 7293034; omega⟩ (fun v Ω' hp => ?_) (fun _ _ h => h.elim)
  obtain ⟨rfl, hcd, G1, s1, rfl, hC1, hf1, hv1⟩ := hp
  have hM1 := RM_W hM hf1
  refine V_ex sL_law_1221 (by rfl) (by exact trivial) ?_
  refine V_sld (i + 1) dL_law_1229 (by omega) (by omega) hL ?_
  refine V_ex sL_law_1230 (by rfl) (by exact scv_R _ _) ?_
  refine V_sld (i + 2) dL_law_1239 (by omega) (by omega) hL ?_
  refine V_ex sL_law_1240 (by rfl) (by exact scv_R _ _) ?_
  refine V_sld (i + 3) dL_law_1251 (by omega) (by omega) hL ?_
  have h2 := c_mxLeaf (κ := κ) (d := 90) hκ hM1 (lgv_R κ (i + 1) (i + 2)) (scv_R κ (i + 3)) (by decide)
  refine V_callV (M := ML_law) (N := MX12_leaf) dL_law_1252 lRL_204 kX12_leaf rfl rfl rfl h2 rfl rfl (Nat.le_of_ble_eq_true rfl) fit_law ⟨by show _ ≤ 601024; omega, by show _ ≤ 7293034; omega⟩ (fun v Ω' hp => ?_) (fun _ _ h => h.elim)
  obtain ⟨rfl, G2, rfl, hM2, hf2, hc2⟩ := hp
  have hI2 : Inv (K + 1) (A) := Inv_mono hI (by omega)
  have hC2 := RC_M hC1 hI2 hf2
  refine V_w64 ?_
  refine V_ex sL_law_1255 (by rfl) (by exact trivial) ?_
  refine V_callV (M := ML_law) (N := MX12_thrown) dL_law_1258 lRL_148 kX12_thrown rfl rfl rfl (c_mThrown (d := 90) hκ) rfl rfl (Nat.le_of_ble_eq_true rfl) fit_law ⟨by show _ ≤ 601024; omega, by show _ ≤ 7293034; omega⟩ (fun v Ω' hp => ?_) (fun _ _ h => h.elim)
  obtain ⟨rfl, rfl⟩ := hp
  rw [hc2]
  refine V_ex sL_law_1261 (by rfl) (by exact trivial) ?_
  refine V_icmpeq dL_law_1263 (tgt := 1268) (by decide) ⟨cd_R hcd, cd_R hcd⟩ (fun q => ?_) (fun q => ?_)
  rotate_left
  · exact absurd rfl q
  refine V_ex sL_law_1268 (by rfl) (by exact trivial) ?_
  refine V_ifne dL_law_1270 (tgt := 1284) (by decide) (cd_R hcd) (fun q => ?_) (fun q => ?_)
  · refine V_goto dL_law_1284 (tgt := 3271) (by decide) ?_
    exact go G2 s1 (A) _ _ _ _ _ hC2 hM2 hI2 (by omega) (by omega)
  have e9 : G2.2.1 189 0 = w64 (leafP (lgv κ (i + 1) (i + 2)) (scv κ (i + 3))).2 := (congrFun (hf2.2.1 189 (Or.inr rfl)) 0).trans (hv1 q)
  refine V_ex sL_law_1273 (by simp only [Option.toList, List.cons_append, List.nil_append, exN, ex1, gI, gL, gR, pI, pL, pR, lget, lset1, lset2, kl, b2I, b2L, nob, ob32, ob64, xGet, xPut, xLen, xLd, xLdR, xSt, obA, true_and, and_true, and_self, eq_self, Nat.reduceEqDiff, Nat.zero_ne_one, reduceIte, Nat.reduceLeDiff, and_false, false_and, show LF.1 189 = some (.inr (1, 1)) from rfl, upd2_eq, Int.reduceToNat, Int.toNat_natCast, e9]; rfl) (by exact ⟨⟨by decide, by decide⟩, w64_R _⟩) ?_
  refine V_lifeq dL_law_1279 (tgt := 1284) (by decide) (fun q => ?_) (fun q => ?_)
  rotate_left
  · exact absurd rfl q
  refine V_goto dL_law_1284 (tgt := 3271) (by decide) ?_
  exact go G2 s1 (A) _ _ _ _ _ hC2 hM2 hI2 (by omega) (by omega)
set_option maxRecDepth 100000 in
set_option maxHeartbeats 4000000 in
theorem lw_several {κ : Kx} (hκ : KOK κ) (hB : HB κ) (hKS : KS κ) {μ : Mu} {c t s0 i : Nat} {K : Int} {A : Ab} {G : Wd} {x5 x6 x7 : Option Vl} (hC : RC G s0 A) (hM : RM G A) (hI : Inv K A) (hR : aR G) (hi : i + 7 ≤ κ.2.2.2.2.1) (hL : κ.2.2.2.2.1 ≤ 3584) (hc : c ≤ 500000) (ht : t ≤ 7000000) (go : LG κ μ c t K (i : Nat)) : LV κ μ c t G 1287 [some (VR 1000000), some (VR 1), some (VR 145), some (VR 189), some (VI (i : Nat)), x5, x6, x7] [] := by
  refine V_ex sL_law_1287 (by rfl) (by exact trivial) ?_
  refine V_sld (i + 1) dL_law_1293 (by omega) (by omega) hL ?_
  refine V_ex sL_law_1294 (by rfl) (by exact scv_R _ _) ?_
  refine V_sld (i + 2) dL_law_1303 (by omega) (by omega) hL ?_
  refine V_ex sL_law_1304 (by rfl) (by exact scv_R _ _) ?_
  refine V_sld (i + 3) dL_law_1315 (by omega) (by omega) hL ?_
  refine V_ex sL_law_1316 (by rfl) (by exact trivial) ?_
  refine V_sld (i + 4) dL_law_1321 (by omega) (by omega) hL ?_
  refine V_ex sL_law_1322 (by rfl) (by exact trivial) ?_
  have h1 := c_wSeveral (κ := κ) (d := 90) hκ hB hC hI hR (lgv_R κ (i + 1) (i + 2)) (scv_R κ (i + 3)) (scv_R κ (i + 4)) (by decide)
  refine V_callSH (M := ML_law) (N := ML_several) dL_law_1323 lRL_205 kL_several (by decide) h1 rfl rfl (Nat.le_of_ble_eq_true rfl) fit_law ⟨by show _ ≤ 601024; omega, by show _ ≤ 7293034; omega⟩ (fun v Ω' hp => ?_) (fun _ _ h => h.elim)
  obtain ⟨rfl, hcd, G1, s1, rfl, hC1, hf1, hv1⟩ := hp
  have hM1 := RM_W hM hf1
  refine V_ex sL_law_1326 (by rfl) (by exact trivial) ?_
  refine V_sld (i + 1) dL_law_1334 (by omega) (by omega) hL ?_
  refine V_ex sL_law_1335 (by rfl) (by exact scv_R _ _) ?_
  refine V_sld (i + 2) dL_law_1344 (by omega) (by omega) hL ?_
  refine V_ex sL_law_1345 (by rfl) (by exact scv_R _ _) ?_
  refine V_sld (i + 3) dL_law_1356 (by omega) (by omega) hL ?_
  refine V_ex sL_law_1357 (by rfl) (by exact trivial) ?_
  refine V_sld (i + 4) dL_law_1362 (by omega) (by omega) hL ?_
  have h2 := c_mxSeveral (κ := κ) (d := 90) hκ hM1 (lgv_R κ (i + 1) (i + 2)) (scv_R κ (i + 3)) (scv_R κ (i + 4)) (by decide)
  refine V_callV (M := ML_law) (N := MX12_several) dL_law_1363 lRL_208 kX12_several rfl rfl rfl h2 rfl rfl (Nat.le_of_ble_eq_true rfl) fit_law ⟨by show _ ≤ 601024; omega, by show _ ≤ 7293034; omega⟩ (fun v Ω' hp => ?_) (fun _ _ h => h.elim)
  obtain ⟨rfl, G2, rfl, hM2, hf2, hc2⟩ := hp
  have hI2 : Inv (K + 1) (A) := Inv_mono hI (by omega)
  have hC2 := RC_M hC1 hI2 hf2
  refine V_w64 ?_
  refine V_ex sL_law_1366 (by rfl) (by exact trivial) ?_
  refine V_callV (M := ML_law) (N := MX12_thrown) dL_law_1369 lRL_148 kX12_thrown rfl rfl rfl (c_mThrown (d := 90) hκ) rfl rfl (Nat.le_of_ble_eq_true rfl) fit_law ⟨by show _ ≤ 601024; omega, by show _ ≤ 7293034; omega⟩ (fun v Ω' hp => ?_) (fun _ _ h => h.elim)
  obtain ⟨rfl, rfl⟩ := hp
  rw [hc2]
  refine V_ex sL_law_1372 (by rfl) (by exact trivial) ?_
  refine V_icmpeq dL_law_1374 (tgt := 1379) (by decide) ⟨cd_R hcd, cd_R hcd⟩ (fun q => ?_) (fun q => ?_)
  rotate_left
  · exact absurd rfl q
  refine V_ex sL_law_1379 (by rfl) (by exact trivial) ?_
  refine V_ifne dL_law_1381 (tgt := 1395) (by decide) (cd_R hcd) (fun q => ?_) (fun q => ?_)
  · refine V_goto dL_law_1395 (tgt := 3271) (by decide) ?_
    exact go G2 s1 (A) _ _ _ _ _ hC2 hM2 hI2 (by omega) (by omega)
  have e9 : G2.2.1 189 0 = w64 (sevP (lgv κ (i + 1) (i + 2)) (scv κ (i + 3)) (scv κ (i + 4))).2 := (congrFun (hf2.2.1 189 (Or.inr rfl)) 0).trans (hv1 q)
  refine V_ex sL_law_1384 (by simp only [Option.toList, List.cons_append, List.nil_append, exN, ex1, gI, gL, gR, pI, pL, pR, lget, lset1, lset2, kl, b2I, b2L, nob, ob32, ob64, xGet, xPut, xLen, xLd, xLdR, xSt, obA, true_and, and_true, and_self, eq_self, Nat.reduceEqDiff, Nat.zero_ne_one, reduceIte, Nat.reduceLeDiff, and_false, false_and, show LF.1 189 = some (.inr (1, 1)) from rfl, upd2_eq, Int.reduceToNat, Int.toNat_natCast, e9]; rfl) (by exact ⟨⟨by decide, by decide⟩, w64_R _⟩) ?_
  refine V_lifeq dL_law_1390 (tgt := 1395) (by decide) (fun q => ?_) (fun q => ?_)
  rotate_left
  · exact absurd rfl q
  refine V_goto dL_law_1395 (tgt := 3271) (by decide) ?_
  exact go G2 s1 (A) _ _ _ _ _ hC2 hM2 hI2 (by omega) (by omega)
set_option maxRecDepth 100000 in
set_option maxHeartbeats 4000000 in
theorem lw_ways {κ : Kx} (hκ : KOK κ) (hB : HB κ) (hKS : KS κ) {μ : Mu} {c t s0 i : Nat} {K : Int} {A : Ab} {G : Wd} {x5 x6 x7 : Option Vl} (hC : RC G s0 A) (hM : RM G A) (hI : Inv K A) (hR : aR G) (hi : i + 7 ≤ κ.2.2.2.2.1) (hL : κ.2.2.2.2.1 ≤ 3584) (hc : c ≤ 500000) (ht : t ≤ 7000000) (go : LG κ μ c t K (i : Nat)) : LV κ μ c t G 1398 [some (VR 1000000), some (VR 1), some (VR 145), some (VR 189), some (VI (i : Nat)), x5, x6, x7] [] := by
  refine V_ex sL_law_1398 (by rfl) (by exact trivial) ?_
  refine V_sld (i + 1) dL_law_1404 (by omega) (by omega) hL ?_
  refine V_ex sL_law_1405 (by rfl) (by exact scv_R _ _) ?_
  refine V_sld (i + 2) dL_law_1414 (by omega) (by omega) hL ?_
  refine V_ex sL_law_1415 (by rfl) (by exact scv_R _ _) ?_
  refine V_sld (i + 3) dL_law_1426 (by omega) (by omega) hL ?_
  refine V_ex sL_law_1427 (by rfl) (by exact trivial) ?_
  refine V_sld (i + 4) dL_law_1432 (by omega) (by omega) hL ?_
  refine V_ex sL_law_1433 (by rfl) (by exact trivial) ?_
  have h1 := c_wWays (κ := κ) (d := 90) hκ hB hC hI hR (lgv_R κ (i + 1) (i + 2)) (scv_R κ (i + 3)) (scv_R κ (i + 4)) (by decide)
  refine V_callSH (M := ML_law) (N := ML_ways) dL_law_1434 lRL_209 kL_ways (by decide) h1 rfl rfl (Nat.le_of_ble_eq_true rfl) fit_law ⟨by show _ ≤ 601024; omega, by show _ ≤ 7293034; omega⟩ (fun v Ω' hp => ?_) (fun _ _ h => h.elim)
  obtain ⟨rfl, hcd, G1, s1, rfl, hC1, hf1, hv1⟩ := hp
  have hM1 := RM_W hM hf1
  refine V_ex sL_law_1437 (by rfl) (by exact trivial) ?_
  refine V_sld (i + 1) dL_law_1445 (by omega) (by omega) hL ?_
  refine V_ex sL_law_1446 (by rfl) (by exact scv_R _ _) ?_
  refine V_sld (i + 2) dL_law_1455 (by omega) (by omega) hL ?_
  refine V_ex sL_law_1456 (by rfl) (by exact scv_R _ _) ?_
  refine V_sld (i + 3) dL_law_1467 (by omega) (by omega) hL ?_
  refine V_ex sL_law_1468 (by rfl) (by exact trivial) ?_
  refine V_sld (i + 4) dL_law_1473 (by omega) (by omega) hL ?_
  have h2 := c_mxWays (κ := κ) (d := 90) hκ hM1 (lgv_R κ (i + 1) (i + 2)) (scv_R κ (i + 3)) (scv_R κ (i + 4)) (by decide)
  refine V_callV (M := ML_law) (N := MX12_ways) dL_law_1474 lRL_211 kX12_ways rfl rfl rfl h2 rfl rfl (Nat.le_of_ble_eq_true rfl) fit_law ⟨by show _ ≤ 601024; omega, by show _ ≤ 7293034; omega⟩ (fun v Ω' hp => ?_) (fun _ _ h => h.elim)
  obtain ⟨rfl, G2, rfl, hM2, hf2, hc2⟩ := hp
  have hI2 : Inv (K + 1) (A) := Inv_mono hI (by omega)
  have hC2 := RC_M hC1 hI2 hf2
  refine V_w64 ?_
  refine V_ex sL_law_1477 (by rfl) (by exact trivial) ?_
  refine V_callV (M := ML_law) (N := MX12_thrown) dL_law_1480 lRL_148 kX12_thrown rfl rfl rfl (c_mThrown (d := 90) hκ) rfl rfl (Nat.le_of_ble_eq_true rfl) fit_law ⟨by show _ ≤ 601024; omega, by show _ ≤ 7293034; omega⟩ (fun v Ω' hp => ?_) (fun _ _ h => h.elim)
  obtain ⟨rfl, rfl⟩ := hp
  rw [hc2]
  refine V_ex sL_law_1483 (by rfl) (by exact trivial) ?_
  refine V_icmpeq dL_law_1485 (tgt := 1490) (by decide) ⟨cd_R hcd, cd_R hcd⟩ (fun q => ?_) (fun q => ?_)
  rotate_left
  · exact absurd rfl q
  refine V_ex sL_law_1490 (by rfl) (by exact trivial) ?_
  refine V_ifne dL_law_1492 (tgt := 1506) (by decide) (cd_R hcd) (fun q => ?_) (fun q => ?_)
  · refine V_goto dL_law_1506 (tgt := 3271) (by decide) ?_
    exact go G2 s1 (A) _ _ _ _ _ hC2 hM2 hI2 (by omega) (by omega)
  have e9 : G2.2.1 189 0 = w64 (waysP (lgv κ (i + 1) (i + 2)) (scv κ (i + 3)) (scv κ (i + 4))).2 := (congrFun (hf2.2.1 189 (Or.inr rfl)) 0).trans (hv1 q)
  refine V_ex sL_law_1495 (by simp only [Option.toList, List.cons_append, List.nil_append, exN, ex1, gI, gL, gR, pI, pL, pR, lget, lset1, lset2, kl, b2I, b2L, nob, ob32, ob64, xGet, xPut, xLen, xLd, xLdR, xSt, obA, true_and, and_true, and_self, eq_self, Nat.reduceEqDiff, Nat.zero_ne_one, reduceIte, Nat.reduceLeDiff, and_false, false_and, show LF.1 189 = some (.inr (1, 1)) from rfl, upd2_eq, Int.reduceToNat, Int.toNat_natCast, e9]; rfl) (by exact ⟨⟨by decide, by decide⟩, w64_R _⟩) ?_
  refine V_lifeq dL_law_1501 (tgt := 1506) (by decide) (fun q => ?_) (fun q => ?_)
  rotate_left
  · exact absurd rfl q
  refine V_goto dL_law_1506 (tgt := 3271) (by decide) ?_
  exact go G2 s1 (A) _ _ _ _ _ hC2 hM2 hI2 (by omega) (by omega)
set_option maxRecDepth 100000 in
set_option maxHeartbeats 4000000 in
theorem lw_sewn {κ : Kx} (hκ : KOK κ) (hB : HB κ) (hKS : KS κ) {μ : Mu} {c t s0 i : Nat} {K : Int} {A : Ab} {G : Wd} {x5 x6 x7 : Option Vl} (hC : RC G s0 A) (hM : RM G A) (hI : Inv K A) (hR : aR G) (hi : i + 7 ≤ κ.2.2.2.2.1) (hL : κ.2.2.2.2.1 ≤ 3584) (hc : c ≤ 500000) (ht : t ≤ 7000000) (go : LG κ μ c t K (i : Nat)) : LV κ μ c t G 1509 [some (VR 1000000), some (VR 1), some (VR 145), some (VR 189), some (VI (i : Nat)), x5, x6, x7] [] := by
  refine V_ex sL_law_1509 (by rfl) (by exact trivial) ?_
  refine V_sld (i + 1) dL_law_1515 (by omega) (by omega) hL ?_
  refine V_ex sL_law_1516 (by rfl) (by exact scv_R _ _) ?_
  refine V_sld (i + 2) dL_law_1525 (by omega) (by omega) hL ?_
  refine V_ex sL_law_1526 (by rfl) (by exact scv_R _ _) ?_
  have h1 := c_wSewn (κ := κ) (d := 90) hκ hB hC hI hR (lgv_R κ (i + 1) (i + 2)) (by decide)
  refine V_callSH (M := ML_law) (N := ML_sewn) dL_law_1533 lRL_212 kL_sewn (by decide) h1 rfl rfl (Nat.le_of_ble_eq_true rfl) fit_law ⟨by show _ ≤ 601024; omega, by show _ ≤ 7293034; omega⟩ (fun v Ω' hp => ?_) (fun _ _ h => h.elim)
  obtain ⟨rfl, hcd, G1, s1, rfl, hC1, hf1, hv1⟩ := hp
  have hM1 := RM_W hM hf1
  refine V_ex sL_law_1536 (by rfl) (by exact trivial) ?_
  refine V_sld (i + 1) dL_law_1544 (by omega) (by omega) hL ?_
  refine V_ex sL_law_1545 (by rfl) (by exact scv_R _ _) ?_
  refine V_sld (i + 2) dL_law_1554 (by omega) (by omega) hL ?_
  refine V_ex sL_law_1555 (by rfl) (by exact scv_R _ _) ?_
  have h2 := c_mxSewn (κ := κ) (d := 90) hκ hM1 (lgv_R κ (i + 1) (i + 2)) (by decide)
  refine V_callV (M := ML_law) (N := MX12_sewn) dL_law_1561 lRL_215 kX12_sewn rfl rfl rfl h2 rfl rfl (Nat.le_of_ble_eq_true rfl) fit_law ⟨by show _ ≤ 601024; omega, by show _ ≤ 7293034; omega⟩ (fun v Ω' hp => ?_) (fun _ _ h => h.elim)
  obtain ⟨rfl, G2, rfl, hM2, hf2, hc2⟩ := hp
  have hI2 : Inv (K + 1) (A) := Inv_mono hI (by omega)
  have hC2 := RC_M hC1 hI2 hf2
  refine V_w64 ?_
  refine V_ex sL_law_1564 (by rfl) (by exact trivial) ?_
  refine V_callV (M := ML_law) (N := MX12_thrown) dL_law_1567 lRL_148 kX12_thrown rfl rfl rfl (c_mThrown (d := 90) hκ) rfl rfl (Nat.le_of_ble_eq_true rfl) fit_law ⟨by show _ ≤ 601024; omega, by show _ ≤ 7293034; omega⟩ (fun v Ω' hp => ?_) (fun _ _ h => h.elim)
  obtain ⟨rfl, rfl⟩ := hp
  rw [hc2]
  refine V_ex sL_law_1570 (by rfl) (by exact trivial) ?_
  refine V_icmpeq dL_law_1572 (tgt := 1577) (by decide) ⟨cd_R hcd, cd_R hcd⟩ (fun q => ?_) (fun q => ?_)
  rotate_left
  · exact absurd rfl q
  refine V_ex sL_law_1577 (by rfl) (by exact trivial) ?_
  refine V_ifne dL_law_1579 (tgt := 1593) (by decide) (cd_R hcd) (fun q => ?_) (fun q => ?_)
  · refine V_goto dL_law_1593 (tgt := 3271) (by decide) ?_
    exact go G2 s1 (A) _ _ _ _ _ hC2 hM2 hI2 (by omega) (by omega)
  have e9 : G2.2.1 189 0 = w64 (sewnP (lgv κ (i + 1) (i + 2))).2 := (congrFun (hf2.2.1 189 (Or.inr rfl)) 0).trans (hv1 q)
  refine V_ex sL_law_1582 (by simp only [Option.toList, List.cons_append, List.nil_append, exN, ex1, gI, gL, gR, pI, pL, pR, lget, lset1, lset2, kl, b2I, b2L, nob, ob32, ob64, xGet, xPut, xLen, xLd, xLdR, xSt, obA, true_and, and_true, and_self, eq_self, Nat.reduceEqDiff, Nat.zero_ne_one, reduceIte, Nat.reduceLeDiff, and_false, false_and, show LF.1 189 = some (.inr (1, 1)) from rfl, upd2_eq, Int.reduceToNat, Int.toNat_natCast, e9]; rfl) (by exact ⟨⟨by decide, by decide⟩, w64_R _⟩) ?_
  refine V_lifeq dL_law_1588 (tgt := 1593) (by decide) (fun q => ?_) (fun q => ?_)
  rotate_left
  · exact absurd rfl q
  refine V_goto dL_law_1593 (tgt := 3271) (by decide) ?_
  exact go G2 s1 (A) _ _ _ _ _ hC2 hM2 hI2 (by omega) (by omega)
set_option maxRecDepth 100000 in
set_option maxHeartbeats 4000000 in
theorem lw_street {κ : Kx} (hκ : KOK κ) (hB : HB κ) (hKS : KS κ) {μ : Mu} {c t s0 i : Nat} {K : Int} {A : Ab} {G : Wd} {x5 x6 x7 : Option Vl} (hC : RC G s0 A) (hM : RM G A) (hI : Inv K A) (hR : aR G) (hi : i + 7 ≤ κ.2.2.2.2.1) (hL : κ.2.2.2.2.1 ≤ 3584) (hc : c ≤ 500000) (ht : t ≤ 7000000) (go : LG κ μ c t K (i : Nat)) : LV κ μ c t G 1596 [some (VR 1000000), some (VR 1), some (VR 145), some (VR 189), some (VI (i : Nat)), x5, x6, x7] [] := by
  by_cases hb : scv κ (i + 4) = 0
  · refine V_ex sL_law_1596 (by rfl) (by exact trivial) ?_
    refine V_sld (i + 1) dL_law_1602 (by omega) (by omega) hL ?_
    refine V_ex sL_law_1603 (by rfl) (by exact scv_R _ _) ?_
    refine V_sld (i + 2) dL_law_1612 (by omega) (by omega) hL ?_
    refine V_ex sL_law_1613 (by rfl) (by exact scv_R _ _) ?_
    refine V_sld (i + 3) dL_law_1624 (by omega) (by omega) hL ?_
    refine V_ex sL_law_1625 (by rfl) (by exact trivial) ?_
    refine V_sld (i + 4) dL_law_1630 (by omega) (by omega) hL ?_
    refine V_ifeq dL_law_1631 (tgt := 1638) (by decide) (scv_R _ _) (fun q => ?_) (fun q => ?_)
    rotate_left
    · exact absurd hb q
    refine V_ex sL_law_1638 (by rfl) (by exact trivial) ?_
    refine V_ex sL_law_1639 (by rfl) (by exact trivial) ?_
    have h1 := c_wStreet (κ := κ) (d := 90) hκ hB hC hI hR (lgv_R κ (i + 1) (i + 2)) (scv_R κ (i + 3)) (show R32 0 from ⟨by decide, by decide⟩) (by decide)
    refine V_callSH (M := ML_law) (N := ML_street) dL_law_1640 lRL_216 kL_street (by decide) h1 rfl rfl (Nat.le_of_ble_eq_true rfl) fit_law ⟨by show _ ≤ 601024; omega, by show _ ≤ 7293034; omega⟩ (fun v Ω' hp => ?_) (fun _ _ h => h.elim)
    obtain ⟨rfl, hcd, G1, s1, rfl, hC1, hf1, hv1⟩ := hp
    have hM1 := RM_W hM hf1
    refine V_ex sL_law_1643 (by rfl) (by exact trivial) ?_
    refine V_sld (i + 1) dL_law_1651 (by omega) (by omega) hL ?_
    refine V_ex sL_law_1652 (by rfl) (by exact scv_R _ _) ?_
    refine V_sld (i + 2) dL_law_1661 (by omega) (by omega) hL ?_
    refine V_ex sL_law_1662 (by rfl) (by exact scv_R _ _) ?_
    refine V_sld (i + 3) dL_law_1673 (by omega) (by omega) hL ?_
    refine V_ex sL_law_1674 (by rfl) (by exact trivial) ?_
    refine V_sld (i + 4) dL_law_1679 (by omega) (by omega) hL ?_
    refine V_ifeq dL_law_1680 (tgt := 1687) (by decide) (scv_R _ _) (fun q => ?_) (fun q => ?_)
    rotate_left
    · exact absurd hb q
    refine V_ex sL_law_1687 (by rfl) (by exact trivial) ?_
    have h2 := c_mxStreet (κ := κ) (d := 90) hκ hM1 (lgv_R κ (i + 1) (i + 2)) (scv_R κ (i + 3)) (show R32 0 from ⟨by decide, by decide⟩) (by decide)
    refine V_callV (M := ML_law) (N := MX12_street) dL_law_1688 lRL_219 kX12_street rfl rfl rfl h2 rfl rfl (Nat.le_of_ble_eq_true rfl) fit_law ⟨by show _ ≤ 601024; omega, by show _ ≤ 7293034; omega⟩ (fun v Ω' hp => ?_) (fun _ _ h => h.elim)
    obtain ⟨rfl, G2, rfl, hM2, hf2, hc2⟩ := hp
    have hI2 : Inv (K + 1) (A) := Inv_mono hI (by omega)
    have hC2 := RC_M hC1 hI2 hf2
    refine V_w64 ?_
    refine V_ex sL_law_1691 (by rfl) (by exact trivial) ?_
    refine V_callV (M := ML_law) (N := MX12_thrown) dL_law_1694 lRL_148 kX12_thrown rfl rfl rfl (c_mThrown (d := 90) hκ) rfl rfl (Nat.le_of_ble_eq_true rfl) fit_law ⟨by show _ ≤ 601024; omega, by show _ ≤ 7293034; omega⟩ (fun v Ω' hp => ?_) (fun _ _ h => h.elim)
    obtain ⟨rfl, rfl⟩ := hp
    rw [hc2]
    refine V_ex sL_law_1697 (by rfl) (by exact trivial) ?_
    refine V_icmpeq dL_law_1699 (tgt := 1704) (by decide) ⟨cd_R hcd, cd_R hcd⟩ (fun q => ?_) (fun q => ?_)
    rotate_left
    · exact absurd rfl q
    refine V_ex sL_law_1704 (by rfl) (by exact trivial) ?_
    refine V_ifne dL_law_1706 (tgt := 1720) (by decide) (cd_R hcd) (fun q => ?_) (fun q => ?_)
    · refine V_goto dL_law_1720 (tgt := 3271) (by decide) ?_
      exact go G2 s1 (A) _ _ _ _ _ hC2 hM2 hI2 (by omega) (by omega)
    have e9 : G2.2.1 189 0 = w64 (streetP (lgv κ (i + 1) (i + 2)) (scv κ (i + 3)) 0).2 := (congrFun (hf2.2.1 189 (Or.inr rfl)) 0).trans (hv1 q)
    refine V_ex sL_law_1709 (by simp only [Option.toList, List.cons_append, List.nil_append, exN, ex1, gI, gL, gR, pI, pL, pR, lget, lset1, lset2, kl, b2I, b2L, nob, ob32, ob64, xGet, xPut, xLen, xLd, xLdR, xSt, obA, true_and, and_true, and_self, eq_self, Nat.reduceEqDiff, Nat.zero_ne_one, reduceIte, Nat.reduceLeDiff, and_false, false_and, show LF.1 189 = some (.inr (1, 1)) from rfl, upd2_eq, Int.reduceToNat, Int.toNat_natCast, e9]; rfl) (by exact ⟨⟨by decide, by decide⟩, w64_R _⟩) ?_
    refine V_lifeq dL_law_1715 (tgt := 1720) (by decide) (fun q => ?_) (fun q => ?_)
    rotate_left
    · exact absurd rfl q
    refine V_goto dL_law_1720 (tgt := 3271) (by decide) ?_
    exact go G2 s1 (A) _ _ _ _ _ hC2 hM2 hI2 (by omega) (by omega)
  · refine V_ex sL_law_1596 (by rfl) (by exact trivial) ?_
    refine V_sld (i + 1) dL_law_1602 (by omega) (by omega) hL ?_
    refine V_ex sL_law_1603 (by rfl) (by exact scv_R _ _) ?_
    refine V_sld (i + 2) dL_law_1612 (by omega) (by omega) hL ?_
    refine V_ex sL_law_1613 (by rfl) (by exact scv_R _ _) ?_
    refine V_sld (i + 3) dL_law_1624 (by omega) (by omega) hL ?_
    refine V_ex sL_law_1625 (by rfl) (by exact trivial) ?_
    refine V_sld (i + 4) dL_law_1630 (by omega) (by omega) hL ?_
    refine V_ifeq dL_law_1631 (tgt := 1638) (by decide) (scv_R _ _) (fun q => ?_) (fun q => ?_)
    · exact absurd q hb
    refine V_ex sL_law_1634 (by rfl) (by exact trivial) ?_
    refine V_goto dL_law_1635 (tgt := 1639) (by decide) ?_
    refine V_ex sL_law_1639 (by rfl) (by exact trivial) ?_
    have h1 := c_wStreet (κ := κ) (d := 90) hκ hB hC hI hR (lgv_R κ (i + 1) (i + 2)) (scv_R κ (i + 3)) (show R32 1 from ⟨by decide, by decide⟩) (by decide)
    refine V_callSH (M := ML_law) (N := ML_street) dL_law_1640 lRL_216 kL_street (by decide) h1 rfl rfl (Nat.le_of_ble_eq_true rfl) fit_law ⟨by show _ ≤ 601024; omega, by show _ ≤ 7293034; omega⟩ (fun v Ω' hp => ?_) (fun _ _ h => h.elim)
    obtain ⟨rfl, hcd, G1, s1, rfl, hC1, hf1, hv1⟩ := hp
    have hM1 := RM_W hM hf1
    refine V_ex sL_law_1643 (by rfl) (by exact trivial) ?_
    refine V_sld (i + 1) dL_law_1651 (by omega) (by omega) hL ?_
    refine V_ex sL_law_1652 (by rfl) (by exact scv_R _ _) ?_
    refine V_sld (i + 2) dL_law_1661 (by omega) (by omega) hL ?_
    refine V_ex sL_law_1662 (by rfl) (by exact scv_R _ _) ?_
    refine V_sld (i + 3) dL_law_1673 (by omega) (by omega) hL ?_
    refine V_ex sL_law_1674 (by rfl) (by exact trivial) ?_
    refine V_sld (i + 4) dL_law_1679 (by omega) (by omega) hL ?_
    refine V_ifeq dL_law_1680 (tgt := 1687) (by decide) (scv_R _ _) (fun q => ?_) (fun q => ?_)
    · exact absurd q hb
    refine V_ex sL_law_1683 (by rfl) (by exact trivial) ?_
    refine V_goto dL_law_1684 (tgt := 1688) (by decide) ?_
    have h2 := c_mxStreet (κ := κ) (d := 90) hκ hM1 (lgv_R κ (i + 1) (i + 2)) (scv_R κ (i + 3)) (show R32 1 from ⟨by decide, by decide⟩) (by decide)
    refine V_callV (M := ML_law) (N := MX12_street) dL_law_1688 lRL_219 kX12_street rfl rfl rfl h2 rfl rfl (Nat.le_of_ble_eq_true rfl) fit_law ⟨by show _ ≤ 601024; omega, by show _ ≤ 7293034; omega⟩ (fun v Ω' hp => ?_) (fun _ _ h => h.elim)
    obtain ⟨rfl, G2, rfl, hM2, hf2, hc2⟩ := hp
    have hI2 : Inv (K + 1) (A) := Inv_mono hI (by omega)
    have hC2 := RC_M hC1 hI2 hf2
    refine V_w64 ?_
    refine V_ex sL_law_1691 (by rfl) (by exact trivial) ?_
    refine V_callV (M := ML_law) (N := MX12_thrown) dL_law_1694 lRL_148 kX12_thrown rfl rfl rfl (c_mThrown (d := 90) hκ) rfl rfl (Nat.le_of_ble_eq_true rfl) fit_law ⟨by show _ ≤ 601024; omega, by show _ ≤ 7293034; omega⟩ (fun v Ω' hp => ?_) (fun _ _ h => h.elim)
    obtain ⟨rfl, rfl⟩ := hp
    rw [hc2]
    refine V_ex sL_law_1697 (by rfl) (by exact trivial) ?_
    refine V_icmpeq dL_law_1699 (tgt := 1704) (by decide) ⟨cd_R hcd, cd_R hcd⟩ (fun q => ?_) (fun q => ?_)
    rotate_left
    · exact absurd rfl q
    refine V_ex sL_law_1704 (by rfl) (by exact trivial) ?_
    refine V_ifne dL_law_1706 (tgt := 1720) (by decide) (cd_R hcd) (fun q => ?_) (fun q => ?_)
    · refine V_goto dL_law_1720 (tgt := 3271) (by decide) ?_
      exact go G2 s1 (A) _ _ _ _ _ hC2 hM2 hI2 (by omega) (by omega)
    have e9 : G2.2.1 189 0 = w64 (streetP (lgv κ (i + 1) (i + 2)) (scv κ (i + 3)) 1).2 := (congrFun (hf2.2.1 189 (Or.inr rfl)) 0).trans (hv1 q)
    refine V_ex sL_law_1709 (by simp only [Option.toList, List.cons_append, List.nil_append, exN, ex1, gI, gL, gR, pI, pL, pR, lget, lset1, lset2, kl, b2I, b2L, nob, ob32, ob64, xGet, xPut, xLen, xLd, xLdR, xSt, obA, true_and, and_true, and_self, eq_self, Nat.reduceEqDiff, Nat.zero_ne_one, reduceIte, Nat.reduceLeDiff, and_false, false_and, show LF.1 189 = some (.inr (1, 1)) from rfl, upd2_eq, Int.reduceToNat, Int.toNat_natCast, e9]; rfl) (by exact ⟨⟨by decide, by decide⟩, w64_R _⟩) ?_
    refine V_lifeq dL_law_1715 (tgt := 1720) (by decide) (fun q => ?_) (fun q => ?_)
    rotate_left
    · exact absurd rfl q
    refine V_goto dL_law_1720 (tgt := 3271) (by decide) ?_
    exact go G2 s1 (A) _ _ _ _ _ hC2 hM2 hI2 (by omega) (by omega)
