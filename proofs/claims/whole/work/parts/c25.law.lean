/-! THE LAW: calls, by program -/
set_option maxRecDepth 100000 in
set_option maxHeartbeats 4000000 in
theorem lw_said {κ : Kx} (hκ : KOK κ) (hB : HB κ) (hKS : KS κ) {μ : Mu} {c t s0 i : Nat} {K : Int} {A : Ab} {G : Wd} {x5 x6 x7 : Option Vl} (hC : RC G s0 A) (hM : RM G A) (hI : Inv K A) (hR : aR G) (hi : i + 7 ≤ κ.2.2.2.2.1) (hL : κ.2.2.2.2.1 ≤ 3584) (hc : c ≤ 500000) (ht : t ≤ 7000000) (go : LG κ μ c t K (i : Nat)) : LV κ μ c t G 1723 [some (VR 1000000), some (VR 1), some (VR 145), some (VR 189), some (VI (i : Nat)), x5, x6, x7] [] := by
  refine V_ex sL_law_1723 (by rfl) (by exact trivial) ?_
  refine V_sld (i + 1) dL_law_1729 (by omega) (by omega) hL ?_
  refine V_ex sL_law_1730 (by rfl) (by exact scv_R _ _) ?_
  refine V_sld (i + 2) dL_law_1739 (by omega) (by omega) hL ?_
  refine V_ex sL_law_1740 (by rfl) (by exact scv_R _ _) ?_
  refine V_sld (i + 3) dL_law_1751 (by omega) (by omega) hL ?_
  refine V_ex sL_law_1752 (by rfl) (by exact trivial) ?_
  refine V_sld (i + 4) dL_law_1757 (by omega) (by omega) hL ?_
  refine V_ex sL_law_1758 (by rfl) (by exact scv_R _ _) ?_
  refine V_sld (i + 5) dL_law_1767 (by omega) (by omega) hL ?_
  refine V_ex sL_law_1768 (by rfl) (by exact scv_R _ _) ?_
  have h1 := c_wSaid (κ := κ) (d := 90) hκ hB hC hI hR (lgv_R κ (i + 1) (i + 2)) (scv_R κ (i + 3)) (lgv_R κ (i + 4) (i + 5)) (by decide)
  refine V_callSH (M := ML_law) (N := ML_said) dL_law_1775 lRL_220 kL_said (by decide) h1 rfl rfl (Nat.le_of_ble_eq_true rfl) fit_law ⟨by show _ ≤ 601024; omega, by show _ ≤ 7293034; omega⟩ (fun v Ω' hp => ?_) (fun _ _ h => h.elim)
  obtain ⟨rfl, hcd, G1, s1, rfl, hC1, hf1, hv1⟩ := hp
  have hM1 := RM_W hM hf1
  refine V_ex sL_law_1778 (by rfl) (by exact trivial) ?_
  refine V_sld (i + 1) dL_law_1786 (by omega) (by omega) hL ?_
  refine V_ex sL_law_1787 (by rfl) (by exact scv_R _ _) ?_
  refine V_sld (i + 2) dL_law_1796 (by omega) (by omega) hL ?_
  refine V_ex sL_law_1797 (by rfl) (by exact scv_R _ _) ?_
  refine V_sld (i + 3) dL_law_1808 (by omega) (by omega) hL ?_
  refine V_ex sL_law_1809 (by rfl) (by exact trivial) ?_
  refine V_sld (i + 4) dL_law_1814 (by omega) (by omega) hL ?_
  refine V_ex sL_law_1815 (by rfl) (by exact scv_R _ _) ?_
  refine V_sld (i + 5) dL_law_1824 (by omega) (by omega) hL ?_
  refine V_ex sL_law_1825 (by rfl) (by exact scv_R _ _) ?_
  have h2 := c_mxSaid (κ := κ) (d := 90) hκ hM1 (lgv_R κ (i + 1) (i + 2)) (scv_R κ (i + 3)) (lgv_R κ (i + 4) (i + 5)) (by decide)
  refine V_callV (M := ML_law) (N := MX12_said) dL_law_1831 lRL_223 kX12_said rfl rfl rfl h2 rfl rfl (Nat.le_of_ble_eq_true rfl) fit_law ⟨by show _ ≤ 601024; omega, by show _ ≤ 7293034; omega⟩ (fun v Ω' hp => ?_) (fun _ _ h => h.elim)
  obtain ⟨rfl, G2, rfl, hM2, hf2, hc2⟩ := hp
  have hI2 : Inv (K + 1) (A) := Inv_mono hI (by omega)
  have hC2 := RC_M hC1 hI2 hf2
  refine V_w32 ?_
  refine V_ex sL_law_1834 (by rfl) (by exact trivial) ?_
  refine V_callV (M := ML_law) (N := MX12_thrown) dL_law_1837 lRL_148 kX12_thrown rfl rfl rfl (c_mThrown (d := 90) hκ) rfl rfl (Nat.le_of_ble_eq_true rfl) fit_law ⟨by show _ ≤ 601024; omega, by show _ ≤ 7293034; omega⟩ (fun v Ω' hp => ?_) (fun _ _ h => h.elim)
  obtain ⟨rfl, rfl⟩ := hp
  rw [hc2]
  refine V_ex sL_law_1840 (by rfl) (by exact trivial) ?_
  refine V_icmpeq dL_law_1842 (tgt := 1847) (by decide) ⟨cd_R hcd, cd_R hcd⟩ (fun q => ?_) (fun q => ?_)
  rotate_left
  · exact absurd rfl q
  refine V_ex sL_law_1847 (by rfl) (by exact trivial) ?_
  refine V_ifne dL_law_1849 (tgt := 1864) (by decide) (cd_R hcd) (fun q => ?_) (fun q => ?_)
  · refine V_goto dL_law_1864 (tgt := 3271) (by decide) ?_
    exact go G2 s1 (A) _ _ _ _ _ hC2 hM2 hI2 (by omega) (by omega)
  have e9 : G2.2.1 189 0 = w32 (saidP (lgv κ (i + 1) (i + 2)) (scv κ (i + 3)) (lgv κ (i + 4) (i + 5))).2 := (congrFun (hf2.2.1 189 (Or.inr rfl)) 0).trans (hv1 q)
  refine V_ex sL_law_1852 (by simp only [Option.toList, List.cons_append, List.nil_append, exN, ex1, gI, gL, gR, pI, pL, pR, lget, lset1, lset2, kl, b2I, b2L, nob, ob32, ob64, xGet, xPut, xLen, xLd, xLdR, xSt, obA, true_and, and_true, and_self, eq_self, Nat.reduceEqDiff, Nat.zero_ne_one, reduceIte, Nat.reduceLeDiff, and_false, false_and, show LF.1 189 = some (.inr (1, 1)) from rfl, upd2_eq, Int.reduceToNat, Int.toNat_natCast, e9]; rfl) (by exact ⟨⟨by decide, by decide⟩, w32_R _, r64w _⟩) ?_
  refine V_lifeq dL_law_1859 (tgt := 1864) (by decide) (fun q => ?_) (fun q => ?_)
  rotate_left
  · exact absurd rfl q
  refine V_goto dL_law_1864 (tgt := 3271) (by decide) ?_
  exact go G2 s1 (A) _ _ _ _ _ hC2 hM2 hI2 (by omega) (by omega)
set_option maxRecDepth 100000 in
set_option maxHeartbeats 4000000 in
theorem lw_tells {κ : Kx} (hκ : KOK κ) (hB : HB κ) (hKS : KS κ) {μ : Mu} {c t s0 i : Nat} {K : Int} {A : Ab} {G : Wd} {x5 x6 x7 : Option Vl} (hC : RC G s0 A) (hM : RM G A) (hI : Inv K A) (hR : aR G) (hi : i + 7 ≤ κ.2.2.2.2.1) (hL : κ.2.2.2.2.1 ≤ 3584) (hc : c ≤ 500000) (ht : t ≤ 7000000) (go : LG κ μ c t K (i : Nat)) : LV κ μ c t G 1867 [some (VR 1000000), some (VR 1), some (VR 145), some (VR 189), some (VI (i : Nat)), x5, x6, x7] [] := by
  refine V_ex sL_law_1867 (by rfl) (by exact trivial) ?_
  refine V_sld (i + 1) dL_law_1873 (by omega) (by omega) hL ?_
  refine V_ex sL_law_1874 (by rfl) (by exact scv_R _ _) ?_
  refine V_sld (i + 2) dL_law_1883 (by omega) (by omega) hL ?_
  refine V_ex sL_law_1884 (by rfl) (by exact scv_R _ _) ?_
  have h1 := c_wTells (κ := κ) (d := 90) hκ hB hC hI hR (lgv_R κ (i + 1) (i + 2)) (by decide)
  refine V_callSH (M := ML_law) (N := ML_tells) dL_law_1891 lRL_224 kL_tells (by decide) h1 rfl rfl (Nat.le_of_ble_eq_true rfl) fit_law ⟨by show _ ≤ 601024; omega, by show _ ≤ 7293034; omega⟩ (fun v Ω' hp => ?_) (fun _ _ h => h.elim)
  obtain ⟨rfl, hcd, G1, s1, rfl, hC1, hf1, hv1⟩ := hp
  have hM1 := RM_W hM hf1
  refine V_ex sL_law_1894 (by rfl) (by exact trivial) ?_
  refine V_sld (i + 1) dL_law_1902 (by omega) (by omega) hL ?_
  refine V_ex sL_law_1903 (by rfl) (by exact scv_R _ _) ?_
  refine V_sld (i + 2) dL_law_1912 (by omega) (by omega) hL ?_
  refine V_ex sL_law_1913 (by rfl) (by exact scv_R _ _) ?_
  have h2 := c_mxTells (κ := κ) (d := 90) hκ hM1 hI (lgv_R κ (i + 1) (i + 2)) (by decide)
  refine V_callV (M := ML_law) (N := MX12_tells) dL_law_1919 lRL_226 kX12_tells rfl rfl rfl h2 rfl rfl (Nat.le_of_ble_eq_true rfl) fit_law ⟨by show _ ≤ 601024; omega, by show _ ≤ 7293034; omega⟩ (fun v Ω' hp => ?_) (fun _ _ h => h.elim)
  obtain ⟨rfl, G2, rfl, hM2, hf2, hc2⟩ := hp
  have hI2 : Inv (K + 1) (A) := Inv_mono hI (by omega)
  have hC2 := RC_M hC1 hI2 hf2
  refine V_w32 ?_
  refine V_ex sL_law_1922 (by rfl) (by exact trivial) ?_
  refine V_callV (M := ML_law) (N := MX12_thrown) dL_law_1925 lRL_148 kX12_thrown rfl rfl rfl (c_mThrown (d := 90) hκ) rfl rfl (Nat.le_of_ble_eq_true rfl) fit_law ⟨by show _ ≤ 601024; omega, by show _ ≤ 7293034; omega⟩ (fun v Ω' hp => ?_) (fun _ _ h => h.elim)
  obtain ⟨rfl, rfl⟩ := hp
  rw [hc2]
  refine V_ex sL_law_1928 (by rfl) (by exact trivial) ?_
  refine V_icmpeq dL_law_1930 (tgt := 1935) (by decide) ⟨cd_R hcd, cd_R hcd⟩ (fun q => ?_) (fun q => ?_)
  rotate_left
  · exact absurd rfl q
  refine V_ex sL_law_1935 (by rfl) (by exact trivial) ?_
  refine V_ifne dL_law_1937 (tgt := 1952) (by decide) (cd_R hcd) (fun q => ?_) (fun q => ?_)
  · refine V_goto dL_law_1952 (tgt := 3271) (by decide) ?_
    exact go G2 s1 (A) _ _ _ _ _ hC2 hM2 hI2 (by omega) (by omega)
  have e9 : G2.2.1 189 0 = w32 (tellsP (lgv κ (i + 1) (i + 2))).2 := (congrFun (hf2.2.1 189 (Or.inr rfl)) 0).trans (hv1 q)
  refine V_ex sL_law_1940 (by simp only [Option.toList, List.cons_append, List.nil_append, exN, ex1, gI, gL, gR, pI, pL, pR, lget, lset1, lset2, kl, b2I, b2L, nob, ob32, ob64, xGet, xPut, xLen, xLd, xLdR, xSt, obA, true_and, and_true, and_self, eq_self, Nat.reduceEqDiff, Nat.zero_ne_one, reduceIte, Nat.reduceLeDiff, and_false, false_and, show LF.1 189 = some (.inr (1, 1)) from rfl, upd2_eq, Int.reduceToNat, Int.toNat_natCast, e9]; rfl) (by exact ⟨⟨by decide, by decide⟩, w32_R _, r64w _⟩) ?_
  refine V_lifeq dL_law_1947 (tgt := 1952) (by decide) (fun q => ?_) (fun q => ?_)
  rotate_left
  · exact absurd rfl q
  refine V_goto dL_law_1952 (tgt := 3271) (by decide) ?_
  exact go G2 s1 (A) _ _ _ _ _ hC2 hM2 hI2 (by omega) (by omega)
set_option maxRecDepth 100000 in
set_option maxHeartbeats 4000000 in
theorem lw_far {κ : Kx} (hκ : KOK κ) (hB : HB κ) (hKS : KS κ) {μ : Mu} {c t s0 i : Nat} {K : Int} {A : Ab} {G : Wd} {x5 x6 x7 : Option Vl} (hC : RC G s0 A) (hM : RM G A) (hI : Inv K A) (hR : aR G) (hi : i + 7 ≤ κ.2.2.2.2.1) (hL : κ.2.2.2.2.1 ≤ 3584) (hc : c ≤ 500000) (ht : t ≤ 7000000) (go : LG κ μ c t K (i : Nat)) : LV κ μ c t G 1955 [some (VR 1000000), some (VR 1), some (VR 145), some (VR 189), some (VI (i : Nat)), x5, x6, x7] [] := by
  refine V_ex sL_law_1955 (by rfl) (by exact trivial) ?_
  refine V_sld (i + 1) dL_law_1961 (by omega) (by omega) hL ?_
  refine V_ex sL_law_1962 (by rfl) (by exact trivial) ?_
  have h1 := c_wFar (κ := κ) (d := 90) hκ hB hC hI hR (scv_R κ (i + 1)) (by decide)
  refine V_callSH (M := ML_law) (N := ML_far) dL_law_1963 lRL_227 kL_far (by decide) h1 rfl rfl (Nat.le_of_ble_eq_true rfl) fit_law ⟨by show _ ≤ 601024; omega, by show _ ≤ 7293034; omega⟩ (fun v Ω' hp => ?_) (fun _ _ h => h.elim)
  obtain ⟨rfl, hcd, G1, s1, rfl, hC1, hf1, hv1⟩ := hp
  have hM1 := RM_W hM hf1
  refine V_ex sL_law_1966 (by rfl) (by exact trivial) ?_
  refine V_sld (i + 1) dL_law_1974 (by omega) (by omega) hL ?_
  have h2 := c_mxFar (κ := κ) (d := 90) hκ hM1 hI (scv_R κ (i + 1)) (by decide)
  refine V_callV (M := ML_law) (N := MX12_far) dL_law_1975 lRL_229 kX12_far rfl rfl rfl h2 rfl rfl (Nat.le_of_ble_eq_true rfl) fit_law ⟨by show _ ≤ 601024; omega, by show _ ≤ 7293034; omega⟩ (fun v Ω' hp => ?_) (fun _ _ h => h.elim)
  obtain ⟨rfl, G2, rfl, hM2, hf2, hc2⟩ := hp
  have hI2 : Inv (K + 1) (A) := Inv_mono hI (by omega)
  have hC2 := RC_M hC1 hI2 hf2
  refine V_w32 ?_
  refine V_ex sL_law_1978 (by rfl) (by exact trivial) ?_
  refine V_callV (M := ML_law) (N := MX12_thrown) dL_law_1981 lRL_148 kX12_thrown rfl rfl rfl (c_mThrown (d := 90) hκ) rfl rfl (Nat.le_of_ble_eq_true rfl) fit_law ⟨by show _ ≤ 601024; omega, by show _ ≤ 7293034; omega⟩ (fun v Ω' hp => ?_) (fun _ _ h => h.elim)
  obtain ⟨rfl, rfl⟩ := hp
  rw [hc2]
  refine V_ex sL_law_1984 (by rfl) (by exact trivial) ?_
  refine V_icmpeq dL_law_1986 (tgt := 1991) (by decide) ⟨cd_R hcd, cd_R hcd⟩ (fun q => ?_) (fun q => ?_)
  rotate_left
  · exact absurd rfl q
  refine V_ex sL_law_1991 (by rfl) (by exact trivial) ?_
  refine V_ifne dL_law_1993 (tgt := 2008) (by decide) (cd_R hcd) (fun q => ?_) (fun q => ?_)
  · refine V_goto dL_law_2008 (tgt := 3271) (by decide) ?_
    exact go G2 s1 (A) _ _ _ _ _ hC2 hM2 hI2 (by omega) (by omega)
  have e9 : G2.2.1 189 0 = w32 (farP (leadL A.1) (scv κ (i + 1))).2 := (congrFun (hf2.2.1 189 (Or.inr rfl)) 0).trans (hv1 q)
  refine V_ex sL_law_1996 (by simp only [Option.toList, List.cons_append, List.nil_append, exN, ex1, gI, gL, gR, pI, pL, pR, lget, lset1, lset2, kl, b2I, b2L, nob, ob32, ob64, xGet, xPut, xLen, xLd, xLdR, xSt, obA, true_and, and_true, and_self, eq_self, Nat.reduceEqDiff, Nat.zero_ne_one, reduceIte, Nat.reduceLeDiff, and_false, false_and, show LF.1 189 = some (.inr (1, 1)) from rfl, upd2_eq, Int.reduceToNat, Int.toNat_natCast, e9]; rfl) (by exact ⟨⟨by decide, by decide⟩, w32_R _, r64w _⟩) ?_
  refine V_lifeq dL_law_2003 (tgt := 2008) (by decide) (fun q => ?_) (fun q => ?_)
  rotate_left
  · exact absurd rfl q
  refine V_goto dL_law_2008 (tgt := 3271) (by decide) ?_
  exact go G2 s1 (A) _ _ _ _ _ hC2 hM2 hI2 (by omega) (by omega)
set_option maxRecDepth 100000 in
set_option maxHeartbeats 4000000 in
theorem lw_lacks {κ : Kx} (hκ : KOK κ) (hB : HB κ) (hKS : KS κ) {μ : Mu} {c t s0 i : Nat} {K : Int} {A : Ab} {G : Wd} {x5 x6 x7 : Option Vl} (hC : RC G s0 A) (hM : RM G A) (hI : Inv K A) (hR : aR G) (hi : i + 7 ≤ κ.2.2.2.2.1) (hL : κ.2.2.2.2.1 ≤ 3584) (hc : c ≤ 500000) (ht : t ≤ 7000000) (go : LG κ μ c t K (i : Nat)) : LV κ μ c t G 2011 [some (VR 1000000), some (VR 1), some (VR 145), some (VR 189), some (VI (i : Nat)), x5, x6, x7] [] := by
  refine V_ex sL_law_2011 (by rfl) (by exact trivial) ?_
  refine V_sld (i + 1) dL_law_2017 (by omega) (by omega) hL ?_
  refine V_ex sL_law_2018 (by rfl) (by exact trivial) ?_
  have h1 := c_wLacks (κ := κ) (d := 90) hκ hB hC hI hR (scv_R κ (i + 1)) (by decide)
  refine V_callSH (M := ML_law) (N := ML_lacks) dL_law_2019 lRL_230 kL_lacks (by decide) h1 rfl rfl (Nat.le_of_ble_eq_true rfl) fit_law ⟨by show _ ≤ 601024; omega, by show _ ≤ 7293034; omega⟩ (fun v Ω' hp => ?_) (fun _ _ h => h.elim)
  obtain ⟨rfl, hcd, G1, s1, rfl, hC1, hf1, hv1⟩ := hp
  have hM1 := RM_W hM hf1
  refine V_ex sL_law_2022 (by rfl) (by exact trivial) ?_
  refine V_sld (i + 1) dL_law_2030 (by omega) (by omega) hL ?_
  have h2 := c_mxLacks (κ := κ) (d := 90) hκ hM1 hI (scv_R κ (i + 1)) (by decide)
  refine V_callV (M := ML_law) (N := MX12_lacks) dL_law_2031 lRL_232 kX12_lacks rfl rfl rfl h2 rfl rfl (Nat.le_of_ble_eq_true rfl) fit_law ⟨by show _ ≤ 601024; omega, by show _ ≤ 7293034; omega⟩ (fun v Ω' hp => ?_) (fun _ _ h => h.elim)
  obtain ⟨rfl, G2, rfl, hM2, hf2, hc2⟩ := hp
  have hI2 : Inv (K + 1) (A) := Inv_mono hI (by omega)
  have hC2 := RC_M hC1 hI2 hf2
  refine V_w32 ?_
  refine V_ex sL_law_2034 (by rfl) (by exact trivial) ?_
  refine V_callV (M := ML_law) (N := MX12_thrown) dL_law_2037 lRL_148 kX12_thrown rfl rfl rfl (c_mThrown (d := 90) hκ) rfl rfl (Nat.le_of_ble_eq_true rfl) fit_law ⟨by show _ ≤ 601024; omega, by show _ ≤ 7293034; omega⟩ (fun v Ω' hp => ?_) (fun _ _ h => h.elim)
  obtain ⟨rfl, rfl⟩ := hp
  rw [hc2]
  refine V_ex sL_law_2040 (by rfl) (by exact trivial) ?_
  refine V_icmpeq dL_law_2042 (tgt := 2047) (by decide) ⟨cd_R hcd, cd_R hcd⟩ (fun q => ?_) (fun q => ?_)
  rotate_left
  · exact absurd rfl q
  refine V_ex sL_law_2047 (by rfl) (by exact trivial) ?_
  refine V_ifne dL_law_2049 (tgt := 2064) (by decide) (cd_R hcd) (fun q => ?_) (fun q => ?_)
  · refine V_goto dL_law_2064 (tgt := 3271) (by decide) ?_
    exact go G2 s1 (A) _ _ _ _ _ hC2 hM2 hI2 (by omega) (by omega)
  have e9 : G2.2.1 189 0 = w32 (lacksP (leadL A.1) (scv κ (i + 1))).2 := (congrFun (hf2.2.1 189 (Or.inr rfl)) 0).trans (hv1 q)
  refine V_ex sL_law_2052 (by simp only [Option.toList, List.cons_append, List.nil_append, exN, ex1, gI, gL, gR, pI, pL, pR, lget, lset1, lset2, kl, b2I, b2L, nob, ob32, ob64, xGet, xPut, xLen, xLd, xLdR, xSt, obA, true_and, and_true, and_self, eq_self, Nat.reduceEqDiff, Nat.zero_ne_one, reduceIte, Nat.reduceLeDiff, and_false, false_and, show LF.1 189 = some (.inr (1, 1)) from rfl, upd2_eq, Int.reduceToNat, Int.toNat_natCast, e9]; rfl) (by exact ⟨⟨by decide, by decide⟩, w32_R _, r64w _⟩) ?_
  refine V_lifeq dL_law_2059 (tgt := 2064) (by decide) (fun q => ?_) (fun q => ?_)
  rotate_left
  · exact absurd rfl q
  refine V_goto dL_law_2064 (tgt := 3271) (by decide) ?_
  exact go G2 s1 (A) _ _ _ _ _ hC2 hM2 hI2 (by omega) (by omega)
set_option maxRecDepth 100000 in
set_option maxHeartbeats 4000000 in
theorem lw_skip {κ : Kx} (hκ : KOK κ) (hB : HB κ) (hKS : KS κ) {μ : Mu} {c t s0 i : Nat} {K : Int} {A : Ab} {G : Wd} {x5 x6 x7 : Option Vl} (hC : RC G s0 A) (hM : RM G A) (hI : Inv K A) (hR : aR G) (hi : i + 7 ≤ κ.2.2.2.2.1) (hL : κ.2.2.2.2.1 ≤ 3584) (hc : c ≤ 500000) (ht : t ≤ 7000000) (go : LG κ μ c t K (i : Nat)) : LV κ μ c t G 2067 [some (VR 1000000), some (VR 1), some (VR 145), some (VR 189), some (VI (i : Nat)), x5, x6, x7] [] := by
  by_cases hb : scv κ (i + 4) = 0
  · refine V_ex sL_law_2067 (by rfl) (by exact trivial) ?_
    refine V_sld (i + 1) dL_law_2073 (by omega) (by omega) hL ?_
    refine V_ex sL_law_2074 (by rfl) (by exact trivial) ?_
    refine V_sld (i + 2) dL_law_2079 (by omega) (by omega) hL ?_
    refine V_ex sL_law_2080 (by rfl) (by exact scv_R _ _) ?_
    refine V_sld (i + 3) dL_law_2089 (by omega) (by omega) hL ?_
    refine V_ex sL_law_2090 (by rfl) (by exact scv_R _ _) ?_
    refine V_sld (i + 4) dL_law_2101 (by omega) (by omega) hL ?_
    refine V_ifeq dL_law_2102 (tgt := 2109) (by decide) (scv_R _ _) (fun q => ?_) (fun q => ?_)
    rotate_left
    · exact absurd hb q
    refine V_ex sL_law_2109 (by rfl) (by exact trivial) ?_
    refine V_ex sL_law_2110 (by rfl) (by exact trivial) ?_
    have h1 := c_wSkip (κ := κ) (d := 90) hκ hB hC hI hR (scv_R κ (i + 1)) (lgv_R κ (i + 2) (i + 3)) (show R32 0 from ⟨by decide, by decide⟩) (by decide)
    refine V_callSH (M := ML_law) (N := ML_skip) dL_law_2111 lRL_233 kL_skip (by decide) h1 rfl rfl (Nat.le_of_ble_eq_true rfl) fit_law ⟨by show _ ≤ 601024; omega, by show _ ≤ 7293034; omega⟩ (fun v Ω' hp => ?_) (fun _ _ h => h.elim)
    obtain ⟨rfl, hcd, G1, s1, rfl, hC1, hf1, hv1⟩ := hp
    have hM1 := RM_W hM hf1
    refine V_ex sL_law_2114 (by rfl) (by exact trivial) ?_
    refine V_sld (i + 1) dL_law_2122 (by omega) (by omega) hL ?_
    refine V_ex sL_law_2123 (by rfl) (by exact trivial) ?_
    refine V_sld (i + 2) dL_law_2128 (by omega) (by omega) hL ?_
    refine V_ex sL_law_2129 (by rfl) (by exact scv_R _ _) ?_
    refine V_sld (i + 3) dL_law_2138 (by omega) (by omega) hL ?_
    refine V_ex sL_law_2139 (by rfl) (by exact scv_R _ _) ?_
    refine V_sld (i + 4) dL_law_2150 (by omega) (by omega) hL ?_
    refine V_ifeq dL_law_2151 (tgt := 2158) (by decide) (scv_R _ _) (fun q => ?_) (fun q => ?_)
    rotate_left
    · exact absurd hb q
    refine V_ex sL_law_2158 (by rfl) (by exact trivial) ?_
    have h2 := c_mxSkip (κ := κ) (d := 90) hκ hM1 (scv_R κ (i + 1)) (lgv_R κ (i + 2) (i + 3)) (show R32 0 from ⟨by decide, by decide⟩) (by decide)
    refine V_callV (M := ML_law) (N := MX12_skip) dL_law_2159 lRL_236 kX12_skip rfl rfl rfl h2 rfl rfl (Nat.le_of_ble_eq_true rfl) fit_law ⟨by show _ ≤ 601024; omega, by show _ ≤ 7293034; omega⟩ (fun v Ω' hp => ?_) (fun _ _ h => h.elim)
    obtain ⟨rfl, G2, rfl, hM2, hf2, hc2⟩ := hp
    have hI2 : Inv (K + 1) (A) := Inv_mono hI (by omega)
    have hC2 := RC_M hC1 hI2 hf2
    refine V_w64 ?_
    refine V_ex sL_law_2162 (by rfl) (by exact trivial) ?_
    refine V_callV (M := ML_law) (N := MX12_thrown) dL_law_2165 lRL_148 kX12_thrown rfl rfl rfl (c_mThrown (d := 90) hκ) rfl rfl (Nat.le_of_ble_eq_true rfl) fit_law ⟨by show _ ≤ 601024; omega, by show _ ≤ 7293034; omega⟩ (fun v Ω' hp => ?_) (fun _ _ h => h.elim)
    obtain ⟨rfl, rfl⟩ := hp
    rw [hc2]
    refine V_ex sL_law_2168 (by rfl) (by exact trivial) ?_
    refine V_icmpeq dL_law_2170 (tgt := 2175) (by decide) ⟨cd_R hcd, cd_R hcd⟩ (fun q => ?_) (fun q => ?_)
    rotate_left
    · exact absurd rfl q
    refine V_ex sL_law_2175 (by rfl) (by exact trivial) ?_
    refine V_ifne dL_law_2177 (tgt := 2191) (by decide) (cd_R hcd) (fun q => ?_) (fun q => ?_)
    · refine V_goto dL_law_2191 (tgt := 3271) (by decide) ?_
      exact go G2 s1 (A) _ _ _ _ _ hC2 hM2 hI2 (by omega) (by omega)
    have e9 : G2.2.1 189 0 = w64 (skipP (scv κ (i + 1)) (lgv κ (i + 2) (i + 3)) 0).2 := (congrFun (hf2.2.1 189 (Or.inr rfl)) 0).trans (hv1 q)
    refine V_ex sL_law_2180 (by simp only [Option.toList, List.cons_append, List.nil_append, exN, ex1, gI, gL, gR, pI, pL, pR, lget, lset1, lset2, kl, b2I, b2L, nob, ob32, ob64, xGet, xPut, xLen, xLd, xLdR, xSt, obA, true_and, and_true, and_self, eq_self, Nat.reduceEqDiff, Nat.zero_ne_one, reduceIte, Nat.reduceLeDiff, and_false, false_and, show LF.1 189 = some (.inr (1, 1)) from rfl, upd2_eq, Int.reduceToNat, Int.toNat_natCast, e9]; rfl) (by exact ⟨⟨by decide, by decide⟩, w64_R _⟩) ?_
    refine V_lifeq dL_law_2186 (tgt := 2191) (by decide) (fun q => ?_) (fun q => ?_)
    rotate_left
    · exact absurd rfl q
    refine V_goto dL_law_2191 (tgt := 3271) (by decide) ?_
    exact go G2 s1 (A) _ _ _ _ _ hC2 hM2 hI2 (by omega) (by omega)
  · refine V_ex sL_law_2067 (by rfl) (by exact trivial) ?_
    refine V_sld (i + 1) dL_law_2073 (by omega) (by omega) hL ?_
    refine V_ex sL_law_2074 (by rfl) (by exact trivial) ?_
    refine V_sld (i + 2) dL_law_2079 (by omega) (by omega) hL ?_
    refine V_ex sL_law_2080 (by rfl) (by exact scv_R _ _) ?_
    refine V_sld (i + 3) dL_law_2089 (by omega) (by omega) hL ?_
    refine V_ex sL_law_2090 (by rfl) (by exact scv_R _ _) ?_
    refine V_sld (i + 4) dL_law_2101 (by omega) (by omega) hL ?_
    refine V_ifeq dL_law_2102 (tgt := 2109) (by decide) (scv_R _ _) (fun q => ?_) (fun q => ?_)
    · exact absurd q hb
    refine V_ex sL_law_2105 (by rfl) (by exact trivial) ?_
    refine V_goto dL_law_2106 (tgt := 2110) (by decide) ?_
    refine V_ex sL_law_2110 (by rfl) (by exact trivial) ?_
    have h1 := c_wSkip (κ := κ) (d := 90) hκ hB hC hI hR (scv_R κ (i + 1)) (lgv_R κ (i + 2) (i + 3)) (show R32 1 from ⟨by decide, by decide⟩) (by decide)
    refine V_callSH (M := ML_law) (N := ML_skip) dL_law_2111 lRL_233 kL_skip (by decide) h1 rfl rfl (Nat.le_of_ble_eq_true rfl) fit_law ⟨by show _ ≤ 601024; omega, by show _ ≤ 7293034; omega⟩ (fun v Ω' hp => ?_) (fun _ _ h => h.elim)
    obtain ⟨rfl, hcd, G1, s1, rfl, hC1, hf1, hv1⟩ := hp
    have hM1 := RM_W hM hf1
    refine V_ex sL_law_2114 (by rfl) (by exact trivial) ?_
    refine V_sld (i + 1) dL_law_2122 (by omega) (by omega) hL ?_
    refine V_ex sL_law_2123 (by rfl) (by exact trivial) ?_
    refine V_sld (i + 2) dL_law_2128 (by omega) (by omega) hL ?_
    refine V_ex sL_law_2129 (by rfl) (by exact scv_R _ _) ?_
    refine V_sld (i + 3) dL_law_2138 (by omega) (by omega) hL ?_
    refine V_ex sL_law_2139 (by rfl) (by exact scv_R _ _) ?_
    refine V_sld (i + 4) dL_law_2150 (by omega) (by omega) hL ?_
    refine V_ifeq dL_law_2151 (tgt := 2158) (by decide) (scv_R _ _) (fun q => ?_) (fun q => ?_)
    · exact absurd q hb
    refine V_ex sL_law_2154 (by rfl) (by exact trivial) ?_
    refine V_goto dL_law_2155 (tgt := 2159) (by decide) ?_
    have h2 := c_mxSkip (κ := κ) (d := 90) hκ hM1 (scv_R κ (i + 1)) (lgv_R κ (i + 2) (i + 3)) (show R32 1 from ⟨by decide, by decide⟩) (by decide)
    refine V_callV (M := ML_law) (N := MX12_skip) dL_law_2159 lRL_236 kX12_skip rfl rfl rfl h2 rfl rfl (Nat.le_of_ble_eq_true rfl) fit_law ⟨by show _ ≤ 601024; omega, by show _ ≤ 7293034; omega⟩ (fun v Ω' hp => ?_) (fun _ _ h => h.elim)
    obtain ⟨rfl, G2, rfl, hM2, hf2, hc2⟩ := hp
    have hI2 : Inv (K + 1) (A) := Inv_mono hI (by omega)
    have hC2 := RC_M hC1 hI2 hf2
    refine V_w64 ?_
    refine V_ex sL_law_2162 (by rfl) (by exact trivial) ?_
    refine V_callV (M := ML_law) (N := MX12_thrown) dL_law_2165 lRL_148 kX12_thrown rfl rfl rfl (c_mThrown (d := 90) hκ) rfl rfl (Nat.le_of_ble_eq_true rfl) fit_law ⟨by show _ ≤ 601024; omega, by show _ ≤ 7293034; omega⟩ (fun v Ω' hp => ?_) (fun _ _ h => h.elim)
    obtain ⟨rfl, rfl⟩ := hp
    rw [hc2]
    refine V_ex sL_law_2168 (by rfl) (by exact trivial) ?_
    refine V_icmpeq dL_law_2170 (tgt := 2175) (by decide) ⟨cd_R hcd, cd_R hcd⟩ (fun q => ?_) (fun q => ?_)
    rotate_left
    · exact absurd rfl q
    refine V_ex sL_law_2175 (by rfl) (by exact trivial) ?_
    refine V_ifne dL_law_2177 (tgt := 2191) (by decide) (cd_R hcd) (fun q => ?_) (fun q => ?_)
    · refine V_goto dL_law_2191 (tgt := 3271) (by decide) ?_
      exact go G2 s1 (A) _ _ _ _ _ hC2 hM2 hI2 (by omega) (by omega)
    have e9 : G2.2.1 189 0 = w64 (skipP (scv κ (i + 1)) (lgv κ (i + 2) (i + 3)) 1).2 := (congrFun (hf2.2.1 189 (Or.inr rfl)) 0).trans (hv1 q)
    refine V_ex sL_law_2180 (by simp only [Option.toList, List.cons_append, List.nil_append, exN, ex1, gI, gL, gR, pI, pL, pR, lget, lset1, lset2, kl, b2I, b2L, nob, ob32, ob64, xGet, xPut, xLen, xLd, xLdR, xSt, obA, true_and, and_true, and_self, eq_self, Nat.reduceEqDiff, Nat.zero_ne_one, reduceIte, Nat.reduceLeDiff, and_false, false_and, show LF.1 189 = some (.inr (1, 1)) from rfl, upd2_eq, Int.reduceToNat, Int.toNat_natCast, e9]; rfl) (by exact ⟨⟨by decide, by decide⟩, w64_R _⟩) ?_
    refine V_lifeq dL_law_2186 (tgt := 2191) (by decide) (fun q => ?_) (fun q => ?_)
    rotate_left
    · exact absurd rfl q
    refine V_goto dL_law_2191 (tgt := 3271) (by decide) ?_
    exact go G2 s1 (A) _ _ _ _ _ hC2 hM2 hI2 (by omega) (by omega)
set_option maxRecDepth 100000 in
set_option maxHeartbeats 4000000 in
theorem lw_whole {κ : Kx} (hκ : KOK κ) (hB : HB κ) (hKS : KS κ) {μ : Mu} {c t s0 i : Nat} {K : Int} {A : Ab} {G : Wd} {x5 x6 x7 : Option Vl} (hC : RC G s0 A) (hM : RM G A) (hI : Inv K A) (hR : aR G) (hi : i + 7 ≤ κ.2.2.2.2.1) (hL : κ.2.2.2.2.1 ≤ 3584) (hc : c ≤ 500000) (ht : t ≤ 7000000) (go : LG κ μ c t K (i : Nat)) : LV κ μ c t G 2194 [some (VR 1000000), some (VR 1), some (VR 145), some (VR 189), some (VI (i : Nat)), x5, x6, x7] [] := by
  refine V_ex sL_law_2194 (by rfl) (by exact trivial) ?_
  refine V_sld (i + 1) dL_law_2200 (by omega) (by omega) hL ?_
  refine V_ex sL_law_2201 (by rfl) (by exact trivial) ?_
  have h1 := c_wWhole (κ := κ) (d := 90) hκ hB hC hI hR (scv_R κ (i + 1)) (by decide)
  refine V_callSH (M := ML_law) (N := ML_whole) dL_law_2202 lRL_237 kL_whole (by decide) h1 rfl rfl (Nat.le_of_ble_eq_true rfl) fit_law ⟨by show _ ≤ 601024; omega, by show _ ≤ 7293034; omega⟩ (fun v Ω' hp => ?_) (fun _ _ h => h.elim)
  obtain ⟨rfl, hcd, G1, s1, rfl, hC1, hf1, hv1⟩ := hp
  have hM1 := RM_W hM hf1
  refine V_ex sL_law_2205 (by rfl) (by exact trivial) ?_
  refine V_sld (i + 1) dL_law_2213 (by omega) (by omega) hL ?_
  have h2 := c_mxWhole (κ := κ) (d := 90) hκ hM1 hI (scv_R κ (i + 1)) (by decide)
  refine V_callV (M := ML_law) (N := MX12_whole) dL_law_2214 lRL_239 kX12_whole rfl rfl rfl h2 rfl rfl (Nat.le_of_ble_eq_true rfl) fit_law ⟨by show _ ≤ 601024; omega, by show _ ≤ 7293034; omega⟩ (fun v Ω' hp => ?_) (fun _ _ h => h.elim)
  obtain ⟨rfl, G2, rfl, hM2, hf2, hc2⟩ := hp
  have hI2 : Inv (K + 1) (A) := Inv_mono hI (by omega)
  have hC2 := RC_M hC1 hI2 hf2
  refine V_w32 ?_
  refine V_ex sL_law_2217 (by rfl) (by exact trivial) ?_
  refine V_callV (M := ML_law) (N := MX12_thrown) dL_law_2220 lRL_148 kX12_thrown rfl rfl rfl (c_mThrown (d := 90) hκ) rfl rfl (Nat.le_of_ble_eq_true rfl) fit_law ⟨by show _ ≤ 601024; omega, by show _ ≤ 7293034; omega⟩ (fun v Ω' hp => ?_) (fun _ _ h => h.elim)
  obtain ⟨rfl, rfl⟩ := hp
  rw [hc2]
  refine V_ex sL_law_2223 (by rfl) (by exact trivial) ?_
  refine V_icmpeq dL_law_2225 (tgt := 2230) (by decide) ⟨cd_R hcd, cd_R hcd⟩ (fun q => ?_) (fun q => ?_)
  rotate_left
  · exact absurd rfl q
  refine V_ex sL_law_2230 (by rfl) (by exact trivial) ?_
  refine V_ifne dL_law_2232 (tgt := 2247) (by decide) (cd_R hcd) (fun q => ?_) (fun q => ?_)
  · refine V_goto dL_law_2247 (tgt := 3271) (by decide) ?_
    exact go G2 s1 (A) _ _ _ _ _ hC2 hM2 hI2 (by omega) (by omega)
  have e9 : G2.2.1 189 0 = w32 (wholeP A (scv κ (i + 1))).2 := (congrFun (hf2.2.1 189 (Or.inr rfl)) 0).trans (hv1 q)
  refine V_ex sL_law_2235 (by simp only [Option.toList, List.cons_append, List.nil_append, exN, ex1, gI, gL, gR, pI, pL, pR, lget, lset1, lset2, kl, b2I, b2L, nob, ob32, ob64, xGet, xPut, xLen, xLd, xLdR, xSt, obA, true_and, and_true, and_self, eq_self, Nat.reduceEqDiff, Nat.zero_ne_one, reduceIte, Nat.reduceLeDiff, and_false, false_and, show LF.1 189 = some (.inr (1, 1)) from rfl, upd2_eq, Int.reduceToNat, Int.toNat_natCast, e9]; rfl) (by exact ⟨⟨by decide, by decide⟩, w32_R _, r64w _⟩) ?_
  refine V_lifeq dL_law_2242 (tgt := 2247) (by decide) (fun q => ?_) (fun q => ?_)
  rotate_left
  · exact absurd rfl q
  refine V_goto dL_law_2247 (tgt := 3271) (by decide) ?_
  exact go G2 s1 (A) _ _ _ _ _ hC2 hM2 hI2 (by omega) (by omega)
set_option maxRecDepth 100000 in
set_option maxHeartbeats 4000000 in
theorem lw_bought {κ : Kx} (hκ : KOK κ) (hB : HB κ) (hKS : KS κ) {μ : Mu} {c t s0 i : Nat} {K : Int} {A : Ab} {G : Wd} {x5 x6 x7 : Option Vl} (hC : RC G s0 A) (hM : RM G A) (hI : Inv K A) (hR : aR G) (hi : i + 7 ≤ κ.2.2.2.2.1) (hL : κ.2.2.2.2.1 ≤ 3584) (hc : c ≤ 500000) (ht : t ≤ 7000000) (go : LG κ μ c t K (i : Nat)) : LV κ μ c t G 2250 [some (VR 1000000), some (VR 1), some (VR 145), some (VR 189), some (VI (i : Nat)), x5, x6, x7] [] := by
  refine V_ex sL_law_2250 (by rfl) (by exact trivial) ?_
  refine V_sld (i + 1) dL_law_2256 (by omega) (by omega) hL ?_
  refine V_ex sL_law_2257 (by rfl) (by exact trivial) ?_
  have h1 := c_wBought (κ := κ) (d := 90) hκ hB hC hI hR (scv_R κ (i + 1)) (by decide)
  refine V_callSH (M := ML_law) (N := ML_bought) dL_law_2258 lRL_240 kL_bought (by decide) h1 rfl rfl (Nat.le_of_ble_eq_true rfl) fit_law ⟨by show _ ≤ 601024; omega, by show _ ≤ 7293034; omega⟩ (fun v Ω' hp => ?_) (fun _ _ h => h.elim)
  obtain ⟨rfl, hcd, G1, s1, rfl, hC1, hf1, hv1⟩ := hp
  have hM1 := RM_W hM hf1
  refine V_ex sL_law_2261 (by rfl) (by exact trivial) ?_
  refine V_sld (i + 1) dL_law_2269 (by omega) (by omega) hL ?_
  have h2 := c_mxBought (κ := κ) (d := 90) hκ hM1 hI (scv_R κ (i + 1)) (by decide)
  refine V_callV (M := ML_law) (N := MX12_bought) dL_law_2270 lRL_242 kX12_bought rfl rfl rfl h2 rfl rfl (Nat.le_of_ble_eq_true rfl) fit_law ⟨by show _ ≤ 601024; omega, by show _ ≤ 7293034; omega⟩ (fun v Ω' hp => ?_) (fun _ _ h => h.elim)
  obtain ⟨rfl, G2, rfl, hM2, hf2, hc2⟩ := hp
  have hI2 : Inv (K + 1) (A) := Inv_mono hI (by omega)
  have hC2 := RC_M hC1 hI2 hf2
  refine V_w32 ?_
  refine V_ex sL_law_2273 (by rfl) (by exact trivial) ?_
  refine V_callV (M := ML_law) (N := MX12_thrown) dL_law_2276 lRL_148 kX12_thrown rfl rfl rfl (c_mThrown (d := 90) hκ) rfl rfl (Nat.le_of_ble_eq_true rfl) fit_law ⟨by show _ ≤ 601024; omega, by show _ ≤ 7293034; omega⟩ (fun v Ω' hp => ?_) (fun _ _ h => h.elim)
  obtain ⟨rfl, rfl⟩ := hp
  rw [hc2]
  refine V_ex sL_law_2279 (by rfl) (by exact trivial) ?_
  refine V_icmpeq dL_law_2281 (tgt := 2286) (by decide) ⟨cd_R hcd, cd_R hcd⟩ (fun q => ?_) (fun q => ?_)
  rotate_left
  · exact absurd rfl q
  refine V_ex sL_law_2286 (by rfl) (by exact trivial) ?_
  refine V_ifne dL_law_2288 (tgt := 2303) (by decide) (cd_R hcd) (fun q => ?_) (fun q => ?_)
  · refine V_goto dL_law_2303 (tgt := 3271) (by decide) ?_
    exact go G2 s1 (A) _ _ _ _ _ hC2 hM2 hI2 (by omega) (by omega)
  have e9 : G2.2.1 189 0 = w32 (boughtP A (scv κ (i + 1))).2 := (congrFun (hf2.2.1 189 (Or.inr rfl)) 0).trans (hv1 q)
  refine V_ex sL_law_2291 (by simp only [Option.toList, List.cons_append, List.nil_append, exN, ex1, gI, gL, gR, pI, pL, pR, lget, lset1, lset2, kl, b2I, b2L, nob, ob32, ob64, xGet, xPut, xLen, xLd, xLdR, xSt, obA, true_and, and_true, and_self, eq_self, Nat.reduceEqDiff, Nat.zero_ne_one, reduceIte, Nat.reduceLeDiff, and_false, false_and, show LF.1 189 = some (.inr (1, 1)) from rfl, upd2_eq, Int.reduceToNat, Int.toNat_natCast, e9]; rfl) (by exact ⟨⟨by decide, by decide⟩, w32_R _, r64w _⟩) ?_
  refine V_lifeq dL_law_2298 (tgt := 2303) (by decide) (fun q => ?_) (fun q => ?_)
  rotate_left
  · exact absurd rfl q
  refine V_goto dL_law_2303 (tgt := 3271) (by decide) ?_
  exact go G2 s1 (A) _ _ _ _ _ hC2 hM2 hI2 (by omega) (by omega)
set_option maxRecDepth 100000 in
set_option maxHeartbeats 4000000 in
theorem lw_index {κ : Kx} (hκ : KOK κ) (hB : HB κ) (hKS : KS κ) {μ : Mu} {c t s0 i : Nat} {K : Int} {A : Ab} {G : Wd} {x5 x6 x7 : Option Vl} (hC : RC G s0 A) (hM : RM G A) (hI : Inv K A) (hR : aR G) (hi : i + 7 ≤ κ.2.2.2.2.1) (hL : κ.2.2.2.2.1 ≤ 3584) (hc : c ≤ 500000) (ht : t ≤ 7000000) (go : LG κ μ c t K (i : Nat)) : LV κ μ c t G 2306 [some (VR 1000000), some (VR 1), some (VR 145), some (VR 189), some (VI (i : Nat)), x5, x6, x7] [] := by
  refine V_ex sL_law_2306 (by rfl) (by exact trivial) ?_
  refine V_sld (i + 1) dL_law_2312 (by omega) (by omega) hL ?_
  refine V_ex sL_law_2313 (by rfl) (by exact trivial) ?_
  refine V_sld (i + 2) dL_law_2318 (by omega) (by omega) hL ?_
  refine V_ex sL_law_2319 (by rfl) (by exact trivial) ?_
  have h1 := c_wIndex (κ := κ) (d := 90) hκ hB hC hI hR (scv_R κ (i + 1)) (scv_R κ (i + 2)) (by decide)
  refine V_callSH (M := ML_law) (N := ML_index) dL_law_2320 lRL_243 kL_index (by decide) h1 rfl rfl (Nat.le_of_ble_eq_true rfl) fit_law ⟨by show _ ≤ 601024; omega, by show _ ≤ 7293034; omega⟩ (fun v Ω' hp => ?_) (fun _ _ h => h.elim)
  obtain ⟨rfl, hcd, G1, s1, rfl, hC1, hf1, hv1⟩ := hp
  have hM1 := RM_W hM hf1
  refine V_ex sL_law_2323 (by rfl) (by exact trivial) ?_
  refine V_sld (i + 1) dL_law_2331 (by omega) (by omega) hL ?_
  refine V_ex sL_law_2332 (by rfl) (by exact trivial) ?_
  refine V_sld (i + 2) dL_law_2337 (by omega) (by omega) hL ?_
  have h2 := c_mxIndex (κ := κ) (d := 90) hκ hM1 hI (scv_R κ (i + 1)) (scv_R κ (i + 2)) (by decide)
  refine V_callV (M := ML_law) (N := MX12_index) dL_law_2338 lRL_245 kX12_index rfl rfl rfl h2 rfl rfl (Nat.le_of_ble_eq_true rfl) fit_law ⟨by show _ ≤ 601024; omega, by show _ ≤ 7293034; omega⟩ (fun v Ω' hp => ?_) (fun _ _ h => h.elim)
  obtain ⟨rfl, G2, rfl, hM2, hf2, hc2⟩ := hp
  have hI2 : Inv (K + 1) (A) := Inv_mono hI (by omega)
  have hC2 := RC_M hC1 hI2 hf2
  refine V_w32 ?_
  rw [w32_w]
  refine V_ex sL_law_2341 (by rfl) (by exact trivial) ?_
  refine V_callV (M := ML_law) (N := MX12_thrown) dL_law_2344 lRL_148 kX12_thrown rfl rfl rfl (c_mThrown (d := 90) hκ) rfl rfl (Nat.le_of_ble_eq_true rfl) fit_law ⟨by show _ ≤ 601024; omega, by show _ ≤ 7293034; omega⟩ (fun v Ω' hp => ?_) (fun _ _ h => h.elim)
  obtain ⟨rfl, rfl⟩ := hp
  rw [hc2]
  refine V_ex sL_law_2347 (by rfl) (by exact trivial) ?_
  refine V_icmpeq dL_law_2349 (tgt := 2354) (by decide) ⟨cd_R hcd, cd_R hcd⟩ (fun q => ?_) (fun q => ?_)
  rotate_left
  · exact absurd rfl q
  refine V_ex sL_law_2354 (by rfl) (by exact trivial) ?_
  refine V_ifne dL_law_2356 (tgt := 2371) (by decide) (cd_R hcd) (fun q => ?_) (fun q => ?_)
  · refine V_goto dL_law_2371 (tgt := 3271) (by decide) ?_
    exact go G2 s1 (A) _ _ _ _ _ hC2 hM2 hI2 (by omega) (by omega)
  have e9 : G2.2.1 189 0 = w32 (indexP A (scv κ (i + 1)) (scv κ (i + 2))).2 := (congrFun (hf2.2.1 189 (Or.inr rfl)) 0).trans (hv1 q)
  refine V_ex sL_law_2359 (by simp only [Option.toList, List.cons_append, List.nil_append, exN, ex1, gI, gL, gR, pI, pL, pR, lget, lset1, lset2, kl, b2I, b2L, nob, ob32, ob64, xGet, xPut, xLen, xLd, xLdR, xSt, obA, true_and, and_true, and_self, eq_self, Nat.reduceEqDiff, Nat.zero_ne_one, reduceIte, Nat.reduceLeDiff, and_false, false_and, show LF.1 189 = some (.inr (1, 1)) from rfl, upd2_eq, Int.reduceToNat, Int.toNat_natCast, e9]; rfl) (by exact ⟨⟨by decide, by decide⟩, w32_R _, r64w _⟩) ?_
  refine V_lifeq dL_law_2366 (tgt := 2371) (by decide) (fun q => ?_) (fun q => ?_)
  rotate_left
  · exact absurd rfl q
  refine V_goto dL_law_2371 (tgt := 3271) (by decide) ?_
  exact go G2 s1 (A) _ _ _ _ _ hC2 hM2 hI2 (by omega) (by omega)
set_option maxRecDepth 100000 in
set_option maxHeartbeats 4000000 in
theorem lw_seed {κ : Kx} (hκ : KOK κ) (hB : HB κ) (hKS : KS κ) {μ : Mu} {c t s0 i : Nat} {K : Int} {A : Ab} {G : Wd} {x5 x6 x7 : Option Vl} (hC : RC G s0 A) (hM : RM G A) (hI : Inv K A) (hR : aR G) (hi : i + 7 ≤ κ.2.2.2.2.1) (hL : κ.2.2.2.2.1 ≤ 3584) (hc : c ≤ 500000) (ht : t ≤ 7000000) (go : LG κ μ c t K (i : Nat)) : LV κ μ c t G 2374 [some (VR 1000000), some (VR 1), some (VR 145), some (VR 189), some (VI (i : Nat)), x5, x6, x7] [] := by
  refine V_ex sL_law_2374 (by rfl) (by exact trivial) ?_
  refine V_sld (i + 1) dL_law_2380 (by omega) (by omega) hL ?_
  refine V_ex sL_law_2381 (by rfl) (by exact trivial) ?_
  refine V_sld (i + 2) dL_law_2386 (by omega) (by omega) hL ?_
  refine V_ex sL_law_2387 (by rfl) (by exact trivial) ?_
  refine V_sld (i + 3) dL_law_2392 (by omega) (by omega) hL ?_
  refine V_ex sL_law_2393 (by rfl) (by exact trivial) ?_
  have h1 := c_wSeed (κ := κ) (d := 90) hκ hB hC hI hR (scv_R κ (i + 1)) (scv_R κ (i + 2)) (scv_R κ (i + 3)) (by decide)
  refine V_callSH (M := ML_law) (N := ML_seed) dL_law_2394 lRL_246 kL_seed (by decide) h1 rfl rfl (Nat.le_of_ble_eq_true rfl) fit_law ⟨by show _ ≤ 601024; omega, by show _ ≤ 7293034; omega⟩ (fun v Ω' hp => ?_) (fun _ _ h => h.elim)
  obtain ⟨rfl, hcd, G1, s1, rfl, hC1, hf1, hv1⟩ := hp
  have hM1 := RM_W hM hf1
  refine V_ex sL_law_2397 (by rfl) (by exact trivial) ?_
  refine V_sld (i + 1) dL_law_2405 (by omega) (by omega) hL ?_
  refine V_ex sL_law_2406 (by rfl) (by exact trivial) ?_
  refine V_sld (i + 2) dL_law_2411 (by omega) (by omega) hL ?_
  refine V_ex sL_law_2412 (by rfl) (by exact trivial) ?_
  refine V_sld (i + 3) dL_law_2417 (by omega) (by omega) hL ?_
  have h2 := c_mxSeed (κ := κ) (d := 90) (v := (scv κ (i + 2))) hκ hM1 hI (scv_R κ (i + 1)) (scv_R κ (i + 3)) (by decide)
  refine V_callV (M := ML_law) (N := MX12_seed) dL_law_2418 lRL_249 kX12_seed rfl rfl rfl h2 rfl rfl (Nat.le_of_ble_eq_true rfl) fit_law ⟨by show _ ≤ 601024; omega, by show _ ≤ 7293034; omega⟩ (fun v Ω' hp => ?_) (fun _ _ h => h.elim)
  obtain ⟨rfl, G2, rfl, hM2, hf2, hc2⟩ := hp
  have hI2 : Inv (K + 1) ((seedP A (scv κ (i + 1)) (scv κ (i + 2)) (scv κ (i + 3))).2.2) := Inv_seed hI
  have hC2 := RC_M hC1 hI2 hf2
  refine V_w32 ?_
  refine V_ex sL_law_2421 (by rfl) (by exact trivial) ?_
  refine V_callV (M := ML_law) (N := MX12_thrown) dL_law_2424 lRL_148 kX12_thrown rfl rfl rfl (c_mThrown (d := 90) hκ) rfl rfl (Nat.le_of_ble_eq_true rfl) fit_law ⟨by show _ ≤ 601024; omega, by show _ ≤ 7293034; omega⟩ (fun v Ω' hp => ?_) (fun _ _ h => h.elim)
  obtain ⟨rfl, rfl⟩ := hp
  rw [hc2]
  refine V_ex sL_law_2427 (by rfl) (by exact trivial) ?_
  refine V_icmpeq dL_law_2429 (tgt := 2434) (by decide) ⟨cd_R hcd, cd_R hcd⟩ (fun q => ?_) (fun q => ?_)
  rotate_left
  · exact absurd rfl q
  refine V_ex sL_law_2434 (by rfl) (by exact trivial) ?_
  refine V_ifne dL_law_2436 (tgt := 2451) (by decide) (cd_R hcd) (fun q => ?_) (fun q => ?_)
  · refine V_goto dL_law_2451 (tgt := 3271) (by decide) ?_
    exact go G2 s1 ((seedP A (scv κ (i + 1)) (scv κ (i + 2)) (scv κ (i + 3))).2.2) _ _ _ _ _ hC2 hM2 hI2 (by omega) (by omega)
  have e9 : G2.2.1 189 0 = w32 (seedP A (scv κ (i + 1)) (scv κ (i + 2)) (scv κ (i + 3))).2.1 := (congrFun (hf2.2.1 189 (Or.inr rfl)) 0).trans (hv1 q)
  refine V_ex sL_law_2439 (by simp only [Option.toList, List.cons_append, List.nil_append, exN, ex1, gI, gL, gR, pI, pL, pR, lget, lset1, lset2, kl, b2I, b2L, nob, ob32, ob64, xGet, xPut, xLen, xLd, xLdR, xSt, obA, true_and, and_true, and_self, eq_self, Nat.reduceEqDiff, Nat.zero_ne_one, reduceIte, Nat.reduceLeDiff, and_false, false_and, show LF.1 189 = some (.inr (1, 1)) from rfl, upd2_eq, Int.reduceToNat, Int.toNat_natCast, e9]; rfl) (by exact ⟨⟨by decide, by decide⟩, w32_R _, r64w _⟩) ?_
  refine V_lifeq dL_law_2446 (tgt := 2451) (by decide) (fun q => ?_) (fun q => ?_)
  rotate_left
  · exact absurd rfl q
  refine V_goto dL_law_2451 (tgt := 3271) (by decide) ?_
  exact go G2 s1 ((seedP A (scv κ (i + 1)) (scv κ (i + 2)) (scv κ (i + 3))).2.2) _ _ _ _ _ hC2 hM2 hI2 (by omega) (by omega)
set_option maxRecDepth 100000 in
set_option maxHeartbeats 4000000 in
theorem lw_way {κ : Kx} (hκ : KOK κ) (hB : HB κ) (hKS : KS κ) {μ : Mu} {c t s0 i : Nat} {K : Int} {A : Ab} {G : Wd} {x5 x6 x7 : Option Vl} (hC : RC G s0 A) (hM : RM G A) (hI : Inv K A) (hR : aR G) (hi : i + 7 ≤ κ.2.2.2.2.1) (hL : κ.2.2.2.2.1 ≤ 3584) (hc : c ≤ 500000) (ht : t ≤ 7000000) (go : LG κ μ c t K (i : Nat)) : LV κ μ c t G 2454 [some (VR 1000000), some (VR 1), some (VR 145), some (VR 189), some (VI (i : Nat)), x5, x6, x7] [] := by
  refine V_ex sL_law_2454 (by rfl) (by exact trivial) ?_
  refine V_sld (i + 1) dL_law_2460 (by omega) (by omega) hL ?_
  refine V_ex sL_law_2461 (by rfl) (by exact scv_R _ _) ?_
  refine V_sld (i + 2) dL_law_2470 (by omega) (by omega) hL ?_
  refine V_ex sL_law_2471 (by rfl) (by exact scv_R _ _) ?_
  refine V_sld (i + 3) dL_law_2482 (by omega) (by omega) hL ?_
  refine V_ex sL_law_2483 (by rfl) (by exact trivial) ?_
  refine V_sld (i + 4) dL_law_2488 (by omega) (by omega) hL ?_
  refine V_ex sL_law_2489 (by rfl) (by exact trivial) ?_
  refine V_sld (i + 5) dL_law_2494 (by omega) (by omega) hL ?_
  refine V_ex sL_law_2495 (by rfl) (by exact scv_R _ _) ?_
  refine V_sld (i + 6) dL_law_2505 (by omega) (by omega) hL ?_
  refine V_ex sL_law_2506 (by rfl) (by exact scv_R _ _) ?_
  have h1 := c_wWay (κ := κ) (d := 90) hκ hB hC hI hR (lgv_R κ (i + 1) (i + 2)) (scv_R κ (i + 3)) (scv_R κ (i + 4)) (lgv_R κ (i + 5) (i + 6)) (by decide)
  refine V_callSH (M := ML_law) (N := ML_way) dL_law_2513 lRL_250 kL_way (by decide) h1 rfl rfl (Nat.le_of_ble_eq_true rfl) fit_law ⟨by show _ ≤ 601024; omega, by show _ ≤ 7293034; omega⟩ (fun v Ω' hp => ?_) (fun _ _ h => h.elim)
  obtain ⟨rfl, hcd, G1, s1, rfl, hC1, hf1, hv1⟩ := hp
  have hM1 := RM_W hM hf1
  refine V_ex sL_law_2516 (by rfl) (by exact trivial) ?_
  refine V_sld (i + 1) dL_law_2524 (by omega) (by omega) hL ?_
  refine V_ex sL_law_2525 (by rfl) (by exact scv_R _ _) ?_
  refine V_sld (i + 2) dL_law_2534 (by omega) (by omega) hL ?_
  refine V_ex sL_law_2535 (by rfl) (by exact scv_R _ _) ?_
  refine V_sld (i + 3) dL_law_2546 (by omega) (by omega) hL ?_
  refine V_ex sL_law_2547 (by rfl) (by exact trivial) ?_
  refine V_sld (i + 4) dL_law_2552 (by omega) (by omega) hL ?_
  refine V_ex sL_law_2553 (by rfl) (by exact trivial) ?_
  refine V_sld (i + 5) dL_law_2558 (by omega) (by omega) hL ?_
  refine V_ex sL_law_2559 (by rfl) (by exact scv_R _ _) ?_
  refine V_sld (i + 6) dL_law_2569 (by omega) (by omega) hL ?_
  refine V_ex sL_law_2570 (by rfl) (by exact scv_R _ _) ?_
  have h2 := c_mxWay (κ := κ) (d := 90) hκ hM1 (lgv_R κ (i + 1) (i + 2)) (scv_R κ (i + 3)) (scv_R κ (i + 4)) (lgv_R κ (i + 5) (i + 6)) (by decide)
  refine V_callV (M := ML_law) (N := MX12_way) dL_law_2576 lRL_253 kX12_way rfl rfl rfl h2 rfl rfl (Nat.le_of_ble_eq_true rfl) fit_law ⟨by show _ ≤ 601024; omega, by show _ ≤ 7293034; omega⟩ (fun v Ω' hp => ?_) (fun _ _ h => h.elim)
  obtain ⟨rfl, G2, rfl, hM2, hf2, hc2⟩ := hp
  have hI2 : Inv (K + 1) (A) := Inv_mono hI (by omega)
  have hC2 := RC_M hC1 hI2 hf2
  refine V_w64 ?_
  refine V_ex sL_law_2579 (by rfl) (by exact trivial) ?_
  refine V_callV (M := ML_law) (N := MX12_thrown) dL_law_2582 lRL_148 kX12_thrown rfl rfl rfl (c_mThrown (d := 90) hκ) rfl rfl (Nat.le_of_ble_eq_true rfl) fit_law ⟨by show _ ≤ 601024; omega, by show _ ≤ 7293034; omega⟩ (fun v Ω' hp => ?_) (fun _ _ h => h.elim)
  obtain ⟨rfl, rfl⟩ := hp
  rw [hc2]
  refine V_ex sL_law_2585 (by rfl) (by exact trivial) ?_
  refine V_icmpeq dL_law_2587 (tgt := 2592) (by decide) ⟨cd_R hcd, cd_R hcd⟩ (fun q => ?_) (fun q => ?_)
  rotate_left
  · exact absurd rfl q
  refine V_ex sL_law_2592 (by rfl) (by exact trivial) ?_
  refine V_ifne dL_law_2594 (tgt := 2608) (by decide) (cd_R hcd) (fun q => ?_) (fun q => ?_)
  · refine V_goto dL_law_2608 (tgt := 3271) (by decide) ?_
    exact go G2 s1 (A) _ _ _ _ _ hC2 hM2 hI2 (by omega) (by omega)
  have e9 : G2.2.1 189 0 = w64 (wayP (lgv κ (i + 1) (i + 2)) (scv κ (i + 3)) (scv κ (i + 4)) (lgv κ (i + 5) (i + 6))).2 := (congrFun (hf2.2.1 189 (Or.inr rfl)) 0).trans (hv1 q)
  refine V_ex sL_law_2597 (by simp only [Option.toList, List.cons_append, List.nil_append, exN, ex1, gI, gL, gR, pI, pL, pR, lget, lset1, lset2, kl, b2I, b2L, nob, ob32, ob64, xGet, xPut, xLen, xLd, xLdR, xSt, obA, true_and, and_true, and_self, eq_self, Nat.reduceEqDiff, Nat.zero_ne_one, reduceIte, Nat.reduceLeDiff, and_false, false_and, show LF.1 189 = some (.inr (1, 1)) from rfl, upd2_eq, Int.reduceToNat, Int.toNat_natCast, e9]; rfl) (by exact ⟨⟨by decide, by decide⟩, w64_R _⟩) ?_
  refine V_lifeq dL_law_2603 (tgt := 2608) (by decide) (fun q => ?_) (fun q => ?_)
  rotate_left
  · exact absurd rfl q
  refine V_goto dL_law_2608 (tgt := 3271) (by decide) ?_
  exact go G2 s1 (A) _ _ _ _ _ hC2 hM2 hI2 (by omega) (by omega)
