/-! THE LAW: calls, by program -/
set_option maxRecDepth 100000 in
set_option maxHeartbeats 4000000 in
theorem lw_feed {κ : Kx} (hκ : KOK κ) (hB : HB κ) (hKS : KS κ) {μ : Mu} {c t s0 i : Nat} {K : Int} {A : Ab} {G : Wd} {x5 x6 x7 : Option Vl} (hC : RC G s0 A) (hM : RM G A) (hI : Inv K A) (hR : aR G) (hi : i + 7 ≤ κ.2.2.2.2.1) (hL : κ.2.2.2.2.1 ≤ 3584) (hc : c ≤ 500000) (ht : t ≤ 7000000) (go : LG κ μ c t K (i : Nat)) : LV κ μ c t G 220 [some (VR 1000000), some (VR 1), some (VR 145), some (VR 189), some (VI (i : Nat)), x5, x6, x7] [] := by
  refine V_ex sL_law_220 (by rfl) (by exact trivial) ?_
  refine V_sld (i + 1) dL_law_226 (by omega) (by omega) hL ?_
  refine V_ex sL_law_227 (by rfl) (by exact trivial) ?_
  refine V_sld (i + 2) dL_law_232 (by omega) (by omega) hL ?_
  refine V_ex sL_law_233 (by rfl) (by exact trivial) ?_
  refine V_sld (i + 3) dL_law_238 (by omega) (by omega) hL ?_
  refine V_ex sL_law_239 (by rfl) (by exact trivial) ?_
  refine V_sld (i + 4) dL_law_244 (by omega) (by omega) hL ?_
  refine V_ex sL_law_245 (by rfl) (by exact trivial) ?_
  refine V_sld (i + 5) dL_law_250 (by omega) (by omega) hL ?_
  have h1 := c_xFeed (κ := κ) (d := 90) hκ hC hI hR (scv_R κ (i + 1)) (scv_R κ (i + 2)) (scv_R κ (i + 3)) (scv_R κ (i + 4)) (scv_R κ (i + 5)) (by decide)
  refine V_callV (M := ML_law) (N := MX11_feed) dL_law_251 lRL_137 kX11_feed rfl rfl rfl h1 rfl rfl (Nat.le_of_ble_eq_true rfl) fit_law ⟨by show _ ≤ 601024; omega, by show _ ≤ 7293034; omega⟩ (fun v Ω' hp => ?_) (fun _ _ h => h.elim)
  obtain ⟨-, rfl, G1, s1, rfl, hC1, hf1⟩ := hp
  have hM1 := RM_W hM hf1.c
  refine V_w32 ?_
  refine V_ex sL_law_254 (by rfl) (by exact trivial) ?_
  refine V_sld (i + 1) dL_law_260 (by omega) (by omega) hL ?_
  refine V_ex sL_law_261 (by rfl) (by exact trivial) ?_
  refine V_sld (i + 2) dL_law_266 (by omega) (by omega) hL ?_
  refine V_ex sL_law_267 (by rfl) (by exact trivial) ?_
  refine V_sld (i + 3) dL_law_272 (by omega) (by omega) hL ?_
  refine V_ex sL_law_273 (by rfl) (by exact trivial) ?_
  refine V_sld (i + 4) dL_law_278 (by omega) (by omega) hL ?_
  refine V_ex sL_law_279 (by rfl) (by exact trivial) ?_
  refine V_sld (i + 5) dL_law_284 (by omega) (by omega) hL ?_
  have h2 := c_mxFeed (κ := κ) (d := 90) hκ hM1 hI (scv_R κ (i + 1)) (scv_R κ (i + 2)) (scv_R κ (i + 3)) (scv_R κ (i + 4)) (scv_R κ (i + 5)) (by decide)
  refine V_callV (M := ML_law) (N := MX12_feed) dL_law_285 lRL_141 kX12_feed rfl rfl rfl h2 rfl rfl (Nat.le_of_ble_eq_true rfl) fit_law ⟨by show _ ≤ 601024; omega, by show _ ≤ 7293034; omega⟩ (fun v Ω' hp => ?_) (fun _ _ h => h.elim)
  obtain ⟨rfl, G2, rfl, hM2, hf2, hc2⟩ := hp
  have hI2 : Inv (K + 1) ((feedP A (scv κ (i + 1)) (scv κ (i + 2)) (scv κ (i + 3)) (scv κ (i + 4)) (scv κ (i + 5))).2.2) := Inv_mono (Inv_feed hI) (by omega)
  have hC2 := RC_M hC1 hI2 hf2
  refine V_w32 ?_
  refine V_icmpeq dL_law_288 (tgt := 3271) (by decide) ⟨w32_R _, w32_R _⟩ (fun q => ?_) (fun q => ?_)
  rotate_left
  · exact absurd rfl q
  exact go G2 s1 ((feedP A (scv κ (i + 1)) (scv κ (i + 2)) (scv κ (i + 3)) (scv κ (i + 4)) (scv κ (i + 5))).2.2) _ _ _ _ _ hC2 hM2 hI2 (by omega) (by omega)
set_option maxRecDepth 100000 in
set_option maxHeartbeats 4000000 in
theorem lw_shelf {κ : Kx} (hκ : KOK κ) (hB : HB κ) (hKS : KS κ) {μ : Mu} {c t s0 i : Nat} {K : Int} {A : Ab} {G : Wd} {x5 x6 x7 : Option Vl} (hC : RC G s0 A) (hM : RM G A) (hI : Inv K A) (hR : aR G) (hi : i + 7 ≤ κ.2.2.2.2.1) (hL : κ.2.2.2.2.1 ≤ 3584) (hc : c ≤ 500000) (ht : t ≤ 7000000) (go : LG κ μ c t K (i : Nat)) : LV κ μ c t G 293 [some (VR 1000000), some (VR 1), some (VR 145), some (VR 189), some (VI (i : Nat)), x5, x6, x7] [] := by
  refine V_ex sL_law_293 (by rfl) (by exact trivial) ?_
  refine V_sld (i + 1) dL_law_299 (by omega) (by omega) hL ?_
  refine V_ex sL_law_300 (by rfl) (by exact trivial) ?_
  have h1 := c_wShelf (κ := κ) (d := 90) hκ hB hKS hC hI hR (scv_R κ (i + 1)) (by decide)
  refine V_callSH (M := ML_law) (N := ML_shelf) dL_law_301 lRL_142 kL_shelf (by decide) h1 rfl rfl (Nat.le_of_ble_eq_true rfl) fit_law ⟨by show _ ≤ 601024; omega, by show _ ≤ 7293034; omega⟩ (fun v Ω' hp => ?_) (fun _ _ h => h.elim)
  obtain ⟨rfl, hcd, G1, s1, rfl, hC1, hf1, hv1⟩ := hp
  have hM1 := RM_W hM hf1
  refine V_ex sL_law_304 (by rfl) (by exact trivial) ?_
  refine V_sld (i + 1) dL_law_312 (by omega) (by omega) hL ?_
  have h2 := c_mxShelf (κ := κ) (d := 90) hκ hKS hM1 hI (scv_R κ (i + 1)) (by decide)
  refine V_callV (M := ML_law) (N := MX12_shelf) dL_law_313 lRL_147 kX12_shelf rfl rfl rfl h2 rfl rfl (Nat.le_of_ble_eq_true rfl) fit_law ⟨by show _ ≤ 601024; omega, by show _ ≤ 7293034; omega⟩ (fun v Ω' hp => ?_) (fun _ _ h => h.elim)
  obtain ⟨rfl, G2, rfl, hM2, hf2, hc2⟩ := hp
  have hI2 : Inv (K + 1) ((shelfP A (scv κ (i + 1))).2.2) := Inv_shelf hI
  have hC2 := RC_M hC1 hI2 hf2
  refine V_w32 ?_
  refine V_ex sL_law_316 (by rfl) (by exact trivial) ?_
  refine V_callV (M := ML_law) (N := MX12_thrown) dL_law_319 lRL_148 kX12_thrown rfl rfl rfl (c_mThrown (d := 90) hκ) rfl rfl (Nat.le_of_ble_eq_true rfl) fit_law ⟨by show _ ≤ 601024; omega, by show _ ≤ 7293034; omega⟩ (fun v Ω' hp => ?_) (fun _ _ h => h.elim)
  obtain ⟨rfl, rfl⟩ := hp
  rw [hc2]
  refine V_ex sL_law_322 (by rfl) (by exact trivial) ?_
  refine V_icmpeq dL_law_324 (tgt := 329) (by decide) ⟨cd_R hcd, cd_R hcd⟩ (fun q => ?_) (fun q => ?_)
  rotate_left
  · exact absurd rfl q
  refine V_ex sL_law_329 (by rfl) (by exact trivial) ?_
  refine V_ifne dL_law_331 (tgt := 346) (by decide) (cd_R hcd) (fun q => ?_) (fun q => ?_)
  · refine V_goto dL_law_346 (tgt := 3271) (by decide) ?_
    exact go G2 s1 ((shelfP A (scv κ (i + 1))).2.2) _ _ _ _ _ hC2 hM2 hI2 (by omega) (by omega)
  have e9 : G2.2.1 189 0 = w32 (shelfP A (scv κ (i + 1))).2.1 := (congrFun (hf2.2.1 189 (Or.inr rfl)) 0).trans (hv1 q)
  refine V_ex sL_law_334 (by simp only [Option.toList, List.cons_append, List.nil_append, exN, ex1, gI, gL, gR, pI, pL, pR, lget, lset1, lset2, kl, b2I, b2L, nob, ob32, ob64, xGet, xPut, xLen, xLd, xLdR, xSt, obA, true_and, and_true, and_self, eq_self, Nat.reduceEqDiff, Nat.zero_ne_one, reduceIte, Nat.reduceLeDiff, and_false, false_and, show LF.1 189 = some (.inr (1, 1)) from rfl, upd2_eq, Int.reduceToNat, Int.toNat_natCast, e9]; rfl) (by exact ⟨⟨by decide, by decide⟩, w32_R _, r64w _⟩) ?_
  refine V_lifeq dL_law_341 (tgt := 346) (by decide) (fun q => ?_) (fun q => ?_)
  rotate_left
  · exact absurd rfl q
  refine V_goto dL_law_346 (tgt := 3271) (by decide) ?_
  exact go G2 s1 ((shelfP A (scv κ (i + 1))).2.2) _ _ _ _ _ hC2 hM2 hI2 (by omega) (by omega)
set_option maxRecDepth 100000 in
set_option maxHeartbeats 4000000 in
theorem lw_fault {κ : Kx} (hκ : KOK κ) (hB : HB κ) (hKS : KS κ) {μ : Mu} {c t s0 i : Nat} {K : Int} {A : Ab} {G : Wd} {x5 x6 x7 : Option Vl} (hC : RC G s0 A) (hM : RM G A) (hI : Inv K A) (hR : aR G) (hi : i + 7 ≤ κ.2.2.2.2.1) (hL : κ.2.2.2.2.1 ≤ 3584) (hc : c ≤ 500000) (ht : t ≤ 7000000) (go : LG κ μ c t K (i : Nat)) : LV κ μ c t G 349 [some (VR 1000000), some (VR 1), some (VR 145), some (VR 189), some (VI (i : Nat)), x5, x6, x7] [] := by
  refine V_ex sL_law_349 (by rfl) (by exact trivial) ?_
  have h1 := c_xFault (κ := κ) (d := 90) hκ hC  
  refine V_callV (M := ML_law) (N := MX11_fault) dL_law_350 lRL_152 kX11_fault rfl rfl rfl h1 rfl rfl (Nat.le_of_ble_eq_true rfl) fit_law ⟨by show _ ≤ 601024; omega, by show _ ≤ 7293034; omega⟩ (fun v Ω' hp => ?_) (fun _ _ h => h.elim)
  obtain ⟨-, rfl, G1, s1, rfl, hC1, hf1⟩ := hp
  have hM1 := RM_W hM hf1.c
  refine V_w32 ?_
  refine V_ex sL_law_353 (by rfl) (by exact trivial) ?_
  have h2 := c_mxFault (κ := κ) (d := 90) hκ hM1 (by decide)
  refine V_callV (M := ML_law) (N := MX12_fault) dL_law_354 lRL_155 kX12_fault rfl rfl rfl h2 rfl rfl (Nat.le_of_ble_eq_true rfl) fit_law ⟨by show _ ≤ 601024; omega, by show _ ≤ 7293034; omega⟩ (fun v Ω' hp => ?_) (fun _ _ h => h.elim)
  obtain ⟨rfl, G2, rfl, hM2, hf2, hc2⟩ := hp
  have hI2 : Inv (K + 1) (A) := Inv_mono hI (by omega)
  have hC2 := RC_M hC1 hI2 hf2
  refine V_w32 ?_
  refine V_icmpeq dL_law_357 (tgt := 3271) (by decide) ⟨w32_R _, w32_R _⟩ (fun q => ?_) (fun q => ?_)
  rotate_left
  · exact absurd rfl q
  exact go G2 s1 (A) _ _ _ _ _ hC2 hM2 hI2 (by omega) (by omega)
set_option maxRecDepth 100000 in
set_option maxHeartbeats 4000000 in
theorem lw_count {κ : Kx} (hκ : KOK κ) (hB : HB κ) (hKS : KS κ) {μ : Mu} {c t s0 i : Nat} {K : Int} {A : Ab} {G : Wd} {x5 x6 x7 : Option Vl} (hC : RC G s0 A) (hM : RM G A) (hI : Inv K A) (hR : aR G) (hi : i + 7 ≤ κ.2.2.2.2.1) (hL : κ.2.2.2.2.1 ≤ 3584) (hc : c ≤ 500000) (ht : t ≤ 7000000) (go : LG κ μ c t K (i : Nat)) : LV κ μ c t G 362 [some (VR 1000000), some (VR 1), some (VR 145), some (VR 189), some (VI (i : Nat)), x5, x6, x7] [] := by
  refine V_ex sL_law_362 (by rfl) (by exact trivial) ?_
  refine V_sld (i + 1) dL_law_368 (by omega) (by omega) hL ?_
  refine V_ex sL_law_369 (by rfl) (by exact trivial) ?_
  have h1 := c_wCount (κ := κ) (d := 90) hκ hB hC hI hR (scv_R κ (i + 1)) (by decide)
  refine V_callSH (M := ML_law) (N := ML_count) dL_law_370 lRL_156 kL_count (by decide) h1 rfl rfl (Nat.le_of_ble_eq_true rfl) fit_law ⟨by show _ ≤ 601024; omega, by show _ ≤ 7293034; omega⟩ (fun v Ω' hp => ?_) (fun _ _ h => h.elim)
  obtain ⟨rfl, hcd, G1, s1, rfl, hC1, hf1, hv1⟩ := hp
  have hM1 := RM_W hM hf1
  refine V_ex sL_law_373 (by rfl) (by exact trivial) ?_
  refine V_sld (i + 1) dL_law_381 (by omega) (by omega) hL ?_
  have h2 := c_mxCount (κ := κ) (d := 90) hκ hM1 hI (scv_R κ (i + 1)) (by decide)
  refine V_callV (M := ML_law) (N := MX12_count) dL_law_382 lRL_158 kX12_count rfl rfl rfl h2 rfl rfl (Nat.le_of_ble_eq_true rfl) fit_law ⟨by show _ ≤ 601024; omega, by show _ ≤ 7293034; omega⟩ (fun v Ω' hp => ?_) (fun _ _ h => h.elim)
  obtain ⟨rfl, G2, rfl, hM2, hf2, hc2⟩ := hp
  have hI2 : Inv (K + 1) (A) := Inv_mono hI (by omega)
  have hC2 := RC_M hC1 hI2 hf2
  refine V_w32 ?_
  refine V_ex sL_law_385 (by rfl) (by exact trivial) ?_
  refine V_callV (M := ML_law) (N := MX12_thrown) dL_law_388 lRL_148 kX12_thrown rfl rfl rfl (c_mThrown (d := 90) hκ) rfl rfl (Nat.le_of_ble_eq_true rfl) fit_law ⟨by show _ ≤ 601024; omega, by show _ ≤ 7293034; omega⟩ (fun v Ω' hp => ?_) (fun _ _ h => h.elim)
  obtain ⟨rfl, rfl⟩ := hp
  rw [hc2]
  refine V_ex sL_law_391 (by rfl) (by exact trivial) ?_
  refine V_icmpeq dL_law_393 (tgt := 398) (by decide) ⟨cd_R hcd, cd_R hcd⟩ (fun q => ?_) (fun q => ?_)
  rotate_left
  · exact absurd rfl q
  refine V_ex sL_law_398 (by rfl) (by exact trivial) ?_
  refine V_ifne dL_law_400 (tgt := 415) (by decide) (cd_R hcd) (fun q => ?_) (fun q => ?_)
  · refine V_goto dL_law_415 (tgt := 3271) (by decide) ?_
    exact go G2 s1 (A) _ _ _ _ _ hC2 hM2 hI2 (by omega) (by omega)
  have e9 : G2.2.1 189 0 = w32 (countP A (scv κ (i + 1))).2 := (congrFun (hf2.2.1 189 (Or.inr rfl)) 0).trans (hv1 q)
  refine V_ex sL_law_403 (by simp only [Option.toList, List.cons_append, List.nil_append, exN, ex1, gI, gL, gR, pI, pL, pR, lget, lset1, lset2, kl, b2I, b2L, nob, ob32, ob64, xGet, xPut, xLen, xLd, xLdR, xSt, obA, true_and, and_true, and_self, eq_self, Nat.reduceEqDiff, Nat.zero_ne_one, reduceIte, Nat.reduceLeDiff, and_false, false_and, show LF.1 189 = some (.inr (1, 1)) from rfl, upd2_eq, Int.reduceToNat, Int.toNat_natCast, e9]; rfl) (by exact ⟨⟨by decide, by decide⟩, w32_R _, r64w _⟩) ?_
  refine V_lifeq dL_law_410 (tgt := 415) (by decide) (fun q => ?_) (fun q => ?_)
  rotate_left
  · exact absurd rfl q
  refine V_goto dL_law_415 (tgt := 3271) (by decide) ?_
  exact go G2 s1 (A) _ _ _ _ _ hC2 hM2 hI2 (by omega) (by omega)
set_option maxRecDepth 100000 in
set_option maxHeartbeats 4000000 in
theorem lw_isThere {κ : Kx} (hκ : KOK κ) (hB : HB κ) (hKS : KS κ) {μ : Mu} {c t s0 i : Nat} {K : Int} {A : Ab} {G : Wd} {x5 x6 x7 : Option Vl} (hC : RC G s0 A) (hM : RM G A) (hI : Inv K A) (hR : aR G) (hi : i + 7 ≤ κ.2.2.2.2.1) (hL : κ.2.2.2.2.1 ≤ 3584) (hc : c ≤ 500000) (ht : t ≤ 7000000) (go : LG κ μ c t K (i : Nat)) : LV κ μ c t G 486 [some (VR 1000000), some (VR 1), some (VR 145), some (VR 189), some (VI (i : Nat)), x5, x6, x7] [] := by
  refine V_ex sL_law_486 (by rfl) (by exact trivial) ?_
  refine V_sld (i + 1) dL_law_492 (by omega) (by omega) hL ?_
  refine V_ex sL_law_493 (by rfl) (by exact trivial) ?_
  refine V_sld (i + 2) dL_law_498 (by omega) (by omega) hL ?_
  refine V_ex sL_law_499 (by rfl) (by exact trivial) ?_
  have h1 := c_wIsThere (κ := κ) (d := 90) hκ hB hC hI hR (scv_R κ (i + 1)) (scv_R κ (i + 2)) (by decide)
  refine V_callSH (M := ML_law) (N := ML_isThere) dL_law_500 lRL_163 kL_isThere (by decide) h1 rfl rfl (Nat.le_of_ble_eq_true rfl) fit_law ⟨by show _ ≤ 601024; omega, by show _ ≤ 7293034; omega⟩ (fun v Ω' hp => ?_) (fun _ _ h => h.elim)
  obtain ⟨rfl, hcd, G1, s1, rfl, hC1, hf1, hv1⟩ := hp
  have hM1 := RM_W hM hf1
  refine V_ex sL_law_503 (by rfl) (by exact trivial) ?_
  refine V_sld (i + 1) dL_law_511 (by omega) (by omega) hL ?_
  refine V_ex sL_law_512 (by rfl) (by exact trivial) ?_
  refine V_sld (i + 2) dL_law_517 (by omega) (by omega) hL ?_
  have h2 := c_mxIsThere (κ := κ) (d := 90) hκ hM1 hI (scv_R κ (i + 1)) (scv_R κ (i + 2)) (by decide)
  refine V_callV (M := ML_law) (N := MX12_isThere) dL_law_518 lRL_165 kX12_isThere rfl rfl rfl h2 rfl rfl (Nat.le_of_ble_eq_true rfl) fit_law ⟨by show _ ≤ 601024; omega, by show _ ≤ 7293034; omega⟩ (fun v Ω' hp => ?_) (fun _ _ h => h.elim)
  obtain ⟨rfl, G2, rfl, hM2, hf2, hc2⟩ := hp
  have hI2 : Inv (K + 1) (A) := Inv_mono hI (by omega)
  have hC2 := RC_M hC1 hI2 hf2
  refine V_w32 ?_
  refine V_ex sL_law_521 (by rfl) (by exact trivial) ?_
  refine V_callV (M := ML_law) (N := MX12_thrown) dL_law_524 lRL_148 kX12_thrown rfl rfl rfl (c_mThrown (d := 90) hκ) rfl rfl (Nat.le_of_ble_eq_true rfl) fit_law ⟨by show _ ≤ 601024; omega, by show _ ≤ 7293034; omega⟩ (fun v Ω' hp => ?_) (fun _ _ h => h.elim)
  obtain ⟨rfl, rfl⟩ := hp
  rw [hc2]
  refine V_ex sL_law_527 (by rfl) (by exact trivial) ?_
  refine V_icmpeq dL_law_529 (tgt := 534) (by decide) ⟨cd_R hcd, cd_R hcd⟩ (fun q => ?_) (fun q => ?_)
  rotate_left
  · exact absurd rfl q
  refine V_ex sL_law_534 (by rfl) (by exact trivial) ?_
  refine V_ifne dL_law_536 (tgt := 558) (by decide) (cd_R hcd) (fun q => ?_) (fun q => ?_)
  · refine V_goto dL_law_558 (tgt := 3271) (by decide) ?_
    exact go G2 s1 (A) _ _ _ _ _ hC2 hM2 hI2 (by omega) (by omega)
  have e9 : G2.2.1 189 0 = zb (isThereP A (scv κ (i + 1)) (scv κ (i + 2))).2 := (congrFun (hf2.2.1 189 (Or.inr rfl)) 0).trans (hv1 q)
  refine V_ex sL_law_539 (by simp only [Option.toList, List.cons_append, List.nil_append, exN, ex1, gI, gL, gR, pI, pL, pR, lget, lset1, lset2, kl, b2I, b2L, nob, ob32, ob64, xGet, xPut, xLen, xLd, xLdR, xSt, obA, true_and, and_true, and_self, eq_self, Nat.reduceEqDiff, Nat.zero_ne_one, reduceIte, Nat.reduceLeDiff, and_false, false_and, show LF.1 189 = some (.inr (1, 1)) from rfl, upd2_eq, Int.reduceToNat, Int.toNat_natCast, e9]; rfl) (by simp only [ob, obA]; and_intros <;> first | decide | omega) ?_
  refine V_ifeq dL_law_544 (tgt := 551) (by decide) (w32_R _) (fun q9 => ?_) (fun q9 => ?_)
  · have hzb : zb (isThereP A (scv κ (i + 1)) (scv κ (i + 2))).2 = 0 := if_pos q9
    refine V_ex sL_law_551 (by rfl) (by exact trivial) ?_
    rw [hzb]
    refine V_ex sL_law_552 (by rfl) (by exact ⟨⟨by decide, by decide⟩, ⟨by decide, by decide⟩⟩) ?_
    refine V_lifeq dL_law_553 (tgt := 558) (by decide) (fun q8 => ?_) (fun q8 => ?_)
    rotate_left
    · exact absurd rfl q8
    refine V_goto dL_law_558 (tgt := 3271) (by decide) ?_
    exact go G2 s1 (A) _ _ _ _ _ hC2 hM2 hI2 (by omega) (by omega)
  · have hzb : zb (isThereP A (scv κ (i + 1)) (scv κ (i + 2))).2 = 1 := if_neg q9
    refine V_ex sL_law_547 (by rfl) (by exact trivial) ?_
    refine V_goto dL_law_548 (tgt := 552) (by decide) ?_
    rw [hzb]
    refine V_ex sL_law_552 (by rfl) (by exact ⟨⟨by decide, by decide⟩, ⟨by decide, by decide⟩⟩) ?_
    refine V_lifeq dL_law_553 (tgt := 558) (by decide) (fun q8 => ?_) (fun q8 => ?_)
    rotate_left
    · exact absurd rfl q8
    refine V_goto dL_law_558 (tgt := 3271) (by decide) ?_
    exact go G2 s1 (A) _ _ _ _ _ hC2 hM2 hI2 (by omega) (by omega)
set_option maxRecDepth 100000 in
set_option maxHeartbeats 4000000 in
theorem lw_sum {κ : Kx} (hκ : KOK κ) (hB : HB κ) (hKS : KS κ) {μ : Mu} {c t s0 i : Nat} {K : Int} {A : Ab} {G : Wd} {x5 x6 x7 : Option Vl} (hC : RC G s0 A) (hM : RM G A) (hI : Inv K A) (hR : aR G) (hi : i + 7 ≤ κ.2.2.2.2.1) (hL : κ.2.2.2.2.1 ≤ 3584) (hc : c ≤ 500000) (ht : t ≤ 7000000) (go : LG κ μ c t K (i : Nat)) : LV κ μ c t G 697 [some (VR 1000000), some (VR 1), some (VR 145), some (VR 189), some (VI (i : Nat)), x5, x6, x7] [] := by
  refine V_ex sL_law_697 (by rfl) (by exact trivial) ?_
  refine V_sld (i + 1) dL_law_703 (by omega) (by omega) hL ?_
  refine V_ex sL_law_704 (by rfl) (by exact trivial) ?_
  have h1 := c_wSum (κ := κ) (d := 90) hκ hB hC hI hR (scv_R κ (i + 1)) (by decide)
  refine V_callSH (M := ML_law) (N := ML_sum) dL_law_705 lRL_172 kL_sum (by decide) h1 rfl rfl (Nat.le_of_ble_eq_true rfl) fit_law ⟨by show _ ≤ 601024; omega, by show _ ≤ 7293034; omega⟩ (fun v Ω' hp => ?_) (fun _ _ h => h.elim)
  obtain ⟨rfl, hcd, G1, s1, rfl, hC1, hf1, hv1⟩ := hp
  have hM1 := RM_W hM hf1
  refine V_ex sL_law_708 (by rfl) (by exact trivial) ?_
  refine V_sld (i + 1) dL_law_716 (by omega) (by omega) hL ?_
  have h2 := c_mxSum (κ := κ) (d := 90) hκ hM1 hI (scv_R κ (i + 1)) (by decide)
  refine V_callV (M := ML_law) (N := MX12_sum) dL_law_717 lRL_174 kX12_sum rfl rfl rfl h2 rfl rfl (Nat.le_of_ble_eq_true rfl) fit_law ⟨by show _ ≤ 601024; omega, by show _ ≤ 7293034; omega⟩ (fun v Ω' hp => ?_) (fun _ _ h => h.elim)
  obtain ⟨rfl, G2, rfl, hM2, hf2, hc2⟩ := hp
  have hI2 : Inv (K + 1) (A) := Inv_mono hI (by omega)
  have hC2 := RC_M hC1 hI2 hf2
  refine V_w64 ?_
  refine V_ex sL_law_720 (by rfl) (by exact trivial) ?_
  refine V_callV (M := ML_law) (N := MX12_thrown) dL_law_723 lRL_148 kX12_thrown rfl rfl rfl (c_mThrown (d := 90) hκ) rfl rfl (Nat.le_of_ble_eq_true rfl) fit_law ⟨by show _ ≤ 601024; omega, by show _ ≤ 7293034; omega⟩ (fun v Ω' hp => ?_) (fun _ _ h => h.elim)
  obtain ⟨rfl, rfl⟩ := hp
  rw [hc2]
  refine V_ex sL_law_726 (by rfl) (by exact trivial) ?_
  refine V_icmpeq dL_law_728 (tgt := 733) (by decide) ⟨cd_R hcd, cd_R hcd⟩ (fun q => ?_) (fun q => ?_)
  rotate_left
  · exact absurd rfl q
  refine V_ex sL_law_733 (by rfl) (by exact trivial) ?_
  refine V_ifne dL_law_735 (tgt := 749) (by decide) (cd_R hcd) (fun q => ?_) (fun q => ?_)
  · refine V_goto dL_law_749 (tgt := 3271) (by decide) ?_
    exact go G2 s1 (A) _ _ _ _ _ hC2 hM2 hI2 (by omega) (by omega)
  have e9 : G2.2.1 189 0 = w64 (sumP A (scv κ (i + 1))).2 := (congrFun (hf2.2.1 189 (Or.inr rfl)) 0).trans (hv1 q)
  refine V_ex sL_law_738 (by simp only [Option.toList, List.cons_append, List.nil_append, exN, ex1, gI, gL, gR, pI, pL, pR, lget, lset1, lset2, kl, b2I, b2L, nob, ob32, ob64, xGet, xPut, xLen, xLd, xLdR, xSt, obA, true_and, and_true, and_self, eq_self, Nat.reduceEqDiff, Nat.zero_ne_one, reduceIte, Nat.reduceLeDiff, and_false, false_and, show LF.1 189 = some (.inr (1, 1)) from rfl, upd2_eq, Int.reduceToNat, Int.toNat_natCast, e9]; rfl) (by exact ⟨⟨by decide, by decide⟩, w64_R _⟩) ?_
  refine V_lifeq dL_law_744 (tgt := 749) (by decide) (fun q => ?_) (fun q => ?_)
  rotate_left
  · exact absurd rfl q
  refine V_goto dL_law_749 (tgt := 3271) (by decide) ?_
  exact go G2 s1 (A) _ _ _ _ _ hC2 hM2 hI2 (by omega) (by omega)
set_option maxRecDepth 100000 in
set_option maxHeartbeats 4000000 in
theorem lw_fits {κ : Kx} (hκ : KOK κ) (hB : HB κ) (hKS : KS κ) {μ : Mu} {c t s0 i : Nat} {K : Int} {A : Ab} {G : Wd} {x5 x6 x7 : Option Vl} (hC : RC G s0 A) (hM : RM G A) (hI : Inv K A) (hR : aR G) (hi : i + 7 ≤ κ.2.2.2.2.1) (hL : κ.2.2.2.2.1 ≤ 3584) (hc : c ≤ 500000) (ht : t ≤ 7000000) (go : LG κ μ c t K (i : Nat)) : LV κ μ c t G 1089 [some (VR 1000000), some (VR 1), some (VR 145), some (VR 189), some (VI (i : Nat)), x5, x6, x7] [] := by
  refine V_ex sL_law_1089 (by rfl) (by exact trivial) ?_
  refine V_sld (i + 1) dL_law_1095 (by omega) (by omega) hL ?_
  refine V_ex sL_law_1096 (by rfl) (by exact scv_R _ _) ?_
  refine V_sld (i + 2) dL_law_1105 (by omega) (by omega) hL ?_
  refine V_ex sL_law_1106 (by rfl) (by exact scv_R _ _) ?_
  refine V_sld (i + 3) dL_law_1117 (by omega) (by omega) hL ?_
  refine V_ex sL_law_1118 (by rfl) (by exact trivial) ?_
  have h1 := c_wFits (κ := κ) (d := 90) hκ hB hC hI hR (lgv_R κ (i + 1) (i + 2)) (scv_R κ (i + 3)) (by decide)
  refine V_callSH (M := ML_law) (N := ML_fits) dL_law_1119 lRL_198 kL_fits (by decide) h1 rfl rfl (Nat.le_of_ble_eq_true rfl) fit_law ⟨by show _ ≤ 601024; omega, by show _ ≤ 7293034; omega⟩ (fun v Ω' hp => ?_) (fun _ _ h => h.elim)
  obtain ⟨rfl, hcd, G1, s1, rfl, hC1, hf1, hv1⟩ := hp
  have hM1 := RM_W hM hf1
  refine V_ex sL_law_1122 (by rfl) (by exact trivial) ?_
  refine V_sld (i + 1) dL_law_1130 (by omega) (by omega) hL ?_
  refine V_ex sL_law_1131 (by rfl) (by exact scv_R _ _) ?_
  refine V_sld (i + 2) dL_law_1140 (by omega) (by omega) hL ?_
  refine V_ex sL_law_1141 (by rfl) (by exact scv_R _ _) ?_
  refine V_sld (i + 3) dL_law_1152 (by omega) (by omega) hL ?_
  have h2 := c_mxFits (κ := κ) (d := 90) hκ hM1 (lgv_R κ (i + 1) (i + 2)) (scv_R κ (i + 3)) (by decide)
  refine V_callV (M := ML_law) (N := MX12_fits) dL_law_1153 lRL_201 kX12_fits rfl rfl rfl h2 rfl rfl (Nat.le_of_ble_eq_true rfl) fit_law ⟨by show _ ≤ 601024; omega, by show _ ≤ 7293034; omega⟩ (fun v Ω' hp => ?_) (fun _ _ h => h.elim)
  obtain ⟨rfl, G2, rfl, hM2, hf2, hc2⟩ := hp
  have hI2 : Inv (K + 1) (A) := Inv_mono hI (by omega)
  have hC2 := RC_M hC1 hI2 hf2
  refine V_w64 ?_
  refine V_ex sL_law_1156 (by rfl) (by exact trivial) ?_
  refine V_callV (M := ML_law) (N := MX12_thrown) dL_law_1159 lRL_148 kX12_thrown rfl rfl rfl (c_mThrown (d := 90) hκ) rfl rfl (Nat.le_of_ble_eq_true rfl) fit_law ⟨by show _ ≤ 601024; omega, by show _ ≤ 7293034; omega⟩ (fun v Ω' hp => ?_) (fun _ _ h => h.elim)
  obtain ⟨rfl, rfl⟩ := hp
  rw [hc2]
  refine V_ex sL_law_1162 (by rfl) (by exact trivial) ?_
  refine V_icmpeq dL_law_1164 (tgt := 1169) (by decide) ⟨cd_R hcd, cd_R hcd⟩ (fun q => ?_) (fun q => ?_)
  rotate_left
  · exact absurd rfl q
  refine V_ex sL_law_1169 (by rfl) (by exact trivial) ?_
  refine V_ifne dL_law_1171 (tgt := 1185) (by decide) (cd_R hcd) (fun q => ?_) (fun q => ?_)
  · refine V_goto dL_law_1185 (tgt := 3271) (by decide) ?_
    exact go G2 s1 (A) _ _ _ _ _ hC2 hM2 hI2 (by omega) (by omega)
  have e9 : G2.2.1 189 0 = w64 (fitsP (lgv κ (i + 1) (i + 2)) (scv κ (i + 3))).2 := (congrFun (hf2.2.1 189 (Or.inr rfl)) 0).trans (hv1 q)
  refine V_ex sL_law_1174 (by simp only [Option.toList, List.cons_append, List.nil_append, exN, ex1, gI, gL, gR, pI, pL, pR, lget, lset1, lset2, kl, b2I, b2L, nob, ob32, ob64, xGet, xPut, xLen, xLd, xLdR, xSt, obA, true_and, and_true, and_self, eq_self, Nat.reduceEqDiff, Nat.zero_ne_one, reduceIte, Nat.reduceLeDiff, and_false, false_and, show LF.1 189 = some (.inr (1, 1)) from rfl, upd2_eq, Int.reduceToNat, Int.toNat_natCast, e9]; rfl) (by exact ⟨⟨by decide, by decide⟩, w64_R _⟩) ?_
  refine V_lifeq dL_law_1180 (tgt := 1185) (by decide) (fun q => ?_) (fun q => ?_)
  rotate_left
  · exact absurd rfl q
  refine V_goto dL_law_1185 (tgt := 3271) (by decide) ?_
  exact go G2 s1 (A) _ _ _ _ _ hC2 hM2 hI2 (by omega) (by omega)
set_option maxRecDepth 100000 in
set_option maxHeartbeats 4000000 in
theorem lw_street {κ : Kx} (hκ : KOK κ) (hB : HB κ) (hKS : KS κ) {μ : Mu} {c t s0 i : Nat} {K : Int} {A : Ab} {G : Wd} {x5 x6 x7 : Option Vl} (hC : RC G s0 A) (hM : RM G A) (hI : Inv K A) (hR : aR G) (hi : i + 7 ≤ κ.2.2.2.2.1) (hL : κ.2.2.2.2.1 ≤ 3584) (hc : c ≤ 500000) (ht : t ≤ 7000000) (go : LG κ μ c t K (i : Nat)) : LV κ μ c t G 1596 [some (VR 1000000), some (VR 1), some (VR 145), some (VR 189), some (VI (i : Nat)), x5, x6, x7] [] := by
  by_cases hb : scv κ (i + 4) = 0
  · refine V_ex sL_law_1596 (by rfl) (by exact trivial) ?_
    refine V_sld (i + 1) dL_law_1602 (by omega) (by omega) hL ?_
    refine V_ex sL_law_1603 (by rfl) (by exact scv_R _ _) ?_
    refine V_sld (i + 2) dL_law_1612 (by omega) (by omega) hL ?_
    refine V_ex sL_law_1613 (by rfl) (by exact scv_R _ _) ?_
    refine V_sld (i + 3) dL_law_1624 (by omega) (by omega) hL ?_
    refine V_ex sL_law_1625 (by rfl) (by exact trivial) ?_
    refine V_sld (i + 4) dL_law_1630 (by omega) (by omega) hL ?_
    refine V_ifeq dL_law_1631 (tgt := 1638) (by decide) (scv_R _ _) (fun q => ?_) (fun q => ?_)
    rotate_left
    · exact absurd hb q
    refine V_ex sL_law_1638 (by rfl) (by exact trivial) ?_
    refine V_ex sL_law_1639 (by rfl) (by exact trivial) ?_
    have h1 := c_wStreet (κ := κ) (d := 90) hκ hB hC hI hR (lgv_R κ (i + 1) (i + 2)) (scv_R κ (i + 3)) (show R32 0 from ⟨by decide, by decide⟩) (by decide)
    refine V_callSH (M := ML_law) (N := ML_street) dL_law_1640 lRL_216 kL_street (by decide) h1 rfl rfl (Nat.le_of_ble_eq_true rfl) fit_law ⟨by show _ ≤ 601024; omega, by show _ ≤ 7293034; omega⟩ (fun v Ω' hp => ?_) (fun _ _ h => h.elim)
    obtain ⟨rfl, hcd, G1, s1, rfl, hC1, hf1, hv1⟩ := hp
    have hM1 := RM_W hM hf1
    refine V_ex sL_law_1643 (by rfl) (by exact trivial) ?_
    refine V_sld (i + 1) dL_law_1651 (by omega) (by omega) hL ?_
    refine V_ex sL_law_1652 (by rfl) (by exact scv_R _ _) ?_
    refine V_sld (i + 2) dL_law_1661 (by omega) (by omega) hL ?_
    refine V_ex sL_law_1662 (by rfl) (by exact scv_R _ _) ?_
    refine V_sld (i + 3) dL_law_1673 (by omega) (by omega) hL ?_
    refine V_ex sL_law_1674 (by rfl) (by exact trivial) ?_
    refine V_sld (i + 4) dL_law_1679 (by omega) (by omega) hL ?_
    refine V_ifeq dL_law_1680 (tgt := 1687) (by decide) (scv_R _ _) (fun q => ?_) (fun q => ?_)
    rotate_left
    · exact absurd hb q
    refine V_ex sL_law_1687 (by rfl) (by exact trivial) ?_
    have h2 := c_mxStreet (κ := κ) (d := 90) hκ hM1 (lgv_R κ (i + 1) (i + 2)) (scv_R κ (i + 3)) (show R32 0 from ⟨by decide, by decide⟩) (by decide)
    refine V_callV (M := ML_law) (N := MX12_street) dL_law_1688 lRL_219 kX12_street rfl rfl rfl h2 rfl rfl (Nat.le_of_ble_eq_true rfl) fit_law ⟨by show _ ≤ 601024; omega, by show _ ≤ 7293034; omega⟩ (fun v Ω' hp => ?_) (fun _ _ h => h.elim)
    obtain ⟨rfl, G2, rfl, hM2, hf2, hc2⟩ := hp
    have hI2 : Inv (K + 1) (A) := Inv_mono hI (by omega)
    have hC2 := RC_M hC1 hI2 hf2
    refine V_w64 ?_
    refine V_ex sL_law_1691 (by rfl) (by exact trivial) ?_
    refine V_callV (M := ML_law) (N := MX12_thrown) dL_law_1694 lRL_148 kX12_thrown rfl rfl rfl (c_mThrown (d := 90) hκ) rfl rfl (Nat.le_of_ble_eq_true rfl) fit_law ⟨by show _ ≤ 601024; omega, by show _ ≤ 7293034; omega⟩ (fun v Ω' hp => ?_) (fun _ _ h => h.elim)
    obtain ⟨rfl, rfl⟩ := hp
    rw [hc2]
    refine V_ex sL_law_1697 (by rfl) (by exact trivial) ?_
    refine V_icmpeq dL_law_1699 (tgt := 1704) (by decide) ⟨cd_R hcd, cd_R hcd⟩ (fun q => ?_) (fun q => ?_)
    rotate_left
    · exact absurd rfl q
    refine V_ex sL_law_1704 (by rfl) (by exact trivial) ?_
    refine V_ifne dL_law_1706 (tgt := 1720) (by decide) (cd_R hcd) (fun q => ?_) (fun q => ?_)
    · refine V_goto dL_law_1720 (tgt := 3271) (by decide) ?_
      exact go G2 s1 (A) _ _ _ _ _ hC2 hM2 hI2 (by omega) (by omega)
    have e9 : G2.2.1 189 0 = w64 (streetP (lgv κ (i + 1) (i + 2)) (scv κ (i + 3)) 0).2 := (congrFun (hf2.2.1 189 (Or.inr rfl)) 0).trans (hv1 q)
    refine V_ex sL_law_1709 (by simp only [Option.toList, List.cons_append, List.nil_append, exN, ex1, gI, gL, gR, pI, pL, pR, lget, lset1, lset2, kl, b2I, b2L, nob, ob32, ob64, xGet, xPut, xLen, xLd, xLdR, xSt, obA, true_and, and_true, and_self, eq_self, Nat.reduceEqDiff, Nat.zero_ne_one, reduceIte, Nat.reduceLeDiff, and_false, false_and, show LF.1 189 = some (.inr (1, 1)) from rfl, upd2_eq, Int.reduceToNat, Int.toNat_natCast, e9]; rfl) (by exact ⟨⟨by decide, by decide⟩, w64_R _⟩) ?_
    refine V_lifeq dL_law_1715 (tgt := 1720) (by decide) (fun q => ?_) (fun q => ?_)
    rotate_left
    · exact absurd rfl q
    refine V_goto dL_law_1720 (tgt := 3271) (by decide) ?_
    exact go G2 s1 (A) _ _ _ _ _ hC2 hM2 hI2 (by omega) (by omega)
  · refine V_ex sL_law_1596 (by rfl) (by exact trivial) ?_
    refine V_sld (i + 1) dL_law_1602 (by omega) (by omega) hL ?_
    refine V_ex sL_law_1603 (by rfl) (by exact scv_R _ _) ?_
    refine V_sld (i + 2) dL_law_1612 (by omega) (by omega) hL ?_
    refine V_ex sL_law_1613 (by rfl) (by exact scv_R _ _) ?_
    refine V_sld (i + 3) dL_law_1624 (by omega) (by omega) hL ?_
    refine V_ex sL_law_1625 (by rfl) (by exact trivial) ?_
    refine V_sld (i + 4) dL_law_1630 (by omega) (by omega) hL ?_
    refine V_ifeq dL_law_1631 (tgt := 1638) (by decide) (scv_R _ _) (fun q => ?_) (fun q => ?_)
    · exact absurd q hb
    refine V_ex sL_law_1634 (by rfl) (by exact trivial) ?_
    refine V_goto dL_law_1635 (tgt := 1639) (by decide) ?_
    refine V_ex sL_law_1639 (by rfl) (by exact trivial) ?_
    have h1 := c_wStreet (κ := κ) (d := 90) hκ hB hC hI hR (lgv_R κ (i + 1) (i + 2)) (scv_R κ (i + 3)) (show R32 1 from ⟨by decide, by decide⟩) (by decide)
    refine V_callSH (M := ML_law) (N := ML_street) dL_law_1640 lRL_216 kL_street (by decide) h1 rfl rfl (Nat.le_of_ble_eq_true rfl) fit_law ⟨by show _ ≤ 601024; omega, by show _ ≤ 7293034; omega⟩ (fun v Ω' hp => ?_) (fun _ _ h => h.elim)
    obtain ⟨rfl, hcd, G1, s1, rfl, hC1, hf1, hv1⟩ := hp
    have hM1 := RM_W hM hf1
    refine V_ex sL_law_1643 (by rfl) (by exact trivial) ?_
    refine V_sld (i + 1) dL_law_1651 (by omega) (by omega) hL ?_
    refine V_ex sL_law_1652 (by rfl) (by exact scv_R _ _) ?_
    refine V_sld (i + 2) dL_law_1661 (by omega) (by omega) hL ?_
    refine V_ex sL_law_1662 (by rfl) (by exact scv_R _ _) ?_
    refine V_sld (i + 3) dL_law_1673 (by omega) (by omega) hL ?_
    refine V_ex sL_law_1674 (by rfl) (by exact trivial) ?_
    refine V_sld (i + 4) dL_law_1679 (by omega) (by omega) hL ?_
    refine V_ifeq dL_law_1680 (tgt := 1687) (by decide) (scv_R _ _) (fun q => ?_) (fun q => ?_)
    · exact absurd q hb
    refine V_ex sL_law_1683 (by rfl) (by exact trivial) ?_
    refine V_goto dL_law_1684 (tgt := 1688) (by decide) ?_
    have h2 := c_mxStreet (κ := κ) (d := 90) hκ hM1 (lgv_R κ (i + 1) (i + 2)) (scv_R κ (i + 3)) (show R32 1 from ⟨by decide, by decide⟩) (by decide)
    refine V_callV (M := ML_law) (N := MX12_street) dL_law_1688 lRL_219 kX12_street rfl rfl rfl h2 rfl rfl (Nat.le_of_ble_eq_true rfl) fit_law ⟨by show _ ≤ 601024; omega, by show _ ≤ 7293034; omega⟩ (fun v Ω' hp => ?_) (fun _ _ h => h.elim)
    obtain ⟨rfl, G2, rfl, hM2, hf2, hc2⟩ := hp
    have hI2 : Inv (K + 1) (A) := Inv_mono hI (by omega)
    have hC2 := RC_M hC1 hI2 hf2
    refine V_w64 ?_
    refine V_ex sL_law_1691 (by rfl) (by exact trivial) ?_
    refine V_callV (M := ML_law) (N := MX12_thrown) dL_law_1694 lRL_148 kX12_thrown rfl rfl rfl (c_mThrown (d := 90) hκ) rfl rfl (Nat.le_of_ble_eq_true rfl) fit_law ⟨by show _ ≤ 601024; omega, by show _ ≤ 7293034; omega⟩ (fun v Ω' hp => ?_) (fun _ _ h => h.elim)
    obtain ⟨rfl, rfl⟩ := hp
    rw [hc2]
    refine V_ex sL_law_1697 (by rfl) (by exact trivial) ?_
    refine V_icmpeq dL_law_1699 (tgt := 1704) (by decide) ⟨cd_R hcd, cd_R hcd⟩ (fun q => ?_) (fun q => ?_)
    rotate_left
    · exact absurd rfl q
    refine V_ex sL_law_1704 (by rfl) (by exact trivial) ?_
    refine V_ifne dL_law_1706 (tgt := 1720) (by decide) (cd_R hcd) (fun q => ?_) (fun q => ?_)
    · refine V_goto dL_law_1720 (tgt := 3271) (by decide) ?_
      exact go G2 s1 (A) _ _ _ _ _ hC2 hM2 hI2 (by omega) (by omega)
    have e9 : G2.2.1 189 0 = w64 (streetP (lgv κ (i + 1) (i + 2)) (scv κ (i + 3)) 1).2 := (congrFun (hf2.2.1 189 (Or.inr rfl)) 0).trans (hv1 q)
    refine V_ex sL_law_1709 (by simp only [Option.toList, List.cons_append, List.nil_append, exN, ex1, gI, gL, gR, pI, pL, pR, lget, lset1, lset2, kl, b2I, b2L, nob, ob32, ob64, xGet, xPut, xLen, xLd, xLdR, xSt, obA, true_and, and_true, and_self, eq_self, Nat.reduceEqDiff, Nat.zero_ne_one, reduceIte, Nat.reduceLeDiff, and_false, false_and, show LF.1 189 = some (.inr (1, 1)) from rfl, upd2_eq, Int.reduceToNat, Int.toNat_natCast, e9]; rfl) (by exact ⟨⟨by decide, by decide⟩, w64_R _⟩) ?_
    refine V_lifeq dL_law_1715 (tgt := 1720) (by decide) (fun q => ?_) (fun q => ?_)
    rotate_left
    · exact absurd rfl q
    refine V_goto dL_law_1720 (tgt := 3271) (by decide) ?_
    exact go G2 s1 (A) _ _ _ _ _ hC2 hM2 hI2 (by omega) (by omega)
set_option maxRecDepth 100000 in
set_option maxHeartbeats 4000000 in
theorem lw_read {κ : Kx} (hκ : KOK κ) (hB : HB κ) (hKS : KS κ) {μ : Mu} {c t s0 i : Nat} {K : Int} {A : Ab} {G : Wd} {x5 x6 x7 : Option Vl} (hC : RC G s0 A) (hM : RM G A) (hI : Inv K A) (hR : aR G) (hi : i + 7 ≤ κ.2.2.2.2.1) (hL : κ.2.2.2.2.1 ≤ 3584) (hc : c ≤ 500000) (ht : t ≤ 7000000) (go : LG κ μ c t K (i : Nat)) : LV κ μ c t G 2835 [some (VR 1000000), some (VR 1), some (VR 145), some (VR 189), some (VI (i : Nat)), x5, x6, x7] [] := by
  by_cases hb : scv κ (i + 6) = 0
  · refine V_ex sL_law_2835 (by rfl) (by exact trivial) ?_
    refine V_sld (i + 1) dL_law_2841 (by omega) (by omega) hL ?_
    refine V_ex sL_law_2842 (by rfl) (by exact trivial) ?_
    refine V_sld (i + 2) dL_law_2847 (by omega) (by omega) hL ?_
    refine V_ex sL_law_2848 (by rfl) (by exact trivial) ?_
    refine V_sld (i + 3) dL_law_2853 (by omega) (by omega) hL ?_
    refine V_ex sL_law_2854 (by rfl) (by exact trivial) ?_
    refine V_sld (i + 4) dL_law_2859 (by omega) (by omega) hL ?_
    refine V_ex sL_law_2860 (by rfl) (by exact trivial) ?_
    refine V_sld (i + 5) dL_law_2865 (by omega) (by omega) hL ?_
    refine V_ex sL_law_2866 (by rfl) (by exact trivial) ?_
    refine V_sld (i + 6) dL_law_2872 (by omega) (by omega) hL ?_
    refine V_ifeq dL_law_2873 (tgt := 2880) (by decide) (scv_R _ _) (fun q => ?_) (fun q => ?_)
    rotate_left
    · exact absurd hb q
    refine V_ex sL_law_2880 (by rfl) (by exact trivial) ?_
    refine V_ex sL_law_2881 (by rfl) (by exact trivial) ?_
    have h1 := c_wRead (κ := κ) (d := 90) (many := false) hκ hB hC hI hR (scv_R κ (i + 1)) (scv_R κ (i + 2)) (scv_R κ (i + 3)) (scv_R κ (i + 4)) (scv_R κ (i + 5)) (by decide)
    refine V_callSH (M := ML_law) (N := ML_read) dL_law_2882 lRL_265 kL_read (by decide) h1 rfl rfl (Nat.le_of_ble_eq_true rfl) fit_law ⟨by show _ ≤ 601024; omega, by show _ ≤ 7293034; omega⟩ (fun v Ω' hp => ?_) (fun _ _ h => h.elim)
    obtain ⟨rfl, hcd, G1, s1, rfl, hC1, hf1, hv1⟩ := hp
    have hM1 := RM_W hM hf1
    refine V_ex sL_law_2885 (by rfl) (by exact trivial) ?_
    refine V_sld (i + 1) dL_law_2893 (by omega) (by omega) hL ?_
    refine V_ex sL_law_2894 (by rfl) (by exact trivial) ?_
    refine V_sld (i + 2) dL_law_2899 (by omega) (by omega) hL ?_
    refine V_ex sL_law_2900 (by rfl) (by exact trivial) ?_
    refine V_sld (i + 3) dL_law_2905 (by omega) (by omega) hL ?_
    refine V_ex sL_law_2906 (by rfl) (by exact trivial) ?_
    refine V_sld (i + 4) dL_law_2911 (by omega) (by omega) hL ?_
    refine V_ex sL_law_2912 (by rfl) (by exact trivial) ?_
    refine V_sld (i + 5) dL_law_2917 (by omega) (by omega) hL ?_
    refine V_ex sL_law_2918 (by rfl) (by exact trivial) ?_
    refine V_sld (i + 6) dL_law_2924 (by omega) (by omega) hL ?_
    refine V_ifeq dL_law_2925 (tgt := 2932) (by decide) (scv_R _ _) (fun q => ?_) (fun q => ?_)
    rotate_left
    · exact absurd hb q
    refine V_ex sL_law_2932 (by rfl) (by exact trivial) ?_
    have h2 := c_mxRead (κ := κ) (d := 90) (many := false) hκ hM1 hI (scv_R κ (i + 1)) (scv_R κ (i + 2)) (scv_R κ (i + 3)) (scv_R κ (i + 4)) (scv_R κ (i + 5)) (by decide)
    refine V_callV (M := ML_law) (N := MX12_read) dL_law_2933 lRL_268 kX12_read rfl rfl rfl h2 rfl rfl (Nat.le_of_ble_eq_true rfl) fit_law ⟨by show _ ≤ 601024; omega, by show _ ≤ 7293034; omega⟩ (fun v Ω' hp => ?_) (fun _ _ h => h.elim)
    obtain ⟨rfl, G2, rfl, hM2, hf2, hc2⟩ := hp
    have hI2 : Inv (K + 1) (A) := Inv_mono hI (by omega)
    have hC2 := RC_M hC1 hI2 hf2
    refine V_w64 ?_
    refine V_ex sL_law_2936 (by rfl) (by exact trivial) ?_
    refine V_callV (M := ML_law) (N := MX12_thrown) dL_law_2939 lRL_148 kX12_thrown rfl rfl rfl (c_mThrown (d := 90) hκ) rfl rfl (Nat.le_of_ble_eq_true rfl) fit_law ⟨by show _ ≤ 601024; omega, by show _ ≤ 7293034; omega⟩ (fun v Ω' hp => ?_) (fun _ _ h => h.elim)
    obtain ⟨rfl, rfl⟩ := hp
    rw [hc2]
    refine V_ex sL_law_2942 (by rfl) (by exact trivial) ?_
    refine V_icmpeq dL_law_2944 (tgt := 2949) (by decide) ⟨cd_R hcd, cd_R hcd⟩ (fun q => ?_) (fun q => ?_)
    rotate_left
    · exact absurd rfl q
    refine V_ex sL_law_2949 (by rfl) (by exact trivial) ?_
    refine V_ifne dL_law_2951 (tgt := 2965) (by decide) (cd_R hcd) (fun q => ?_) (fun q => ?_)
    · refine V_goto dL_law_2965 (tgt := 3271) (by decide) ?_
      exact go G2 s1 (A) _ _ _ _ _ hC2 hM2 hI2 (by omega) (by omega)
    have e9 : G2.2.1 189 0 = w64 (readP A (scv κ (i + 1)) (scv κ (i + 2)) (scv κ (i + 3)) (scv κ (i + 4)) (scv κ (i + 5)) false).2 := (congrFun (hf2.2.1 189 (Or.inr rfl)) 0).trans (hv1 q)
    refine V_ex sL_law_2954 (by simp only [Option.toList, List.cons_append, List.nil_append, exN, ex1, gI, gL, gR, pI, pL, pR, lget, lset1, lset2, kl, b2I, b2L, nob, ob32, ob64, xGet, xPut, xLen, xLd, xLdR, xSt, obA, true_and, and_true, and_self, eq_self, Nat.reduceEqDiff, Nat.zero_ne_one, reduceIte, Nat.reduceLeDiff, and_false, false_and, show LF.1 189 = some (.inr (1, 1)) from rfl, upd2_eq, Int.reduceToNat, Int.toNat_natCast, e9]; rfl) (by exact ⟨⟨by decide, by decide⟩, w64_R _⟩) ?_
    refine V_lifeq dL_law_2960 (tgt := 2965) (by decide) (fun q => ?_) (fun q => ?_)
    rotate_left
    · exact absurd rfl q
    refine V_goto dL_law_2965 (tgt := 3271) (by decide) ?_
    exact go G2 s1 (A) _ _ _ _ _ hC2 hM2 hI2 (by omega) (by omega)
  · refine V_ex sL_law_2835 (by rfl) (by exact trivial) ?_
    refine V_sld (i + 1) dL_law_2841 (by omega) (by omega) hL ?_
    refine V_ex sL_law_2842 (by rfl) (by exact trivial) ?_
    refine V_sld (i + 2) dL_law_2847 (by omega) (by omega) hL ?_
    refine V_ex sL_law_2848 (by rfl) (by exact trivial) ?_
    refine V_sld (i + 3) dL_law_2853 (by omega) (by omega) hL ?_
    refine V_ex sL_law_2854 (by rfl) (by exact trivial) ?_
    refine V_sld (i + 4) dL_law_2859 (by omega) (by omega) hL ?_
    refine V_ex sL_law_2860 (by rfl) (by exact trivial) ?_
    refine V_sld (i + 5) dL_law_2865 (by omega) (by omega) hL ?_
    refine V_ex sL_law_2866 (by rfl) (by exact trivial) ?_
    refine V_sld (i + 6) dL_law_2872 (by omega) (by omega) hL ?_
    refine V_ifeq dL_law_2873 (tgt := 2880) (by decide) (scv_R _ _) (fun q => ?_) (fun q => ?_)
    · exact absurd q hb
    refine V_ex sL_law_2876 (by rfl) (by exact trivial) ?_
    refine V_goto dL_law_2877 (tgt := 2881) (by decide) ?_
    refine V_ex sL_law_2881 (by rfl) (by exact trivial) ?_
    have h1 := c_wRead (κ := κ) (d := 90) (many := true) hκ hB hC hI hR (scv_R κ (i + 1)) (scv_R κ (i + 2)) (scv_R κ (i + 3)) (scv_R κ (i + 4)) (scv_R κ (i + 5)) (by decide)
    refine V_callSH (M := ML_law) (N := ML_read) dL_law_2882 lRL_265 kL_read (by decide) h1 rfl rfl (Nat.le_of_ble_eq_true rfl) fit_law ⟨by show _ ≤ 601024; omega, by show _ ≤ 7293034; omega⟩ (fun v Ω' hp => ?_) (fun _ _ h => h.elim)
    obtain ⟨rfl, hcd, G1, s1, rfl, hC1, hf1, hv1⟩ := hp
    have hM1 := RM_W hM hf1
    refine V_ex sL_law_2885 (by rfl) (by exact trivial) ?_
    refine V_sld (i + 1) dL_law_2893 (by omega) (by omega) hL ?_
    refine V_ex sL_law_2894 (by rfl) (by exact trivial) ?_
    refine V_sld (i + 2) dL_law_2899 (by omega) (by omega) hL ?_
    refine V_ex sL_law_2900 (by rfl) (by exact trivial) ?_
    refine V_sld (i + 3) dL_law_2905 (by omega) (by omega) hL ?_
    refine V_ex sL_law_2906 (by rfl) (by exact trivial) ?_
    refine V_sld (i + 4) dL_law_2911 (by omega) (by omega) hL ?_
    refine V_ex sL_law_2912 (by rfl) (by exact trivial) ?_
    refine V_sld (i + 5) dL_law_2917 (by omega) (by omega) hL ?_
    refine V_ex sL_law_2918 (by rfl) (by exact trivial) ?_
    refine V_sld (i + 6) dL_law_2924 (by omega) (by omega) hL ?_
    refine V_ifeq dL_law_2925 (tgt := 2932) (by decide) (scv_R _ _) (fun q => ?_) (fun q => ?_)
    · exact absurd q hb
    refine V_ex sL_law_2928 (by rfl) (by exact trivial) ?_
    refine V_goto dL_law_2929 (tgt := 2933) (by decide) ?_
    have h2 := c_mxRead (κ := κ) (d := 90) (many := true) hκ hM1 hI (scv_R κ (i + 1)) (scv_R κ (i + 2)) (scv_R κ (i + 3)) (scv_R κ (i + 4)) (scv_R κ (i + 5)) (by decide)
    refine V_callV (M := ML_law) (N := MX12_read) dL_law_2933 lRL_268 kX12_read rfl rfl rfl h2 rfl rfl (Nat.le_of_ble_eq_true rfl) fit_law ⟨by show _ ≤ 601024; omega, by show _ ≤ 7293034; omega⟩ (fun v Ω' hp => ?_) (fun _ _ h => h.elim)
    obtain ⟨rfl, G2, rfl, hM2, hf2, hc2⟩ := hp
    have hI2 : Inv (K + 1) (A) := Inv_mono hI (by omega)
    have hC2 := RC_M hC1 hI2 hf2
    refine V_w64 ?_
    refine V_ex sL_law_2936 (by rfl) (by exact trivial) ?_
    refine V_callV (M := ML_law) (N := MX12_thrown) dL_law_2939 lRL_148 kX12_thrown rfl rfl rfl (c_mThrown (d := 90) hκ) rfl rfl (Nat.le_of_ble_eq_true rfl) fit_law ⟨by show _ ≤ 601024; omega, by show _ ≤ 7293034; omega⟩ (fun v Ω' hp => ?_) (fun _ _ h => h.elim)
    obtain ⟨rfl, rfl⟩ := hp
    rw [hc2]
    refine V_ex sL_law_2942 (by rfl) (by exact trivial) ?_
    refine V_icmpeq dL_law_2944 (tgt := 2949) (by decide) ⟨cd_R hcd, cd_R hcd⟩ (fun q => ?_) (fun q => ?_)
    rotate_left
    · exact absurd rfl q
    refine V_ex sL_law_2949 (by rfl) (by exact trivial) ?_
    refine V_ifne dL_law_2951 (tgt := 2965) (by decide) (cd_R hcd) (fun q => ?_) (fun q => ?_)
    · refine V_goto dL_law_2965 (tgt := 3271) (by decide) ?_
      exact go G2 s1 (A) _ _ _ _ _ hC2 hM2 hI2 (by omega) (by omega)
    have e9 : G2.2.1 189 0 = w64 (readP A (scv κ (i + 1)) (scv κ (i + 2)) (scv κ (i + 3)) (scv κ (i + 4)) (scv κ (i + 5)) true).2 := (congrFun (hf2.2.1 189 (Or.inr rfl)) 0).trans (hv1 q)
    refine V_ex sL_law_2954 (by simp only [Option.toList, List.cons_append, List.nil_append, exN, ex1, gI, gL, gR, pI, pL, pR, lget, lset1, lset2, kl, b2I, b2L, nob, ob32, ob64, xGet, xPut, xLen, xLd, xLdR, xSt, obA, true_and, and_true, and_self, eq_self, Nat.reduceEqDiff, Nat.zero_ne_one, reduceIte, Nat.reduceLeDiff, and_false, false_and, show LF.1 189 = some (.inr (1, 1)) from rfl, upd2_eq, Int.reduceToNat, Int.toNat_natCast, e9]; rfl) (by exact ⟨⟨by decide, by decide⟩, w64_R _⟩) ?_
    refine V_lifeq dL_law_2960 (tgt := 2965) (by decide) (fun q => ?_) (fun q => ?_)
    rotate_left
    · exact absurd rfl q
    refine V_goto dL_law_2965 (tgt := 3271) (by decide) ?_
    exact go G2 s1 (A) _ _ _ _ _ hC2 hM2 hI2 (by omega) (by omega)
set_option maxRecDepth 100000 in
set_option maxHeartbeats 4000000 in
theorem lw_image {κ : Kx} (hκ : KOK κ) (hB : HB κ) (hKS : KS κ) {μ : Mu} {c t s0 i : Nat} {K : Int} {A : Ab} {G : Wd} {x5 x6 x7 : Option Vl} (hC : RC G s0 A) (hM : RM G A) (hI : Inv K A) (hR : aR G) (hi : i + 7 ≤ κ.2.2.2.2.1) (hL : κ.2.2.2.2.1 ≤ 3584) (hc : c ≤ 500000) (ht : t ≤ 7000000) (go : LG κ μ c t K (i : Nat)) : LV κ μ c t G 3247 [some (VR 1000000), some (VR 1), some (VR 145), some (VR 189), some (VI (i : Nat)), x5, x6, x7] [] := by
  refine V_ex sL_law_3247 (by rfl) (by exact trivial) ?_
  have h1 := c_xImage (κ := κ) (d := 90) hκ hC hI hR  (by decide)
  refine V_callV (M := ML_law) (N := MX11_image) dL_law_3248 lRL_281 kX11_image rfl rfl rfl h1 rfl rfl (Nat.le_of_ble_eq_true rfl) fit_law ⟨by show _ ≤ 601024; omega, by show _ ≤ 7293034; omega⟩ (fun v Ω' hp => ?_) (fun _ _ h => h.elim)
  obtain ⟨-, rfl, G1, s1, rfl, hC1, hf1⟩ := hp
  have hM1 := RM_W hM hf1.c
  refine V_ex sL_law_3251 (by rfl) (by exact trivial) ?_
  have h2 := c_mxImage (κ := κ) (d := 90) hκ hM1 hI  (by decide)
  refine V_callV (M := ML_law) (N := MX12_image) dL_law_3252 lRL_284 kX12_image rfl rfl rfl h2 rfl rfl (Nat.le_of_ble_eq_true rfl) fit_law ⟨by show _ ≤ 601024; omega, by show _ ≤ 7293034; omega⟩ (fun v Ω' hp => ?_) (fun _ _ h => h.elim)
  obtain ⟨rfl, G2, rfl, hM2, hf2, hc2⟩ := hp
  have hI2 : Inv (K + 1) (imageA A) := Inv_mono (Inv_image hI) (by omega)
  have hC2 := RC_M hC1 hI2 hf2
  refine V_goto dL_law_3255 (tgt := 3271) (by decide) ?_
  exact go G2 s1 (imageA A) _ _ _ _ _ hC2 hM2 hI2 (by omega) (by omega)
set_option maxRecDepth 100000 in
set_option maxHeartbeats 4000000 in
theorem lw_restore {κ : Kx} (hκ : KOK κ) (hB : HB κ) (hKS : KS κ) {μ : Mu} {c t s0 i : Nat} {K : Int} {A : Ab} {G : Wd} {x5 x6 x7 : Option Vl} (hC : RC G s0 A) (hM : RM G A) (hI : Inv K A) (hR : aR G) (hi : i + 7 ≤ κ.2.2.2.2.1) (hL : κ.2.2.2.2.1 ≤ 3584) (hc : c ≤ 500000) (ht : t ≤ 7000000) (go : LG κ μ c t K (i : Nat)) : LV κ μ c t G 3258 [some (VR 1000000), some (VR 1), some (VR 145), some (VR 189), some (VI (i : Nat)), x5, x6, x7] [] := by
  refine V_ex sL_law_3258 (by rfl) (by exact trivial) ?_
  have h1 := c_xRestore (κ := κ) (d := 90) hκ hC hI hR  (by decide)
  refine V_callV (M := ML_law) (N := MX11_restore) dL_law_3259 lRL_285 kX11_restore rfl rfl rfl h1 rfl rfl (Nat.le_of_ble_eq_true rfl) fit_law ⟨by show _ ≤ 601024; omega, by show _ ≤ 7293034; omega⟩ (fun v Ω' hp => ?_) (fun _ _ h => h.elim)
  obtain ⟨-, rfl, G1, s1, rfl, hC1, hf1⟩ := hp
  have hM1 := RM_W hM hf1.c
  refine V_w32 ?_
  refine V_ex sL_law_3262 (by rfl) (by exact trivial) ?_
  have h2 := c_mxRestore (κ := κ) (d := 90) hκ hM1 hI  (by decide)
  refine V_callV (M := ML_law) (N := MX12_restore) dL_law_3263 lRL_289 kX12_restore rfl rfl rfl h2 rfl rfl (Nat.le_of_ble_eq_true rfl) fit_law ⟨by show _ ≤ 601024; omega, by show _ ≤ 7293034; omega⟩ (fun v Ω' hp => ?_) (fun _ _ h => h.elim)
  obtain ⟨rfl, G2, rfl, hM2, hf2, hc2⟩ := hp
  have hI2 : Inv (K + 1) (restoreA A) := Inv_mono (Inv_restore hI) (by omega)
  have hC2 := RC_M hC1 hI2 hf2
  refine V_w32 ?_
  refine V_icmpeq dL_law_3266 (tgt := 3271) (by decide) ⟨w32_R _, w32_R _⟩ (fun q => ?_) (fun q => ?_)
  rotate_left
  · exact absurd rfl q
  exact go G2 s1 (restoreA A) _ _ _ _ _ hC2 hM2 hI2 (by omega) (by omega)
set_option maxRecDepth 100000 in
set_option maxHeartbeats 4000000 in
theorem lw_index {κ : Kx} (hκ : KOK κ) (hB : HB κ) (hKS : KS κ) {μ : Mu} {c t s0 i : Nat} {K : Int} {A : Ab} {G : Wd} {x5 x6 x7 : Option Vl} (hC : RC G s0 A) (hM : RM G A) (hI : Inv K A) (hR : aR G) (hi : i + 7 ≤ κ.2.2.2.2.1) (hL : κ.2.2.2.2.1 ≤ 3584) (hc : c ≤ 500000) (ht : t ≤ 7000000) (go : LG κ μ c t K (i : Nat)) : LV κ μ c t G 2306 [some (VR 1000000), some (VR 1), some (VR 145), some (VR 189), some (VI (i : Nat)), x5, x6, x7] [] := by
  refine V_ex sL_law_2306 (by rfl) (by exact trivial) ?_
  refine V_sld (i + 1) dL_law_2312 (by omega) (by omega) hL ?_
  refine V_ex sL_law_2313 (by rfl) (by exact trivial) ?_
  refine V_sld (i + 2) dL_law_2318 (by omega) (by omega) hL ?_
  refine V_ex sL_law_2319 (by rfl) (by exact trivial) ?_
  have h1 := c_wIndex (κ := κ) (d := 90) hκ hB hC hI hR (scv_R κ (i + 1)) (scv_R κ (i + 2)) (by decide)
  refine V_callSH (M := ML_law) (N := ML_index) dL_law_2320 lRL_243 kL_index (by decide) h1 rfl rfl (Nat.le_of_ble_eq_true rfl) fit_law ⟨by show _ ≤ 601024; omega, by show _ ≤ 7293034; omega⟩ (fun v Ω' hp => ?_) (fun _ _ h => h.elim)
  obtain ⟨rfl, hcd, G1, s1, rfl, hC1, hf1, hv1⟩ := hp
  have hM1 := RM_W hM hf1
  refine V_ex sL_law_2323 (by rfl) (by exact trivial) ?_
  refine V_sld (i + 1) dL_law_2331 (by omega) (by omega) hL ?_
  refine V_ex sL_law_2332 (by rfl) (by exact trivial) ?_
  refine V_sld (i + 2) dL_law_2337 (by omega) (by omega) hL ?_
  have h2 := c_mxIndex (κ := κ) (d := 90) hκ hM1 hI (scv_R κ (i + 1)) (scv_R κ (i + 2)) (by decide)
  refine V_callV (M := ML_law) (N := MX12_index) dL_law_2338 lRL_245 kX12_index rfl rfl rfl h2 rfl rfl (Nat.le_of_ble_eq_true rfl) fit_law ⟨by show _ ≤ 601024; omega, by show _ ≤ 7293034; omega⟩ (fun v Ω' hp => ?_) (fun _ _ h => h.elim)
  obtain ⟨rfl, G2, rfl, hM2, hf2, hc2⟩ := hp
  have hI2 : Inv (K + 1) (A) := Inv_mono hI (by omega)
  have hC2 := RC_M hC1 hI2 hf2
  refine V_w32 ?_
  rw [w32_w]
  refine V_ex sL_law_2341 (by rfl) (by exact trivial) ?_
  refine V_callV (M := ML_law) (N := MX12_thrown) dL_law_2344 lRL_148 kX12_thrown rfl rfl rfl (c_mThrown (d := 90) hκ) rfl rfl (Nat.le_of_ble_eq_true rfl) fit_law ⟨by show _ ≤ 601024; omega, by show _ ≤ 7293034; omega⟩ (fun v Ω' hp => ?_) (fun _ _ h => h.elim)
  obtain ⟨rfl, rfl⟩ := hp
  rw [hc2]
  refine V_ex sL_law_2347 (by rfl) (by exact trivial) ?_
  refine V_icmpeq dL_law_2349 (tgt := 2354) (by decide) ⟨cd_R hcd, cd_R hcd⟩ (fun q => ?_) (fun q => ?_)
  rotate_left
  · exact absurd rfl q
  refine V_ex sL_law_2354 (by rfl) (by exact trivial) ?_
  refine V_ifne dL_law_2356 (tgt := 2371) (by decide) (cd_R hcd) (fun q => ?_) (fun q => ?_)
  · refine V_goto dL_law_2371 (tgt := 3271) (by decide) ?_
    exact go G2 s1 (A) _ _ _ _ _ hC2 hM2 hI2 (by omega) (by omega)
  have e9 : G2.2.1 189 0 = w32 (indexP A (scv κ (i + 1)) (scv κ (i + 2))).2 := (congrFun (hf2.2.1 189 (Or.inr rfl)) 0).trans (hv1 q)
  refine V_ex sL_law_2359 (by simp only [Option.toList, List.cons_append, List.nil_append, exN, ex1, gI, gL, gR, pI, pL, pR, lget, lset1, lset2, kl, b2I, b2L, nob, ob32, ob64, xGet, xPut, xLen, xLd, xLdR, xSt, obA, true_and, and_true, and_self, eq_self, Nat.reduceEqDiff, Nat.zero_ne_one, reduceIte, Nat.reduceLeDiff, and_false, false_and, show LF.1 189 = some (.inr (1, 1)) from rfl, upd2_eq, Int.reduceToNat, Int.toNat_natCast, e9]; rfl) (by exact ⟨⟨by decide, by decide⟩, w32_R _, r64w _⟩) ?_
  refine V_lifeq dL_law_2366 (tgt := 2371) (by decide) (fun q => ?_) (fun q => ?_)
  rotate_left
  · exact absurd rfl q
  refine V_goto dL_law_2371 (tgt := 3271) (by decide) ?_
  exact go G2 s1 (A) _ _ _ _ _ hC2 hM2 hI2 (by omega) (by omega)
