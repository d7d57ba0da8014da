/-! THE LAW: calls, by program -/
set_option maxRecDepth 100000 in
set_option maxHeartbeats 4000000 in
theorem lw_feed {κ : Kx} (hκ : KOK κ) (hB : HB κ) (hKS : KS κ) {μ : Mu} {c t s0 i : Nat} {K : Int} {A : Ab} {G : Wd} {x5 x6 x7 : Option Vl} (hC : RC G s0 A) (hM : RM G A) (hI : Inv K A) (hR : aR G) (hi : i + 7 ≤ κ.2.2.2.2.1) (hL : κ.2.2.2.2.1 ≤ 3584) (hc : c ≤ 500000) (ht : t ≤ 7000000) (go : LG κ μ c t K (i : Nat)) : LV κ μ c t G 220 [some (VR 1000000), some (VR 1), some (VR 145), some (VR 189), some (VI (i : Nat)), x5, x6, x7] [] := by
  refine V_ex sL_law_220 (by rfl) (by exact trivial) ?_
  refine V_sld (i + 1) dL_law_226 (by omega) (by omega) hL ?_
  refine V_ex sL_law_227 (by rfl) (by exact trivial) ?_
  refine V_sld (i + 2) dL_law_232 (by omega) (by omega) hL ?_
  refine V_ex sL_law_233 (by rfl) (by exact trivial) ?_
  refine V_sld (i + 3) dL_law_238 (by omega) (by omega) hL ?_
  refine V_ex sL_law_239 (by rfl) (by exact trivial) ?_
  refine V_sld (i + 4) dL_law_244 (by omega) (by omega) hL ?_
  refine V_ex sL_law_245 (by rfl) (by exact trivial) ?_
  refine V_sld (i + 5) dL_law_250 (by omega) (by omega) hL ?_
  have h1 := c_xFeed (κ := κ) (d := 90) hκ hC hI hR (scv_R κ (i + 1)) (scv_R κ (i + 2)) (scv_R κ (i + 3)) (scv_R κ (i + 4)) (scv_R κ (i + 5)) (by decide)
  refine V_callV (M := ML_law) (N := MX11_feed) dL_law_251 lRL_137 kX11_feed rfl rfl rfl h1 rfl rfl (Nat.le_of_ble_eq_true rfl) fit_law ⟨by show _ ≤ 601024; omega, by show _ ≤ 7293034; omega⟩ (fun v Ω' hp => ?_) (fun _ _ h => h.elim)
  obtain ⟨-, rfl, G1, s1, rfl, hC1, hf1⟩ := hp
  have hM1 := RM_W hM hf1.c
  refine V_w32 ?_
  refine V_ex sL_law_254 (by rfl) (by exact trivial) ?_
  refine V_sld (i + 1) dL_law_260 (by omega) (by omega) hL ?_
  refine V_ex sL_law_261 (by rfl) (by exact trivial) ?_
  refine V_sld (i + 2) dL_law_266 (by omega) (by omega) hL ?_
  refine V_ex sL_law_267 (by rfl) (by exact trivial) ?_
  refine V_sld (i + 3) dL_law_272 (by omega) (by omega) hL ?_
  refine V_ex sL_law_273 (by rfl) (by exact trivial) ?_
  refine V_sld (i + 4) dL_law_278 (by omega) (by omega) hL ?_
  refine V_ex sL_law_279 (by rfl) (by exact trivial) ?_
  refine V_sld (i + 5) dL_law_284 (by omega) (by omega) hL ?_
  have h2 := c_mxFeed (κ := κ) (d := 90) hκ hM1 hI (scv_R κ (i + 1)) (scv_R κ (i + 2)) (scv_R κ (i + 3)) (scv_R κ (i + 4)) (scv_R κ (i + 5)) (by decide)
  refine V_callV (M := ML_law) (N := MX12_feed) dL_law_285 lRL_141 kX12_feed rfl rfl rfl h2 rfl rfl (Nat.le_of_ble_eq_true rfl) fit_law ⟨by show _ ≤ 601024; omega, by show _ ≤ 7293034; omega⟩ (fun v Ω' hp => ?_) (fun _ _ h => h.elim)
  obtain ⟨rfl, G2, rfl, hM2, hf2, hc2⟩ := hp
  have hI2 : Inv (K + 1) ((feedP A (scv κ (i + 1)) (scv κ (i + 2)) (scv κ (i + 3)) (scv κ (i + 4)) (scv κ (i + 5))).2.2) := Inv_mono (Inv_feed hI) (by omega)
  have hC2 := RC_M hC1 hI2 hf2
  refine V_w32 ?_
  refine V_icmpeq dL_law_288 (tgt := 3271) (by decide) ⟨w32_R _, w32_R _⟩ (fun q => ?_) (fun q => ?_)
  rotate_left
  · exact absurd rfl q
  exact go G2 s1 ((feedP A (scv κ (i + 1)) (scv κ (i + 2)) (scv κ (i + 3)) (scv κ (i + 4)) (scv κ (i + 5))).2.2) _ _ _ _ _ hC2 hM2 hI2 (by omega) (by omega)
set_option maxRecDepth 100000 in
set_option maxHeartbeats 4000000 in
theorem lw_shelf {κ : Kx} (hκ : KOK κ) (hB : HB κ) (hKS : KS κ) {μ : Mu} {c t s0 i : Nat} {K : Int} {A : Ab} {G : Wd} {x5 x6 x7 : Option Vl} (hC : RC G s0 A) (hM : RM G A) (hI : Inv K A) (hR : aR G) (hi : i + 7 ≤ κ.2.2.2.2.1) (hL : κ.2.2.2.2.1 ≤ 3584) (hc : c ≤ 500000) (ht : t ≤ 7000000) (go : LG κ μ c t K (i : Nat)) : LV κ μ c t G 293 [some (VR 1000000), some (VR 1), some (VR 145), some (VR 189), some (VI (i : Nat)), x5, x6, x7] [] := by
  refine V_ex sL_law_293 (by rfl) (by exact trivial) ?_
  refine V_sld (i + 1) dL_law_299 (by omega) (by omega) hL ?_
  refine V_ex sL_law_300 (by rfl) (by exact trivial) ?_
  have h1 := c_wShelf (κ := κ) (d := 90) hκ hB hKS hC hI hR (scv_R κ (i + 1)) (by decide)
  refine V_callSH (M := ML_law) (N := ML_shelf) dL_law_301 lRL_142 kL_shelf (by decide) h1 rfl rfl (Nat.le_of_ble_eq_true rfl) fit_law ⟨by show _ ≤ 601024; omega, by show _ ≤ 7293034; omega⟩ (fun v Ω' hp => ?_) (fun _ _ h => h.elim)
  obtain ⟨rfl, hcd, G1, s1, rfl, hC1, hf1, hv1⟩ := hp
  have hM1 := RM_W hM hf1
  refine V_ex sL_law_304 (by rfl) (by exact trivial) ?_
  refine V_sld (i + 1) dL_law_312 (by omega) (by omega) hL ?_
  have h2 := c_mxShelf (κ := κ) (d := 90) hκ hKS hM1 hI (scv_R κ (i + 1)) (by decide)
  refine V_callV (M := ML_law) (N := MX12_shelf) dL_law_313 lRL_147 kX12_shelf rfl rfl rfl h2 rfl rfl (Nat.le_of_ble_eq_true rfl) fit_law ⟨by show _ ≤ 601024; omega, by show _ ≤ 7293034; omega⟩ (fun v Ω' hp => ?_) (fun _ _ h => h.elim)
  obtain ⟨rfl, G2, rfl, hM2, hf2, hc2⟩ := hp
  have hI2 : Inv (K + 1) ((shelfP A (scv κ (i + 1))).2.2) := Inv_shelf hI
  have hC2 := RC_M hC1 hI2 hf2
  refine V_w32 ?_
  refine V_ex sL_law_316 (by rfl) (by exact trivial) ?_
  refine V_callV (M := ML_law) (N := MX12_thrown) dL_law_319 lRL_148 kX12_thrown rfl rfl rfl (c_mThrown (d := 90) hκ) rfl rfl (Nat.le_of_ble_eq_true rfl) fit_law ⟨by show _ ≤ 601024; omega, by show _ ≤ 7293034; omega⟩ (fun v Ω' hp => ?_) (fun _ _ h => h.elim)
  obtain ⟨rfl, rfl⟩ := hp
  rw [hc2]
  refine V_ex sL_law_322 (by rfl) (by exact trivial) ?_
  refine V_icmpeq dL_law_324 (tgt := 329) (by decide) ⟨cd_R hcd, cd_R hcd⟩ (fun q => ?_) (fun q => ?_)
  rotate_left
  · exact absurd rfl q
  refine V_ex sL_law_329 (by rfl) (by exact trivial) ?_
  refine V_ifne dL_law_331 (tgt := 346) (by decide) (cd_R hcd) (fun q => ?_) (fun q => ?_)
  · refine V_goto dL_law_346 (tgt := 3271) (by decide) ?_
    exact go G2 s1 ((shelfP A (scv κ (i + 1))).2.2) _ _ _ _ _ hC2 hM2 hI2 (by omega) (by omega)
  have e9 : G2.2.1 189 0 = w32 (shelfP A (scv κ (i + 1))).2.1 := (congrFun (hf2.2.1 189 (Or.inr rfl)) 0).trans (hv1 q)
  refine V_ex sL_law_334 (by simp only [Option.toList, List.cons_append, List.nil_append, exN, ex1, gI, gL, gR, pI, pL, pR, lget, lset1, lset2, kl, b2I, b2L, nob, ob32, ob64, xGet, xPut, xLen, xLd, xLdR, xSt, obA, true_and, and_true, and_self, eq_self, Nat.reduceEqDiff, Nat.zero_ne_one, reduceIte, Nat.reduceLeDiff, and_false, false_and, show LF.1 189 = some (.inr (1, 1)) from rfl, upd2_eq, Int.reduceToNat, Int.toNat_natCast, e9]; rfl) (by exact ⟨⟨by decide, by decide⟩, w32_R _, r64w _⟩) ?_
  refine V_lifeq dL_law_341 (tgt := 346) (by decide) (fun q => ?_) (fun q => ?_)
  rotate_left
  · exact absurd rfl q
  refine V_goto dL_law_346 (tgt := 3271) (by decide) ?_
  exact go G2 s1 ((shelfP A (scv κ (i + 1))).2.2) _ _ _ _ _ hC2 hM2 hI2 (by omega) (by omega)
set_option maxRecDepth 100000 in
set_option maxHeartbeats 4000000 in
theorem lw_fault {κ : Kx} (hκ : KOK κ) (hB : HB κ) (hKS : KS κ) {μ : Mu} {c t s0 i : Nat} {K : Int} {A : Ab} {G : Wd} {x5 x6 x7 : Option Vl} (hC : RC G s0 A) (hM : RM G A) (hI : Inv K A) (hR : aR G) (hi : i + 7 ≤ κ.2.2.2.2.1) (hL : κ.2.2.2.2.1 ≤ 3584) (hc : c ≤ 500000) (ht : t ≤ 7000000) (go : LG κ μ c t K (i : Nat)) : LV κ μ c t G 349 [some (VR 1000000), some (VR 1), some (VR 145), some (VR 189), some (VI (i : Nat)), x5, x6, x7] [] := by
  refine V_ex sL_law_349 (by rfl) (by exact trivial) ?_
  have h1 := c_xFault (κ := κ) (d := 90) hκ hC  
  refine V_callV (M := ML_law) (N := MX11_fault) dL_law_350 lRL_152 kX11_fault rfl rfl rfl h1 rfl rfl (Nat.le_of_ble_eq_true rfl) fit_law ⟨by show _ ≤ 601024; omega, by show _ ≤ 7293034; omega⟩ (fun v Ω' hp => ?_) (fun _ _ h => h.elim)
  obtain ⟨-, rfl, G1, s1, rfl, hC1, hf1⟩ := hp
  have hM1 := RM_W hM hf1.c
  refine V_w32 ?_
  refine V_ex sL_law_353 (by rfl) (by exact trivial) ?_
  have h2 := c_mxFault (κ := κ) (d := 90) hκ hM1 (by decide)
  refine V_callV (M := ML_law) (N := MX12_fault) dL_law_354 lRL_155 kX12_fault rfl rfl rfl h2 rfl rfl (Nat.le_of_ble_eq_true rfl) fit_law ⟨by show _ ≤ 601024; omega, by show _ ≤ 7293034; omega⟩ (fun v Ω' hp => ?_) (fun _ _ h => h.elim)
  obtain ⟨rfl, G2, rfl, hM2, hf2, hc2⟩ := hp
  have hI2 : Inv (K + 1) (A) := Inv_mono hI (by omega)
  have hC2 := RC_M hC1 hI2 hf2
  refine V_w32 ?_
  refine V_icmpeq dL_law_357 (tgt := 3271) (by decide) ⟨w32_R _, w32_R _⟩ (fun q => ?_) (fun q => ?_)
  rotate_left
  · exact absurd rfl q
  exact go G2 s1 (A) _ _ _ _ _ hC2 hM2 hI2 (by omega) (by omega)
set_option maxRecDepth 100000 in
set_option maxHeartbeats 4000000 in
theorem lw_count {κ : Kx} (hκ : KOK κ) (hB : HB κ) (hKS : KS κ) {μ : Mu} {c t s0 i : Nat} {K : Int} {A : Ab} {G : Wd} {x5 x6 x7 : Option Vl} (hC : RC G s0 A) (hM : RM G A) (hI : Inv K A) (hR : aR G) (hi : i + 7 ≤ κ.2.2.2.2.1) (hL : κ.2.2.2.2.1 ≤ 3584) (hc : c ≤ 500000) (ht : t ≤ 7000000) (go : LG κ μ c t K (i : Nat)) : LV κ μ c t G 362 [some (VR 1000000), some (VR 1), some (VR 145), some (VR 189), some (VI (i : Nat)), x5, x6, x7] [] := by
  refine V_ex sL_law_362 (by rfl) (by exact trivial) ?_
  refine V_sld (i + 1) dL_law_368 (by omega) (by omega) hL ?_
  refine V_ex sL_law_369 (by rfl) (by exact trivial) ?_
  have h1 := c_wCount (κ := κ) (d := 90) hκ hB hC hI hR (scv_R κ (i + 1)) (by decide)
  refine V_callSH (M := ML_law) (N := ML_count) dL_law_370 lRL_156 kL_count (by decide) h1 rfl rfl (Nat.le_of_ble_eq_true rfl) fit_law ⟨by show _ ≤ 601024; omega, by show _ ≤ 7293034; omega⟩ (fun v Ω' hp => ?_) (fun _ _ h => h.elim)
  obtain ⟨rfl, hcd, G1, s1, rfl, hC1, hf1, hv1⟩ := hp
  have hM1 := RM_W hM hf1
  refine V_ex sL_law_373 (by rfl) (by exact trivial) ?_
  refine V_sld (i + 1) dL_law_381 (by omega) (by omega) hL ?_
  have h2 := c_mxCount (κ := κ) (d := 90) hκ hM1 hI (scv_R κ (i + 1)) (by decide)
  refine V_callV (M := ML_law) (N := MX12_count) dL_law_382 lRL_158 kX12_count rfl rfl rfl h2 rfl rfl (Nat.le_of_ble_eq_true rfl) fit_law ⟨by show _ ≤ 601024; omega, by show _ ≤ 7293034; omega⟩ (fun v Ω' hp => ?_) (fun _ _ h => h.elim)
  obtain ⟨rfl, G2, rfl, hM2, hf2, hc2⟩ := hp
  have hI2 : Inv (K + 1) (A) := Inv_mono hI (by omega)
  have hC2 := RC_M hC1 hI2 hf2
  refine V_w32 ?_
  refine V_ex sL_law_385 (by rfl) (by exact trivial) ?_
  refine V_callV (M := ML_law) (N := MX12_thrown) dL_law_388 lRL_148 kX12_thrown rfl rfl rfl (c_mThrown (d := 90) hκ) rfl rfl (Nat.le_of_ble_eq_true rfl) fit_law ⟨by show _ ≤ 601024; omega, by show _ ≤ 7293034; omega⟩ (fun v Ω' hp => ?_) (fun _ _ h => h.elim)
  obtain ⟨rfl, rfl⟩ := hp
  rw [hc2]
  refine V_ex sL_law_391 (by rfl) (by exact trivial) ?_
  refine V_icmpeq dL_law_393 (tgt := 398) (by decide) ⟨cd_R hcd, cd_R hcd⟩ (fun q => ?_) (fun q => ?_)
  rotate_left
  · exact absurd rfl q
  refine V_ex sL_law_398 (by rfl) (by exact trivial) ?_
  refine V_ifne dL_law_400 (tgt := 415) (by decide) (cd_R hcd) (fun q => ?_) (fun q => ?_)
  · refine V_goto dL_law_415 (tgt := 3271) (by decide) ?_
    exact go G2 s1 (A) _ _ _ _ _ hC2 hM2 hI2 (by omega) (by omega)
  have e9 : G2.2.1 189 0 = w32 (countP A (scv κ (i + 1))).2 := (congrFun (hf2.2.1 189 (Or.inr rfl)) 0).trans (hv1 q)
  refine V_ex sL_law_403 (by simp only [Option.toList, List.cons_append, List.nil_append, exN, ex1, gI, gL, gR, pI, pL, pR, lget, lset1, lset2, kl, b2I, b2L, nob, ob32, ob64, xGet, xPut, xLen, xLd, xLdR, xSt, obA, true_and, and_true, and_self, eq_self, Nat.reduceEqDiff, Nat.zero_ne_one, reduceIte, Nat.reduceLeDiff, and_false, false_and, show LF.1 189 = some (.inr (1, 1)) from rfl, upd2_eq, Int.reduceToNat, Int.toNat_natCast, e9]; rfl) (by exact ⟨⟨by decide, by decide⟩, w32_R _, r64w _⟩) ?_
  refine V_lifeq dL_law_410 (tgt := 415) (by decide) (fun q => ?_) (fun q => ?_)
  rotate_left
  · exact absurd rfl q
  refine V_goto dL_law_415 (tgt := 3271) (by decide) ?_
  exact go G2 s1 (A) _ _ _ _ _ hC2 hM2 hI2 (by omega) (by omega)
set_option maxRecDepth 100000 in
set_option maxHeartbeats 4000000 in
theorem lw_book {κ : Kx} (hκ : KOK κ) (hB : HB κ) (hKS : KS κ) {μ : Mu} {c t s0 i : Nat} {K : Int} {A : Ab} {G : Wd} {x5 x6 x7 : Option Vl} (hC : RC G s0 A) (hM : RM G A) (hI : Inv K A) (hR : aR G) (hi : i + 7 ≤ κ.2.2.2.2.1) (hL : κ.2.2.2.2.1 ≤ 3584) (hc : c ≤ 500000) (ht : t ≤ 7000000) (go : LG κ μ c t K (i : Nat)) : LV κ μ c t G 418 [some (VR 1000000), some (VR 1), some (VR 145), some (VR 189), some (VI (i : Nat)), x5, x6, x7] [] := by
  refine V_ex sL_law_418 (by rfl) (by exact trivial) ?_
  refine V_sld (i + 1) dL_law_424 (by omega) (by omega) hL ?_
  refine V_ex sL_law_425 (by rfl) (by exact trivial) ?_
  refine V_sld (i + 2) dL_law_430 (by omega) (by omega) hL ?_
  refine V_ex sL_law_431 (by rfl) (by exact trivial) ?_
  have h1 := c_wBook (κ := κ) (d := 90) hκ hB hC hI hR (scv_R κ (i + 1)) (scv_R κ (i + 2)) (by decide)
  refine V_callSH (M := ML_law) (N := ML_book) dL_law_432 lRL_159 kL_book (by decide) h1 rfl rfl (Nat.le_of_ble_eq_true rfl) fit_law ⟨by show _ ≤ 601024; omega, by show _ ≤ 7293034; omega⟩ (fun v Ω' hp => ?_) (fun _ _ h => h.elim)
  obtain ⟨rfl, hcd, G1, s1, rfl, hC1, hf1, hv1⟩ := hp
  have hM1 := RM_W hM hf1
  refine V_ex sL_law_435 (by rfl) (by exact trivial) ?_
  refine V_sld (i + 1) dL_law_443 (by omega) (by omega) hL ?_
  refine V_ex sL_law_444 (by rfl) (by exact trivial) ?_
  refine V_sld (i + 2) dL_law_449 (by omega) (by omega) hL ?_
  have h2 := c_mxBook (κ := κ) (d := 90) hκ hM1 hI (scv_R κ (i + 1)) (scv_R κ (i + 2)) (by decide)
  refine V_callV (M := ML_law) (N := MX12_book) dL_law_450 lRL_162 kX12_book rfl rfl rfl h2 rfl rfl (Nat.le_of_ble_eq_true rfl) fit_law ⟨by show _ ≤ 601024; omega, by show _ ≤ 7293034; omega⟩ (fun v Ω' hp => ?_) (fun _ _ h => h.elim)
  obtain ⟨rfl, G2, rfl, hM2, hf2, hc2⟩ := hp
  have hI2 : Inv (K + 1) (A) := Inv_mono hI (by omega)
  have hC2 := RC_M hC1 hI2 hf2
  refine V_w32 ?_
  refine V_ex sL_law_453 (by rfl) (by exact trivial) ?_
  refine V_callV (M := ML_law) (N := MX12_thrown) dL_law_456 lRL_148 kX12_thrown rfl rfl rfl (c_mThrown (d := 90) hκ) rfl rfl (Nat.le_of_ble_eq_true rfl) fit_law ⟨by show _ ≤ 601024; omega, by show _ ≤ 7293034; omega⟩ (fun v Ω' hp => ?_) (fun _ _ h => h.elim)
  obtain ⟨rfl, rfl⟩ := hp
  rw [hc2]
  refine V_ex sL_law_459 (by rfl) (by exact trivial) ?_
  refine V_icmpeq dL_law_461 (tgt := 466) (by decide) ⟨cd_R hcd, cd_R hcd⟩ (fun q => ?_) (fun q => ?_)
  rotate_left
  · exact absurd rfl q
  refine V_ex sL_law_466 (by rfl) (by exact trivial) ?_
  refine V_ifne dL_law_468 (tgt := 483) (by decide) (cd_R hcd) (fun q => ?_) (fun q => ?_)
  · refine V_goto dL_law_483 (tgt := 3271) (by decide) ?_
    exact go G2 s1 (A) _ _ _ _ _ hC2 hM2 hI2 (by omega) (by omega)
  have e9 : G2.2.1 189 0 = w32 (bookP A (scv κ (i + 1)) (scv κ (i + 2))).2 := (congrFun (hf2.2.1 189 (Or.inr rfl)) 0).trans (hv1 q)
  refine V_ex sL_law_471 (by simp only [Option.toList, List.cons_append, List.nil_append, exN, ex1, gI, gL, gR, pI, pL, pR, lget, lset1, lset2, kl, b2I, b2L, nob, ob32, ob64, xGet, xPut, xLen, xLd, xLdR, xSt, obA, true_and, and_true, and_self, eq_self, Nat.reduceEqDiff, Nat.zero_ne_one, reduceIte, Nat.reduceLeDiff, and_false, false_and, show LF.1 189 = some (.inr (1, 1)) from rfl, upd2_eq, Int.reduceToNat, Int.toNat_natCast, e9]; rfl) (by exact ⟨⟨by decide, by decide⟩, w32_R _, r64w _⟩) ?_
  refine V_lifeq dL_law_478 (tgt := 483) (by decide) (fun q => ?_) (fun q => ?_)
  rotate_left
  · exact absurd rfl q
  refine V_goto dL_law_483 (tgt := 3271) (by decide) ?_
  exact go G2 s1 (A) _ _ _ _ _ hC2 hM2 hI2 (by omega) (by omega)
set_option maxRecDepth 100000 in
set_option maxHeartbeats 4000000 in
theorem lw_isThere {κ : Kx} (hκ : KOK κ) (hB : HB κ) (hKS : KS κ) {μ : Mu} {c t s0 i : Nat} {K : Int} {A : Ab} {G : Wd} {x5 x6 x7 : Option Vl} (hC : RC G s0 A) (hM : RM G A) (hI : Inv K A) (hR : aR G) (hi : i + 7 ≤ κ.2.2.2.2.1) (hL : κ.2.2.2.2.1 ≤ 3584) (hc : c ≤ 500000) (ht : t ≤ 7000000) (go : LG κ μ c t K (i : Nat)) : LV κ μ c t G 486 [some (VR 1000000), some (VR 1), some (VR 145), some (VR 189), some (VI (i : Nat)), x5, x6, x7] [] := by
  refine V_ex sL_law_486 (by rfl) (by exact trivial) ?_
  refine V_sld (i + 1) dL_law_492 (by omega) (by omega) hL ?_
  refine V_ex sL_law_493 (by rfl) (by exact trivial) ?_
  refine V_sld (i + 2) dL_law_498 (by omega) (by omega) hL ?_
  refine V_ex sL_law_499 (by rfl) (by exact trivial) ?_
  have h1 := c_wIsThere (κ := κ) (d := 90) hκ hB hC hI hR (scv_R κ (i + 1)) (scv_R κ (i + 2)) (by decide)
  refine V_callSH (M := ML_law) (N := ML_isThere) dL_law_500 lRL_163 kL_isThere (by decide) h1 rfl rfl (Nat.le_of_ble_eq_true rfl) fit_law ⟨by show _ ≤ 601024; omega, by show _ ≤ 7293034; omega⟩ (fun v Ω' hp => ?_) (fun _ _ h => h.elim)
  obtain ⟨rfl, hcd, G1, s1, rfl, hC1, hf1, hv1⟩ := hp
  have hM1 := RM_W hM hf1
  refine V_ex sL_law_503 (by rfl) (by exact trivial) ?_
  refine V_sld (i + 1) dL_law_511 (by omega) (by omega) hL ?_
  refine V_ex sL_law_512 (by rfl) (by exact trivial) ?_
  refine V_sld (i + 2) dL_law_517 (by omega) (by omega) hL ?_
  have h2 := c_mxIsThere (κ := κ) (d := 90) hκ hM1 hI (scv_R κ (i + 1)) (scv_R κ (i + 2)) (by decide)
  refine V_callV (M := ML_law) (N := MX12_isThere) dL_law_518 lRL_165 kX12_isThere rfl rfl rfl h2 rfl rfl (Nat.le_of_ble_eq_true rfl) fit_law ⟨by show _ ≤ 601024; omega, by show _ ≤ 7293034; omega⟩ (fun v Ω' hp => ?_) (fun _ _ h => h.elim)
  obtain ⟨rfl, G2, rfl, hM2, hf2, hc2⟩ := hp
  have hI2 : Inv (K + 1) (A) := Inv_mono hI (by omega)
  have hC2 := RC_M hC1 hI2 hf2
  refine V_w32 ?_
  refine V_ex sL_law_521 (by rfl) (by exact trivial) ?_
  refine V_callV (M := ML_law) (N := MX12_thrown) dL_law_524 lRL_148 kX12_thrown rfl rfl rfl (c_mThrown (d := 90) hκ) rfl rfl (Nat.le_of_ble_eq_true rfl) fit_law ⟨by show _ ≤ 601024; omega, by show _ ≤ 7293034; omega⟩ (fun v Ω' hp => ?_) (fun _ _ h => h.elim)
  obtain ⟨rfl, rfl⟩ := hp
  rw [hc2]
  refine V_ex sL_law_527 (by rfl) (by exact trivial) ?_
  refine V_icmpeq dL_law_529 (tgt := 534) (by decide) ⟨cd_R hcd, cd_R hcd⟩ (fun q => ?_) (fun q => ?_)
  rotate_left
  · exact absurd rfl q
  refine V_ex sL_law_534 (by rfl) (by exact trivial) ?_
  refine V_ifne dL_law_536 (tgt := 558) (by decide) (cd_R hcd) (fun q => ?_) (fun q => ?_)
  · refine V_goto dL_law_558 (tgt := 3271) (by decide) ?_
    exact go G2 s1 (A) _ _ _ _ _ hC2 hM2 hI2 (by omega) (by omega)
  have e9 : G2.2.1 189 0 = zb (isThereP A (scv κ (i + 1)) (scv κ (i + 2))).2 := (congrFun (hf2.2.1 189 (Or.inr rfl)) 0).trans (hv1 q)
  refine V_ex sL_law_539 (by simp only [Option.toList, List.cons_append, List.nil_append, exN, ex1, gI, gL, gR, pI, pL, pR, lget, lset1, lset2, kl, b2I, b2L, nob, ob32, ob64, xGet, xPut, xLen, xLd, xLdR, xSt, obA, true_and, and_true, and_self, eq_self, Nat.reduceEqDiff, Nat.zero_ne_one, reduceIte, Nat.reduceLeDiff, and_false, false_and, show LF.1 189 = some (.inr (1, 1)) from rfl, upd2_eq, Int.reduceToNat, Int.toNat_natCast, e9]; rfl) (by simp only [ob, obA]; and_intros <;> first | decide | omega) ?_
  refine V_ifeq dL_law_544 (tgt := 551) (by decide) (w32_R _) (fun q9 => ?_) (fun q9 => ?_)
  · have hzb : zb (isThereP A (scv κ (i + 1)) (scv κ (i + 2))).2 = 0 := if_pos q9
    refine V_ex sL_law_551 (by rfl) (by exact trivial) ?_
    rw [hzb]
    refine V_ex sL_law_552 (by rfl) (by exact ⟨⟨by decide, by decide⟩, ⟨by decide, by decide⟩⟩) ?_
    refine V_lifeq dL_law_553 (tgt := 558) (by decide) (fun q8 => ?_) (fun q8 => ?_)
    rotate_left
    · exact absurd rfl q8
    refine V_goto dL_law_558 (tgt := 3271) (by decide) ?_
    exact go G2 s1 (A) _ _ _ _ _ hC2 hM2 hI2 (by omega) (by omega)
  · have hzb : zb (isThereP A (scv κ (i + 1)) (scv κ (i + 2))).2 = 1 := if_neg q9
    refine V_ex sL_law_547 (by rfl) (by exact trivial) ?_
    refine V_goto dL_law_548 (tgt := 552) (by decide) ?_
    rw [hzb]
    refine V_ex sL_law_552 (by rfl) (by exact ⟨⟨by decide, by decide⟩, ⟨by decide, by decide⟩⟩) ?_
    refine V_lifeq dL_law_553 (tgt := 558) (by decide) (fun q8 => ?_) (fun q8 => ?_)
    rotate_left
    · exact absurd rfl q8
    refine V_goto dL_law_558 (tgt := 3271) (by decide) ?_
    exact go G2 s1 (A) _ _ _ _ _ hC2 hM2 hI2 (by omega) (by omega)
set_option maxRecDepth 100000 in
set_option maxHeartbeats 4000000 in
theorem lw_number {κ : Kx} (hκ : KOK κ) (hB : HB κ) (hKS : KS κ) {μ : Mu} {c t s0 i : Nat} {K : Int} {A : Ab} {G : Wd} {x5 x6 x7 : Option Vl} (hC : RC G s0 A) (hM : RM G A) (hI : Inv K A) (hR : aR G) (hi : i + 7 ≤ κ.2.2.2.2.1) (hL : κ.2.2.2.2.1 ≤ 3584) (hc : c ≤ 500000) (ht : t ≤ 7000000) (go : LG κ μ c t K (i : Nat)) : LV κ μ c t G 561 [some (VR 1000000), some (VR 1), some (VR 145), some (VR 189), some (VI (i : Nat)), x5, x6, x7] [] := by
  refine V_ex sL_law_561 (by rfl) (by exact trivial) ?_
  refine V_sld (i + 1) dL_law_567 (by omega) (by omega) hL ?_
  refine V_ex sL_law_568 (by rfl) (by exact trivial) ?_
  refine V_sld (i + 2) dL_law_573 (by omega) (by omega) hL ?_
  refine V_ex sL_law_574 (by rfl) (by exact trivial) ?_
  have h1 := c_wNumber (κ := κ) (d := 90) hκ hB hC hI hR (scv_R κ (i + 1)) (scv_R κ (i + 2)) (by decide)
  refine V_callSH (M := ML_law) (N := ML_number) dL_law_575 lRL_166 kL_number (by decide) h1 rfl rfl (Nat.le_of_ble_eq_true rfl) fit_law ⟨by show _ ≤ 601024; omega, by show _ ≤ 7293034; omega⟩ (fun v Ω' hp => ?_) (fun _ _ h => h.elim)
  obtain ⟨rfl, hcd, G1, s1, rfl, hC1, hf1, hv1⟩ := hp
  have hM1 := RM_W hM hf1
  refine V_ex sL_law_578 (by rfl) (by exact trivial) ?_
  refine V_sld (i + 1) dL_law_586 (by omega) (by omega) hL ?_
  refine V_ex sL_law_587 (by rfl) (by exact trivial) ?_
  refine V_sld (i + 2) dL_law_592 (by omega) (by omega) hL ?_
  have h2 := c_mxNumber (κ := κ) (d := 90) hκ hM1 hI (scv_R κ (i + 1)) (scv_R κ (i + 2)) (by decide)
  refine V_callV (M := ML_law) (N := MX12_number) dL_law_593 lRL_168 kX12_number rfl rfl rfl h2 rfl rfl (Nat.le_of_ble_eq_true rfl) fit_law ⟨by show _ ≤ 601024; omega, by show _ ≤ 7293034; omega⟩ (fun v Ω' hp => ?_) (fun _ _ h => h.elim)
  obtain ⟨rfl, G2, rfl, hM2, hf2, hc2⟩ := hp
  have hI2 : Inv (K + 1) (A) := Inv_mono hI (by omega)
  have hC2 := RC_M hC1 hI2 hf2
  refine V_w32 ?_
  refine V_ex sL_law_596 (by rfl) (by exact trivial) ?_
  refine V_callV (M := ML_law) (N := MX12_thrown) dL_law_599 lRL_148 kX12_thrown rfl rfl rfl (c_mThrown (d := 90) hκ) rfl rfl (Nat.le_of_ble_eq_true rfl) fit_law ⟨by show _ ≤ 601024; omega, by show _ ≤ 7293034; omega⟩ (fun v Ω' hp => ?_) (fun _ _ h => h.elim)
  obtain ⟨rfl, rfl⟩ := hp
  rw [hc2]
  refine V_ex sL_law_602 (by rfl) (by exact trivial) ?_
  refine V_icmpeq dL_law_604 (tgt := 609) (by decide) ⟨cd_R hcd, cd_R hcd⟩ (fun q => ?_) (fun q => ?_)
  rotate_left
  · exact absurd rfl q
  refine V_ex sL_law_609 (by rfl) (by exact trivial) ?_
  refine V_ifne dL_law_611 (tgt := 626) (by decide) (cd_R hcd) (fun q => ?_) (fun q => ?_)
  · refine V_goto dL_law_626 (tgt := 3271) (by decide) ?_
    exact go G2 s1 (A) _ _ _ _ _ hC2 hM2 hI2 (by omega) (by omega)
  have e9 : G2.2.1 189 0 = w32 (numberP A (scv κ (i + 1)) (scv κ (i + 2))).2 := (congrFun (hf2.2.1 189 (Or.inr rfl)) 0).trans (hv1 q)
  refine V_ex sL_law_614 (by simp only [Option.toList, List.cons_append, List.nil_append, exN, ex1, gI, gL, gR, pI, pL, pR, lget, lset1, lset2, kl, b2I, b2L, nob, ob32, ob64, xGet, xPut, xLen, xLd, xLdR, xSt, obA, true_and, and_true, and_self, eq_self, Nat.reduceEqDiff, Nat.zero_ne_one, reduceIte, Nat.reduceLeDiff, and_false, false_and, show LF.1 189 = some (.inr (1, 1)) from rfl, upd2_eq, Int.reduceToNat, Int.toNat_natCast, e9]; rfl) (by exact ⟨⟨by decide, by decide⟩, w32_R _, r64w _⟩) ?_
  refine V_lifeq dL_law_621 (tgt := 626) (by decide) (fun q => ?_) (fun q => ?_)
  rotate_left
  · exact absurd rfl q
  refine V_goto dL_law_626 (tgt := 3271) (by decide) ?_
  exact go G2 s1 (A) _ _ _ _ _ hC2 hM2 hI2 (by omega) (by omega)
set_option maxRecDepth 100000 in
set_option maxHeartbeats 4000000 in
theorem lw_page {κ : Kx} (hκ : KOK κ) (hB : HB κ) (hKS : KS κ) {μ : Mu} {c t s0 i : Nat} {K : Int} {A : Ab} {G : Wd} {x5 x6 x7 : Option Vl} (hC : RC G s0 A) (hM : RM G A) (hI : Inv K A) (hR : aR G) (hi : i + 7 ≤ κ.2.2.2.2.1) (hL : κ.2.2.2.2.1 ≤ 3584) (hc : c ≤ 500000) (ht : t ≤ 7000000) (go : LG κ μ c t K (i : Nat)) : LV κ μ c t G 629 [some (VR 1000000), some (VR 1), some (VR 145), some (VR 189), some (VI (i : Nat)), x5, x6, x7] [] := by
  refine V_ex sL_law_629 (by rfl) (by exact trivial) ?_
  refine V_sld (i + 1) dL_law_635 (by omega) (by omega) hL ?_
  refine V_ex sL_law_636 (by rfl) (by exact trivial) ?_
  refine V_sld (i + 2) dL_law_641 (by omega) (by omega) hL ?_
  refine V_ex sL_law_642 (by rfl) (by exact trivial) ?_
  have h1 := c_wPage (κ := κ) (d := 90) hκ hB hC hI hR (scv_R κ (i + 1)) (scv_R κ (i + 2)) (by decide)
  refine V_callSH (M := ML_law) (N := ML_page) dL_law_643 lRL_169 kL_page (by decide) h1 rfl rfl (Nat.le_of_ble_eq_true rfl) fit_law ⟨by show _ ≤ 601024; omega, by show _ ≤ 7293034; omega⟩ (fun v Ω' hp => ?_) (fun _ _ h => h.elim)
  obtain ⟨rfl, hcd, G1, s1, rfl, hC1, hf1, hv1⟩ := hp
  have hM1 := RM_W hM hf1
  refine V_ex sL_law_646 (by rfl) (by exact trivial) ?_
  refine V_sld (i + 1) dL_law_654 (by omega) (by omega) hL ?_
  refine V_ex sL_law_655 (by rfl) (by exact trivial) ?_
  refine V_sld (i + 2) dL_law_660 (by omega) (by omega) hL ?_
  have h2 := c_mxPage (κ := κ) (d := 90) hκ hM1 hI (scv_R κ (i + 1)) (scv_R κ (i + 2)) (by decide)
  refine V_callV (M := ML_law) (N := MX12_page) dL_law_661 lRL_171 kX12_page rfl rfl rfl h2 rfl rfl (Nat.le_of_ble_eq_true rfl) fit_law ⟨by show _ ≤ 601024; omega, by show _ ≤ 7293034; omega⟩ (fun v Ω' hp => ?_) (fun _ _ h => h.elim)
  obtain ⟨rfl, G2, rfl, hM2, hf2, hc2⟩ := hp
  have hI2 : Inv (K + 1) (A) := Inv_mono hI (by omega)
  have hC2 := RC_M hC1 hI2 hf2
  refine V_w32 ?_
  refine V_ex sL_law_664 (by rfl) (by exact trivial) ?_
  refine V_callV (M := ML_law) (N := MX12_thrown) dL_law_667 lRL_148 kX12_thrown rfl rfl rfl (c_mThrown (d := 90) hκ) rfl rfl (Nat.le_of_ble_eq_true rfl) fit_law ⟨by show _ ≤ 601024; omega, by show _ ≤ 7293034; omega⟩ (fun v Ω' hp => ?_) (fun _ _ h => h.elim)
  obtain ⟨rfl, rfl⟩ := hp
  rw [hc2]
  refine V_ex sL_law_670 (by rfl) (by exact trivial) ?_
  refine V_icmpeq dL_law_672 (tgt := 677) (by decide) ⟨cd_R hcd, cd_R hcd⟩ (fun q => ?_) (fun q => ?_)
  rotate_left
  · exact absurd rfl q
  refine V_ex sL_law_677 (by rfl) (by exact trivial) ?_
  refine V_ifne dL_law_679 (tgt := 694) (by decide) (cd_R hcd) (fun q => ?_) (fun q => ?_)
  · refine V_goto dL_law_694 (tgt := 3271) (by decide) ?_
    exact go G2 s1 (A) _ _ _ _ _ hC2 hM2 hI2 (by omega) (by omega)
  have e9 : G2.2.1 189 0 = w32 (pageP A (scv κ (i + 1)) (scv κ (i + 2))).2 := (congrFun (hf2.2.1 189 (Or.inr rfl)) 0).trans (hv1 q)
  refine V_ex sL_law_682 (by simp only [Option.toList, List.cons_append, List.nil_append, exN, ex1, gI, gL, gR, pI, pL, pR, lget, lset1, lset2, kl, b2I, b2L, nob, ob32, ob64, xGet, xPut, xLen, xLd, xLdR, xSt, obA, true_and, and_true, and_self, eq_self, Nat.reduceEqDiff, Nat.zero_ne_one, reduceIte, Nat.reduceLeDiff, and_false, false_and, show LF.1 189 = some (.inr (1, 1)) from rfl, upd2_eq, Int.reduceToNat, Int.toNat_natCast, e9]; rfl) (by exact ⟨⟨by decide, by decide⟩, w32_R _, r64w _⟩) ?_
  refine V_lifeq dL_law_689 (tgt := 694) (by decide) (fun q => ?_) (fun q => ?_)
  rotate_left
  · exact absurd rfl q
  refine V_goto dL_law_694 (tgt := 3271) (by decide) ?_
  exact go G2 s1 (A) _ _ _ _ _ hC2 hM2 hI2 (by omega) (by omega)
set_option maxRecDepth 100000 in
set_option maxHeartbeats 4000000 in
theorem lw_sum {κ : Kx} (hκ : KOK κ) (hB : HB κ) (hKS : KS κ) {μ : Mu} {c t s0 i : Nat} {K : Int} {A : Ab} {G : Wd} {x5 x6 x7 : Option Vl} (hC : RC G s0 A) (hM : RM G A) (hI : Inv K A) (hR : aR G) (hi : i + 7 ≤ κ.2.2.2.2.1) (hL : κ.2.2.2.2.1 ≤ 3584) (hc : c ≤ 500000) (ht : t ≤ 7000000) (go : LG κ μ c t K (i : Nat)) : LV κ μ c t G 697 [some (VR 1000000), some (VR 1), some (VR 145), some (VR 189), some (VI (i : Nat)), x5, x6, x7] [] := by
  refine V_ex sL_law_697 (by rfl) (by exact trivial) ?_
  refine V_sld (i + 1) dL_law_703 (by omega) (by omega) hL ?_
  refine V_ex sL_law_704 (by rfl) (by exact trivial) ?_
  have h1 := c_wSum (κ := κ) (d := 90) hκ hB hC hI hR (scv_R κ (i + 1)) (by decide)
  refine V_callSH (M := ML_law) (N := ML_sum) dL_law_705 lRL_172 kL_sum (by decide) h1 rfl rfl (Nat.le_of_ble_eq_true rfl) fit_law ⟨by show _ ≤ 601024; omega, by show _ ≤ 7293034; omega⟩ (fun v Ω' hp => ?_) (fun _ _ h => h.elim)
  obtain ⟨rfl, hcd, G1, s1, rfl, hC1, hf1, hv1⟩ := hp
  have hM1 := RM_W hM hf1
  refine V_ex sL_law_708 (by rfl) (by exact trivial) ?_
  refine V_sld (i + 1) dL_law_716 (by omega) (by omega) hL ?_
  have h2 := c_mxSum (κ := κ) (d := 90) hκ hM1 hI (scv_R κ (i + 1)) (by decide)
  refine V_callV (M := ML_law) (N := MX12_sum) dL_law_717 lRL_174 kX12_sum rfl rfl rfl h2 rfl rfl (Nat.le_of_ble_eq_true rfl) fit_law ⟨by show _ ≤ 601024; omega, by show _ ≤ 7293034; omega⟩ (fun v Ω' hp => ?_) (fun _ _ h => h.elim)
  obtain ⟨rfl, G2, rfl, hM2, hf2, hc2⟩ := hp
  have hI2 : Inv (K + 1) (A) := Inv_mono hI (by omega)
  have hC2 := RC_M hC1 hI2 hf2
  refine V_w64 ?_
  refine V_ex sL_law_720 (by rfl) (by exact trivial) ?_
  refine V_callV (M := ML_law) (N := MX12_thrown) dL_law_723 lRL_148 kX12_thrown rfl rfl rfl (c_mThrown (d := 90) hκ) rfl rfl (Nat.le_of_ble_eq_true rfl) fit_law ⟨by show _ ≤ 601024; omega, by show _ ≤ 7293034; omega⟩ (fun v Ω' hp => ?_) (fun _ _ h => h.elim)
  obtain ⟨rfl, rfl⟩ := hp
  rw [hc2]
  refine V_ex sL_law_726 (by rfl) (by exact trivial) ?_
  refine V_icmpeq dL_law_728 (tgt := 733) (by decide) ⟨cd_R hcd, cd_R hcd⟩ (fun q => ?_) (fun q => ?_)
  rotate_left
  · exact absurd rfl q
  refine V_ex sL_law_733 (by rfl) (by exact trivial) ?_
  refine V_ifne dL_law_735 (tgt := 749) (by decide) (cd_R hcd) (fun q => ?_) (fun q => ?_)
  · refine V_goto dL_law_749 (tgt := 3271) (by decide) ?_
    exact go G2 s1 (A) _ _ _ _ _ hC2 hM2 hI2 (by omega) (by omega)
  have e9 : G2.2.1 189 0 = w64 (sumP A (scv κ (i + 1))).2 := (congrFun (hf2.2.1 189 (Or.inr rfl)) 0).trans (hv1 q)
  refine V_ex sL_law_738 (by simp only [Option.toList, List.cons_append, List.nil_append, exN, ex1, gI, gL, gR, pI, pL, pR, lget, lset1, lset2, kl, b2I, b2L, nob, ob32, ob64, xGet, xPut, xLen, xLd, xLdR, xSt, obA, true_and, and_true, and_self, eq_self, Nat.reduceEqDiff, Nat.zero_ne_one, reduceIte, Nat.reduceLeDiff, and_false, false_and, show LF.1 189 = some (.inr (1, 1)) from rfl, upd2_eq, Int.reduceToNat, Int.toNat_natCast, e9]; rfl) (by exact ⟨⟨by decide, by decide⟩, w64_R _⟩) ?_
  refine V_lifeq dL_law_744 (tgt := 749) (by decide) (fun q => ?_) (fun q => ?_)
  rotate_left
  · exact absurd rfl q
  refine V_goto dL_law_749 (tgt := 3271) (by decide) ?_
  exact go G2 s1 (A) _ _ _ _ _ hC2 hM2 hI2 (by omega) (by omega)
set_option maxRecDepth 100000 in
set_option maxHeartbeats 4000000 in
theorem lw_figures {κ : Kx} (hκ : KOK κ) (hB : HB κ) (hKS : KS κ) {μ : Mu} {c t s0 i : Nat} {K : Int} {A : Ab} {G : Wd} {x5 x6 x7 : Option Vl} (hC : RC G s0 A) (hM : RM G A) (hI : Inv K A) (hR : aR G) (hi : i + 7 ≤ κ.2.2.2.2.1) (hL : κ.2.2.2.2.1 ≤ 3584) (hc : c ≤ 500000) (ht : t ≤ 7000000) (go : LG κ μ c t K (i : Nat)) : LV κ μ c t G 752 [some (VR 1000000), some (VR 1), some (VR 145), some (VR 189), some (VI (i : Nat)), x5, x6, x7] [] := by
  refine V_ex sL_law_752 (by rfl) (by exact trivial) ?_
  refine V_sld (i + 1) dL_law_758 (by omega) (by omega) hL ?_
  refine V_ex sL_law_759 (by rfl) (by exact trivial) ?_
  refine V_sld (i + 2) dL_law_764 (by omega) (by omega) hL ?_
  refine V_ex sL_law_765 (by rfl) (by exact trivial) ?_
  have h1 := c_wFigures (κ := κ) (d := 90) hκ hB hC hI hR (scv_R κ (i + 1)) (scv_R κ (i + 2)) (by decide)
  refine V_callSH (M := ML_law) (N := ML_figures) dL_law_766 lRL_175 kL_figures (by decide) h1 rfl rfl (Nat.le_of_ble_eq_true rfl) fit_law ⟨by show _ ≤ 601024; omega, by show _ ≤ 7293034; omega⟩ (fun v Ω' hp => ?_) (fun _ _ h => h.elim)
  obtain ⟨rfl, hcd, G1, s1, rfl, hC1, hf1, hv1⟩ := hp
  have hM1 := RM_W hM hf1
  refine V_ex sL_law_769 (by rfl) (by exact trivial) ?_
  refine V_sld (i + 1) dL_law_777 (by omega) (by omega) hL ?_
  refine V_ex sL_law_778 (by rfl) (by exact trivial) ?_
  refine V_sld (i + 2) dL_law_783 (by omega) (by omega) hL ?_
  have h2 := c_mxFigures (κ := κ) (d := 90) hκ hM1 hI (scv_R κ (i + 1)) (scv_R κ (i + 2)) (by decide)
  refine V_callV (M := ML_law) (N := MX12_figures) dL_law_784 lRL_177 kX12_figures rfl rfl rfl h2 rfl rfl (Nat.le_of_ble_eq_true rfl) fit_law ⟨by show _ ≤ 601024; omega, by show _ ≤ 7293034; omega⟩ (fun v Ω' hp => ?_) (fun _ _ h => h.elim)
  obtain ⟨rfl, G2, rfl, hM2, hf2, hc2⟩ := hp
  have hI2 : Inv (K + 1) (A) := Inv_mono hI (by omega)
  have hC2 := RC_M hC1 hI2 hf2
  refine V_w32 ?_
  refine V_ex sL_law_787 (by rfl) (by exact trivial) ?_
  refine V_callV (M := ML_law) (N := MX12_thrown) dL_law_790 lRL_148 kX12_thrown rfl rfl rfl (c_mThrown (d := 90) hκ) rfl rfl (Nat.le_of_ble_eq_true rfl) fit_law ⟨by show _ ≤ 601024; omega, by show _ ≤ 7293034; omega⟩ (fun v Ω' hp => ?_) (fun _ _ h => h.elim)
  obtain ⟨rfl, rfl⟩ := hp
  rw [hc2]
  refine V_ex sL_law_793 (by rfl) (by exact trivial) ?_
  refine V_icmpeq dL_law_795 (tgt := 800) (by decide) ⟨cd_R hcd, cd_R hcd⟩ (fun q => ?_) (fun q => ?_)
  rotate_left
  · exact absurd rfl q
  refine V_ex sL_law_800 (by rfl) (by exact trivial) ?_
  refine V_ifne dL_law_802 (tgt := 817) (by decide) (cd_R hcd) (fun q => ?_) (fun q => ?_)
  · refine V_goto dL_law_817 (tgt := 3271) (by decide) ?_
    exact go G2 s1 (A) _ _ _ _ _ hC2 hM2 hI2 (by omega) (by omega)
  have e9 : G2.2.1 189 0 = w32 (figuresP A (scv κ (i + 1)) (scv κ (i + 2))).2 := (congrFun (hf2.2.1 189 (Or.inr rfl)) 0).trans (hv1 q)
  refine V_ex sL_law_805 (by simp only [Option.toList, List.cons_append, List.nil_append, exN, ex1, gI, gL, gR, pI, pL, pR, lget, lset1, lset2, kl, b2I, b2L, nob, ob32, ob64, xGet, xPut, xLen, xLd, xLdR, xSt, obA, true_and, and_true, and_self, eq_self, Nat.reduceEqDiff, Nat.zero_ne_one, reduceIte, Nat.reduceLeDiff, and_false, false_and, show LF.1 189 = some (.inr (1, 1)) from rfl, upd2_eq, Int.reduceToNat, Int.toNat_natCast, e9]; rfl) (by exact ⟨⟨by decide, by decide⟩, w32_R _, r64w _⟩) ?_
  refine V_lifeq dL_law_812 (tgt := 817) (by decide) (fun q => ?_) (fun q => ?_)
  rotate_left
  · exact absurd rfl q
  refine V_goto dL_law_817 (tgt := 3271) (by decide) ?_
  exact go G2 s1 (A) _ _ _ _ _ hC2 hM2 hI2 (by omega) (by omega)
set_option maxRecDepth 100000 in
set_option maxHeartbeats 4000000 in
theorem lw_tear {κ : Kx} (hκ : KOK κ) (hB : HB κ) (hKS : KS κ) {μ : Mu} {c t s0 i : Nat} {K : Int} {A : Ab} {G : Wd} {x5 x6 x7 : Option Vl} (hC : RC G s0 A) (hM : RM G A) (hI : Inv K A) (hR : aR G) (hi : i + 7 ≤ κ.2.2.2.2.1) (hL : κ.2.2.2.2.1 ≤ 3584) (hc : c ≤ 500000) (ht : t ≤ 7000000) (go : LG κ μ c t K (i : Nat)) : LV κ μ c t G 820 [some (VR 1000000), some (VR 1), some (VR 145), some (VR 189), some (VI (i : Nat)), x5, x6, x7] [] := by
  refine V_ex sL_law_820 (by rfl) (by exact trivial) ?_
  refine V_sld (i + 1) dL_law_826 (by omega) (by omega) hL ?_
  refine V_ex sL_law_827 (by rfl) (by exact trivial) ?_
  refine V_sld (i + 2) dL_law_832 (by omega) (by omega) hL ?_
  refine V_ex sL_law_833 (by rfl) (by exact trivial) ?_
  have h1 := c_wTear (κ := κ) (d := 90) hκ hB hC hI hR (scv_R κ (i + 1)) (scv_R κ (i + 2)) (by decide)
  refine V_callSH (M := ML_law) (N := ML_tear) dL_law_834 lRL_178 kL_tear (by decide) h1 rfl rfl (Nat.le_of_ble_eq_true rfl) fit_law ⟨by show _ ≤ 601024; omega, by show _ ≤ 7293034; omega⟩ (fun v Ω' hp => ?_) (fun _ _ h => h.elim)
  obtain ⟨rfl, hcd, G1, s1, rfl, hC1, hf1, hv1⟩ := hp
  have hM1 := RM_W hM hf1
  refine V_ex sL_law_837 (by rfl) (by exact trivial) ?_
  refine V_sld (i + 1) dL_law_845 (by omega) (by omega) hL ?_
  refine V_ex sL_law_846 (by rfl) (by exact trivial) ?_
  refine V_sld (i + 2) dL_law_851 (by omega) (by omega) hL ?_
  have h2 := c_mxTear (κ := κ) (d := 90) hκ hM1 hI (scv_R κ (i + 1)) (scv_R κ (i + 2)) (by decide)
  refine V_callV (M := ML_law) (N := MX12_tear) dL_law_852 lRL_180 kX12_tear rfl rfl rfl h2 rfl rfl (Nat.le_of_ble_eq_true rfl) fit_law ⟨by show _ ≤ 601024; omega, by show _ ≤ 7293034; omega⟩ (fun v Ω' hp => ?_) (fun _ _ h => h.elim)
  obtain ⟨rfl, G2, rfl, hM2, hf2, hc2⟩ := hp
  have hI2 : Inv (K + 1) ((tearP A (scv κ (i + 1)) (scv κ (i + 2))).2.2) := Inv_tear hI
  have hC2 := RC_M hC1 hI2 hf2
  refine V_w32 ?_
  refine V_ex sL_law_855 (by rfl) (by exact trivial) ?_
  refine V_callV (M := ML_law) (N := MX12_thrown) dL_law_858 lRL_148 kX12_thrown rfl rfl rfl (c_mThrown (d := 90) hκ) rfl rfl (Nat.le_of_ble_eq_true rfl) fit_law ⟨by show _ ≤ 601024; omega, by show _ ≤ 7293034; omega⟩ (fun v Ω' hp => ?_) (fun _ _ h => h.elim)
  obtain ⟨rfl, rfl⟩ := hp
  rw [hc2]
  refine V_ex sL_law_861 (by rfl) (by exact trivial) ?_
  refine V_icmpeq dL_law_863 (tgt := 868) (by decide) ⟨cd_R hcd, cd_R hcd⟩ (fun q => ?_) (fun q => ?_)
  rotate_left
  · exact absurd rfl q
  refine V_ex sL_law_868 (by rfl) (by exact trivial) ?_
  refine V_ifne dL_law_870 (tgt := 885) (by decide) (cd_R hcd) (fun q => ?_) (fun q => ?_)
  · refine V_goto dL_law_885 (tgt := 3271) (by decide) ?_
    exact go G2 s1 ((tearP A (scv κ (i + 1)) (scv κ (i + 2))).2.2) _ _ _ _ _ hC2 hM2 hI2 (by omega) (by omega)
  have e9 : G2.2.1 189 0 = w32 (tearP A (scv κ (i + 1)) (scv κ (i + 2))).2.1 := (congrFun (hf2.2.1 189 (Or.inr rfl)) 0).trans (hv1 q)
  refine V_ex sL_law_873 (by simp only [Option.toList, List.cons_append, List.nil_append, exN, ex1, gI, gL, gR, pI, pL, pR, lget, lset1, lset2, kl, b2I, b2L, nob, ob32, ob64, xGet, xPut, xLen, xLd, xLdR, xSt, obA, true_and, and_true, and_self, eq_self, Nat.reduceEqDiff, Nat.zero_ne_one, reduceIte, Nat.reduceLeDiff, and_false, false_and, show LF.1 189 = some (.inr (1, 1)) from rfl, upd2_eq, Int.reduceToNat, Int.toNat_natCast, e9]; rfl) (by exact ⟨⟨by decide, by decide⟩, w32_R _, r64w _⟩) ?_
  refine V_lifeq dL_law_880 (tgt := 885) (by decide) (fun q => ?_) (fun q => ?_)
  rotate_left
  · exact absurd rfl q
  refine V_goto dL_law_885 (tgt := 3271) (by decide) ?_
  exact go G2 s1 ((tearP A (scv κ (i + 1)) (scv κ (i + 2))).2.2) _ _ _ _ _ hC2 hM2 hI2 (by omega) (by omega)
