/-! THE LAW'S WRAPPERS, the other half, by program -/
set_option maxRecDepth 100000 in
set_option maxHeartbeats 4000000 in
set_option maxRecDepth 100000 in
set_option maxHeartbeats 4000000 in
theorem c_wSaid {κ : Kx} (hκ : KOK κ) (hB : HB κ) {d s0 : Nat} {K s f m : Int} {A : Ab} {G : Wd} (hC : RC G s0 A) (hI : Inv K A) (hR : aR G) (h_s : R64 s) (h_f : R32 f) (h_m : R64 m) (hd : 80 ≤ d) : Ct κ ML_said d 16 128 [VR 1, VL s, VI f, VL m, VR 189] (Wm G) (wP G (A) (saidP s f m).1 (w32 (saidP s f m).2)) noX := by
  refine Ct_ofH hκ kL_said.1 (by decide) (Nat.le_of_ble_eq_true rfl) (ls := [some (VR 1), some (VL s), none, some (VI f), some (VL m), none, some (VR 189), none]) rfl (fun μ => ?_)
  have h1 := c_xSaid (κ := κ) (d := 70) hκ hC hI hR h_s h_f h_m (by omega)
  refine V_ex sL_said_0 (by rfl) (by exact trivial) ?_
  refine V_callVH (M := ML_said) (N := MX11_said) dL_said_8 lRL_73 kX11_said rfl rfl rfl h1 rfl rfl (Nat.le_of_ble_eq_true rfl) (fit_rm (by omega)) ⟨Nat.le_of_ble_eq_true rfl, Nat.le_of_ble_eq_true rfl⟩ (fun v Ω' hp => ?_) (fun E Ω' hx => ?_)
  · obtain ⟨hok, rfl, G', s', rfl, hC', hf⟩ := hp
    refine V_w32 ?_
    refine V_ex sL_said_11 (by simp only [Option.toList, List.cons_append, List.nil_append, exN, ex1, gI, gL, gR, pI, pL, pR, lget, lset1, lset2, kl, b2I, b2L, nob, ob32, ob64, xGet, xPut, xLen, xLd, xLdR, xSt, obA, true_and, and_true, and_self, eq_self, Nat.reduceEqDiff, Nat.zero_ne_one, reduceIte, Nat.reduceLeDiff, and_false, false_and, show LF.1 189 = some (.inr (1, 1)) from rfl, upd2_eq, Int.reduceToNat, Int.toNat_natCast]; rfl) (by simp only [ob, obA]; first | exact ⟨w32_R _, by decide, by decide⟩ | exact ⟨by decide, by decide⟩ | (refine ⟨?_, ?_⟩ <;> first | exact w32_R _ | decide)) ?_
    refine V_goto dL_said_13 (tgt := 24) (by decide) ?_
    refine V_ex sL_said_24 (by rfl) (by exact trivial) ?_
    exact V_iret dL_said_25 rfl ⟨Nat.le_of_ble_eq_true rfl, Nat.le_of_ble_eq_true rfl⟩ ⟨by rw [hok], Or.inl hok, (G'.1, upd2 G'.2.1 189 0 (w32 (saidP s f m).2), G'.2.2), s', rfl, RC_L hC', hf.w, fun _ => uuL⟩
  · obtain ⟨hk2, G', s', rfl, hC', hf⟩ := hx
    rcases hk2 with ⟨hk, rfl⟩ | ⟨hk, rfl⟩
    · skip
      refine ⟨16, ⟨[], ⟨0, 13, 16, 18⟩, [⟨0, 13, 20, 13⟩], NSE, rfl, by decide, rfl, by decide, by decide +kernel, by decide +kernel, fun z hz => nomatch hz⟩, fun q => ?_⟩
      refine V_ex sL_said_16 (by rfl) (by exact trivial) ?_
      exact V_iret dL_said_19 rfl ⟨Nat.le_of_ble_eq_true rfl, Nat.le_of_ble_eq_true rfl⟩ ⟨by rw [hk], Or.inr (Or.inl hk), G', s', rfl, hC', hf.c, fun h => by rw [hk] at h; cases h⟩
    · skip
      refine ⟨20, ⟨[⟨0, 13, 16, 18⟩], ⟨0, 13, 20, 13⟩, [], IAE, rfl, by decide, rfl, by decide, by decide +kernel, by decide +kernel, fun z hz => by rw [List.mem_singleton.mp hz]; exact Or.inr ⟨by decide, NSE, by decide +kernel, hB⟩⟩, fun q => ?_⟩
      refine V_ex sL_said_20 (by rfl) (by exact trivial) ?_
      exact V_iret dL_said_23 rfl ⟨Nat.le_of_ble_eq_true rfl, Nat.le_of_ble_eq_true rfl⟩ ⟨by rw [hk], Or.inr (Or.inr hk), G', s', rfl, hC', hf.c, fun h => by rw [hk] at h; cases h⟩
set_option maxRecDepth 100000 in
set_option maxHeartbeats 4000000 in
set_option maxRecDepth 100000 in
set_option maxHeartbeats 4000000 in
theorem c_wTells {κ : Kx} (hκ : KOK κ) (hB : HB κ) {d s0 : Nat} {K s : Int} {A : Ab} {G : Wd} (hC : RC G s0 A) (hI : Inv K A) (hR : aR G) (h_s : R64 s) (hd : 80 ≤ d) : Ct κ ML_tells d 16 128 [VR 1, VL s, VR 189] (Wm G) (wP G (A) (tellsP s).1 (w32 (tellsP s).2)) noX := by
  refine Ct_ofH hκ kL_tells.1 (by decide) (Nat.le_of_ble_eq_true rfl) (ls := [some (VR 1), some (VL s), none, some (VR 189), none]) rfl (fun μ => ?_)
  have h1 := c_xTells (κ := κ) (d := 70) hκ hC hI hR h_s (by omega)
  refine V_ex sL_tells_0 (by rfl) (by exact trivial) ?_
  refine V_callVH (M := ML_tells) (N := MX11_tells) dL_tells_4 lRL_77 kX11_tells rfl rfl rfl h1 rfl rfl (Nat.le_of_ble_eq_true rfl) (fit_rm (by omega)) ⟨Nat.le_of_ble_eq_true rfl, Nat.le_of_ble_eq_true rfl⟩ (fun v Ω' hp => ?_) (fun E Ω' hx => ?_)
  · obtain ⟨hok, rfl, G', s', rfl, hC', hf⟩ := hp
    refine V_w32 ?_
    refine V_ex sL_tells_7 (by simp only [Option.toList, List.cons_append, List.nil_append, exN, ex1, gI, gL, gR, pI, pL, pR, lget, lset1, lset2, kl, b2I, b2L, nob, ob32, ob64, xGet, xPut, xLen, xLd, xLdR, xSt, obA, true_and, and_true, and_self, eq_self, Nat.reduceEqDiff, Nat.zero_ne_one, reduceIte, Nat.reduceLeDiff, and_false, false_and, show LF.1 189 = some (.inr (1, 1)) from rfl, upd2_eq, Int.reduceToNat, Int.toNat_natCast]; rfl) (by simp only [ob, obA]; first | exact ⟨w32_R _, by decide, by decide⟩ | exact ⟨by decide, by decide⟩ | (refine ⟨?_, ?_⟩ <;> first | exact w32_R _ | decide)) ?_
    refine V_goto dL_tells_9 (tgt := 16) (by decide) ?_
    refine V_ex sL_tells_16 (by rfl) (by exact trivial) ?_
    exact V_iret dL_tells_17 rfl ⟨Nat.le_of_ble_eq_true rfl, Nat.le_of_ble_eq_true rfl⟩ ⟨by rw [hok], Or.inl hok, (G'.1, upd2 G'.2.1 189 0 (w32 (tellsP s).2), G'.2.2), s', rfl, RC_L hC', hf.w, fun _ => uuL⟩
  · obtain ⟨hk, rfl, G', s', rfl, hC', hf⟩ := hx
    refine ⟨12, ⟨[], ⟨0, 9, 12, 13⟩, [], IAE, rfl, by decide, rfl, by decide, by decide +kernel, by decide +kernel, fun z hz => nomatch hz⟩, fun q => ?_⟩
    refine V_ex sL_tells_12 (by rfl) (by exact trivial) ?_
    exact V_iret dL_tells_15 rfl ⟨Nat.le_of_ble_eq_true rfl, Nat.le_of_ble_eq_true rfl⟩ ⟨by rw [hk], Or.inr (Or.inl hk), G', s', rfl, hC', hf.c, fun h => by rw [hk] at h; cases h⟩
set_option maxRecDepth 100000 in
set_option maxHeartbeats 4000000 in
set_option maxRecDepth 100000 in
set_option maxHeartbeats 4000000 in
theorem c_wFar {κ : Kx} (hκ : KOK κ) (hB : HB κ) {d s0 : Nat} {K n : Int} {A : Ab} {G : Wd} (hC : RC G s0 A) (hI : Inv K A) (hR : aR G) (h_n : R32 n) (hd : 80 ≤ d) : Ct κ ML_far d 16 128 [VR 1, VI n, VR 189] (Wm G) (wP G (A) (farP (leadL A.1) n).1 (w32 (farP (leadL A.1) n).2)) noX := by
  refine Ct_ofH hκ kL_far.1 (by decide) (Nat.le_of_ble_eq_true rfl) (ls := [some (VR 1), some (VI n), some (VR 189), none]) rfl (fun μ => ?_)
  have h1 := c_xFar (κ := κ) (d := 70) hκ hC hI hR h_n (by omega)
  refine V_ex sL_far_0 (by rfl) (by exact trivial) ?_
  refine V_callVH (M := ML_far) (N := MX11_far) dL_far_4 lRL_81 kX11_far rfl rfl rfl h1 rfl rfl (Nat.le_of_ble_eq_true rfl) (fit_rm (by omega)) ⟨Nat.le_of_ble_eq_true rfl, Nat.le_of_ble_eq_true rfl⟩ (fun v Ω' hp => ?_) (fun E Ω' hx => ?_)
  · obtain ⟨hok, rfl, G', s', rfl, hC', hf⟩ := hp
    refine V_w32 ?_
    refine V_ex sL_far_7 (by simp only [Option.toList, List.cons_append, List.nil_append, exN, ex1, gI, gL, gR, pI, pL, pR, lget, lset1, lset2, kl, b2I, b2L, nob, ob32, ob64, xGet, xPut, xLen, xLd, xLdR, xSt, obA, true_and, and_true, and_self, eq_self, Nat.reduceEqDiff, Nat.zero_ne_one, reduceIte, Nat.reduceLeDiff, and_false, false_and, show LF.1 189 = some (.inr (1, 1)) from rfl, upd2_eq, Int.reduceToNat, Int.toNat_natCast]; rfl) (by simp only [ob, obA]; first | exact ⟨w32_R _, by decide, by decide⟩ | exact ⟨by decide, by decide⟩ | (refine ⟨?_, ?_⟩ <;> first | exact w32_R _ | decide)) ?_
    refine V_goto dL_far_9 (tgt := 15) (by decide) ?_
    refine V_ex sL_far_15 (by rfl) (by exact trivial) ?_
    exact V_iret dL_far_16 rfl ⟨Nat.le_of_ble_eq_true rfl, Nat.le_of_ble_eq_true rfl⟩ ⟨by rw [hok], Or.inl hok, (G'.1, upd2 G'.2.1 189 0 (w32 (farP (leadL A.1) n).2), G'.2.2), s', rfl, RC_L hC', hf.w, fun _ => uuL⟩
  · obtain ⟨hk, rfl, G', s', rfl, hC', hf⟩ := hx
    refine ⟨12, ⟨[], ⟨0, 9, 12, 13⟩, [], IAE, rfl, by decide, rfl, by decide, by decide +kernel, by decide +kernel, fun z hz => nomatch hz⟩, fun q => ?_⟩
    refine V_ex sL_far_12 (by rfl) (by exact trivial) ?_
    exact V_iret dL_far_14 rfl ⟨Nat.le_of_ble_eq_true rfl, Nat.le_of_ble_eq_true rfl⟩ ⟨by rw [hk], Or.inr (Or.inl hk), G', s', rfl, hC', hf.c, fun h => by rw [hk] at h; cases h⟩
set_option maxRecDepth 100000 in
set_option maxHeartbeats 4000000 in
set_option maxRecDepth 100000 in
set_option maxHeartbeats 4000000 in
theorem c_wLacks {κ : Kx} (hκ : KOK κ) (hB : HB κ) {d s0 : Nat} {K n : Int} {A : Ab} {G : Wd} (hC : RC G s0 A) (hI : Inv K A) (hR : aR G) (h_n : R32 n) (hd : 80 ≤ d) : Ct κ ML_lacks d 16 128 [VR 1, VI n, VR 189] (Wm G) (wP G (A) (lacksP (leadL A.1) n).1 (w32 (lacksP (leadL A.1) n).2)) noX := by
  refine Ct_ofH hκ kL_lacks.1 (by decide) (Nat.le_of_ble_eq_true rfl) (ls := [some (VR 1), some (VI n), some (VR 189), none]) rfl (fun μ => ?_)
  have h1 := c_xLacks (κ := κ) (d := 70) hκ hC hI hR h_n (by omega)
  refine V_ex sL_lacks_0 (by rfl) (by exact trivial) ?_
  refine V_callVH (M := ML_lacks) (N := MX11_lacks) dL_lacks_4 lRL_84 kX11_lacks rfl rfl rfl h1 rfl rfl (Nat.le_of_ble_eq_true rfl) (fit_rm (by omega)) ⟨Nat.le_of_ble_eq_true rfl, Nat.le_of_ble_eq_true rfl⟩ (fun v Ω' hp => ?_) (fun E Ω' hx => ?_)
  · obtain ⟨hok, rfl, G', s', rfl, hC', hf⟩ := hp
    refine V_w32 ?_
    refine V_ex sL_lacks_7 (by simp only [Option.toList, List.cons_append, List.nil_append, exN, ex1, gI, gL, gR, pI, pL, pR, lget, lset1, lset2, kl, b2I, b2L, nob, ob32, ob64, xGet, xPut, xLen, xLd, xLdR, xSt, obA, true_and, and_true, and_self, eq_self, Nat.reduceEqDiff, Nat.zero_ne_one, reduceIte, Nat.reduceLeDiff, and_false, false_and, show LF.1 189 = some (.inr (1, 1)) from rfl, upd2_eq, Int.reduceToNat, Int.toNat_natCast]; rfl) (by simp only [ob, obA]; first | exact ⟨w32_R _, by decide, by decide⟩ | exact ⟨by decide, by decide⟩ | (refine ⟨?_, ?_⟩ <;> first | exact w32_R _ | decide)) ?_
    refine V_goto dL_lacks_9 (tgt := 15) (by decide) ?_
    refine V_ex sL_lacks_15 (by rfl) (by exact trivial) ?_
    exact V_iret dL_lacks_16 rfl ⟨Nat.le_of_ble_eq_true rfl, Nat.le_of_ble_eq_true rfl⟩ ⟨by rw [hok], Or.inl hok, (G'.1, upd2 G'.2.1 189 0 (w32 (lacksP (leadL A.1) n).2), G'.2.2), s', rfl, RC_L hC', hf.w, fun _ => uuL⟩
  · obtain ⟨hk, rfl, G', s', rfl, hC', hf⟩ := hx
    refine ⟨12, ⟨[], ⟨0, 9, 12, 13⟩, [], IAE, rfl, by decide, rfl, by decide, by decide +kernel, by decide +kernel, fun z hz => nomatch hz⟩, fun q => ?_⟩
    refine V_ex sL_lacks_12 (by rfl) (by exact trivial) ?_
    exact V_iret dL_lacks_14 rfl ⟨Nat.le_of_ble_eq_true rfl, Nat.le_of_ble_eq_true rfl⟩ ⟨by rw [hk], Or.inr (Or.inl hk), G', s', rfl, hC', hf.c, fun h => by rw [hk] at h; cases h⟩
set_option maxRecDepth 100000 in
set_option maxHeartbeats 4000000 in
set_option maxRecDepth 100000 in
set_option maxHeartbeats 4000000 in
theorem c_wSkip {κ : Kx} (hκ : KOK κ) (hB : HB κ) {d s0 : Nat} {K f n w : Int} {A : Ab} {G : Wd} (hC : RC G s0 A) (hI : Inv K A) (hR : aR G) (h_f : R32 f) (h_n : R64 n) (h_w : R32 w) (hd : 80 ≤ d) : Ct κ ML_skip d 16 128 [VR 1, VI f, VL n, VI w, VR 189] (Wm G) (wP G (A) (skipP f n w).1 (w64 (skipP f n w).2)) noX := by
  refine Ct_ofH hκ kL_skip.1 (by decide) (Nat.le_of_ble_eq_true rfl) (ls := [some (VR 1), some (VI f), some (VL n), none, some (VI w), some (VR 189), none]) rfl (fun μ => ?_)
  have h1 := c_xSkip (κ := κ) (d := 70) hκ hC hI hR h_f h_n h_w (by omega)
  refine V_ex sL_skip_0 (by rfl) (by exact trivial) ?_
  refine V_callVH (M := ML_skip) (N := MX11_skip) dL_skip_8 lRL_87 kX11_skip rfl rfl rfl h1 rfl rfl (Nat.le_of_ble_eq_true rfl) (fit_rm (by omega)) ⟨Nat.le_of_ble_eq_true rfl, Nat.le_of_ble_eq_true rfl⟩ (fun v Ω' hp => ?_) (fun E Ω' hx => ?_)
  · obtain ⟨hok, rfl, G', s', rfl, hC', hf⟩ := hp
    refine V_w64 ?_
    refine V_ex sL_skip_11 (by simp only [Option.toList, List.cons_append, List.nil_append, exN, ex1, gI, gL, gR, pI, pL, pR, lget, lset1, lset2, kl, b2I, b2L, nob, ob32, ob64, xGet, xPut, xLen, xLd, xLdR, xSt, obA, true_and, and_true, and_self, eq_self, Nat.reduceEqDiff, Nat.zero_ne_one, reduceIte, Nat.reduceLeDiff, and_false, false_and, show LF.1 189 = some (.inr (1, 1)) from rfl, upd2_eq, Int.reduceToNat, Int.toNat_natCast]; rfl) (by simp only [ob, obA]; first | exact ⟨w32_R _, by decide, by decide⟩ | exact ⟨by decide, by decide⟩ | (refine ⟨?_, ?_⟩ <;> first | exact w32_R _ | decide)) ?_
    refine V_goto dL_skip_12 (tgt := 19) (by decide) ?_
    refine V_ex sL_skip_19 (by rfl) (by exact trivial) ?_
    exact V_iret dL_skip_20 rfl ⟨Nat.le_of_ble_eq_true rfl, Nat.le_of_ble_eq_true rfl⟩ ⟨by rw [hok], Or.inl hok, (G'.1, upd2 G'.2.1 189 0 (w64 (skipP f n w).2), G'.2.2), s', rfl, RC_L hC', hf.w, fun _ => uuL⟩
  · obtain ⟨hk, rfl, G', s', rfl, hC', hf⟩ := hx
    refine ⟨15, ⟨[], ⟨0, 12, 15, 13⟩, [], IAE, rfl, by decide, rfl, by decide, by decide +kernel, by decide +kernel, fun z hz => nomatch hz⟩, fun q => ?_⟩
    refine V_ex sL_skip_15 (by rfl) (by exact trivial) ?_
    exact V_iret dL_skip_18 rfl ⟨Nat.le_of_ble_eq_true rfl, Nat.le_of_ble_eq_true rfl⟩ ⟨by rw [hk], Or.inr (Or.inl hk), G', s', rfl, hC', hf.c, fun h => by rw [hk] at h; cases h⟩
set_option maxRecDepth 100000 in
set_option maxHeartbeats 4000000 in
set_option maxRecDepth 100000 in
set_option maxHeartbeats 4000000 in
theorem c_wWhole {κ : Kx} (hκ : KOK κ) (hB : HB κ) {d s0 : Nat} {K i : Int} {A : Ab} {G : Wd} (hC : RC G s0 A) (hI : Inv K A) (hR : aR G) (h_i : R32 i) (hd : 80 ≤ d) : Ct κ ML_whole d 16 128 [VR 1, VI i, VR 189] (Wm G) (wP G (A) (wholeP A i).1 (w32 (wholeP A i).2)) noX := by
  refine Ct_ofH hκ kL_whole.1 (by decide) (Nat.le_of_ble_eq_true rfl) (ls := [some (VR 1), some (VI i), some (VR 189), none]) rfl (fun μ => ?_)
  have h1 := c_xWhole (κ := κ) (d := 70) hκ hC hI hR h_i (by omega)
  refine V_ex sL_whole_0 (by rfl) (by exact trivial) ?_
  refine V_callVH (M := ML_whole) (N := MX11_whole) dL_whole_4 lRL_91 kX11_whole rfl rfl rfl h1 rfl rfl (Nat.le_of_ble_eq_true rfl) (fit_rm (by omega)) ⟨Nat.le_of_ble_eq_true rfl, Nat.le_of_ble_eq_true rfl⟩ (fun v Ω' hp => ?_) (fun E Ω' hx => ?_)
  · obtain ⟨hok, rfl, G', s', rfl, hC', hf⟩ := hp
    refine V_w32 ?_
    refine V_ex sL_whole_7 (by simp only [Option.toList, List.cons_append, List.nil_append, exN, ex1, gI, gL, gR, pI, pL, pR, lget, lset1, lset2, kl, b2I, b2L, nob, ob32, ob64, xGet, xPut, xLen, xLd, xLdR, xSt, obA, true_and, and_true, and_self, eq_self, Nat.reduceEqDiff, Nat.zero_ne_one, reduceIte, Nat.reduceLeDiff, and_false, false_and, show LF.1 189 = some (.inr (1, 1)) from rfl, upd2_eq, Int.reduceToNat, Int.toNat_natCast]; rfl) (by simp only [ob, obA]; first | exact ⟨w32_R _, by decide, by decide⟩ | exact ⟨by decide, by decide⟩ | (refine ⟨?_, ?_⟩ <;> first | exact w32_R _ | decide)) ?_
    refine V_goto dL_whole_9 (tgt := 15) (by decide) ?_
    refine V_ex sL_whole_15 (by rfl) (by exact trivial) ?_
    exact V_iret dL_whole_16 rfl ⟨Nat.le_of_ble_eq_true rfl, Nat.le_of_ble_eq_true rfl⟩ ⟨by rw [hok], Or.inl hok, (G'.1, upd2 G'.2.1 189 0 (w32 (wholeP A i).2), G'.2.2), s', rfl, RC_L hC', hf.w, fun _ => uuL⟩
  · obtain ⟨hk, rfl, G', s', rfl, hC', hf⟩ := hx
    refine ⟨12, ⟨[], ⟨0, 9, 12, 18⟩, [], NSE, rfl, by decide, rfl, by decide, by decide +kernel, by decide +kernel, fun z hz => nomatch hz⟩, fun q => ?_⟩
    refine V_ex sL_whole_12 (by rfl) (by exact trivial) ?_
    exact V_iret dL_whole_14 rfl ⟨Nat.le_of_ble_eq_true rfl, Nat.le_of_ble_eq_true rfl⟩ ⟨by rw [hk], Or.inr (Or.inl hk), G', s', rfl, hC', hf.c, fun h => by rw [hk] at h; cases h⟩
set_option maxRecDepth 100000 in
set_option maxHeartbeats 4000000 in
set_option maxRecDepth 100000 in
set_option maxHeartbeats 4000000 in
theorem c_wBought {κ : Kx} (hκ : KOK κ) (hB : HB κ) {d s0 : Nat} {K i : Int} {A : Ab} {G : Wd} (hC : RC G s0 A) (hI : Inv K A) (hR : aR G) (h_i : R32 i) (hd : 80 ≤ d) : Ct κ ML_bought d 16 128 [VR 1, VI i, VR 189] (Wm G) (wP G (A) (boughtP A i).1 (w32 (boughtP A i).2)) noX := by
  refine Ct_ofH hκ kL_bought.1 (by decide) (Nat.le_of_ble_eq_true rfl) (ls := [some (VR 1), some (VI i), some (VR 189), none]) rfl (fun μ => ?_)
  have h1 := c_xBought (κ := κ) (d := 70) hκ hC hI hR h_i (by omega)
  refine V_ex sL_bought_0 (by rfl) (by exact trivial) ?_
  refine V_callVH (M := ML_bought) (N := MX11_bought) dL_bought_4 lRL_94 kX11_bought rfl rfl rfl h1 rfl rfl (Nat.le_of_ble_eq_true rfl) (fit_rm (by omega)) ⟨Nat.le_of_ble_eq_true rfl, Nat.le_of_ble_eq_true rfl⟩ (fun v Ω' hp => ?_) (fun E Ω' hx => ?_)
  · obtain ⟨hok, rfl, G', s', rfl, hC', hf⟩ := hp
    refine V_w32 ?_
    refine V_ex sL_bought_7 (by simp only [Option.toList, List.cons_append, List.nil_append, exN, ex1, gI, gL, gR, pI, pL, pR, lget, lset1, lset2, kl, b2I, b2L, nob, ob32, ob64, xGet, xPut, xLen, xLd, xLdR, xSt, obA, true_and, and_true, and_self, eq_self, Nat.reduceEqDiff, Nat.zero_ne_one, reduceIte, Nat.reduceLeDiff, and_false, false_and, show LF.1 189 = some (.inr (1, 1)) from rfl, upd2_eq, Int.reduceToNat, Int.toNat_natCast]; rfl) (by simp only [ob, obA]; first | exact ⟨w32_R _, by decide, by decide⟩ | exact ⟨by decide, by decide⟩ | (refine ⟨?_, ?_⟩ <;> first | exact w32_R _ | decide)) ?_
    refine V_goto dL_bought_9 (tgt := 15) (by decide) ?_
    refine V_ex sL_bought_15 (by rfl) (by exact trivial) ?_
    exact V_iret dL_bought_16 rfl ⟨Nat.le_of_ble_eq_true rfl, Nat.le_of_ble_eq_true rfl⟩ ⟨by rw [hok], Or.inl hok, (G'.1, upd2 G'.2.1 189 0 (w32 (boughtP A i).2), G'.2.2), s', rfl, RC_L hC', hf.w, fun _ => uuL⟩
  · obtain ⟨hk, rfl, G', s', rfl, hC', hf⟩ := hx
    refine ⟨12, ⟨[], ⟨0, 9, 12, 18⟩, [], NSE, rfl, by decide, rfl, by decide, by decide +kernel, by decide +kernel, fun z hz => nomatch hz⟩, fun q => ?_⟩
    refine V_ex sL_bought_12 (by rfl) (by exact trivial) ?_
    exact V_iret dL_bought_14 rfl ⟨Nat.le_of_ble_eq_true rfl, Nat.le_of_ble_eq_true rfl⟩ ⟨by rw [hk], Or.inr (Or.inl hk), G', s', rfl, hC', hf.c, fun h => by rw [hk] at h; cases h⟩
set_option maxRecDepth 100000 in
set_option maxHeartbeats 4000000 in
set_option maxRecDepth 100000 in
set_option maxHeartbeats 4000000 in
theorem c_wIndex {κ : Kx} (hκ : KOK κ) (hB : HB κ) {d s0 : Nat} {K i n : Int} {A : Ab} {G : Wd} (hC : RC G s0 A) (hI : Inv K A) (hR : aR G) (h_i : R32 i) (h_n : R32 n) (hd : 80 ≤ d) : Ct κ ML_index d 16 128 [VR 1, VI i, VI n, VR 189] (Wm G) (wP G (A) (indexP A i n).1 (w32 (indexP A i n).2)) noX := by
  refine Ct_ofH hκ kL_index.1 (by decide) (Nat.le_of_ble_eq_true rfl) (ls := [some (VR 1), some (VI i), some (VI n), some (VR 189), none]) rfl (fun μ => ?_)
  have h1 := c_xIndex (κ := κ) (d := 70) hκ hC hI hR h_i h_n (by omega)
  refine V_ex sL_index_0 (by rfl) (by exact trivial) ?_
  refine V_callVH (M := ML_index) (N := MX11_index) dL_index_5 lRL_97 kX11_index rfl rfl rfl h1 rfl rfl (Nat.le_of_ble_eq_true rfl) (fit_rm (by omega)) ⟨Nat.le_of_ble_eq_true rfl, Nat.le_of_ble_eq_true rfl⟩ (fun v Ω' hp => ?_) (fun E Ω' hx => ?_)
  · obtain ⟨hok, rfl, G', s', rfl, hC', hf⟩ := hp
    refine V_w32 ?_
    refine V_ex sL_index_8 (by simp only [Option.toList, List.cons_append, List.nil_append, exN, ex1, gI, gL, gR, pI, pL, pR, lget, lset1, lset2, kl, b2I, b2L, nob, ob32, ob64, xGet, xPut, xLen, xLd, xLdR, xSt, obA, true_and, and_true, and_self, eq_self, Nat.reduceEqDiff, Nat.zero_ne_one, reduceIte, Nat.reduceLeDiff, and_false, false_and, show LF.1 189 = some (.inr (1, 1)) from rfl, upd2_eq, Int.reduceToNat, Int.toNat_natCast]; rfl) (by simp only [ob, obA]; first | exact ⟨w32_R _, by decide, by decide⟩ | exact ⟨by decide, by decide⟩ | (refine ⟨?_, ?_⟩ <;> first | exact w32_R _ | decide)) ?_
    refine V_goto dL_index_10 (tgt := 17) (by decide) ?_
    refine V_ex sL_index_17 (by rfl) (by exact trivial) ?_
    exact V_iret dL_index_18 rfl ⟨Nat.le_of_ble_eq_true rfl, Nat.le_of_ble_eq_true rfl⟩ ⟨by rw [hok], Or.inl hok, (G'.1, upd2 G'.2.1 189 0 (w32 (indexP A i n).2), G'.2.2), s', rfl, RC_L hC', hf.w, fun _ => uuL⟩
  · obtain ⟨hk, rfl, G', s', rfl, hC', hf⟩ := hx
    refine ⟨13, ⟨[], ⟨0, 10, 13, 18⟩, [], NSE, rfl, by decide, rfl, by decide, by decide +kernel, by decide +kernel, fun z hz => nomatch hz⟩, fun q => ?_⟩
    refine V_ex sL_index_13 (by rfl) (by exact trivial) ?_
    exact V_iret dL_index_16 rfl ⟨Nat.le_of_ble_eq_true rfl, Nat.le_of_ble_eq_true rfl⟩ ⟨by rw [hk], Or.inr (Or.inl hk), G', s', rfl, hC', hf.c, fun h => by rw [hk] at h; cases h⟩
set_option maxRecDepth 100000 in
set_option maxHeartbeats 4000000 in
set_option maxRecDepth 100000 in
set_option maxHeartbeats 4000000 in
theorem c_wSeed {κ : Kx} (hκ : KOK κ) (hB : HB κ) {d s0 : Nat} {K i v k : Int} {A : Ab} {G : Wd} (hC : RC G s0 A) (hI : Inv K A) (hR : aR G) (h_i : R32 i) (h_v : R32 v) (h_k : R32 k) (hd : 80 ≤ d) : Ct κ ML_seed d 16 128 [VR 1, VI i, VI v, VI k, VR 189] (Wm G) (wP G ((seedP A i v k).2.2) (seedP A i v k).1 (w32 (seedP A i v k).2.1)) noX := by
  refine Ct_ofH hκ kL_seed.1 (by decide) (Nat.le_of_ble_eq_true rfl) (ls := [some (VR 1), some (VI i), some (VI v), some (VI k), some (VR 189), none]) rfl (fun μ => ?_)
  have h1 := c_xSeed (κ := κ) (d := 70) (v := v) hκ hC hI hR h_i h_k (by omega)
  refine V_ex sL_seed_0 (by rfl) (by exact trivial) ?_
  refine V_callVH (M := ML_seed) (N := MX11_seed) dL_seed_7 lRL_100 kX11_seed rfl rfl rfl h1 rfl rfl (Nat.le_of_ble_eq_true rfl) (fit_rm (by omega)) ⟨Nat.le_of_ble_eq_true rfl, Nat.le_of_ble_eq_true rfl⟩ (fun v Ω' hp => ?_) (fun E Ω' hx => ?_)
  · obtain ⟨hok, rfl, G', s', rfl, hC', hf⟩ := hp
    refine V_w32 ?_
    refine V_ex sL_seed_10 (by simp only [Option.toList, List.cons_append, List.nil_append, exN, ex1, gI, gL, gR, pI, pL, pR, lget, lset1, lset2, kl, b2I, b2L, nob, ob32, ob64, xGet, xPut, xLen, xLd, xLdR, xSt, obA, true_and, and_true, and_self, eq_self, Nat.reduceEqDiff, Nat.zero_ne_one, reduceIte, Nat.reduceLeDiff, and_false, false_and, show LF.1 189 = some (.inr (1, 1)) from rfl, upd2_eq, Int.reduceToNat, Int.toNat_natCast]; rfl) (by simp only [ob, obA]; first | exact ⟨w32_R _, by decide, by decide⟩ | exact ⟨by decide, by decide⟩ | (refine ⟨?_, ?_⟩ <;> first | exact w32_R _ | decide)) ?_
    refine V_goto dL_seed_12 (tgt := 23) (by decide) ?_
    refine V_ex sL_seed_23 (by rfl) (by exact trivial) ?_
    exact V_iret dL_seed_24 rfl ⟨Nat.le_of_ble_eq_true rfl, Nat.le_of_ble_eq_true rfl⟩ ⟨by rw [hok], Or.inl hok, (G'.1, upd2 G'.2.1 189 0 (w32 (seedP A i v k).2.1), G'.2.2), s', rfl, RC_L hC', hf.w, fun _ => uuL⟩
  · obtain ⟨hk2, G', s', rfl, hC', hf⟩ := hx
    rcases hk2 with ⟨hk, rfl⟩ | ⟨hk, rfl⟩
    · skip
      refine ⟨15, ⟨[], ⟨0, 12, 15, 18⟩, [⟨0, 12, 19, 13⟩], NSE, rfl, by decide, rfl, by decide, by decide +kernel, by decide +kernel, fun z hz => nomatch hz⟩, fun q => ?_⟩
      refine V_ex sL_seed_15 (by rfl) (by exact trivial) ?_
      exact V_iret dL_seed_18 rfl ⟨Nat.le_of_ble_eq_true rfl, Nat.le_of_ble_eq_true rfl⟩ ⟨by rw [hk], Or.inr (Or.inl hk), G', s', rfl, (by rw [seedP_A (by rw [hk]; decide)]; exact hC'), hf.c, fun h => by rw [hk] at h; cases h⟩
    · skip
      refine ⟨19, ⟨[⟨0, 12, 15, 18⟩], ⟨0, 12, 19, 13⟩, [], IAE, rfl, by decide, rfl, by decide, by decide +kernel, by decide +kernel, fun z hz => by rw [List.mem_singleton.mp hz]; exact Or.inr ⟨by decide, NSE, by decide +kernel, hB⟩⟩, fun q => ?_⟩
      refine V_ex sL_seed_19 (by rfl) (by exact trivial) ?_
      exact V_iret dL_seed_22 rfl ⟨Nat.le_of_ble_eq_true rfl, Nat.le_of_ble_eq_true rfl⟩ ⟨by rw [hk], Or.inr (Or.inr hk), G', s', rfl, (by rw [seedP_A (by rw [hk]; decide)]; exact hC'), hf.c, fun h => by rw [hk] at h; cases h⟩
set_option maxRecDepth 100000 in
set_option maxHeartbeats 4000000 in
set_option maxRecDepth 100000 in
set_option maxHeartbeats 4000000 in
theorem c_wWay {κ : Kx} (hκ : KOK κ) (hB : HB κ) {d s0 : Nat} {K s k n i : Int} {A : Ab} {G : Wd} (hC : RC G s0 A) (hI : Inv K A) (hR : aR G) (h_s : R64 s) (h_k : R32 k) (h_n : R32 n) (h_i : R64 i) (hd : 80 ≤ d) : Ct κ ML_way d 16 128 [VR 1, VL s, VI k, VI n, VL i, VR 189] (Wm G) (wP G (A) (wayP s k n i).1 (w64 (wayP s k n i).2)) noX := by
  refine Ct_ofH hκ kL_way.1 (by decide) (Nat.le_of_ble_eq_true rfl) (ls := [some (VR 1), some (VL s), none, some (VI k), some (VI n), some (VL i), none, some (VR 189), none]) rfl (fun μ => ?_)
  have h1 := c_xWay (κ := κ) (d := 70) hκ hC hI hR h_s h_k h_n h_i (by omega)
  refine V_ex sL_way_0 (by rfl) (by exact trivial) ?_
  refine V_callVH (M := ML_way) (N := MX11_way) dL_way_10 lRL_104 kX11_way rfl rfl rfl h1 rfl rfl (Nat.le_of_ble_eq_true rfl) (fit_rm (by omega)) ⟨Nat.le_of_ble_eq_true rfl, Nat.le_of_ble_eq_true rfl⟩ (fun v Ω' hp => ?_) (fun E Ω' hx => ?_)
  · obtain ⟨hok, rfl, G', s', rfl, hC', hf⟩ := hp
    refine V_w64 ?_
    refine V_ex sL_way_13 (by simp only [Option.toList, List.cons_append, List.nil_append, exN, ex1, gI, gL, gR, pI, pL, pR, lget, lset1, lset2, kl, b2I, b2L, nob, ob32, ob64, xGet, xPut, xLen, xLd, xLdR, xSt, obA, true_and, and_true, and_self, eq_self, Nat.reduceEqDiff, Nat.zero_ne_one, reduceIte, Nat.reduceLeDiff, and_false, false_and, show LF.1 189 = some (.inr (1, 1)) from rfl, upd2_eq, Int.reduceToNat, Int.toNat_natCast]; rfl) (by simp only [ob, obA]; first | exact ⟨w32_R _, by decide, by decide⟩ | exact ⟨by decide, by decide⟩ | (refine ⟨?_, ?_⟩ <;> first | exact w32_R _ | decide)) ?_
    refine V_goto dL_way_14 (tgt := 25) (by decide) ?_
    refine V_ex sL_way_25 (by rfl) (by exact trivial) ?_
    exact V_iret dL_way_26 rfl ⟨Nat.le_of_ble_eq_true rfl, Nat.le_of_ble_eq_true rfl⟩ ⟨by rw [hok], Or.inl hok, (G'.1, upd2 G'.2.1 189 0 (w64 (wayP s k n i).2), G'.2.2), s', rfl, RC_L hC', hf.w, fun _ => uuL⟩
  · obtain ⟨hk2, G', s', rfl, hC', hf⟩ := hx
    rcases hk2 with ⟨hk, rfl⟩ | ⟨hk, rfl⟩
    · skip
      refine ⟨17, ⟨[], ⟨0, 14, 17, 18⟩, [⟨0, 14, 21, 13⟩], NSE, rfl, by decide, rfl, by decide, by decide +kernel, by decide +kernel, fun z hz => nomatch hz⟩, fun q => ?_⟩
      refine V_ex sL_way_17 (by rfl) (by exact trivial) ?_
      exact V_iret dL_way_20 rfl ⟨Nat.le_of_ble_eq_true rfl, Nat.le_of_ble_eq_true rfl⟩ ⟨by rw [hk], Or.inr (Or.inl hk), G', s', rfl, hC', hf.c, fun h => by rw [hk] at h; cases h⟩
    · skip
      refine ⟨21, ⟨[⟨0, 14, 17, 18⟩], ⟨0, 14, 21, 13⟩, [], IAE, rfl, by decide, rfl, by decide, by decide +kernel, by decide +kernel, fun z hz => by rw [List.mem_singleton.mp hz]; exact Or.inr ⟨by decide, NSE, by decide +kernel, hB⟩⟩, fun q => ?_⟩
      refine V_ex sL_way_21 (by rfl) (by exact trivial) ?_
      exact V_iret dL_way_24 rfl ⟨Nat.le_of_ble_eq_true rfl, Nat.le_of_ble_eq_true rfl⟩ ⟨by rw [hk], Or.inr (Or.inr hk), G', s', rfl, hC', hf.c, fun h => by rw [hk] at h; cases h⟩
set_option maxRecDepth 100000 in
set_option maxHeartbeats 4000000 in
set_option maxRecDepth 100000 in
set_option maxHeartbeats 4000000 in
theorem c_wBetween {κ : Kx} (hκ : KOK κ) (hB : HB κ) {d s0 : Nat} {K a b f : Int} {A : Ab} {G : Wd} (hC : RC G s0 A) (hI : Inv K A) (hR : aR G) (h_a : R64 a) (h_b : R64 b) (h_f : R32 f) (hd : 80 ≤ d) : Ct κ ML_between d 16 128 [VR 1, VL a, VL b, VI f, VR 189] (Wm G) (wP G (A) (betweenP a b f).1 (w64 (betweenP a b f).2)) noX := by
  refine Ct_ofH hκ kL_between.1 (by decide) (Nat.le_of_ble_eq_true rfl) (ls := [some (VR 1), some (VL a), none, some (VL b), none, some (VI f), some (VR 189), none]) rfl (fun μ => ?_)
  have h1 := c_xBetween (κ := κ) (d := 70) hκ hC hI hR h_a h_b h_f (by omega)
  refine V_ex sL_between_0 (by rfl) (by exact trivial) ?_
  refine V_callVH (M := ML_between) (N := MX11_between) dL_between_8 lRL_108 kX11_between rfl rfl rfl h1 rfl rfl (Nat.le_of_ble_eq_true rfl) (fit_rm (by omega)) ⟨Nat.le_of_ble_eq_true rfl, Nat.le_of_ble_eq_true rfl⟩ (fun v Ω' hp => ?_) (fun E Ω' hx => ?_)
  · obtain ⟨hok, rfl, G', s', rfl, hC', hf⟩ := hp
    refine V_w64 ?_
    refine V_ex sL_between_11 (by simp only [Option.toList, List.cons_append, List.nil_append, exN, ex1, gI, gL, gR, pI, pL, pR, lget, lset1, lset2, kl, b2I, b2L, nob, ob32, ob64, xGet, xPut, xLen, xLd, xLdR, xSt, obA, true_and, and_true, and_self, eq_self, Nat.reduceEqDiff, Nat.zero_ne_one, reduceIte, Nat.reduceLeDiff, and_false, false_and, show LF.1 189 = some (.inr (1, 1)) from rfl, upd2_eq, Int.reduceToNat, Int.toNat_natCast]; rfl) (by simp only [ob, obA]; first | exact ⟨w32_R _, by decide, by decide⟩ | exact ⟨by decide, by decide⟩ | (refine ⟨?_, ?_⟩ <;> first | exact w32_R _ | decide)) ?_
    refine V_goto dL_between_12 (tgt := 23) (by decide) ?_
    refine V_ex sL_between_23 (by rfl) (by exact trivial) ?_
    exact V_iret dL_between_24 rfl ⟨Nat.le_of_ble_eq_true rfl, Nat.le_of_ble_eq_true rfl⟩ ⟨by rw [hok], Or.inl hok, (G'.1, upd2 G'.2.1 189 0 (w64 (betweenP a b f).2), G'.2.2), s', rfl, RC_L hC', hf.w, fun _ => uuL⟩
  · obtain ⟨hk2, G', s', rfl, hC', hf⟩ := hx
    rcases hk2 with ⟨hk, rfl⟩ | ⟨hk, rfl⟩
    · skip
      refine ⟨15, ⟨[], ⟨0, 12, 15, 18⟩, [⟨0, 12, 19, 13⟩], NSE, rfl, by decide, rfl, by decide, by decide +kernel, by decide +kernel, fun z hz => nomatch hz⟩, fun q => ?_⟩
      refine V_ex sL_between_15 (by rfl) (by exact trivial) ?_
      exact V_iret dL_between_18 rfl ⟨Nat.le_of_ble_eq_true rfl, Nat.le_of_ble_eq_true rfl⟩ ⟨by rw [hk], Or.inr (Or.inl hk), G', s', rfl, hC', hf.c, fun h => by rw [hk] at h; cases h⟩
    · skip
      refine ⟨19, ⟨[⟨0, 12, 15, 18⟩], ⟨0, 12, 19, 13⟩, [], IAE, rfl, by decide, rfl, by decide, by decide +kernel, by decide +kernel, fun z hz => by rw [List.mem_singleton.mp hz]; exact Or.inr ⟨by decide, NSE, by decide +kernel, hB⟩⟩, fun q => ?_⟩
      refine V_ex sL_between_19 (by rfl) (by exact trivial) ?_
      exact V_iret dL_between_22 rfl ⟨Nat.le_of_ble_eq_true rfl, Nat.le_of_ble_eq_true rfl⟩ ⟨by rw [hk], Or.inr (Or.inr hk), G', s', rfl, hC', hf.c, fun h => by rw [hk] at h; cases h⟩
set_option maxRecDepth 100000 in
set_option maxHeartbeats 4000000 in
set_option maxRecDepth 100000 in
set_option maxHeartbeats 4000000 in
theorem c_wStick {κ : Kx} (hκ : KOK κ) (hB : HB κ) {d s0 : Nat} {K i l : Int} {A : Ab} {G : Wd} (hC : RC G s0 A) (hI : Inv K A) (hR : aR G) (h_i : R32 i) (h_l : R32 l) (hd : 80 ≤ d) : Ct κ ML_stick d 16 128 [VR 1, VI i, VI l, VR 189] (Wm G) (wP G ((stickP A i l).2.2) (stickP A i l).1 (w32 (stickP A i l).2.1)) noX := by
  refine Ct_ofH hκ kL_stick.1 (by decide) (Nat.le_of_ble_eq_true rfl) (ls := [some (VR 1), some (VI i), some (VI l), some (VR 189), none]) rfl (fun μ => ?_)
  have h1 := c_xStick (κ := κ) (d := 70) hκ hC hI hR h_i h_l (by omega)
  refine V_ex sL_stick_0 (by rfl) (by exact trivial) ?_
  refine V_callVH (M := ML_stick) (N := MX11_stick) dL_stick_5 lRL_112 kX11_stick rfl rfl rfl h1 rfl rfl (Nat.le_of_ble_eq_true rfl) (fit_rm (by omega)) ⟨Nat.le_of_ble_eq_true rfl, Nat.le_of_ble_eq_true rfl⟩ (fun v Ω' hp => ?_) (fun E Ω' hx => ?_)
  · obtain ⟨hok, rfl, G', s', rfl, hC', hf⟩ := hp
    refine V_w32 ?_
    refine V_ex sL_stick_8 (by simp only [Option.toList, List.cons_append, List.nil_append, exN, ex1, gI, gL, gR, pI, pL, pR, lget, lset1, lset2, kl, b2I, b2L, nob, ob32, ob64, xGet, xPut, xLen, xLd, xLdR, xSt, obA, true_and, and_true, and_self, eq_self, Nat.reduceEqDiff, Nat.zero_ne_one, reduceIte, Nat.reduceLeDiff, and_false, false_and, show LF.1 189 = some (.inr (1, 1)) from rfl, upd2_eq, Int.reduceToNat, Int.toNat_natCast]; rfl) (by simp only [ob, obA]; first | exact ⟨w32_R _, by decide, by decide⟩ | exact ⟨by decide, by decide⟩ | (refine ⟨?_, ?_⟩ <;> first | exact w32_R _ | decide)) ?_
    refine V_goto dL_stick_10 (tgt := 17) (by decide) ?_
    refine V_ex sL_stick_17 (by rfl) (by exact trivial) ?_
    exact V_iret dL_stick_18 rfl ⟨Nat.le_of_ble_eq_true rfl, Nat.le_of_ble_eq_true rfl⟩ ⟨by rw [hok], Or.inl hok, (G'.1, upd2 G'.2.1 189 0 (w32 (stickP A i l).2.1), G'.2.2), s', rfl, RC_L hC', hf.w, fun _ => uuL⟩
  · obtain ⟨hk, rfl, G', s', rfl, hC', hf⟩ := hx
    refine ⟨13, ⟨[], ⟨0, 10, 13, 18⟩, [], NSE, rfl, by decide, rfl, by decide, by decide +kernel, by decide +kernel, fun z hz => nomatch hz⟩, fun q => ?_⟩
    refine V_ex sL_stick_13 (by rfl) (by exact trivial) ?_
    exact V_iret dL_stick_16 rfl ⟨Nat.le_of_ble_eq_true rfl, Nat.le_of_ble_eq_true rfl⟩ ⟨by rw [hk], Or.inr (Or.inl hk), G', s', rfl, (by rw [stickP_A (by rw [hk]; decide)]; exact hC'), hf.c, fun h => by rw [hk] at h; cases h⟩
set_option maxRecDepth 100000 in
set_option maxHeartbeats 4000000 in
set_option maxRecDepth 100000 in
set_option maxHeartbeats 4000000 in
theorem c_wRead {κ : Kx} (hκ : KOK κ) (hB : HB κ) {d s0 : Nat} {K i fr to e bz : Int} {many : Bool} {A : Ab} {G : Wd} (hC : RC G s0 A) (hI : Inv K A) (hR : aR G) (h_i : R32 i) (h_fr : R32 fr) (h_to : R32 to) (h_e : R32 e) (h_bz : R32 bz) (hd : 80 ≤ d) : Ct κ ML_read d 16 128 [VR 1, VI i, VI fr, VI to, VI e, VI bz, VI (b2i many), VR 189] (Wm G) (wP G (A) (readP A i fr to e bz many).1 (w64 (readP A i fr to e bz many).2)) noX := by
  refine Ct_ofH hκ kL_read.1 (by decide) (Nat.le_of_ble_eq_true rfl) (ls := [some (VR 1), some (VI i), some (VI fr), some (VI to), some (VI e), some (VI bz), some (VI (b2i many)), some (VR 189), none]) rfl (fun μ => ?_)
  have h1 := c_xRead (κ := κ) (d := 70) (many := many) hκ hC hI hR h_i h_fr h_to h_e h_bz (by omega)
  refine V_ex sL_read_0 (by rfl) (by exact trivial) ?_
  refine V_callVH (M := ML_read) (N := MX11_read) dL_read_13 lRL_115 kX11_read rfl rfl rfl h1 rfl rfl (Nat.le_of_ble_eq_true rfl) (fit_rm (by omega)) ⟨Nat.le_of_ble_eq_true rfl, Nat.le_of_ble_eq_true rfl⟩ (fun v Ω' hp => ?_) (fun E Ω' hx => ?_)
  · obtain ⟨hok, rfl, G', s', rfl, hC', hf⟩ := hp
    refine V_w64 ?_
    refine V_ex sL_read_16 (by simp only [Option.toList, List.cons_append, List.nil_append, exN, ex1, gI, gL, gR, pI, pL, pR, lget, lset1, lset2, kl, b2I, b2L, nob, ob32, ob64, xGet, xPut, xLen, xLd, xLdR, xSt, obA, true_and, and_true, and_self, eq_self, Nat.reduceEqDiff, Nat.zero_ne_one, reduceIte, Nat.reduceLeDiff, and_false, false_and, show LF.1 189 = some (.inr (1, 1)) from rfl, upd2_eq, Int.reduceToNat, Int.toNat_natCast]; rfl) (by simp only [ob, obA]; first | exact ⟨w32_R _, by decide, by decide⟩ | exact ⟨by decide, by decide⟩ | (refine ⟨?_, ?_⟩ <;> first | exact w32_R _ | decide)) ?_
    refine V_goto dL_read_17 (tgt := 28) (by decide) ?_
    refine V_ex sL_read_28 (by rfl) (by exact trivial) ?_
    exact V_iret dL_read_29 rfl ⟨Nat.le_of_ble_eq_true rfl, Nat.le_of_ble_eq_true rfl⟩ ⟨by rw [hok], Or.inl hok, (G'.1, upd2 G'.2.1 189 0 (w64 (readP A i fr to e bz many).2), G'.2.2), s', rfl, RC_L hC', hf.w, fun _ => uuL⟩
  · obtain ⟨hk2, G', s', rfl, hC', hf⟩ := hx
    rcases hk2 with ⟨hk, rfl⟩ | ⟨hk, rfl⟩
    · skip
      refine ⟨20, ⟨[], ⟨0, 17, 20, 18⟩, [⟨0, 17, 24, 13⟩], NSE, rfl, by decide, rfl, by decide, by decide +kernel, by decide +kernel, fun z hz => nomatch hz⟩, fun q => ?_⟩
      refine V_ex sL_read_20 (by rfl) (by exact trivial) ?_
      exact V_iret dL_read_23 rfl ⟨Nat.le_of_ble_eq_true rfl, Nat.le_of_ble_eq_true rfl⟩ ⟨by rw [hk], Or.inr (Or.inl hk), G', s', rfl, hC', hf.c, fun h => by rw [hk] at h; cases h⟩
    · skip
      refine ⟨24, ⟨[⟨0, 17, 20, 18⟩], ⟨0, 17, 24, 13⟩, [], IAE, rfl, by decide, rfl, by decide, by decide +kernel, by decide +kernel, fun z hz => by rw [List.mem_singleton.mp hz]; exact Or.inr ⟨by decide, NSE, by decide +kernel, hB⟩⟩, fun q => ?_⟩
      refine V_ex sL_read_24 (by rfl) (by exact trivial) ?_
      exact V_iret dL_read_27 rfl ⟨Nat.le_of_ble_eq_true rfl, Nat.le_of_ble_eq_true rfl⟩ ⟨by rw [hk], Or.inr (Or.inr hk), G', s', rfl, hC', hf.c, fun h => by rw [hk] at h; cases h⟩
set_option maxRecDepth 100000 in
set_option maxHeartbeats 4000000 in
set_option maxRecDepth 100000 in
set_option maxHeartbeats 4000000 in
theorem c_wShares {κ : Kx} (hκ : KOK κ) (hB : HB κ) {d s0 : Nat} {K i ch : Int} {A : Ab} {G : Wd} (hC : RC G s0 A) (hI : Inv K A) (hR : aR G) (h_i : R32 i) (h_ch : R32 ch) (hd : 80 ≤ d) : Ct κ ML_shares d 16 128 [VR 1, VI i, VI ch, VR 189] (Wm G) (wP G ((sharesP A i ch).2.2) (sharesP A i ch).1 (w64 (sharesP A i ch).2.1)) noX := by
  refine Ct_ofH hκ kL_shares.1 (by decide) (Nat.le_of_ble_eq_true rfl) (ls := [some (VR 1), some (VI i), some (VI ch), some (VR 189), none]) rfl (fun μ => ?_)
  have h1 := c_xShares (κ := κ) (d := 70) hκ hC hI hR h_i h_ch (by omega)
  refine V_ex sL_shares_0 (by rfl) (by exact trivial) ?_
  refine V_callVH (M := ML_shares) (N := MX11_shares) dL_shares_5 lRL_119 kX11_shares rfl rfl rfl h1 rfl rfl (Nat.le_of_ble_eq_true rfl) (fit_rm (by omega)) ⟨Nat.le_of_ble_eq_true rfl, Nat.le_of_ble_eq_true rfl⟩ (fun v Ω' hp => ?_) (fun E Ω' hx => ?_)
  · obtain ⟨hok, rfl, G', s', rfl, hC', hf⟩ := hp
    refine V_w64 ?_
    refine V_ex sL_shares_8 (by simp only [Option.toList, List.cons_append, List.nil_append, exN, ex1, gI, gL, gR, pI, pL, pR, lget, lset1, lset2, kl, b2I, b2L, nob, ob32, ob64, xGet, xPut, xLen, xLd, xLdR, xSt, obA, true_and, and_true, and_self, eq_self, Nat.reduceEqDiff, Nat.zero_ne_one, reduceIte, Nat.reduceLeDiff, and_false, false_and, show LF.1 189 = some (.inr (1, 1)) from rfl, upd2_eq, Int.reduceToNat, Int.toNat_natCast]; rfl) (by simp only [ob, obA]; first | exact ⟨w32_R _, by decide, by decide⟩ | exact ⟨by decide, by decide⟩ | (refine ⟨?_, ?_⟩ <;> first | exact w32_R _ | decide)) ?_
    refine V_goto dL_shares_9 (tgt := 20) (by decide) ?_
    refine V_ex sL_shares_20 (by rfl) (by exact trivial) ?_
    exact V_iret dL_shares_21 rfl ⟨Nat.le_of_ble_eq_true rfl, Nat.le_of_ble_eq_true rfl⟩ ⟨by rw [hok], Or.inl hok, (G'.1, upd2 G'.2.1 189 0 (w64 (sharesP A i ch).2.1), G'.2.2), s', rfl, RC_L hC', hf.w, fun _ => uuL⟩
  · obtain ⟨hk2, G', s', rfl, hC', hf⟩ := hx
    rcases hk2 with ⟨hk, rfl⟩ | ⟨hk, rfl⟩
    · skip
      refine ⟨12, ⟨[], ⟨0, 9, 12, 18⟩, [⟨0, 9, 16, 13⟩], NSE, rfl, by decide, rfl, by decide, by decide +kernel, by decide +kernel, fun z hz => nomatch hz⟩, fun q => ?_⟩
      refine V_ex sL_shares_12 (by rfl) (by exact trivial) ?_
      exact V_iret dL_shares_15 rfl ⟨Nat.le_of_ble_eq_true rfl, Nat.le_of_ble_eq_true rfl⟩ ⟨by rw [hk], Or.inr (Or.inl hk), G', s', rfl, (by rw [sharesP_A (by rw [hk]; decide)]; exact hC'), hf.c, fun h => by rw [hk] at h; cases h⟩
    · skip
      refine ⟨16, ⟨[⟨0, 9, 12, 18⟩], ⟨0, 9, 16, 13⟩, [], IAE, rfl, by decide, rfl, by decide, by decide +kernel, by decide +kernel, fun z hz => by rw [List.mem_singleton.mp hz]; exact Or.inr ⟨by decide, NSE, by decide +kernel, hB⟩⟩, fun q => ?_⟩
      refine V_ex sL_shares_16 (by rfl) (by exact trivial) ?_
      exact V_iret dL_shares_19 rfl ⟨Nat.le_of_ble_eq_true rfl, Nat.le_of_ble_eq_true rfl⟩ ⟨by rw [hk], Or.inr (Or.inr hk), G', s', rfl, (by rw [sharesP_A (by rw [hk]; decide)]; exact hC'), hf.c, fun h => by rw [hk] at h; cases h⟩
set_option maxRecDepth 100000 in
set_option maxHeartbeats 4000000 in
set_option maxRecDepth 100000 in
set_option maxHeartbeats 4000000 in
theorem c_wChild {κ : Kx} (hκ : KOK κ) (hB : HB κ) {d s0 : Nat} {K i : Int} {A : Ab} {G : Wd} (hC : RC G s0 A) (hI : Inv K A) (hR : aR G) (h_i : R32 i) (hd : 80 ≤ d) : Ct κ ML_child d 16 128 [VR 1, VI i, VR 189] (Wm G) (wP G (A) (keptP A.2.2.2.2.1 i).1 (w32 (keptP A.2.2.2.2.1 i).2)) noX := by
  refine Ct_ofH hκ kL_child.1 (by decide) (Nat.le_of_ble_eq_true rfl) (ls := [some (VR 1), some (VI i), some (VR 189), none]) rfl (fun μ => ?_)
  have h1 := c_xChild (κ := κ) (d := 70) hκ hC hI hR h_i (by omega)
  refine V_ex sL_child_0 (by rfl) (by exact trivial) ?_
  refine V_callVH (M := ML_child) (N := MX11_child) dL_child_4 lRL_123 kX11_child rfl rfl rfl h1 rfl rfl (Nat.le_of_ble_eq_true rfl) (fit_rm (by omega)) ⟨Nat.le_of_ble_eq_true rfl, Nat.le_of_ble_eq_true rfl⟩ (fun v Ω' hp => ?_) (fun E Ω' hx => ?_)
  · obtain ⟨hok, rfl, G', s', rfl, hC', hf⟩ := hp
    refine V_w32 ?_
    refine V_ex sL_child_7 (by simp only [Option.toList, List.cons_append, List.nil_append, exN, ex1, gI, gL, gR, pI, pL, pR, lget, lset1, lset2, kl, b2I, b2L, nob, ob32, ob64, xGet, xPut, xLen, xLd, xLdR, xSt, obA, true_and, and_true, and_self, eq_self, Nat.reduceEqDiff, Nat.zero_ne_one, reduceIte, Nat.reduceLeDiff, and_false, false_and, show LF.1 189 = some (.inr (1, 1)) from rfl, upd2_eq, Int.reduceToNat, Int.toNat_natCast]; rfl) (by simp only [ob, obA]; first | exact ⟨w32_R _, by decide, by decide⟩ | exact ⟨by decide, by decide⟩ | (refine ⟨?_, ?_⟩ <;> first | exact w32_R _ | decide)) ?_
    refine V_goto dL_child_9 (tgt := 15) (by decide) ?_
    refine V_ex sL_child_15 (by rfl) (by exact trivial) ?_
    exact V_iret dL_child_16 rfl ⟨Nat.le_of_ble_eq_true rfl, Nat.le_of_ble_eq_true rfl⟩ ⟨by rw [hok], Or.inl hok, (G'.1, upd2 G'.2.1 189 0 (w32 (keptP A.2.2.2.2.1 i).2), G'.2.2), s', rfl, RC_L hC', hf.w, fun _ => uuL⟩
  · obtain ⟨hk, rfl, G', s', rfl, hC', hf⟩ := hx
    refine ⟨12, ⟨[], ⟨0, 9, 12, 18⟩, [], NSE, rfl, by decide, rfl, by decide, by decide +kernel, by decide +kernel, fun z hz => nomatch hz⟩, fun q => ?_⟩
    refine V_ex sL_child_12 (by rfl) (by exact trivial) ?_
    exact V_iret dL_child_14 rfl ⟨Nat.le_of_ble_eq_true rfl, Nat.le_of_ble_eq_true rfl⟩ ⟨by rw [hk], Or.inr (Or.inl hk), G', s', rfl, hC', hf.c, fun h => by rw [hk] at h; cases h⟩
set_option maxRecDepth 100000 in
set_option maxHeartbeats 4000000 in
set_option maxRecDepth 100000 in
set_option maxHeartbeats 4000000 in
theorem c_wLeast {κ : Kx} (hκ : KOK κ) (hB : HB κ) {d s0 : Nat} {K i out : Int} {A : Ab} {G : Wd} (hC : RC G s0 A) (hI : Inv K A) (hR : aR G) (h_i : R32 i) (h_out : R64 out) (hd : 80 ≤ d) : Ct κ ML_least d 16 128 [VR 1, VI i, VL out, VR 189] (Wm G) (wP G ((leastP A i out).2.2) (leastP A i out).1 (w32 (leastP A i out).2.1)) noX := by
  refine Ct_ofH hκ kL_least.1 (by decide) (Nat.le_of_ble_eq_true rfl) (ls := [some (VR 1), some (VI i), some (VL out), none, some (VR 189), none]) rfl (fun μ => ?_)
  have h1 := c_xLeast (κ := κ) (d := 70) hκ hC hI hR h_i h_out (by omega)
  refine V_ex sL_least_0 (by rfl) (by exact trivial) ?_
  refine V_callVH (M := ML_least) (N := MX11_least) dL_least_6 lRL_126 kX11_least rfl rfl rfl h1 rfl rfl (Nat.le_of_ble_eq_true rfl) (fit_rm (by omega)) ⟨Nat.le_of_ble_eq_true rfl, Nat.le_of_ble_eq_true rfl⟩ (fun v Ω' hp => ?_) (fun E Ω' hx => ?_)
  · obtain ⟨hok, rfl, G', s', rfl, hC', hf⟩ := hp
    refine V_w32 ?_
    refine V_ex sL_least_9 (by simp only [Option.toList, List.cons_append, List.nil_append, exN, ex1, gI, gL, gR, pI, pL, pR, lget, lset1, lset2, kl, b2I, b2L, nob, ob32, ob64, xGet, xPut, xLen, xLd, xLdR, xSt, obA, true_and, and_true, and_self, eq_self, Nat.reduceEqDiff, Nat.zero_ne_one, reduceIte, Nat.reduceLeDiff, and_false, false_and, show LF.1 189 = some (.inr (1, 1)) from rfl, upd2_eq, Int.reduceToNat, Int.toNat_natCast]; rfl) (by simp only [ob, obA]; first | exact ⟨w32_R _, by decide, by decide⟩ | exact ⟨by decide, by decide⟩ | (refine ⟨?_, ?_⟩ <;> first | exact w32_R _ | decide)) ?_
    refine V_goto dL_least_11 (tgt := 22) (by decide) ?_
    refine V_ex sL_least_22 (by rfl) (by exact trivial) ?_
    exact V_iret dL_least_23 rfl ⟨Nat.le_of_ble_eq_true rfl, Nat.le_of_ble_eq_true rfl⟩ ⟨by rw [hok], Or.inl hok, (G'.1, upd2 G'.2.1 189 0 (w32 (leastP A i out).2.1), G'.2.2), s', rfl, RC_L hC', hf.w, fun _ => uuL⟩
  · obtain ⟨hk2, G', s', rfl, hC', hf⟩ := hx
    rcases hk2 with ⟨hk, rfl⟩ | ⟨hk, rfl⟩
    · skip
      refine ⟨14, ⟨[], ⟨0, 11, 14, 18⟩, [⟨0, 11, 18, 13⟩], NSE, rfl, by decide, rfl, by decide, by decide +kernel, by decide +kernel, fun z hz => nomatch hz⟩, fun q => ?_⟩
      refine V_ex sL_least_14 (by rfl) (by exact trivial) ?_
      exact V_iret dL_least_17 rfl ⟨Nat.le_of_ble_eq_true rfl, Nat.le_of_ble_eq_true rfl⟩ ⟨by rw [hk], Or.inr (Or.inl hk), G', s', rfl, (by rw [leastP_A (by rw [hk]; decide)]; exact hC'), hf.c, fun h => by rw [hk] at h; cases h⟩
    · skip
      refine ⟨18, ⟨[⟨0, 11, 14, 18⟩], ⟨0, 11, 18, 13⟩, [], IAE, rfl, by decide, rfl, by decide, by decide +kernel, by decide +kernel, fun z hz => by rw [List.mem_singleton.mp hz]; exact Or.inr ⟨by decide, NSE, by decide +kernel, hB⟩⟩, fun q => ?_⟩
      refine V_ex sL_least_18 (by rfl) (by exact trivial) ?_
      exact V_iret dL_least_21 rfl ⟨Nat.le_of_ble_eq_true rfl, Nat.le_of_ble_eq_true rfl⟩ ⟨by rw [hk], Or.inr (Or.inr hk), G', s', rfl, (by rw [leastP_A (by rw [hk]; decide)]; exact hC'), hf.c, fun h => by rw [hk] at h; cases h⟩
set_option maxRecDepth 100000 in
set_option maxHeartbeats 4000000 in
set_option maxRecDepth 100000 in
set_option maxHeartbeats 4000000 in
theorem c_wTorn {κ : Kx} (hκ : KOK κ) (hB : HB κ) {d s0 : Nat} {K i : Int} {A : Ab} {G : Wd} (hC : RC G s0 A) (hI : Inv K A) (hR : aR G) (h_i : R32 i) (hd : 80 ≤ d) : Ct κ ML_torn d 16 128 [VR 1, VI i, VR 189] (Wm G) (wP G (A) (keptP A.2.2.2.2.2 i).1 (w32 (keptP A.2.2.2.2.2 i).2)) noX := by
  refine Ct_ofH hκ kL_torn.1 (by decide) (Nat.le_of_ble_eq_true rfl) (ls := [some (VR 1), some (VI i), some (VR 189), none]) rfl (fun μ => ?_)
  have h1 := c_xTorn (κ := κ) (d := 70) hκ hC hI hR h_i (by omega)
  refine V_ex sL_torn_0 (by rfl) (by exact trivial) ?_
  refine V_callVH (M := ML_torn) (N := MX11_torn) dL_torn_4 lRL_130 kX11_torn rfl rfl rfl h1 rfl rfl (Nat.le_of_ble_eq_true rfl) (fit_rm (by omega)) ⟨Nat.le_of_ble_eq_true rfl, Nat.le_of_ble_eq_true rfl⟩ (fun v Ω' hp => ?_) (fun E Ω' hx => ?_)
  · obtain ⟨hok, rfl, G', s', rfl, hC', hf⟩ := hp
    refine V_w32 ?_
    refine V_ex sL_torn_7 (by simp only [Option.toList, List.cons_append, List.nil_append, exN, ex1, gI, gL, gR, pI, pL, pR, lget, lset1, lset2, kl, b2I, b2L, nob, ob32, ob64, xGet, xPut, xLen, xLd, xLdR, xSt, obA, true_and, and_true, and_self, eq_self, Nat.reduceEqDiff, Nat.zero_ne_one, reduceIte, Nat.reduceLeDiff, and_false, false_and, show LF.1 189 = some (.inr (1, 1)) from rfl, upd2_eq, Int.reduceToNat, Int.toNat_natCast]; rfl) (by simp only [ob, obA]; first | exact ⟨w32_R _, by decide, by decide⟩ | exact ⟨by decide, by decide⟩ | (refine ⟨?_, ?_⟩ <;> first | exact w32_R _ | decide)) ?_
    refine V_goto dL_torn_9 (tgt := 15) (by decide) ?_
    refine V_ex sL_torn_15 (by rfl) (by exact trivial) ?_
    exact V_iret dL_torn_16 rfl ⟨Nat.le_of_ble_eq_true rfl, Nat.le_of_ble_eq_true rfl⟩ ⟨by rw [hok], Or.inl hok, (G'.1, upd2 G'.2.1 189 0 (w32 (keptP A.2.2.2.2.2 i).2), G'.2.2), s', rfl, RC_L hC', hf.w, fun _ => uuL⟩
  · obtain ⟨hk, rfl, G', s', rfl, hC', hf⟩ := hx
    refine ⟨12, ⟨[], ⟨0, 9, 12, 18⟩, [], NSE, rfl, by decide, rfl, by decide, by decide +kernel, by decide +kernel, fun z hz => nomatch hz⟩, fun q => ?_⟩
    refine V_ex sL_torn_12 (by rfl) (by exact trivial) ?_
    exact V_iret dL_torn_14 rfl ⟨Nat.le_of_ble_eq_true rfl, Nat.le_of_ble_eq_true rfl⟩ ⟨by rw [hk], Or.inr (Or.inl hk), G', s', rfl, hC', hf.c, fun h => by rw [hk] at h; cases h⟩
