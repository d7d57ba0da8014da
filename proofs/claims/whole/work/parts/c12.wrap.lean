/-! THE LAW'S WRAPPERS, by program -/
/-- the model's cells are as they were, but the law's row -/
def FrW (G G' : Wd) : Prop := (∀ x, 145 ≤ x → G'.1 x = G.1 x) ∧ ∀ x, 145 ≤ x → x ≠ 189 → G'.2.1 x = G.2.1 x
theorem FrC.c {G G' : Wd} (h : FrC G G') : FrW G G' := ⟨h.1, fun x a _ => h.2 x a⟩
theorem FrC.w {G G' : Wd} {z : Int} (h : FrC G G') : FrW G (G'.1, upd2 G'.2.1 189 0 z, G'.2.2) := ⟨h.1, fun x a b => by
  funext j
  show upd2 G'.2.1 189 0 z x j = _
  rw [upd2_eq, if_neg (fun q => b q.1), h.2 x a]⟩
theorem RC_L {G : Wd} {s : Nat} {A : Ab} {f : Nat → Nat → Int} (h : RC G s A) : RC (G.1, f, G.2.2) s A := h
theorem uu {f : Nat → Nat → Int} {a k : Nat} {z : Int} : upd2 f a k z a k = z := by rw [upd2_eq, if_pos ⟨rfl, rfl⟩]
theorem uuL {G : Wd} {z : Int} : ((G.1, upd2 G.2.1 189 0 z, G.2.2) : Wd).2.1 189 0 = z := by
  show upd2 G.2.1 189 0 z 189 0 = z
  exact uu
def zb (z : Int) : Int := if w32 z = 0 then 0 else 1
theorem zb0 {z : Int} (h : w32 z = 0) : 0 = zb z := (if_pos h).symm
theorem zb1 {z : Int} (h : ¬ w32 z = 0) : 1 = zb z := (if_neg h).symm
/-- a wrapper's answer: 0 or which exception, the row's value, the state -/
def wP (G : Wd) (A : Ab) (code v : Int) : Option Vl → Om → Prop := fun u Ω' => u = some (VI code) ∧ (code = 0 ∨ code = 1 ∨ code = 2) ∧ ∃ G' s', Ω' = Wm G' ∧ RC G' s' A ∧ FrW G G' ∧ (code = 0 → G'.2.1 189 0 = v)
theorem tearP_A {A : Ab} {i l : Int} : (tearP A i l).1 ≠ 0 → (tearP A i l).2.2 = A := by unfold tearP; (repeat' split) <;> simp
theorem sheetP_A {A : Ab} {i l : Int} : (sheetP A i l).1 ≠ 0 → (sheetP A i l).2.2 = A := by unfold sheetP; (repeat' split) <;> simp
theorem addP_A {A : Ab} {i z : Int} : (addP A i z).1 ≠ 0 → (addP A i z).2.2 = A := by unfold addP; (repeat' split) <;> simp
theorem stickP_A {A : Ab} {i l : Int} : (stickP A i l).1 ≠ 0 → (stickP A i l).2.2 = A := by unfold stickP; (repeat' split) <;> simp
theorem seedP_A {A : Ab} {i v k : Int} : (seedP A i v k).1 ≠ 0 → (seedP A i v k).2.2 = A := by unfold seedP; (repeat' split) <;> simp
theorem shelfP_A {A : Ab} {n : Int} : (shelfP A n).1 ≠ 0 → (shelfP A n).2.2 = A := by unfold shelfP; (repeat' split) <;> simp
theorem sharesP_A {A : Ab} {i ch : Int} : (sharesP A i ch).1 ≠ 0 → (sharesP A i ch).2.2 = A := by unfold sharesP; (repeat' split) <;> simp
theorem leastP_A {A : Ab} {i out : Int} : (leastP A i out).1 ≠ 0 → (leastP A i out).2.2 = A := by unfold leastP; (repeat' split) <;> simp
set_option maxRecDepth 100000 in
set_option maxHeartbeats 4000000 in
set_option maxRecDepth 100000 in
set_option maxHeartbeats 4000000 in
theorem c_wShelf {κ : Kx} (hκ : KOK κ) (hB : HB κ) (hKS : KS κ) {d s0 : Nat} {K n : Int} {A : Ab} {G : Wd} (hC : RC G s0 A) (hI : Inv K A) (hR : aR G) (h_n : R32 n) (hd : 80 ≤ d) : Ct κ ML_shelf d 16 128 [VR 1, VI n, VR 189] (Wm G) (wP G ((shelfP A n).2.2) (shelfP A n).1 (w32 (shelfP A n).2.1)) noX := by
  refine Ct_ofH hκ kL_shelf.1 (by decide) (Nat.le_of_ble_eq_true rfl) (ls := [some (VR 1), some (VI n), some (VR 189), none]) rfl (fun μ => ?_)
  have h1 := c_xShelf (κ := κ) (d := 70) hκ hKS hC hI hR h_n (by omega)
  refine V_ex sL_shelf_0 (by rfl) (by exact trivial) ?_
  refine V_callVH (M := ML_shelf) (N := MX11_shelf) dL_shelf_4 lRL_7 kX11_shelf rfl rfl rfl h1 rfl rfl (Nat.le_of_ble_eq_true rfl) (fit_rm (by omega)) ⟨Nat.le_of_ble_eq_true rfl, Nat.le_of_ble_eq_true rfl⟩ (fun v Ω' hp => ?_) (fun E Ω' hx => ?_)
  · obtain ⟨hok, rfl, G', s', rfl, hC', hf⟩ := hp
    refine V_w32 ?_
    refine V_ex sL_shelf_7 (by simp only [Option.toList, List.cons_append, List.nil_append, exN, ex1, gI, gL, gR, pI, pL, pR, lget, lset1, lset2, kl, b2I, b2L, nob, ob32, ob64, xGet, xPut, xLen, xLd, xLdR, xSt, obA, true_and, and_true, and_self, eq_self, Nat.reduceEqDiff, Nat.zero_ne_one, reduceIte, Nat.reduceLeDiff, and_false, false_and, show LF.1 189 = some (.inr (1, 1)) from rfl, upd2_eq, Int.reduceToNat, Int.toNat_natCast]; rfl) (by simp only [ob, obA]; first | exact ⟨w32_R _, by decide, by decide⟩ | exact ⟨by decide, by decide⟩ | (refine ⟨?_, ?_⟩ <;> first | exact w32_R _ | decide)) ?_
    refine V_goto dL_shelf_9 (tgt := 15) (by decide) ?_
    refine V_ex sL_shelf_15 (by rfl) (by exact trivial) ?_
    exact V_iret dL_shelf_16 rfl ⟨Nat.le_of_ble_eq_true rfl, Nat.le_of_ble_eq_true rfl⟩ ⟨by rw [hok], Or.inl hok, (G'.1, upd2 G'.2.1 189 0 (w32 (shelfP A n).2.1), G'.2.2), s', rfl, RC_L hC', hf.w, fun _ => uuL⟩
  · obtain ⟨hk, rfl, G', s', rfl, hC', hf⟩ := hx
    refine ⟨12, ⟨[], ⟨0, 9, 12, 13⟩, [], IAE, rfl, by decide, rfl, by decide, by decide +kernel, by decide +kernel, fun z hz => nomatch hz⟩, fun q => ?_⟩
    refine V_ex sL_shelf_12 (by rfl) (by exact trivial) ?_
    exact V_iret dL_shelf_14 rfl ⟨Nat.le_of_ble_eq_true rfl, Nat.le_of_ble_eq_true rfl⟩ ⟨by rw [hk], Or.inr (Or.inl hk), G', s', rfl, (by rw [shelfP_A (by rw [hk]; decide)]; exact hC'), hf.c, fun h => by rw [hk] at h; cases h⟩
set_option maxRecDepth 100000 in
set_option maxHeartbeats 4000000 in
set_option maxRecDepth 100000 in
set_option maxHeartbeats 4000000 in
theorem c_wCount {κ : Kx} (hκ : KOK κ) (hB : HB κ) {d s0 : Nat} {K w : Int} {A : Ab} {G : Wd} (hC : RC G s0 A) (hI : Inv K A) (hR : aR G) (h_w : R32 w) (hd : 80 ≤ d) : Ct κ ML_count d 16 128 [VR 1, VI w, VR 189] (Wm G) (wP G (A) (countP A w).1 (w32 (countP A w).2)) noX := by
  refine Ct_ofH hκ kL_count.1 (by decide) (Nat.le_of_ble_eq_true rfl) (ls := [some (VR 1), some (VI w), some (VR 189), none]) rfl (fun μ => ?_)
  have h1 := c_xCount (κ := κ) (d := 70) hκ hC hI hR h_w (by omega)
  refine V_ex sL_count_0 (by rfl) (by exact trivial) ?_
  refine V_callVH (M := ML_count) (N := MX11_count) dL_count_4 lRL_15 kX11_count rfl rfl rfl h1 rfl rfl (Nat.le_of_ble_eq_true rfl) (fit_rm (by omega)) ⟨Nat.le_of_ble_eq_true rfl, Nat.le_of_ble_eq_true rfl⟩ (fun v Ω' hp => ?_) (fun E Ω' hx => ?_)
  · obtain ⟨hok, rfl, G', s', rfl, hC', hf⟩ := hp
    refine V_w32 ?_
    refine V_ex sL_count_7 (by simp only [Option.toList, List.cons_append, List.nil_append, exN, ex1, gI, gL, gR, pI, pL, pR, lget, lset1, lset2, kl, b2I, b2L, nob, ob32, ob64, xGet, xPut, xLen, xLd, xLdR, xSt, obA, true_and, and_true, and_self, eq_self, Nat.reduceEqDiff, Nat.zero_ne_one, reduceIte, Nat.reduceLeDiff, and_false, false_and, show LF.1 189 = some (.inr (1, 1)) from rfl, upd2_eq, Int.reduceToNat, Int.toNat_natCast]; rfl) (by simp only [ob, obA]; first | exact ⟨w32_R _, by decide, by decide⟩ | exact ⟨by decide, by decide⟩ | (refine ⟨?_, ?_⟩ <;> first | exact w32_R _ | decide)) ?_
    refine V_goto dL_count_9 (tgt := 15) (by decide) ?_
    refine V_ex sL_count_15 (by rfl) (by exact trivial) ?_
    exact V_iret dL_count_16 rfl ⟨Nat.le_of_ble_eq_true rfl, Nat.le_of_ble_eq_true rfl⟩ ⟨by rw [hok], Or.inl hok, (G'.1, upd2 G'.2.1 189 0 (w32 (countP A w).2), G'.2.2), s', rfl, RC_L hC', hf.w, fun _ => uuL⟩
  · obtain ⟨hk, rfl, G', s', rfl, hC', hf⟩ := hx
    refine ⟨12, ⟨[], ⟨0, 9, 12, 18⟩, [], NSE, rfl, by decide, rfl, by decide, by decide +kernel, by decide +kernel, fun z hz => nomatch hz⟩, fun q => ?_⟩
    refine V_ex sL_count_12 (by rfl) (by exact trivial) ?_
    exact V_iret dL_count_14 rfl ⟨Nat.le_of_ble_eq_true rfl, Nat.le_of_ble_eq_true rfl⟩ ⟨by rw [hk], Or.inr (Or.inl hk), G', s', rfl, hC', hf.c, fun h => by rw [hk] at h; cases h⟩
set_option maxRecDepth 100000 in
set_option maxHeartbeats 4000000 in
set_option maxRecDepth 100000 in
set_option maxHeartbeats 4000000 in
theorem c_wBook {κ : Kx} (hκ : KOK κ) (hB : HB κ) {d s0 : Nat} {K i w : Int} {A : Ab} {G : Wd} (hC : RC G s0 A) (hI : Inv K A) (hR : aR G) (h_i : R32 i) (h_w : R32 w) (hd : 80 ≤ d) : Ct κ ML_book d 16 128 [VR 1, VI i, VI w, VR 189] (Wm G) (wP G (A) (bookP A i w).1 (w32 (bookP A i w).2)) noX := by
  refine Ct_ofH hκ kL_book.1 (by decide) (Nat.le_of_ble_eq_true rfl) (ls := [some (VR 1), some (VI i), some (VI w), some (VR 189), none]) rfl (fun μ => ?_)
  have h1 := c_xBook (κ := κ) (d := 70) hκ hC hI hR h_i h_w (by omega)
  refine V_ex sL_book_0 (by rfl) (by exact trivial) ?_
  refine V_callVH (M := ML_book) (N := MX11_book) dL_book_5 lRL_20 kX11_book rfl rfl rfl h1 rfl rfl (Nat.le_of_ble_eq_true rfl) (fit_rm (by omega)) ⟨Nat.le_of_ble_eq_true rfl, Nat.le_of_ble_eq_true rfl⟩ (fun v Ω' hp => ?_) (fun E Ω' hx => ?_)
  · obtain ⟨hok, rfl, G', s', rfl, hC', hf⟩ := hp
    refine V_w32 ?_
    refine V_ex sL_book_8 (by simp only [Option.toList, List.cons_append, List.nil_append, exN, ex1, gI, gL, gR, pI, pL, pR, lget, lset1, lset2, kl, b2I, b2L, nob, ob32, ob64, xGet, xPut, xLen, xLd, xLdR, xSt, obA, true_and, and_true, and_self, eq_self, Nat.reduceEqDiff, Nat.zero_ne_one, reduceIte, Nat.reduceLeDiff, and_false, false_and, show LF.1 189 = some (.inr (1, 1)) from rfl, upd2_eq, Int.reduceToNat, Int.toNat_natCast]; rfl) (by simp only [ob, obA]; first | exact ⟨w32_R _, by decide, by decide⟩ | exact ⟨by decide, by decide⟩ | (refine ⟨?_, ?_⟩ <;> first | exact w32_R _ | decide)) ?_
    refine V_goto dL_book_10 (tgt := 17) (by decide) ?_
    refine V_ex sL_book_17 (by rfl) (by exact trivial) ?_
    exact V_iret dL_book_18 rfl ⟨Nat.le_of_ble_eq_true rfl, Nat.le_of_ble_eq_true rfl⟩ ⟨by rw [hok], Or.inl hok, (G'.1, upd2 G'.2.1 189 0 (w32 (bookP A i w).2), G'.2.2), s', rfl, RC_L hC', hf.w, fun _ => uuL⟩
  · obtain ⟨hk, rfl, G', s', rfl, hC', hf⟩ := hx
    refine ⟨13, ⟨[], ⟨0, 10, 13, 18⟩, [], NSE, rfl, by decide, rfl, by decide, by decide +kernel, by decide +kernel, fun z hz => nomatch hz⟩, fun q => ?_⟩
    refine V_ex sL_book_13 (by rfl) (by exact trivial) ?_
    exact V_iret dL_book_16 rfl ⟨Nat.le_of_ble_eq_true rfl, Nat.le_of_ble_eq_true rfl⟩ ⟨by rw [hk], Or.inr (Or.inl hk), G', s', rfl, hC', hf.c, fun h => by rw [hk] at h; cases h⟩
set_option maxRecDepth 100000 in
set_option maxHeartbeats 4000000 in
set_option maxRecDepth 100000 in
set_option maxHeartbeats 4000000 in
theorem c_wIsThere {κ : Kx} (hκ : KOK κ) (hB : HB κ) {d s0 : Nat} {K i l : Int} {A : Ab} {G : Wd} (hC : RC G s0 A) (hI : Inv K A) (hR : aR G) (h_i : R32 i) (h_l : R32 l) (hd : 80 ≤ d) : Ct κ ML_isThere d 16 128 [VR 1, VI i, VI l, VR 189] (Wm G) (wP G (A) (isThereP A i l).1 (zb (isThereP A i l).2)) noX := by
  refine Ct_ofH hκ kL_isThere.1 (by decide) (Nat.le_of_ble_eq_true rfl) (ls := [some (VR 1), some (VI i), some (VI l), some (VR 189), none]) rfl (fun μ => ?_)
  have h1 := c_xIsThere (κ := κ) (d := 70) hκ hC hI hR h_i h_l (by omega)
  refine V_ex sL_isThere_0 (by rfl) (by exact trivial) ?_
  refine V_callVH (M := ML_isThere) (N := MX11_isThere) dL_isThere_5 lRL_24 kX11_isThere rfl rfl rfl h1 rfl rfl (Nat.le_of_ble_eq_true rfl) (fit_rm (by omega)) ⟨Nat.le_of_ble_eq_true rfl, Nat.le_of_ble_eq_true rfl⟩ (fun v Ω' hp => ?_) (fun E Ω' hx => ?_)
  · obtain ⟨hok, rfl, G', s', rfl, hC', hf⟩ := hp
    refine V_w32 ?_
    refine V_ifeq dL_isThere_8 (tgt := 15) (by decide) (w32_R _) (fun q => ?_) (fun q => ?_)
    · refine V_ex sL_isThere_15 (by rfl) (by exact trivial) ?_
      refine V_ex sL_isThere_16 (by simp only [Option.toList, List.cons_append, List.nil_append, exN, ex1, gI, gL, gR, pI, pL, pR, lget, lset1, lset2, kl, b2I, b2L, nob, ob32, ob64, xGet, xPut, xLen, xLd, xLdR, xSt, obA, true_and, and_true, and_self, eq_self, Nat.reduceEqDiff, Nat.zero_ne_one, reduceIte, Nat.reduceLeDiff, and_false, false_and, show LF.1 189 = some (.inr (1, 1)) from rfl, upd2_eq, Int.reduceToNat, Int.toNat_natCast]; rfl) (by simp only [ob, obA]; first | exact ⟨w32_R _, by decide, by decide⟩ | exact ⟨by decide, by decide⟩ | (refine ⟨?_, ?_⟩ <;> first | exact w32_R _ | decide)) ?_
      refine V_goto dL_isThere_17 (tgt := 24) (by decide) ?_
      refine V_ex sL_isThere_24 (by rfl) (by exact trivial) ?_
      exact V_iret dL_isThere_25 rfl ⟨Nat.le_of_ble_eq_true rfl, Nat.le_of_ble_eq_true rfl⟩ ⟨by rw [hok], Or.inl hok, (G'.1, upd2 G'.2.1 189 0 (0), G'.2.2), s', rfl, RC_L hC', hf.w, fun _ => uuL.trans (zb0 q)⟩
    · refine V_ex sL_isThere_11 (by rfl) (by exact trivial) ?_
      refine V_goto dL_isThere_12 (tgt := 16) (by decide) ?_
      refine V_ex sL_isThere_16 (by simp only [Option.toList, List.cons_append, List.nil_append, exN, ex1, gI, gL, gR, pI, pL, pR, lget, lset1, lset2, kl, b2I, b2L, nob, ob32, ob64, xGet, xPut, xLen, xLd, xLdR, xSt, obA, true_and, and_true, and_self, eq_self, Nat.reduceEqDiff, Nat.zero_ne_one, reduceIte, Nat.reduceLeDiff, and_false, false_and, show LF.1 189 = some (.inr (1, 1)) from rfl, upd2_eq, Int.reduceToNat, Int.toNat_natCast]; rfl) (by simp only [ob, obA]; first | exact ⟨w32_R _, by decide, by decide⟩ | exact ⟨by decide, by decide⟩ | (refine ⟨?_, ?_⟩ <;> first | exact w32_R _ | decide)) ?_
      refine V_goto dL_isThere_17 (tgt := 24) (by decide) ?_
      refine V_ex sL_isThere_24 (by rfl) (by exact trivial) ?_
      exact V_iret dL_isThere_25 rfl ⟨Nat.le_of_ble_eq_true rfl, Nat.le_of_ble_eq_true rfl⟩ ⟨by rw [hok], Or.inl hok, (G'.1, upd2 G'.2.1 189 0 (1), G'.2.2), s', rfl, RC_L hC', hf.w, fun _ => uuL.trans (zb1 q)⟩
  · obtain ⟨hk, rfl, G', s', rfl, hC', hf⟩ := hx
    refine ⟨20, ⟨[], ⟨0, 17, 20, 18⟩, [], NSE, rfl, by decide, rfl, by decide, by decide +kernel, by decide +kernel, fun z hz => nomatch hz⟩, fun q => ?_⟩
    refine V_ex sL_isThere_20 (by rfl) (by exact trivial) ?_
    exact V_iret dL_isThere_23 rfl ⟨Nat.le_of_ble_eq_true rfl, Nat.le_of_ble_eq_true rfl⟩ ⟨by rw [hk], Or.inr (Or.inl hk), G', s', rfl, hC', hf.c, fun h => by rw [hk] at h; cases h⟩
set_option maxRecDepth 100000 in
set_option maxHeartbeats 4000000 in
set_option maxRecDepth 100000 in
set_option maxHeartbeats 4000000 in
theorem c_wNumber {κ : Kx} (hκ : KOK κ) (hB : HB κ) {d s0 : Nat} {K i l : Int} {A : Ab} {G : Wd} (hC : RC G s0 A) (hI : Inv K A) (hR : aR G) (h_i : R32 i) (h_l : R32 l) (hd : 80 ≤ d) : Ct κ ML_number d 16 128 [VR 1, VI i, VI l, VR 189] (Wm G) (wP G (A) (numberP A i l).1 (w32 (numberP A i l).2)) noX := by
  refine Ct_ofH hκ kL_number.1 (by decide) (Nat.le_of_ble_eq_true rfl) (ls := [some (VR 1), some (VI i), some (VI l), some (VR 189), none]) rfl (fun μ => ?_)
  have h1 := c_xNumber (κ := κ) (d := 70) hκ hC hI hR h_i h_l (by omega)
  refine V_ex sL_number_0 (by rfl) (by exact trivial) ?_
  refine V_callVH (M := ML_number) (N := MX11_number) dL_number_5 lRL_28 kX11_number rfl rfl rfl h1 rfl rfl (Nat.le_of_ble_eq_true rfl) (fit_rm (by omega)) ⟨Nat.le_of_ble_eq_true rfl, Nat.le_of_ble_eq_true rfl⟩ (fun v Ω' hp => ?_) (fun E Ω' hx => ?_)
  · obtain ⟨hok, rfl, G', s', rfl, hC', hf⟩ := hp
    refine V_w32 ?_
    refine V_ex sL_number_8 (by simp only [Option.toList, List.cons_append, List.nil_append, exN, ex1, gI, gL, gR, pI, pL, pR, lget, lset1, lset2, kl, b2I, b2L, nob, ob32, ob64, xGet, xPut, xLen, xLd, xLdR, xSt, obA, true_and, and_true, and_self, eq_self, Nat.reduceEqDiff, Nat.zero_ne_one, reduceIte, Nat.reduceLeDiff, and_false, false_and, show LF.1 189 = some (.inr (1, 1)) from rfl, upd2_eq, Int.reduceToNat, Int.toNat_natCast]; rfl) (by simp only [ob, obA]; first | exact ⟨w32_R _, by decide, by decide⟩ | exact ⟨by decide, by decide⟩ | (refine ⟨?_, ?_⟩ <;> first | exact w32_R _ | decide)) ?_
    refine V_goto dL_number_10 (tgt := 17) (by decide) ?_
    refine V_ex sL_number_17 (by rfl) (by exact trivial) ?_
    exact V_iret dL_number_18 rfl ⟨Nat.le_of_ble_eq_true rfl, Nat.le_of_ble_eq_true rfl⟩ ⟨by rw [hok], Or.inl hok, (G'.1, upd2 G'.2.1 189 0 (w32 (numberP A i l).2), G'.2.2), s', rfl, RC_L hC', hf.w, fun _ => uuL⟩
  · obtain ⟨hk, rfl, G', s', rfl, hC', hf⟩ := hx
    refine ⟨13, ⟨[], ⟨0, 10, 13, 18⟩, [], NSE, rfl, by decide, rfl, by decide, by decide +kernel, by decide +kernel, fun z hz => nomatch hz⟩, fun q => ?_⟩
    refine V_ex sL_number_13 (by rfl) (by exact trivial) ?_
    exact V_iret dL_number_16 rfl ⟨Nat.le_of_ble_eq_true rfl, Nat.le_of_ble_eq_true rfl⟩ ⟨by rw [hk], Or.inr (Or.inl hk), G', s', rfl, hC', hf.c, fun h => by rw [hk] at h; cases h⟩
set_option maxRecDepth 100000 in
set_option maxHeartbeats 4000000 in
set_option maxRecDepth 100000 in
set_option maxHeartbeats 4000000 in
theorem c_wPage {κ : Kx} (hκ : KOK κ) (hB : HB κ) {d s0 : Nat} {K i n : Int} {A : Ab} {G : Wd} (hC : RC G s0 A) (hI : Inv K A) (hR : aR G) (h_i : R32 i) (h_n : R32 n) (hd : 80 ≤ d) : Ct κ ML_page d 16 128 [VR 1, VI i, VI n, VR 189] (Wm G) (wP G (A) (pageP A i n).1 (w32 (pageP A i n).2)) noX := by
  refine Ct_ofH hκ kL_page.1 (by decide) (Nat.le_of_ble_eq_true rfl) (ls := [some (VR 1), some (VI i), some (VI n), some (VR 189), none]) rfl (fun μ => ?_)
  have h1 := c_xPage (κ := κ) (d := 70) hκ hC hI hR h_i h_n (by omega)
  refine V_ex sL_page_0 (by rfl) (by exact trivial) ?_
  refine V_callVH (M := ML_page) (N := MX11_page) dL_page_5 lRL_31 kX11_page rfl rfl rfl h1 rfl rfl (Nat.le_of_ble_eq_true rfl) (fit_rm (by omega)) ⟨Nat.le_of_ble_eq_true rfl, Nat.le_of_ble_eq_true rfl⟩ (fun v Ω' hp => ?_) (fun E Ω' hx => ?_)
  · obtain ⟨hok, rfl, G', s', rfl, hC', hf⟩ := hp
    refine V_w32 ?_
    refine V_ex sL_page_8 (by simp only [Option.toList, List.cons_append, List.nil_append, exN, ex1, gI, gL, gR, pI, pL, pR, lget, lset1, lset2, kl, b2I, b2L, nob, ob32, ob64, xGet, xPut, xLen, xLd, xLdR, xSt, obA, true_and, and_true, and_self, eq_self, Nat.reduceEqDiff, Nat.zero_ne_one, reduceIte, Nat.reduceLeDiff, and_false, false_and, show LF.1 189 = some (.inr (1, 1)) from rfl, upd2_eq, Int.reduceToNat, Int.toNat_natCast]; rfl) (by simp only [ob, obA]; first | exact ⟨w32_R _, by decide, by decide⟩ | exact ⟨by decide, by decide⟩ | (refine ⟨?_, ?_⟩ <;> first | exact w32_R _ | decide)) ?_
    refine V_goto dL_page_10 (tgt := 17) (by decide) ?_
    refine V_ex sL_page_17 (by rfl) (by exact trivial) ?_
    exact V_iret dL_page_18 rfl ⟨Nat.le_of_ble_eq_true rfl, Nat.le_of_ble_eq_true rfl⟩ ⟨by rw [hok], Or.inl hok, (G'.1, upd2 G'.2.1 189 0 (w32 (pageP A i n).2), G'.2.2), s', rfl, RC_L hC', hf.w, fun _ => uuL⟩
  · obtain ⟨hk, rfl, G', s', rfl, hC', hf⟩ := hx
    refine ⟨13, ⟨[], ⟨0, 10, 13, 18⟩, [], NSE, rfl, by decide, rfl, by decide, by decide +kernel, by decide +kernel, fun z hz => nomatch hz⟩, fun q => ?_⟩
    refine V_ex sL_page_13 (by rfl) (by exact trivial) ?_
    exact V_iret dL_page_16 rfl ⟨Nat.le_of_ble_eq_true rfl, Nat.le_of_ble_eq_true rfl⟩ ⟨by rw [hk], Or.inr (Or.inl hk), G', s', rfl, hC', hf.c, fun h => by rw [hk] at h; cases h⟩
set_option maxRecDepth 100000 in
set_option maxHeartbeats 4000000 in
set_option maxRecDepth 100000 in
set_option maxHeartbeats 4000000 in
theorem c_wSum {κ : Kx} (hκ : KOK κ) (hB : HB κ) {d s0 : Nat} {K i : Int} {A : Ab} {G : Wd} (hC : RC G s0 A) (hI : Inv K A) (hR : aR G) (h_i : R32 i) (hd : 80 ≤ d) : Ct κ ML_sum d 16 128 [VR 1, VI i, VR 189] (Wm G) (wP G (A) (sumP A i).1 (w64 (sumP A i).2)) noX := by
  refine Ct_ofH hκ kL_sum.1 (by decide) (Nat.le_of_ble_eq_true rfl) (ls := [some (VR 1), some (VI i), some (VR 189), none]) rfl (fun μ => ?_)
  have h1 := c_xSum (κ := κ) (d := 70) hκ hC hI hR h_i (by omega)
  refine V_ex sL_sum_0 (by rfl) (by exact trivial) ?_
  refine V_callVH (M := ML_sum) (N := MX11_sum) dL_sum_4 lRL_34 kX11_sum rfl rfl rfl h1 rfl rfl (Nat.le_of_ble_eq_true rfl) (fit_rm (by omega)) ⟨Nat.le_of_ble_eq_true rfl, Nat.le_of_ble_eq_true rfl⟩ (fun v Ω' hp => ?_) (fun E Ω' hx => ?_)
  · obtain ⟨hok, rfl, G', s', rfl, hC', hf⟩ := hp
    refine V_w64 ?_
    refine V_ex sL_sum_7 (by simp only [Option.toList, List.cons_append, List.nil_append, exN, ex1, gI, gL, gR, pI, pL, pR, lget, lset1, lset2, kl, b2I, b2L, nob, ob32, ob64, xGet, xPut, xLen, xLd, xLdR, xSt, obA, true_and, and_true, and_self, eq_self, Nat.reduceEqDiff, Nat.zero_ne_one, reduceIte, Nat.reduceLeDiff, and_false, false_and, show LF.1 189 = some (.inr (1, 1)) from rfl, upd2_eq, Int.reduceToNat, Int.toNat_natCast]; rfl) (by simp only [ob, obA]; first | exact ⟨w32_R _, by decide, by decide⟩ | exact ⟨by decide, by decide⟩ | (refine ⟨?_, ?_⟩ <;> first | exact w32_R _ | decide)) ?_
    refine V_goto dL_sum_8 (tgt := 14) (by decide) ?_
    refine V_ex sL_sum_14 (by rfl) (by exact trivial) ?_
    exact V_iret dL_sum_15 rfl ⟨Nat.le_of_ble_eq_true rfl, Nat.le_of_ble_eq_true rfl⟩ ⟨by rw [hok], Or.inl hok, (G'.1, upd2 G'.2.1 189 0 (w64 (sumP A i).2), G'.2.2), s', rfl, RC_L hC', hf.w, fun _ => uuL⟩
  · obtain ⟨hk, rfl, G', s', rfl, hC', hf⟩ := hx
    refine ⟨11, ⟨[], ⟨0, 8, 11, 18⟩, [], NSE, rfl, by decide, rfl, by decide, by decide +kernel, by decide +kernel, fun z hz => nomatch hz⟩, fun q => ?_⟩
    refine V_ex sL_sum_11 (by rfl) (by exact trivial) ?_
    exact V_iret dL_sum_13 rfl ⟨Nat.le_of_ble_eq_true rfl, Nat.le_of_ble_eq_true rfl⟩ ⟨by rw [hk], Or.inr (Or.inl hk), G', s', rfl, hC', hf.c, fun h => by rw [hk] at h; cases h⟩
set_option maxRecDepth 100000 in
set_option maxHeartbeats 4000000 in
set_option maxRecDepth 100000 in
set_option maxHeartbeats 4000000 in
theorem c_wFigures {κ : Kx} (hκ : KOK κ) (hB : HB κ) {d s0 : Nat} {K i f : Int} {A : Ab} {G : Wd} (hC : RC G s0 A) (hI : Inv K A) (hR : aR G) (h_i : R32 i) (h_f : R32 f) (hd : 80 ≤ d) : Ct κ ML_figures d 16 128 [VR 1, VI i, VI f, VR 189] (Wm G) (wP G (A) (figuresP A i f).1 (w32 (figuresP A i f).2)) noX := by
  refine Ct_ofH hκ kL_figures.1 (by decide) (Nat.le_of_ble_eq_true rfl) (ls := [some (VR 1), some (VI i), some (VI f), some (VR 189), none]) rfl (fun μ => ?_)
  have h1 := c_xFigures (κ := κ) (d := 70) hκ hC hI hR h_i h_f (by omega)
  refine V_ex sL_figures_0 (by rfl) (by exact trivial) ?_
  refine V_callVH (M := ML_figures) (N := MX11_figures) dL_figures_5 lRL_38 kX11_figures rfl rfl rfl h1 rfl rfl (Nat.le_of_ble_eq_true rfl) (fit_rm (by omega)) ⟨Nat.le_of_ble_eq_true rfl, Nat.le_of_ble_eq_true rfl⟩ (fun v Ω' hp => ?_) (fun E Ω' hx => ?_)
  · obtain ⟨hok, rfl, G', s', rfl, hC', hf⟩ := hp
    refine V_w32 ?_
    refine V_ex sL_figures_8 (by simp only [Option.toList, List.cons_append, List.nil_append, exN, ex1, gI, gL, gR, pI, pL, pR, lget, lset1, lset2, kl, b2I, b2L, nob, ob32, ob64, xGet, xPut, xLen, xLd, xLdR, xSt, obA, true_and, and_true, and_self, eq_self, Nat.reduceEqDiff, Nat.zero_ne_one, reduceIte, Nat.reduceLeDiff, and_false, false_and, show LF.1 189 = some (.inr (1, 1)) from rfl, upd2_eq, Int.reduceToNat, Int.toNat_natCast]; rfl) (by simp only [ob, obA]; first | exact ⟨w32_R _, by decide, by decide⟩ | exact ⟨by decide, by decide⟩ | (refine ⟨?_, ?_⟩ <;> first | exact w32_R _ | decide)) ?_
    refine V_goto dL_figures_10 (tgt := 17) (by decide) ?_
    refine V_ex sL_figures_17 (by rfl) (by exact trivial) ?_
    exact V_iret dL_figures_18 rfl ⟨Nat.le_of_ble_eq_true rfl, Nat.le_of_ble_eq_true rfl⟩ ⟨by rw [hok], Or.inl hok, (G'.1, upd2 G'.2.1 189 0 (w32 (figuresP A i f).2), G'.2.2), s', rfl, RC_L hC', hf.w, fun _ => uuL⟩
  · obtain ⟨hk, rfl, G', s', rfl, hC', hf⟩ := hx
    refine ⟨13, ⟨[], ⟨0, 10, 13, 18⟩, [], NSE, rfl, by decide, rfl, by decide, by decide +kernel, by decide +kernel, fun z hz => nomatch hz⟩, fun q => ?_⟩
    refine V_ex sL_figures_13 (by rfl) (by exact trivial) ?_
    exact V_iret dL_figures_16 rfl ⟨Nat.le_of_ble_eq_true rfl, Nat.le_of_ble_eq_true rfl⟩ ⟨by rw [hk], Or.inr (Or.inl hk), G', s', rfl, hC', hf.c, fun h => by rw [hk] at h; cases h⟩
set_option maxRecDepth 100000 in
set_option maxHeartbeats 4000000 in
set_option maxRecDepth 100000 in
set_option maxHeartbeats 4000000 in
theorem c_wTear {κ : Kx} (hκ : KOK κ) (hB : HB κ) {d s0 : Nat} {K i l : Int} {A : Ab} {G : Wd} (hC : RC G s0 A) (hI : Inv K A) (hR : aR G) (h_i : R32 i) (h_l : R32 l) (hd : 80 ≤ d) : Ct κ ML_tear d 16 128 [VR 1, VI i, VI l, VR 189] (Wm G) (wP G ((tearP A i l).2.2) (tearP A i l).1 (w32 (tearP A i l).2.1)) noX := by
  refine Ct_ofH hκ kL_tear.1 (by decide) (Nat.le_of_ble_eq_true rfl) (ls := [some (VR 1), some (VI i), some (VI l), some (VR 189), none]) rfl (fun μ => ?_)
  have h1 := c_xTear (κ := κ) (d := 70) hκ hC hI hR h_i h_l (by omega)
  refine V_ex sL_tear_0 (by rfl) (by exact trivial) ?_
  refine V_callVH (M := ML_tear) (N := MX11_tear) dL_tear_5 lRL_41 kX11_tear rfl rfl rfl h1 rfl rfl (Nat.le_of_ble_eq_true rfl) (fit_rm (by omega)) ⟨Nat.le_of_ble_eq_true rfl, Nat.le_of_ble_eq_true rfl⟩ (fun v Ω' hp => ?_) (fun E Ω' hx => ?_)
  · obtain ⟨hok, rfl, G', s', rfl, hC', hf⟩ := hp
    refine V_w32 ?_
    refine V_ex sL_tear_8 (by simp only [Option.toList, List.cons_append, List.nil_append, exN, ex1, gI, gL, gR, pI, pL, pR, lget, lset1, lset2, kl, b2I, b2L, nob, ob32, ob64, xGet, xPut, xLen, xLd, xLdR, xSt, obA, true_and, and_true, and_self, eq_self, Nat.reduceEqDiff, Nat.zero_ne_one, reduceIte, Nat.reduceLeDiff, and_false, false_and, show LF.1 189 = some (.inr (1, 1)) from rfl, upd2_eq, Int.reduceToNat, Int.toNat_natCast]; rfl) (by simp only [ob, obA]; first | exact ⟨w32_R _, by decide, by decide⟩ | exact ⟨by decide, by decide⟩ | (refine ⟨?_, ?_⟩ <;> first | exact w32_R _ | decide)) ?_
    refine V_goto dL_tear_10 (tgt := 17) (by decide) ?_
    refine V_ex sL_tear_17 (by rfl) (by exact trivial) ?_
    exact V_iret dL_tear_18 rfl ⟨Nat.le_of_ble_eq_true rfl, Nat.le_of_ble_eq_true rfl⟩ ⟨by rw [hok], Or.inl hok, (G'.1, upd2 G'.2.1 189 0 (w32 (tearP A i l).2.1), G'.2.2), s', rfl, RC_L hC', hf.w, fun _ => uuL⟩
  · obtain ⟨hk, rfl, G', s', rfl, hC', hf⟩ := hx
    refine ⟨13, ⟨[], ⟨0, 10, 13, 18⟩, [], NSE, rfl, by decide, rfl, by decide, by decide +kernel, by decide +kernel, fun z hz => nomatch hz⟩, fun q => ?_⟩
    refine V_ex sL_tear_13 (by rfl) (by exact trivial) ?_
    exact V_iret dL_tear_16 rfl ⟨Nat.le_of_ble_eq_true rfl, Nat.le_of_ble_eq_true rfl⟩ ⟨by rw [hk], Or.inr (Or.inl hk), G', s', rfl, (by rw [tearP_A (by rw [hk]; decide)]; exact hC'), hf.c, fun h => by rw [hk] at h; cases h⟩
set_option maxRecDepth 100000 in
set_option maxHeartbeats 4000000 in
set_option maxRecDepth 100000 in
set_option maxHeartbeats 4000000 in
theorem c_wSheet {κ : Kx} (hκ : KOK κ) (hB : HB κ) {d s0 : Nat} {K i l : Int} {A : Ab} {G : Wd} (hC : RC G s0 A) (hI : Inv K A) (hR : aR G) (h_i : R32 i) (h_l : R32 l) (hd : 80 ≤ d) : Ct κ ML_sheet d 16 128 [VR 1, VI i, VI l, VR 189] (Wm G) (wP G ((sheetP A i l).2.2) (sheetP A i l).1 (w32 (sheetP A i l).2.1)) noX := by
  refine Ct_ofH hκ kL_sheet.1 (by decide) (Nat.le_of_ble_eq_true rfl) (ls := [some (VR 1), some (VI i), some (VI l), some (VR 189), none]) rfl (fun μ => ?_)
  have h1 := c_xSheet (κ := κ) (d := 70) hκ hC hI hR h_i h_l (by omega)
  refine V_ex sL_sheet_0 (by rfl) (by exact trivial) ?_
  refine V_callVH (M := ML_sheet) (N := MX11_sheet) dL_sheet_5 lRL_44 kX11_sheet rfl rfl rfl h1 rfl rfl (Nat.le_of_ble_eq_true rfl) (fit_rm (by omega)) ⟨Nat.le_of_ble_eq_true rfl, Nat.le_of_ble_eq_true rfl⟩ (fun v Ω' hp => ?_) (fun E Ω' hx => ?_)
  · obtain ⟨hok, rfl, G', s', rfl, hC', hf⟩ := hp
    refine V_w32 ?_
    refine V_ex sL_sheet_8 (by simp only [Option.toList, List.cons_append, List.nil_append, exN, ex1, gI, gL, gR, pI, pL, pR, lget, lset1, lset2, kl, b2I, b2L, nob, ob32, ob64, xGet, xPut, xLen, xLd, xLdR, xSt, obA, true_and, and_true, and_self, eq_self, Nat.reduceEqDiff, Nat.zero_ne_one, reduceIte, Nat.reduceLeDiff, and_false, false_and, show LF.1 189 = some (.inr (1, 1)) from rfl, upd2_eq, Int.reduceToNat, Int.toNat_natCast]; rfl) (by simp only [ob, obA]; first | exact ⟨w32_R _, by decide, by decide⟩ | exact ⟨by decide, by decide⟩ | (refine ⟨?_, ?_⟩ <;> first | exact w32_R _ | decide)) ?_
    refine V_goto dL_sheet_10 (tgt := 17) (by decide) ?_
    refine V_ex sL_sheet_17 (by rfl) (by exact trivial) ?_
    exact V_iret dL_sheet_18 rfl ⟨Nat.le_of_ble_eq_true rfl, Nat.le_of_ble_eq_true rfl⟩ ⟨by rw [hok], Or.inl hok, (G'.1, upd2 G'.2.1 189 0 (w32 (sheetP A i l).2.1), G'.2.2), s', rfl, RC_L hC', hf.w, fun _ => uuL⟩
  · obtain ⟨hk, rfl, G', s', rfl, hC', hf⟩ := hx
    refine ⟨13, ⟨[], ⟨0, 10, 13, 18⟩, [], NSE, rfl, by decide, rfl, by decide, by decide +kernel, by decide +kernel, fun z hz => nomatch hz⟩, fun q => ?_⟩
    refine V_ex sL_sheet_13 (by rfl) (by exact trivial) ?_
    exact V_iret dL_sheet_16 rfl ⟨Nat.le_of_ble_eq_true rfl, Nat.le_of_ble_eq_true rfl⟩ ⟨by rw [hk], Or.inr (Or.inl hk), G', s', rfl, (by rw [sheetP_A (by rw [hk]; decide)]; exact hC'), hf.c, fun h => by rw [hk] at h; cases h⟩
set_option maxRecDepth 100000 in
set_option maxHeartbeats 4000000 in
set_option maxRecDepth 100000 in
set_option maxHeartbeats 4000000 in
theorem c_wAdd {κ : Kx} (hκ : KOK κ) (hB : HB κ) {d s0 : Nat} {K i z : Int} {A : Ab} {G : Wd} (hC : RC G s0 A) (hI : Inv K A) (hR : aR G) (h_i : R32 i) (h_z : R64 z) (hd : 80 ≤ d) : Ct κ ML_add d 16 128 [VR 1, VI i, VL z, VR 189] (Wm G) (wP G ((addP A i z).2.2) (addP A i z).1 (zb (addP A i z).2.1)) noX := by
  refine Ct_ofH hκ kL_add.1 (by decide) (Nat.le_of_ble_eq_true rfl) (ls := [some (VR 1), some (VI i), some (VL z), none, some (VR 189), none]) rfl (fun μ => ?_)
  have h1 := c_xAdd (κ := κ) (d := 70) hκ hC hI hR h_i h_z (by omega)
  refine V_ex sL_add_0 (by rfl) (by exact trivial) ?_
  refine V_callVH (M := ML_add) (N := MX11_add) dL_add_6 lRL_47 kX11_add rfl rfl rfl h1 rfl rfl (Nat.le_of_ble_eq_true rfl) (fit_rm (by omega)) ⟨Nat.le_of_ble_eq_true rfl, Nat.le_of_ble_eq_true rfl⟩ (fun v Ω' hp => ?_) (fun E Ω' hx => ?_)
  · obtain ⟨hok, rfl, G', s', rfl, hC', hf⟩ := hp
    refine V_w32 ?_
    refine V_ifeq dL_add_9 (tgt := 16) (by decide) (w32_R _) (fun q => ?_) (fun q => ?_)
    · refine V_ex sL_add_16 (by rfl) (by exact trivial) ?_
      refine V_ex sL_add_17 (by simp only [Option.toList, List.cons_append, List.nil_append, exN, ex1, gI, gL, gR, pI, pL, pR, lget, lset1, lset2, kl, b2I, b2L, nob, ob32, ob64, xGet, xPut, xLen, xLd, xLdR, xSt, obA, true_and, and_true, and_self, eq_self, Nat.reduceEqDiff, Nat.zero_ne_one, reduceIte, Nat.reduceLeDiff, and_false, false_and, show LF.1 189 = some (.inr (1, 1)) from rfl, upd2_eq, Int.reduceToNat, Int.toNat_natCast]; rfl) (by simp only [ob, obA]; first | exact ⟨w32_R _, by decide, by decide⟩ | exact ⟨by decide, by decide⟩ | (refine ⟨?_, ?_⟩ <;> first | exact w32_R _ | decide)) ?_
      refine V_goto dL_add_18 (tgt := 25) (by decide) ?_
      refine V_ex sL_add_25 (by rfl) (by exact trivial) ?_
      exact V_iret dL_add_26 rfl ⟨Nat.le_of_ble_eq_true rfl, Nat.le_of_ble_eq_true rfl⟩ ⟨by rw [hok], Or.inl hok, (G'.1, upd2 G'.2.1 189 0 (0), G'.2.2), s', rfl, RC_L hC', hf.w, fun _ => uuL.trans (zb0 q)⟩
    · refine V_ex sL_add_12 (by rfl) (by exact trivial) ?_
      refine V_goto dL_add_13 (tgt := 17) (by decide) ?_
      refine V_ex sL_add_17 (by simp only [Option.toList, List.cons_append, List.nil_append, exN, ex1, gI, gL, gR, pI, pL, pR, lget, lset1, lset2, kl, b2I, b2L, nob, ob32, ob64, xGet, xPut, xLen, xLd, xLdR, xSt, obA, true_and, and_true, and_self, eq_self, Nat.reduceEqDiff, Nat.zero_ne_one, reduceIte, Nat.reduceLeDiff, and_false, false_and, show LF.1 189 = some (.inr (1, 1)) from rfl, upd2_eq, Int.reduceToNat, Int.toNat_natCast]; rfl) (by simp only [ob, obA]; first | exact ⟨w32_R _, by decide, by decide⟩ | exact ⟨by decide, by decide⟩ | (refine ⟨?_, ?_⟩ <;> first | exact w32_R _ | decide)) ?_
      refine V_goto dL_add_18 (tgt := 25) (by decide) ?_
      refine V_ex sL_add_25 (by rfl) (by exact trivial) ?_
      exact V_iret dL_add_26 rfl ⟨Nat.le_of_ble_eq_true rfl, Nat.le_of_ble_eq_true rfl⟩ ⟨by rw [hok], Or.inl hok, (G'.1, upd2 G'.2.1 189 0 (1), G'.2.2), s', rfl, RC_L hC', hf.w, fun _ => uuL.trans (zb1 q)⟩
  · obtain ⟨hk, rfl, G', s', rfl, hC', hf⟩ := hx
    refine ⟨21, ⟨[], ⟨0, 18, 21, 18⟩, [], NSE, rfl, by decide, rfl, by decide, by decide +kernel, by decide +kernel, fun z hz => nomatch hz⟩, fun q => ?_⟩
    refine V_ex sL_add_21 (by rfl) (by exact trivial) ?_
    exact V_iret dL_add_24 rfl ⟨Nat.le_of_ble_eq_true rfl, Nat.le_of_ble_eq_true rfl⟩ ⟨by rw [hk], Or.inr (Or.inl hk), G', s', rfl, (by rw [addP_A (by rw [hk]; decide)]; exact hC'), hf.c, fun h => by rw [hk] at h; cases h⟩
set_option maxRecDepth 100000 in
set_option maxHeartbeats 4000000 in
set_option maxRecDepth 100000 in
set_option maxHeartbeats 4000000 in
theorem c_wFits {κ : Kx} (hκ : KOK κ) (hB : HB κ) {d s0 : Nat} {K s i : Int} {A : Ab} {G : Wd} (hC : RC G s0 A) (hI : Inv K A) (hR : aR G) (h_s : R64 s) (h_i : R32 i) (hd : 80 ≤ d) : Ct κ ML_fits d 16 128 [VR 1, VL s, VI i, VR 189] (Wm G) (wP G (A) (fitsP s i).1 (w64 (fitsP s i).2)) noX := by
  refine Ct_ofH hκ kL_fits.1 (by decide) (Nat.le_of_ble_eq_true rfl) (ls := [some (VR 1), some (VL s), none, some (VI i), some (VR 189), none]) rfl (fun μ => ?_)
  have h1 := c_xFits (κ := κ) (d := 70) hκ hC hI hR h_s h_i (by omega)
  refine V_ex sL_fits_0 (by rfl) (by exact trivial) ?_
  refine V_callVH (M := ML_fits) (N := MX11_fits) dL_fits_6 lRL_51 kX11_fits rfl rfl rfl h1 rfl rfl (Nat.le_of_ble_eq_true rfl) (fit_rm (by omega)) ⟨Nat.le_of_ble_eq_true rfl, Nat.le_of_ble_eq_true rfl⟩ (fun v Ω' hp => ?_) (fun E Ω' hx => ?_)
  · obtain ⟨hok, rfl, G', s', rfl, hC', hf⟩ := hp
    refine V_w64 ?_
    refine V_ex sL_fits_9 (by simp only [Option.toList, List.cons_append, List.nil_append, exN, ex1, gI, gL, gR, pI, pL, pR, lget, lset1, lset2, kl, b2I, b2L, nob, ob32, ob64, xGet, xPut, xLen, xLd, xLdR, xSt, obA, true_and, and_true, and_self, eq_self, Nat.reduceEqDiff, Nat.zero_ne_one, reduceIte, Nat.reduceLeDiff, and_false, false_and, show LF.1 189 = some (.inr (1, 1)) from rfl, upd2_eq, Int.reduceToNat, Int.toNat_natCast]; rfl) (by simp only [ob, obA]; first | exact ⟨w32_R _, by decide, by decide⟩ | exact ⟨by decide, by decide⟩ | (refine ⟨?_, ?_⟩ <;> first | exact w32_R _ | decide)) ?_
    refine V_goto dL_fits_10 (tgt := 21) (by decide) ?_
    refine V_ex sL_fits_21 (by rfl) (by exact trivial) ?_
    exact V_iret dL_fits_22 rfl ⟨Nat.le_of_ble_eq_true rfl, Nat.le_of_ble_eq_true rfl⟩ ⟨by rw [hok], Or.inl hok, (G'.1, upd2 G'.2.1 189 0 (w64 (fitsP s i).2), G'.2.2), s', rfl, RC_L hC', hf.w, fun _ => uuL⟩
  · obtain ⟨hk2, G', s', rfl, hC', hf⟩ := hx
    rcases hk2 with ⟨hk, rfl⟩ | ⟨hk, rfl⟩
    · skip
      refine ⟨13, ⟨[], ⟨0, 10, 13, 18⟩, [⟨0, 10, 17, 13⟩], NSE, rfl, by decide, rfl, by decide, by decide +kernel, by decide +kernel, fun z hz => nomatch hz⟩, fun q => ?_⟩
      refine V_ex sL_fits_13 (by rfl) (by exact trivial) ?_
      exact V_iret dL_fits_16 rfl ⟨Nat.le_of_ble_eq_true rfl, Nat.le_of_ble_eq_true rfl⟩ ⟨by rw [hk], Or.inr (Or.inl hk), G', s', rfl, hC', hf.c, fun h => by rw [hk] at h; cases h⟩
    · skip
      refine ⟨17, ⟨[⟨0, 10, 13, 18⟩], ⟨0, 10, 17, 13⟩, [], IAE, rfl, by decide, rfl, by decide, by decide +kernel, by decide +kernel, fun z hz => by rw [List.mem_singleton.mp hz]; exact Or.inr ⟨by decide, NSE, by decide +kernel, hB⟩⟩, fun q => ?_⟩
      refine V_ex sL_fits_17 (by rfl) (by exact trivial) ?_
      exact V_iret dL_fits_20 rfl ⟨Nat.le_of_ble_eq_true rfl, Nat.le_of_ble_eq_true rfl⟩ ⟨by rw [hk], Or.inr (Or.inr hk), G', s', rfl, hC', hf.c, fun h => by rw [hk] at h; cases h⟩
set_option maxRecDepth 100000 in
set_option maxHeartbeats 4000000 in
set_option maxRecDepth 100000 in
set_option maxHeartbeats 4000000 in
theorem c_wLeaf {κ : Kx} (hκ : KOK κ) (hB : HB κ) {d s0 : Nat} {K s i : Int} {A : Ab} {G : Wd} (hC : RC G s0 A) (hI : Inv K A) (hR : aR G) (h_s : R64 s) (h_i : R32 i) (hd : 80 ≤ d) : Ct κ ML_leaf d 16 128 [VR 1, VL s, VI i, VR 189] (Wm G) (wP G (A) (leafP s i).1 (w64 (leafP s i).2)) noX := by
  refine Ct_ofH hκ kL_leaf.1 (by decide) (Nat.le_of_ble_eq_true rfl) (ls := [some (VR 1), some (VL s), none, some (VI i), some (VR 189), none]) rfl (fun μ => ?_)
  have h1 := c_xLeaf (κ := κ) (d := 70) hκ hC hI hR h_s h_i (by omega)
  refine V_ex sL_leaf_0 (by rfl) (by exact trivial) ?_
  refine V_callVH (M := ML_leaf) (N := MX11_leaf) dL_leaf_6 lRL_55 kX11_leaf rfl rfl rfl h1 rfl rfl (Nat.le_of_ble_eq_true rfl) (fit_rm (by omega)) ⟨Nat.le_of_ble_eq_true rfl, Nat.le_of_ble_eq_true rfl⟩ (fun v Ω' hp => ?_) (fun E Ω' hx => ?_)
  · obtain ⟨hok, rfl, G', s', rfl, hC', hf⟩ := hp
    refine V_w64 ?_
    refine V_ex sL_leaf_9 (by simp only [Option.toList, List.cons_append, List.nil_append, exN, ex1, gI, gL, gR, pI, pL, pR, lget, lset1, lset2, kl, b2I, b2L, nob, ob32, ob64, xGet, xPut, xLen, xLd, xLdR, xSt, obA, true_and, and_true, and_self, eq_self, Nat.reduceEqDiff, Nat.zero_ne_one, reduceIte, Nat.reduceLeDiff, and_false, false_and, show LF.1 189 = some (.inr (1, 1)) from rfl, upd2_eq, Int.reduceToNat, Int.toNat_natCast]; rfl) (by simp only [ob, obA]; first | exact ⟨w32_R _, by decide, by decide⟩ | exact ⟨by decide, by decide⟩ | (refine ⟨?_, ?_⟩ <;> first | exact w32_R _ | decide)) ?_
    refine V_goto dL_leaf_10 (tgt := 21) (by decide) ?_
    refine V_ex sL_leaf_21 (by rfl) (by exact trivial) ?_
    exact V_iret dL_leaf_22 rfl ⟨Nat.le_of_ble_eq_true rfl, Nat.le_of_ble_eq_true rfl⟩ ⟨by rw [hok], Or.inl hok, (G'.1, upd2 G'.2.1 189 0 (w64 (leafP s i).2), G'.2.2), s', rfl, RC_L hC', hf.w, fun _ => uuL⟩
  · obtain ⟨hk2, G', s', rfl, hC', hf⟩ := hx
    rcases hk2 with ⟨hk, rfl⟩ | ⟨hk, rfl⟩
    · skip
      refine ⟨13, ⟨[], ⟨0, 10, 13, 18⟩, [⟨0, 10, 17, 13⟩], NSE, rfl, by decide, rfl, by decide, by decide +kernel, by decide +kernel, fun z hz => nomatch hz⟩, fun q => ?_⟩
      refine V_ex sL_leaf_13 (by rfl) (by exact trivial) ?_
      exact V_iret dL_leaf_16 rfl ⟨Nat.le_of_ble_eq_true rfl, Nat.le_of_ble_eq_true rfl⟩ ⟨by rw [hk], Or.inr (Or.inl hk), G', s', rfl, hC', hf.c, fun h => by rw [hk] at h; cases h⟩
    · skip
      refine ⟨17, ⟨[⟨0, 10, 13, 18⟩], ⟨0, 10, 17, 13⟩, [], IAE, rfl, by decide, rfl, by decide, by decide +kernel, by decide +kernel, fun z hz => by rw [List.mem_singleton.mp hz]; exact Or.inr ⟨by decide, NSE, by decide +kernel, hB⟩⟩, fun q => ?_⟩
      refine V_ex sL_leaf_17 (by rfl) (by exact trivial) ?_
      exact V_iret dL_leaf_20 rfl ⟨Nat.le_of_ble_eq_true rfl, Nat.le_of_ble_eq_true rfl⟩ ⟨by rw [hk], Or.inr (Or.inr hk), G', s', rfl, hC', hf.c, fun h => by rw [hk] at h; cases h⟩
set_option maxRecDepth 100000 in
set_option maxHeartbeats 4000000 in
set_option maxRecDepth 100000 in
set_option maxHeartbeats 4000000 in
theorem c_wSeveral {κ : Kx} (hκ : KOK κ) (hB : HB κ) {d s0 : Nat} {K s k i : Int} {A : Ab} {G : Wd} (hC : RC G s0 A) (hI : Inv K A) (hR : aR G) (h_s : R64 s) (h_k : R32 k) (h_i : R32 i) (hd : 80 ≤ d) : Ct κ ML_several d 16 128 [VR 1, VL s, VI k, VI i, VR 189] (Wm G) (wP G (A) (sevP s k i).1 (w64 (sevP s k i).2)) noX := by
  refine Ct_ofH hκ kL_several.1 (by decide) (Nat.le_of_ble_eq_true rfl) (ls := [some (VR 1), some (VL s), none, some (VI k), some (VI i), some (VR 189), none]) rfl (fun μ => ?_)
  have h1 := c_xSeveral (κ := κ) (d := 70) hκ hC hI hR h_s h_k h_i (by omega)
  refine V_ex sL_several_0 (by rfl) (by exact trivial) ?_
  refine V_callVH (M := ML_several) (N := MX11_several) dL_several_8 lRL_58 kX11_several rfl rfl rfl h1 rfl rfl (Nat.le_of_ble_eq_true rfl) (fit_rm (by omega)) ⟨Nat.le_of_ble_eq_true rfl, Nat.le_of_ble_eq_true rfl⟩ (fun v Ω' hp => ?_) (fun E Ω' hx => ?_)
  · obtain ⟨hok, rfl, G', s', rfl, hC', hf⟩ := hp
    refine V_w64 ?_
    refine V_ex sL_several_11 (by simp only [Option.toList, List.cons_append, List.nil_append, exN, ex1, gI, gL, gR, pI, pL, pR, lget, lset1, lset2, kl, b2I, b2L, nob, ob32, ob64, xGet, xPut, xLen, xLd, xLdR, xSt, obA, true_and, and_true, and_self, eq_self, Nat.reduceEqDiff, Nat.zero_ne_one, reduceIte, Nat.reduceLeDiff, and_false, false_and, show LF.1 189 = some (.inr (1, 1)) from rfl, upd2_eq, Int.reduceToNat, Int.toNat_natCast]; rfl) (by simp only [ob, obA]; first | exact ⟨w32_R _, by decide, by decide⟩ | exact ⟨by decide, by decide⟩ | (refine ⟨?_, ?_⟩ <;> first | exact w32_R _ | decide)) ?_
    refine V_goto dL_several_12 (tgt := 23) (by decide) ?_
    refine V_ex sL_several_23 (by rfl) (by exact trivial) ?_
    exact V_iret dL_several_24 rfl ⟨Nat.le_of_ble_eq_true rfl, Nat.le_of_ble_eq_true rfl⟩ ⟨by rw [hok], Or.inl hok, (G'.1, upd2 G'.2.1 189 0 (w64 (sevP s k i).2), G'.2.2), s', rfl, RC_L hC', hf.w, fun _ => uuL⟩
  · obtain ⟨hk2, G', s', rfl, hC', hf⟩ := hx
    rcases hk2 with ⟨hk, rfl⟩ | ⟨hk, rfl⟩
    · skip
      refine ⟨15, ⟨[], ⟨0, 12, 15, 18⟩, [⟨0, 12, 19, 13⟩], NSE, rfl, by decide, rfl, by decide, by decide +kernel, by decide +kernel, fun z hz => nomatch hz⟩, fun q => ?_⟩
      refine V_ex sL_several_15 (by rfl) (by exact trivial) ?_
      exact V_iret dL_several_18 rfl ⟨Nat.le_of_ble_eq_true rfl, Nat.le_of_ble_eq_true rfl⟩ ⟨by rw [hk], Or.inr (Or.inl hk), G', s', rfl, hC', hf.c, fun h => by rw [hk] at h; cases h⟩
    · skip
      refine ⟨19, ⟨[⟨0, 12, 15, 18⟩], ⟨0, 12, 19, 13⟩, [], IAE, rfl, by decide, rfl, by decide, by decide +kernel, by decide +kernel, fun z hz => by rw [List.mem_singleton.mp hz]; exact Or.inr ⟨by decide, NSE, by decide +kernel, hB⟩⟩, fun q => ?_⟩
      refine V_ex sL_several_19 (by rfl) (by exact trivial) ?_
      exact V_iret dL_several_22 rfl ⟨Nat.le_of_ble_eq_true rfl, Nat.le_of_ble_eq_true rfl⟩ ⟨by rw [hk], Or.inr (Or.inr hk), G', s', rfl, hC', hf.c, fun h => by rw [hk] at h; cases h⟩
set_option maxRecDepth 100000 in
set_option maxHeartbeats 4000000 in
set_option maxRecDepth 100000 in
set_option maxHeartbeats 4000000 in
theorem c_wWays {κ : Kx} (hκ : KOK κ) (hB : HB κ) {d s0 : Nat} {K s k n : Int} {A : Ab} {G : Wd} (hC : RC G s0 A) (hI : Inv K A) (hR : aR G) (h_s : R64 s) (h_k : R32 k) (h_n : R32 n) (hd : 80 ≤ d) : Ct κ ML_ways d 16 128 [VR 1, VL s, VI k, VI n, VR 189] (Wm G) (wP G (A) (waysP s k n).1 (w64 (waysP s k n).2)) noX := by
  refine Ct_ofH hκ kL_ways.1 (by decide) (Nat.le_of_ble_eq_true rfl) (ls := [some (VR 1), some (VL s), none, some (VI k), some (VI n), some (VR 189), none]) rfl (fun μ => ?_)
  have h1 := c_xWays (κ := κ) (d := 70) hκ hC hI hR h_s h_k h_n (by omega)
  refine V_ex sL_ways_0 (by rfl) (by exact trivial) ?_
  refine V_callVH (M := ML_ways) (N := MX11_ways) dL_ways_8 lRL_62 kX11_ways rfl rfl rfl h1 rfl rfl (Nat.le_of_ble_eq_true rfl) (fit_rm (by omega)) ⟨Nat.le_of_ble_eq_true rfl, Nat.le_of_ble_eq_true rfl⟩ (fun v Ω' hp => ?_) (fun E Ω' hx => ?_)
  · obtain ⟨hok, rfl, G', s', rfl, hC', hf⟩ := hp
    refine V_w64 ?_
    refine V_ex sL_ways_11 (by simp only [Option.toList, List.cons_append, List.nil_append, exN, ex1, gI, gL, gR, pI, pL, pR, lget, lset1, lset2, kl, b2I, b2L, nob, ob32, ob64, xGet, xPut, xLen, xLd, xLdR, xSt, obA, true_and, and_true, and_self, eq_self, Nat.reduceEqDiff, Nat.zero_ne_one, reduceIte, Nat.reduceLeDiff, and_false, false_and, show LF.1 189 = some (.inr (1, 1)) from rfl, upd2_eq, Int.reduceToNat, Int.toNat_natCast]; rfl) (by simp only [ob, obA]; first | exact ⟨w32_R _, by decide, by decide⟩ | exact ⟨by decide, by decide⟩ | (refine ⟨?_, ?_⟩ <;> first | exact w32_R _ | decide)) ?_
    refine V_goto dL_ways_12 (tgt := 19) (by decide) ?_
    refine V_ex sL_ways_19 (by rfl) (by exact trivial) ?_
    exact V_iret dL_ways_20 rfl ⟨Nat.le_of_ble_eq_true rfl, Nat.le_of_ble_eq_true rfl⟩ ⟨by rw [hok], Or.inl hok, (G'.1, upd2 G'.2.1 189 0 (w64 (waysP s k n).2), G'.2.2), s', rfl, RC_L hC', hf.w, fun _ => uuL⟩
  · obtain ⟨hk, rfl, G', s', rfl, hC', hf⟩ := hx
    refine ⟨15, ⟨[], ⟨0, 12, 15, 13⟩, [], IAE, rfl, by decide, rfl, by decide, by decide +kernel, by decide +kernel, fun z hz => nomatch hz⟩, fun q => ?_⟩
    refine V_ex sL_ways_15 (by rfl) (by exact trivial) ?_
    exact V_iret dL_ways_18 rfl ⟨Nat.le_of_ble_eq_true rfl, Nat.le_of_ble_eq_true rfl⟩ ⟨by rw [hk], Or.inr (Or.inl hk), G', s', rfl, hC', hf.c, fun h => by rw [hk] at h; cases h⟩
set_option maxRecDepth 100000 in
set_option maxHeartbeats 4000000 in
set_option maxRecDepth 100000 in
set_option maxHeartbeats 4000000 in
theorem c_wSewn {κ : Kx} (hκ : KOK κ) (hB : HB κ) {d s0 : Nat} {K s : Int} {A : Ab} {G : Wd} (hC : RC G s0 A) (hI : Inv K A) (hR : aR G) (h_s : R64 s) (hd : 80 ≤ d) : Ct κ ML_sewn d 16 128 [VR 1, VL s, VR 189] (Wm G) (wP G (A) (sewnP s).1 (w64 (sewnP s).2)) noX := by
  refine Ct_ofH hκ kL_sewn.1 (by decide) (Nat.le_of_ble_eq_true rfl) (ls := [some (VR 1), some (VL s), none, some (VR 189), none]) rfl (fun μ => ?_)
  have h1 := c_xSewn (κ := κ) (d := 70) hκ hC hI hR h_s (by omega)
  refine V_ex sL_sewn_0 (by rfl) (by exact trivial) ?_
  refine V_callVH (M := ML_sewn) (N := MX11_sewn) dL_sewn_4 lRL_65 kX11_sewn rfl rfl rfl h1 rfl rfl (Nat.le_of_ble_eq_true rfl) (fit_rm (by omega)) ⟨Nat.le_of_ble_eq_true rfl, Nat.le_of_ble_eq_true rfl⟩ (fun v Ω' hp => ?_) (fun E Ω' hx => ?_)
  · obtain ⟨hok, rfl, G', s', rfl, hC', hf⟩ := hp
    refine V_w64 ?_
    refine V_ex sL_sewn_7 (by simp only [Option.toList, List.cons_append, List.nil_append, exN, ex1, gI, gL, gR, pI, pL, pR, lget, lset1, lset2, kl, b2I, b2L, nob, ob32, ob64, xGet, xPut, xLen, xLd, xLdR, xSt, obA, true_and, and_true, and_self, eq_self, Nat.reduceEqDiff, Nat.zero_ne_one, reduceIte, Nat.reduceLeDiff, and_false, false_and, show LF.1 189 = some (.inr (1, 1)) from rfl, upd2_eq, Int.reduceToNat, Int.toNat_natCast]; rfl) (by simp only [ob, obA]; first | exact ⟨w32_R _, by decide, by decide⟩ | exact ⟨by decide, by decide⟩ | (refine ⟨?_, ?_⟩ <;> first | exact w32_R _ | decide)) ?_
    refine V_goto dL_sewn_8 (tgt := 15) (by decide) ?_
    refine V_ex sL_sewn_15 (by rfl) (by exact trivial) ?_
    exact V_iret dL_sewn_16 rfl ⟨Nat.le_of_ble_eq_true rfl, Nat.le_of_ble_eq_true rfl⟩ ⟨by rw [hok], Or.inl hok, (G'.1, upd2 G'.2.1 189 0 (w64 (sewnP s).2), G'.2.2), s', rfl, RC_L hC', hf.w, fun _ => uuL⟩
  · obtain ⟨hk, rfl, G', s', rfl, hC', hf⟩ := hx
    refine ⟨11, ⟨[], ⟨0, 8, 11, 13⟩, [], IAE, rfl, by decide, rfl, by decide, by decide +kernel, by decide +kernel, fun z hz => nomatch hz⟩, fun q => ?_⟩
    refine V_ex sL_sewn_11 (by rfl) (by exact trivial) ?_
    exact V_iret dL_sewn_14 rfl ⟨Nat.le_of_ble_eq_true rfl, Nat.le_of_ble_eq_true rfl⟩ ⟨by rw [hk], Or.inr (Or.inl hk), G', s', rfl, hC', hf.c, fun h => by rw [hk] at h; cases h⟩
set_option maxRecDepth 100000 in
set_option maxHeartbeats 4000000 in
set_option maxRecDepth 100000 in
set_option maxHeartbeats 4000000 in
theorem c_wStreet {κ : Kx} (hκ : KOK κ) (hB : HB κ) {d s0 : Nat} {K s e w : Int} {A : Ab} {G : Wd} (hC : RC G s0 A) (hI : Inv K A) (hR : aR G) (h_s : R64 s) (h_e : R32 e) (h_w : R32 w) (hd : 80 ≤ d) : Ct κ ML_street d 16 128 [VR 1, VL s, VI e, VI w, VR 189] (Wm G) (wP G (A) (streetP s e w).1 (w64 (streetP s e w).2)) noX := by
  refine Ct_ofH hκ kL_street.1 (by decide) (Nat.le_of_ble_eq_true rfl) (ls := [some (VR 1), some (VL s), none, some (VI e), some (VI w), some (VR 189), none]) rfl (fun μ => ?_)
  have h1 := c_xStreet (κ := κ) (d := 70) hκ hC hI hR h_s h_e h_w (by omega)
  refine V_ex sL_street_0 (by rfl) (by exact trivial) ?_
  refine V_callVH (M := ML_street) (N := MX11_street) dL_street_8 lRL_69 kX11_street rfl rfl rfl h1 rfl rfl (Nat.le_of_ble_eq_true rfl) (fit_rm (by omega)) ⟨Nat.le_of_ble_eq_true rfl, Nat.le_of_ble_eq_true rfl⟩ (fun v Ω' hp => ?_) (fun E Ω' hx => ?_)
  · obtain ⟨hok, rfl, G', s', rfl, hC', hf⟩ := hp
    refine V_w64 ?_
    refine V_ex sL_street_11 (by simp only [Option.toList, List.cons_append, List.nil_append, exN, ex1, gI, gL, gR, pI, pL, pR, lget, lset1, lset2, kl, b2I, b2L, nob, ob32, ob64, xGet, xPut, xLen, xLd, xLdR, xSt, obA, true_and, and_true, and_self, eq_self, Nat.reduceEqDiff, Nat.zero_ne_one, reduceIte, Nat.reduceLeDiff, and_false, false_and, show LF.1 189 = some (.inr (1, 1)) from rfl, upd2_eq, Int.reduceToNat, Int.toNat_natCast]; rfl) (by simp only [ob, obA]; first | exact ⟨w32_R _, by decide, by decide⟩ | exact ⟨by decide, by decide⟩ | (refine ⟨?_, ?_⟩ <;> first | exact w32_R _ | decide)) ?_
    refine V_goto dL_street_12 (tgt := 23) (by decide) ?_
    refine V_ex sL_street_23 (by rfl) (by exact trivial) ?_
    exact V_iret dL_street_24 rfl ⟨Nat.le_of_ble_eq_true rfl, Nat.le_of_ble_eq_true rfl⟩ ⟨by rw [hok], Or.inl hok, (G'.1, upd2 G'.2.1 189 0 (w64 (streetP s e w).2), G'.2.2), s', rfl, RC_L hC', hf.w, fun _ => uuL⟩
  · obtain ⟨hk2, G', s', rfl, hC', hf⟩ := hx
    rcases hk2 with ⟨hk, rfl⟩ | ⟨hk, rfl⟩
    · skip
      refine ⟨15, ⟨[], ⟨0, 12, 15, 18⟩, [⟨0, 12, 19, 13⟩], NSE, rfl, by decide, rfl, by decide, by decide +kernel, by decide +kernel, fun z hz => nomatch hz⟩, fun q => ?_⟩
      refine V_ex sL_street_15 (by rfl) (by exact trivial) ?_
      exact V_iret dL_street_18 rfl ⟨Nat.le_of_ble_eq_true rfl, Nat.le_of_ble_eq_true rfl⟩ ⟨by rw [hk], Or.inr (Or.inl hk), G', s', rfl, hC', hf.c, fun h => by rw [hk] at h; cases h⟩
    · skip
      refine ⟨19, ⟨[⟨0, 12, 15, 18⟩], ⟨0, 12, 19, 13⟩, [], IAE, rfl, by decide, rfl, by decide, by decide +kernel, by decide +kernel, fun z hz => by rw [List.mem_singleton.mp hz]; exact Or.inr ⟨by decide, NSE, by decide +kernel, hB⟩⟩, fun q => ?_⟩
      refine V_ex sL_street_19 (by rfl) (by exact trivial) ?_
      exact V_iret dL_street_22 rfl ⟨Nat.le_of_ble_eq_true rfl, Nat.le_of_ble_eq_true rfl⟩ ⟨by rw [hk], Or.inr (Or.inr hk), G', s', rfl, hC', hf.c, fun h => by rw [hk] at h; cases h⟩
