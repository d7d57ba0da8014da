/-! TornLeaves: image, restore -/
theorem evC_copy {G : Wd} {e f : Nat} {v : Ev} (h : evC G f v) (hef : f + 7 ≤ e ∨ e + 7 ≤ f) : evC (evCopy G e f) e v := by
  obtain ⟨h1, h2, h3, h4, h5, h6, h7, h8⟩ := h
  have n1 : (G.1 f 3).toNat = v.1.length := by rw [h1]; exact Int.toNat_natCast _
  have n2 : (G.1 f 9).toNat = v.2.2.1.length := by rw [h6]; exact Int.toNat_natCast _
  unfold evC evCopy copyT
  refine ⟨?_, fun i hi => ⟨?_, ?_, ?_⟩, ?_, ?_, fun q => ?_, ?_, fun i hi => ⟨?_, ?_⟩, fun i hi => ?_⟩
  · simpa using h1
  · simpa [n1, hi] using (h2 i hi).1
  · simpa [n1, hi] using (h2 i hi).2.1
  · simpa [n1, hi] using (h2 i hi).2.2
  · simpa using h3
  · simpa using h4
  · simpa using h5 q
  · simpa using h6
  · simpa [n2, hi] using (h7 i hi).1
  · simpa [n2, hi] using (h7 i hi).2
  · simpa [hi] using h8 i hi
theorem evCopy_ne {G : Wd} {e f x : Nat} (h : ¬ (e ≤ x ∧ x ≤ e + 6)) : (evCopy G e f).1 x = G.1 x := by
  funext j
  unfold evCopy
  simp only
  rw [if_neg (by omega), if_neg (by omega), if_neg (by omega), if_neg (by omega), if_neg (by omega), if_neg (by omega), if_neg (by omega)]
theorem lsCopy_is {G : Wd} {a b : Nat} {g : List Int} (h : lsIs G b g) : lsIs (lsCopy G a b) a g := by
  refine ⟨by unfold lsCopy; rw [iu]; exact h.1, fun z => ?_⟩
  rw [← h.2 z]
  have e : ∀ j, (lsCopy G a b).1 (a + 1) j = copyT 63 (G.1 (b + 1)) (G.1 (a + 1)) j := fun j => by
    unfold lsCopy
    rw [iv (by omega)]
    simp
  unfold lsHas
  rw [e]
  by_cases c : 0 ≤ z ∧ z < 2016
  · rw [copyT, if_pos (by omega)]
  · simp only [c, decide_false, Bool.false_and]
theorem lsIs_c {G G' : Wd} {a : Nat} {g : List Int} (h : lsIs G a g) (h1 : G'.1 a = G.1 a) (h2 : G'.1 (a + 1) = G.1 (a + 1)) : lsIs G' a g := lsIs_congr h (by rw [h1]) h2
theorem goneTo_ne {s oa ob : Nat} : ∀ (k i : Nat) (G : Wd) (x : Nat), (∀ m, i ≤ m → m < i + k → x ≠ s + 7 + 5 * m + oa ∧ x ≠ s + 7 + 5 * m + oa + 1) → (goneTo s oa ob k i G).1 x = G.1 x := by
  intro k
  induction k with
  | zero => intro i G x _; rfl
  | succ k ih =>
    intro i G x h
    rw [goneTo, ih (i + 1) _ x (fun m a b => h m (by omega) (by omega))]
    funext j
    have := h i (by omega) (by omega)
    exact lsCopy_ne j this.1 this.2
theorem goneTo_2 {s oa ob : Nat} : ∀ (k i : Nat) (G : Wd), (goneTo s oa ob k i G).2 = G.2 := by
  intro k
  induction k with
  | zero => intro i G; rfl
  | succ k ih => intro i G; rw [goneTo, ih]; rfl
theorem goneTo_is {s oa ob : Nat} (ho : (oa = 1 ∧ ob = 3) ∨ (oa = 3 ∧ ob = 1)) {g : List Int} {m : Nat} : ∀ (k i : Nat) (G : Wd), i ≤ m → m < i + k → lsIs G (s + 7 + 5 * m + ob) g → lsIs (goneTo s oa ob k i G) (s + 7 + 5 * m + oa) g := by
  intro k
  induction k with
  | zero => intro i G a b; omega
  | succ k ih =>
    intro i G a b h
    rw [goneTo]
    by_cases c : m = i
    · subst c
      refine lsIs_c (lsCopy_is h) (goneTo_ne k (m + 1) _ _ (fun y p q => by omega)) (goneTo_ne k (m + 1) _ _ (fun y p q => by omega))
    · refine ih (i + 1) _ (by omega) (by omega) (lsIs_c h ?_ ?_)
      · funext j; exact lsCopy_ne j (by omega) (by omega)
      · funext j; exact lsCopy_ne j (by omega) (by omega)
theorem bkJ_gs {S : Sh} {gs : List (List Int)} (hl : gs.length = S.1.length) {j : Nat} (hj : j < S.1.length) : (setGs S gs).1.length = S.1.length ∧ bkJ (setGs S gs) j = bkGo' (bkJ S j) (gs.getD j []) := by
  have h1 : (setGs S gs).1.length = S.1.length := by simp [setGs, hl]
  refine ⟨h1, ?_⟩
  rw [bkJ_in (by omega), bkJ_in hj]
  simp only [setGs, List.getElem_zipWith]
  rw [List.getD_eq_getElem?_getD, List.getElem?_eq_getElem (by omega)]
  rfl
theorem setGs_len {S : Sh} {gs : List (List Int)} (hl : gs.length = S.1.length) : (setGs S gs).1.length = S.1.length := by simp [setGs, hl]
theorem cacheC_gs {G : Wd} {S : Sh} {gs : List (List Int)} (hl : gs.length = S.1.length) (h : cacheC G S) : cacheC G (setGs S gs) := fun k hk h6 p hp1 hp2 => by
  rw [setGs_len hl] at hk
  have e := (bkJ_gs hl hk).2
  rw [e] at h6 ⊢
  exact h k hk h6 p hp1 hp2
/-- all that ShC speaks of, but what is gone -/
theorem ShC_k {G G' : Wd} {s : Nat} {S : Sh} {gs : List (List Int)} (h : ShC G s S) (hc : S.2.1.length ≤ 8) (hb : S.1.length ≤ 6) (hl : gs.length = S.1.length) (f : ∀ x, s ≤ x → x ≤ s + 52 → (x ≤ s + 7 ∨ s + 37 ≤ x ∨ ∃ j, x = s + 7 + 5 * j) → G'.1 x = G.1 x) (hg : ∀ j, j < S.1.length → lsIs G' (s + 7 + 5 * j + 1) (gs.getD j [])) : ShC G' s (setGs S gs) := by
  obtain ⟨h1, h2, h3, h4, h5, h6, h7, h8⟩ := h
  have hlg := setGs_len hl
  refine ⟨by rw [f s (by omega) (by omega) (by omega), hlg]; exact h1, fun j hj => ?_, by rw [f s (by omega) (by omega) (by omega)]; exact h3, fun j (hj : j < S.2.1.length) => cpC_congr (h4 j hj) (by rw [f _ (by omega) (by omega) (by omega)]) (f _ (by omega) (by omega) (by omega)) (f _ (by omega) (by omega) (by omega)), fun j (hj : j < S.2.2.1.length) => by rw [f _ (by omega) (by omega) (by omega)]; exact h5 j hj, by rw [f s (by omega) (by omega) (by omega)]; exact h6, by rw [f s (by omega) (by omega) (by omega)]; exact h7, fun k hk => by rw [f _ (by omega) (by omega) (by omega)]; exact h8 k hk⟩
  have hj2 : j < S.1.length := by rw [hlg] at hj; exact hj
  have e := (bkJ_in hj).symm.trans (bkJ_gs hl hj2).2
  rw [e]
  obtain ⟨b1, b2, b3, b4, b5⟩ := h2 j hj2
  rw [← bkJ_in hj2] at b1 b2 b3 b4
  have e0 := f (s + 7 + 5 * j) (by omega) (by omega) (Or.inr (Or.inr ⟨j, rfl⟩))
  exact ⟨by rw [e0]; exact b1, by rw [e0]; exact b2, by rw [e0]; exact b3, fun q => by rw [e0]; exact b4 q, hg j hj2⟩
theorem setGs_own {S : Sh} : setGs S (S.1.map (fun b => b.2.2.2.2.2)) = S := by
  unfold setGs
  refine Prod.ext (List.ext_getElem (by simp) (fun i h1 h2 => ?_)) rfl
  simp
def imageA (A : Ab) : Ab := (A.1, A.2.1, some (A.1.1.map (fun b => b.2.2.2.2.2), A.2.1), A.2.2.2)
theorem own_gs {S : Sh} {j : Nat} (hj : j < S.1.length) : (S.1.map (fun b => b.2.2.2.2.2)).getD j [] = (bkJ S j).2.2.2.2.2 := by
  rw [bkJ_in hj, List.getD_eq_getElem?_getD, List.getElem?_map, List.getElem?_eq_getElem hj]; rfl
set_option maxRecDepth 100000 in
set_option maxHeartbeats 4000000 in
theorem c_xImage {κ : Kx} (hκ : KOK κ) {d s : Nat} {K : Int} {A : Ab} {G : Wd} (hC : RC G s A) (hI : Inv K A) (hR : aR G) (hd : 20 ≤ d) : Ct κ MX11_image d 16 128 [VR 1] (Wm G) (cP G (imageA A) True none) noX := by
  refine Ct_of hκ kX11_image.1 rfl (Nat.le_of_ble_eq_true rfl) (ls := [some (VR 1)]) rfl (fun μ => ?_)
  have h0 := hC
  obtain ⟨⟨r1, r2, r3⟩, r4, r5, r6, r7, r8, r9, r10, r11, r12, r13, r14, r15, r16⟩ := hC
  have hs8 : s = 8 ∨ s = 61 := r3
  have hT := T_360 hI
  have h20 := hI.2.1.2.2.1.1
  have hb6 := hI.1.1
  have e1 : (evCopy G 121 114).1 s = G.1 s := evCopy_ne (by omega)
  have el : ((evCopy G 121 114).1 s 1).toNat = A.1.1.length := by rw [e1, r4.1]; exact Int.toNat_natCast _
  have hK := c_keepGone (κ := κ) hκ (d := 3) (s := s) (G := evCopy G 121 114) r3 (by rw [e1, r4.1]; omega) (by omega)
  rw [el] at hK
  have nx : ∀ x, ¬ (121 ≤ x ∧ x ≤ 127) → (∀ m, m < 6 → x ≠ s + 10 + 5 * m ∧ x ≠ s + 11 + 5 * m) → (goneTo s 3 1 A.1.1.length 0 (evCopy G 121 114)).1 x = G.1 x := fun x a b => by
    rw [goneTo_ne _ _ _ _ (fun m p q => by have := b m (by omega); omega), evCopy_ne (by omega)]
  have hg2 : (goneTo s 3 1 A.1.1.length 0 (evCopy G 121 114)).2 = G.2 := goneTo_2 _ _ _
  have hev : ∀ x, 121 ≤ x → x ≤ 127 → (goneTo s 3 1 A.1.1.length 0 (evCopy G 121 114)).1 x = (evCopy G 121 114).1 x := fun x a b => goneTo_ne _ _ _ _ (fun m p q => by omega)
  have hgi : ∀ j, j < A.1.1.length → lsIs (goneTo s 3 1 A.1.1.length 0 (evCopy G 121 114)) (s + 10 + 5 * j) (bkJ A.1 j).2.2.2.2.2 := fun j hj => by
    have kg := (r4.2.1 j hj).2.2.2.2
    rw [← bkJ_in hj] at kg
    have := goneTo_is (s := s) (oa := 3) (ob := 1) (Or.inr ⟨rfl, rfl⟩) (m := j) A.1.1.length 0 (evCopy G 121 114) (by omega) (by omega) (lsIs_c kg (evCopy_ne (by omega)) (evCopy_ne (by omega)))
    rw [show s + 10 + 5 * j = s + 7 + 5 * j + 3 by omega]; exact this
  have e3 := evC_c (G' := goneTo s 3 1 A.1.1.length 0 (evCopy G 121 114)) (evC_copy r6 (e := 121) (Or.inl (by omega))) (fun x a b => hev x a (by omega))
  generalize hG2 : goneTo s 3 1 A.1.1.length 0 (evCopy G 121 114) = G2 at *
  have n8 : ∀ x, x ≠ 1 → (uI G2 1 8 1).1 x = G2.1 x := fun x a => by funext j; exact iv (by omega)
  have hC1 : RC (uI G2 1 8 1) s (imageA A) := by
    have ha : ∀ x, x ≠ 1 → ¬ (121 ≤ x ∧ x ≤ 127) → (∀ m, m < 6 → x ≠ s + 10 + 5 * m ∧ x ≠ s + 11 + 5 * m) → (uI G2 1 8 1).1 x = G.1 x := fun x a b c => (n8 x a).trans (nx x b c)
    have h1j : ∀ j, j ≠ 8 → (uI G2 1 8 1).1 1 j = G.1 1 j := fun j q => by rw [iv (by omega), nx _ (by omega) (fun m _ => by omega)]
    refine ⟨⟨by show G2.2.2 1 3 = s; rw [hg2]; exact r1, by show G2.2.2 1 4 = 69 - s; rw [hg2]; exact r2, r3⟩, ?_, cacheC_c r5 (ha _ (by omega) (by omega) (fun m _ => by omega)), evC_c r6 (fun x a b => ha x (by omega) (by omega) (fun m _ => by omega)), by rw [iu]; rfl, ⟨evC_c e3 (fun x a b => n8 x (by omega)), fun j (hj : j < A.1.1.length) => ?_⟩, by rw [h1j _ (by omega)]; exact r9, by rw [h1j _ (by omega)]; exact r10, fun j hj => by rw [ha _ (by omega) (by omega) (fun m _ => by omega)]; exact r11 j hj, ?_, ?_, fun j => by rw [ha _ (by omega) (by omega) (fun m _ => by omega)]; exact r14 j, fun j => by rw [ha _ (by omega) (by omega) (fun m _ => by omega)]; exact r15 j, fun j => by rw [ha _ (by omega) (by omega) (fun m _ => by omega)]; exact r16 j⟩
    · have := ShC_k (G' := uI G2 1 8 1) (gs := A.1.1.map (fun b => b.2.2.2.2.2)) r4 hI.1.2.2.1 hb6 (by simp) (fun x a b c => ha x (by omega) (by omega) (fun m hm => by rcases c with c | c | ⟨j, c⟩ <;> omega)) (fun j hj => by
        rw [own_gs hj, bkJ_in hj]
        exact lsIs_c (r4.2.1 j hj).2.2.2.2 (ha _ (by omega) (by omega) (fun m hm => by omega)) (ha _ (by omega) (by omega) (fun m hm => by omega)))
      rw [setGs_own] at this
      exact this
    · show lsIs _ _ ((A.1.1.map (fun b => b.2.2.2.2.2)).getD j [])
      rw [own_gs hj]
      exact lsIs_c (hgi j hj) (n8 _ (by omega)) (n8 _ (by omega))
    · rw [ha 135 (by omega) (by omega) (fun m _ => by omega)]; exact kpO_c r12 (ha _ (by omega) (by omega) (fun m _ => by omega))
    · rw [ha 140 (by omega) (by omega) (fun m _ => by omega)]; exact kpO_c r13 (ha _ (by omega) (by omega) (fun m _ => by omega))
  refine V_ex sX11_image_0 (by simp only [Option.toList, List.cons_append, List.nil_append, exN, ex1, gI, gL, gR, pI, pL, pR, lget, lset1, lset2, kl, b2I, b2L, nob, ob32, ob64, xGet, xPut, xLen, xLd, xLdR, xSt, obA, true_and, and_true, and_self, eq_self, Nat.reduceEqDiff, Nat.zero_ne_one, reduceIte, Nat.reduceLeDiff, and_false, false_and, show skd 10 7 = 2 from rfl, show skd 10 6 = 2 from rfl, show LF.1 1 = some (.inl 10) from rfl, show LF.2 1 7 = some 121 from rfl, show LF.2 1 6 = some 114 from rfl, upd2_eq, Int.reduceToNat, Int.toNat_natCast]; rfl) (by first | exact trivial | exact Or.inr rfl | exact Or.inl rfl | (simp only [ob, obA, R32, R64] at *; omega) | (simp only [ob, obA, R32, R64] at *; and_intros <;> omega) | (simp [ob, obA])) ?_
  refine V_callV (M := MX11_image) (N := MX2_takeFrom) dX11_image_8 lRX11_466 kX2_takeFrom rfl (rfl) rfl (c_evTakeFrom (d := 3) hκ (e := 121) (f := 114) (Or.inr rfl) (Or.inl rfl) (by decide) (by rw [r6.1]; omega) (by rw [r6.2.2.2.2.2.1]; omega) (by omega)) rfl rfl (Nat.le_of_ble_eq_true rfl) (fit_rm (by omega)) (⟨Nat.le_of_ble_eq_true rfl, Nat.le_of_ble_eq_true rfl⟩) (fun v Ω' hp => ?_) (fun _ _ h => h.elim)
  obtain ⟨rfl, rfl⟩ := hp
  refine V_ex sX11_image_11 (by simp only [Option.toList, List.cons_append, List.nil_append, exN, ex1, gI, gL, gR, pI, pL, pR, lget, lset1, lset2, kl, b2I, b2L, nob, ob32, ob64, xGet, xPut, xLen, xLd, xLdR, xSt, obA, true_and, and_true, and_self, eq_self, Nat.reduceEqDiff, Nat.zero_ne_one, reduceIte, Nat.reduceLeDiff, and_false, false_and, show skd 10 3 = 3 from rfl, show LF.1 1 = some (.inl 10) from rfl, show (evCopy G 121 114).2.2 1 3 = s from r1, upd2_eq, Int.reduceToNat, Int.toNat_natCast]; rfl) (by first | exact trivial | exact Or.inr rfl | exact Or.inl rfl | (simp only [ob, obA, R32, R64] at *; omega) | (simp only [ob, obA, R32, R64] at *; and_intros <;> omega) | (simp [ob, obA])) ?_
  refine V_callV (M := MX11_image) (N := MX7_keepGone) dX11_image_15 lRX11_470 kX7_keepGone rfl ((sh_facts r3).1) rfl (hK) rfl rfl (Nat.le_of_ble_eq_true rfl) (fit_rm (by omega)) (⟨Nat.le_of_ble_eq_true rfl, Nat.le_of_ble_eq_true rfl⟩) (fun v Ω' hp => ?_) (fun _ _ h => h.elim)
  obtain ⟨rfl, rfl⟩ := hp
  refine V_ex sX11_image_18 (by simp only [Option.toList, List.cons_append, List.nil_append, exN, ex1, gI, gL, gR, pI, pL, pR, lget, lset1, lset2, kl, b2I, b2L, nob, ob32, ob64, xGet, xPut, xLen, xLd, xLdR, xSt, obA, true_and, and_true, and_self, eq_self, Nat.reduceEqDiff, Nat.zero_ne_one, reduceIte, Nat.reduceLeDiff, and_false, false_and, show skd 10 8 = 4 from rfl, show LF.1 1 = some (.inl 10) from rfl, upd2_eq, Int.reduceToNat, Int.toNat_natCast]; rfl) (by first | exact trivial | exact Or.inr rfl | exact Or.inl rfl | (simp only [ob, obA, R32, R64] at *; omega) | (simp only [ob, obA, R32, R64] at *; and_intros <;> omega) | (simp [ob, obA])) ?_
  refine V_vret dX11_image_23 rfl (by decide) ⟨trivial, rfl, _, s, rfl, hC1, FrC.of (fun x a => by rw [n8 x (by omega)]; exact nx x (by omega) (fun m _ => by omega)) hg2⟩
def restoreA (A : Ab) : Ab := match A.2.2.1 with
  | none => A
  | some i => (setGs A.1 i.1, i.2, A.2.2)
set_option maxRecDepth 100000 in
set_option maxHeartbeats 4000000 in
theorem c_xRestore {κ : Kx} (hκ : KOK κ) {d s : Nat} {K : Int} {A : Ab} {G : Wd} (hC : RC G s A) (hI : Inv K A) (hR : aR G) (hd : 20 ≤ d) : Ct κ MX11_restore d 16 128 [VR 1] (Wm G) (cP G (restoreA A) True (some (VI (b2i A.2.2.1.isSome)))) noX := by
  refine Ct_of hκ kX11_restore.1 rfl (Nat.le_of_ble_eq_true rfl) (ls := [some (VR 1)]) rfl (fun μ => ?_)
  have h0 := hC
  obtain ⟨⟨r1, r2, r3⟩, r4, r5, r6, r7, r8, r9, r10, r11, r12, r13, r14, r15, r16⟩ := hC
  have hs8 : s = 8 ∨ s = 61 := r3
  have hb6 := hI.1.1
  cases ho : A.2.2.1 with
  | none =>
    have e : restoreA A = A := by unfold restoreA; rw [ho]
    rw [ho] at r7
    have r7' : G.1 1 8 = 0 := r7
    refine V_ex sX11_restore_0 (by simp only [Option.toList, List.cons_append, List.nil_append, exN, ex1, gI, gL, gR, pI, pL, pR, lget, lset1, lset2, kl, b2I, b2L, nob, ob32, ob64, xGet, xPut, xLen, xLd, xLdR, xSt, obA, true_and, and_true, and_self, eq_self, Nat.reduceEqDiff, Nat.zero_ne_one, reduceIte, Nat.reduceLeDiff, and_false, false_and, show skd 10 8 = 4 from rfl, show LF.1 1 = some (.inl 10) from rfl, r7', upd2_eq, Int.reduceToNat, Int.toNat_natCast]; rfl) (by first | exact trivial | exact Or.inr rfl | exact Or.inl rfl | (simp only [ob, obA, R32, R64] at *; omega) | (simp only [ob, obA, R32, R64] at *; and_intros <;> omega) | (simp [ob, obA])) ?_
    refine V_ifne dX11_restore_4 (tgt := 9) (by decide) (by simp only [R32, R64] at *; omega) (fun q4 => ?_) (fun q4 => ?_)
    · omega
    · refine V_ex sX11_restore_7 (by rfl) (by first | exact trivial | exact Or.inr rfl | exact Or.inl rfl | (simp only [ob, obA, R32, R64] at *; omega) | (simp only [ob, obA, R32, R64] at *; and_intros <;> omega) | (simp [ob, obA])) ?_
      refine V_zret dX11_restore_8 rfl (by first | exact Or.inl rfl | exact Or.inr rfl | exact b2i_01 _) (by decide) (by rw [e]; exact cP_0 h0 trivial rfl)
  | some i =>
    have e : restoreA A = (setGs A.1 i.1, i.2, A.2.2) := by unfold restoreA; rw [ho]
    rw [ho] at r7 r8
    have r7' : G.1 1 8 = 1 := r7
    obtain ⟨q1, q2, q3⟩ := hI.2.2.1 i ho
    obtain ⟨u1, u2⟩ := r8
    have hI' : Inv K (setGs A.1 i.1, i.2, A.2.2) := ⟨q2, q3, fun k hk => by
      rw [ho] at hk
      cases hk
      have hss : setGs (setGs A.1 i.1) i.1 = setGs A.1 i.1 := by
        unfold setGs
        exact Prod.ext (List.ext_getElem (by simp) (fun n h1 h2 => by simp)) rfl
      exact ⟨q1.trans (setGs_len q1).symm, by rw [hss]; exact q2, by rw [hss]; exact q3⟩, hI.2.2.2⟩
    have hT := T_360 hI'
    have h20 := q3.2.2.1.1
    have e1 : (evCopy G 114 121).1 s = G.1 s := evCopy_ne (by omega)
    have el : ((evCopy G 114 121).1 s 1).toNat = A.1.1.length := by rw [e1, r4.1]; exact Int.toNat_natCast _
    have hK := c_restoreGone (κ := κ) hκ (d := 3) (s := s) (G := evCopy G 114 121) r3 (by rw [e1, r4.1]; omega) (by omega)
    rw [el] at hK
    have nx : ∀ x, ¬ (114 ≤ x ∧ x ≤ 120) → (∀ m, m < 6 → x ≠ s + 8 + 5 * m ∧ x ≠ s + 9 + 5 * m) → (goneTo s 1 3 A.1.1.length 0 (evCopy G 114 121)).1 x = G.1 x := fun x a b => by
      rw [goneTo_ne _ _ _ _ (fun m p q => by have := b m (by omega); omega), evCopy_ne (by omega)]
    have hg2 : (goneTo s 1 3 A.1.1.length 0 (evCopy G 114 121)).2 = G.2 := goneTo_2 _ _ _
    have hev : ∀ x, 114 ≤ x → x ≤ 120 → (goneTo s 1 3 A.1.1.length 0 (evCopy G 114 121)).1 x = (evCopy G 114 121).1 x := fun x a b => goneTo_ne _ _ _ _ (fun m p q => by omega)
    have hgi : ∀ j, j < A.1.1.length → lsIs (goneTo s 1 3 A.1.1.length 0 (evCopy G 114 121)) (s + 7 + 5 * j + 1) (i.1.getD j []) := fun j hj => by
      have kg := u2 j hj
      rw [show s + 10 + 5 * j = s + 7 + 5 * j + 3 by omega] at kg
      exact goneTo_is (s := s) (oa := 1) (ob := 3) (Or.inl ⟨rfl, rfl⟩) (m := j) A.1.1.length 0 (evCopy G 114 121) (by omega) (by omega) (lsIs_c kg (evCopy_ne (by omega)) (evCopy_ne (by omega)))
    have e3 := evC_c (G' := goneTo s 1 3 A.1.1.length 0 (evCopy G 114 121)) (evC_copy u1 (e := 114) (Or.inr (by omega))) (fun x a b => hev x a (by omega))
    generalize hG2 : goneTo s 1 3 A.1.1.length 0 (evCopy G 114 121) = G2 at *
    have hC1 : RC G2 s (setGs A.1 i.1, i.2, A.2.2) := by
      refine ⟨⟨by rw [hg2]; exact r1, by rw [hg2]; exact r2, r3⟩, ShC_k (gs := i.1) r4 hI.1.2.2.1 hb6 q1 (fun x a b c => nx x (by omega) (fun m hm => by rcases c with c | c | ⟨j, c⟩ <;> omega)) hgi, cacheC_gs q1 (cacheC_c r5 (nx _ (by omega) (fun m _ => by omega))), e3, by rw [nx _ (by omega) (fun m _ => by omega)]; show G.1 1 8 = b2i A.2.2.1.isSome; rw [ho]; exact r7, ?_, by rw [nx _ (by omega) (fun m _ => by omega)]; exact r9, by rw [nx _ (by omega) (fun m _ => by omega)]; exact r10, fun j hj => by rw [nx _ (by omega) (fun m _ => by omega)]; exact r11 j hj, ?_, ?_, fun j => by rw [nx _ (by omega) (fun m _ => by omega)]; exact r14 j, fun j => by rw [nx _ (by omega) (fun m _ => by omega)]; exact r15 j, fun j => by rw [nx _ (by omega) (fun m _ => by omega)]; exact r16 j⟩
      · show imC G2 s (setGs A.1 i.1) A.2.2.1
        rw [ho]
        refine ⟨evC_c u1 (fun x a b => nx x (by omega) (fun m _ => by omega)), fun j hj => ?_⟩
        rw [setGs_len q1] at hj
        exact lsIs_c (u2 j hj) (nx _ (by omega) (fun m _ => by omega)) (nx _ (by omega) (fun m _ => by omega))
      · rw [nx 135 (by omega) (fun m _ => by omega)]; exact kpO_c r12 (nx _ (by omega) (fun m _ => by omega))
      · rw [nx 140 (by omega) (fun m _ => by omega)]; exact kpO_c r13 (nx _ (by omega) (fun m _ => by omega))
    refine V_ex sX11_restore_0 (by simp only [Option.toList, List.cons_append, List.nil_append, exN, ex1, gI, gL, gR, pI, pL, pR, lget, lset1, lset2, kl, b2I, b2L, nob, ob32, ob64, xGet, xPut, xLen, xLd, xLdR, xSt, obA, true_and, and_true, and_self, eq_self, Nat.reduceEqDiff, Nat.zero_ne_one, reduceIte, Nat.reduceLeDiff, and_false, false_and, show skd 10 8 = 4 from rfl, show LF.1 1 = some (.inl 10) from rfl, r7', upd2_eq, Int.reduceToNat, Int.toNat_natCast]; rfl) (by first | exact trivial | exact Or.inr rfl | exact Or.inl rfl | (simp only [ob, obA, R32, R64] at *; omega) | (simp only [ob, obA, R32, R64] at *; and_intros <;> omega) | (simp [ob, obA])) ?_
    refine V_ifne dX11_restore_4 (tgt := 9) (by decide) (by simp only [R32, R64] at *; omega) (fun q4 => ?_) (fun q4 => ?_)
    · refine V_ex sX11_restore_9 (by simp only [Option.toList, List.cons_append, List.nil_append, exN, ex1, gI, gL, gR, pI, pL, pR, lget, lset1, lset2, kl, b2I, b2L, nob, ob32, ob64, xGet, xPut, xLen, xLd, xLdR, xSt, obA, true_and, and_true, and_self, eq_self, Nat.reduceEqDiff, Nat.zero_ne_one, reduceIte, Nat.reduceLeDiff, and_false, false_and, show skd 10 6 = 2 from rfl, show skd 10 7 = 2 from rfl, show LF.1 1 = some (.inl 10) from rfl, show LF.2 1 6 = some 114 from rfl, show LF.2 1 7 = some 121 from rfl, r7', upd2_eq, Int.reduceToNat, Int.toNat_natCast]; rfl) (by first | exact trivial | exact Or.inr rfl | exact Or.inl rfl | (simp only [ob, obA, R32, R64] at *; omega) | (simp only [ob, obA, R32, R64] at *; and_intros <;> omega) | (simp [ob, obA])) ?_
      refine V_callV (M := MX11_restore) (N := MX2_takeFrom) dX11_restore_17 lRX11_466 kX2_takeFrom rfl (rfl) rfl (c_evTakeFrom (d := 3) hκ (e := 114) (f := 121) (Or.inl rfl) (Or.inr rfl) (by decide) (by rw [u1.1]; have hT' : i.2.1.length ≤ 360 := hT; omega) (by rw [u1.2.2.2.2.2.1]; omega) (by omega)) rfl rfl (Nat.le_of_ble_eq_true rfl) (fit_rm (by omega)) (⟨Nat.le_of_ble_eq_true rfl, Nat.le_of_ble_eq_true rfl⟩) (fun v Ω' hp => ?_) (fun _ _ h => h.elim)
      obtain ⟨rfl, rfl⟩ := hp
      refine V_ex sX11_restore_20 (by simp only [Option.toList, List.cons_append, List.nil_append, exN, ex1, gI, gL, gR, pI, pL, pR, lget, lset1, lset2, kl, b2I, b2L, nob, ob32, ob64, xGet, xPut, xLen, xLd, xLdR, xSt, obA, true_and, and_true, and_self, eq_self, Nat.reduceEqDiff, Nat.zero_ne_one, reduceIte, Nat.reduceLeDiff, and_false, false_and, show skd 10 3 = 3 from rfl, show LF.1 1 = some (.inl 10) from rfl, show (evCopy G 114 121).2.2 1 3 = s from r1, r7', upd2_eq, Int.reduceToNat, Int.toNat_natCast]; rfl) (by first | exact trivial | exact Or.inr rfl | exact Or.inl rfl | (simp only [ob, obA, R32, R64] at *; omega) | (simp only [ob, obA, R32, R64] at *; and_intros <;> omega) | (simp [ob, obA])) ?_
      refine V_callV (M := MX11_restore) (N := MX7_restoreGone) dX11_restore_24 lRX11_473 kX7_restoreGone rfl ((sh_facts r3).1) rfl (hK) rfl rfl (Nat.le_of_ble_eq_true rfl) (fit_rm (by omega)) (⟨Nat.le_of_ble_eq_true rfl, Nat.le_of_ble_eq_true rfl⟩) (fun v Ω' hp => ?_) (fun _ _ h => h.elim)
      obtain ⟨rfl, rfl⟩ := hp
      refine V_ex sX11_restore_27 (by rfl) (by first | exact trivial | exact Or.inr rfl | exact Or.inl rfl | (simp only [ob, obA, R32, R64] at *; omega) | (simp only [ob, obA, R32, R64] at *; and_intros <;> omega) | (simp [ob, obA])) ?_
      refine V_zret dX11_restore_28 rfl (by first | exact Or.inl rfl | exact Or.inr rfl | exact b2i_01 _) (by decide) (by rw [e]; exact ⟨trivial, rfl, _, s, rfl, hC1, FrC.of (fun x a => nx x (by omega) (fun m _ => by omega)) hg2⟩)
    · omega
