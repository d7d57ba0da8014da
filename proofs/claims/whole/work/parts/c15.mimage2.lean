/-! THE MODEL: image and restore as calls; thrown -/
theorem fl_360 {K : Int} {A : Ab} (hI : Inv K A) : (flT A.2.1.1).length ≤ 360 := by
  rcases Nat.lt_or_ge 0 A.1.1.length with h | h
  · have h1 := (T_lt hI h).2
    have h2 : (bkJ A.1 0).2.2.2.2.2.length ≤ 60 := by rw [bkJ_in h]; exact (hI.1.2.1 _ (List.getElem_mem h)).2.2.2.2.2.2.2.1
    omega
  · have h1 := tnI_len hI.2.1.1
    have h4 : (allG A.1).length = 0 := by unfold allG; rw [show A.1.1.length = 0 by omega]; rfl
    omega
theorem img_5s {G : Wd} {j : Nat} (h : j ≠ 2) (h2 : j < 60 ∨ 66 < j) : (imgW G).1 145 j = G.1 145 j := by
  rw [img_5, if_neg (by omega), if_neg (by omega), if_neg (by omega), if_neg (by omega), if_neg (by omega), if_neg (by omega), if_neg (by omega), if_neg (by omega)]
theorem RM_image {K : Int} {G : Wd} {A : Ab} (h : RM G A) (hI : Inv K A) : RM (imgW G) (imageA A) ∧ FrM G (imgW G) ∧ (imgW G).1 145 2 = 0 := by
  obtain ⟨r1, ⟨v1, v2, v3, v4, v5, v6, v7, v8⟩, r3, r4, r5, r6, r7, r8, r9⟩ := h
  have hf := fl_360 hI
  have h20 := hI.2.1.2.2.1.1
  have hb6 := hI.1.1
  dsimp only [mcN] at v1 v2 v3 v4 v5 v6 v7 v8
  have x5 : ∀ j, j ≠ 2 → (j < 60 ∨ 66 < j) → (imgW G).1 145 j = G.1 145 j := fun j a b => img_5s a b
  have xx : ∀ x j, x ≠ 145 → (x < 181 ∨ 188 < x) → (imgW G).1 x j = G.1 x j := fun x j a b => img_x a b
  refine ⟨⟨mS0_c r1 (fun x a b => funext fun j => xx x j (by omega) (by omega)), ?_, ?_, ⟨?_, fun j (hj : j < A.1.1.length) => ?_⟩, ?_, ?_, fun j hj => ?_, ?_, ?_⟩, ⟨fun x a => funext fun j => xx x j (by omega) (by omega), fun x a => funext fun j => ?_, img_r⟩, ?_⟩
  · show evM (imgW G) mcN A.1 A.2.1
    refine ⟨?_, fun i hi => ?_, ?_, ?_, fun q => ?_, ?_, fun i hi => ?_, fun i hi => ?_⟩ <;> dsimp only [mcN]
    · rw [x5 34 (by omega) (by omega)]; exact v1
    · rw [xx 165 i (by omega) (by omega), xx 166 i (by omega) (by omega), xx 167 i (by omega) (by omega)]; exact v2 i hi
    · rw [x5 35 (by omega) (by omega)]; exact v3
    · rw [x5 36 (by omega) (by omega)]; exact v4
    · rw [x5 37 (by omega) (by omega), x5 38 (by omega) (by omega), img_l, if_neg (by omega)]; exact v5 q
    · rw [x5 48 (by omega) (by omega)]; exact v6
    · rw [xx 172 i (by omega) (by omega), xx 173 i (by omega) (by omega)]; exact v7 i hi
    · rw [xx 161 i (by omega) (by omega)]; exact v8 i hi
  · show (imgW G).1 145 60 = 1
    rw [img_5]; rfl
  · show evM (imgW G) mcT A.1 A.2.1
    refine ⟨?_, fun i hi => ?_, ?_, ?_, fun q => ?_, ?_, fun i hi => ?_, fun i hi => ?_⟩ <;> dsimp only [mcT]
    · rw [img_5]; exact v1
    · obtain ⟨a, b, c⟩ := v2 i hi
      rw [img_183, if_pos (by omega), img_184, if_pos (by omega), img_188, if_pos (by omega), c, iAnd_b]
      exact ⟨a, b, rfl⟩
    · rw [img_5]; exact v3
    · rw [img_5]; exact v4
    · obtain ⟨a, b, c⟩ := v5 q
      refine ⟨?_, ?_, ?_⟩
      · rw [img_5]; exact a
      · rw [img_5]; exact b
      · rw [img_l, if_pos ⟨rfl, rfl⟩]; exact c
    · rw [img_5]; exact v6
    · rw [img_185, if_pos (by omega), img_186, if_pos (by omega)]; exact v7 i hi
    · rw [img_187, if_pos hi]; exact v8 i hi
  · obtain ⟨m1, m2, m3, m4, m5, m6⟩ := mS0_b r1 hj
    have h60 := (gone_ok hI.1 hj).2.1
    have e := own_gs hj
    show (imgW G).1 182 j = (((A.1.1.map (fun b => b.2.2.2.2.2)).getD j []).length : Nat) ∧ ∀ k (h : k < ((A.1.1.map (fun b => b.2.2.2.2.2)).getD j []).length), (imgW G).1 181 (60 * j + k) = ((A.1.1.map (fun b => b.2.2.2.2.2)).getD j [])[k]'h
    generalize (A.1.1.map (fun b => b.2.2.2.2.2)).getD j [] = l at *
    subst e
    exact ⟨by rw [img_182, if_pos (by omega)]; exact m5, fun k hk => by rw [img_181, if_pos (by omega)]; exact m6 k hk⟩
  · rw [x5 28 (by omega) (by omega)]; exact r5
  · rw [x5 18 (by omega) (by omega)]; exact r6
  · rw [xx 162 j (by omega) (by omega)]; exact r7 j hj
  · rw [x5 57 (by omega) (by omega)]; exact kpO_c r8 (funext fun j => xx 176 j (by omega) (by omega))
  · rw [x5 58 (by omega) (by omega)]; exact kpO_c r9 (funext fun j => xx 178 j (by omega) (by omega))
  · rw [img_l, if_neg (by omega)]
  · rw [img_5]; rfl
set_option maxRecDepth 100000 in
set_option maxHeartbeats 4000000 in
theorem c_mxImage {κ : Kx} (hκ : KOK κ) {d : Nat} {K : Int} {A : Ab} {G : Wd} (hC : RM G A) (hI : Inv K A) (hd : 20 ≤ d) : Ct κ MX12_image d 0 0 [VR 145] (Wm G) (mdP G (imageA A) none 0) noX := by
  refine Ct_of hκ kX12_image.1 rfl (Nat.le_of_ble_eq_true rfl) (ls := [some (VR 145)]) rfl (fun μ => ?_)
  obtain ⟨z1, z2, z3⟩ := RM_image hC hI
  refine V_ex sX12_image_0 (by simp only [Option.toList, List.cons_append, List.nil_append, exN, ex1, gI, gL, gR, pI, pL, pR, lget, lset1, lset2, kl, b2I, b2L, nob, ob32, ob64, xGet, xPut, xLen, xLd, xLdR, xSt, obA, true_and, and_true, and_self, eq_self, Nat.reduceEqDiff, Nat.zero_ne_one, reduceIte, Nat.reduceLeDiff, and_false, false_and, show skd 11 2 = 0 from rfl, show skd 11 60 = 4 from rfl, show skd 11 34 = 0 from rfl, show skd 11 62 = 0 from rfl, show skd 11 48 = 0 from rfl, show skd 11 61 = 0 from rfl, show skd 11 72 = 2 from rfl, show skd 11 46 = 2 from rfl, show LF.1 145 = some (.inl 11) from rfl, show LF.2 145 72 = some 185 from rfl, show LF.2 145 46 = some 172 from rfl, upd2_eq, Int.reduceToNat, Int.toNat_natCast]; rfl) (by first | exact trivial | exact Or.inr rfl | exact Or.inl rfl | (simp only [ob, obA, R32, R64] at *; omega) | (simp only [ob, obA, R32, R64] at *; and_intros <;> omega) | (simp [ob, obA])) ?_
  refine V_callS (M := MX12_image) (N := MX12_be) dX12_image_34 lRX12_536 kX12_be rfl (c_mBe (d := 3) hκ (n := 20) rfl rfl (by decide) (by decide)) rfl rfl (Nat.le_of_ble_eq_true rfl) (fit_rm (by omega)) (⟨Nat.le_of_ble_eq_true rfl, Nat.le_of_ble_eq_true rfl⟩) (fun v Ω' hp => ?_) (fun _ _ h => h.elim)
  obtain ⟨rfl, rfl⟩ := hp
  refine V_ex sX12_image_37 (by simp only [Option.toList, List.cons_append, List.nil_append, exN, ex1, gI, gL, gR, pI, pL, pR, lget, lset1, lset2, kl, b2I, b2L, nob, ob32, ob64, xGet, xPut, xLen, xLd, xLdR, xSt, obA, true_and, and_true, and_self, eq_self, Nat.reduceEqDiff, Nat.zero_ne_one, reduceIte, Nat.reduceLeDiff, and_false, false_and, show skd 11 73 = 2 from rfl, show skd 11 47 = 2 from rfl, show LF.1 145 = some (.inl 11) from rfl, show LF.2 145 73 = some 186 from rfl, show LF.2 145 47 = some 173 from rfl, upd2_eq, Int.reduceToNat, Int.toNat_natCast]; rfl) (by first | exact trivial | exact Or.inr rfl | exact Or.inl rfl | (simp only [ob, obA, R32, R64] at *; omega) | (simp only [ob, obA, R32, R64] at *; and_intros <;> omega) | (simp [ob, obA])) ?_
  refine V_callS (M := MX12_image) (N := MX12_be) dX12_image_45 lRX12_536 kX12_be rfl (c_mBe (d := 3) hκ (n := 20) rfl rfl (by decide) (by decide)) rfl rfl (Nat.le_of_ble_eq_true rfl) (fit_rm (by omega)) (⟨Nat.le_of_ble_eq_true rfl, Nat.le_of_ble_eq_true rfl⟩) (fun v Ω' hp => ?_) (fun _ _ h => h.elim)
  obtain ⟨rfl, rfl⟩ := hp
  refine V_ex sX12_image_48 (by simp only [Option.toList, List.cons_append, List.nil_append, exN, ex1, gI, gL, gR, pI, pL, pR, lget, lset1, lset2, kl, b2I, b2L, nob, ob32, ob64, xGet, xPut, xLen, xLd, xLdR, xSt, obA, true_and, and_true, and_self, eq_self, Nat.reduceEqDiff, Nat.zero_ne_one, reduceIte, Nat.reduceLeDiff, and_false, false_and, show skd 11 35 = 0 from rfl, show skd 11 63 = 0 from rfl, show skd 11 36 = 0 from rfl, show skd 11 64 = 0 from rfl, show skd 11 37 = 0 from rfl, show skd 11 65 = 0 from rfl, show skd 11 38 = 0 from rfl, show skd 11 66 = 0 from rfl, show skd 11 39 = 1 from rfl, show skd 11 67 = 1 from rfl, show skd 11 68 = 2 from rfl, show skd 11 8 = 2 from rfl, show LF.1 145 = some (.inl 11) from rfl, show LF.2 145 68 = some 181 from rfl, show LF.2 145 8 = some 153 from rfl, upd2_eq, Int.reduceToNat, Int.toNat_natCast]; rfl) (by first | exact trivial | exact Or.inr rfl | exact Or.inl rfl | (simp only [ob, obA, R32, R64] at *; omega) | (simp only [ob, obA, R32, R64] at *; and_intros <;> omega) | (simp [ob, obA])) ?_
  refine V_callS (M := MX12_image) (N := MX12_be) dX12_image_96 lRX12_536 kX12_be rfl (c_mBe (d := 3) hκ (n := 720) rfl rfl (by decide) (by decide)) rfl rfl (Nat.le_of_ble_eq_true rfl) (fit_rm (by omega)) (⟨Nat.le_of_ble_eq_true rfl, Nat.le_of_ble_eq_true rfl⟩) (fun v Ω' hp => ?_) (fun _ _ h => h.elim)
  obtain ⟨rfl, rfl⟩ := hp
  refine V_ex sX12_image_99 (by simp only [Option.toList, List.cons_append, List.nil_append, exN, ex1, gI, gL, gR, pI, pL, pR, lget, lset1, lset2, kl, b2I, b2L, nob, ob32, ob64, xGet, xPut, xLen, xLd, xLdR, xSt, obA, true_and, and_true, and_self, eq_self, Nat.reduceEqDiff, Nat.zero_ne_one, reduceIte, Nat.reduceLeDiff, and_false, false_and, show skd 11 69 = 2 from rfl, show skd 11 7 = 2 from rfl, show LF.1 145 = some (.inl 11) from rfl, show LF.2 145 69 = some 182 from rfl, show LF.2 145 7 = some 152 from rfl, upd2_eq, Int.reduceToNat, Int.toNat_natCast]; rfl) (by first | exact trivial | exact Or.inr rfl | exact Or.inl rfl | (simp only [ob, obA, R32, R64] at *; omega) | (simp only [ob, obA, R32, R64] at *; and_intros <;> omega) | (simp [ob, obA])) ?_
  refine V_callS (M := MX12_image) (N := MX12_be) dX12_image_107 lRX12_536 kX12_be rfl (c_mBe (d := 3) hκ (n := 12) rfl rfl (by decide) (by decide)) rfl rfl (Nat.le_of_ble_eq_true rfl) (fit_rm (by omega)) (⟨Nat.le_of_ble_eq_true rfl, Nat.le_of_ble_eq_true rfl⟩) (fun v Ω' hp => ?_) (fun _ _ h => h.elim)
  obtain ⟨rfl, rfl⟩ := hp
  refine V_ex sX12_image_110 (by simp only [Option.toList, List.cons_append, List.nil_append, exN, ex1, gI, gL, gR, pI, pL, pR, lget, lset1, lset2, kl, b2I, b2L, nob, ob32, ob64, xGet, xPut, xLen, xLd, xLdR, xSt, obA, true_and, and_true, and_self, eq_self, Nat.reduceEqDiff, Nat.zero_ne_one, reduceIte, Nat.reduceLeDiff, and_false, false_and, show skd 11 70 = 2 from rfl, show skd 11 31 = 2 from rfl, show LF.1 145 = some (.inl 11) from rfl, show LF.2 145 70 = some 183 from rfl, show LF.2 145 31 = some 165 from rfl, upd2_eq, Int.reduceToNat, Int.toNat_natCast]; rfl) (by first | exact trivial | exact Or.inr rfl | exact Or.inl rfl | (simp only [ob, obA, R32, R64] at *; omega) | (simp only [ob, obA, R32, R64] at *; and_intros <;> omega) | (simp [ob, obA])) ?_
  refine V_callS (M := MX12_image) (N := MX12_be) dX12_image_118 lRX12_536 kX12_be rfl (c_mBe (d := 3) hκ (n := 720) rfl rfl (by decide) (by decide)) rfl rfl (Nat.le_of_ble_eq_true rfl) (fit_rm (by omega)) (⟨Nat.le_of_ble_eq_true rfl, Nat.le_of_ble_eq_true rfl⟩) (fun v Ω' hp => ?_) (fun _ _ h => h.elim)
  obtain ⟨rfl, rfl⟩ := hp
  refine V_ex sX12_image_121 (by simp only [Option.toList, List.cons_append, List.nil_append, exN, ex1, gI, gL, gR, pI, pL, pR, lget, lset1, lset2, kl, b2I, b2L, nob, ob32, ob64, xGet, xPut, xLen, xLd, xLdR, xSt, obA, true_and, and_true, and_self, eq_self, Nat.reduceEqDiff, Nat.zero_ne_one, reduceIte, Nat.reduceLeDiff, and_false, false_and, show skd 11 71 = 2 from rfl, show skd 11 32 = 2 from rfl, show LF.1 145 = some (.inl 11) from rfl, show LF.2 145 71 = some 184 from rfl, show LF.2 145 32 = some 166 from rfl, upd2_eq, Int.reduceToNat, Int.toNat_natCast]; rfl) (by first | exact trivial | exact Or.inr rfl | exact Or.inl rfl | (simp only [ob, obA, R32, R64] at *; omega) | (simp only [ob, obA, R32, R64] at *; and_intros <;> omega) | (simp [ob, obA])) ?_
  refine V_callS (M := MX12_image) (N := MX12_be) dX12_image_129 lRX12_536 kX12_be rfl (c_mBe (d := 3) hκ (n := 720) rfl rfl (by decide) (by decide)) rfl rfl (Nat.le_of_ble_eq_true rfl) (fit_rm (by omega)) (⟨Nat.le_of_ble_eq_true rfl, Nat.le_of_ble_eq_true rfl⟩) (fun v Ω' hp => ?_) (fun _ _ h => h.elim)
  obtain ⟨rfl, rfl⟩ := hp
  refine V_ex sX12_image_132 (by simp only [Option.toList, List.cons_append, List.nil_append, exN, ex1, gI, gL, gR, pI, pL, pR, lget, lset1, lset2, kl, b2I, b2L, nob, ob32, ob64, xGet, xPut, xLen, xLd, xLdR, xSt, obA, true_and, and_true, and_self, eq_self, Nat.reduceEqDiff, Nat.zero_ne_one, reduceIte, Nat.reduceLeDiff, and_false, false_and, show skd 11 75 = 2 from rfl, show skd 11 33 = 2 from rfl, show LF.1 145 = some (.inl 11) from rfl, show LF.2 145 75 = some 188 from rfl, show LF.2 145 33 = some 167 from rfl, upd2_eq, Int.reduceToNat, Int.toNat_natCast]; rfl) (by first | exact trivial | exact Or.inr rfl | exact Or.inl rfl | (simp only [ob, obA, R32, R64] at *; omega) | (simp only [ob, obA, R32, R64] at *; and_intros <;> omega) | (simp [ob, obA])) ?_
  refine V_callS (M := MX12_image) (N := MX12_beAs) dX12_image_140 lRX12_574 kX12_beAs rfl (c_mBeAn (d := 3) hκ (n := 720) rfl rfl (by decide) (by decide)) rfl rfl (Nat.le_of_ble_eq_true rfl) (fit_rm (by omega)) (⟨Nat.le_of_ble_eq_true rfl, Nat.le_of_ble_eq_true rfl⟩) (fun v Ω' hp => ?_) (fun _ _ h => h.elim)
  obtain ⟨rfl, rfl⟩ := hp
  refine V_ex sX12_image_143 (by simp only [Option.toList, List.cons_append, List.nil_append, exN, ex1, gI, gL, gR, pI, pL, pR, lget, lset1, lset2, kl, b2I, b2L, nob, ob32, ob64, xGet, xPut, xLen, xLd, xLdR, xSt, obA, true_and, and_true, and_self, eq_self, Nat.reduceEqDiff, Nat.zero_ne_one, reduceIte, Nat.reduceLeDiff, and_false, false_and, show skd 11 74 = 2 from rfl, show skd 11 16 = 2 from rfl, show LF.1 145 = some (.inl 11) from rfl, show LF.2 145 74 = some 187 from rfl, show LF.2 145 16 = some 161 from rfl, upd2_eq, Int.reduceToNat, Int.toNat_natCast]; rfl) (by first | exact trivial | exact Or.inr rfl | exact Or.inl rfl | (simp only [ob, obA, R32, R64] at *; omega) | (simp only [ob, obA, R32, R64] at *; and_intros <;> omega) | (simp [ob, obA])) ?_
  refine V_callS (M := MX12_image) (N := MX12_be) dX12_image_151 lRX12_536 kX12_be rfl (c_mBe (d := 3) hκ (n := 4) rfl rfl (by decide) (by decide)) rfl rfl (Nat.le_of_ble_eq_true rfl) (fit_rm (by omega)) (⟨Nat.le_of_ble_eq_true rfl, Nat.le_of_ble_eq_true rfl⟩) (fun v Ω' hp => ?_) (fun _ _ h => h.elim)
  obtain ⟨rfl, rfl⟩ := hp
  refine V_vret dX12_image_154 rfl (by decide) ⟨rfl, imgW G, rfl, z1, z2, z3⟩
theorem res_5s {G : Wd} {j : Nat} (h : j ≠ 2) (h2 : j < 34 ∨ (38 < j ∧ j ≠ 48)) : (resW G).1 145 j = G.1 145 j := by
  rw [res_5, if_neg (by omega), if_neg (by omega), if_neg (by omega), if_neg (by omega), if_neg (by omega), if_neg (by omega), if_neg (by omega)]
theorem sumF_gs {S : Sh} {gs : List (List Int)} (hl : gs.length = S.1.length) {k : Nat} (n : Nat) : sumF (cdS (setGs S gs)) (bkJ (setGs S gs) k) n = sumF (cdS S) (bkJ S k) n := by
  rcases Nat.lt_or_ge k S.1.length with c | c
  · rw [(bkJ_gs hl c).2]; exact sumF_gb n
  · have e : bkJ (setGs S gs) k = bkJ S k := by
      unfold bkJ
      rw [List.getD_eq_getElem?_getD, List.getD_eq_getElem?_getD, List.getElem?_eq_none (by rw [setGs_len hl]; exact c), List.getElem?_eq_none c]
    rw [e]; rfl
theorem RM_restore {K : Int} {G : Wd} {A : Ab} {i : List (List Int) × Ev} (h : RM G A) (hI : Inv K A) (ho : A.2.2.1 = some i) : RM (resW G) (restoreA A) ∧ FrM G (resW G) ∧ (resW G).1 145 2 = 0 := by
  have hI' := Inv_restore hI
  have e : restoreA A = (setGs A.1 i.1, i.2, A.2.2) := by unfold restoreA; rw [ho]
  rw [e] at hI' ⊢
  have hl := (hI.2.2.1 i ho).1
  have hf := fl_360 hI'
  have h20 := hI'.2.1.2.2.1.1
  have hb6 := hI.1.1
  obtain ⟨r1, r2, r3, r4, r5, r6, r7, r8, r9⟩ := h
  rw [ho] at r4 r3
  obtain ⟨⟨v1, v2, v3, v4, v5, v6, v7, v8⟩, hg⟩ := r4
  dsimp only [mcT] at v1 v2 v3 v4 v5 v6 v7 v8
  simp only at hf h20
  have x5 : ∀ j, j ≠ 2 → (j < 34 ∨ (38 < j ∧ j ≠ 48)) → (resW G).1 145 j = G.1 145 j := fun j a b => res_5s a b
  have xx : ∀ x j, x ≠ 145 → (x ≠ 152 ∧ x ≠ 153 ∧ x ≠ 161 ∧ x ≠ 172 ∧ x ≠ 173) → (x < 165 ∨ 167 < x) → (resW G).1 x j = G.1 x j := fun x j a b c => res_x a b c
  refine ⟨⟨?_, ?_, ?_, ?_, ?_, ?_, fun j hj => ?_, ?_, ?_⟩, ⟨fun x a => funext fun j => xx x j (by omega) (by omega) (by omega), fun x a => funext fun j => ?_, res_r⟩, ?_⟩
  · obtain ⟨m1, m2, m3, m4, m5, m6⟩ := r1
    refine ⟨?_, fun j hj => ?_, ?_, fun j hj => ?_, fun k hk => ?_, fun k hk => ?_⟩
    · rw [xx 148 0 (by omega) (by omega) (by omega)]
      show _ = (((setGs A.1 i.1).1.length : Nat) : Int)
      rw [setGs_len hl]; exact m1
    · have hj : j < (setGs A.1 i.1).1.length := hj
      have hj0 : j < A.1.1.length := by have := setGs_len hl; omega
      have e2 : (setGs A.1 i.1).1[j]'hj = bkGo' (bkJ A.1 j) (i.1.getD j []) := by rw [← bkJ_in hj]; exact (bkJ_gs hl hj0).2
      show mBk (resW G) j ((setGs A.1 i.1).1[j]'hj)
      rw [e2]
      have hm := m2 j hj0
      rw [← bkJ_in hj0] at hm
      obtain ⟨b1, b2, b3, b4, -, -⟩ := hm
      obtain ⟨g1, g2⟩ := hg j hj0
      have h60 : (i.1.getD j []).length ≤ 60 := by
        have := (gone_ok hI'.1 (j := j) (by show j < (setGs A.1 i.1).1.length; omega)).2.1
        rw [(bkJ_gs hl hj0).2] at this
        exact this
      refine ⟨?_, ?_, ?_, fun q => ?_, ?_, fun k hk => ?_⟩
      · rw [xx 149 j (by omega) (by omega) (by omega)]; exact b1
      · rw [xx 150 j (by omega) (by omega) (by omega)]; exact b2
      · rw [xx 151 j (by omega) (by omega) (by omega)]; exact b3
      · rw [xx 158 j (by omega) (by omega) (by omega), xx 159 j (by omega) (by omega) (by omega)]; exact b4 q
      · rw [res_152, if_pos (by omega)]; exact g1
      · have hk2 : k < (i.1.getD j []).length := hk
        rw [res_153, if_pos (by omega)]; exact g2 k hk2
    · rw [xx 148 1 (by omega) (by omega) (by omega)]; exact m3
    · obtain ⟨c1, c2, c3⟩ := m4 j hj
      exact ⟨by rw [xx 154 j (by omega) (by omega) (by omega)]; exact c1, by rw [xx 155 j (by omega) (by omega) (by omega)]; exact c2, fun k hk => by rw [xx 156 _ (by omega) (by omega) (by omega)]; exact c3 k hk⟩
    · rw [xx 157 k (by omega) (by omega) (by omega)]; exact m5 k hk
    · rw [xx 160 k (by omega) (by omega) (by omega)]; exact m6 k hk
  · show evM (resW G) mcN (setGs A.1 i.1) i.2
    refine ⟨?_, fun j hj => ?_, ?_, ?_, fun q => ?_, ?_, fun j hj => ?_, fun j hj => ?_⟩ <;> dsimp only [mcN]
    · rw [res_5]; exact v1
    · obtain ⟨a, b, c⟩ := v2 j hj
      rw [res_165, if_pos (by omega), res_166, if_pos (by omega), res_167, if_pos (by omega), c, iAnd_b]
      exact ⟨a, b, rfl⟩
    · rw [res_5]; exact v3
    · rw [res_5]; exact v4
    · obtain ⟨a, b, c⟩ := v5 q
      refine ⟨?_, ?_, ?_⟩
      · rw [res_5]; exact a
      · rw [res_5]; exact b
      · rw [res_l, if_pos ⟨rfl, rfl⟩, sumF_gs hl]; exact c
    · rw [res_5]; exact v6
    · rw [res_172, if_pos (by omega), res_173, if_pos (by omega)]; exact v7 j hj
    · rw [res_161, if_pos hj]; exact v8 j hj
  · show (resW G).1 145 60 = b2i A.2.2.1.isSome
    rw [x5 60 (by omega) (by omega), ho]; exact r3
  · show imM (resW G) (setGs A.1 i.1) A.2.2.1
    rw [ho]
    refine ⟨?_, fun j (hj : j < (setGs A.1 i.1).1.length) => ?_⟩
    · show evM (resW G) mcT (setGs A.1 i.1) i.2
      refine ⟨?_, fun j hj => ?_, ?_, ?_, fun q => ?_, ?_, fun j hj => ?_, fun j hj => ?_⟩ <;> dsimp only [mcT]
      · rw [x5 62 (by omega) (by omega)]; exact v1
      · rw [xx 183 j (by omega) (by omega) (by omega), xx 184 j (by omega) (by omega) (by omega), xx 188 j (by omega) (by omega) (by omega)]; exact v2 j hj
      · rw [x5 63 (by omega) (by omega)]; exact v3
      · rw [x5 64 (by omega) (by omega)]; exact v4
      · rw [x5 65 (by omega) (by omega), x5 66 (by omega) (by omega), res_l, if_neg (by omega), sumF_gs hl]; exact v5 q
      · rw [x5 61 (by omega) (by omega)]; exact v6
      · rw [xx 185 j (by omega) (by omega) (by omega), xx 186 j (by omega) (by omega) (by omega)]; exact v7 j hj
      · rw [xx 187 j (by omega) (by omega) (by omega)]; exact v8 j hj
    · have hj0 : j < A.1.1.length := by have := setGs_len hl; omega
      obtain ⟨g1, g2⟩ := hg j hj0
      exact ⟨by rw [xx 182 j (by omega) (by omega) (by omega)]; exact g1, fun k hk => by rw [xx 181 _ (by omega) (by omega) (by omega)]; exact g2 k hk⟩
  · rw [x5 28 (by omega) (by omega)]; exact r5
  · rw [x5 18 (by omega) (by omega)]; exact r6
  · rw [xx 162 j (by omega) (by omega) (by omega)]; exact r7 j hj
  · rw [x5 57 (by omega) (by omega)]; exact kpO_c r8 (funext fun j => xx 176 j (by omega) (by omega) (by omega))
  · rw [x5 58 (by omega) (by omega)]; exact kpO_c r9 (funext fun j => xx 178 j (by omega) (by omega) (by omega))
  · rw [res_l, if_neg (by omega)]
  · rw [res_5]; rfl
set_option maxRecDepth 100000 in
set_option maxHeartbeats 4000000 in
theorem c_mxRestore {κ : Kx} (hκ : KOK κ) {d : Nat} {K : Int} {A : Ab} {G : Wd} (hC : RM G A) (hI : Inv K A) (hd : 20 ≤ d) : Ct κ MX12_restore d 0 0 [VR 145] (Wm G) (mdP G (restoreA A) (some (VI (b2i A.2.2.1.isSome))) 0) noX := by
  refine Ct_of hκ kX12_restore.1 rfl (Nat.le_of_ble_eq_true rfl) (ls := [some (VR 145)]) rfl (fun μ => ?_)
  have h60 := hC.2.2.1
  cases ho : A.2.2.1 with
  | none =>
    have e : restoreA A = A := by unfold restoreA; rw [ho]
    rw [ho] at h60
    have h6 : upd2 G.1 145 2 0 145 60 = 0 := (uv (by omega)).trans h60
    refine V_ex sX12_restore_0 (by simp only [Option.toList, List.cons_append, List.nil_append, exN, ex1, gI, gL, gR, pI, pL, pR, lget, lset1, lset2, kl, b2I, b2L, nob, ob32, ob64, xGet, xPut, xLen, xLd, xLdR, xSt, obA, true_and, and_true, and_self, eq_self, Nat.reduceEqDiff, Nat.zero_ne_one, reduceIte, Nat.reduceLeDiff, and_false, false_and, show skd 11 2 = 0 from rfl, show skd 11 60 = 4 from rfl, show LF.1 145 = some (.inl 11) from rfl, h6, upd2_eq, Int.reduceToNat, Int.toNat_natCast]; rfl) (by first | exact trivial | exact Or.inr rfl | exact Or.inl rfl | (simp only [ob, obA, R32, R64] at *; omega) | (simp only [ob, obA, R32, R64] at *; and_intros <;> omega) | (simp [ob, obA])) ?_
    refine V_ifne dX12_restore_9 (tgt := 14) (by decide) (by simp only [R32, R64] at *; omega) (fun q9 => ?_) (fun q9 => ?_)
    · omega
    · refine V_ex sX12_restore_12 (by rfl) (by first | exact trivial | exact Or.inr rfl | exact Or.inl rfl | (simp only [ob, obA, R32, R64] at *; omega) | (simp only [ob, obA, R32, R64] at *; and_intros <;> omega) | (simp [ob, obA])) ?_
      refine V_zret dX12_restore_13 rfl (by first | exact Or.inl rfl | exact Or.inr rfl | exact b2i_01 _) (by decide) (by rw [e]; exact ⟨rfl, uI G 145 2 0, rfl, RM_0 hC 0, (RM_f hC (fn0 G 0)).2, iu⟩)
  | some i =>
    obtain ⟨z1, z2, z3⟩ := RM_restore hC hI ho
    rw [ho] at h60
    have h6 : upd2 G.1 145 2 0 145 60 = 1 := (uv (by omega)).trans h60
    refine V_ex sX12_restore_0 (by simp only [Option.toList, List.cons_append, List.nil_append, exN, ex1, gI, gL, gR, pI, pL, pR, lget, lset1, lset2, kl, b2I, b2L, nob, ob32, ob64, xGet, xPut, xLen, xLd, xLdR, xSt, obA, true_and, and_true, and_self, eq_self, Nat.reduceEqDiff, Nat.zero_ne_one, reduceIte, Nat.reduceLeDiff, and_false, false_and, show skd 11 2 = 0 from rfl, show skd 11 60 = 4 from rfl, show LF.1 145 = some (.inl 11) from rfl, h6, upd2_eq, Int.reduceToNat, Int.toNat_natCast]; rfl) (by first | exact trivial | exact Or.inr rfl | exact Or.inl rfl | (simp only [ob, obA, R32, R64] at *; omega) | (simp only [ob, obA, R32, R64] at *; and_intros <;> omega) | (simp [ob, obA])) ?_
    refine V_ifne dX12_restore_9 (tgt := 14) (by decide) (by simp only [R32, R64] at *; omega) (fun q9 => ?_) (fun q9 => ?_)
    · refine V_ex sX12_restore_14 (by simp only [Option.toList, List.cons_append, List.nil_append, exN, ex1, gI, gL, gR, pI, pL, pR, lget, lset1, lset2, kl, b2I, b2L, nob, ob32, ob64, xGet, xPut, xLen, xLd, xLdR, xSt, obA, true_and, and_true, and_self, eq_self, Nat.reduceEqDiff, Nat.zero_ne_one, reduceIte, Nat.reduceLeDiff, and_false, false_and, show skd 11 62 = 0 from rfl, show skd 11 34 = 0 from rfl, show skd 11 61 = 0 from rfl, show skd 11 48 = 0 from rfl, show skd 11 46 = 2 from rfl, show skd 11 72 = 2 from rfl, show LF.1 145 = some (.inl 11) from rfl, show LF.2 145 46 = some 172 from rfl, show LF.2 145 72 = some 185 from rfl, upd2_eq, Int.reduceToNat, Int.toNat_natCast]; rfl) (by first | exact trivial | exact Or.inr rfl | exact Or.inl rfl | (simp only [ob, obA, R32, R64] at *; omega) | (simp only [ob, obA, R32, R64] at *; and_intros <;> omega) | (simp [ob, obA])) ?_
      refine V_callS (M := MX12_restore) (N := MX12_be) dX12_restore_38 lRX12_536 kX12_be rfl (c_mBe (d := 3) hκ (n := 20) rfl rfl (by decide) (by decide)) rfl rfl (Nat.le_of_ble_eq_true rfl) (fit_rm (by omega)) (⟨Nat.le_of_ble_eq_true rfl, Nat.le_of_ble_eq_true rfl⟩) (fun v Ω' hp => ?_) (fun _ _ h => h.elim)
      obtain ⟨rfl, rfl⟩ := hp
      refine V_ex sX12_restore_41 (by simp only [Option.toList, List.cons_append, List.nil_append, exN, ex1, gI, gL, gR, pI, pL, pR, lget, lset1, lset2, kl, b2I, b2L, nob, ob32, ob64, xGet, xPut, xLen, xLd, xLdR, xSt, obA, true_and, and_true, and_self, eq_self, Nat.reduceEqDiff, Nat.zero_ne_one, reduceIte, Nat.reduceLeDiff, and_false, false_and, show skd 11 47 = 2 from rfl, show skd 11 73 = 2 from rfl, show LF.1 145 = some (.inl 11) from rfl, show LF.2 145 47 = some 173 from rfl, show LF.2 145 73 = some 186 from rfl, upd2_eq, Int.reduceToNat, Int.toNat_natCast]; rfl) (by first | exact trivial | exact Or.inr rfl | exact Or.inl rfl | (simp only [ob, obA, R32, R64] at *; omega) | (simp only [ob, obA, R32, R64] at *; and_intros <;> omega) | (simp [ob, obA])) ?_
      refine V_callS (M := MX12_restore) (N := MX12_be) dX12_restore_49 lRX12_536 kX12_be rfl (c_mBe (d := 3) hκ (n := 20) rfl rfl (by decide) (by decide)) rfl rfl (Nat.le_of_ble_eq_true rfl) (fit_rm (by omega)) (⟨Nat.le_of_ble_eq_true rfl, Nat.le_of_ble_eq_true rfl⟩) (fun v Ω' hp => ?_) (fun _ _ h => h.elim)
      obtain ⟨rfl, rfl⟩ := hp
      refine V_ex sX12_restore_52 (by simp only [Option.toList, List.cons_append, List.nil_append, exN, ex1, gI, gL, gR, pI, pL, pR, lget, lset1, lset2, kl, b2I, b2L, nob, ob32, ob64, xGet, xPut, xLen, xLd, xLdR, xSt, obA, true_and, and_true, and_self, eq_self, Nat.reduceEqDiff, Nat.zero_ne_one, reduceIte, Nat.reduceLeDiff, and_false, false_and, show skd 11 63 = 0 from rfl, show skd 11 35 = 0 from rfl, show skd 11 64 = 0 from rfl, show skd 11 36 = 0 from rfl, show skd 11 65 = 0 from rfl, show skd 11 37 = 0 from rfl, show skd 11 66 = 0 from rfl, show skd 11 38 = 0 from rfl, show skd 11 67 = 1 from rfl, show skd 11 39 = 1 from rfl, show skd 11 8 = 2 from rfl, show skd 11 68 = 2 from rfl, show LF.1 145 = some (.inl 11) from rfl, show LF.2 145 8 = some 153 from rfl, show LF.2 145 68 = some 181 from rfl, upd2_eq, Int.reduceToNat, Int.toNat_natCast]; rfl) (by first | exact trivial | exact Or.inr rfl | exact Or.inl rfl | (simp only [ob, obA, R32, R64] at *; omega) | (simp only [ob, obA, R32, R64] at *; and_intros <;> omega) | (simp [ob, obA])) ?_
      refine V_callS (M := MX12_restore) (N := MX12_be) dX12_restore_100 lRX12_536 kX12_be rfl (c_mBe (d := 3) hκ (n := 720) rfl rfl (by decide) (by decide)) rfl rfl (Nat.le_of_ble_eq_true rfl) (fit_rm (by omega)) (⟨Nat.le_of_ble_eq_true rfl, Nat.le_of_ble_eq_true rfl⟩) (fun v Ω' hp => ?_) (fun _ _ h => h.elim)
      obtain ⟨rfl, rfl⟩ := hp
      refine V_ex sX12_restore_103 (by simp only [Option.toList, List.cons_append, List.nil_append, exN, ex1, gI, gL, gR, pI, pL, pR, lget, lset1, lset2, kl, b2I, b2L, nob, ob32, ob64, xGet, xPut, xLen, xLd, xLdR, xSt, obA, true_and, and_true, and_self, eq_self, Nat.reduceEqDiff, Nat.zero_ne_one, reduceIte, Nat.reduceLeDiff, and_false, false_and, show skd 11 7 = 2 from rfl, show skd 11 69 = 2 from rfl, show LF.1 145 = some (.inl 11) from rfl, show LF.2 145 7 = some 152 from rfl, show LF.2 145 69 = some 182 from rfl, upd2_eq, Int.reduceToNat, Int.toNat_natCast]; rfl) (by first | exact trivial | exact Or.inr rfl | exact Or.inl rfl | (simp only [ob, obA, R32, R64] at *; omega) | (simp only [ob, obA, R32, R64] at *; and_intros <;> omega) | (simp [ob, obA])) ?_
      refine V_callS (M := MX12_restore) (N := MX12_be) dX12_restore_111 lRX12_536 kX12_be rfl (c_mBe (d := 3) hκ (n := 12) rfl rfl (by decide) (by decide)) rfl rfl (Nat.le_of_ble_eq_true rfl) (fit_rm (by omega)) (⟨Nat.le_of_ble_eq_true rfl, Nat.le_of_ble_eq_true rfl⟩) (fun v Ω' hp => ?_) (fun _ _ h => h.elim)
      obtain ⟨rfl, rfl⟩ := hp
      refine V_ex sX12_restore_114 (by simp only [Option.toList, List.cons_append, List.nil_append, exN, ex1, gI, gL, gR, pI, pL, pR, lget, lset1, lset2, kl, b2I, b2L, nob, ob32, ob64, xGet, xPut, xLen, xLd, xLdR, xSt, obA, true_and, and_true, and_self, eq_self, Nat.reduceEqDiff, Nat.zero_ne_one, reduceIte, Nat.reduceLeDiff, and_false, false_and, show skd 11 31 = 2 from rfl, show skd 11 70 = 2 from rfl, show LF.1 145 = some (.inl 11) from rfl, show LF.2 145 31 = some 165 from rfl, show LF.2 145 70 = some 183 from rfl, upd2_eq, Int.reduceToNat, Int.toNat_natCast]; rfl) (by first | exact trivial | exact Or.inr rfl | exact Or.inl rfl | (simp only [ob, obA, R32, R64] at *; omega) | (simp only [ob, obA, R32, R64] at *; and_intros <;> omega) | (simp [ob, obA])) ?_
      refine V_callS (M := MX12_restore) (N := MX12_be) dX12_restore_122 lRX12_536 kX12_be rfl (c_mBe (d := 3) hκ (n := 720) rfl rfl (by decide) (by decide)) rfl rfl (Nat.le_of_ble_eq_true rfl) (fit_rm (by omega)) (⟨Nat.le_of_ble_eq_true rfl, Nat.le_of_ble_eq_true rfl⟩) (fun v Ω' hp => ?_) (fun _ _ h => h.elim)
      obtain ⟨rfl, rfl⟩ := hp
      refine V_ex sX12_restore_125 (by simp only [Option.toList, List.cons_append, List.nil_append, exN, ex1, gI, gL, gR, pI, pL, pR, lget, lset1, lset2, kl, b2I, b2L, nob, ob32, ob64, xGet, xPut, xLen, xLd, xLdR, xSt, obA, true_and, and_true, and_self, eq_self, Nat.reduceEqDiff, Nat.zero_ne_one, reduceIte, Nat.reduceLeDiff, and_false, false_and, show skd 11 32 = 2 from rfl, show skd 11 71 = 2 from rfl, show LF.1 145 = some (.inl 11) from rfl, show LF.2 145 32 = some 166 from rfl, show LF.2 145 71 = some 184 from rfl, upd2_eq, Int.reduceToNat, Int.toNat_natCast]; rfl) (by first | exact trivial | exact Or.inr rfl | exact Or.inl rfl | (simp only [ob, obA, R32, R64] at *; omega) | (simp only [ob, obA, R32, R64] at *; and_intros <;> omega) | (simp [ob, obA])) ?_
      refine V_callS (M := MX12_restore) (N := MX12_be) dX12_restore_133 lRX12_536 kX12_be rfl (c_mBe (d := 3) hκ (n := 720) rfl rfl (by decide) (by decide)) rfl rfl (Nat.le_of_ble_eq_true rfl) (fit_rm (by omega)) (⟨Nat.le_of_ble_eq_true rfl, Nat.le_of_ble_eq_true rfl⟩) (fun v Ω' hp => ?_) (fun _ _ h => h.elim)
      obtain ⟨rfl, rfl⟩ := hp
      refine V_ex sX12_restore_136 (by simp only [Option.toList, List.cons_append, List.nil_append, exN, ex1, gI, gL, gR, pI, pL, pR, lget, lset1, lset2, kl, b2I, b2L, nob, ob32, ob64, xGet, xPut, xLen, xLd, xLdR, xSt, obA, true_and, and_true, and_self, eq_self, Nat.reduceEqDiff, Nat.zero_ne_one, reduceIte, Nat.reduceLeDiff, and_false, false_and, show skd 11 33 = 2 from rfl, show skd 11 75 = 2 from rfl, show LF.1 145 = some (.inl 11) from rfl, show LF.2 145 33 = some 167 from rfl, show LF.2 145 75 = some 188 from rfl, upd2_eq, Int.reduceToNat, Int.toNat_natCast]; rfl) (by first | exact trivial | exact Or.inr rfl | exact Or.inl rfl | (simp only [ob, obA, R32, R64] at *; omega) | (simp only [ob, obA, R32, R64] at *; and_intros <;> omega) | (simp [ob, obA])) ?_
      refine V_callS (M := MX12_restore) (N := MX12_beAs) dX12_restore_144 lRX12_574 kX12_beAs rfl (c_mBeAn (d := 3) hκ (n := 720) rfl rfl (by decide) (by decide)) rfl rfl (Nat.le_of_ble_eq_true rfl) (fit_rm (by omega)) (⟨Nat.le_of_ble_eq_true rfl, Nat.le_of_ble_eq_true rfl⟩) (fun v Ω' hp => ?_) (fun _ _ h => h.elim)
      obtain ⟨rfl, rfl⟩ := hp
      refine V_ex sX12_restore_147 (by simp only [Option.toList, List.cons_append, List.nil_append, exN, ex1, gI, gL, gR, pI, pL, pR, lget, lset1, lset2, kl, b2I, b2L, nob, ob32, ob64, xGet, xPut, xLen, xLd, xLdR, xSt, obA, true_and, and_true, and_self, eq_self, Nat.reduceEqDiff, Nat.zero_ne_one, reduceIte, Nat.reduceLeDiff, and_false, false_and, show skd 11 16 = 2 from rfl, show skd 11 74 = 2 from rfl, show LF.1 145 = some (.inl 11) from rfl, show LF.2 145 16 = some 161 from rfl, show LF.2 145 74 = some 187 from rfl, upd2_eq, Int.reduceToNat, Int.toNat_natCast]; rfl) (by first | exact trivial | exact Or.inr rfl | exact Or.inl rfl | (simp only [ob, obA, R32, R64] at *; omega) | (simp only [ob, obA, R32, R64] at *; and_intros <;> omega) | (simp [ob, obA])) ?_
      refine V_callS (M := MX12_restore) (N := MX12_be) dX12_restore_155 lRX12_536 kX12_be rfl (c_mBe (d := 3) hκ (n := 4) rfl rfl (by decide) (by decide)) rfl rfl (Nat.le_of_ble_eq_true rfl) (fit_rm (by omega)) (⟨Nat.le_of_ble_eq_true rfl, Nat.le_of_ble_eq_true rfl⟩) (fun v Ω' hp => ?_) (fun _ _ h => h.elim)
      obtain ⟨rfl, rfl⟩ := hp
      refine V_ex sX12_restore_158 (by rfl) (by first | exact trivial | exact Or.inr rfl | exact Or.inl rfl | (simp only [ob, obA, R32, R64] at *; omega) | (simp only [ob, obA, R32, R64] at *; and_intros <;> omega) | (simp [ob, obA])) ?_
      refine V_zret dX12_restore_159 rfl (by first | exact Or.inl rfl | exact Or.inr rfl | exact b2i_01 _) (by decide) ⟨rfl, resW G, rfl, z1, z2, z3⟩
    · omega
set_option maxRecDepth 100000 in
set_option maxHeartbeats 4000000 in
theorem c_mThrown {κ : Kx} (hκ : KOK κ) {d : Nat} {G : Wd} : Ct κ MX12_thrown d 0 0 [VR 145] (Wm G) (keepG G (VI (G.1 145 2))) noX := by
  refine Ct_of hκ kX12_thrown.1 rfl (Nat.le_of_ble_eq_true rfl) (ls := [some (VR 145)]) rfl (fun μ => ?_)
  refine V_ex sX12_thrown_0 (by simp only [Option.toList, List.cons_append, List.nil_append, exN, ex1, gI, gL, gR, pI, pL, pR, lget, lset1, lset2, kl, b2I, b2L, nob, ob32, ob64, xGet, xPut, xLen, xLd, xLdR, xSt, obA, true_and, and_true, and_self, eq_self, Nat.reduceEqDiff, Nat.zero_ne_one, reduceIte, Nat.reduceLeDiff, and_false, false_and, show skd 11 2 = 0 from rfl, show LF.1 145 = some (.inl 11) from rfl, upd2_eq, Int.reduceToNat, Int.toNat_natCast]; rfl) (by first | exact trivial | exact Or.inr rfl | exact Or.inl rfl | (simp only [ob, obA, R32, R64] at *; omega) | (simp only [ob, obA, R32, R64] at *; and_intros <;> omega) | (simp [ob, obA])) ?_
  refine V_iret dX12_thrown_4 rfl (by decide) ⟨rfl, rfl⟩
