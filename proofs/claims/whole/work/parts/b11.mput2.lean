/-! THE MODEL: put -/
theorem pb_153 {G : Wd} {j n t y : Nat} {g : List Int} {z : Int} : (pbW G j n t g z).1 153 y = if y = 60 * j + ixO z g then g.getD (n - 1) 0 else G.1 153 y := by
  unfold pbW
  by_cases c : y = 60 * j + ixO z g
  · subst c; rw [if_pos rfl]; exact iu
  · rw [if_neg c, iv (by omega), iv (by omega), iv (by omega)]
theorem pb_152 {G : Wd} {j n t y : Nat} {g : List Int} {z : Int} : (pbW G j n t g z).1 152 y = if y = j then (n : Int) - 1 else G.1 152 y := by
  unfold pbW
  rw [iv (by omega)]
  by_cases c : y = j
  · subst c; rw [if_pos rfl]; exact iu
  · rw [if_neg c, iv (by omega), iv (by omega)]
theorem pb_x {G : Wd} {j n t : Nat} {g : List Int} {z : Int} : (pbW G j n t g z).1 145 34 = (t : Int) ∧ ∀ x y, x ≠ 152 → x ≠ 153 → ¬ (x = 145 ∧ y = 34) → (pbW G j n t g z).1 x y = G.1 x y := by
  unfold pbW
  refine ⟨?_, fun x y a b c => ?_⟩
  · rw [iv (by omega), iv (by omega)]; exact iu
  · rw [iv (by omega), iv (by omega), iv (by omega)]
theorem pb_fe (G : Wd) (j n t : Nat) (g : List Int) (z : Int) : FZm G (pbW G j n t g z) := (((FZm.refl G).u (by omega)).u (by omega)).u (by omega)
theorem tnM_pb {G : Wd} {F : List (Int × Int × Bool)} {x : Int × Int × Bool} {j n : Nat} {g : List Int} {z : Int} (h : tnM G (F ++ [x])) : tnM (pbW G j n F.length g z) F := by
  obtain ⟨h1, h2⟩ := h
  refine ⟨pb_x.1, fun i hi => ?_⟩
  have := h2 i (by rw [List.length_append]; simp; omega)
  rw [List.getElem_append_left hi] at this
  rw [pb_x.2 _ _ (by omega) (by omega) (by omega), pb_x.2 _ _ (by omega) (by omega) (by omega), pb_x.2 _ _ (by omega) (by omega) (by omega)]
  exact this
theorem mS0_pb {G : Wd} {S : Sh} {j t : Nat} {z : Int} (h : mS0 G S) (hj : j < S.1.length) (hl : ∀ k, k < S.1.length → (bkJ S k).2.2.2.2.2.length ≤ 60) (hz : z ∈ (bkJ S j).2.2.2.2.2) : mS0 (pbW G j (bkJ S j).2.2.2.2.2.length t (bkJ S j).2.2.2.2.2 z) (setGo S j (rmS (bkJ S j).2.2.2.2.2 z)) := by
  obtain ⟨hix, -, -⟩ := ixO_in hz
  have fx : ∀ x, x ≠ 152 → x ≠ 153 → x ≠ 145 → (pbW G j (bkJ S j).2.2.2.2.2.length t (bkJ S j).2.2.2.2.2 z).1 x = G.1 x := fun x a b c => funext fun y => pb_x.2 x y a b (fun q => c q.1)
  obtain ⟨h1, h2, h3, h4, h5, h6⟩ := h
  refine ⟨by rw [fx 148 (by omega) (by omega) (by omega), setGo_len]; exact h1, fun k hk => ?_, by rw [fx 148 (by omega) (by omega) (by omega)]; exact h3, fun k hk => ?_, fun k hk => by rw [fx 157 (by omega) (by omega) (by omega)]; exact h5 k hk, fun k hk => by rw [fx 160 (by omega) (by omega) (by omega)]; exact h6 k hk⟩
  · have hk0 : k < S.1.length := by rw [setGo_len] at hk; exact hk
    have hb : (setGo S j (rmS (bkJ S j).2.2.2.2.2 z)).1[k]'hk = if j = k then bkGo' (bkJ S k) (rmS (bkJ S j).2.2.2.2.2 z) else bkJ S k := by rw [← bkJ_in hk, bkJ_go hk0]
    rw [hb]
    have hm := h2 k hk0
    rw [← bkJ_in hk0] at hm
    have hlk := hl k hk0
    unfold mBk at *
    rw [fx 149 (by omega) (by omega) (by omega), fx 150 (by omega) (by omega) (by omega), fx 151 (by omega) (by omega) (by omega), fx 158 (by omega) (by omega) (by omega), fx 159 (by omega) (by omega) (by omega), pb_152]
    by_cases c : j = k
    · subst c
      rw [if_pos rfl, if_pos rfl]
      refine ⟨hm.1, hm.2.1, hm.2.2.1, hm.2.2.2.1, by show _ = ((rmS (bkJ S j).2.2.2.2.2 z).length : Int); rw [rmS_len]; omega, fun i hi => ?_⟩
      have hi2 : i < (rmS (bkJ S j).2.2.2.2.2 z).length := hi
      have hi3 : i < (bkJ S j).2.2.2.2.2.length - 1 := by rw [rmS_len] at hi2; exact hi2
      show _ = (rmS (bkJ S j).2.2.2.2.2 z)[i]'hi2
      rw [pb_153, rmS_get hi2]
      by_cases c2 : i = ixO z (bkJ S j).2.2.2.2.2
      · rw [if_pos (by omega), if_pos c2]
      · rw [if_neg (by omega), if_neg c2]; exact hm.2.2.2.2.2 i (by omega)
    · rw [if_neg c, if_neg (fun q => c q.symm)]
      refine ⟨hm.1, hm.2.1, hm.2.2.1, hm.2.2.2.1, hm.2.2.2.2.1, fun i hi => ?_⟩
      have hlj := hl j hj
      rw [pb_153, if_neg (by omega)]; exact hm.2.2.2.2.2 i hi
  · have := h4 k hk
    unfold mCp at *
    rw [fx 154 (by omega) (by omega) (by omega), fx 155 (by omega) (by omega) (by omega), fx 156 (by omega) (by omega) (by omega)]; exact this
/-- the state with an act fewer -/
theorem RM_put {G G2 : Wd} {A : Ab} (h : RM G A) (hn : A.2.1.1.length ≠ 0) (f : FZm G G2) (hM : mS0 G2 (putA A).1) (hT : tnM G2 (flT (putA A).2.1.1)) (h35 : G2.1 145 35 = (A.2.1.1.length : Int) - 1) (f5 : ∀ y, y = 36 ∨ y = 37 ∨ y = 38 ∨ y = 48 → G2.1 145 y = G.1 145 y) (fl : G2.2.1 145 39 = G.2.1 145 39) (fx : ∀ x, x = 161 ∨ x = 172 ∨ x = 173 → G2.1 x = G.1 x) : RM G2 (putA A) := by
  refine RM_E h f hM (evM_S (evM_T h.2.1 hT ?_ f5 fl fx)) (imM_S h.2.2.2.1)
  show G2.1 145 35 = ((A.2.1.1.take (A.2.1.1.length - 1)).length : Nat)
  rw [h35, List.length_take]; omega
set_option maxRecDepth 100000 in
set_option maxHeartbeats 4000000 in
theorem c_mxPut {κ : Kx} (hκ : KOK κ) {d : Nat} {K : Int} {A : Ab} {G : Wd} (hC : RM G A) (hI : Inv K A) (hd : 20 ≤ d) : Ct κ MX12_put d 0 0 [VR 145] (Wm G) (mdP G (putP A).2.2 (some (VI (putP A).2.1)) (putP A).1) noX := by
  refine Ct_of hκ kX12_put.1 rfl (Nat.le_of_ble_eq_true rfl) (ls := [some (VR 145), none, none]) rfl (fun μ => ?_)
  have hC1 := RM_0 hC 0
  have hfl := flT_len A.2.1.1
  have hT360 := T_360 hI
  have h34 : upd2 G.1 145 2 0 145 34 = ((flT A.2.1.1).length : Nat) := hC1.2.1.1
  by_cases hn : A.2.1.1.length = 0
  · have e : putP A = (0, -1, A) := by unfold putP; rw [if_pos hn]
    refine V_ex sX12_put_0 (by simp only [Option.toList, List.cons_append, List.nil_append, exN, ex1, gI, gL, gR, pI, pL, pR, lget, lset1, lset2, kl, b2I, b2L, nob, ob32, ob64, xGet, xPut, xLen, xLd, xLdR, xSt, obA, true_and, and_true, and_self, eq_self, Nat.reduceEqDiff, Nat.zero_ne_one, reduceIte, Nat.reduceLeDiff, and_false, false_and, show skd 11 2 = 0 from rfl, show skd 11 34 = 0 from rfl, show LF.1 145 = some (.inl 11) from rfl, h34, upd2_eq, Int.reduceToNat, Int.toNat_natCast]; rfl) (by first | exact trivial | exact Or.inr rfl | exact Or.inl rfl | (simp only [ob, obA, R32, R64] at *; omega) | (simp only [ob, obA, R32, R64] at *; and_intros <;> omega) | (simp [ob, obA])) ?_
    refine V_ifne dX12_put_9 (tgt := 14) (by decide) (by simp only [R32, R64] at *; omega) (fun q9 => ?_) (fun q9 => ?_)
    · omega
    · refine V_ex sX12_put_12 (by rfl) (by first | exact trivial | exact Or.inr rfl | exact Or.inl rfl | (simp only [ob, obA, R32, R64] at *; omega) | (simp only [ob, obA, R32, R64] at *; and_intros <;> omega) | (simp [ob, obA])) ?_
      refine V_iret dX12_put_13 rfl (by decide) (by rw [e]; exact md_0 hC rfl rfl)
  · have e : putP A = (0, (if (lastT A).2.2 = -1 then 1 else 2), putA A) := by unfold putP; rw [if_neg hn]
    obtain ⟨⟨t1, t2⟩, t3, t4, t5⟩ := lastT_ok hI hn
    have happ := lastT_app hn
    obtain ⟨j, hj0⟩ : ∃ j : Nat, j = (lastT A).1.toNat := ⟨_, rfl⟩
    have hjI : (lastT A).1 = (j : Int) := by omega
    have hj : j < A.1.1.length := by omega
    have hj6 : j < 6 := by have := hI.1.1; omega
    rw [← hj0] at t3 t5
    have hl60 : ∀ k, k < A.1.1.length → (bkJ A.1 k).2.2.2.2.2.length ≤ 60 := fun k hk => (gone_ok hI.1 hk).2.1
    obtain ⟨g1, g2, g3, g4, g5⟩ := gone_ok hI.1 hj
    have hgR : ∀ y ∈ (bkJ A.1 j).2.2.2.2.2, R32 y := fun y hy => by have := g3 y hy; unfold R32; omega
    have htn : tnM (uI G 145 2 0) (flT A.2.1.1) := ⟨hC1.2.1.1, hC1.2.1.2.1⟩
    have h35 : (uI G 145 2 0).1 145 35 = (A.2.1.1.length : Nat) := hC1.2.1.2.2.1
    have hmb := mS0_b hC1.1 hj
    have m5 := hmb.2.2.2.2.1
    have m6 := hmb.2.2.2.2.2
    have hpA : (putA A).1 = setGo A.1 j (bkPut (bkJ A.1 j).2.2.2.2.2 (lastT A)) := by unfold putA; rw [← hj0]
    obtain ⟨T0, hT0⟩ : ∃ T0, T0 = A.2.1.1.take (A.2.1.1.length - 1) := ⟨_, rfl⟩
    have hpT : (putA A).2.1.1 = T0 := by rw [hT0]; rfl
    rw [← hT0] at happ
    by_cases ho : (lastT A).2.2 = -1
    · have ef : flT A.2.1.1 = flT T0 ++ [((j : Int), (lastT A).2.1, false)] := by rw [happ, flT_app]; congr 1; rw [flT, if_pos ho, hjI]; rfl
      rw [ef] at htn
      have hlen : (flT A.2.1.1).length = (flT T0).length + 1 := by rw [ef, List.length_append]; rfl
      have hx := htn.2 (flT T0).length (by simp)
      rw [List.getElem_append_right (Nat.le_refl _)] at hx
      simp only [Nat.sub_self, List.getElem_cons_zero] at hx
      have hPB := c_mPutBack (κ := κ) hκ (d := 2) (j := j) (t := (flT T0).length) (z := (lastT A).2.1) (g := (bkJ A.1 j).2.2.2.2.2) (G := uI G 145 2 0) hj6 m6 hgR t3 m5 g2 (by rw [htn.1]; simp) (by omega) hx.1 hx.2.1
      have hM1 := mS0_pb (t := (flT T0).length) hC1.1 hj hl60 t3
      have hT1 := tnM_pb (j := j) (n := (bkJ A.1 j).2.2.2.2.2.length) (g := (bkJ A.1 j).2.2.2.2.2) (z := (lastT A).2.1) htn
      have hx1 := (pb_x (G := uI G 145 2 0) (j := j) (n := (bkJ A.1 j).2.2.2.2.2.length) (t := (flT T0).length) (g := (bkJ A.1 j).2.2.2.2.2) (z := (lastT A).2.1)).2
      have hfz := (fz0 G 0).trans (pb_fe (uI G 145 2 0) j (bkJ A.1 j).2.2.2.2.2.length (flT T0).length (bkJ A.1 j).2.2.2.2.2 (lastT A).2.1)
      have hl39 : (pbW (uI G 145 2 0) j (bkJ A.1 j).2.2.2.2.2.length (flT T0).length (bkJ A.1 j).2.2.2.2.2 (lastT A).2.1).2.1 145 39 = G.2.1 145 39 := rfl
      generalize hG1 : pbW (uI G 145 2 0) j (bkJ A.1 j).2.2.2.2.2.length (flT T0).length (bkJ A.1 j).2.2.2.2.2 (lastT A).2.1 = G1 at *
      have e35 : G1.1 145 35 = (A.2.1.1.length : Int) := (hx1 145 35 (by omega) (by omega) (by omega)).trans h35
      have hC2 : RM (uI G1 145 35 ((A.2.1.1.length : Int) - 1)) (putA A) := by
        have hf2 : FZm G (uI G1 145 35 ((A.2.1.1.length : Int) - 1)) := hfz.u (by omega)
        refine RM_put hC hn hf2 ?_ ?_ iu (fun y hy => by rw [iv (by omega), hx1 145 y (by omega) (by omega) (by omega), iv (by omega)]) hl39 (fun x hx => funext fun y => by rw [iv (by omega), hx1 x y (by omega) (by omega) (by omega), iv (by omega)])
        · rw [hpA]; unfold bkPut; rw [if_pos ho]
          exact mS0_c hM1 (fun x a b => funext fun y => iv (by omega))
        · rw [hpT]
          exact ⟨(iv (by omega)).trans hT1.1, fun i hi => by rw [iv (by omega), iv (by omega), iv (by omega)]; exact hT1.2 i hi⟩
      have ese : upd2 G.1 145 2 0 167 (flT T0).length = 0 := hx.2.2
      have ei : (((flT T0).length + 1 : Nat) : Int) - 1 = ((flT T0).length : Int) := by omega
      rw [hlen] at h34
      refine V_ex sX12_put_0 (by simp only [Option.toList, List.cons_append, List.nil_append, exN, ex1, gI, gL, gR, pI, pL, pR, lget, lset1, lset2, kl, b2I, b2L, nob, ob32, ob64, xGet, xPut, xLen, xLd, xLdR, xSt, obA, true_and, and_true, and_self, eq_self, Nat.reduceEqDiff, Nat.zero_ne_one, reduceIte, Nat.reduceLeDiff, and_false, false_and, show skd 11 2 = 0 from rfl, show skd 11 34 = 0 from rfl, show LF.1 145 = some (.inl 11) from rfl, h34, upd2_eq, Int.reduceToNat, Int.toNat_natCast]; rfl) (by first | exact trivial | exact Or.inr rfl | exact Or.inl rfl | (simp only [ob, obA, R32, R64] at *; omega) | (simp only [ob, obA, R32, R64] at *; and_intros <;> omega) | (simp [ob, obA])) ?_
      refine V_ifne dX12_put_9 (tgt := 14) (by decide) (by simp only [R32, R64] at *; omega) (fun q9 => ?_) (fun q9 => ?_)
      · refine V_ex sX12_put_14 (by simp only [Option.toList, List.cons_append, List.nil_append, exN, ex1, gI, gL, gR, pI, pL, pR, lget, lset1, lset2, kl, b2I, b2L, nob, ob32, ob64, xGet, xPut, xLen, xLd, xLdR, xSt, obA, true_and, and_true, and_self, eq_self, Nat.reduceEqDiff, Nat.zero_ne_one, reduceIte, Nat.reduceLeDiff, and_false, false_and, show skd 11 33 = 2 from rfl, show skd 11 34 = 0 from rfl, show LF.1 145 = some (.inl 11) from rfl, show LF.2 145 33 = some 167 from rfl, show LF.1 167 = some (.inr (2, 720)) from rfl, h34, ei, ese, Int.toNat_natCast, upd2_eq, Int.reduceToNat, Int.toNat_natCast]; rfl) (by (simp only [ob, obA, R32]; and_intros <;> omega)) ?_
        refine V_ifeq dX12_put_25 (tgt := 32) (by decide) (by simp only [R32, R64] at *; omega) (fun q25 => ?_) (fun q25 => ?_)
        · refine V_ex sX12_put_32 (by rfl) (by first | exact trivial | exact Or.inr rfl | exact Or.inl rfl | (simp only [ob, obA, R32, R64] at *; omega) | (simp only [ob, obA, R32, R64] at *; and_intros <;> omega) | (simp [ob, obA])) ?_
          refine V_ex sX12_put_33 (by rfl) (by first | exact trivial | exact Or.inr rfl | exact Or.inl rfl | (simp only [ob, obA, R32, R64] at *; omega) | (simp only [ob, obA, R32, R64] at *; and_intros <;> omega) | (simp [ob, obA])) ?_
          refine V_ex sX12_put_36 (by rfl) (by first | exact trivial | exact Or.inr rfl | exact Or.inl rfl | (simp only [ob, obA, R32, R64] at *; omega) | (simp only [ob, obA, R32, R64] at *; and_intros <;> omega) | (simp [ob, obA])) ?_
          refine V_icmpge dX12_put_38 (tgt := 51) (by decide) (by simp only [R32, R64] at *; omega) (fun q38 => ?_) (fun q38 => ?_)
          · omega
          · refine V_ex sX12_put_41 (by rfl) (by first | exact trivial | exact Or.inr rfl | exact Or.inl rfl | (simp only [ob, obA, R32, R64] at *; omega) | (simp only [ob, obA, R32, R64] at *; and_intros <;> omega) | (simp [ob, obA])) ?_
            refine V_callV (M := MX12_put) (N := MX12_putBack) dX12_put_42 lRX12_411 kX12_putBack rfl (rfl) rfl (hPB) rfl rfl (Nat.le_of_ble_eq_true rfl) (fit_rm (by omega)) (⟨Nat.le_of_ble_eq_true rfl, Nat.le_of_ble_eq_true rfl⟩) (fun v Ω' hp => ?_) (fun _ _ h => h.elim)
            obtain ⟨rfl, rfl⟩ := hp
            refine V_ex sX12_put_45 (by rfl) (by first | exact trivial | exact Or.inr rfl | exact Or.inl rfl | (simp only [ob, obA, R32, R64] at *; omega) | (simp only [ob, obA, R32, R64] at *; and_intros <;> omega) | (simp [ob, obA])) ?_
            refine V_goto dX12_put_48 (tgt := 36) (by decide) ?_
            refine V_ex sX12_put_36 (by rfl) (by first | exact trivial | exact Or.inr rfl | exact Or.inl rfl | (simp only [ob, obA, R32, R64] at *; omega) | (simp only [ob, obA, R32, R64] at *; and_intros <;> omega) | (simp [ob, obA])) ?_
            refine V_icmpge dX12_put_38 (tgt := 51) (by decide) (by simp only [R32, R64] at *; omega) (fun q38 => ?_) (fun q38 => ?_)
            · refine V_ex sX12_put_51 (by simp only [Option.toList, List.cons_append, List.nil_append, exN, ex1, gI, gL, gR, pI, pL, pR, lget, lset1, lset2, kl, b2I, b2L, nob, ob32, ob64, xGet, xPut, xLen, xLd, xLdR, xSt, obA, true_and, and_true, and_self, eq_self, Nat.reduceEqDiff, Nat.zero_ne_one, reduceIte, Nat.reduceLeDiff, and_false, false_and, show skd 11 35 = 0 from rfl, show LF.1 145 = some (.inl 11) from rfl, e35, upd2_eq, Int.reduceToNat, Int.toNat_natCast]; rfl) (by first | exact trivial | exact Or.inr rfl | exact Or.inl rfl | (simp only [ob, obA, R32, R64] at *; omega) | (simp only [ob, obA, R32, R64] at *; and_intros <;> omega) | (simp [ob, obA])) ?_
              refine V_iret dX12_put_62 rfl (by decide) (by rw [e, if_pos ho]; exact md_z hC2 (hfz.u (by omega)) rfl (by rw [iv (by omega), hx1 145 2 (by omega) (by omega) (by omega)]; exact iu))
            · omega
        · exact absurd q25 (by decide)
      · omega
    · obtain ⟨t6, t7⟩ := t5 ho
      have t8 : (lastT A).2.1 ≠ (lastT A).2.2 := by first | exact t7 | exact fun q => t7 q.symm
      have ef : flT A.2.1.1 = (flT T0 ++ [((j : Int), (lastT A).2.1, false)]) ++ [((j : Int), (lastT A).2.2, true)] := by rw [happ, flT_app, List.append_assoc]; congr 1; rw [flT, if_neg ho, hjI]; rfl
      rw [ef] at htn
      have hlen : (flT A.2.1.1).length = (flT T0).length + 1 + 1 := by rw [ef, List.length_append, List.length_append]; rfl
      have hl1 : (flT T0 ++ [((j : Int), (lastT A).2.1, false)]).length = (flT T0).length + 1 := by simp
      have hx := htn.2 ((flT T0).length + 1) (by simp)
      rw [List.getElem_append_right (by rw [hl1]; exact Nat.le_refl _)] at hx
      simp only [hl1, Nat.sub_self, List.getElem_cons_zero] at hx
      have hPB := c_mPutBack (κ := κ) hκ (d := 2) (j := j) (t := (flT T0).length + 1) (z := (lastT A).2.2) (g := (bkJ A.1 j).2.2.2.2.2) (G := uI G 145 2 0) hj6 m6 hgR t6 m5 g2 (by rw [htn.1]; simp; omega) (by omega) hx.1 hx.2.1
      have hM1 := mS0_pb (t := (flT T0).length + 1) hC1.1 hj hl60 t6
      have hT1 := tnM_pb (j := j) (n := (bkJ A.1 j).2.2.2.2.2.length) (g := (bkJ A.1 j).2.2.2.2.2) (z := (lastT A).2.2) htn
      rw [hl1] at hT1
      have hx1 := (pb_x (G := uI G 145 2 0) (j := j) (n := (bkJ A.1 j).2.2.2.2.2.length) (t := (flT T0).length + 1) (g := (bkJ A.1 j).2.2.2.2.2) (z := (lastT A).2.2)).2
      have hfz := (fz0 G 0).trans (pb_fe (uI G 145 2 0) j (bkJ A.1 j).2.2.2.2.2.length ((flT T0).length + 1) (bkJ A.1 j).2.2.2.2.2 (lastT A).2.2)
      have hl39 : (pbW (uI G 145 2 0) j (bkJ A.1 j).2.2.2.2.2.length ((flT T0).length + 1) (bkJ A.1 j).2.2.2.2.2 (lastT A).2.2).2.1 145 39 = G.2.1 145 39 := rfl
      generalize hG1 : pbW (uI G 145 2 0) j (bkJ A.1 j).2.2.2.2.2.length ((flT T0).length + 1) (bkJ A.1 j).2.2.2.2.2 (lastT A).2.2 = G1 at *
      have e35 : G1.1 145 35 = (A.2.1.1.length : Int) := (hx1 145 35 (by omega) (by omega) (by omega)).trans h35
      have hj1 : j < (setGo A.1 j (rmS (bkJ A.1 j).2.2.2.2.2 (lastT A).2.2)).1.length := by rw [setGo_len]; exact hj
      have hb1 : (bkJ (setGo A.1 j (rmS (bkJ A.1 j).2.2.2.2.2 (lastT A).2.2)) j).2.2.2.2.2 = rmS (bkJ A.1 j).2.2.2.2.2 (lastT A).2.2 := by rw [bkJ_go hj, if_pos rfl]
      have hl61 : ∀ k, k < (setGo A.1 j (rmS (bkJ A.1 j).2.2.2.2.2 (lastT A).2.2)).1.length → (bkJ (setGo A.1 j (rmS (bkJ A.1 j).2.2.2.2.2 (lastT A).2.2)) k).2.2.2.2.2.length ≤ 60 := fun k hk => by
        rw [setGo_len] at hk
        rw [bkJ_go hk]
        split
        · show (rmS (bkJ A.1 j).2.2.2.2.2 (lastT A).2.2).length ≤ 60; rw [rmS_len]; omega
        · exact hl60 k hk
      have t9 : (lastT A).2.1 ∈ rmS (bkJ A.1 j).2.2.2.2.2 (lastT A).2.2 := (rmS_mem g1 t6 _).mpr ⟨t3, t8⟩
      have hmb1 := mS0_b hM1 hj1
      have m51 := hmb1.2.2.2.2.1
      have m61 := hmb1.2.2.2.2.2
      have hM2 := mS0_pb (t := (flT T0).length) (z := (lastT A).2.1) hM1 hj1 hl61 (by rw [hb1]; exact t9)
      rw [hb1] at m51 hM2
      simp only [hb1] at m61
      rw [setGo_2] at hM2
      have hgR1 : ∀ y ∈ rmS (bkJ A.1 j).2.2.2.2.2 (lastT A).2.2, R32 y := fun y hy => hgR y ((rmS_mem g1 t6 y).mp hy).1
      have hx2 := hT1.2 (flT T0).length (by simp)
      rw [List.getElem_append_right (Nat.le_refl _)] at hx2
      simp only [Nat.sub_self, List.getElem_cons_zero] at hx2
      have hPB2 := c_mPutBack (κ := κ) hκ (d := 2) (j := j) (t := (flT T0).length) (z := (lastT A).2.1) (g := rmS (bkJ A.1 j).2.2.2.2.2 (lastT A).2.2) (G := G1) hj6 m61 hgR1 t9 m51 (by rw [rmS_len]; omega) (by rw [hT1.1]; simp) (by omega) hx2.1 hx2.2.1
      have hT2 := tnM_pb (j := j) (n := (rmS (bkJ A.1 j).2.2.2.2.2 (lastT A).2.2).length) (g := rmS (bkJ A.1 j).2.2.2.2.2 (lastT A).2.2) (z := (lastT A).2.1) hT1
      have hx3 := (pb_x (G := G1) (j := j) (n := (rmS (bkJ A.1 j).2.2.2.2.2 (lastT A).2.2).length) (t := (flT T0).length) (g := rmS (bkJ A.1 j).2.2.2.2.2 (lastT A).2.2) (z := (lastT A).2.1)).2
      have hfz2 := hfz.trans (pb_fe G1 j (rmS (bkJ A.1 j).2.2.2.2.2 (lastT A).2.2).length (flT T0).length (rmS (bkJ A.1 j).2.2.2.2.2 (lastT A).2.2) (lastT A).2.1)
      have hl392 : (pbW G1 j (rmS (bkJ A.1 j).2.2.2.2.2 (lastT A).2.2).length (flT T0).length (rmS (bkJ A.1 j).2.2.2.2.2 (lastT A).2.2) (lastT A).2.1).2.1 145 39 = G.2.1 145 39 := hl39
      generalize hG2 : pbW G1 j (rmS (bkJ A.1 j).2.2.2.2.2 (lastT A).2.2).length (flT T0).length (rmS (bkJ A.1 j).2.2.2.2.2 (lastT A).2.2) (lastT A).2.1 = G2 at *
      have e352 : G2.1 145 35 = (A.2.1.1.length : Int) := (hx3 145 35 (by omega) (by omega) (by omega)).trans e35
      have hC2 : RM (uI G2 145 35 ((A.2.1.1.length : Int) - 1)) (putA A) := by
        have hf2 : FZm G (uI G2 145 35 ((A.2.1.1.length : Int) - 1)) := hfz2.u (by omega)
        refine RM_put hC hn hf2 ?_ ?_ iu (fun y hy => by rw [iv (by omega), hx3 145 y (by omega) (by omega) (by omega), hx1 145 y (by omega) (by omega) (by omega), iv (by omega)]) hl392 (fun x hx => funext fun y => by rw [iv (by omega), hx3 x y (by omega) (by omega) (by omega), hx1 x y (by omega) (by omega) (by omega), iv (by omega)])
        · rw [hpA]; unfold bkPut; rw [if_neg ho]
          exact mS0_c hM2 (fun x a b => funext fun y => iv (by omega))
        · rw [hpT]
          exact ⟨(iv (by omega)).trans hT2.1, fun i hi => by rw [iv (by omega), iv (by omega), iv (by omega)]; exact hT2.2 i hi⟩
      have ese : upd2 G.1 145 2 0 167 ((flT T0).length + 1) = 1 := hx.2.2
      have ei : (((flT T0).length + 1 + 1 : Nat) : Int) - 1 = (((flT T0).length + 1 : Nat) : Int) := by omega
      rw [hlen] at h34
      refine V_ex sX12_put_0 (by simp only [Option.toList, List.cons_append, List.nil_append, exN, ex1, gI, gL, gR, pI, pL, pR, lget, lset1, lset2, kl, b2I, b2L, nob, ob32, ob64, xGet, xPut, xLen, xLd, xLdR, xSt, obA, true_and, and_true, and_self, eq_self, Nat.reduceEqDiff, Nat.zero_ne_one, reduceIte, Nat.reduceLeDiff, and_false, false_and, show skd 11 2 = 0 from rfl, show skd 11 34 = 0 from rfl, show LF.1 145 = some (.inl 11) from rfl, h34, upd2_eq, Int.reduceToNat, Int.toNat_natCast]; rfl) (by first | exact trivial | exact Or.inr rfl | exact Or.inl rfl | (simp only [ob, obA, R32, R64] at *; omega) | (simp only [ob, obA, R32, R64] at *; and_intros <;> omega) | (simp [ob, obA])) ?_
      refine V_ifne dX12_put_9 (tgt := 14) (by decide) (by simp only [R32, R64] at *; omega) (fun q9 => ?_) (fun q9 => ?_)
      · refine V_ex sX12_put_14 (by simp only [Option.toList, List.cons_append, List.nil_append, exN, ex1, gI, gL, gR, pI, pL, pR, lget, lset1, lset2, kl, b2I, b2L, nob, ob32, ob64, xGet, xPut, xLen, xLd, xLdR, xSt, obA, true_and, and_true, and_self, eq_self, Nat.reduceEqDiff, Nat.zero_ne_one, reduceIte, Nat.reduceLeDiff, and_false, false_and, show skd 11 33 = 2 from rfl, show skd 11 34 = 0 from rfl, show LF.1 145 = some (.inl 11) from rfl, show LF.2 145 33 = some 167 from rfl, show LF.1 167 = some (.inr (2, 720)) from rfl, h34, ei, ese, Int.toNat_natCast, upd2_eq, Int.reduceToNat, Int.toNat_natCast]; rfl) (by (simp only [ob, obA, R32]; and_intros <;> omega)) ?_
        refine V_ifeq dX12_put_25 (tgt := 32) (by decide) (by simp only [R32, R64] at *; omega) (fun q25 => ?_) (fun q25 => ?_)
        · exact absurd q25 (by decide)
        · refine V_ex sX12_put_28 (by rfl) (by first | exact trivial | exact Or.inr rfl | exact Or.inl rfl | (simp only [ob, obA, R32, R64] at *; omega) | (simp only [ob, obA, R32, R64] at *; and_intros <;> omega) | (simp [ob, obA])) ?_
          refine V_goto dX12_put_29 (tgt := 33) (by decide) ?_
          refine V_ex sX12_put_33 (by rfl) (by first | exact trivial | exact Or.inr rfl | exact Or.inl rfl | (simp only [ob, obA, R32, R64] at *; omega) | (simp only [ob, obA, R32, R64] at *; and_intros <;> omega) | (simp [ob, obA])) ?_
          refine V_ex sX12_put_36 (by rfl) (by first | exact trivial | exact Or.inr rfl | exact Or.inl rfl | (simp only [ob, obA, R32, R64] at *; omega) | (simp only [ob, obA, R32, R64] at *; and_intros <;> omega) | (simp [ob, obA])) ?_
          refine V_icmpge dX12_put_38 (tgt := 51) (by decide) (by simp only [R32, R64] at *; omega) (fun q38 => ?_) (fun q38 => ?_)
          · omega
          · refine V_ex sX12_put_41 (by rfl) (by first | exact trivial | exact Or.inr rfl | exact Or.inl rfl | (simp only [ob, obA, R32, R64] at *; omega) | (simp only [ob, obA, R32, R64] at *; and_intros <;> omega) | (simp [ob, obA])) ?_
            refine V_callV (M := MX12_put) (N := MX12_putBack) dX12_put_42 lRX12_411 kX12_putBack rfl (rfl) rfl (hPB) rfl rfl (Nat.le_of_ble_eq_true rfl) (fit_rm (by omega)) (⟨Nat.le_of_ble_eq_true rfl, Nat.le_of_ble_eq_true rfl⟩) (fun v Ω' hp => ?_) (fun _ _ h => h.elim)
            obtain ⟨rfl, rfl⟩ := hp
            refine V_ex sX12_put_45 (by rfl) (by first | exact trivial | exact Or.inr rfl | exact Or.inl rfl | (simp only [ob, obA, R32, R64] at *; omega) | (simp only [ob, obA, R32, R64] at *; and_intros <;> omega) | (simp [ob, obA])) ?_
            refine V_goto dX12_put_48 (tgt := 36) (by decide) ?_
            refine V_ex sX12_put_36 (by rfl) (by first | exact trivial | exact Or.inr rfl | exact Or.inl rfl | (simp only [ob, obA, R32, R64] at *; omega) | (simp only [ob, obA, R32, R64] at *; and_intros <;> omega) | (simp [ob, obA])) ?_
            refine V_icmpge dX12_put_38 (tgt := 51) (by decide) (by simp only [R32, R64] at *; omega) (fun q38 => ?_) (fun q38 => ?_)
            · omega
            · refine V_ex sX12_put_41 (by rfl) (by first | exact trivial | exact Or.inr rfl | exact Or.inl rfl | (simp only [ob, obA, R32, R64] at *; omega) | (simp only [ob, obA, R32, R64] at *; and_intros <;> omega) | (simp [ob, obA])) ?_
              refine V_callV (M := MX12_put) (N := MX12_putBack) dX12_put_42 lRX12_411 kX12_putBack rfl (rfl) rfl (hPB2) rfl rfl (Nat.le_of_ble_eq_true rfl) (fit_rm (by omega)) (⟨Nat.le_of_ble_eq_true rfl, Nat.le_of_ble_eq_true rfl⟩) (fun v Ω' hp => ?_) (fun _ _ h => h.elim)
              obtain ⟨rfl, rfl⟩ := hp
              refine V_ex sX12_put_45 (by rfl) (by first | exact trivial | exact Or.inr rfl | exact Or.inl rfl | (simp only [ob, obA, R32, R64] at *; omega) | (simp only [ob, obA, R32, R64] at *; and_intros <;> omega) | (simp [ob, obA])) ?_
              refine V_goto dX12_put_48 (tgt := 36) (by decide) ?_
              refine V_ex sX12_put_36 (by rfl) (by first | exact trivial | exact Or.inr rfl | exact Or.inl rfl | (simp only [ob, obA, R32, R64] at *; omega) | (simp only [ob, obA, R32, R64] at *; and_intros <;> omega) | (simp [ob, obA])) ?_
              refine V_icmpge dX12_put_38 (tgt := 51) (by decide) (by simp only [R32, R64] at *; omega) (fun q38 => ?_) (fun q38 => ?_)
              · refine V_ex sX12_put_51 (by simp only [Option.toList, List.cons_append, List.nil_append, exN, ex1, gI, gL, gR, pI, pL, pR, lget, lset1, lset2, kl, b2I, b2L, nob, ob32, ob64, xGet, xPut, xLen, xLd, xLdR, xSt, obA, true_and, and_true, and_self, eq_self, Nat.reduceEqDiff, Nat.zero_ne_one, reduceIte, Nat.reduceLeDiff, and_false, false_and, show skd 11 35 = 0 from rfl, show LF.1 145 = some (.inl 11) from rfl, e352, upd2_eq, Int.reduceToNat, Int.toNat_natCast]; rfl) (by first | exact trivial | exact Or.inr rfl | exact Or.inl rfl | (simp only [ob, obA, R32, R64] at *; omega) | (simp only [ob, obA, R32, R64] at *; and_intros <;> omega) | (simp [ob, obA])) ?_
                refine V_iret dX12_put_62 rfl (by decide) (by rw [e, if_neg ho]; exact md_z hC2 (hfz2.u (by omega)) rfl (by rw [iv (by omega), hx3 145 2 (by omega) (by omega) (by omega), hx1 145 2 (by omega) (by omega) (by omega)]; exact iu))
              · omega
      · omega
