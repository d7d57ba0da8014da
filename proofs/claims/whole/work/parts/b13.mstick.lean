/-! THE MODEL: stick -/
theorem RM_stick {G : Wd} {A : Ab} {i l : Int} (h : RM G A) : RM (uI (uI (uI G 172 A.2.1.2.2.1.length i) 173 A.2.1.2.2.1.length l) 145 48 ((A.2.1.2.2.1.length : Int) + 1)) (stickA A i l) := by
  obtain ⟨v1, v2, v3, v4, v5, v6, v7, v8⟩ := h.2.1
  dsimp only [mcN] at v1 v2 v3 v4 v5 v6 v7 v8
  have hf : FZm G (uI (uI (uI G 172 A.2.1.2.2.1.length i) 173 A.2.1.2.2.1.length l) 145 48 ((A.2.1.2.2.1.length : Int) + 1)) := (((FZm.refl _).u (by omega)).u (by omega)).u (by omega)
  refine RM_v h hf (funext fun y => by rw [iv (by omega), iv (by omega), iv (by omega)]) (funext fun y => by rw [iv (by omega), iv (by omega), iv (by omega)]) ⟨?_, fun n hn => ?_, ?_, ?_, fun q => ?_, ?_, fun n hn => ?_, fun n hn => ?_⟩
  · dsimp only [mcN]; rw [uv (by omega), uv (by omega), uv (by omega)]; exact v1
  · dsimp only [mcN]; rw [uv (by omega), uv (by omega), uv (by omega), uv (by omega), uv (by omega), uv (by omega), uv (by omega), uv (by omega), uv (by omega)]; exact v2 n hn
  · dsimp only [mcN]; rw [uv (by omega), uv (by omega), uv (by omega)]; exact v3
  · dsimp only [mcN]; rw [uv (by omega), uv (by omega), uv (by omega)]; exact v4
  · dsimp only [mcN]; rw [uv (by omega), uv (by omega), uv (by omega), uv (by omega), uv (by omega), uv (by omega)]; exact v5 q
  · dsimp only [mcN]; rw [upd2_same]; simp
  · have hn2 : n < (A.2.1.2.2.1 ++ [(i, l)]).length := hn
    show upd2 (upd2 (upd2 G.1 172 A.2.1.2.2.1.length i) 173 A.2.1.2.2.1.length l) 145 48 ((A.2.1.2.2.1.length : Int) + 1) 172 n = ((A.2.1.2.2.1 ++ [(i, l)])[n]'hn2).1 ∧ upd2 (upd2 (upd2 G.1 172 A.2.1.2.2.1.length i) 173 A.2.1.2.2.1.length l) 145 48 ((A.2.1.2.2.1.length : Int) + 1) 173 n = ((A.2.1.2.2.1 ++ [(i, l)])[n]'hn2).2
    by_cases c : n < A.2.1.2.2.1.length
    · rw [List.getElem_append_left c, uv (by omega), uv (by omega), uv (by omega), uv (by omega), uv (by omega), uv (by omega)]; exact v7 n c
    · have e : n = A.2.1.2.2.1.length := by rw [List.length_append] at hn2; simp at hn2; omega
      subst e
      rw [List.getElem_append_right (Nat.le_refl _)]
      refine ⟨?_, ?_⟩
      · rw [uv (by omega), uv (by omega), upd2_same]; simp
      · rw [uv (by omega), upd2_same]; simp
  · dsimp only [mcN]; rw [uv (by omega), uv (by omega), uv (by omega)]; exact v8 n hn
set_option maxRecDepth 100000 in
set_option maxHeartbeats 4000000 in
theorem c_mxStick {κ : Kx} (hκ : KOK κ) {d : Nat} {K i l : Int} {A : Ab} {G : Wd} (hC : RM G A) (hI : Inv K A) (hi : R32 i) (hl : R32 l) (hd : 20 ≤ d) : Ct κ MX12_stick d 0 0 [VR 145, VI i, VI l] (Wm G) (mdP G (stickP A i l).2.2 (some (VI (stickP A i l).2.1)) (stickP A i l).1) noX := by
  refine Ct_of hκ kX12_stick.1 rfl (Nat.le_of_ble_eq_true rfl) (ls := [some (VR 145), some (VI i), some (VI l)]) rfl (fun μ => ?_)
  have hC1 := RM_0 hC 0
  have hl64 := r32_64 hl
  have h20 := hI.2.1.2.2.1
  have e48 : upd2 G.1 145 2 0 145 48 = (A.2.1.2.2.1.length : Nat) := hC1.2.1.2.2.2.2.2.1
  by_cases hin : inB A.1 i
  · obtain ⟨j, hj⟩ : ∃ j : Nat, i = (j : Int) := ⟨i.toNat, by have := hin.1; omega⟩
    subst hj
    have hj : j < A.1.1.length := by have := hin.2; omega
    obtain ⟨m1, m2, m3, m4, m5, m6⟩ := mS0_b hC.1 hj
    obtain ⟨g1, g2, g3, g4, g5⟩ := gone_ok hI.1 hj
    have hj6 : j < 6 := by have := hI.1.1; omega
    have en : ¬ (0 ≤ l ∧ l ≤ (bkJ A.1 j).2.2.1 - 1) → stickP A (j : Nat) l = (1, 0, A) := fun h => by unfold stickP; rw [if_pos (fun q => h ⟨q.2.1, by have h3 : l < (bkJ A.1 j).2.2.1 := q.2.2; omega⟩)]
    have er : (0 ≤ l ∧ l ≤ (bkJ A.1 j).2.2.1 - 1) → (20 ≤ A.2.1.2.2.1.length ∨ (bkJ A.1 j).2.2.1 ≤ l + 1 ∨ l ∈ (bkJ A.1 j).2.2.2.2.2 ∨ l + 1 ∈ (bkJ A.1 j).2.2.2.2.2 ∨ sticksB A.2.1 (j : Nat) l = true) → stickP A (j : Nat) l = (0, -1, refA A 3) := fun h h2 => by unfold stickP; rw [if_neg (fun q => q ⟨hin, h.1, by show l < (bkJ A.1 j).2.2.1; omega⟩)]; exact if_pos h2
    have ey : (0 ≤ l ∧ l ≤ (bkJ A.1 j).2.2.1 - 1) → ¬ (20 ≤ A.2.1.2.2.1.length ∨ (bkJ A.1 j).2.2.1 ≤ l + 1 ∨ l ∈ (bkJ A.1 j).2.2.2.2.2 ∨ l + 1 ∈ (bkJ A.1 j).2.2.2.2.2 ∨ sticksB A.2.1 (j : Nat) l = true) → stickP A (j : Nat) l = (0, ((A.2.1.2.2.1.length + 1 : Nat) : Int), stickA A (j : Nat) l) := fun h h2 => by unfold stickP; rw [if_neg (fun q => q ⟨hin, h.1, by show l < (bkJ A.1 j).2.2.1; omega⟩)]; exact if_neg h2
    have hC2 := RM_stick (i := (j : Int)) (l := l) hC1
    have e02 : (uI (uI (uI (uI G 145 2 0) 172 A.2.1.2.2.1.length (j : Int)) 173 A.2.1.2.2.1.length l) 145 48 ((A.2.1.2.2.1.length : Int) + 1)).1 145 2 = 0 := by rw [iv (by omega), iv (by omega), iv (by omega)]; exact iu
    have b1 : ∀ z, upd2 (upd2 G.1 145 2 0) 172 A.2.1.2.2.1.length z 145 48 = (A.2.1.2.2.1.length : Nat) := fun z => by rw [uv (by omega)]; exact e48
    have b2 : ∀ z y, upd2 (upd2 (upd2 G.1 145 2 0) 172 A.2.1.2.2.1.length z) 173 A.2.1.2.2.1.length y 145 48 = (A.2.1.2.2.1.length : Nat) := fun z y => by rw [uv (by omega)]; exact b1 z
    have b3 : ∀ f v, upd2 f 145 48 v 145 48 = v := fun f v => upd2_same ..
    refine V_ex sX12_stick_0 (by simp only [Option.toList, List.cons_append, List.nil_append, exN, ex1, gI, gL, gR, pI, pL, pR, lget, lset1, lset2, kl, b2I, b2L, nob, ob32, ob64, xGet, xPut, xLen, xLd, xLdR, xSt, obA, true_and, and_true, and_self, eq_self, Nat.reduceEqDiff, Nat.zero_ne_one, reduceIte, Nat.reduceLeDiff, and_false, false_and, show skd 11 2 = 0 from rfl, show LF.1 145 = some (.inl 11) from rfl, upd2_eq, Int.reduceToNat, Int.toNat_natCast]; rfl) (by first | exact trivial | exact Or.inr rfl | exact Or.inl rfl | (simp only [ob, obA, R32, R64] at *; omega) | (simp only [ob, obA, R32, R64] at *; and_intros <;> omega) | (simp [ob, obA])) ?_
    refine V_callV (M := MX12_stick) (N := MX12_isBook) dX12_stick_7 lRX12_386 kX12_isBook rfl (rfl) rfl (c_mIsBook (d := 2) hκ hC1.1 hI.1 hi (by omega)) rfl rfl (Nat.le_of_ble_eq_true rfl) (fit_rm (by omega)) (⟨Nat.le_of_ble_eq_true rfl, Nat.le_of_ble_eq_true rfl⟩) (fun v Ω' hp => ?_) (fun _ _ h => h.elim)
    obtain ⟨rfl, rfl⟩ := hp
    refine V_ifeqB dX12_stick_10 (tgt := 31) (by decide) (fun q10 => ?_) (fun q10 => ?_)
    · exact absurd hin (of_decide_eq_false q10)
    · refine V_ex sX12_stick_13 (by simp only [Option.toList, List.cons_append, List.nil_append, exN, ex1, gI, gL, gR, pI, pL, pR, lget, lset1, lset2, kl, b2I, b2L, nob, ob32, ob64, xGet, xPut, xLen, xLd, xLdR, xSt, obA, true_and, and_true, and_self, eq_self, Nat.reduceEqDiff, Nat.zero_ne_one, reduceIte, Nat.reduceLeDiff, and_false, false_and, show skd 11 6 = 2 from rfl, show LF.1 145 = some (.inl 11) from rfl, show LF.2 145 6 = some 151 from rfl, show LF.1 151 = some (.inr (0, 12)) from rfl, asn (show 151 ≠ 145 by decide), m3, Int.toNat_natCast, upd2_eq, Int.reduceToNat, Int.toNat_natCast]; rfl) (by first | exact trivial | exact Or.inr rfl | exact Or.inl rfl | (simp only [ob, obA, R32, R64] at *; omega) | (simp only [ob, obA, R32, R64] at *; and_intros <;> omega) | (simp [ob, obA])) ?_
      refine V_callS (M := MX12_stick) (N := MX12_isIn) dX12_stick_25 lRX12_178 kX12_isIn rfl (c_misIn (d := 2) hκ hl64 (by unfold R64; omega) (by unfold R64; omega)) rfl rfl (Nat.le_of_ble_eq_true rfl) (fit_rm (by omega)) (⟨Nat.le_of_ble_eq_true rfl, Nat.le_of_ble_eq_true rfl⟩) (fun v Ω' hp => ?_) (fun _ _ h => h.elim)
      obtain ⟨rfl, rfl⟩ := hp
      refine V_ifneB dX12_stick_28 (tgt := 37) (by decide) (fun q28 => ?_) (fun q28 => ?_)
      · have hx := of_decide_eq_true q28
        refine V_ex sX12_stick_37 (by simp only [Option.toList, List.cons_append, List.nil_append, exN, ex1, gI, gL, gR, pI, pL, pR, lget, lset1, lset2, kl, b2I, b2L, nob, ob32, ob64, xGet, xPut, xLen, xLd, xLdR, xSt, obA, true_and, and_true, and_self, eq_self, Nat.reduceEqDiff, Nat.zero_ne_one, reduceIte, Nat.reduceLeDiff, and_false, false_and, show skd 11 48 = 0 from rfl, show LF.1 145 = some (.inl 11) from rfl, e48, upd2_eq, Int.reduceToNat, Int.toNat_natCast]; rfl) (by first | exact trivial | exact Or.inr rfl | exact Or.inl rfl | (simp only [ob, obA, R32, R64] at *; omega) | (simp only [ob, obA, R32, R64] at *; and_intros <;> omega) | (simp [ob, obA])) ?_
        refine V_icmpeq dX12_stick_43 (tgt := 87) (by decide) (by simp only [R32, R64] at *; omega) (fun q43 => ?_) (fun q43 => ?_)
        · refine V_ex sX12_stick_87 (by rfl) (by first | exact trivial | exact Or.inr rfl | exact Or.inl rfl | (simp only [ob, obA, R32, R64] at *; omega) | (simp only [ob, obA, R32, R64] at *; and_intros <;> omega) | (simp [ob, obA])) ?_
          refine V_callV (M := MX12_stick) (N := MX12_refuse) dX12_stick_89 lRX12_404 kX12_refuse rfl (rfl) rfl (c_mRefuse (d := 2) (k := 3) hκ (by decide)) rfl rfl (Nat.le_of_ble_eq_true rfl) (fit_rm (by omega)) (⟨Nat.le_of_ble_eq_true rfl, Nat.le_of_ble_eq_true rfl⟩) (fun v Ω' hp => ?_) (fun _ _ h => h.elim)
          obtain ⟨rfl, rfl⟩ := hp
          refine V_iret dX12_stick_92 rfl (by decide) (by rw [er hx (Or.inl (by omega))]; exact md_ref hC1 hI (by decide) (fz0 G 0) rfl iu)
        · refine V_ex sX12_stick_46 (by simp only [Option.toList, List.cons_append, List.nil_append, exN, ex1, gI, gL, gR, pI, pL, pR, lget, lset1, lset2, kl, b2I, b2L, nob, ob32, ob64, xGet, xPut, xLen, xLd, xLdR, xSt, obA, true_and, and_true, and_self, eq_self, Nat.reduceEqDiff, Nat.zero_ne_one, reduceIte, Nat.reduceLeDiff, and_false, false_and, show skd 11 6 = 2 from rfl, show LF.1 145 = some (.inl 11) from rfl, show LF.2 145 6 = some 151 from rfl, show LF.1 151 = some (.inr (0, 12)) from rfl, asn (show 151 ≠ 145 by decide), m3, Int.toNat_natCast, upd2_eq, Int.reduceToNat, Int.toNat_natCast]; rfl) (by first | exact trivial | exact Or.inr rfl | exact Or.inl rfl | (simp only [ob, obA, R32, R64] at *; omega) | (simp only [ob, obA, R32, R64] at *; and_intros <;> omega) | (simp [ob, obA])) ?_
          refine V_icmpeq dX12_stick_55 (tgt := 87) (by decide) (by simp only [R32, R64] at *; omega) (fun q55 => ?_) (fun q55 => ?_)
          · refine V_ex sX12_stick_87 (by rfl) (by first | exact trivial | exact Or.inr rfl | exact Or.inl rfl | (simp only [ob, obA, R32, R64] at *; omega) | (simp only [ob, obA, R32, R64] at *; and_intros <;> omega) | (simp [ob, obA])) ?_
            refine V_callV (M := MX12_stick) (N := MX12_refuse) dX12_stick_89 lRX12_404 kX12_refuse rfl (rfl) rfl (c_mRefuse (d := 2) (k := 3) hκ (by decide)) rfl rfl (Nat.le_of_ble_eq_true rfl) (fit_rm (by omega)) (⟨Nat.le_of_ble_eq_true rfl, Nat.le_of_ble_eq_true rfl⟩) (fun v Ω' hp => ?_) (fun _ _ h => h.elim)
            obtain ⟨rfl, rfl⟩ := hp
            refine V_iret dX12_stick_92 rfl (by decide) (by rw [er hx (Or.inr (Or.inl (by omega)))]; exact md_ref hC1 hI (by decide) (fz0 G 0) rfl iu)
          · refine V_ex sX12_stick_58 (by rfl) (by first | exact trivial | exact Or.inr rfl | exact Or.inl rfl | (simp only [ob, obA, R32, R64] at *; omega) | (simp only [ob, obA, R32, R64] at *; and_intros <;> omega) | (simp [ob, obA])) ?_
            refine V_callV (M := MX12_stick) (N := MX12_isOut) dX12_stick_61 lRX12_389 kX12_isOut rfl (rfl) rfl (c_mIsOut (d := 2) hκ hC1.1 hI.1 hj hl (by omega)) rfl rfl (Nat.le_of_ble_eq_true rfl) (fit_rm (by omega)) (⟨Nat.le_of_ble_eq_true rfl, Nat.le_of_ble_eq_true rfl⟩) (fun v Ω' hp => ?_) (fun _ _ h => h.elim)
            obtain ⟨rfl, rfl⟩ := hp
            refine V_ifneB dX12_stick_64 (tgt := 87) (by decide) (fun q64 => ?_) (fun q64 => ?_)
            · refine V_ex sX12_stick_87 (by rfl) (by first | exact trivial | exact Or.inr rfl | exact Or.inl rfl | (simp only [ob, obA, R32, R64] at *; omega) | (simp only [ob, obA, R32, R64] at *; and_intros <;> omega) | (simp [ob, obA])) ?_
              refine V_callV (M := MX12_stick) (N := MX12_refuse) dX12_stick_89 lRX12_404 kX12_refuse rfl (rfl) rfl (c_mRefuse (d := 2) (k := 3) hκ (by decide)) rfl rfl (Nat.le_of_ble_eq_true rfl) (fit_rm (by omega)) (⟨Nat.le_of_ble_eq_true rfl, Nat.le_of_ble_eq_true rfl⟩) (fun v Ω' hp => ?_) (fun _ _ h => h.elim)
              obtain ⟨rfl, rfl⟩ := hp
              refine V_iret dX12_stick_92 rfl (by decide) (by rw [er hx (Or.inr (Or.inr (Or.inl (of_decide_eq_true q64))))]; exact md_ref hC1 hI (by decide) (fz0 G 0) rfl iu)
            · refine V_ex sX12_stick_67 (by rfl) (by first | exact trivial | exact Or.inr rfl | exact Or.inl rfl | (simp only [ob, obA, R32, R64] at *; omega) | (simp only [ob, obA, R32, R64] at *; and_intros <;> omega) | (simp [ob, obA])) ?_
              refine V_callV (M := MX12_stick) (N := MX12_isOut) dX12_stick_72 lRX12_389 kX12_isOut rfl (rfl) rfl (c_mIsOut (d := 2) hκ hC1.1 hI.1 hj (by unfold R32; omega) (by omega)) rfl rfl (Nat.le_of_ble_eq_true rfl) (fit_rm (by omega)) (⟨Nat.le_of_ble_eq_true rfl, Nat.le_of_ble_eq_true rfl⟩) (fun v Ω' hp => ?_) (fun _ _ h => h.elim)
              obtain ⟨rfl, rfl⟩ := hp
              refine V_ifneB dX12_stick_75 (tgt := 87) (by decide) (fun q75 => ?_) (fun q75 => ?_)
              · refine V_ex sX12_stick_87 (by rfl) (by first | exact trivial | exact Or.inr rfl | exact Or.inl rfl | (simp only [ob, obA, R32, R64] at *; omega) | (simp only [ob, obA, R32, R64] at *; and_intros <;> omega) | (simp [ob, obA])) ?_
                refine V_callV (M := MX12_stick) (N := MX12_refuse) dX12_stick_89 lRX12_404 kX12_refuse rfl (rfl) rfl (c_mRefuse (d := 2) (k := 3) hκ (by decide)) rfl rfl (Nat.le_of_ble_eq_true rfl) (fit_rm (by omega)) (⟨Nat.le_of_ble_eq_true rfl, Nat.le_of_ble_eq_true rfl⟩) (fun v Ω' hp => ?_) (fun _ _ h => h.elim)
                obtain ⟨rfl, rfl⟩ := hp
                refine V_iret dX12_stick_92 rfl (by decide) (by rw [er hx (Or.inr (Or.inr (Or.inr (Or.inl (of_decide_eq_true q75)))))]; exact md_ref hC1 hI (by decide) (fz0 G 0) rfl iu)
              · refine V_ex sX12_stick_78 (by rfl) (by first | exact trivial | exact Or.inr rfl | exact Or.inl rfl | (simp only [ob, obA, R32, R64] at *; omega) | (simp only [ob, obA, R32, R64] at *; and_intros <;> omega) | (simp [ob, obA])) ?_
                refine V_callV (M := MX12_stick) (N := MX12_sticks) dX12_stick_81 lRX12_517 kX12_sticks rfl (rfl) rfl (c_mSticks (d := 2) hκ hC1 h20.1 h20.2 hi hl) rfl rfl (Nat.le_of_ble_eq_true rfl) (fit_rm (by omega)) (⟨Nat.le_of_ble_eq_true rfl, Nat.le_of_ble_eq_true rfl⟩) (fun v Ω' hp => ?_) (fun _ _ h => h.elim)
                obtain ⟨rfl, rfl⟩ := hp
                refine V_ifeqB dX12_stick_84 (tgt := 93) (by decide) (fun q84 => ?_) (fun q84 => ?_)
                · refine V_ex sX12_stick_93 (by simp only [Option.toList, List.cons_append, List.nil_append, exN, ex1, gI, gL, gR, pI, pL, pR, lget, lset1, lset2, kl, b2I, b2L, nob, ob32, ob64, xGet, xPut, xLen, xLd, xLdR, xSt, obA, true_and, and_true, and_self, eq_self, Nat.reduceEqDiff, Nat.zero_ne_one, reduceIte, Nat.reduceLeDiff, and_false, false_and, show skd 11 46 = 2 from rfl, show skd 11 48 = 0 from rfl, show skd 11 47 = 2 from rfl, show LF.1 145 = some (.inl 11) from rfl, show LF.2 145 46 = some 172 from rfl, show LF.1 172 = some (.inr (0, 20)) from rfl, show LF.2 145 47 = some 173 from rfl, show LF.1 173 = some (.inr (0, 20)) from rfl, e48, b1, b2, b3, Int.toNat_natCast, upd2_eq, Int.reduceToNat, Int.toNat_natCast]; rfl) (by first | exact trivial | exact Or.inr rfl | exact Or.inl rfl | (simp only [ob, obA, R32, R64] at *; omega) | (simp only [ob, obA, R32, R64] at *; and_intros <;> omega) | (simp [ob, obA])) ?_
                  refine V_iret dX12_stick_127 rfl (by decide) (by rw [ey hx (fun q => by rcases q with q | q | q | q | q; omega; omega; exact absurd q (of_decide_eq_false q64); exact absurd q (of_decide_eq_false q75); rw [q84] at q; cases q)]; exact md_z hC2 ((((fz0 G 0).u (by omega)).u (by omega)).u (by omega)) rfl e02)
                · refine V_ex sX12_stick_87 (by rfl) (by first | exact trivial | exact Or.inr rfl | exact Or.inl rfl | (simp only [ob, obA, R32, R64] at *; omega) | (simp only [ob, obA, R32, R64] at *; and_intros <;> omega) | (simp [ob, obA])) ?_
                  refine V_callV (M := MX12_stick) (N := MX12_refuse) dX12_stick_89 lRX12_404 kX12_refuse rfl (rfl) rfl (c_mRefuse (d := 2) (k := 3) hκ (by decide)) rfl rfl (Nat.le_of_ble_eq_true rfl) (fit_rm (by omega)) (⟨Nat.le_of_ble_eq_true rfl, Nat.le_of_ble_eq_true rfl⟩) (fun v Ω' hp => ?_) (fun _ _ h => h.elim)
                  obtain ⟨rfl, rfl⟩ := hp
                  refine V_iret dX12_stick_92 rfl (by decide) (by rw [er hx (Or.inr (Or.inr (Or.inr (Or.inr q84))))]; exact md_ref hC1 hI (by decide) (fz0 G 0) rfl iu)
      · refine V_ex sX12_stick_31 (by rfl) (by first | exact trivial | exact Or.inr rfl | exact Or.inl rfl | (simp only [ob, obA, R32, R64] at *; omega) | (simp only [ob, obA, R32, R64] at *; and_intros <;> omega) | (simp [ob, obA])) ?_
        refine V_callV (M := MX12_stick) (N := MX12_fail) dX12_stick_33 lRX12_324 kX12_fail rfl (rfl) rfl (c_mfail (d := 2) hκ) rfl rfl (Nat.le_of_ble_eq_true rfl) (fit_rm (by omega)) (⟨Nat.le_of_ble_eq_true rfl, Nat.le_of_ble_eq_true rfl⟩) (fun v Ω' hp => ?_) (fun _ _ h => h.elim)
        obtain ⟨rfl, rfl⟩ := hp
        refine V_iret dX12_stick_36 rfl (by decide) (by rw [en (of_decide_eq_false q28)]; exact md_1 hC rfl rfl)
  · have e : stickP A i l = (1, 0, A) := by unfold stickP; rw [if_pos (fun q => hin q.1)]
    refine V_ex sX12_stick_0 (by simp only [Option.toList, List.cons_append, List.nil_append, exN, ex1, gI, gL, gR, pI, pL, pR, lget, lset1, lset2, kl, b2I, b2L, nob, ob32, ob64, xGet, xPut, xLen, xLd, xLdR, xSt, obA, true_and, and_true, and_self, eq_self, Nat.reduceEqDiff, Nat.zero_ne_one, reduceIte, Nat.reduceLeDiff, and_false, false_and, show skd 11 2 = 0 from rfl, show LF.1 145 = some (.inl 11) from rfl, upd2_eq, Int.reduceToNat, Int.toNat_natCast]; rfl) (by first | exact trivial | exact Or.inr rfl | exact Or.inl rfl | (simp only [ob, obA, R32, R64] at *; omega) | (simp only [ob, obA, R32, R64] at *; and_intros <;> omega) | (simp [ob, obA])) ?_
    refine V_callV (M := MX12_stick) (N := MX12_isBook) dX12_stick_7 lRX12_386 kX12_isBook rfl (rfl) rfl (c_mIsBook (d := 2) hκ hC1.1 hI.1 hi (by omega)) rfl rfl (Nat.le_of_ble_eq_true rfl) (fit_rm (by omega)) (⟨Nat.le_of_ble_eq_true rfl, Nat.le_of_ble_eq_true rfl⟩) (fun v Ω' hp => ?_) (fun _ _ h => h.elim)
    obtain ⟨rfl, rfl⟩ := hp
    refine V_ifeqB dX12_stick_10 (tgt := 31) (by decide) (fun q10 => ?_) (fun q10 => ?_)
    · refine V_ex sX12_stick_31 (by rfl) (by first | exact trivial | exact Or.inr rfl | exact Or.inl rfl | (simp only [ob, obA, R32, R64] at *; omega) | (simp only [ob, obA, R32, R64] at *; and_intros <;> omega) | (simp [ob, obA])) ?_
      refine V_callV (M := MX12_stick) (N := MX12_fail) dX12_stick_33 lRX12_324 kX12_fail rfl (rfl) rfl (c_mfail (d := 2) hκ) rfl rfl (Nat.le_of_ble_eq_true rfl) (fit_rm (by omega)) (⟨Nat.le_of_ble_eq_true rfl, Nat.le_of_ble_eq_true rfl⟩) (fun v Ω' hp => ?_) (fun _ _ h => h.elim)
      obtain ⟨rfl, rfl⟩ := hp
      refine V_iret dX12_stick_36 rfl (by decide) (by rw [e]; exact md_1 hC rfl rfl)
    · exact absurd (of_decide_eq_true q10) hin
