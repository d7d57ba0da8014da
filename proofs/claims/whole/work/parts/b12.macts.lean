/-! THE MODEL: wrong, loosen, stick, fault -/
/-- the same shelf, other events -/
theorem RM_v {G G' : Wd} {A : Ab} {v' : Ev} (h : RM G A) (f : FZm G G') (h2 : G'.1 152 = G.1 152) (h3 : G'.1 153 = G.1 153) (hv : evM G' mcN A.1 v') : RM G' (A.1, v', A.2.2) := RM_E h f (mS0_z h.1 f h2 h3) hv h.2.2.2.1
set_option maxRecDepth 100000 in
set_option maxHeartbeats 4000000 in
theorem c_mxFault {κ : Kx} (hκ : KOK κ) {d : Nat} {A : Ab} {G : Wd} (hC : RM G A) (hd : 20 ≤ d) : Ct κ MX12_fault d 0 0 [VR 145] (Wm G) (mdP G A (some (VI A.2.2.2.1.1)) 0) noX := by
  refine Ct_of hκ kX12_fault.1 rfl (Nat.le_of_ble_eq_true rfl) (ls := [some (VR 145)]) rfl (fun μ => ?_)
  have e : upd2 G.1 145 2 0 145 28 = A.2.2.2.1.1 := by rw [as5 (by decide)]; exact hC.2.2.2.2.1
  refine V_ex sX12_fault_0 (by simp only [Option.toList, List.cons_append, List.nil_append, exN, ex1, gI, gL, gR, pI, pL, pR, lget, lset1, lset2, kl, b2I, b2L, nob, ob32, ob64, xGet, xPut, xLen, xLd, xLdR, xSt, obA, true_and, and_true, and_self, eq_self, Nat.reduceEqDiff, Nat.zero_ne_one, reduceIte, Nat.reduceLeDiff, and_false, false_and, show skd 11 2 = 0 from rfl, show skd 11 28 = 0 from rfl, show LF.1 145 = some (.inl 11) from rfl, e, upd2_eq, Int.reduceToNat, Int.toNat_natCast]; rfl) (by first | exact trivial | exact Or.inr rfl | exact Or.inl rfl | (simp only [ob, obA, R32, R64] at *; omega) | (simp only [ob, obA, R32, R64] at *; and_intros <;> omega) | (simp [ob, obA])) ?_
  refine V_iret dX12_fault_9 rfl (by decide) (md_0 hC rfl rfl)
set_option maxRecDepth 100000 in
set_option maxHeartbeats 4000000 in
theorem c_mxWrong {κ : Kx} (hκ : KOK κ) {d : Nat} {K : Int} {A : Ab} {G : Wd} (hC : RM G A) (hI : Inv K A) (hd : 20 ≤ d) : Ct κ MX12_wrong d 0 0 [VR 145] (Wm G) (mdP G (wrongP A).2.2 (some (VI (wrongP A).2.1)) (wrongP A).1) noX := by
  refine Ct_of hκ kX12_wrong.1 rfl (Nat.le_of_ble_eq_true rfl) (ls := [some (VR 145), none]) rfl (fun μ => ?_)
  have hC1 := RM_0 hC 0
  obtain ⟨v1, v2, v3, v4, v5, v6, v7, v8⟩ := hC1.2.1
  dsimp only [mcN] at v1 v2 v3 v4 v5 v6 v7 v8
  obtain ⟨i1, i2, i3, i4⟩ := hI.2.1.2.1
  have fin : RM (uI (uI G 145 2 0) 145 36 0) (wrongP A).2.2 := by
    have hf : FZm (uI G 145 2 0) (uI (uI G 145 2 0) 145 36 0) := (FZm.refl _).u (by omega)
    refine RM_v hC1 hf (funext fun y => iv (by omega)) (funext fun y => iv (by omega)) ⟨?_, fun i hi => ?_, ?_, iu, fun q => absurd rfl q, ?_, fun i hi => ?_, fun i hi => ?_⟩
    · dsimp only [mcN]; rw [uv (by omega)]; exact v1
    · dsimp only [mcN]; rw [uv (by omega), uv (by omega), uv (by omega)]; exact v2 i hi
    · dsimp only [mcN]; rw [uv (by omega)]; exact v3
    · dsimp only [mcN]; rw [uv (by omega)]; exact v6
    · dsimp only [mcN]; rw [uv (by omega), uv (by omega)]; exact v7 i hi
    · dsimp only [mcN]; rw [uv (by omega)]; exact v8 i hi
  have e36 : upd2 G.1 145 2 0 145 36 = A.2.1.2.1.2.1 := v4
  have go : ∀ z, z = A.2.1.2.1.2.2 → mdP G (wrongP A).2.2 (some (VI (wrongP A).2.1)) (wrongP A).1 (some (VI z)) (Wm (uI (uI G 145 2 0) 145 36 0)) := fun z hz => md_z fin ((fz0 G 0).u (by omega)) (by rw [hz]; rfl) (by rw [iv (by omega)]; exact iu)
  by_cases h0 : A.2.1.2.1.2.1 = 0
  · refine V_ex sX12_wrong_0 (by simp only [Option.toList, List.cons_append, List.nil_append, exN, ex1, gI, gL, gR, pI, pL, pR, lget, lset1, lset2, kl, b2I, b2L, nob, ob32, ob64, xGet, xPut, xLen, xLd, xLdR, xSt, obA, true_and, and_true, and_self, eq_self, Nat.reduceEqDiff, Nat.zero_ne_one, reduceIte, Nat.reduceLeDiff, and_false, false_and, show skd 11 2 = 0 from rfl, show skd 11 36 = 0 from rfl, show LF.1 145 = some (.inl 11) from rfl, e36, upd2_eq, Int.reduceToNat, Int.toNat_natCast]; rfl) (by first | exact trivial | exact Or.inr rfl | exact Or.inl rfl | (simp only [ob, obA, R32, R64] at *; omega) | (simp only [ob, obA, R32, R64] at *; and_intros <;> omega) | (simp [ob, obA])) ?_
    refine V_ifne dX12_wrong_9 (tgt := 16) (by decide) (by simp only [R32, R64] at *; omega) (fun q9 => ?_) (fun q9 => ?_)
    · omega
    · refine V_ex sX12_wrong_12 (by rfl) (by first | exact trivial | exact Or.inr rfl | exact Or.inl rfl | (simp only [ob, obA, R32, R64] at *; omega) | (simp only [ob, obA, R32, R64] at *; and_intros <;> omega) | (simp [ob, obA])) ?_
      refine V_goto dX12_wrong_13 (tgt := 20) (by decide) ?_
      refine V_ex sX12_wrong_20 (by simp only [Option.toList, List.cons_append, List.nil_append, exN, ex1, gI, gL, gR, pI, pL, pR, lget, lset1, lset2, kl, b2I, b2L, nob, ob32, ob64, xGet, xPut, xLen, xLd, xLdR, xSt, obA, true_and, and_true, and_self, eq_self, Nat.reduceEqDiff, Nat.zero_ne_one, reduceIte, Nat.reduceLeDiff, and_false, false_and, show skd 11 36 = 0 from rfl, show LF.1 145 = some (.inl 11) from rfl, upd2_eq, Int.reduceToNat, Int.toNat_natCast]; rfl) (by first | exact trivial | exact Or.inr rfl | exact Or.inl rfl | (simp only [ob, obA, R32, R64] at *; omega) | (simp only [ob, obA, R32, R64] at *; and_intros <;> omega) | (simp [ob, obA])) ?_
      refine V_iret dX12_wrong_27 rfl (by decide) (go _ (i2 h0).symm)
  · have e38 : upd2 G.1 145 2 0 145 38 = A.2.1.2.1.2.2 := (v5 h0).2.1
    refine V_ex sX12_wrong_0 (by simp only [Option.toList, List.cons_append, List.nil_append, exN, ex1, gI, gL, gR, pI, pL, pR, lget, lset1, lset2, kl, b2I, b2L, nob, ob32, ob64, xGet, xPut, xLen, xLd, xLdR, xSt, obA, true_and, and_true, and_self, eq_self, Nat.reduceEqDiff, Nat.zero_ne_one, reduceIte, Nat.reduceLeDiff, and_false, false_and, show skd 11 2 = 0 from rfl, show skd 11 36 = 0 from rfl, show LF.1 145 = some (.inl 11) from rfl, e36, upd2_eq, Int.reduceToNat, Int.toNat_natCast]; rfl) (by first | exact trivial | exact Or.inr rfl | exact Or.inl rfl | (simp only [ob, obA, R32, R64] at *; omega) | (simp only [ob, obA, R32, R64] at *; and_intros <;> omega) | (simp [ob, obA])) ?_
    refine V_ifne dX12_wrong_9 (tgt := 16) (by decide) (by simp only [R32, R64] at *; omega) (fun q9 => ?_) (fun q9 => ?_)
    · refine V_ex sX12_wrong_16 (by simp only [Option.toList, List.cons_append, List.nil_append, exN, ex1, gI, gL, gR, pI, pL, pR, lget, lset1, lset2, kl, b2I, b2L, nob, ob32, ob64, xGet, xPut, xLen, xLd, xLdR, xSt, obA, true_and, and_true, and_self, eq_self, Nat.reduceEqDiff, Nat.zero_ne_one, reduceIte, Nat.reduceLeDiff, and_false, false_and, show skd 11 38 = 0 from rfl, show LF.1 145 = some (.inl 11) from rfl, e38, upd2_eq, Int.reduceToNat, Int.toNat_natCast]; rfl) (by first | exact trivial | exact Or.inr rfl | exact Or.inl rfl | (simp only [ob, obA, R32, R64] at *; omega) | (simp only [ob, obA, R32, R64] at *; and_intros <;> omega) | (simp [ob, obA])) ?_
      refine V_ex sX12_wrong_20 (by simp only [Option.toList, List.cons_append, List.nil_append, exN, ex1, gI, gL, gR, pI, pL, pR, lget, lset1, lset2, kl, b2I, b2L, nob, ob32, ob64, xGet, xPut, xLen, xLd, xLdR, xSt, obA, true_and, and_true, and_self, eq_self, Nat.reduceEqDiff, Nat.zero_ne_one, reduceIte, Nat.reduceLeDiff, and_false, false_and, show skd 11 36 = 0 from rfl, show LF.1 145 = some (.inl 11) from rfl, upd2_eq, Int.reduceToNat, Int.toNat_natCast]; rfl) (by first | exact trivial | exact Or.inr rfl | exact Or.inl rfl | (simp only [ob, obA, R32, R64] at *; omega) | (simp only [ob, obA, R32, R64] at *; and_intros <;> omega) | (simp [ob, obA])) ?_
      refine V_iret dX12_wrong_27 rfl (by decide) (go _ rfl)
    · omega
set_option maxRecDepth 100000 in
set_option maxHeartbeats 4000000 in
theorem c_mxLoosen {κ : Kx} (hκ : KOK κ) {d : Nat} {K : Int} {A : Ab} {G : Wd} (hC : RM G A) (hI : Inv K A) (hd : 20 ≤ d) : Ct κ MX12_loosen d 0 0 [VR 145] (Wm G) (mdP G (loosenP A).2.2 (some (VI (loosenP A).2.1)) (loosenP A).1) noX := by
  refine Ct_of hκ kX12_loosen.1 rfl (Nat.le_of_ble_eq_true rfl) (ls := [some (VR 145)]) rfl (fun μ => ?_)
  have hC1 := RM_0 hC 0
  obtain ⟨v1, v2, v3, v4, v5, v6, v7, v8⟩ := hC1.2.1
  dsimp only [mcN] at v1 v2 v3 v4 v5 v6 v7 v8
  have e48 : upd2 G.1 145 2 0 145 48 = (A.2.1.2.2.1.length : Nat) := v6
  have h20 := hI.2.1.2.2.1.1
  by_cases h0 : A.2.1.2.2.1.length = 0
  · have e : loosenP A = (0, -1, A) := by unfold loosenP; rw [if_pos h0]
    refine V_ex sX12_loosen_0 (by simp only [Option.toList, List.cons_append, List.nil_append, exN, ex1, gI, gL, gR, pI, pL, pR, lget, lset1, lset2, kl, b2I, b2L, nob, ob32, ob64, xGet, xPut, xLen, xLd, xLdR, xSt, obA, true_and, and_true, and_self, eq_self, Nat.reduceEqDiff, Nat.zero_ne_one, reduceIte, Nat.reduceLeDiff, and_false, false_and, show skd 11 2 = 0 from rfl, show skd 11 48 = 0 from rfl, show LF.1 145 = some (.inl 11) from rfl, e48, upd2_eq, Int.reduceToNat, Int.toNat_natCast]; rfl) (by first | exact trivial | exact Or.inr rfl | exact Or.inl rfl | (simp only [ob, obA, R32, R64] at *; omega) | (simp only [ob, obA, R32, R64] at *; and_intros <;> omega) | (simp [ob, obA])) ?_
    refine V_ifne dX12_loosen_9 (tgt := 14) (by decide) (by simp only [R32, R64] at *; omega) (fun q9 => ?_) (fun q9 => ?_)
    · omega
    · refine V_ex sX12_loosen_12 (by rfl) (by first | exact trivial | exact Or.inr rfl | exact Or.inl rfl | (simp only [ob, obA, R32, R64] at *; omega) | (simp only [ob, obA, R32, R64] at *; and_intros <;> omega) | (simp [ob, obA])) ?_
      refine V_iret dX12_loosen_13 rfl (by decide) (by rw [e]; exact md_0 hC rfl rfl)
  · have e : loosenP A = (0, ((A.2.1.2.2.1.length - 1 : Nat) : Int), (A.1, (A.2.1.1, A.2.1.2.1, A.2.1.2.2.1.take (A.2.1.2.2.1.length - 1), A.2.1.2.2.2), A.2.2)) := by unfold loosenP; rw [if_neg h0]
    have ei : (A.2.1.2.2.1.length : Int) - 1 = ((A.2.1.2.2.1.length - 1 : Nat) : Int) := by omega
    have fin : RM (uI (uI G 145 2 0) 145 48 ((A.2.1.2.2.1.length - 1 : Nat) : Int)) (A.1, (A.2.1.1, A.2.1.2.1, A.2.1.2.2.1.take (A.2.1.2.2.1.length - 1), A.2.1.2.2.2), A.2.2) := by
      have hf : FZm (uI G 145 2 0) (uI (uI G 145 2 0) 145 48 ((A.2.1.2.2.1.length - 1 : Nat) : Int)) := (FZm.refl _).u (by omega)
      refine RM_v hC1 hf (funext fun y => iv (by omega)) (funext fun y => iv (by omega)) ⟨?_, fun i hi => ?_, ?_, ?_, fun q => ?_, ?_, fun i hi => ?_, fun i hi => ?_⟩
      · dsimp only [mcN]; rw [uv (by omega)]; exact v1
      · dsimp only [mcN]; rw [uv (by omega), uv (by omega), uv (by omega)]; exact v2 i hi
      · dsimp only [mcN]; rw [uv (by omega)]; exact v3
      · dsimp only [mcN]; rw [uv (by omega)]; exact v4
      · dsimp only [mcN]; rw [uv (by omega), uv (by omega)]; exact v5 q
      · dsimp only [mcN]; rw [upd2_same]; rw [List.length_take]; omega
      · dsimp only [mcN] at hi ⊢
        rw [uv (by omega), uv (by omega), List.getElem_take]
        exact v7 i (by rw [List.length_take] at hi; omega)
      · dsimp only [mcN]; rw [uv (by omega)]; exact v8 i hi
    have e02 : (uI (uI G 145 2 0) 145 48 ((A.2.1.2.2.1.length - 1 : Nat) : Int)).1 145 2 = 0 := by rw [iv (by omega)]; exact iu
    have e2 : upd2 (upd2 G.1 145 2 0) 145 48 ((A.2.1.2.2.1.length - 1 : Nat) : Int) 145 48 = ((A.2.1.2.2.1.length - 1 : Nat) : Int) := upd2_same ..
    refine V_ex sX12_loosen_0 (by simp only [Option.toList, List.cons_append, List.nil_append, exN, ex1, gI, gL, gR, pI, pL, pR, lget, lset1, lset2, kl, b2I, b2L, nob, ob32, ob64, xGet, xPut, xLen, xLd, xLdR, xSt, obA, true_and, and_true, and_self, eq_self, Nat.reduceEqDiff, Nat.zero_ne_one, reduceIte, Nat.reduceLeDiff, and_false, false_and, show skd 11 2 = 0 from rfl, show skd 11 48 = 0 from rfl, show LF.1 145 = some (.inl 11) from rfl, e48, upd2_eq, Int.reduceToNat, Int.toNat_natCast]; rfl) (by first | exact trivial | exact Or.inr rfl | exact Or.inl rfl | (simp only [ob, obA, R32, R64] at *; omega) | (simp only [ob, obA, R32, R64] at *; and_intros <;> omega) | (simp [ob, obA])) ?_
    refine V_ifne dX12_loosen_9 (tgt := 14) (by decide) (by simp only [R32, R64] at *; omega) (fun q9 => ?_) (fun q9 => ?_)
    · refine V_ex sX12_loosen_14 (by simp only [Option.toList, List.cons_append, List.nil_append, exN, ex1, gI, gL, gR, pI, pL, pR, lget, lset1, lset2, kl, b2I, b2L, nob, ob32, ob64, xGet, xPut, xLen, xLd, xLdR, xSt, obA, true_and, and_true, and_self, eq_self, Nat.reduceEqDiff, Nat.zero_ne_one, reduceIte, Nat.reduceLeDiff, and_false, false_and, show skd 11 48 = 0 from rfl, show LF.1 145 = some (.inl 11) from rfl, e48, ei, e2, upd2_eq, Int.reduceToNat, Int.toNat_natCast]; rfl) (by first | exact trivial | exact Or.inr rfl | exact Or.inl rfl | (simp only [ob, obA, R32, R64] at *; omega) | (simp only [ob, obA, R32, R64] at *; and_intros <;> omega) | (simp [ob, obA])) ?_
      refine V_iret dX12_loosen_28 rfl (by decide) (by rw [e]; exact md_z fin ((fz0 G 0).u (by omega)) rfl e02)
    · omega
set_option maxRecDepth 100000 in
set_option maxHeartbeats 4000000 in
theorem c_mSticks {κ : Kx} (hκ : KOK κ) {d : Nat} {i l : Int} {A : Ab} {G : Wd} (hC : RM G A) (h20 : A.2.1.2.2.1.length ≤ 20) (hqR : ∀ q ∈ A.2.1.2.2.1, (0 ≤ q.1 ∧ q.1 < 6) ∧ 0 ≤ q.2 ∧ q.2 < 2000) (hi : R32 i) (hl : R32 l) : Ct κ MX12_sticks d 0 0 [VR 145, VI i, VI l] (Wm G) (keepG G (VI (b2i (sticksB A.2.1 i l)))) noX := by
  refine Ct_of hκ kX12_sticks.1 rfl (Nat.le_of_ble_eq_true rfl) (ls := [some (VR 145), some (VI i), some (VI l), none]) rfl (fun μ => ?_)
  obtain ⟨v1, v2, v3, v4, v5, v6, v7, v8⟩ := hC.2.1
  dsimp only [mcN] at v6 v7
  have L : ∀ (k n : Nat) (nn : Int), n + k = A.2.1.2.2.1.length → nn = (n : Int) → sticksB A.2.1 i l = (A.2.1.2.2.1.drop n).any (fun q => decide (q.1 = i ∧ q.2 = l)) → V κ MX12_sticks (rmD d 0 0) (keepG G (VI (b2i (sticksB A.2.1 i l)))) noX 0 0 μ 0 0 (Wm (G)) 2 [some (VR 145), some (VI i), some (VI l), some (VI nn)] [] := by
    intro k
    induction k with
    | zero =>
      intro n nn hnk hnn he
      have e : sticksB A.2.1 i l = false := by rw [he, List.drop_of_length_le (by omega)]; rfl
      refine V_ex sX12_sticks_2 (by simp only [Option.toList, List.cons_append, List.nil_append, exN, ex1, gI, gL, gR, pI, pL, pR, lget, lset1, lset2, kl, b2I, b2L, nob, ob32, ob64, xGet, xPut, xLen, xLd, xLdR, xSt, obA, true_and, and_true, and_self, eq_self, Nat.reduceEqDiff, Nat.zero_ne_one, reduceIte, Nat.reduceLeDiff, and_false, false_and, show skd 11 48 = 0 from rfl, show LF.1 145 = some (.inl 11) from rfl, v6, upd2_eq, Int.reduceToNat, Int.toNat_natCast]; rfl) (by first | exact trivial | exact Or.inr rfl | exact Or.inl rfl | (simp only [ob, obA, R32, R64] at *; omega) | (simp only [ob, obA, R32, R64] at *; and_intros <;> omega) | (simp [ob, obA])) ?_
      refine V_icmpge dX12_sticks_7 (tgt := 38) (by decide) (by simp only [R32, R64] at *; omega) (fun q7 => ?_) (fun q7 => ?_)
      · refine V_ex sX12_sticks_38 (by rfl) (by first | exact trivial | exact Or.inr rfl | exact Or.inl rfl | (simp only [ob, obA, R32, R64] at *; omega) | (simp only [ob, obA, R32, R64] at *; and_intros <;> omega) | (simp [ob, obA])) ?_
        refine V_zret dX12_sticks_39 rfl (by first | exact Or.inl rfl | exact Or.inr rfl | exact b2i_01 _) (by decide) ⟨by rw [e]; rfl, rfl⟩
      · omega
    | succ k ih =>
      intro n nn hnk hnn he
      subst hnn
      have hn : n < A.2.1.2.2.1.length := by omega
      obtain ⟨a1, a2⟩ := v7 n hn
      have hq := hqR _ (List.getElem_mem hn)
      rw [List.drop_eq_getElem_cons hn, List.any_cons] at he
      have nx : ¬ ((A.2.1.2.2.1[n]'hn).1 = i ∧ (A.2.1.2.2.1[n]'hn).2 = l) → sticksB A.2.1 i l = (A.2.1.2.2.1.drop (n + 1)).any (fun q => decide (q.1 = i ∧ q.2 = l)) := fun h => by rw [he, decide_eq_false h]; rfl
      refine V_ex sX12_sticks_2 (by simp only [Option.toList, List.cons_append, List.nil_append, exN, ex1, gI, gL, gR, pI, pL, pR, lget, lset1, lset2, kl, b2I, b2L, nob, ob32, ob64, xGet, xPut, xLen, xLd, xLdR, xSt, obA, true_and, and_true, and_self, eq_self, Nat.reduceEqDiff, Nat.zero_ne_one, reduceIte, Nat.reduceLeDiff, and_false, false_and, show skd 11 48 = 0 from rfl, show LF.1 145 = some (.inl 11) from rfl, v6, a1, a2, Int.toNat_natCast, upd2_eq, Int.reduceToNat, Int.toNat_natCast]; rfl) (by first | exact trivial | exact Or.inr rfl | exact Or.inl rfl | (simp only [ob, obA, R32, R64] at *; omega) | (simp only [ob, obA, R32, R64] at *; and_intros <;> omega) | (simp [ob, obA])) ?_
      refine V_icmpge dX12_sticks_7 (tgt := 38) (by decide) (by simp only [R32, R64] at *; omega) (fun q7 => ?_) (fun q7 => ?_)
      · omega
      · refine V_ex sX12_sticks_10 (by simp only [Option.toList, List.cons_append, List.nil_append, exN, ex1, gI, gL, gR, pI, pL, pR, lget, lset1, lset2, kl, b2I, b2L, nob, ob32, ob64, xGet, xPut, xLen, xLd, xLdR, xSt, obA, true_and, and_true, and_self, eq_self, Nat.reduceEqDiff, Nat.zero_ne_one, reduceIte, Nat.reduceLeDiff, and_false, false_and, show skd 11 46 = 2 from rfl, show LF.1 145 = some (.inl 11) from rfl, show LF.2 145 46 = some 172 from rfl, show LF.1 172 = some (.inr (0, 20)) from rfl, v6, a1, a2, Int.toNat_natCast, upd2_eq, Int.reduceToNat, Int.toNat_natCast]; rfl) (by first | exact trivial | exact Or.inr rfl | exact Or.inl rfl | (simp only [ob, obA, R32, R64] at *; omega) | (simp only [ob, obA, R32, R64] at *; and_intros <;> omega) | (simp [ob, obA])) ?_
        refine V_icmpne dX12_sticks_17 (tgt := 32) (by decide) (by simp only [R32, R64] at *; omega) (fun q17 => ?_) (fun q17 => ?_)
        · refine V_ex sX12_sticks_32 (by rfl) (by first | exact trivial | exact Or.inr rfl | exact Or.inl rfl | (simp only [ob, obA, R32, R64] at *; omega) | (simp only [ob, obA, R32, R64] at *; and_intros <;> omega) | (simp [ob, obA])) ?_
          refine V_goto dX12_sticks_35 (tgt := 2) (by decide) ?_
          exact ih (n + 1) _ (by omega) (by omega) (nx (fun q => q17 q.1))
        · refine V_ex sX12_sticks_20 (by simp only [Option.toList, List.cons_append, List.nil_append, exN, ex1, gI, gL, gR, pI, pL, pR, lget, lset1, lset2, kl, b2I, b2L, nob, ob32, ob64, xGet, xPut, xLen, xLd, xLdR, xSt, obA, true_and, and_true, and_self, eq_self, Nat.reduceEqDiff, Nat.zero_ne_one, reduceIte, Nat.reduceLeDiff, and_false, false_and, show skd 11 47 = 2 from rfl, show LF.1 145 = some (.inl 11) from rfl, show LF.2 145 47 = some 173 from rfl, show LF.1 173 = some (.inr (0, 20)) from rfl, v6, a1, a2, Int.toNat_natCast, upd2_eq, Int.reduceToNat, Int.toNat_natCast]; rfl) (by first | exact trivial | exact Or.inr rfl | exact Or.inl rfl | (simp only [ob, obA, R32, R64] at *; omega) | (simp only [ob, obA, R32, R64] at *; and_intros <;> omega) | (simp [ob, obA])) ?_
          refine V_icmpne dX12_sticks_27 (tgt := 32) (by decide) (by simp only [R32, R64] at *; omega) (fun q27 => ?_) (fun q27 => ?_)
          · refine V_ex sX12_sticks_32 (by rfl) (by first | exact trivial | exact Or.inr rfl | exact Or.inl rfl | (simp only [ob, obA, R32, R64] at *; omega) | (simp only [ob, obA, R32, R64] at *; and_intros <;> omega) | (simp [ob, obA])) ?_
            refine V_goto dX12_sticks_35 (tgt := 2) (by decide) ?_
            exact ih (n + 1) _ (by omega) (by omega) (nx (fun q => q27 q.2))
          · refine V_ex sX12_sticks_30 (by rfl) (by first | exact trivial | exact Or.inr rfl | exact Or.inl rfl | (simp only [ob, obA, R32, R64] at *; omega) | (simp only [ob, obA, R32, R64] at *; and_intros <;> omega) | (simp [ob, obA])) ?_
            refine V_zret dX12_sticks_31 rfl (by first | exact Or.inl rfl | exact Or.inr rfl | exact b2i_01 _) (by decide) ⟨by rw [he, decide_eq_true ⟨q17, q27⟩]; rfl, rfl⟩
  refine V_ex sX12_sticks_0 (by rfl) (by first | exact trivial | exact Or.inr rfl | exact Or.inl rfl | (simp only [ob, obA, R32, R64] at *; omega) | (simp only [ob, obA, R32, R64] at *; and_intros <;> omega) | (simp [ob, obA])) ?_
  exact L A.2.1.2.2.1.length 0 0 (by omega) rfl rfl
