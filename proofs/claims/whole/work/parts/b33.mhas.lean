/-! THE MODEL: whether a copy has a leaf; the bits of a set -/
theorem mS0_cp {G : Wd} {S : Sh} (h : mS0 G S) {c : Nat} (hc : c < S.2.1.length) : mCp G c (S.2.1.getD c (0, [])) := by
  rw [List.getD_eq_getElem?_getD, List.getElem?_eq_getElem hc]; exact h.2.2.2.1 c hc
set_option maxRecDepth 100000 in
set_option maxHeartbeats 4000000 in
theorem c_mHasLeaf {κ : Kx} (hκ : KOK κ) {d c : Nat} {b l : Int} {S : Sh} {G : Wd} (hM : mS0 G S) (hO : okSh 500 S) (hc : c < S.2.1.length) (hb : R32 b) (hl : R32 l) (hd : 1 ≤ d) : Ct κ MX12_hasLeaf d 0 0 [VR 145, VI b, VI (c : Nat), VI l] (Wm G) (keepG G (VI (b2i (decide ((S.2.1.getD c (0, [])).1 = b ∧ l ∉ (S.2.1.getD c (0, [])).2))))) noX := by
  refine Ct_of hκ kX12_hasLeaf.1 rfl (Nat.le_of_ble_eq_true rfl) (ls := [some (VR 145), some (VI b), some (VI (c : Nat)), some (VI l)]) rfl (fun μ => ?_)
  have hok := hO.2.2.2.1 _ (List.getElem_mem hc)
  have hcp := mS0_cp hM hc
  have h8 := hO.2.2.1
  have hb6 := hO.1
  have eg : S.2.1.getD c (0, []) = S.2.1[c]'hc := by rw [List.getD_eq_getElem?_getD, List.getElem?_eq_getElem hc]; rfl
  rw [eg] at hcp ⊢
  obtain ⟨q, hq⟩ : ∃ q, q = S.2.1[c]'hc := ⟨_, rfl⟩
  rw [← hq] at hcp hok ⊢
  obtain ⟨m1, m2, m3⟩ := hcp
  obtain ⟨k1, k2, k3, k4⟩ := hok
  have e30 : (30 : Int) * (c : Int) = ((30 * c : Nat) : Int) := by omega
  have hA := c_mAmong (κ := κ) hκ (d := 0) (a := 156) (n := 480) (fr := 30 * c) (m := q.2.length) (v := l) (G := G) rfl (by omega) (by omega) hl (fun y hy => by rw [m3 y hy]; have := k4 _ (List.getElem_mem hy); unfold R32; omega)
  rw [amg_list m3] at hA
  refine V_ex sX12_hasLeaf_0 (by simp only [Option.toList, List.cons_append, List.nil_append, exN, ex1, gI, gL, gR, pI, pL, pR, lget, lset1, lset2, kl, b2I, b2L, nob, ob32, ob64, xGet, xPut, xLen, xLd, xLdR, xSt, obA, true_and, and_true, and_self, eq_self, Nat.reduceEqDiff, Nat.zero_ne_one, reduceIte, Nat.reduceLeDiff, and_false, false_and, show skd 11 9 = 2 from rfl, show LF.1 145 = some (.inl 11) from rfl, show LF.2 145 9 = some 154 from rfl, show LF.1 154 = some (.inr (0, 16)) from rfl, m1, m2, e30, Int.toNat_natCast, upd2_eq, Int.reduceToNat, Int.toNat_natCast]; rfl) (by first | exact trivial | exact Or.inr rfl | exact Or.inl rfl | (simp only [ob, obA, R32, R64] at *; omega) | (simp only [ob, obA, R32, R64] at *; and_intros <;> omega) | (simp [ob, obA])) ?_
  refine V_icmpne dX12_hasLeaf_7 (tgt := 35) (by decide) (by exact ⟨by unfold R32; omega, hb⟩) (fun q7 => ?_) (fun q7 => ?_)
  · refine V_ex sX12_hasLeaf_35 (by rfl) (by first | exact trivial | exact Or.inr rfl | exact Or.inl rfl | (simp only [ob, obA, R32, R64] at *; omega) | (simp only [ob, obA, R32, R64] at *; and_intros <;> omega) | (simp [ob, obA])) ?_
    refine V_zret dX12_hasLeaf_36 rfl (by first | exact Or.inl rfl | exact Or.inr rfl | exact b2i_01 _) (by decide) ⟨by rw [decide_eq_false (fun z => q7 z.1)]; rfl, rfl⟩
  · refine V_ex sX12_hasLeaf_10 (by simp only [Option.toList, List.cons_append, List.nil_append, exN, ex1, gI, gL, gR, pI, pL, pR, lget, lset1, lset2, kl, b2I, b2L, nob, ob32, ob64, xGet, xPut, xLen, xLd, xLdR, xSt, obA, true_and, and_true, and_self, eq_self, Nat.reduceEqDiff, Nat.zero_ne_one, reduceIte, Nat.reduceLeDiff, and_false, false_and, show skd 11 11 = 2 from rfl, show skd 11 10 = 2 from rfl, show LF.1 145 = some (.inl 11) from rfl, show LF.2 145 11 = some 156 from rfl, show LF.2 145 10 = some 155 from rfl, show LF.1 155 = some (.inr (0, 16)) from rfl, m1, m2, e30, Int.toNat_natCast, upd2_eq, Int.reduceToNat, Int.toNat_natCast]; rfl) (by first | exact trivial | exact Or.inr rfl | exact Or.inl rfl | (simp only [ob, obA, R32, R64] at *; omega) | (simp only [ob, obA, R32, R64] at *; and_intros <;> omega) | (simp [ob, obA])) ?_
    refine V_callS (M := MX12_hasLeaf) (N := MX12_isAmong) dX12_hasLeaf_25 lRX12_295 kX12_isAmong rfl (hA) rfl rfl (Nat.le_of_ble_eq_true rfl) (fit_rm (by omega)) (⟨Nat.le_of_ble_eq_true rfl, Nat.le_of_ble_eq_true rfl⟩) (fun v Ω' hp => ?_) (fun _ _ h => h.elim)
    obtain ⟨rfl, rfl⟩ := hp
    refine V_ifneB dX12_hasLeaf_28 (tgt := 35) (by decide) (fun q28 => ?_) (fun q28 => ?_)
    · refine V_ex sX12_hasLeaf_35 (by rfl) (by first | exact trivial | exact Or.inr rfl | exact Or.inl rfl | (simp only [ob, obA, R32, R64] at *; omega) | (simp only [ob, obA, R32, R64] at *; and_intros <;> omega) | (simp [ob, obA])) ?_
      refine V_zret dX12_hasLeaf_36 rfl (by first | exact Or.inl rfl | exact Or.inr rfl | exact b2i_01 _) (by decide) ⟨by rw [decide_eq_false (fun z => z.2 (of_decide_eq_true q28))]; rfl, rfl⟩
    · refine V_ex sX12_hasLeaf_31 (by rfl) (by first | exact trivial | exact Or.inr rfl | exact Or.inl rfl | (simp only [ob, obA, R32, R64] at *; omega) | (simp only [ob, obA, R32, R64] at *; and_intros <;> omega) | (simp [ob, obA])) ?_
      refine V_goto dX12_hasLeaf_32 (tgt := 36) (by decide) ?_
      refine V_zret dX12_hasLeaf_36 rfl (by first | exact Or.inl rfl | exact Or.inr rfl | exact b2i_01 _) (by decide) ⟨by rw [decide_eq_true ⟨q7, of_decide_eq_false q28⟩]; rfl, rfl⟩
