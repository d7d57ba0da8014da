/-! TornLeaves: put; wrong, loosen, fault -/
theorem lsIs_perm {G : Wd} {a : Nat} {g g' : List Int} (h : lsIs G a g) (hl : g'.length = g.length) (hm : ∀ x, x ∈ g' ↔ x ∈ g) : lsIs G a g' := ⟨by rw [hl]; exact h.1, fun z => by rw [h.2 z]; exact decide_eq_decide.mpr (hm z).symm⟩
theorem bkPut_nd {g : List Int} {t : Tn} (h : g.Nodup) (h1 : t.2.1 ∈ g) (h2 : t.2.2 ≠ -1 → t.2.2 ∈ g ∧ t.2.2 ≠ t.2.1) : (bkPut g t).Nodup ∧ (∀ x, x ∈ bkPut g t ↔ x ∈ g ∧ x ≠ t.2.1 ∧ (t.2.2 ≠ -1 → x ≠ t.2.2)) ∧ (bkPut g t).length = g.length - (if t.2.2 = -1 then 1 else 2) := by
  unfold bkPut
  by_cases c : t.2.2 = -1
  · rw [if_pos c, if_pos c]
    exact ⟨rmS_nd h h1, fun x => by rw [rmS_mem h h1]; exact ⟨fun q => ⟨q.1, q.2, fun p => absurd c p⟩, fun q => ⟨q.1, q.2.1⟩⟩, rmS_len _ _⟩
  · rw [if_neg c, if_neg c]
    obtain ⟨a1, a2⟩ := h2 c
    have b1 := rmS_nd h a1
    have b2 : t.2.1 ∈ rmS g t.2.2 := (rmS_mem h a1 _).mpr ⟨h1, fun q => a2 q.symm⟩
    exact ⟨rmS_nd b1 b2, fun x => by rw [rmS_mem b1 b2, rmS_mem h a1]; exact ⟨fun q => ⟨q.1.1, q.2, fun _ => q.1.2⟩, fun q => ⟨⟨q.1, q.2.2 c⟩, q.2.1⟩⟩, by rw [rmS_len, rmS_len]; omega⟩
def gvW (G : Wd) (a : Nat) (z o : Int) : Wd := if o = -1 then lsGive G a z else lsGive (lsGive G a z) a o
theorem gvW_ne {G : Wd} {a x : Nat} {z o : Int} (h1 : x ≠ a) (h2 : x ≠ a + 1) : (gvW G a z o).1 x = G.1 x := by
  unfold gvW; split
  · exact lsGive_ne h1 h2
  · rw [lsGive_ne h1 h2, lsGive_ne h1 h2]
theorem gvW_2 {G : Wd} {a : Nat} {z o : Int} : (gvW G a z o).2 = G.2 := by
  unfold gvW; split
  · exact lsGive_2
  · rw [lsGive_2, lsGive_2]
theorem RC_put {G : Wd} {s j : Nat} {A : Ab} {K : Int} (h : RC G s A) (hI : Inv K A) (hn : A.2.1.1.length ≠ 0) (hj : j = (lastT A).1.toNat) : RC (gvW (uI G 114 3 ((A.2.1.1.length - 1 : Nat) : Int)) (s + 7 + 5 * j + 1) (lastT A).2.1 (lastT A).2.2) s (putA A) := by
  have h0 := h
  obtain ⟨-, r4, r5, ⟨v1, v2, v3, v4, v5, v6, v7, v8⟩, -, -, -, -, -, -, -, r14, r15, r16⟩ := h
  obtain ⟨t1, t2, t3, t4⟩ := lastT_ok hI hn
  have hs8 : s = 8 ∨ s = 61 := h0.1.2.2
  have h6 := hI.1.1
  have hjl : j < A.1.1.length := by omega
  rw [← hj] at t2 t4
  have hok := hI.1.2.1 _ (List.getElem_mem hjl)
  rw [← bkJ_in hjl] at hok
  have hnd := hok.2.2.2.2.2.2.1
  obtain ⟨b1, b2, b3, b4, kg⟩ := r4.2.1 j hjl
  rw [← bkJ_in hjl] at kg
  have hbp := bkPut_nd hnd t2 t4
  have hne : ∀ x, x ≠ 114 → x ≠ s + 8 + 5 * j → x ≠ s + 9 + 5 * j → (gvW (uI G 114 3 ((A.2.1.1.length - 1 : Nat) : Int)) (s + 7 + 5 * j + 1) (lastT A).2.1 (lastT A).2.2).1 x = G.1 x := fun x a b c => by
    rw [gvW_ne (by omega) (by omega)]; funext y; exact iv (by omega)
  have h114 : ∀ y, (gvW (uI G 114 3 ((A.2.1.1.length - 1 : Nat) : Int)) (s + 7 + 5 * j + 1) (lastT A).2.1 (lastT A).2.2).1 114 y = if y = 3 then ((A.2.1.1.length - 1 : Nat) : Int) else G.1 114 y := fun y => by
    rw [gvW_ne (by omega) (by omega)]
    by_cases c : y = 3
    · subst c; rw [iu, if_pos rfl]
    · rw [iv (by omega), if_neg c]
  have hls : lsIs (gvW (uI G 114 3 ((A.2.1.1.length - 1 : Nat) : Int)) (s + 7 + 5 * j + 1) (lastT A).2.1 (lastT A).2.2) (s + 8 + 5 * j) (bkPut (bkJ A.1 j).2.2.2.2.2 (lastT A)) := by
    rw [show s + 8 + 5 * j = s + 7 + 5 * j + 1 by omega]
    have kg1 : lsIs (uI G 114 3 ((A.2.1.1.length - 1 : Nat) : Int)) (s + 7 + 5 * j + 1) (bkJ A.1 j).2.2.2.2.2 := lsIs_congr kg (iv (by omega)) (by funext y; exact iv (by omega))
    have k2 := lsIs_give kg1 hnd t2
    unfold gvW
    by_cases c : (lastT A).2.2 = -1
    · rw [if_pos c]
      have : bkPut (bkJ A.1 j).2.2.2.2.2 (lastT A) = rmS (bkJ A.1 j).2.2.2.2.2 (lastT A).2.1 := by unfold bkPut; rw [if_pos c]
      rw [this]; exact k2
    · rw [if_neg c]
      obtain ⟨a1, a2⟩ := t4 c
      have b2' : (lastT A).2.2 ∈ rmS (bkJ A.1 j).2.2.2.2.2 (lastT A).2.1 := (rmS_mem hnd t2 _).mpr ⟨a1, a2⟩
      have k3 := lsIs_give k2 (rmS_nd hnd t2) b2'
      refine lsIs_perm k3 ?_ (fun x => ?_)
      · rw [hbp.2.2, if_neg c, rmS_len, rmS_len]; omega
      · rw [hbp.2.1, rmS_mem (rmS_nd hnd t2) b2', rmS_mem hnd t2]
        exact ⟨fun q => ⟨⟨q.1, q.2.1⟩, q.2.2 c⟩, fun q => ⟨q.1.1, q.1.2, fun _ => q.2⟩⟩
  unfold putA
  rw [← hj]
  generalize hG1 : gvW (uI G 114 3 ((A.2.1.1.length - 1 : Nat) : Int)) (s + 7 + 5 * j + 1) (lastT A).2.1 (lastT A).2.2 = G1 at *
  have hG12 : G1.2 = G.2 := by rw [← hG1]; exact gvW_2
  refine RC_ev h0 (setGo_len _ _ _) h6 (by rw [hG12]) (fun x y a b c d => by
    rw [hne x (by omega) (fun q => c ⟨j, by omega, Or.inl q⟩) (fun q => c ⟨j, by omega, Or.inr q⟩)]) (ShC_go r4 hI.1.2.2.1 h6 hjl (fun x k a b c d => by rw [hne _ (by omega) c d]) hls) (cacheC_go (cacheC_c r5 (hne _ (by omega) (by omega) (by omega)))) ⟨by rw [h114, if_pos rfl]; simp, fun k hk => ?_, by rw [h114, if_neg (by decide)]; exact v3, by rw [h114, if_neg (by decide)]; exact v4, fun q => by rw [h114, if_neg (by decide)]; exact v5 q, by rw [h114, if_neg (by decide)]; exact v6, fun k hk => by rw [hne _ (by omega) (by omega) (by omega), hne _ (by omega) (by omega) (by omega)]; exact v7 k hk, fun k hk => by rw [hne _ (by omega) (by omega) (by omega)]; exact v8 k hk⟩ (fun y => by rw [hne _ (by omega) (by omega) (by omega)]; exact r14 y) (fun y => by rw [hne _ (by omega) (by omega) (by omega)]; exact r15 y) (fun y => by rw [hne _ (by omega) (by omega) (by omega)]; exact r16 y)
  have hk' : k < A.2.1.1.length := by
    have : (A.2.1.1.take (A.2.1.1.length - 1)).length ≤ A.2.1.1.length - 1 := by rw [List.length_take]; omega
    have hk2 : k < (A.2.1.1.take (A.2.1.1.length - 1)).length := hk
    omega
  simp only [List.getElem_take]
  rw [hne _ (by omega) (by omega) (by omega), hne _ (by omega) (by omega) (by omega), hne _ (by omega) (by omega) (by omega)]
  exact v2 k hk'
theorem FrC.gv {s j : Nat} (G : Wd) (hs : s = 8 ∨ s = 61) (hj : j < 6) (n z o : Int) : FrC G (gvW (uI G 114 3 n) (s + 7 + 5 * j + 1) z o) := by
  refine ⟨fun x b => ?_, fun x _ => ?_⟩
  · rw [gvW_ne (by omega) (by omega)]; funext y; exact iv (by omega)
  · rw [gvW_2]
set_option maxRecDepth 100000 in
set_option maxHeartbeats 4000000 in
theorem c_xPut {κ : Kx} (hκ : KOK κ) {d s : Nat} {K : Int} {A : Ab} {G : Wd} (hC : RC G s A) (hI : Inv K A) (hR : aR G) (hd : 20 ≤ d) : Ct κ MX11_put d 16 128 [VR 1] (Wm G) (cP G (putP A).2.2 ((putP A).1 = 0) (some (VI (putP A).2.1))) noX := by
  refine Ct_of hκ kX11_put.1 rfl (Nat.le_of_ble_eq_true rfl) (ls := [some (VR 1), none, none, none]) rfl (fun μ => ?_)
  have hN := RC_N hC hI.1 hR
  have hs8 : s = 8 ∨ s = 61 := hC.1.2.2
  have hT := T_360 hI
  obtain ⟨v1, v2, -⟩ := hC.2.2.2.1
  by_cases hn : A.2.1.1.length = 0
  · have e : putP A = (0, -1, A) := by unfold putP; rw [if_pos hn]
    refine V_ex sX11_put_0 (by simp only [Option.toList, List.cons_append, List.nil_append, exN, ex1, gI, gL, gR, pI, pL, pR, lget, lset1, lset2, kl, b2I, b2L, nob, ob32, ob64, xGet, xPut, xLen, xLd, xLdR, xSt, obA, true_and, and_true, and_self, eq_self, Nat.reduceEqDiff, Nat.zero_ne_one, reduceIte, Nat.reduceLeDiff, and_false, false_and, show skd 10 6 = 2 from rfl, show skd 2 3 = 0 from rfl, show LF.1 1 = some (.inl 10) from rfl, show LF.2 1 6 = some 114 from rfl, show LF.1 114 = some (.inl 2) from rfl, v1, upd2_eq, Int.reduceToNat, Int.toNat_natCast]; rfl) (by first | exact trivial | exact Or.inr rfl | exact Or.inl rfl | (simp only [ob, obA, R32, R64] at *; omega) | (simp only [ob, obA, R32, R64] at *; and_intros <;> omega)) ?_
    refine V_icmpge dX11_put_8 (tgt := 13) (by decide) (by simp only [R32, R64] at *; omega) (fun q8 => ?_) (fun q8 => ?_)
    · omega
    · refine V_ex sX11_put_11 (by rfl) (by first | exact trivial | exact Or.inr rfl | exact Or.inl rfl | (simp only [ob, obA, R32, R64] at *; omega) | (simp only [ob, obA, R32, R64] at *; and_intros <;> omega)) ?_
      refine V_iret dX11_put_12 rfl (by decide) (by rw [e]; exact cP_0 hC rfl rfl)
  · have e : putP A = (0, (if (lastT A).2.2 = -1 then 1 else 2), putA A) := by unfold putP; rw [if_neg hn]
    obtain ⟨t1, t2, t3, t4⟩ := lastT_ok hI hn
    obtain ⟨j, hj⟩ : ∃ j : Nat, (lastT A).1 = (j : Int) := ⟨(lastT A).1.toNat, by omega⟩
    have hjn : j = (lastT A).1.toNat := by omega
    have hjl : j < A.1.1.length := by omega
    obtain ⟨hB, hj6, hok, -⟩ := NC_b hN hjl
    have hC1 := RC_put hC hI hn hjn
    have hFr := FrC.gv (j := j) G hs8 hj6 ((A.2.1.1.length - 1 : Nat) : Int) (lastT A).2.1 (lastT A).2.2
    have hv := v2 (A.2.1.1.length - 1) (by omega)
    rw [← lastT_in hn] at hv
    obtain ⟨w1, w2, w3⟩ := hv
    have lR : R32 (lastT A).2.1 := by rw [← w2]; exact hR _ _
    have oR : R32 (lastT A).2.2 := by rw [← w3]; exact hR _ _
    have en : ((A.2.1.1.length : Nat) : Int) - 1 = ((A.2.1.1.length - 1 : Nat) : Int) := by omega
    have e1 : (uI G 114 3 ((A.2.1.1.length - 1 : Nat) : Int)).1 s 1 = (A.1.1.length : Nat) := by rw [iv (by omega)]; exact hC.2.1.1
    have ebk : bkAt (uI G 114 3 ((A.2.1.1.length - 1 : Nat) : Int)) s (lastT A).1 = s + 7 + 5 * j := by unfold bkAt; rw [e1, if_pos (by omega), ← hjn]
    have hBk := c_bookAt (κ := κ) hκ (d := 3) (s := s) (i := (lastT A).1) (G := uI G 114 3 ((A.2.1.1.length - 1 : Nat) : Int)) hC.1.2.2 (by unfold R32; omega) (by rw [e1]; have h6 := hI.1.1; unfold R32; omega)
    rw [ebk] at hBk
    have a115 : rAt ((uI G 114 3 ((A.2.1.1.length - 1 : Nat) : Int)).1 115) 360 ((A.2.1.1.length - 1 : Nat) : Int) = (lastT A).1 := by rw [rAt_nat _ rfl (by omega), iv (by omega)]; exact w1
    have a116 : rAt ((uI G 114 3 ((A.2.1.1.length - 1 : Nat) : Int)).1 116) 360 ((A.2.1.1.length - 1 : Nat) : Int) = (lastT A).2.1 := by rw [rAt_nat _ rfl (by omega), iv (by omega)]; exact w2
    have a117 : rAt ((uI G 114 3 ((A.2.1.1.length - 1 : Nat) : Int)).1 117) 360 ((A.2.1.1.length - 1 : Nat) : Int) = (lastT A).2.2 := by rw [rAt_nat _ rfl (by omega), iv (by omega)]; exact w3
    unfold gvW at hC1 hFr
    generalize A.2.1.1.length - 1 = m at *
    refine V_ex sX11_put_0 (by simp only [Option.toList, List.cons_append, List.nil_append, exN, ex1, gI, gL, gR, pI, pL, pR, lget, lset1, lset2, kl, b2I, b2L, nob, ob32, ob64, xGet, xPut, xLen, xLd, xLdR, xSt, obA, true_and, and_true, and_self, eq_self, Nat.reduceEqDiff, Nat.zero_ne_one, reduceIte, Nat.reduceLeDiff, and_false, false_and, show skd 10 6 = 2 from rfl, show skd 2 3 = 0 from rfl, show LF.1 1 = some (.inl 10) from rfl, show LF.2 1 6 = some 114 from rfl, show LF.1 114 = some (.inl 2) from rfl, v1, en, upd2_eq, Int.reduceToNat, Int.toNat_natCast]; rfl) (by first | exact trivial | exact Or.inr rfl | exact Or.inl rfl | (simp only [ob, obA, R32, R64] at *; omega) | (simp only [ob, obA, R32, R64] at *; and_intros <;> omega)) ?_
    refine V_icmpge dX11_put_8 (tgt := 13) (by decide) (by simp only [R32, R64] at *; omega) (fun q8 => ?_) (fun q8 => ?_)
    · refine V_ex sX11_put_13 (by simp only [Option.toList, List.cons_append, List.nil_append, exN, ex1, gI, gL, gR, pI, pL, pR, lget, lset1, lset2, kl, b2I, b2L, nob, ob32, ob64, xGet, xPut, xLen, xLd, xLdR, xSt, obA, true_and, and_true, and_self, eq_self, Nat.reduceEqDiff, Nat.zero_ne_one, reduceIte, Nat.reduceLeDiff, and_false, false_and, show skd 10 6 = 2 from rfl, show skd 2 3 = 0 from rfl, show skd 10 3 = 3 from rfl, show skd 2 0 = 2 from rfl, show LF.1 1 = some (.inl 10) from rfl, show LF.2 1 6 = some 114 from rfl, show LF.1 114 = some (.inl 2) from rfl, show LF.2 114 0 = some 115 from rfl, v1, en, hC.1.1, v1, en, upd2_eq, Int.reduceToNat, Int.toNat_natCast]; rfl) (by first | exact trivial | exact Or.inr rfl | exact Or.inl rfl | (simp only [ob, obA, R32, R64] at *; omega) | (simp only [ob, obA, R32, R64] at *; and_intros <;> omega)) ?_
      refine V_callS (M := MX11_put) (N := MX11_at) dX11_put_46 lRX11_215 kX11_at rfl (c_at (d := 3) hκ (a := 115) (n := 360) rfl (by decide) (by unfold R32; omega)) rfl rfl (Nat.le_of_ble_eq_true rfl) (fit_rm (by omega)) (⟨Nat.le_of_ble_eq_true rfl, Nat.le_of_ble_eq_true rfl⟩) (fun v Ω' hp => ?_) (fun _ _ h => h.elim)
      obtain ⟨rfl, rfl⟩ := hp
      rw [a115]
      refine V_callV (M := MX11_put) (N := MX7_bookAt) dX11_put_49 lRX11_148 kX7_bookAt rfl ((sh_facts hC.1.2.2).1) rfl (hBk) rfl rfl (Nat.le_of_ble_eq_true rfl) (fit_rm (by omega)) (⟨Nat.le_of_ble_eq_true rfl, Nat.le_of_ble_eq_true rfl⟩) (fun v Ω' hp => ?_) (fun _ _ h => h.elim)
      obtain ⟨rfl, rfl⟩ := hp
      refine V_ex sX11_put_52 (by rfl) (by first | exact trivial | exact Or.inr rfl | exact Or.inl rfl | (simp only [ob, obA, R32, R64] at *; omega) | (simp only [ob, obA, R32, R64] at *; and_intros <;> omega)) ?_
      refine V_ifnonnull dX11_put_54 (tgt := 59) (by decide) (fun q54 => ?_) (fun q54 => ?_)
      · refine V_ex sX11_put_59 (by simp only [Option.toList, List.cons_append, List.nil_append, exN, ex1, gI, gL, gR, pI, pL, pR, lget, lset1, lset2, kl, b2I, b2L, nob, ob32, ob64, xGet, xPut, xLen, xLd, xLdR, xSt, obA, true_and, and_true, and_self, eq_self, Nat.reduceEqDiff, Nat.zero_ne_one, reduceIte, Nat.reduceLeDiff, and_false, false_and, show skd 10 6 = 2 from rfl, show skd 2 2 = 2 from rfl, show LF.1 1 = some (.inl 10) from rfl, show LF.2 1 6 = some 114 from rfl, show LF.1 114 = some (.inl 2) from rfl, show LF.2 114 2 = some 117 from rfl, v1, en, upd2_eq, Int.reduceToNat, Int.toNat_natCast]; rfl) (by first | exact trivial | exact Or.inr rfl | exact Or.inl rfl | (simp only [ob, obA, R32, R64] at *; omega) | (simp only [ob, obA, R32, R64] at *; and_intros <;> omega)) ?_
        refine V_callS (M := MX11_put) (N := MX11_at) dX11_put_67 lRX11_215 kX11_at rfl (c_at (d := 3) hκ (a := 117) (n := 360) rfl (by decide) (by unfold R32; omega)) rfl rfl (Nat.le_of_ble_eq_true rfl) (fit_rm (by omega)) (⟨Nat.le_of_ble_eq_true rfl, Nat.le_of_ble_eq_true rfl⟩) (fun v Ω' hp => ?_) (fun _ _ h => h.elim)
        obtain ⟨rfl, rfl⟩ := hp
        rw [a117]
        refine V_ex sX11_put_70 (by simp only [Option.toList, List.cons_append, List.nil_append, exN, ex1, gI, gL, gR, pI, pL, pR, lget, lset1, lset2, kl, b2I, b2L, nob, ob32, ob64, xGet, xPut, xLen, xLd, xLdR, xSt, obA, true_and, and_true, and_self, eq_self, Nat.reduceEqDiff, Nat.zero_ne_one, reduceIte, Nat.reduceLeDiff, and_false, false_and, show skd 0 5 = 2 from rfl, show skd 10 6 = 2 from rfl, show skd 2 1 = 2 from rfl, show LF.1 1 = some (.inl 10) from rfl, show LF.2 1 6 = some 114 from rfl, show LF.1 114 = some (.inl 2) from rfl, show LF.2 114 1 = some 116 from rfl, hB.1, hB.2.1, v1, en, upd2_eq, Int.reduceToNat, Int.toNat_natCast]; rfl) (by first | exact trivial | exact Or.inr rfl | exact Or.inl rfl | (simp only [ob, obA, R32, R64] at *; omega) | (simp only [ob, obA, R32, R64] at *; and_intros <;> omega)) ?_
        refine V_callS (M := MX11_put) (N := MX11_at) dX11_put_83 lRX11_215 kX11_at rfl (c_at (d := 3) hκ (a := 116) (n := 360) rfl (by decide) (by unfold R32; omega)) rfl rfl (Nat.le_of_ble_eq_true rfl) (fit_rm (by omega)) (⟨Nat.le_of_ble_eq_true rfl, Nat.le_of_ble_eq_true rfl⟩) (fun v Ω' hp => ?_) (fun _ _ h => h.elim)
        obtain ⟨rfl, rfl⟩ := hp
        rw [a116]
        refine V_callV (M := MX11_put) (N := MX5_give) dX11_put_86 lRX11_276 kX5_give rfl (hB.2.2.1.1) rfl (c_give (d := 3) hκ hB.2.2.1 lR) rfl rfl (Nat.le_of_ble_eq_true rfl) (fit_rm (by omega)) (⟨Nat.le_of_ble_eq_true rfl, Nat.le_of_ble_eq_true rfl⟩) (fun v Ω' hp => ?_) (fun _ _ h => h.elim)
        obtain ⟨rfl, rfl⟩ := hp
        refine V_ex sX11_put_89 (by rfl) (by first | exact trivial | exact Or.inr rfl | exact Or.inl rfl | (simp only [ob, obA, R32, R64] at *; omega) | (simp only [ob, obA, R32, R64] at *; and_intros <;> omega)) ?_
        refine V_icmpne dX11_put_91 (tgt := 96) (by decide) (by simp only [R32, R64] at *; omega) (fun q91 => ?_) (fun q91 => ?_)
        · refine V_ex sX11_put_96 (by simp only [Option.toList, List.cons_append, List.nil_append, exN, ex1, gI, gL, gR, pI, pL, pR, lget, lset1, lset2, kl, b2I, b2L, nob, ob32, ob64, xGet, xPut, xLen, xLd, xLdR, xSt, obA, true_and, and_true, and_self, eq_self, Nat.reduceEqDiff, Nat.zero_ne_one, reduceIte, Nat.reduceLeDiff, and_false, false_and, show skd 0 5 = 2 from rfl, hB.1, hB.2.1, v1, en, upd2_eq, Int.reduceToNat, Int.toNat_natCast]; rfl) (by first | exact trivial | exact Or.inr rfl | exact Or.inl rfl | (simp only [ob, obA, R32, R64] at *; omega) | (simp only [ob, obA, R32, R64] at *; and_intros <;> omega)) ?_
          refine V_callV (M := MX11_put) (N := MX5_give) dX11_put_101 lRX11_276 kX5_give rfl (hB.2.2.1.1) rfl (c_give (d := 3) hκ hB.2.2.1 oR) rfl rfl (Nat.le_of_ble_eq_true rfl) (fit_rm (by omega)) (⟨Nat.le_of_ble_eq_true rfl, Nat.le_of_ble_eq_true rfl⟩) (fun v Ω' hp => ?_) (fun _ _ h => h.elim)
          obtain ⟨rfl, rfl⟩ := hp
          refine V_ex sX11_put_104 (by rfl) (by first | exact trivial | exact Or.inr rfl | exact Or.inl rfl | (simp only [ob, obA, R32, R64] at *; omega) | (simp only [ob, obA, R32, R64] at *; and_intros <;> omega)) ?_
          refine V_iret dX11_put_105 rfl (by decide) ?_
          rw [e]
          rw [if_neg q91] at hC1 hFr ⊢
          exact ⟨rfl, rfl, _, s, rfl, hC1, hFr⟩
        · refine V_ex sX11_put_94 (by rfl) (by first | exact trivial | exact Or.inr rfl | exact Or.inl rfl | (simp only [ob, obA, R32, R64] at *; omega) | (simp only [ob, obA, R32, R64] at *; and_intros <;> omega)) ?_
          refine V_iret dX11_put_95 rfl (by decide) ?_
          rw [e]
          rw [if_pos q91] at hC1 hFr ⊢
          exact ⟨rfl, rfl, _, s, rfl, hC1, hFr⟩
      · omega
    · omega
