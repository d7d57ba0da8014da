/-! TornLeaves: wrong, loosen, fault, add, stick -/
def wrongP (A : Ab) : Int × Int × Ab := (0, A.2.1.2.1.2.2, (A.1, (A.2.1.1, (A.2.1.2.1.1, 0, -1), A.2.1.2.2), A.2.2))
/-- events' cells set anew, all else as it was -/
theorem RC_e {G G' : Wd} {s : Nat} {A : Ab} {v' : Ev} {K : Int} (h : RC G s A) (hI : Inv K A) (f : ∀ x j, ¬ (114 ≤ x ∧ x ≤ 120) → G'.1 x j = G.1 x j) (f2 : G'.2.2 = G.2.2) (hv : evC G' 114 v') : RC G' s (A.1, v', A.2.2) := by
  have h0 := h
  obtain ⟨-, r4, r5, -, -, -, -, -, -, -, -, r14, r15, r16⟩ := h
  have hs8 : s = 8 ∨ s = 61 := h0.1.2.2
  exact RC_ev h0 rfl hI.1.1 f2 (fun x j a b c d => f x j d) (ShC_same r4 (fun x j a b => f x j (by omega)) hI.1.2.2.1 hI.1.1) (cacheC_c r5 (by funext j; exact f _ _ (by omega))) hv (fun j => by rw [f _ _ (by omega)]; exact r14 j) (fun j => by rw [f _ _ (by omega)]; exact r15 j) (fun j => by rw [f _ _ (by omega)]; exact r16 j)
theorem FrC.of {G G' : Wd} (f : ∀ x, 145 ≤ x → G'.1 x = G.1 x) (f2 : G'.2 = G.2) : FrC G G' := ⟨f, fun x _ => by rw [f2]⟩
set_option maxRecDepth 100000 in
set_option maxHeartbeats 4000000 in
theorem c_xWrong {κ : Kx} (hκ : KOK κ) {d s : Nat} {K : Int} {A : Ab} {G : Wd} (hC : RC G s A) (hI : Inv K A) (hR : aR G) (hd : 20 ≤ d) : Ct κ MX11_wrong d 16 128 [VR 1] (Wm G) (cP G (wrongP A).2.2 ((wrongP A).1 = 0) (some (VI (wrongP A).2.1))) noX := by
  refine Ct_of hκ kX11_wrong.1 rfl (Nat.le_of_ble_eq_true rfl) (ls := [some (VR 1), none]) rfl (fun μ => ?_)
  obtain ⟨v1, v2, v3, v4, v5, v6, v7, v8⟩ := hC.2.2.2.1
  have hC1 : RC (uI (uI G 114 5 0) 114 6 (-1)) s (wrongP A).2.2 := RC_e hC hI (fun x j a => by rw [iv (by omega), iv (by omega)]) rfl ⟨by rw [iv (by omega), iv (by omega)]; exact v1, fun i hi => by rw [iv (by omega), iv (by omega), iv (by omega), iv (by omega), iv (by omega), iv (by omega)]; exact v2 i hi, by rw [iv (by omega), iu], by rw [iu], fun q => absurd rfl q, by rw [iv (by omega), iv (by omega)]; exact v6, fun i hi => by rw [iv (by omega), iv (by omega), iv (by omega), iv (by omega)]; exact v7 i hi, fun i hi => by rw [iv (by omega), iv (by omega)]; exact v8 i hi⟩
  refine V_ex sX11_wrong_0 (by simp only [Option.toList, List.cons_append, List.nil_append, exN, ex1, gI, gL, gR, pI, pL, pR, lget, lset1, lset2, kl, b2I, b2L, nob, ob32, ob64, xGet, xPut, xLen, xLd, xLdR, xSt, obA, true_and, and_true, and_self, eq_self, Nat.reduceEqDiff, Nat.zero_ne_one, reduceIte, Nat.reduceLeDiff, and_false, false_and, show skd 10 6 = 2 from rfl, show skd 2 6 = 0 from rfl, show LF.1 1 = some (.inl 10) from rfl, show LF.2 1 6 = some 114 from rfl, show LF.1 114 = some (.inl 2) from rfl, v4, upd2_eq, Int.reduceToNat, Int.toNat_natCast]; rfl) (by first | exact trivial | exact Or.inr rfl | exact Or.inl rfl | (simp only [ob, obA, R32, R64] at *; omega) | (simp only [ob, obA, R32, R64] at *; and_intros <;> omega)) ?_
  refine V_callV (M := MX11_wrong) (N := MX2_forgetAdded) dX11_wrong_12 lRX11_305 kX2_forgetAdded rfl (rfl) rfl (c_forgetAdded (d := 3) hκ (e := 114) (Or.inl rfl)) rfl rfl (Nat.le_of_ble_eq_true rfl) (fit_rm (by omega)) (⟨Nat.le_of_ble_eq_true rfl, Nat.le_of_ble_eq_true rfl⟩) (fun v Ω' hp => ?_) (fun _ _ h => h.elim)
  obtain ⟨rfl, rfl⟩ := hp
  refine V_ex sX11_wrong_15 (by rfl) (by first | exact trivial | exact Or.inr rfl | exact Or.inl rfl | (simp only [ob, obA, R32, R64] at *; omega) | (simp only [ob, obA, R32, R64] at *; and_intros <;> omega)) ?_
  refine V_iret dX11_wrong_16 rfl (by decide) ⟨rfl, rfl, _, s, rfl, hC1, (FrC.u G _ (by omega)).trans (FrC.u _ _ (by omega))⟩
def loosenP (A : Ab) : Int × Int × Ab := if A.2.1.2.2.1.length = 0 then (0, -1, A) else (0, ((A.2.1.2.2.1.length - 1 : Nat) : Int), (A.1, (A.2.1.1, A.2.1.2.1, A.2.1.2.2.1.take (A.2.1.2.2.1.length - 1), A.2.1.2.2.2), A.2.2))
set_option maxRecDepth 100000 in
set_option maxHeartbeats 4000000 in
theorem c_xLoosen {κ : Kx} (hκ : KOK κ) {d s : Nat} {K : Int} {A : Ab} {G : Wd} (hC : RC G s A) (hI : Inv K A) (hR : aR G) (hd : 20 ≤ d) : Ct κ MX11_loosen d 16 128 [VR 1] (Wm G) (cP G (loosenP A).2.2 ((loosenP A).1 = 0) (some (VI (loosenP A).2.1))) noX := by
  refine Ct_of hκ kX11_loosen.1 rfl (Nat.le_of_ble_eq_true rfl) (ls := [some (VR 1)]) rfl (fun μ => ?_)
  obtain ⟨v1, v2, v3, v4, v5, v6, v7, v8⟩ := hC.2.2.2.1
  have h20 := hI.2.1.2.2.1.1
  by_cases hn : A.2.1.2.2.1.length = 0
  · have e : loosenP A = (0, -1, A) := by unfold loosenP; rw [if_pos hn]
    refine V_ex sX11_loosen_0 (by simp only [Option.toList, List.cons_append, List.nil_append, exN, ex1, gI, gL, gR, pI, pL, pR, lget, lset1, lset2, kl, b2I, b2L, nob, ob32, ob64, xGet, xPut, xLen, xLd, xLdR, xSt, obA, true_and, and_true, and_self, eq_self, Nat.reduceEqDiff, Nat.zero_ne_one, reduceIte, Nat.reduceLeDiff, and_false, false_and, show skd 10 6 = 2 from rfl, show skd 2 9 = 0 from rfl, show LF.1 1 = some (.inl 10) from rfl, show LF.2 1 6 = some 114 from rfl, show LF.1 114 = some (.inl 2) from rfl, v6, upd2_eq, Int.reduceToNat, Int.toNat_natCast]; rfl) (by first | exact trivial | exact Or.inr rfl | exact Or.inl rfl | (simp only [ob, obA, R32, R64] at *; omega) | (simp only [ob, obA, R32, R64] at *; and_intros <;> omega)) ?_
    refine V_icmpge dX11_loosen_8 (tgt := 13) (by decide) (by simp only [R32, R64] at *; omega) (fun q8 => ?_) (fun q8 => ?_)
    · omega
    · refine V_ex sX11_loosen_11 (by rfl) (by first | exact trivial | exact Or.inr rfl | exact Or.inl rfl | (simp only [ob, obA, R32, R64] at *; omega) | (simp only [ob, obA, R32, R64] at *; and_intros <;> omega)) ?_
      refine V_iret dX11_loosen_12 rfl (by decide) (by rw [e]; exact cP_0 hC rfl rfl)
  · have e : loosenP A = (0, ((A.2.1.2.2.1.length - 1 : Nat) : Int), (A.1, (A.2.1.1, A.2.1.2.1, A.2.1.2.2.1.take (A.2.1.2.2.1.length - 1), A.2.1.2.2.2), A.2.2)) := by unfold loosenP; rw [if_neg hn]
    have en : ((A.2.1.2.2.1.length : Nat) : Int) - 1 = ((A.2.1.2.2.1.length - 1 : Nat) : Int) := by omega
    have hC1 : RC (uI G 114 9 ((A.2.1.2.2.1.length - 1 : Nat) : Int)) s (A.1, (A.2.1.1, A.2.1.2.1, A.2.1.2.2.1.take (A.2.1.2.2.1.length - 1), A.2.1.2.2.2), A.2.2) := RC_e hC hI (fun x j a => iv (by omega)) rfl ⟨by rw [iv (by omega)]; exact v1, fun i hi => by rw [iv (by omega), iv (by omega), iv (by omega)]; exact v2 i hi, by rw [iv (by omega)]; exact v3, by rw [iv (by omega)]; exact v4, fun q => by rw [iv (by omega)]; exact v5 q, by rw [iu]; simp, fun i hi => by
      have hi2 : i < A.2.1.2.2.1.length := by have : i < (A.2.1.2.2.1.take (A.2.1.2.2.1.length - 1)).length := hi; rw [List.length_take] at this; omega
      simp only [List.getElem_take]
      have q := v7 i hi2
      simpa [upd2_eq] using q, fun i hi => by rw [iv (by omega)]; exact v8 i hi⟩
    refine V_ex sX11_loosen_0 (by simp only [Option.toList, List.cons_append, List.nil_append, exN, ex1, gI, gL, gR, pI, pL, pR, lget, lset1, lset2, kl, b2I, b2L, nob, ob32, ob64, xGet, xPut, xLen, xLd, xLdR, xSt, obA, true_and, and_true, and_self, eq_self, Nat.reduceEqDiff, Nat.zero_ne_one, reduceIte, Nat.reduceLeDiff, and_false, false_and, show skd 10 6 = 2 from rfl, show skd 2 9 = 0 from rfl, show LF.1 1 = some (.inl 10) from rfl, show LF.2 1 6 = some 114 from rfl, show LF.1 114 = some (.inl 2) from rfl, v6, en, upd2_eq, Int.reduceToNat, Int.toNat_natCast]; rfl) (by first | exact trivial | exact Or.inr rfl | exact Or.inl rfl | (simp only [ob, obA, R32, R64] at *; omega) | (simp only [ob, obA, R32, R64] at *; and_intros <;> omega)) ?_
    refine V_icmpge dX11_loosen_8 (tgt := 13) (by decide) (by simp only [R32, R64] at *; omega) (fun q8 => ?_) (fun q8 => ?_)
    · refine V_ex sX11_loosen_13 (by simp only [Option.toList, List.cons_append, List.nil_append, exN, ex1, gI, gL, gR, pI, pL, pR, lget, lset1, lset2, kl, b2I, b2L, nob, ob32, ob64, xGet, xPut, xLen, xLd, xLdR, xSt, obA, true_and, and_true, and_self, eq_self, Nat.reduceEqDiff, Nat.zero_ne_one, reduceIte, Nat.reduceLeDiff, and_false, false_and, show skd 10 6 = 2 from rfl, show skd 2 9 = 0 from rfl, show LF.1 1 = some (.inl 10) from rfl, show LF.2 1 6 = some 114 from rfl, show LF.1 114 = some (.inl 2) from rfl, v6, en, upd2_eq, Int.reduceToNat, Int.toNat_natCast]; rfl) (by first | exact trivial | exact Or.inr rfl | exact Or.inl rfl | (simp only [ob, obA, R32, R64] at *; omega) | (simp only [ob, obA, R32, R64] at *; and_intros <;> omega)) ?_
      refine V_iret dX11_loosen_33 rfl (by decide) (by rw [e]; exact ⟨rfl, rfl, _, s, rfl, hC1, FrC.u G _ (by omega)⟩)
    · omega
set_option maxRecDepth 100000 in
set_option maxHeartbeats 4000000 in
theorem c_xFault {κ : Kx} (hκ : KOK κ) {d s : Nat} {A : Ab} {G : Wd} (hC : RC G s A) : Ct κ MX11_fault d 16 128 [VR 1] (Wm G) (cP G A True (some (VI A.2.2.2.1.1))) noX := by
  refine Ct_of hκ kX11_fault.1 rfl (Nat.le_of_ble_eq_true rfl) (ls := [some (VR 1)]) rfl (fun μ => ?_)
  refine V_ex sX11_fault_0 (by simp only [Option.toList, List.cons_append, List.nil_append, exN, ex1, gI, gL, gR, pI, pL, pR, lget, lset1, lset2, kl, b2I, b2L, nob, ob32, ob64, xGet, xPut, xLen, xLd, xLdR, xSt, obA, true_and, and_true, and_self, eq_self, Nat.reduceEqDiff, Nat.zero_ne_one, reduceIte, Nat.reduceLeDiff, and_false, false_and, show skd 10 5 = 0 from rfl, show LF.1 1 = some (.inl 10) from rfl, hC.2.2.2.2.2.2.1, upd2_eq, Int.reduceToNat, Int.toNat_natCast]; rfl) (by first | exact trivial | exact Or.inr rfl | exact Or.inl rfl | (simp only [ob, obA, R32, R64] at *; omega) | (simp only [ob, obA, R32, R64] at *; and_intros <;> omega)) ?_
  refine V_iret dX11_fault_4 rfl (by decide) (cP_0 hC trivial rfl)
/-- a child's sum -/
def addA (A : Ab) (i : Int) (r : Bool) : Ab := (A.1, (A.2.1.1, (i, A.2.1.2.1.2.1 + 1, if r = false ∧ A.2.1.2.1.2.2 = -1 then A.2.1.2.1.2.1 else A.2.1.2.1.2.2), A.2.1.2.2), A.2.2)
def addP (A : Ab) (i z : Int) : Int × Int × Ab := if ¬ inB A.1 i then (1, 0, A) else if 60 ≤ A.2.1.2.1.2.1 ∨ 2 * (bkA A i).2.2.1 ≤ A.2.1.2.1.2.1 ∨ 0 < A.2.1.2.1.2.1 ∧ A.2.1.2.1.1 ≠ i then (0, 0, refA A 2) else (0, b2i (decide (z = sumF (cdS A.1) (bkA A i) (A.2.1.2.1.2.1.toNat + 1))), addA A i (decide (z = sumF (cdS A.1) (bkA A i) (A.2.1.2.1.2.1.toNat + 1))))
theorem sumF_R {c : List Int} {b : Bk} (hb : okBk c b) : ∀ n : Nat, n ≤ 4000 → 0 ≤ sumF c b n ∧ sumF c b n ≤ 99999 * (n : Int) := by
  intro n
  induction n with
  | zero => intro h; exact ⟨Int.le_refl _, Int.le_refl _⟩
  | succ n ih =>
    intro h
    have h1 := ih (by omega)
    have h2 := numB_R hb (p := (n : Int) + 1) (by omega)
    rw [sumF]; omega
set_option maxRecDepth 100000 in
set_option maxHeartbeats 4000000 in
theorem c_xAdd {κ : Kx} (hκ : KOK κ) {d s : Nat} {K i z : Int} {A : Ab} {G : Wd} (hC : RC G s A) (hI : Inv K A) (hR : aR G) (hi : R32 i) (hz : R64 z) (hd : 20 ≤ d) : Ct κ MX11_add d 16 128 [VR 1, VI i, VL z] (Wm G) (cP G (addP A i z).2.2 ((addP A i z).1 = 0) (some (VI (addP A i z).2.1))) (cX G A ((addP A i z).1 = 1) NSE) := by
  refine Ct_of hκ kX11_add.1 rfl (Nat.le_of_ble_eq_true rfl) (ls := [some (VR 1), some (VI i), some (VL z), none, none, none, none]) rfl (fun μ => ?_)
  have hN := RC_N hC hI.1 hR
  obtain ⟨v1, v2, v3, v4, v5, v6, v7, v8⟩ := hC.2.2.2.1
  obtain ⟨m1, m2, m3, m4⟩ := hI.2.1.2.1
  by_cases hin : inB A.1 i
  · obtain ⟨j, hj⟩ : ∃ j : Nat, i = (j : Int) := ⟨i.toNat, by have := hin.1; omega⟩
    subst hj
    have hj : j < A.1.1.length := by have := hin.2; omega
    obtain ⟨hB, hj6, hok, k0, k2, k1, -⟩ := NC_b hN hj
    have hlv := hok.2.2.2.1
    obtain ⟨mm, hmm⟩ : ∃ mm : Nat, A.2.1.2.1.2.1 = (mm : Int) := ⟨A.2.1.2.1.2.1.toNat, by omega⟩
    have v3' : G.1 114 5 = (mm : Int) := by rw [v3, hmm]
    have hs := sumF_R hok (mm + 1) (by omega)
    have hbk : 0 < mm → R32 (G.1 114 4) ∧ G.1 114 4 = A.2.1.2.1.1 := fun q => ⟨hR _ _, v5 (by omega)⟩
    have rf : (60 ≤ A.2.1.2.1.2.1 ∨ 2 * (bkJ A.1 j).2.2.1 ≤ A.2.1.2.1.2.1 ∨ 0 < A.2.1.2.1.2.1 ∧ A.2.1.2.1.1 ≠ (j : Int)) → cP G (addP A (j : Nat) z).2.2 ((addP A (j : Nat) z).1 = 0) (some (VI (addP A (j : Nat) z).2.1)) (some (VI 0)) (Wm (uI G 120 2 (G.1 120 2 + 1))) := fun q => by
      have e : addP A (j : Nat) z = (0, 0, refA A 2) := by unfold addP; rw [if_neg (fun h => h hin)]; exact if_pos q
      rw [e]
      exact ⟨rfl, rfl, _, s, rfl, RC_ref hC hI (by omega), FrC.u G _ (by omega)⟩
    have go : ¬ (60 ≤ A.2.1.2.1.2.1 ∨ 2 * (bkJ A.1 j).2.2.1 ≤ A.2.1.2.1.2.1 ∨ 0 < A.2.1.2.1.2.1 ∧ A.2.1.2.1.1 ≠ (j : Int)) → ∀ (r : Bool) (G1 : Wd), r = decide (z = sumF (cdS A.1) (bkJ A.1 j) (mm + 1)) → ScN s G G1 → NC G1 s A.1 → V κ MX11_add (rmD d 16 128) (cP G (addP A (j : Nat) z).2.2 ((addP A (j : Nat) z).1 = 0) (some (VI (addP A (j : Nat) z).2.1))) (cX G A ((addP A (j : Nat) z).1 = 1) NSE) 16 128 μ (0 + 1 + 0) (0 + 6 + 0) (Wm (G1)) 83 [some (VR 1), some (VI (j : Nat)), some (VL z), none, some (VR (s + 7 + 5 * j)), some (VI (mm : Nat)), none] [VI (b2i r)] := fun q r G1 hr f1 n1 => by
      have e : addP A (j : Nat) z = (0, b2i r, addA A (j : Int) r) := by
        unfold addP
        rw [if_neg (fun h => h hin)]
        refine (if_neg q).trans ?_
        rw [hr, hmm]
        rfl
      have hC1 := RC_n hC hI.1 f1 n1
      obtain ⟨u1, u2, u3, u4, u5, u6, u7, u8⟩ := hC1.2.2.2.1
      have u3' : G1.1 114 5 = (mm : Int) := by rw [u3, hmm]
      have ev : ∀ y, (evAdd G1 114 (j : Int) r).1 114 y = if y = 5 then (mm : Int) + 1 else if y = 4 then (j : Int) else if y = 6 ∧ r = false ∧ A.2.1.2.1.2.2 = -1 then (mm : Int) else G1.1 114 y := fun y => by
        unfold evAdd
        rw [u3', u4]
        by_cases c5 : y = 5
        · subst c5; rw [iu, if_pos rfl]
        · rw [iv (by omega), if_neg c5]
          by_cases c : r = false ∧ A.2.1.2.1.2.2 = -1
          · rw [if_pos c]
            by_cases c6 : y = 6
            · subst c6; rw [iu, if_neg (by decide), if_pos ⟨rfl, c⟩]
            · rw [iv (by omega)]
              by_cases c4 : y = 4
              · subst c4; rw [iu, if_pos rfl]
              · rw [iv (by omega), if_neg c4, if_neg (fun q => c6 q.1)]
          · rw [if_neg c]
            by_cases c4 : y = 4
            · subst c4; rw [iu, if_pos rfl]
            · rw [iv (by omega), if_neg c4, if_neg (fun q => c q.2)]
      have ex : ∀ x y, x ≠ 114 → (evAdd G1 114 (j : Int) r).1 x y = G1.1 x y := fun x y a => by
        unfold evAdd
        rw [iv (by omega)]
        split
        · rw [iv (by omega), iv (by omega)]
        · rw [iv (by omega)]
      have e2 : (evAdd G1 114 (j : Int) r).2 = G1.2 := by unfold evAdd; split <;> rfl
      have hC2 : RC (evAdd G1 114 (j : Int) r) s (addA A (j : Int) r) := RC_e hC1 hI (fun x y a => ex x y (by omega)) (by rw [e2]) ⟨by rw [ev, if_neg (by decide), if_neg (by decide), if_neg (by omega)]; exact u1, fun i hi => by rw [ex _ _ (by omega), ex _ _ (by omega), ex _ _ (by omega)]; exact u2 i hi, by rw [ev, if_pos rfl, hmm], by
        rw [ev, if_neg (by decide), if_neg (by decide)]
        by_cases c : r = false ∧ A.2.1.2.1.2.2 = -1
        · rw [if_pos ⟨rfl, c⟩, if_pos c, hmm]
        · rw [if_neg (fun q => c q.2), if_neg c]; exact u4, fun _ => by rw [ev, if_neg (by decide), if_pos rfl], by rw [ev, if_neg (by decide), if_neg (by decide), if_neg (by omega)]; exact u6, fun i hi => by rw [ex _ _ (by omega), ex _ _ (by omega)]; exact u7 i hi, fun i hi => by rw [ex _ _ (by omega)]; exact u8 i hi⟩
      have hFr : FrC G (evAdd G1 114 (j : Int) r) := (FrC.n hC.1.2.2 f1).trans (FrC.of (fun x a => by funext y; exact ex x y (by omega)) e2)
      refine V_ex sX11_add_83 (by simp only [Option.toList, List.cons_append, List.nil_append, exN, ex1, gI, gL, gR, pI, pL, pR, lget, lset1, lset2, kl, b2I, b2L, nob, ob32, ob64, xGet, xPut, xLen, xLd, xLdR, xSt, obA, true_and, and_true, and_self, eq_self, Nat.reduceEqDiff, Nat.zero_ne_one, reduceIte, Nat.reduceLeDiff, and_false, false_and, show skd 10 6 = 2 from rfl, show LF.1 1 = some (.inl 10) from rfl, show LF.2 1 6 = some 114 from rfl, upd2_eq, Int.reduceToNat, Int.toNat_natCast]; rfl) (by first | exact trivial | exact Or.inr rfl | exact Or.inl rfl | (simp only [ob, obA, R32, R64] at *; omega) | (simp only [ob, obA, R32, R64] at *; and_intros <;> omega)) ?_
      refine V_callV (M := MX11_add) (N := MX2_noteAdded) dX11_add_92 lRX11_298 kX2_noteAdded rfl (rfl) rfl (c_noteAdded (d := 3) hκ (e := 114) (b := (j : Int)) (ok := r) (G := G1) (Or.inl rfl) (by rw [u4]; unfold R32; omega)) rfl rfl (Nat.le_of_ble_eq_true rfl) (fit_rm (by omega)) (⟨Nat.le_of_ble_eq_true rfl, Nat.le_of_ble_eq_true rfl⟩) (fun v Ω' hp => ?_) (fun _ _ h => h.elim)
      obtain ⟨rfl, rfl⟩ := hp
      refine V_ex sX11_add_95 (by rfl) (by first | exact trivial | exact Or.inr rfl | exact Or.inl rfl | (simp only [ob, obA, R32, R64] at *; omega) | (simp only [ob, obA, R32, R64] at *; and_intros <;> omega)) ?_
      refine V_zret dX11_add_97 rfl (by first | exact Or.inl rfl | exact Or.inr rfl | exact b2i_01 _) (by decide) (by rw [e]; exact ⟨rfl, rfl, _, s, rfl, hC2, hFr⟩)
    have e1 : ((mm : Nat) : Int) + 1 = ((mm + 1 : Nat) : Int) := by omega
    refine V_ex sX11_add_0 (by rfl) (by first | exact trivial | exact Or.inr rfl | exact Or.inl rfl | (simp only [ob, obA, R32, R64] at *; omega) | (simp only [ob, obA, R32, R64] at *; and_intros <;> omega)) ?_
    refine V_callV (M := MX11_add) (N := MX11_needBook) dX11_add_2 lRX11_154 kX11_needBook rfl (rfl) rfl (c_nBook (d := 6) hκ hN hi (by omega)) rfl rfl (Nat.le_of_ble_eq_true rfl) (fit_rm (by omega)) (⟨Nat.le_of_ble_eq_true rfl, Nat.le_of_ble_eq_true rfl⟩) (fun v Ω' hp => ?_) (fun E Ω' h => absurd hin h.1)
    obtain ⟨-, rfl, rfl⟩ := hp
    rw [Int.toNat_natCast]
    refine V_ex sX11_add_5 (by simp only [Option.toList, List.cons_append, List.nil_append, exN, ex1, gI, gL, gR, pI, pL, pR, lget, lset1, lset2, kl, b2I, b2L, nob, ob32, ob64, xGet, xPut, xLen, xLd, xLdR, xSt, obA, true_and, and_true, and_self, eq_self, Nat.reduceEqDiff, Nat.zero_ne_one, reduceIte, Nat.reduceLeDiff, and_false, false_and, show skd 10 6 = 2 from rfl, show skd 2 5 = 0 from rfl, show LF.1 1 = some (.inl 10) from rfl, show LF.2 1 6 = some 114 from rfl, show LF.1 114 = some (.inl 2) from rfl, hB.1, k1, v3', upd2_eq, Int.reduceToNat, Int.toNat_natCast]; rfl) (by first | exact trivial | exact Or.inr rfl | exact Or.inl rfl | (simp only [ob, obA, R32, R64] at *; omega) | (simp only [ob, obA, R32, R64] at *; and_intros <;> omega)) ?_
    refine V_icmpge dX11_add_20 (tgt := 51) (by decide) (by simp only [R32, R64] at *; omega) (fun q20 => ?_) (fun q20 => ?_)
    · refine V_ex sX11_add_51 (by simp only [Option.toList, List.cons_append, List.nil_append, exN, ex1, gI, gL, gR, pI, pL, pR, lget, lset1, lset2, kl, b2I, b2L, nob, ob32, ob64, xGet, xPut, xLen, xLd, xLdR, xSt, obA, true_and, and_true, and_self, eq_self, Nat.reduceEqDiff, Nat.zero_ne_one, reduceIte, Nat.reduceLeDiff, and_false, false_and, show skd 10 6 = 2 from rfl, show LF.1 1 = some (.inl 10) from rfl, show LF.2 1 6 = some 114 from rfl, hB.1, k1, v3', upd2_eq, Int.reduceToNat, Int.toNat_natCast]; rfl) (by first | exact trivial | exact Or.inr rfl | exact Or.inl rfl | (simp only [ob, obA, R32, R64] at *; omega) | (simp only [ob, obA, R32, R64] at *; and_intros <;> omega)) ?_
      refine V_callV (M := MX11_add) (N := MX2_refuse) dX11_add_56 lRX11_106 kX2_refuse rfl (rfl) rfl (c_refuse (d := 3) hκ (e := 114) (w := 2) (Or.inl rfl) (by omega) (by omega)) rfl rfl (Nat.le_of_ble_eq_true rfl) (fit_rm (by omega)) (⟨Nat.le_of_ble_eq_true rfl, Nat.le_of_ble_eq_true rfl⟩) (fun v Ω' hp => ?_) (fun _ _ h => h.elim)
      obtain ⟨rfl, rfl⟩ := hp
      refine V_ex sX11_add_59 (by rfl) (by first | exact trivial | exact Or.inr rfl | exact Or.inl rfl | (simp only [ob, obA, R32, R64] at *; omega) | (simp only [ob, obA, R32, R64] at *; and_intros <;> omega)) ?_
      refine V_zret dX11_add_61 rfl (by first | exact Or.inl rfl | exact Or.inr rfl | exact b2i_01 _) (by decide) (rf (Or.inl (by omega)))
    · refine V_ex sX11_add_23 (by simp only [Option.toList, List.cons_append, List.nil_append, exN, ex1, gI, gL, gR, pI, pL, pR, lget, lset1, lset2, kl, b2I, b2L, nob, ob32, ob64, xGet, xPut, xLen, xLd, xLdR, xSt, obA, true_and, and_true, and_self, eq_self, Nat.reduceEqDiff, Nat.zero_ne_one, reduceIte, Nat.reduceLeDiff, and_false, false_and, show skd 0 1 = 0 from rfl, hB.1, k1, v3', upd2_eq, Int.reduceToNat, Int.toNat_natCast]; rfl) (by first | exact trivial | exact Or.inr rfl | exact Or.inl rfl | (simp only [ob, obA, R32, R64] at *; omega) | (simp only [ob, obA, R32, R64] at *; and_intros <;> omega)) ?_
      refine V_icmpge dX11_add_32 (tgt := 51) (by decide) (by simp only [R32, R64] at *; omega) (fun q32 => ?_) (fun q32 => ?_)
      · refine V_ex sX11_add_51 (by simp only [Option.toList, List.cons_append, List.nil_append, exN, ex1, gI, gL, gR, pI, pL, pR, lget, lset1, lset2, kl, b2I, b2L, nob, ob32, ob64, xGet, xPut, xLen, xLd, xLdR, xSt, obA, true_and, and_true, and_self, eq_self, Nat.reduceEqDiff, Nat.zero_ne_one, reduceIte, Nat.reduceLeDiff, and_false, false_and, show skd 10 6 = 2 from rfl, show LF.1 1 = some (.inl 10) from rfl, show LF.2 1 6 = some 114 from rfl, hB.1, k1, v3', upd2_eq, Int.reduceToNat, Int.toNat_natCast]; rfl) (by first | exact trivial | exact Or.inr rfl | exact Or.inl rfl | (simp only [ob, obA, R32, R64] at *; omega) | (simp only [ob, obA, R32, R64] at *; and_intros <;> omega)) ?_
        refine V_callV (M := MX11_add) (N := MX2_refuse) dX11_add_56 lRX11_106 kX2_refuse rfl (rfl) rfl (c_refuse (d := 3) hκ (e := 114) (w := 2) (Or.inl rfl) (by omega) (by omega)) rfl rfl (Nat.le_of_ble_eq_true rfl) (fit_rm (by omega)) (⟨Nat.le_of_ble_eq_true rfl, Nat.le_of_ble_eq_true rfl⟩) (fun v Ω' hp => ?_) (fun _ _ h => h.elim)
        obtain ⟨rfl, rfl⟩ := hp
        refine V_ex sX11_add_59 (by rfl) (by first | exact trivial | exact Or.inr rfl | exact Or.inl rfl | (simp only [ob, obA, R32, R64] at *; omega) | (simp only [ob, obA, R32, R64] at *; and_intros <;> omega)) ?_
        refine V_zret dX11_add_61 rfl (by first | exact Or.inl rfl | exact Or.inr rfl | exact b2i_01 _) (by decide) (rf (Or.inr (Or.inl (by omega))))
      · refine V_ex sX11_add_35 (by rfl) (by first | exact trivial | exact Or.inr rfl | exact Or.inl rfl | (simp only [ob, obA, R32, R64] at *; omega) | (simp only [ob, obA, R32, R64] at *; and_intros <;> omega)) ?_
        refine V_ifle dX11_add_37 (tgt := 62) (by decide) (by simp only [R32, R64] at *; omega) (fun q37 => ?_) (fun q37 => ?_)
        · refine V_ex sX11_add_62 (by rfl) (by first | exact trivial | exact Or.inr rfl | exact Or.inl rfl | (simp only [ob, obA, R32, R64] at *; omega) | (simp only [ob, obA, R32, R64] at *; and_intros <;> omega)) ?_
          rw [e1]
          refine V_callV (M := MX11_add) (N := MX11_sumOfFirst) dX11_add_71 lRX11_295 kX11_sumOfFirst rfl (rfl) rfl (c_sumOf (d := 7) hκ hN hj (n := mm + 1) (by omega) (by omega)) rfl rfl (Nat.le_of_ble_eq_true rfl) (fit_rm (by omega)) (⟨Nat.le_of_ble_eq_true rfl, Nat.le_of_ble_eq_true rfl⟩) (fun v Ω' hp => ?_) (fun _ _ h => h.elim)
          obtain ⟨rfl, G1, rfl, f1, n1⟩ := hp
          refine V_ex sX11_add_74 (by rfl) (by first | exact trivial | exact Or.inr rfl | exact Or.inl rfl | (simp only [ob, obA, R32, R64] at *; omega) | (simp only [ob, obA, R32, R64] at *; and_intros <;> omega)) ?_
          refine V_lifne dX11_add_75 (tgt := 82) (by decide) (fun q75 => ?_) (fun q75 => ?_)
          · refine V_ex sX11_add_82 (by rfl) (by first | exact trivial | exact Or.inr rfl | exact Or.inl rfl | (simp only [ob, obA, R32, R64] at *; omega) | (simp only [ob, obA, R32, R64] at *; and_intros <;> omega)) ?_
            exact go (by omega) false G1 (decide_eq_false q75).symm f1 n1
          · refine V_ex sX11_add_78 (by rfl) (by first | exact trivial | exact Or.inr rfl | exact Or.inl rfl | (simp only [ob, obA, R32, R64] at *; omega) | (simp only [ob, obA, R32, R64] at *; and_intros <;> omega)) ?_
            refine V_goto dX11_add_79 (tgt := 83) (by decide) ?_
            exact go (by omega) true G1 (decide_eq_true q75).symm f1 n1
        · refine V_ex sX11_add_40 (by simp only [Option.toList, List.cons_append, List.nil_append, exN, ex1, gI, gL, gR, pI, pL, pR, lget, lset1, lset2, kl, b2I, b2L, nob, ob32, ob64, xGet, xPut, xLen, xLd, xLdR, xSt, obA, true_and, and_true, and_self, eq_self, Nat.reduceEqDiff, Nat.zero_ne_one, reduceIte, Nat.reduceLeDiff, and_false, false_and, show skd 10 6 = 2 from rfl, show skd 2 4 = 0 from rfl, show LF.1 1 = some (.inl 10) from rfl, show LF.2 1 6 = some 114 from rfl, show LF.1 114 = some (.inl 2) from rfl, hB.1, k1, v3', upd2_eq, Int.reduceToNat, Int.toNat_natCast]; rfl) (by first | exact trivial | exact Or.inr rfl | exact Or.inl rfl | (simp only [ob, obA, R32, R64] at *; omega) | (simp only [ob, obA, R32, R64] at *; and_intros <;> omega)) ?_
          refine V_icmpeq dX11_add_48 (tgt := 62) (by decide) (by exact ⟨(hbk (by omega)).1, hi⟩) (fun q48 => ?_) (fun q48 => ?_)
          · have h48 := (hbk (by omega)).2.symm.trans q48
            refine V_ex sX11_add_62 (by rfl) (by first | exact trivial | exact Or.inr rfl | exact Or.inl rfl | (simp only [ob, obA, R32, R64] at *; omega) | (simp only [ob, obA, R32, R64] at *; and_intros <;> omega)) ?_
            rw [e1]
            refine V_callV (M := MX11_add) (N := MX11_sumOfFirst) dX11_add_71 lRX11_295 kX11_sumOfFirst rfl (rfl) rfl (c_sumOf (d := 7) hκ hN hj (n := mm + 1) (by omega) (by omega)) rfl rfl (Nat.le_of_ble_eq_true rfl) (fit_rm (by omega)) (⟨Nat.le_of_ble_eq_true rfl, Nat.le_of_ble_eq_true rfl⟩) (fun v Ω' hp => ?_) (fun _ _ h => h.elim)
            obtain ⟨rfl, G1, rfl, f1, n1⟩ := hp
            refine V_ex sX11_add_74 (by rfl) (by first | exact trivial | exact Or.inr rfl | exact Or.inl rfl | (simp only [ob, obA, R32, R64] at *; omega) | (simp only [ob, obA, R32, R64] at *; and_intros <;> omega)) ?_
            refine V_lifne dX11_add_75 (tgt := 82) (by decide) (fun q75 => ?_) (fun q75 => ?_)
            · refine V_ex sX11_add_82 (by rfl) (by first | exact trivial | exact Or.inr rfl | exact Or.inl rfl | (simp only [ob, obA, R32, R64] at *; omega) | (simp only [ob, obA, R32, R64] at *; and_intros <;> omega)) ?_
              exact go (by omega) false G1 (decide_eq_false q75).symm f1 n1
            · refine V_ex sX11_add_78 (by rfl) (by first | exact trivial | exact Or.inr rfl | exact Or.inl rfl | (simp only [ob, obA, R32, R64] at *; omega) | (simp only [ob, obA, R32, R64] at *; and_intros <;> omega)) ?_
              refine V_goto dX11_add_79 (tgt := 83) (by decide) ?_
              exact go (by omega) true G1 (decide_eq_true q75).symm f1 n1
          · refine V_ex sX11_add_51 (by simp only [Option.toList, List.cons_append, List.nil_append, exN, ex1, gI, gL, gR, pI, pL, pR, lget, lset1, lset2, kl, b2I, b2L, nob, ob32, ob64, xGet, xPut, xLen, xLd, xLdR, xSt, obA, true_and, and_true, and_self, eq_self, Nat.reduceEqDiff, Nat.zero_ne_one, reduceIte, Nat.reduceLeDiff, and_false, false_and, show skd 10 6 = 2 from rfl, show LF.1 1 = some (.inl 10) from rfl, show LF.2 1 6 = some 114 from rfl, hB.1, k1, v3', upd2_eq, Int.reduceToNat, Int.toNat_natCast]; rfl) (by first | exact trivial | exact Or.inr rfl | exact Or.inl rfl | (simp only [ob, obA, R32, R64] at *; omega) | (simp only [ob, obA, R32, R64] at *; and_intros <;> omega)) ?_
            refine V_callV (M := MX11_add) (N := MX2_refuse) dX11_add_56 lRX11_106 kX2_refuse rfl (rfl) rfl (c_refuse (d := 3) hκ (e := 114) (w := 2) (Or.inl rfl) (by omega) (by omega)) rfl rfl (Nat.le_of_ble_eq_true rfl) (fit_rm (by omega)) (⟨Nat.le_of_ble_eq_true rfl, Nat.le_of_ble_eq_true rfl⟩) (fun v Ω' hp => ?_) (fun _ _ h => h.elim)
            obtain ⟨rfl, rfl⟩ := hp
            refine V_ex sX11_add_59 (by rfl) (by first | exact trivial | exact Or.inr rfl | exact Or.inl rfl | (simp only [ob, obA, R32, R64] at *; omega) | (simp only [ob, obA, R32, R64] at *; and_intros <;> omega)) ?_
            refine V_zret dX11_add_61 rfl (by first | exact Or.inl rfl | exact Or.inr rfl | exact b2i_01 _) (by decide) (rf (Or.inr (Or.inr ⟨by omega, fun q => q48 ((hbk (by omega)).2.trans q)⟩)))
  · have e : addP A i z = (1, 0, A) := by unfold addP; rw [if_pos hin]
    refine V_ex sX11_add_0 (by rfl) (by first | exact trivial | exact Or.inr rfl | exact Or.inl rfl | (simp only [ob, obA, R32, R64] at *; omega) | (simp only [ob, obA, R32, R64] at *; and_intros <;> omega)) ?_
    refine V_callV (M := MX11_add) (N := MX11_needBook) dX11_add_2 lRX11_154 kX11_needBook rfl (rfl) rfl (c_nBook (d := 6) hκ hN hi (by omega)) rfl rfl (Nat.le_of_ble_eq_true rfl) (fit_rm (by omega)) (⟨Nat.le_of_ble_eq_true rfl, Nat.le_of_ble_eq_true rfl⟩) (fun v Ω' hp => ?_) (fun E Ω' h => ⟨by rw [h.2.1, h.2.2]; exact cX_0 hC (by rw [e]), rfl, Nat.le_of_ble_eq_true rfl, Nat.le_of_ble_eq_true rfl⟩)
    skip
    exact absurd hp.1 hin
def sticksB (v : Ev) (i l : Int) : Bool := v.2.2.1.any (fun q => decide (q.1 = i ∧ q.2 = l))
theorem stuckIn_v {G : Wd} {e : Nat} {i l : Int} : ∀ (L : List (Int × Int)) (k : Nat), (∀ x (h : x < L.length), G.1 (e + 4) (k + x) = (L[x]'h).1 ∧ G.1 (e + 5) (k + x) = (L[x]'h).2) → stuckIn G e i l L.length k = L.any (fun q => decide (q.1 = i ∧ q.2 = l)) := by
  intro L
  induction L with
  | nil => intro k h; rfl
  | cons a r ih =>
    intro k h
    have h0 := h 0 (by simp)
    have hr := ih (k + 1) (fun x hx => by
      have := h (x + 1) (by simp; exact hx)
      rw [show k + 1 + x = k + (x + 1) by omega]
      simpa using this)
    rw [List.length_cons, stuckIn, hr, List.any_cons]
    simp only [Nat.add_zero, List.getElem_cons_zero] at h0
    rw [h0.1, h0.2]
    by_cases c : a.1 = i ∧ a.2 = l
    · rw [if_pos c, decide_eq_true c]; rfl
    · rw [if_neg c, decide_eq_false c]; rfl
def stickA (A : Ab) (i l : Int) : Ab := (A.1, (A.2.1.1, A.2.1.2.1, A.2.1.2.2.1 ++ [(i, l)], A.2.1.2.2.2), A.2.2)
def stickP (A : Ab) (i l : Int) : Int × Int × Ab := if ¬ (inB A.1 i ∧ 0 ≤ l ∧ l < (bkA A i).2.2.1) then (1, 0, A) else if 20 ≤ A.2.1.2.2.1.length ∨ (bkA A i).2.2.1 ≤ l + 1 ∨ l ∈ (bkA A i).2.2.2.2.2 ∨ l + 1 ∈ (bkA A i).2.2.2.2.2 ∨ sticksB A.2.1 i l = true then (0, -1, refA A 3) else (0, ((A.2.1.2.2.1.length + 1 : Nat) : Int), stickA A i l)
set_option maxRecDepth 100000 in
set_option maxHeartbeats 4000000 in
theorem c_xStick {κ : Kx} (hκ : KOK κ) {d s : Nat} {K i l : Int} {A : Ab} {G : Wd} (hC : RC G s A) (hI : Inv K A) (hR : aR G) (hi : R32 i) (hl : R32 l) (hd : 20 ≤ d) : Ct κ MX11_stick d 16 128 [VR 1, VI i, VI l] (Wm G) (cP G (stickP A i l).2.2 ((stickP A i l).1 = 0) (some (VI (stickP A i l).2.1))) (cX G A ((stickP A i l).1 = 1) NSE) := by
  refine Ct_of hκ kX11_stick.1 rfl (Nat.le_of_ble_eq_true rfl) (ls := [some (VR 1), some (VI i), some (VI l), none]) rfl (fun μ => ?_)
  have hN := RC_N hC hI.1 hR
  obtain ⟨v1, v2, v3, v4, v5, v6, v7, v8⟩ := hC.2.2.2.1
  have h20 := hI.2.1.2.2.1.1
  by_cases hin : inB A.1 i ∧ 0 ≤ l ∧ l < (bkA A i).2.2.1
  · obtain ⟨j, hj⟩ : ∃ j : Nat, i = (j : Int) := ⟨i.toNat, by have := hin.1.1; omega⟩
    subst hj
    have hj : j < A.1.1.length := by have := hin.1.2; omega
    obtain ⟨hB, hj6, hok, k0, k2, k1, -, kg⟩ := NC_b hN hj
    have hlv := hok.2.2.2.1
    have hll : 0 ≤ l ∧ l < (bkJ A.1 j).2.2.1 := hin.2
    have hl1 : R32 (l + 1) := by unfold R32; omega
    have hH := c_has (κ := κ) hκ (d := 3) (leaf := l) (G := G) hB.2.2.1 hl
    rw [kg.2 l] at hH
    have hH2 := c_has (κ := κ) hκ (d := 3) (leaf := l + 1) (G := G) hB.2.2.1 hl1
    rw [kg.2 (l + 1)] at hH2
    have hLf := c_hasLeaf (κ := κ) hκ (d := 3) (i := l + 1) (G := G) hB hl1 (by rw [k1]; unfold R32; omega)
    rw [k1] at hLf
    have hSt := c_isStuck (κ := κ) hκ (d := 3) (e := 114) (b := (j : Int)) (l := l) (G := G) (Or.inl rfl) hi hl (fun _ => hR _ _) (fun _ => hR _ _) (by rw [v6]; omega) (by omega)
    rw [v6, Int.toNat_natCast, stuckIn_v A.2.1.2.2.1 0 (fun x hx => by rw [Nat.zero_add]; exact v7 x hx)] at hSt
    have rf : (20 ≤ A.2.1.2.2.1.length ∨ (bkJ A.1 j).2.2.1 ≤ l + 1 ∨ l ∈ (bkJ A.1 j).2.2.2.2.2 ∨ l + 1 ∈ (bkJ A.1 j).2.2.2.2.2 ∨ sticksB A.2.1 (j : Int) l = true) → cP G (stickP A (j : Nat) l).2.2 ((stickP A (j : Nat) l).1 = 0) (some (VI (stickP A (j : Nat) l).2.1)) (some (VI (-1))) (Wm (uI G 120 3 (G.1 120 3 + 1))) := fun q => by
      have e : stickP A (j : Nat) l = (0, -1, refA A 3) := by unfold stickP; rw [if_neg (fun h => h hin)]; exact if_pos q
      rw [e]
      exact ⟨rfl, rfl, _, s, rfl, RC_ref hC hI (by omega), FrC.u G _ (by omega)⟩
    have hn : (G.1 114 9).toNat = A.2.1.2.2.1.length := by rw [v6]; exact Int.toNat_natCast _
    refine V_ex sX11_stick_0 (by rfl) (by first | exact trivial | exact Or.inr rfl | exact Or.inl rfl | (simp only [ob, obA, R32, R64] at *; omega) | (simp only [ob, obA, R32, R64] at *; and_intros <;> omega)) ?_
    refine V_callV (M := MX11_stick) (N := MX11_needLeaf) dX11_stick_3 lRX11_198 kX11_needLeaf rfl (rfl) rfl (c_nLeaf (d := 7) hκ hN hi hl (by omega)) rfl rfl (Nat.le_of_ble_eq_true rfl) (fit_rm (by omega)) (⟨Nat.le_of_ble_eq_true rfl, Nat.le_of_ble_eq_true rfl⟩) (fun v Ω' hp => ?_) (fun E Ω' h => absurd hin h.1)
    obtain ⟨-, rfl, rfl⟩ := hp
    rw [Int.toNat_natCast]
    refine V_ex sX11_stick_6 (by simp only [Option.toList, List.cons_append, List.nil_append, exN, ex1, gI, gL, gR, pI, pL, pR, lget, lset1, lset2, kl, b2I, b2L, nob, ob32, ob64, xGet, xPut, xLen, xLd, xLdR, xSt, obA, true_and, and_true, and_self, eq_self, Nat.reduceEqDiff, Nat.zero_ne_one, reduceIte, Nat.reduceLeDiff, and_false, false_and, show skd 10 6 = 2 from rfl, show skd 2 9 = 0 from rfl, show LF.1 1 = some (.inl 10) from rfl, show LF.2 1 6 = some 114 from rfl, show LF.1 114 = some (.inl 2) from rfl, hB.1, hB.2.1, v6, upd2_eq, Int.reduceToNat, Int.toNat_natCast]; rfl) (by first | exact trivial | exact Or.inr rfl | exact Or.inl rfl | (simp only [ob, obA, R32, R64] at *; omega) | (simp only [ob, obA, R32, R64] at *; and_intros <;> omega)) ?_
    refine V_icmpge dX11_stick_16 (tgt := 65) (by decide) (by simp only [R32, R64] at *; omega) (fun q16 => ?_) (fun q16 => ?_)
    · refine V_ex sX11_stick_65 (by simp only [Option.toList, List.cons_append, List.nil_append, exN, ex1, gI, gL, gR, pI, pL, pR, lget, lset1, lset2, kl, b2I, b2L, nob, ob32, ob64, xGet, xPut, xLen, xLd, xLdR, xSt, obA, true_and, and_true, and_self, eq_self, Nat.reduceEqDiff, Nat.zero_ne_one, reduceIte, Nat.reduceLeDiff, and_false, false_and, show skd 10 6 = 2 from rfl, show LF.1 1 = some (.inl 10) from rfl, show LF.2 1 6 = some 114 from rfl, hB.1, hB.2.1, v6, upd2_eq, Int.reduceToNat, Int.toNat_natCast]; rfl) (by first | exact trivial | exact Or.inr rfl | exact Or.inl rfl | (simp only [ob, obA, R32, R64] at *; omega) | (simp only [ob, obA, R32, R64] at *; and_intros <;> omega)) ?_
      refine V_callV (M := MX11_stick) (N := MX2_refuse) dX11_stick_70 lRX11_106 kX2_refuse rfl (rfl) rfl (c_refuse (d := 3) hκ (e := 114) (w := 3) (Or.inl rfl) (by omega) (by omega)) rfl rfl (Nat.le_of_ble_eq_true rfl) (fit_rm (by omega)) (⟨Nat.le_of_ble_eq_true rfl, Nat.le_of_ble_eq_true rfl⟩) (fun v Ω' hp => ?_) (fun _ _ h => h.elim)
      obtain ⟨rfl, rfl⟩ := hp
      refine V_iret dX11_stick_73 rfl (by decide) (rf (Or.inl (by omega)))
    · refine V_ex sX11_stick_19 (by rfl) (by first | exact trivial | exact Or.inr rfl | exact Or.inl rfl | (simp only [ob, obA, R32, R64] at *; omega) | (simp only [ob, obA, R32, R64] at *; and_intros <;> omega)) ?_
      refine V_callV (M := MX11_stick) (N := MX0_hasLeaf) dX11_stick_23 lRX11_157 kX0_hasLeaf rfl (hB.1) rfl (hLf) rfl rfl (Nat.le_of_ble_eq_true rfl) (fit_rm (by omega)) (⟨Nat.le_of_ble_eq_true rfl, Nat.le_of_ble_eq_true rfl⟩) (fun v Ω' hp => ?_) (fun _ _ h => h.elim)
      obtain ⟨rfl, rfl⟩ := hp
      refine V_ifeqB dX11_stick_26 (tgt := 65) (by decide) (fun q26 => ?_) (fun q26 => ?_)
      · refine V_ex sX11_stick_65 (by simp only [Option.toList, List.cons_append, List.nil_append, exN, ex1, gI, gL, gR, pI, pL, pR, lget, lset1, lset2, kl, b2I, b2L, nob, ob32, ob64, xGet, xPut, xLen, xLd, xLdR, xSt, obA, true_and, and_true, and_self, eq_self, Nat.reduceEqDiff, Nat.zero_ne_one, reduceIte, Nat.reduceLeDiff, and_false, false_and, show skd 10 6 = 2 from rfl, show LF.1 1 = some (.inl 10) from rfl, show LF.2 1 6 = some 114 from rfl, hB.1, hB.2.1, v6, upd2_eq, Int.reduceToNat, Int.toNat_natCast]; rfl) (by first | exact trivial | exact Or.inr rfl | exact Or.inl rfl | (simp only [ob, obA, R32, R64] at *; omega) | (simp only [ob, obA, R32, R64] at *; and_intros <;> omega)) ?_
        refine V_callV (M := MX11_stick) (N := MX2_refuse) dX11_stick_70 lRX11_106 kX2_refuse rfl (rfl) rfl (c_refuse (d := 3) hκ (e := 114) (w := 3) (Or.inl rfl) (by omega) (by omega)) rfl rfl (Nat.le_of_ble_eq_true rfl) (fit_rm (by omega)) (⟨Nat.le_of_ble_eq_true rfl, Nat.le_of_ble_eq_true rfl⟩) (fun v Ω' hp => ?_) (fun _ _ h => h.elim)
        obtain ⟨rfl, rfl⟩ := hp
        refine V_iret dX11_stick_73 rfl (by decide) (rf (Or.inr (Or.inl (by have := of_decide_eq_false q26; omega))))
      · refine V_ex sX11_stick_29 (by simp only [Option.toList, List.cons_append, List.nil_append, exN, ex1, gI, gL, gR, pI, pL, pR, lget, lset1, lset2, kl, b2I, b2L, nob, ob32, ob64, xGet, xPut, xLen, xLd, xLdR, xSt, obA, true_and, and_true, and_self, eq_self, Nat.reduceEqDiff, Nat.zero_ne_one, reduceIte, Nat.reduceLeDiff, and_false, false_and, show skd 0 5 = 2 from rfl, hB.1, hB.2.1, v6, upd2_eq, Int.reduceToNat, Int.toNat_natCast]; rfl) (by first | exact trivial | exact Or.inr rfl | exact Or.inl rfl | (simp only [ob, obA, R32, R64] at *; omega) | (simp only [ob, obA, R32, R64] at *; and_intros <;> omega)) ?_
        refine V_callV (M := MX11_stick) (N := MX5_has) dX11_stick_34 lRX11_202 kX5_has rfl (hB.2.2.1.1) rfl (hH) rfl rfl (Nat.le_of_ble_eq_true rfl) (fit_rm (by omega)) (⟨Nat.le_of_ble_eq_true rfl, Nat.le_of_ble_eq_true rfl⟩) (fun v Ω' hp => ?_) (fun _ _ h => h.elim)
        obtain ⟨rfl, rfl⟩ := hp
        refine V_ifneB dX11_stick_37 (tgt := 65) (by decide) (fun q37 => ?_) (fun q37 => ?_)
        · refine V_ex sX11_stick_65 (by simp only [Option.toList, List.cons_append, List.nil_append, exN, ex1, gI, gL, gR, pI, pL, pR, lget, lset1, lset2, kl, b2I, b2L, nob, ob32, ob64, xGet, xPut, xLen, xLd, xLdR, xSt, obA, true_and, and_true, and_self, eq_self, Nat.reduceEqDiff, Nat.zero_ne_one, reduceIte, Nat.reduceLeDiff, and_false, false_and, show skd 10 6 = 2 from rfl, show LF.1 1 = some (.inl 10) from rfl, show LF.2 1 6 = some 114 from rfl, hB.1, hB.2.1, v6, upd2_eq, Int.reduceToNat, Int.toNat_natCast]; rfl) (by first | exact trivial | exact Or.inr rfl | exact Or.inl rfl | (simp only [ob, obA, R32, R64] at *; omega) | (simp only [ob, obA, R32, R64] at *; and_intros <;> omega)) ?_
          refine V_callV (M := MX11_stick) (N := MX2_refuse) dX11_stick_70 lRX11_106 kX2_refuse rfl (rfl) rfl (c_refuse (d := 3) hκ (e := 114) (w := 3) (Or.inl rfl) (by omega) (by omega)) rfl rfl (Nat.le_of_ble_eq_true rfl) (fit_rm (by omega)) (⟨Nat.le_of_ble_eq_true rfl, Nat.le_of_ble_eq_true rfl⟩) (fun v Ω' hp => ?_) (fun _ _ h => h.elim)
          obtain ⟨rfl, rfl⟩ := hp
          refine V_iret dX11_stick_73 rfl (by decide) (rf (Or.inr (Or.inr (Or.inl (of_decide_eq_true q37)))))
        · refine V_ex sX11_stick_40 (by simp only [Option.toList, List.cons_append, List.nil_append, exN, ex1, gI, gL, gR, pI, pL, pR, lget, lset1, lset2, kl, b2I, b2L, nob, ob32, ob64, xGet, xPut, xLen, xLd, xLdR, xSt, obA, true_and, and_true, and_self, eq_self, Nat.reduceEqDiff, Nat.zero_ne_one, reduceIte, Nat.reduceLeDiff, and_false, false_and, show skd 0 5 = 2 from rfl, hB.1, hB.2.1, v6, upd2_eq, Int.reduceToNat, Int.toNat_natCast]; rfl) (by first | exact trivial | exact Or.inr rfl | exact Or.inl rfl | (simp only [ob, obA, R32, R64] at *; omega) | (simp only [ob, obA, R32, R64] at *; and_intros <;> omega)) ?_
          refine V_callV (M := MX11_stick) (N := MX5_has) dX11_stick_47 lRX11_202 kX5_has rfl (hB.2.2.1.1) rfl (hH2) rfl rfl (Nat.le_of_ble_eq_true rfl) (fit_rm (by omega)) (⟨Nat.le_of_ble_eq_true rfl, Nat.le_of_ble_eq_true rfl⟩) (fun v Ω' hp => ?_) (fun _ _ h => h.elim)
          obtain ⟨rfl, rfl⟩ := hp
          refine V_ifneB dX11_stick_50 (tgt := 65) (by decide) (fun q50 => ?_) (fun q50 => ?_)
          · refine V_ex sX11_stick_65 (by simp only [Option.toList, List.cons_append, List.nil_append, exN, ex1, gI, gL, gR, pI, pL, pR, lget, lset1, lset2, kl, b2I, b2L, nob, ob32, ob64, xGet, xPut, xLen, xLd, xLdR, xSt, obA, true_and, and_true, and_self, eq_self, Nat.reduceEqDiff, Nat.zero_ne_one, reduceIte, Nat.reduceLeDiff, and_false, false_and, show skd 10 6 = 2 from rfl, show LF.1 1 = some (.inl 10) from rfl, show LF.2 1 6 = some 114 from rfl, hB.1, hB.2.1, v6, upd2_eq, Int.reduceToNat, Int.toNat_natCast]; rfl) (by first | exact trivial | exact Or.inr rfl | exact Or.inl rfl | (simp only [ob, obA, R32, R64] at *; omega) | (simp only [ob, obA, R32, R64] at *; and_intros <;> omega)) ?_
            refine V_callV (M := MX11_stick) (N := MX2_refuse) dX11_stick_70 lRX11_106 kX2_refuse rfl (rfl) rfl (c_refuse (d := 3) hκ (e := 114) (w := 3) (Or.inl rfl) (by omega) (by omega)) rfl rfl (Nat.le_of_ble_eq_true rfl) (fit_rm (by omega)) (⟨Nat.le_of_ble_eq_true rfl, Nat.le_of_ble_eq_true rfl⟩) (fun v Ω' hp => ?_) (fun _ _ h => h.elim)
            obtain ⟨rfl, rfl⟩ := hp
            refine V_iret dX11_stick_73 rfl (by decide) (rf (Or.inr (Or.inr (Or.inr (Or.inl (of_decide_eq_true q50))))))
          · refine V_ex sX11_stick_53 (by simp only [Option.toList, List.cons_append, List.nil_append, exN, ex1, gI, gL, gR, pI, pL, pR, lget, lset1, lset2, kl, b2I, b2L, nob, ob32, ob64, xGet, xPut, xLen, xLd, xLdR, xSt, obA, true_and, and_true, and_self, eq_self, Nat.reduceEqDiff, Nat.zero_ne_one, reduceIte, Nat.reduceLeDiff, and_false, false_and, show skd 10 6 = 2 from rfl, show LF.1 1 = some (.inl 10) from rfl, show LF.2 1 6 = some 114 from rfl, hB.1, hB.2.1, v6, upd2_eq, Int.reduceToNat, Int.toNat_natCast]; rfl) (by first | exact trivial | exact Or.inr rfl | exact Or.inl rfl | (simp only [ob, obA, R32, R64] at *; omega) | (simp only [ob, obA, R32, R64] at *; and_intros <;> omega)) ?_
            refine V_callV (M := MX11_stick) (N := MX2_isStuck) dX11_stick_59 lRX11_409 kX2_isStuck rfl (rfl) rfl (hSt) rfl rfl (Nat.le_of_ble_eq_true rfl) (fit_rm (by omega)) (⟨Nat.le_of_ble_eq_true rfl, Nat.le_of_ble_eq_true rfl⟩) (fun v Ω' hp => ?_) (fun _ _ h => h.elim)
            obtain ⟨rfl, rfl⟩ := hp
            refine V_ifeqB dX11_stick_62 (tgt := 74) (by decide) (fun q62 => ?_) (fun q62 => ?_)
            · refine V_ex sX11_stick_74 (by simp only [Option.toList, List.cons_append, List.nil_append, exN, ex1, gI, gL, gR, pI, pL, pR, lget, lset1, lset2, kl, b2I, b2L, nob, ob32, ob64, xGet, xPut, xLen, xLd, xLdR, xSt, obA, true_and, and_true, and_self, eq_self, Nat.reduceEqDiff, Nat.zero_ne_one, reduceIte, Nat.reduceLeDiff, and_false, false_and, show skd 10 6 = 2 from rfl, show LF.1 1 = some (.inl 10) from rfl, show LF.2 1 6 = some 114 from rfl, hB.1, hB.2.1, v6, upd2_eq, Int.reduceToNat, Int.toNat_natCast]; rfl) (by first | exact trivial | exact Or.inr rfl | exact Or.inl rfl | (simp only [ob, obA, R32, R64] at *; omega) | (simp only [ob, obA, R32, R64] at *; and_intros <;> omega)) ?_
              refine V_callV (M := MX11_stick) (N := MX2_noteStuck) dX11_stick_80 lRX11_412 kX2_noteStuck rfl (rfl) rfl (c_noteStuck (d := 3) hκ (e := 114) (b := (j : Int)) (l := l) (G := G) (Or.inl rfl) (by rw [v6]; omega) (by omega)) rfl rfl (Nat.le_of_ble_eq_true rfl) (fit_rm (by omega)) (⟨Nat.le_of_ble_eq_true rfl, Nat.le_of_ble_eq_true rfl⟩) (fun v Ω' hp => ?_) (fun _ _ h => h.elim)
              obtain ⟨rfl, rfl⟩ := hp
              refine V_iret dX11_stick_83 rfl (by decide) ?_
              have e : stickP A (j : Nat) l = (0, ((A.2.1.2.2.1.length + 1 : Nat) : Int), stickA A (j : Int) l) := by unfold stickP; rw [if_neg (fun h => h hin)]; exact if_neg (fun q => by rcases q with q | q | q | q | q; omega; (have q : (bkJ A.1 j).2.2.1 ≤ l + 1 := q); (have := of_decide_eq_true q26); omega; exact of_decide_eq_false q37 q; exact of_decide_eq_false q50 q; exact absurd (q.symm.trans q62) (by decide))
              rw [e, hn, v6]
              refine ⟨rfl, by congr 2, _, s, rfl, RC_e hC hI (fun x y a => by rw [iv (by omega), iv (by omega), iv (by omega)]) rfl ⟨by rw [iv (by omega), iv (by omega), iv (by omega)]; exact v1, fun x hx => by rw [iv (by omega), iv (by omega), iv (by omega), iv (by omega), iv (by omega), iv (by omega), iv (by omega), iv (by omega), iv (by omega)]; exact v2 x hx, by rw [iv (by omega), iv (by omega), iv (by omega)]; exact v3, by rw [iv (by omega), iv (by omega), iv (by omega)]; exact v4, fun q => by rw [iv (by omega), iv (by omega), iv (by omega)]; exact v5 q, by rw [iu]; simp, fun x hx => ?_, fun x hx => by rw [iv (by omega), iv (by omega), iv (by omega)]; exact v8 x hx⟩, ((FrC.u G _ (by omega)).trans (FrC.u _ _ (by omega))).trans (FrC.u _ _ (by omega))⟩
              have hx' : x < A.2.1.2.2.1.length + 1 := by simpa using hx
              by_cases c : x < A.2.1.2.2.1.length
              · have hxx : x ≠ A.2.1.2.2.1.length := by omega
                have q := v7 x c
                simp only [List.getElem_append_left c]
                simpa [upd2_eq, hxx] using q
              · obtain rfl : x = A.2.1.2.2.1.length := by omega
                simp only [List.getElem_append_right (Nat.le_refl _), Nat.sub_self, List.getElem_singleton]
                simp [upd2_eq]
            · refine V_ex sX11_stick_65 (by simp only [Option.toList, List.cons_append, List.nil_append, exN, ex1, gI, gL, gR, pI, pL, pR, lget, lset1, lset2, kl, b2I, b2L, nob, ob32, ob64, xGet, xPut, xLen, xLd, xLdR, xSt, obA, true_and, and_true, and_self, eq_self, Nat.reduceEqDiff, Nat.zero_ne_one, reduceIte, Nat.reduceLeDiff, and_false, false_and, show skd 10 6 = 2 from rfl, show LF.1 1 = some (.inl 10) from rfl, show LF.2 1 6 = some 114 from rfl, hB.1, hB.2.1, v6, upd2_eq, Int.reduceToNat, Int.toNat_natCast]; rfl) (by first | exact trivial | exact Or.inr rfl | exact Or.inl rfl | (simp only [ob, obA, R32, R64] at *; omega) | (simp only [ob, obA, R32, R64] at *; and_intros <;> omega)) ?_
              refine V_callV (M := MX11_stick) (N := MX2_refuse) dX11_stick_70 lRX11_106 kX2_refuse rfl (rfl) rfl (c_refuse (d := 3) hκ (e := 114) (w := 3) (Or.inl rfl) (by omega) (by omega)) rfl rfl (Nat.le_of_ble_eq_true rfl) (fit_rm (by omega)) (⟨Nat.le_of_ble_eq_true rfl, Nat.le_of_ble_eq_true rfl⟩) (fun v Ω' hp => ?_) (fun _ _ h => h.elim)
              obtain ⟨rfl, rfl⟩ := hp
              refine V_iret dX11_stick_73 rfl (by decide) (rf (Or.inr (Or.inr (Or.inr (Or.inr q62)))))
  · have e : stickP A i l = (1, 0, A) := by unfold stickP; rw [if_pos hin]
    refine V_ex sX11_stick_0 (by rfl) (by first | exact trivial | exact Or.inr rfl | exact Or.inl rfl | (simp only [ob, obA, R32, R64] at *; omega) | (simp only [ob, obA, R32, R64] at *; and_intros <;> omega)) ?_
    refine V_callV (M := MX11_stick) (N := MX11_needLeaf) dX11_stick_3 lRX11_198 kX11_needLeaf rfl (rfl) rfl (c_nLeaf (d := 7) hκ hN hi hl (by omega)) rfl rfl (Nat.le_of_ble_eq_true rfl) (fit_rm (by omega)) (⟨Nat.le_of_ble_eq_true rfl, Nat.le_of_ble_eq_true rfl⟩) (fun v Ω' hp => ?_) (fun E Ω' h => ⟨by rw [h.2.1, h.2.2]; exact cX_0 hC (by rw [e]), rfl, Nat.le_of_ble_eq_true rfl, Nat.le_of_ble_eq_true rfl⟩)
    skip
    exact absurd hp.1 hin
