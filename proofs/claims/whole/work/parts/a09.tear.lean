/-! TornLeaves: tear, sheet -/
theorem cacheC_c {G G' : Wd} {S : Sh} (h : cacheC G S) (e : G'.1 128 = G.1 128) : cacheC G' S := fun k hk h6 p a b => by rw [e]; exact h k hk h6 p a b
def twW (G : Wd) (a : Nat) (z o : Int) : Wd := if o = -1 then lsTake G a z else lsTake (lsTake G a z) a o
def ntW (G : Wd) (b l o : Int) : Wd := uI (uI (uI (uI G 115 (G.1 114 3).toNat b) 116 (G.1 114 3).toNat l) 117 (G.1 114 3).toNat o) 114 3 (G.1 114 3 + 1)
theorem twW_ne {G : Wd} {a x : Nat} {z o : Int} (h1 : x ≠ a) (h2 : x ≠ a + 1) : (twW G a z o).1 x = G.1 x := by
  unfold twW; split
  · exact lsTake_ne h1 h2
  · rw [lsTake_ne h1 h2, lsTake_ne h1 h2]
theorem twW_2 {G : Wd} {a : Nat} {z o : Int} : (twW G a z o).2 = G.2 := by
  unfold twW; split
  · exact lsTake_2
  · rw [lsTake_2, lsTake_2]
set_option maxRecDepth 100000 in
set_option maxHeartbeats 4000000 in
theorem c_tearO {κ : Kx} (hκ : KOK κ) {d s j : Nat} {i z o : Int} {S : Sh} {G : Wd} (hN : NC G s S) (hj : j < S.1.length) (hz : R32 z) (ho : R32 o) (ht : 0 ≤ G.1 114 3 ∧ G.1 114 3 < 360) (hd : 4 ≤ d) : Ct κ MX11_tearOut d 0 0 [VR 1, VI i, VR (s + 7 + 5 * j), VI z, VI o] (Wm G) (voidG (ntW (twW G (s + 7 + 5 * j + 1) z o) i z o)) noX := by
  refine Ct_of hκ kX11_tearOut.1 rfl (Nat.le_of_ble_eq_true rfl) (ls := [some (VR 1), some (VI i), some (VR (s + 7 + 5 * j)), some (VI z), some (VI o)]) rfl (fun μ => ?_)
  obtain ⟨hB, hj6, hok, -⟩ := NC_b hN hj
  have hs8 : s = 8 ∨ s = 61 := hN.2.1
  have hne : ∀ x, 114 ≤ x → x ≤ 117 → x ≠ s + 7 + 5 * j + 1 ∧ x ≠ s + 7 + 5 * j + 1 + 1 := fun x a b => by omega
  have e3 : (twW G (s + 7 + 5 * j + 1) z o).1 114 3 = G.1 114 3 := by rw [twW_ne (hne _ (by omega) (by omega)).1 (hne _ (by omega) (by omega)).2]
  have hNt := fun G1 (e : G1.1 114 3 = G.1 114 3) => c_noteTorn (κ := κ) hκ (d := 3) (e := 114) (b := i) (l := z) (o := o) (G := G1) (Or.inl rfl) (by rw [e]; exact ht) (by omega)
  by_cases hc : o = -1
  · have et : twW G (s + 7 + 5 * j + 1) z o = lsTake G (s + 7 + 5 * j + 1) z := by unfold twW; rw [if_pos hc]
    rw [et] at e3 ⊢
    refine V_ex sX11_tearOut_0 (by simp only [Option.toList, List.cons_append, List.nil_append, exN, ex1, gI, gL, gR, pI, pL, pR, lget, lset1, lset2, kl, b2I, b2L, nob, ob32, ob64, xGet, xPut, xLen, xLd, xLdR, xSt, obA, true_and, and_true, and_self, eq_self, Nat.reduceEqDiff, Nat.zero_ne_one, reduceIte, Nat.reduceLeDiff, and_false, false_and, show skd 0 5 = 2 from rfl, hB.1, hB.2.1, upd2_eq, Int.reduceToNat, Int.toNat_natCast]; rfl) (by first | exact trivial | exact Or.inr rfl | exact Or.inl rfl | (simp only [ob, obA, R32, R64] at *; omega) | (simp only [ob, obA, R32, R64] at *; and_intros <;> omega)) ?_
    refine V_callV (M := MX11_tearOut) (N := MX5_take) dX11_tearOut_5 lRX11_258 kX5_take rfl (hB.2.2.1.1) rfl (c_take (d := 3) hκ hB.2.2.1 hz) rfl rfl (Nat.le_of_ble_eq_true rfl) (fit_rm (by omega)) (⟨Nat.le_of_ble_eq_true rfl, Nat.le_of_ble_eq_true rfl⟩) (fun v Ω' hp => ?_) (fun _ _ h => h.elim)
    obtain ⟨rfl, rfl⟩ := hp
    refine V_ex sX11_tearOut_8 (by rfl) (by first | exact trivial | exact Or.inr rfl | exact Or.inl rfl | (simp only [ob, obA, R32, R64] at *; omega) | (simp only [ob, obA, R32, R64] at *; and_intros <;> omega)) ?_
    refine V_icmpeq dX11_tearOut_11 (tgt := 23) (by decide) (by simp only [R32, R64] at *; omega) (fun q11 => ?_) (fun q11 => ?_)
    · refine V_ex sX11_tearOut_23 (by simp only [Option.toList, List.cons_append, List.nil_append, exN, ex1, gI, gL, gR, pI, pL, pR, lget, lset1, lset2, kl, b2I, b2L, nob, ob32, ob64, xGet, xPut, xLen, xLd, xLdR, xSt, obA, true_and, and_true, and_self, eq_self, Nat.reduceEqDiff, Nat.zero_ne_one, reduceIte, Nat.reduceLeDiff, and_false, false_and, show skd 10 6 = 2 from rfl, show LF.1 1 = some (.inl 10) from rfl, show LF.2 1 6 = some 114 from rfl, upd2_eq, Int.reduceToNat, Int.toNat_natCast]; rfl) (by first | exact trivial | exact Or.inr rfl | exact Or.inl rfl | (simp only [ob, obA, R32, R64] at *; omega) | (simp only [ob, obA, R32, R64] at *; and_intros <;> omega)) ?_
      refine V_callV (M := MX11_tearOut) (N := MX2_noteTorn) dX11_tearOut_31 lRX11_261 kX2_noteTorn rfl (rfl) rfl (hNt _ e3) rfl rfl (Nat.le_of_ble_eq_true rfl) (fit_rm (by omega)) (⟨Nat.le_of_ble_eq_true rfl, Nat.le_of_ble_eq_true rfl⟩) (fun v Ω' hp => ?_) (fun _ _ h => h.elim)
      obtain ⟨rfl, rfl⟩ := hp
      refine V_vret dX11_tearOut_34 rfl (by decide) ⟨rfl, rfl⟩
    · exact absurd hc q11
  · have et : twW G (s + 7 + 5 * j + 1) z o = lsTake (lsTake G (s + 7 + 5 * j + 1) z) (s + 7 + 5 * j + 1) o := by unfold twW; rw [if_neg hc]
    rw [et] at e3 ⊢
    refine V_ex sX11_tearOut_0 (by simp only [Option.toList, List.cons_append, List.nil_append, exN, ex1, gI, gL, gR, pI, pL, pR, lget, lset1, lset2, kl, b2I, b2L, nob, ob32, ob64, xGet, xPut, xLen, xLd, xLdR, xSt, obA, true_and, and_true, and_self, eq_self, Nat.reduceEqDiff, Nat.zero_ne_one, reduceIte, Nat.reduceLeDiff, and_false, false_and, show skd 0 5 = 2 from rfl, hB.1, hB.2.1, upd2_eq, Int.reduceToNat, Int.toNat_natCast]; rfl) (by first | exact trivial | exact Or.inr rfl | exact Or.inl rfl | (simp only [ob, obA, R32, R64] at *; omega) | (simp only [ob, obA, R32, R64] at *; and_intros <;> omega)) ?_
    refine V_callV (M := MX11_tearOut) (N := MX5_take) dX11_tearOut_5 lRX11_258 kX5_take rfl (hB.2.2.1.1) rfl (c_take (d := 3) hκ hB.2.2.1 hz) rfl rfl (Nat.le_of_ble_eq_true rfl) (fit_rm (by omega)) (⟨Nat.le_of_ble_eq_true rfl, Nat.le_of_ble_eq_true rfl⟩) (fun v Ω' hp => ?_) (fun _ _ h => h.elim)
    obtain ⟨rfl, rfl⟩ := hp
    refine V_ex sX11_tearOut_8 (by rfl) (by first | exact trivial | exact Or.inr rfl | exact Or.inl rfl | (simp only [ob, obA, R32, R64] at *; omega) | (simp only [ob, obA, R32, R64] at *; and_intros <;> omega)) ?_
    refine V_icmpeq dX11_tearOut_11 (tgt := 23) (by decide) (by simp only [R32, R64] at *; omega) (fun q11 => ?_) (fun q11 => ?_)
    · exact absurd q11 hc
    · refine V_ex sX11_tearOut_14 (by simp only [Option.toList, List.cons_append, List.nil_append, exN, ex1, gI, gL, gR, pI, pL, pR, lget, lset1, lset2, kl, b2I, b2L, nob, ob32, ob64, xGet, xPut, xLen, xLd, xLdR, xSt, obA, true_and, and_true, and_self, eq_self, Nat.reduceEqDiff, Nat.zero_ne_one, reduceIte, Nat.reduceLeDiff, and_false, false_and, show skd 0 5 = 2 from rfl, hB.1, hB.2.1, upd2_eq, Int.reduceToNat, Int.toNat_natCast]; rfl) (by first | exact trivial | exact Or.inr rfl | exact Or.inl rfl | (simp only [ob, obA, R32, R64] at *; omega) | (simp only [ob, obA, R32, R64] at *; and_intros <;> omega)) ?_
      refine V_callV (M := MX11_tearOut) (N := MX5_take) dX11_tearOut_20 lRX11_258 kX5_take rfl (hB.2.2.1.1) rfl (c_take (d := 3) hκ hB.2.2.1 ho) rfl rfl (Nat.le_of_ble_eq_true rfl) (fit_rm (by omega)) (⟨Nat.le_of_ble_eq_true rfl, Nat.le_of_ble_eq_true rfl⟩) (fun v Ω' hp => ?_) (fun _ _ h => h.elim)
      obtain ⟨rfl, rfl⟩ := hp
      refine V_ex sX11_tearOut_23 (by simp only [Option.toList, List.cons_append, List.nil_append, exN, ex1, gI, gL, gR, pI, pL, pR, lget, lset1, lset2, kl, b2I, b2L, nob, ob32, ob64, xGet, xPut, xLen, xLd, xLdR, xSt, obA, true_and, and_true, and_self, eq_self, Nat.reduceEqDiff, Nat.zero_ne_one, reduceIte, Nat.reduceLeDiff, and_false, false_and, show skd 10 6 = 2 from rfl, show LF.1 1 = some (.inl 10) from rfl, show LF.2 1 6 = some 114 from rfl, upd2_eq, Int.reduceToNat, Int.toNat_natCast]; rfl) (by first | exact trivial | exact Or.inr rfl | exact Or.inl rfl | (simp only [ob, obA, R32, R64] at *; omega) | (simp only [ob, obA, R32, R64] at *; and_intros <;> omega)) ?_
      refine V_callV (M := MX11_tearOut) (N := MX2_noteTorn) dX11_tearOut_31 lRX11_261 kX2_noteTorn rfl (rfl) rfl (hNt _ e3) rfl rfl (Nat.le_of_ble_eq_true rfl) (fit_rm (by omega)) (⟨Nat.le_of_ble_eq_true rfl, Nat.le_of_ble_eq_true rfl⟩) (fun v Ω' hp => ?_) (fun _ _ h => h.elim)
      obtain ⟨rfl, rfl⟩ := hp
      refine V_vret dX11_tearOut_34 rfl (by decide) ⟨rfl, rfl⟩
/-- refused once more; leaves torn -/
def refA (A : Ab) (k : Nat) : Ab := (A.1, (A.2.1.1, A.2.1.2.1, A.2.1.2.2.1, A.2.1.2.2.2.set k (A.2.1.2.2.2.getD k 0 + 1)), A.2.2)
def tornA (A : Ab) (j : Nat) (ls : List Int) (t : Tn) : Ab := (setGo A.1 j ((bkJ A.1 j).2.2.2.2.2 ++ ls), (A.2.1.1 ++ [t], A.2.1.2), A.2.2)
theorem getD_set {l : List Int} {k i : Nat} {z : Int} (hk : k < l.length) : (l.set k z).getD i 0 = if i = k then z else l.getD i 0 := by
  rw [List.getD_eq_getElem?_getD, List.getElem?_set, List.getD_eq_getElem?_getD]
  by_cases c : k = i
  · subst c; rw [if_pos rfl, if_pos hk, if_pos rfl]; rfl
  · rw [if_neg c, if_neg (fun q => c q.symm)]
theorem RC_ref {G : Wd} {s k : Nat} {A : Ab} {K : Int} (h : RC G s A) (hI : Inv K A) (hk : k < 4) : RC (uI G 120 k (G.1 120 k + 1)) s (refA A k) := by
  have h0 := h
  obtain ⟨-, r4, r5, ⟨v1, v2, v3, v4, v5, v6, v7, v8⟩, -, -, -, -, -, -, -, r14, r15, r16⟩ := h
  have hs8 : s = 8 ∨ s = 61 := h0.1.2.2
  have hl4 : A.2.1.2.2.2.length = 4 := hI.2.1.2.2.2.1
  refine RC_ev (S' := A.1) (v' := (A.2.1.1, A.2.1.2.1, A.2.1.2.2.1, A.2.1.2.2.2.set k (A.2.1.2.2.2.getD k 0 + 1))) h0 rfl hI.1.1 rfl (fun x j a b c d => iv (by omega)) (ShC_same r4 (fun x j a b => iv (by omega)) hI.1.2.2.1 hI.1.1) (cacheC_c r5 (by funext j; exact iv (by omega))) ⟨by rw [iv (by omega)]; exact v1, fun i hi => by rw [iv (by omega), iv (by omega), iv (by omega)]; exact v2 i hi, by rw [iv (by omega)]; exact v3, by rw [iv (by omega)]; exact v4, fun q => by rw [iv (by omega)]; exact v5 q, by rw [iv (by omega)]; exact v6, fun i hi => by rw [iv (by omega), iv (by omega)]; exact v7 i hi, fun i hi => ?_⟩ (fun j => by rw [iv (by omega)]; exact r14 j) (fun j => by rw [iv (by omega)]; exact r15 j) (fun j => by rw [iv (by omega)]; exact r16 j)
  show (uI G 120 k (G.1 120 k + 1)).1 (114 + 6) i = (A.2.1.2.2.2.set k (A.2.1.2.2.2.getD k 0 + 1)).getD i 0
  rw [getD_set (by omega)]
  by_cases c : i = k
  · subst c; rw [if_pos rfl, iu, ← v8 i hi]
  · rw [if_neg c, iv (by omega)]; exact v8 i hi
theorem T_lt {K : Int} {A : Ab} {j : Nat} (hI : Inv K A) (hj : j < A.1.1.length) : A.2.1.1.length + 60 ≤ 360 + (bkJ A.1 j).2.2.2.2.2.length ∧ (flT A.2.1.1).length + 60 ≤ 360 + (bkJ A.1 j).2.2.2.2.2.length := by
  have h1 := tnI_len hI.2.1.1
  have h2 := allG_len hI.1 hj
  have h3 := (flT_len A.2.1.1).1
  omega
theorem T_360 {K : Int} {A : Ab} (hI : Inv K A) : A.2.1.1.length ≤ 360 := by
  rcases Nat.lt_or_ge 0 A.1.1.length with h | h
  · have h1 := (T_lt hI h).1
    have h2 : (bkJ A.1 0).2.2.2.2.2.length ≤ 60 := by rw [bkJ_in h]; exact (hI.1.2.1 _ (List.getElem_mem h)).2.2.2.2.2.2.2.1
    omega
  · have h1 := tnI_len hI.2.1.1
    have h3 := (flT_len A.2.1.1).1
    have h4 : (allG A.1).length = 0 := by unfold allG; rw [show A.1.1.length = 0 by omega]; rfl
    omega
theorem RC_torn {G : Wd} {s j : Nat} {A : Ab} {K i z o : Int} (h : RC G s A) (hI : Inv K A) (hj : j < A.1.1.length) (hz : 0 ≤ z ∧ z < 2016) (hzn : z ∉ (bkJ A.1 j).2.2.2.2.2) (ho : o = -1 ∨ (0 ≤ o ∧ o < 2016) ∧ o ∉ (bkJ A.1 j).2.2.2.2.2 ∧ o ≠ z) : RC (ntW (twW G (s + 7 + 5 * j + 1) z o) i z o) s (tornA A j (if o = -1 then [z] else [z, o]) (i, z, o)) := by
  have h0 := h
  obtain ⟨-, r4, r5, ⟨v1, v2, v3, v4, v5, v6, v7, v8⟩, -, -, -, -, -, -, -, r14, r15, r16⟩ := h
  have hs8 : s = 8 ∨ s = 61 := h0.1.2.2
  have hT := (T_lt hI hj).1
  have h6 := hI.1.1
  obtain ⟨b1, b2, b3, b4, kg⟩ := r4.2.1 j hj
  rw [← bkJ_in hj] at kg
  have hne : ∀ x, x ≠ s + 8 + 5 * j → x ≠ s + 9 + 5 * j → (twW G (s + 7 + 5 * j + 1) z o).1 x = G.1 x := fun x a b => twW_ne (by omega) (by omega)
  have hls : lsIs (twW G (s + 7 + 5 * j + 1) z o) (s + 8 + 5 * j) ((bkJ A.1 j).2.2.2.2.2 ++ (if o = -1 then [z] else [z, o])) := by
    rw [show s + 8 + 5 * j = s + 7 + 5 * j + 1 by omega]
    unfold twW
    by_cases c : o = -1
    · rw [if_pos c, if_pos c]; exact lsIs_take kg hz hzn
    · rw [if_neg c, if_neg c]
      obtain ⟨o1, o2, o3⟩ := ho.resolve_left c
      have h1 := lsIs_take (lsIs_take kg hz hzn) o1 (by simp only [List.mem_append, List.mem_singleton]; intro q; rcases q with q | q; exact o2 q; exact o3 q)
      rw [List.append_assoc] at h1
      exact h1
  have e3 : (twW G (s + 7 + 5 * j + 1) z o).1 114 3 = (A.2.1.1.length : Nat) := by rw [hne _ (by omega) (by omega)]; exact v1
  have en : ((twW G (s + 7 + 5 * j + 1) z o).1 114 3).toNat = A.2.1.1.length := by rw [e3]; exact Int.toNat_natCast _
  unfold tornA
  unfold ntW
  rw [en, e3]
  generalize hG1 : twW G (s + 7 + 5 * j + 1) z o = G1 at *
  have hG12 : G1.2 = G.2 := by rw [← hG1]; exact twW_2
  have ft : ∀ x y, ¬ (114 ≤ x ∧ x ≤ 117) → (uI (uI (uI (uI G1 115 A.2.1.1.length i) 116 A.2.1.1.length z) 117 A.2.1.1.length o) 114 3 (((A.2.1.1.length : Nat) : Int) + 1)).1 x y = G1.1 x y := fun x y a => by rw [iv (by omega), iv (by omega), iv (by omega), iv (by omega)]
  refine RC_ev h0 (setGo_len _ _ _) h6 (by show G1.2.2 = G.2.2; rw [hG12]) (fun x y a b c d => by
    rw [ft _ _ (by omega), hne x (fun q => c ⟨j, by omega, Or.inl q⟩) (fun q => c ⟨j, by omega, Or.inr q⟩)]) (ShC_go r4 hI.1.2.2.1 h6 hj (fun x k a b c d => by rw [ft _ _ (by omega), hne _ c d]) ⟨by rw [ft _ _ (by omega)]; exact hls.1, fun y => by
      have e : (uI (uI (uI (uI G1 115 A.2.1.1.length i) 116 A.2.1.1.length z) 117 A.2.1.1.length o) 114 3 (((A.2.1.1.length : Nat) : Int) + 1)).1 (s + 8 + 5 * j + 1) = G1.1 (s + 8 + 5 * j + 1) := by funext k; exact ft _ _ (by omega)
      rw [e]; exact hls.2 y⟩) (cacheC_go (cacheC_c r5 (by funext k; rw [ft _ _ (by omega), hne _ (by omega) (by omega)]))) ⟨by rw [iu]; simp, fun k hk => ?_, by rw [iv (by omega), iv (by omega), iv (by omega), iv (by omega), hne _ (by omega) (by omega)]; exact v3, by rw [iv (by omega), iv (by omega), iv (by omega), iv (by omega), hne _ (by omega) (by omega)]; exact v4, fun q => by rw [iv (by omega), iv (by omega), iv (by omega), iv (by omega), hne _ (by omega) (by omega)]; exact v5 q, by rw [iv (by omega), iv (by omega), iv (by omega), iv (by omega), hne _ (by omega) (by omega)]; exact v6, fun k hk => by rw [ft _ _ (by omega), ft _ _ (by omega), hne _ (by omega) (by omega), hne _ (by omega) (by omega)]; exact v7 k hk, fun k hk => by rw [ft _ _ (by omega), hne _ (by omega) (by omega)]; exact v8 k hk⟩ (fun y => by rw [ft _ _ (by omega), hne _ (by omega) (by omega)]; exact r14 y) (fun y => by rw [ft _ _ (by omega), hne _ (by omega) (by omega)]; exact r15 y) (fun y => by rw [ft _ _ (by omega), hne _ (by omega) (by omega)]; exact r16 y)
  have hk' : k < A.2.1.1.length + 1 := by simpa using hk
  by_cases c : k < A.2.1.1.length
  · simp only [List.getElem_append_left c]
    have hkk : k ≠ A.2.1.1.length := by omega
    have q := v2 k c
    have g1 := congrFun (hne 115 (by omega) (by omega)) k
    have g2 := congrFun (hne 116 (by omega) (by omega)) k
    have g3 := congrFun (hne 117 (by omega) (by omega)) k
    rw [← g1, ← g2, ← g3] at q
    simpa [upd2_eq, hkk] using q
  · obtain rfl : k = A.2.1.1.length := by omega
    simp only [List.getElem_append_right (Nat.le_refl _), Nat.sub_self, List.getElem_singleton]
    simp [upd2_eq]
