/-! ShelfReader: copies, the lead, a book's mark and leaves -/
set_option maxRecDepth 100000 in
set_option maxHeartbeats 4000000 in
theorem c_nextBook6 {κ : Kx} (hκ : KOK κ) {d s : Nat} {kind : Int} {G : Wd} (hS : SHa s) (hb : G.1 s 1 = 6) (hd : 2 ≤ d) : Ct κ MX7_nextBook d 0 0 [VR s, VI kind] (Wm G) (fun v Ω' => v = some (VR 0) ∧ Ω' = Wm (uI G s 1 7)) noX := by
  refine Ct_of hκ kX7_nextBook.1 rfl (Nat.le_of_ble_eq_true rfl) (ls := [some (VR s), some (VI kind), none]) rfl (fun μ => ?_)
  have h1S := (sh_facts hS).1
  have e : bkAt (uI G s 1 (6 + 1)) s 6 = 0 := by rw [bkAt, if_neg (by omega)]
  have e2 : (6 : Int) + 1 - 1 = 6 := rfl
  refine V_ex sX7_nextBook_0 (by simp only [Option.toList, List.cons_append, List.nil_append, exN, ex1, gI, gL, gR, pI, pL, pR, lget, lset1, lset2, kl, b2I, b2L, nob, ob32, ob64, xGet, xPut, xLen, xLd, xLdR, xSt, obA, true_and, and_true, and_self, eq_self, Nat.reduceEqDiff, Nat.zero_ne_one, reduceIte, Nat.reduceLeDiff, and_false, false_and, show skd 6 1 = 0 from rfl, hb, upd2_same, upd2_eq, Int.reduceToNat, Int.toNat_natCast]; rfl) (by first | exact trivial | exact Or.inr rfl | exact Or.inl rfl | (simp only [ob, obA, R32, R64] at *; omega) | (simp only [ob, obA, R32, R64] at *; and_intros <;> omega)) ?_
  refine V_callV (M := MX7_nextBook) (N := MX7_bookAt) dX7_nextBook_17 lRX7_52 kX7_bookAt rfl (h1S) rfl (c_bookAt (d := 0) hκ hS (i := 6) (by unfold R32; omega) (by show R32 (upd2 _ _ _ _ _ _); rw [upd2_same]; unfold R32; omega)) rfl rfl (Nat.le_of_ble_eq_true rfl) (fit_rm (by omega)) (⟨Nat.le_of_ble_eq_true rfl, Nat.le_of_ble_eq_true rfl⟩) (fun v Ω' hp => ?_) (fun _ _ h => h.elim)
  obtain ⟨rfl, rfl⟩ := hp
  rw [e]
  refine V_ex sX7_nextBook_20 (by rfl) (by first | exact trivial | exact Or.inr rfl | exact Or.inl rfl | (simp only [ob, obA, R32, R64] at *; omega) | (simp only [ob, obA, R32, R64] at *; and_intros <;> omega)) ?_
  refine V_ifnull dX7_nextBook_22 (tgt := 30) (by decide) (fun q22 => ?_) (fun q22 => ?_)
  · refine V_ex sX7_nextBook_30 (by rfl) (by first | exact trivial | exact Or.inr rfl | exact Or.inl rfl | (simp only [ob, obA, R32, R64] at *; omega) | (simp only [ob, obA, R32, R64] at *; and_intros <;> omega)) ?_
    refine V_aret dX7_nextBook_31 rfl (by first | exact Or.inl ⟨_, rfl⟩ | exact Or.inr ⟨_, rfl⟩) (by decide) ⟨rfl, rfl⟩
  · exact absurd rfl q22
set_option maxRecDepth 100000 in
set_option maxHeartbeats 4000000 in
theorem c_nextCopy8 {κ : Kx} (hκ : KOK κ) {d s : Nat} {G : Wd} (hS : SHa s) (hb : G.1 s 4 = 8) (hd : 2 ≤ d) : Ct κ MX7_nextCopy d 0 0 [VR s] (Wm G) (fun v Ω' => v = some (VR 0) ∧ Ω' = Wm (uI G s 4 9)) noX := by
  refine Ct_of hκ kX7_nextCopy.1 rfl (Nat.le_of_ble_eq_true rfl) (ls := [some (VR s), none]) rfl (fun μ => ?_)
  have h1S := (sh_facts hS).1
  have e : cpAt (uI G s 4 (8 + 1)) s 8 = 0 := by rw [cpAt, if_neg (by omega)]
  refine V_ex sX7_nextCopy_0 (by simp only [Option.toList, List.cons_append, List.nil_append, exN, ex1, gI, gL, gR, pI, pL, pR, lget, lset1, lset2, kl, b2I, b2L, nob, ob32, ob64, xGet, xPut, xLen, xLd, xLdR, xSt, obA, true_and, and_true, and_self, eq_self, Nat.reduceEqDiff, Nat.zero_ne_one, reduceIte, Nat.reduceLeDiff, and_false, false_and, show skd 6 4 = 0 from rfl, hb, upd2_same, upd2_eq, Int.reduceToNat, Int.toNat_natCast]; rfl) (by first | exact trivial | exact Or.inr rfl | exact Or.inl rfl | (simp only [ob, obA, R32, R64] at *; omega) | (simp only [ob, obA, R32, R64] at *; and_intros <;> omega)) ?_
  refine V_callV (M := MX7_nextCopy) (N := MX7_missingOf) dX7_nextCopy_17 lRX7_60 kX7_missingOf rfl (h1S) rfl (c_missingOf (d := 0) hκ hS (i := 8) (by unfold R32; omega) (by show R32 (upd2 _ _ _ _ _ _); rw [upd2_same]; unfold R32; omega)) rfl rfl (Nat.le_of_ble_eq_true rfl) (fit_rm (by omega)) (⟨Nat.le_of_ble_eq_true rfl, Nat.le_of_ble_eq_true rfl⟩) (fun v Ω' hp => ?_) (fun _ _ h => h.elim)
  obtain ⟨rfl, rfl⟩ := hp
  rw [e]
  refine V_ex sX7_nextCopy_20 (by rfl) (by first | exact trivial | exact Or.inr rfl | exact Or.inl rfl | (simp only [ob, obA, R32, R64] at *; omega) | (simp only [ob, obA, R32, R64] at *; and_intros <;> omega)) ?_
  refine V_ifnull dX7_nextCopy_22 (tgt := 29) (by decide) (fun q22 => ?_) (fun q22 => ?_)
  · refine V_ex sX7_nextCopy_29 (by rfl) (by first | exact trivial | exact Or.inr rfl | exact Or.inl rfl | (simp only [ob, obA, R32, R64] at *; omega) | (simp only [ob, obA, R32, R64] at *; and_intros <;> omega)) ?_
    refine V_aret dX7_nextCopy_30 rfl (by first | exact Or.inl ⟨_, rfl⟩ | exact Or.inr ⟨_, rfl⟩) (by decide) ⟨rfl, rfl⟩
  · exact absurd rfl q22
theorem ShC_cp {G G' : Wd} {s : Nat} {S : Sh} {z : Int} {g : List Int} (h : ShC G s S) (hc : S.2.1.length < 8) (hb : S.1.length ≤ 6) (f : ∀ x k, s ≤ x → x ≤ s + 52 → x ≠ s + 37 + 2 * S.2.1.length → x ≠ s + 37 + 2 * S.2.1.length + 1 → ¬ (x = s ∧ k = 4) → ¬ (x = s + 2 ∧ k = S.2.1.length) → G'.1 x k = G.1 x k) (h4 : G'.1 s 4 = ((S.2.1.length + 1 : Nat) : Int)) (hz : G'.1 (s + 2) S.2.1.length = z) (hg : lsIs G' (s + 37 + 2 * S.2.1.length) g) : ShC G' s (S.1, S.2.1 ++ [(z, g)], S.2.2) := by
  obtain ⟨h1, h2, h3, h4', h5, h6, h7, h8⟩ := h
  have ff : ∀ x, s + 3 ≤ x → x ≤ s + 52 → x ≠ s + 37 + 2 * S.2.1.length → x ≠ s + 37 + 2 * S.2.1.length + 1 → G'.1 x = G.1 x := fun x a b c e => by funext k; exact f x k (by omega) b c e (by omega) (by omega)
  refine ⟨by rw [f s 1 (by omega) (by omega) (by omega) (by omega) (by omega) (by omega)]; exact h1, fun k (hk : k < S.1.length) => bkC_congr (h2 k hk) (fun x a b => ff x (by omega) (by omega) (by omega) (by omega)), by simpa using h4, fun k hk => ?_, fun k hk => by rw [ff _ (by omega) (by omega) (by omega) (by omega)]; exact h5 k hk, by rw [f s 6 (by omega) (by omega) (by omega) (by omega) (by omega) (by omega)]; exact h6, by rw [f s 8 (by omega) (by omega) (by omega) (by omega) (by omega) (by omega)]; exact h7, fun k hk => by rw [ff _ (by omega) (by omega) (by omega) (by omega)]; exact h8 k hk⟩
  have hk' : k < S.2.1.length + 1 := by simpa using hk
  by_cases e : k < S.2.1.length
  · simp only [List.getElem_append_left e]
    exact cpC_congr (h4' k e) (f _ _ (by omega) (by omega) (by omega) (by omega) (by omega) (by omega)) (ff _ (by omega) (by omega) (by omega) (by omega)) (ff _ (by omega) (by omega) (by omega) (by omega))
  · obtain rfl : k = S.2.1.length := by omega
    simp only [List.getElem_append_right (Nat.le_refl _), Nat.sub_self, List.getElem_singleton]
    exact ⟨hz, hg⟩
theorem ShC_bk {G G' : Wd} {s : Nat} {S : Sh} {b : Bk} {c : List Int} (h : ShC G s S) (hc : S.2.1.length ≤ 8) (hb : S.1.length < 6) (f : ∀ x k, s ≤ x → x ≤ s + 52 → ¬ (s + 7 + 5 * S.1.length ≤ x ∧ x ≤ s + 7 + 5 * S.1.length + 2) → ¬ (x = s ∧ k = 1) → ¬ (x = s ∧ k = 8) → x ≠ s + 5 → G'.1 x k = G.1 x k) (h1' : G'.1 s 1 = ((S.1.length + 1 : Nat) : Int)) (hk : bkC G' (s + 7 + 5 * S.1.length) b) (hcc : codeIs G' s c) : ShC G' s (S.1 ++ [b], S.2.1, S.2.2.1, S.2.2.2.1, c) := by
  obtain ⟨h1, h2, h3, h4, h5, h6, h7⟩ := h
  have ff : ∀ x, s + 1 ≤ x → x ≤ s + 52 → x ≠ s + 5 → ¬ (s + 7 + 5 * S.1.length ≤ x ∧ x ≤ s + 7 + 5 * S.1.length + 2) → G'.1 x = G.1 x := fun x a b e g => by funext k; exact f x k (by omega) b g (by omega) (by omega) e
  refine ⟨by simpa using h1', fun k hk2 => ?_, by rw [f s 4 (by omega) (by omega) (by omega) (by omega) (by omega) (by omega)]; exact h3, fun k (hk : k < S.2.1.length) => cpC_congr (h4 k hk) (f _ _ (by omega) (by omega) (by omega) (by omega) (by omega) (by omega)) (ff _ (by omega) (by omega) (by omega) (by omega)) (ff _ (by omega) (by omega) (by omega) (by omega)), fun k hk => by rw [ff _ (by omega) (by omega) (by omega) (by omega)]; exact h5 k hk, by rw [f s 6 (by omega) (by omega) (by omega) (by omega) (by omega) (by omega)]; exact h6, hcc⟩
  have hk' : k < S.1.length + 1 := by simpa using hk2
  by_cases e : k < S.1.length
  · simp only [List.getElem_append_left e]
    exact bkC_congr (h2 k e) (fun x a b => ff x (by omega) (by omega) (by omega) (by omega))
  · obtain rfl : k = S.1.length := by omega
    simp only [List.getElem_append_right (Nat.le_refl _), Nat.sub_self, List.getElem_singleton]
    exact hk
theorem ShC_ld {G G' : Wd} {s : Nat} {S : Sh} {a : List Int} (h : ShC G s S) (hc : S.2.1.length ≤ 8) (hb : S.1.length ≤ 6) (f : ∀ x k, s ≤ x → x ≤ s + 52 → x ≠ s + 4 → ¬ (x = s ∧ k = 6) → G'.1 x k = G.1 x k) (ha : ∀ j (h : j < a.length), G'.1 (s + 4) j = a[j]'h) (h6' : G'.1 s 6 = 1) : ShC G' s (S.1, S.2.1, a, true, S.2.2.2.2) := by
  obtain ⟨h1, h2, h3, h4, h5, h6, h7, h8⟩ := h
  have ff : ∀ x, s + 1 ≤ x → x ≤ s + 52 → x ≠ s + 4 → G'.1 x = G.1 x := fun x a b e => by funext k; exact f x k (by omega) b e (by omega)
  exact ⟨by rw [f s 1 (by omega) (by omega) (by omega) (by omega)]; exact h1, fun k (hk : k < S.1.length) => bkC_congr (h2 k hk) (fun x a b => ff x (by omega) (by omega) (by omega)), by rw [f s 4 (by omega) (by omega) (by omega) (by omega)]; exact h3, fun k (hk : k < S.2.1.length) => cpC_congr (h4 k hk) (f _ _ (by omega) (by omega) (by omega) (by omega)) (ff _ (by omega) (by omega) (by omega)) (ff _ (by omega) (by omega) (by omega)), ha, h6', by rw [f s 8 (by omega) (by omega) (by omega) (by omega)]; exact h7, fun k hk => by rw [ff _ (by omega) (by omega) (by omega)]; exact h8 k hk⟩
set_option maxRecDepth 100000 in
set_option maxHeartbeats 4000000 in
theorem c_rCopy {κ : Kx} (hκ : KOK κ) {d s N : Nat} {w v : Nat → Int} {S : Sh} (hE : eE s w v N) {G : Wd} {i : Nat} (h : lH s w v N G i S) (hd : 3 ≤ d) : Ct κ MX8_readCopy d 0 0 [VR 3, VR s] (Wm G) (lP s G (pCopy w v i S)) noX := by
  refine Ct_of hκ kX8_readCopy.1 rfl (Nat.le_of_ble_eq_true rfl) (ls := [some (VR 3), some (VR s), none, none, none]) rfl (fun μ => ?_)
  have hE0 := hE
  obtain ⟨hS, hT, hN, hw⟩ := hE
  obtain ⟨hr, hi, hiN, hC, hO⟩ := h
  have hC0 := hC
  obtain ⟨h1, h2, h3, -⟩ := hC
  obtain ⟨s1, s2, s3, -⟩ := hO
  have h8 := sh_8 hS
  have h1S := (sh_facts hS).1
  by_cases hn : 8 ≤ S.2.1.length
  · have hP : pCopy w v i S = (i, 2, S) := by rw [pCopy, if_pos hn]
    refine V_ex sX8_readCopy_0 (by rfl) (by first | exact trivial | exact Or.inr rfl | exact Or.inl rfl | (simp only [ob, obA, R32, R64] at *; omega) | (simp only [ob, obA, R32, R64] at *; and_intros <;> omega)) ?_
    refine V_callV (M := MX8_readCopy) (N := MX7_nextCopy) dX8_readCopy_1 lRX8_130 kX7_nextCopy rfl (h1S) rfl (c_nextCopy8 (d := 2) hκ hS (by rw [h3]; omega) (by omega)) rfl rfl (Nat.le_of_ble_eq_true rfl) (fit_rm (by omega)) (⟨Nat.le_of_ble_eq_true rfl, Nat.le_of_ble_eq_true rfl⟩) (fun v Ω' hp => ?_) (fun _ _ h => h.elim)
    obtain ⟨rfl, rfl⟩ := hp
    refine V_ex sX8_readCopy_4 (by rfl) (by first | exact trivial | exact Or.inr rfl | exact Or.inl rfl | (simp only [ob, obA, R32, R64] at *; omega) | (simp only [ob, obA, R32, R64] at *; and_intros <;> omega)) ?_
    refine V_ifnonnull dX8_readCopy_6 (tgt := 15) (by decide) (fun q6 => ?_) (fun q6 => ?_)
    · exact absurd rfl q6
    · refine V_ex sX8_readCopy_9 (by rfl) (by first | exact trivial | exact Or.inr rfl | exact Or.inl rfl | (simp only [ob, obA, R32, R64] at *; omega) | (simp only [ob, obA, R32, R64] at *; and_intros <;> omega)) ?_
      refine V_callV (M := MX8_readCopy) (N := MX8_refuse) dX8_readCopy_11 lRX8_49 kX8_refuse rfl (rfl) rfl (c_rRefuse (d := 2) hκ) rfl rfl (Nat.le_of_ble_eq_true rfl) (fit_rm (by omega)) (⟨Nat.le_of_ble_eq_true rfl, Nat.le_of_ble_eq_true rfl⟩) (fun v Ω' hp => ?_) (fun _ _ h => h.elim)
      obtain ⟨rfl, rfl⟩ := hp
      refine V_zret dX8_readCopy_14 rfl (by first | exact Or.inl rfl | exact Or.inr rfl | exact b2i_01 _) (by decide) (by rw [hP]; exact lP_no (show (2 : Int) ≠ 0 by decide) ((FS.sh s G 9 (by omega)).trans (FS.fnd s _ _)) (by rw [at_fnd (by omega)]; show (uI G s 4 9).1 4 6 = _; simp only [upd2_eq]; rw [if_neg (by omega)]; exact hi) of_fnd)
  · have hn4 : (G.1 s 4).toNat = S.2.1.length := by omega
    have hL := sh_copies hS S.2.1.length (by omega)
    generalize hG1 : lsEmpty (uI G s 4 (G.1 s 4 + 1)) (s + 37 + 2 * S.2.1.length) = G1
    have f1 : FS s G G1 := by rw [← hG1]; exact (FS.sh s G _ (by omega)).trans (FS.emp s _ (by omega))
    have g1 : ∀ x k, x ≠ s + 37 + 2 * S.2.1.length → x ≠ s + 37 + 2 * S.2.1.length + 1 → ¬ (x = s ∧ k = 4) → G1.1 x k = G.1 x k := fun x k a b c => by rw [← hG1, lsEmpty_ne a b]; simp only [upd2_eq]; rw [if_neg c]
    have e4 : G1.1 s 4 = ((S.2.1.length + 1 : Nat) : Int) := by rw [← hG1, lsEmpty_ne (by omega) (by omega)]; simp only [upd2_eq]; rw [if_pos ⟨trivial, trivial⟩, h3]; omega
    have l1 : lsIs G1 (s + 37 + 2 * S.2.1.length) [] := by rw [← hG1]; exact lsIs_empty _ _
    have hi1 : G1.1 4 6 = (i : Nat) := by rw [g1 _ _ (by omega) (by omega) (by omega)]; exact hi
    have hr1 := f1.rd hS hr
    have f2 := f1.trans (FS.cur s G1 ((i : Int) + 1))
    have hr2 := f2.rd hS hr
    have e1 : (uI G1 4 6 ((i : Int) + 1)).1 s 1 = (S.1.length : Nat) := by rw [at_cur (by omega), g1 _ _ (by omega) (by omega) (by omega)]; exact h1
    have hv1 := hT.2 (i + 1)
    by_cases hx : pIdx w v S.1.length (i + 1) = 0
    · obtain ⟨hw1, hlt⟩ := pIdx_0 hx
      have hj : (v (i + 1)).toNat < S.1.length := by omega
      have hB := (sh_books hS (v (i + 1)).toNat (by omega)).2
      have hbk := h2 _ hj
      have hok := s2 _ (List.getElem_mem hj)
      have hbl : bkLv S (v (i + 1)).toNat = (S.1[(v (i + 1)).toNat]'hj).2.2.1 := by rw [bkLv, List.getD_eq_getElem?_getD, List.getElem?_eq_getElem hj]; rfl
      have hi1N : i + 1 < N := pTok_lt hT (by omega) (by omega)
      have hP : pCopy w v i S = ((pLvs w v (bkLv S (v (i + 1)).toNat) 30 501 (i + 2) []).1, (pLvs w v (bkLv S (v (i + 1)).toNat) 30 501 (i + 2) []).2.1, (S.1, S.2.1 ++ [(v (i + 1), (pLvs w v (bkLv S (v (i + 1)).toNat) 30 501 (i + 2) []).2.2)], S.2.2)) := by rw [pCopy, if_neg hn, if_neg (not_not_intro hx)]
      rw [hbl] at hP
      generalize hbb : S.1[(v (i + 1)).toNat]'hj = bb at *
      obtain ⟨k1, k2, k3, k4, k5, k6, k7, k8, k9⟩ := hok
      have G2e : uI (uI G1 4 6 ((i : Int) + 1)) 4 6 ((i : Int) + 1 + 1) = uI G1 4 6 ((i + 2 : Nat) : Int) := by rw [uI_twice]; congr 1
      generalize hG3 : uI (uI G1 4 6 ((i + 2 : Nat) : Int)) (s + 2) S.2.1.length (v (i + 1)) = G3
      have f3 : FS s G G3 := by rw [← hG3]; exact (f1.trans (FS.cur s _ _)).trans (FS.sh s _ _ (by omega))
      have g3 : ∀ x k, x ≠ s + 37 + 2 * S.2.1.length → x ≠ s + 37 + 2 * S.2.1.length + 1 → ¬ (x = s ∧ k = 4) → ¬ (x = s + 2 ∧ k = S.2.1.length) → ¬ (x = 4 ∧ k = 6) → G3.1 x k = G.1 x k := fun x k a b c d e => by
        rw [← hG3]; simp only [upd2_eq]; rw [if_neg d, if_neg e]; exact g1 x k a b c
      have h3c : G3.1 4 6 = ((i + 2 : Nat) : Int) := by rw [← hG3]; simp only [upd2_eq]; rw [if_neg (by omega), if_pos ⟨trivial, trivial⟩]
      have h34 : G3.1 s 4 = ((S.2.1.length + 1 : Nat) : Int) := by rw [← hG3]; simp only [upd2_eq]; rw [if_neg (by omega), if_neg (by omega)]; exact e4
      have h3z : G3.1 (s + 2) S.2.1.length = v (i + 1) := by rw [← hG3]; simp only [upd2_eq]; rw [if_pos ⟨trivial, trivial⟩]
      have h31 : G3.1 s 1 = (S.1.length : Nat) := by rw [g3 _ _ (by omega) (by omega) (by omega) (by omega) (by omega)]; exact h1
      have hls : lsIs G3 (s + 37 + 2 * S.2.1.length) [] := by
        refine lsIs_congr l1 ?_ ?_
        · rw [← hG3]; simp only [upd2_eq]; rw [if_neg (by omega), if_neg (by omega)]
        · rw [← hG3]; funext k; simp only [upd2_eq]; rw [if_neg (by omega), if_neg (by omega)]
      have ebk : bkAt G3 s (v (i + 1)) = s + 7 + 5 * (v (i + 1)).toNat := by
        rw [bkAt, if_pos]; rw [h31]; omega
      have hlv : G3.1 (s + 7 + 5 * (v (i + 1)).toNat) 1 = bb.2.2.1 := by rw [g3 _ _ (by omega) (by omega) (by omega) (by omega) (by omega)]; exact hbk.2.2.1
      refine V_ex sX8_readCopy_0 (by rfl) (by first | exact trivial | exact Or.inr rfl | exact Or.inl rfl | (simp only [ob, obA, R32, R64] at *; omega) | (simp only [ob, obA, R32, R64] at *; and_intros <;> omega)) ?_
      refine V_callV (M := MX8_readCopy) (N := MX7_nextCopy) dX8_readCopy_1 lRX8_130 kX7_nextCopy rfl (h1S) rfl (c_nextCopy (d := 2) hκ hS (by rw [h3]; omega) (by omega)) rfl rfl (Nat.le_of_ble_eq_true rfl) (fit_rm (by omega)) (⟨Nat.le_of_ble_eq_true rfl, Nat.le_of_ble_eq_true rfl⟩) (fun v Ω' hp => ?_) (fun _ _ h => h.elim)
      obtain ⟨rfl, rfl⟩ := hp
      rw [hn4, hG1]
      refine V_ex sX8_readCopy_4 (by rfl) (by first | exact trivial | exact Or.inr rfl | exact Or.inl rfl | (simp only [ob, obA, R32, R64] at *; omega) | (simp only [ob, obA, R32, R64] at *; and_intros <;> omega)) ?_
      refine V_ifnonnull dX8_readCopy_6 (tgt := 15) (by decide) (fun q6 => ?_) (fun q6 => ?_)
      · refine V_ex sX8_readCopy_15 (by simp only [Option.toList, List.cons_append, List.nil_append, exN, ex1, gI, gL, gR, pI, pL, pR, lget, lset1, lset2, kl, b2I, b2L, nob, ob32, ob64, xGet, xPut, xLen, xLd, xLdR, xSt, obA, true_and, and_true, and_self, eq_self, Nat.reduceEqDiff, Nat.zero_ne_one, reduceIte, Nat.reduceLeDiff, and_false, false_and, show skd 7 0 = 2 from rfl, show LF.1 3 = some (.inl 7) from rfl, show LF.2 3 0 = some 4 from rfl, upd2_eq, Int.reduceToNat, Int.toNat_natCast]; rfl) (by first | exact trivial | exact Or.inr rfl | exact Or.inl rfl | (simp only [ob, obA, R32, R64] at *; omega) | (simp only [ob, obA, R32, R64] at *; and_intros <;> omega)) ?_
        refine V_callV (M := MX8_readCopy) (N := MX9_advance) dX8_readCopy_19 lRX8_52 kX9_advance rfl (rfl) rfl (c_tAdvance (d := 2) hκ) rfl rfl (Nat.le_of_ble_eq_true rfl) (fit_rm (by omega)) (⟨Nat.le_of_ble_eq_true rfl, Nat.le_of_ble_eq_true rfl⟩) (fun v Ω' hp => ?_) (fun _ _ h => h.elim)
        obtain ⟨rfl, rfl⟩ := hp
        rw [hi1]
        refine V_ex sX8_readCopy_22 (by rfl) (by first | exact trivial | exact Or.inr rfl | exact Or.inl rfl | (simp only [ob, obA, R32, R64] at *; omega) | (simp only [ob, obA, R32, R64] at *; and_intros <;> omega)) ?_
        refine V_callV (M := MX8_readCopy) (N := MX8_readBookIndex) dX8_readCopy_24 lRX8_115 kX8_readBookIndex rfl (rfl) rfl (c_rIdx (d := 2) hκ (i := i + 1) (nb := S.1.length) hE0 hr2 (by rw [of_cur]; omega) (by omega) e1 s1 (by omega)) rfl rfl (Nat.le_of_ble_eq_true rfl) (fit_rm (by omega)) (⟨Nat.le_of_ble_eq_true rfl, Nat.le_of_ble_eq_true rfl⟩) (fun v Ω' hp => ?_) (fun _ _ h => h.elim)
        obtain ⟨rfl, rfl⟩ := hp
        rw [if_pos hx, if_pos hx, show ((i + 1 : Nat) : Int) + 1 = (i : Int) + 1 + 1 by omega, G2e]
        refine V_ex sX8_readCopy_27 (by rfl) (by first | exact trivial | exact Or.inr rfl | exact Or.inl rfl | (simp only [ob, obA, R32, R64] at *; omega) | (simp only [ob, obA, R32, R64] at *; and_intros <;> omega)) ?_
        refine V_callV (M := MX8_readCopy) (N := MX7_tellCopyOf) dX8_readCopy_30 lRX8_134 kX7_tellCopyOf rfl (h1S) rfl (c_tellCopyOf (d := 2) hκ hS (by rw [at_cur (by omega), e4]; omega) (by omega)) rfl rfl (Nat.le_of_ble_eq_true rfl) (fit_rm (by omega)) (⟨Nat.le_of_ble_eq_true rfl, Nat.le_of_ble_eq_true rfl⟩) (fun v Ω' hp => ?_) (fun _ _ h => h.elim)
        obtain ⟨rfl, rfl⟩ := hp
        rw [at_cur (by omega), e4, show (((S.2.1.length + 1 : Nat) : Int) - 1).toNat = S.2.1.length by omega, hG3]
        refine V_ex sX8_readCopy_33 (by rfl) (by first | exact trivial | exact Or.inr rfl | exact Or.inl rfl | (simp only [ob, obA, R32, R64] at *; omega) | (simp only [ob, obA, R32, R64] at *; and_intros <;> omega)) ?_
        refine V_callV (M := MX8_readCopy) (N := MX7_bookAt) dX8_readCopy_35 lRX8_112 kX7_bookAt rfl (h1S) rfl (c_bookAt (d := 0) hκ hS (by unfold R32; omega) (by rw [h31]; unfold R32; omega)) rfl rfl (Nat.le_of_ble_eq_true rfl) (fit_rm (by omega)) (⟨Nat.le_of_ble_eq_true rfl, Nat.le_of_ble_eq_true rfl⟩) (fun v Ω' hp => ?_) (fun _ _ h => h.elim)
        obtain ⟨rfl, rfl⟩ := hp
        rw [ebk]
        refine V_ex sX8_readCopy_38 (by rfl) (by first | exact trivial | exact Or.inr rfl | exact Or.inl rfl | (simp only [ob, obA, R32, R64] at *; omega) | (simp only [ob, obA, R32, R64] at *; and_intros <;> omega)) ?_
        refine V_ifnull dX8_readCopy_42 (tgt := 61) (by decide) (fun q42 => ?_) (fun q42 => ?_)
        · omega
        · refine V_ex sX8_readCopy_45 (by simp only [Option.toList, List.cons_append, List.nil_append, exN, ex1, gI, gL, gR, pI, pL, pR, lget, lset1, lset2, kl, b2I, b2L, nob, ob32, ob64, xGet, xPut, xLen, xLd, xLdR, xSt, obA, true_and, and_true, and_self, eq_self, Nat.reduceEqDiff, Nat.zero_ne_one, reduceIte, Nat.reduceLeDiff, and_false, false_and, hB.1, hB.2.1, upd2_eq, Int.reduceToNat, Int.toNat_natCast]; rfl) (by first | exact trivial | exact Or.inr rfl | exact Or.inl rfl | (simp only [ob, obA, R32, R64] at *; omega) | (simp only [ob, obA, R32, R64] at *; and_intros <;> omega)) ?_
          refine V_callV (M := MX8_readCopy) (N := MX8_readLeaves) dX8_readCopy_51 lRX8_127 kX8_readLeaves rfl (rfl) rfl (c_rLeaves (d := 2) hκ (most := 30) (lv := bb.2.2.1) (i := i + 2) (g := []) hT hN hw (f3.rd hS hr) h3c (by omega) hB hL.2 hlv (by omega) hls (by simp) (by omega) (by omega) (by omega) (by omega)) rfl rfl (Nat.le_of_ble_eq_true rfl) (fit_rm (by omega)) (⟨Nat.le_of_ble_eq_true rfl, Nat.le_of_ble_eq_true rfl⟩) (fun v Ω' hp => ?_) (fun _ _ h => h.elim)
          obtain ⟨rfl, G4, rfl, f4, a4', b4', c4'⟩ := hp
          generalize pLvs w v bb.2.2.1 30 501 (i + 2) [] = r at *
          rw [hP]
          refine V_ifeqB dX8_readCopy_54 (tgt := 61) (by decide) (fun q54 => ?_) (fun q54 => ?_)
          · have hb2 := of_decide_eq_false q54
            refine V_ex sX8_readCopy_61 (by rfl) (by first | exact trivial | exact Or.inr rfl | exact Or.inl rfl | (simp only [ob, obA, R32, R64] at *; omega) | (simp only [ob, obA, R32, R64] at *; and_intros <;> omega)) ?_
            refine V_zret dX8_readCopy_62 rfl (by first | exact Or.inl rfl | exact Or.inr rfl | exact b2i_01 _) (by decide) (lP_no hb2 (f3.trans (FS.ls f4 (by omega))) a4' (c4' hb2))
          · have hb2 := of_decide_eq_true q54
            refine V_ex sX8_readCopy_57 (by rfl) (by first | exact trivial | exact Or.inr rfl | exact Or.inl rfl | (simp only [ob, obA, R32, R64] at *; omega) | (simp only [ob, obA, R32, R64] at *; and_intros <;> omega)) ?_
            refine V_goto dX8_readCopy_58 (tgt := 62) (by decide) ?_
            refine V_zret dX8_readCopy_62 rfl (by first | exact Or.inl rfl | exact Or.inr rfl | exact b2i_01 _) (by decide) ?_
            refine lP_ok hb2 (f3.trans (FS.ls f4 (by omega))) a4' ((b4' hb2).1.trans (g3 _ _ (by omega) (by omega) (by omega) (by omega) (by omega))) ?_
            exact ShC_cp hC0 (by omega) s1 (fun x k a b c p q t => by rw [f4.2 x k c p (by omega) (by omega)]; exact g3 x k c p q t (by omega)) (by rw [f4.2 _ _ (by omega) (by omega) (by omega) (by omega)]; exact h34) (by rw [f4.2 _ _ (by omega) (by omega) (by omega) (by omega)]; exact h3z) (b4' hb2).2
      · omega
    · have hP : pCopy w v i S = (i + 1, pIdx w v S.1.length (i + 1), S) := by rw [pCopy, if_neg hn, if_pos hx]
      have ebk : ∀ G : Wd, bkAt G s (-1) = 0 := fun G => by rw [bkAt, if_neg (by omega)]
      have e42 : ∀ z, (uI (uI G1 4 6 ((i : Int) + 1)) 3 1 z).1 s 4 = ((S.2.1.length + 1 : Nat) : Int) := fun z => by rw [at_fnd (by omega), at_cur (by omega)]; exact e4
      refine V_ex sX8_readCopy_0 (by rfl) (by first | exact trivial | exact Or.inr rfl | exact Or.inl rfl | (simp only [ob, obA, R32, R64] at *; omega) | (simp only [ob, obA, R32, R64] at *; and_intros <;> omega)) ?_
      refine V_callV (M := MX8_readCopy) (N := MX7_nextCopy) dX8_readCopy_1 lRX8_130 kX7_nextCopy rfl (h1S) rfl (c_nextCopy (d := 2) hκ hS (by rw [h3]; omega) (by omega)) rfl rfl (Nat.le_of_ble_eq_true rfl) (fit_rm (by omega)) (⟨Nat.le_of_ble_eq_true rfl, Nat.le_of_ble_eq_true rfl⟩) (fun v Ω' hp => ?_) (fun _ _ h => h.elim)
      obtain ⟨rfl, rfl⟩ := hp
      rw [hn4, hG1]
      refine V_ex sX8_readCopy_4 (by rfl) (by first | exact trivial | exact Or.inr rfl | exact Or.inl rfl | (simp only [ob, obA, R32, R64] at *; omega) | (simp only [ob, obA, R32, R64] at *; and_intros <;> omega)) ?_
      refine V_ifnonnull dX8_readCopy_6 (tgt := 15) (by decide) (fun q6 => ?_) (fun q6 => ?_)
      · refine V_ex sX8_readCopy_15 (by simp only [Option.toList, List.cons_append, List.nil_append, exN, ex1, gI, gL, gR, pI, pL, pR, lget, lset1, lset2, kl, b2I, b2L, nob, ob32, ob64, xGet, xPut, xLen, xLd, xLdR, xSt, obA, true_and, and_true, and_self, eq_self, Nat.reduceEqDiff, Nat.zero_ne_one, reduceIte, Nat.reduceLeDiff, and_false, false_and, show skd 7 0 = 2 from rfl, show LF.1 3 = some (.inl 7) from rfl, show LF.2 3 0 = some 4 from rfl, upd2_eq, Int.reduceToNat, Int.toNat_natCast]; rfl) (by first | exact trivial | exact Or.inr rfl | exact Or.inl rfl | (simp only [ob, obA, R32, R64] at *; omega) | (simp only [ob, obA, R32, R64] at *; and_intros <;> omega)) ?_
        refine V_callV (M := MX8_readCopy) (N := MX9_advance) dX8_readCopy_19 lRX8_52 kX9_advance rfl (rfl) rfl (c_tAdvance (d := 2) hκ) rfl rfl (Nat.le_of_ble_eq_true rfl) (fit_rm (by omega)) (⟨Nat.le_of_ble_eq_true rfl, Nat.le_of_ble_eq_true rfl⟩) (fun v Ω' hp => ?_) (fun _ _ h => h.elim)
        obtain ⟨rfl, rfl⟩ := hp
        rw [hi1]
        refine V_ex sX8_readCopy_22 (by rfl) (by first | exact trivial | exact Or.inr rfl | exact Or.inl rfl | (simp only [ob, obA, R32, R64] at *; omega) | (simp only [ob, obA, R32, R64] at *; and_intros <;> omega)) ?_
        refine V_callV (M := MX8_readCopy) (N := MX8_readBookIndex) dX8_readCopy_24 lRX8_115 kX8_readBookIndex rfl (rfl) rfl (c_rIdx (d := 2) hκ (i := i + 1) (nb := S.1.length) hE0 hr2 (by rw [of_cur]; omega) (by omega) e1 s1 (by omega)) rfl rfl (Nat.le_of_ble_eq_true rfl) (fit_rm (by omega)) (⟨Nat.le_of_ble_eq_true rfl, Nat.le_of_ble_eq_true rfl⟩) (fun v Ω' hp => ?_) (fun _ _ h => h.elim)
        obtain ⟨rfl, rfl⟩ := hp
        rw [if_neg hx, if_neg hx]
        refine V_ex sX8_readCopy_27 (by rfl) (by first | exact trivial | exact Or.inr rfl | exact Or.inl rfl | (simp only [ob, obA, R32, R64] at *; omega) | (simp only [ob, obA, R32, R64] at *; and_intros <;> omega)) ?_
        refine V_callV (M := MX8_readCopy) (N := MX7_tellCopyOf) dX8_readCopy_30 lRX8_134 kX7_tellCopyOf rfl (h1S) rfl (c_tellCopyOf (d := 2) hκ hS (by rw [e42]; omega) (by omega)) rfl rfl (Nat.le_of_ble_eq_true rfl) (fit_rm (by omega)) (⟨Nat.le_of_ble_eq_true rfl, Nat.le_of_ble_eq_true rfl⟩) (fun v Ω' hp => ?_) (fun _ _ h => h.elim)
        obtain ⟨rfl, rfl⟩ := hp
        rw [e42, show (((S.2.1.length + 1 : Nat) : Int) - 1).toNat = S.2.1.length by omega]
        refine V_ex sX8_readCopy_33 (by rfl) (by first | exact trivial | exact Or.inr rfl | exact Or.inl rfl | (simp only [ob, obA, R32, R64] at *; omega) | (simp only [ob, obA, R32, R64] at *; and_intros <;> omega)) ?_
        refine V_callV (M := MX8_readCopy) (N := MX7_bookAt) dX8_readCopy_35 lRX8_112 kX7_bookAt rfl (h1S) rfl (c_bookAt (d := 0) hκ hS (by unfold R32; omega) (by simp only [upd2_eq]; rw [if_neg (by omega), if_neg (by omega), if_neg (by omega), g1 _ _ (by omega) (by omega) (by omega), h1]; unfold R32; omega)) rfl rfl (Nat.le_of_ble_eq_true rfl) (fit_rm (by omega)) (⟨Nat.le_of_ble_eq_true rfl, Nat.le_of_ble_eq_true rfl⟩) (fun v Ω' hp => ?_) (fun _ _ h => h.elim)
        obtain ⟨rfl, rfl⟩ := hp
        rw [ebk]
        refine V_ex sX8_readCopy_38 (by rfl) (by first | exact trivial | exact Or.inr rfl | exact Or.inl rfl | (simp only [ob, obA, R32, R64] at *; omega) | (simp only [ob, obA, R32, R64] at *; and_intros <;> omega)) ?_
        refine V_ifnull dX8_readCopy_42 (tgt := 61) (by decide) (fun q42 => ?_) (fun q42 => ?_)
        · refine V_ex sX8_readCopy_61 (by rfl) (by first | exact trivial | exact Or.inr rfl | exact Or.inl rfl | (simp only [ob, obA, R32, R64] at *; omega) | (simp only [ob, obA, R32, R64] at *; and_intros <;> omega)) ?_
          refine V_zret dX8_readCopy_62 rfl (by first | exact Or.inl rfl | exact Or.inr rfl | exact b2i_01 _) (by decide) (by rw [hP]; exact lP_no hx ((f2.trans (FS.fnd s _ _)).trans (FS.sh s _ _ (by omega))) (by simp only [upd2_eq]; rw [if_neg (by omega), if_neg (by omega), if_pos ⟨trivial, trivial⟩]; omega) (by simp only [upd2_eq]; rw [if_neg (by omega), if_pos ⟨trivial, trivial⟩]))
        · exact absurd rfl q42
      · omega
