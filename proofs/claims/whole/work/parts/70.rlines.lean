/-! ShelfReader: lines -/
def bkC (G : Wd) (a : Nat) (b : Bk) : Prop := G.1 a 0 = b.1 ∧ G.1 a 2 = b.2.1 ∧ G.1 a 1 = b.2.2.1 ∧ (b.1 = 6 → G.1 a 3 = b.2.2.2.1 ∧ G.1 a 4 = b.2.2.2.2.1) ∧ lsIs G (a + 1) b.2.2.2.2.2
def cpC (G : Wd) (s j : Nat) (q : Int × List Int) : Prop := G.1 (s + 2) j = q.1 ∧ lsIs G (s + 37 + 2 * j) q.2
/-- the shelf at s holds what was read -/
def ShC (G : Wd) (s : Nat) (S : Sh) : Prop := G.1 s 1 = (S.1.length : Nat) ∧ (∀ j (h : j < S.1.length), bkC G (s + 7 + 5 * j) (S.1[j]'h)) ∧ G.1 s 4 = (S.2.1.length : Nat) ∧ (∀ j (h : j < S.2.1.length), cpC G s j (S.2.1[j]'h)) ∧ (∀ j (h : j < S.2.2.1.length), G.1 (s + 4) j = S.2.2.1[j]'h) ∧ G.1 s 6 = b2i S.2.2.2.1 ∧ codeIs G s S.2.2.2.2
theorem bkC_congr {G G' : Wd} {a : Nat} {b : Bk} (h : bkC G a b) (e : ∀ x, a ≤ x → x ≤ a + 2 → G'.1 x = G.1 x) : bkC G' a b := by
  obtain ⟨h1, h2, h3, h4, h5⟩ := h
  have e0 := e a (by omega) (by omega)
  exact ⟨by rw [e0]; exact h1, by rw [e0]; exact h2, by rw [e0]; exact h3, fun q => by rw [e0]; exact h4 q, lsIs_congr h5 (by rw [e (a + 1) (by omega) (by omega)]) (e (a + 2) (by omega) (by omega))⟩
theorem cpC_congr {G G' : Wd} {s j : Nat} {q : Int × List Int} (h : cpC G s j q) (e0 : G'.1 (s + 2) j = G.1 (s + 2) j) (e1 : G'.1 (s + 37 + 2 * j) = G.1 (s + 37 + 2 * j)) (e2 : G'.1 (s + 37 + 2 * j + 1) = G.1 (s + 37 + 2 * j + 1)) : cpC G' s j q :=
  ⟨by rw [e0]; exact h.1, lsIs_congr h.2 (by rw [e1]) e2⟩
/-- nothing in the shelf has changed -/
theorem ShC_same {G G' : Wd} {s : Nat} {S : Sh} (h : ShC G s S) (e : ∀ x j, s ≤ x → x ≤ s + 52 → G'.1 x j = G.1 x j) (hc : S.2.1.length ≤ 8) (hb : S.1.length ≤ 6) : ShC G' s S := by
  obtain ⟨h1, h2, h3, h4, h5, h6, h7, h8⟩ := h
  have ef : ∀ x, s ≤ x → x ≤ s + 52 → G'.1 x = G.1 x := fun x a b => by funext j; exact e x j a b
  refine ⟨by rw [e s 1 (by omega) (by omega)]; exact h1, fun j hj => bkC_congr (h2 j hj) (fun x a b => ef x (by omega) (by omega)), by rw [e s 4 (by omega) (by omega)]; exact h3, fun j hj => cpC_congr (h4 j hj) (e _ _ (by omega) (by omega)) (ef _ (by omega) (by omega)) (ef _ (by omega) (by omega)), fun j hj => by rw [e _ _ (by omega) (by omega)]; exact h5 j hj, by rw [e s 6 (by omega) (by omega)]; exact h6, by rw [e s 8 (by omega) (by omega)]; exact h7, fun j hj => by rw [e _ _ (by omega) (by omega)]; exact h8 j hj⟩
/-- the same but the shelf s, the place, the fault found -/
def FS (s : Nat) (G G' : Wd) : Prop := G'.2 = G.2 ∧ ∀ x j, ¬ (s ≤ x ∧ x ≤ s + 52) → ¬ (x = 4 ∧ j = 6) → ¬ (x = 3 ∧ j = 1) → G'.1 x j = G.1 x j
theorem FS.refl (s : Nat) (G : Wd) : FS s G G := ⟨rfl, fun _ _ _ _ _ => rfl⟩
theorem FS.trans {s : Nat} {G G' G'' : Wd} (h : FS s G G') (h' : FS s G' G'') : FS s G G'' := ⟨h'.1.trans h.1, fun x j a b c => (h'.2 x j a b c).trans (h.2 x j a b c)⟩
theorem FS.cur (s : Nat) (G : Wd) (z : Int) : FS s G (uI G 4 6 z) := ⟨rfl, fun x j a b c => at_cur b⟩
theorem FS.fnd (s : Nat) (G : Wd) (z : Int) : FS s G (uI G 3 1 z) := ⟨rfl, fun x j a b c => at_fnd c⟩
theorem FS.sh (s : Nat) (G : Wd) {a k : Nat} (z : Int) (h : s ≤ a ∧ a ≤ s + 52) : FS s G (uI G a k z) := ⟨rfl, fun x j p b c => by simp only [upd2_eq]; rw [if_neg (by omega)]⟩
theorem FS.ls {s l : Nat} {G G' : Wd} (h : FLs l G G') (hl : s ≤ l ∧ l + 1 ≤ s + 52) : FS s G G' := ⟨h.1, fun x j a b c => h.2 x j (by omega) (by omega) b c⟩
theorem FS.emp (s : Nat) (G : Wd) {a : Nat} (h : s ≤ a ∧ a + 1 ≤ s + 52) : FS s G (lsEmpty G a) := ⟨rfl, fun x j p b c => by rw [lsEmpty_ne (by omega) (by omega)]⟩
theorem FS.ex {s : Nat} {G G' : Wd} (h : FE s G G') : FS s G G' := ⟨h.1, fun x j a b c => h.2 x j (by omega) b c (by omega)⟩
theorem FS.rd {s : Nat} (hS : SHa s) {G G' : Wd} (h : FS s G G') {w v : Nat → Int} {N : Nat} (hr : rdT G w v N) : rdT G' w v N := fun j hj => by
  have hs : 8 ≤ s := by rcases hS with rfl | rfl <;> decide
  rw [h.2 5 j (by omega) (by omega) (by omega), h.2 7 j (by omega) (by omega) (by omega)]
  exact hr j hj
def lP (s : Nat) (G : Wd) (r : PS) : Option Vl → Om → Prop := fun u Ω' => u = some (VI (b2i (decide (r.2.1 = 0)))) ∧ ∃ G', Ω' = Wm G' ∧ FS s G G' ∧ G'.1 4 6 = (r.1 : Nat) ∧ (r.2.1 = 0 → G'.1 3 1 = G.1 3 1 ∧ ShC G' s r.2.2) ∧ (r.2.1 ≠ 0 → G'.1 3 1 = r.2.1)
theorem lP_no {s : Nat} {G G' : Wd} {r : PS} (hb : r.2.1 ≠ 0) (f : FS s G G') (hc : G'.1 4 6 = (r.1 : Nat)) (hf : G'.1 3 1 = r.2.1) : lP s G r (some (VI 0)) (Wm G') := ⟨bz0 hb, G', rfl, f, hc, fun q => absurd q hb, fun _ => hf⟩
theorem lP_ok {s : Nat} {G G' : Wd} {r : PS} (hb : r.2.1 = 0) (f : FS s G G') (hc : G'.1 4 6 = (r.1 : Nat)) (hf : G'.1 3 1 = G.1 3 1) (hs : ShC G' s r.2.2) : lP s G r (some (VI 1)) (Wm G') := ⟨bz1 hb, G', rfl, f, hc, fun _ => ⟨hf, hs⟩, fun q => absurd hb q⟩
/-- the reader stands at token i, the shelf s holds S -/
def lH (s : Nat) (w v : Nat → Int) (N : Nat) (G : Wd) (i : Nat) (S : Sh) : Prop := rdT G w v N ∧ G.1 4 6 = (i : Nat) ∧ i < N ∧ ShC G s S ∧ okSh i S
/-- the leaves gone of the j-th book are told -/
theorem ShC_go {G G' : Wd} {s j : Nat} {S : Sh} {g : List Int} (h : ShC G s S) (hc : S.2.1.length ≤ 8) (hb : S.1.length ≤ 6) (hj : j < S.1.length) (f : ∀ x k, s ≤ x → x ≤ s + 52 → x ≠ s + 8 + 5 * j → x ≠ s + 9 + 5 * j → G'.1 x k = G.1 x k) (hg : lsIs G' (s + 8 + 5 * j) g) : ShC G' s (setGo S j g) := by
  obtain ⟨h1, h2, h3, h4, h5, h6, h7, h8⟩ := h
  have ff : ∀ x, s ≤ x → x ≤ s + 52 → x ≠ s + 8 + 5 * j → x ≠ s + 9 + 5 * j → G'.1 x = G.1 x := fun x a b c d => by funext k; exact f x k a b c d
  refine ⟨by rw [f s 1 (by omega) (by omega) (by omega) (by omega)]; simpa [setGo] using h1, fun k hk => ?_, by rw [f s 4 (by omega) (by omega) (by omega) (by omega)]; exact h3, fun k hk => ?_, fun k hk => by rw [f _ _ (by omega) (by omega) (by omega) (by omega)]; exact h5 k hk, by rw [f s 6 (by omega) (by omega) (by omega) (by omega)]; exact h6, by rw [f s 8 (by omega) (by omega) (by omega) (by omega)]; exact h7, fun k hk => by rw [f _ _ (by omega) (by omega) (by omega) (by omega)]; exact h8 k hk⟩
  · have hk2 : k < S.1.length := by simpa [setGo] using hk
    have hbk := h2 k hk2
    simp only [setGo, List.getElem_modify]
    by_cases c : j = k
    · subst c
      rw [if_pos rfl]
      obtain ⟨b1, b2, b3, b4, b5⟩ := hbk
      have e0 := ff (s + 7 + 5 * j) (by omega) (by omega) (by omega) (by omega)
      refine ⟨by rw [e0]; exact b1, by rw [e0]; exact b2, by rw [e0]; exact b3, fun q => by rw [e0]; exact b4 q, ?_⟩
      show lsIs G' (s + 7 + 5 * j + 1) g
      rw [show s + 7 + 5 * j + 1 = s + 8 + 5 * j by omega]; exact hg
    · rw [if_neg c]
      exact bkC_congr hbk (fun x a b => ff x (by omega) (by omega) (by omega) (by omega))
  · have hk2 : k < S.2.1.length := hk
    exact cpC_congr (h4 k hk2) (f _ _ (by omega) (by omega) (by omega) (by omega)) (ff _ (by omega) (by omega) (by omega) (by omega)) (ff _ (by omega) (by omega) (by omega) (by omega))
theorem sh_8 {s : Nat} (hS : SHa s) : 8 ≤ s := by rcases hS with rfl | rfl <;> decide
set_option maxRecDepth 100000 in
set_option maxHeartbeats 4000000 in
theorem c_rGone {κ : Kx} (hκ : KOK κ) {d s N : Nat} {w v : Nat → Int} {S : Sh} (hE : eE s w v N) {G : Wd} {i : Nat} (h : lH s w v N G i S) (hd : 3 ≤ d) : Ct κ MX8_readGone d 0 0 [VR 3, VR s] (Wm G) (lP s G (pGone w v i S)) noX := by
  refine Ct_of hκ kX8_readGone.1 rfl (Nat.le_of_ble_eq_true rfl) (ls := [some (VR 3), some (VR s), none]) rfl (fun μ => ?_)
  have hE0 := hE
  obtain ⟨hS, hT, hN, hw⟩ := hE
  obtain ⟨hr, hi, hiN, hC, hO⟩ := h
  have hC0 := hC
  obtain ⟨h1, h2, -⟩ := hC
  obtain ⟨s1, s2, s3, -⟩ := hO
  have h8 := sh_8 hS
  have h1S := (sh_facts hS).1
  have hr1 := (FS.cur s G ((i : Int) + 1)).rd hS hr
  have e1 : (uI G 4 6 ((i : Int) + 1)).1 s 1 = (S.1.length : Nat) := by rw [at_cur (by omega)]; exact h1
  have hv1 := hT.2 (i + 1)
  by_cases hx : pIdx w v S.1.length (i + 1) = 0
  · obtain ⟨hw1, hlt⟩ := pIdx_0 hx
    have hj : (v (i + 1)).toNat < S.1.length := by omega
    have hjv : (((v (i + 1)).toNat : Nat) : Int) = v (i + 1) := by omega
    have hB := (sh_books hS (v (i + 1)).toNat (by omega)).2
    have hbk := h2 _ hj
    have hok := s2 _ (List.getElem_mem hj)
    have hbl : bkLv S (v (i + 1)).toNat = (S.1[(v (i + 1)).toNat]'hj).2.2.1 := by rw [bkLv, List.getD_eq_getElem?_getD, List.getElem?_eq_getElem hj]; rfl
    have hbg : bkGo S (v (i + 1)).toNat = (S.1[(v (i + 1)).toNat]'hj).2.2.2.2.2 := by rw [bkGo, List.getD_eq_getElem?_getD, List.getElem?_eq_getElem hj]; rfl
    have hi1 : i + 1 < N := pTok_lt hT (by omega) (by omega)
    have ebk : bkAt (uI (uI G 4 6 ((i : Int) + 1)) 4 6 ((i : Int) + 1 + 1)) s (v (i + 1)) = s + 7 + 5 * (v (i + 1)).toNat := by
      rw [bkAt, if_pos]
      rw [at_cur (by omega), e1]
      omega
    have hP : pGone w v i S = if w (i + 2) ≠ -2 then (i + 2, 1, S) else ((pLvs w v (bkLv S (v (i + 1)).toNat) 60 502 (i + 2) (bkGo S (v (i + 1)).toNat)).1, (pLvs w v (bkLv S (v (i + 1)).toNat) 60 502 (i + 2) (bkGo S (v (i + 1)).toNat)).2.1, setGo S (v (i + 1)).toNat (pLvs w v (bkLv S (v (i + 1)).toNat) 60 502 (i + 2) (bkGo S (v (i + 1)).toNat)).2.2) := by rw [pGone, if_neg (not_not_intro hx)]
    rw [hbl, hbg] at hP
    generalize hbb : S.1[(v (i + 1)).toNat]'hj = bb at *
    obtain ⟨k1, k2, k3, k4, k5, k6, k7, k8, k9⟩ := hok
    have G2e : uI (uI G 4 6 ((i : Int) + 1)) 4 6 ((i : Int) + 1 + 1) = uI G 4 6 ((i + 2 : Nat) : Int) := by rw [uI_twice]; congr 1
    rw [G2e] at ebk
    have f2 := FS.cur s G ((i + 2 : Nat) : Int)
    have hr2 := f2.rd hS hr
    have hlv : (uI G 4 6 ((i + 2 : Nat) : Int)).1 (s + 7 + 5 * (v (i + 1)).toNat) 1 = bb.2.2.1 := by rw [at_cur (by omega)]; exact hbk.2.2.1
    have hls : lsIs (uI G 4 6 ((i + 2 : Nat) : Int)) (s + 7 + 5 * (v (i + 1)).toNat + 1) bb.2.2.2.2.2 := lsIs_congr hbk.2.2.2.2 (at_cur (by omega)) (by funext j; exact at_cur (by omega))
    have w2R := hw (i + 2) (by omega)
    refine V_ex sX8_readGone_0 (by simp only [Option.toList, List.cons_append, List.nil_append, exN, ex1, gI, gL, gR, pI, pL, pR, lget, lset1, lset2, kl, b2I, b2L, nob, ob32, ob64, xGet, xPut, xLen, xLd, xLdR, xSt, obA, true_and, and_true, and_self, eq_self, Nat.reduceEqDiff, Nat.zero_ne_one, reduceIte, Nat.reduceLeDiff, and_false, false_and, show skd 7 0 = 2 from rfl, show LF.1 3 = some (.inl 7) from rfl, show LF.2 3 0 = some 4 from rfl, upd2_eq, Int.reduceToNat, Int.toNat_natCast]; rfl) (by first | exact trivial | exact Or.inr rfl | exact Or.inl rfl | (simp only [ob, obA, R32, R64] at *; omega) | (simp only [ob, obA, R32, R64] at *; and_intros <;> omega)) ?_
    refine V_callV (M := MX8_readGone) (N := MX9_advance) dX8_readGone_4 lRX8_52 kX9_advance rfl (rfl) rfl (c_tAdvance (d := 0) hκ) rfl rfl (Nat.le_of_ble_eq_true rfl) (fit_rm (by omega)) (⟨Nat.le_of_ble_eq_true rfl, Nat.le_of_ble_eq_true rfl⟩) (fun v Ω' hp => ?_) (fun _ _ h => h.elim)
    obtain ⟨rfl, rfl⟩ := hp
    rw [hi]
    refine V_ex sX8_readGone_7 (by rfl) (by first | exact trivial | exact Or.inr rfl | exact Or.inl rfl | (simp only [ob, obA, R32, R64] at *; omega) | (simp only [ob, obA, R32, R64] at *; and_intros <;> omega)) ?_
    refine V_callV (M := MX8_readGone) (N := MX8_readBookIndex) dX8_readGone_10 lRX8_115 kX8_readBookIndex rfl (rfl) rfl (c_rIdx (d := 2) hκ (i := i + 1) (nb := S.1.length) hE0 hr1 (by rw [of_cur]; omega) (by omega) e1 s1 (by omega)) rfl rfl (Nat.le_of_ble_eq_true rfl) (fit_rm (by omega)) (⟨Nat.le_of_ble_eq_true rfl, Nat.le_of_ble_eq_true rfl⟩) (fun v Ω' hp => ?_) (fun _ _ h => h.elim)
    obtain ⟨rfl, rfl⟩ := hp
    rw [if_pos hx, if_pos hx, show ((i + 1 : Nat) : Int) + 1 = (i : Int) + 1 + 1 by omega, G2e]
    refine V_callV (M := MX8_readGone) (N := MX7_bookAt) dX8_readGone_13 lRX8_112 kX7_bookAt rfl (h1S) rfl (c_bookAt (d := 0) hκ hS (by unfold R32; omega) (by rw [at_cur (by omega), h1]; unfold R32; omega)) rfl rfl (Nat.le_of_ble_eq_true rfl) (fit_rm (by omega)) (⟨Nat.le_of_ble_eq_true rfl, Nat.le_of_ble_eq_true rfl⟩) (fun v Ω' hp => ?_) (fun _ _ h => h.elim)
    obtain ⟨rfl, rfl⟩ := hp
    rw [ebk]
    refine V_ex sX8_readGone_16 (by rfl) (by first | exact trivial | exact Or.inr rfl | exact Or.inl rfl | (simp only [ob, obA, R32, R64] at *; omega) | (simp only [ob, obA, R32, R64] at *; and_intros <;> omega)) ?_
    refine V_ifnull dX8_readGone_18 (tgt := 53) (by decide) (fun q18 => ?_) (fun q18 => ?_)
    · omega
    · refine V_ex sX8_readGone_21 (by simp only [Option.toList, List.cons_append, List.nil_append, exN, ex1, gI, gL, gR, pI, pL, pR, lget, lset1, lset2, kl, b2I, b2L, nob, ob32, ob64, xGet, xPut, xLen, xLd, xLdR, xSt, obA, true_and, and_true, and_self, eq_self, Nat.reduceEqDiff, Nat.zero_ne_one, reduceIte, Nat.reduceLeDiff, and_false, false_and, show skd 0 5 = 2 from rfl, hB.1, hB.2.1, upd2_eq, Int.reduceToNat, Int.toNat_natCast]; rfl) (by first | exact trivial | exact Or.inr rfl | exact Or.inl rfl | (simp only [ob, obA, R32, R64] at *; omega) | (simp only [ob, obA, R32, R64] at *; and_intros <;> omega)) ?_
      refine V_callV (M := MX8_readGone) (N := MX8_readLeaf) dX8_readGone_29 lRX8_123 kX8_readLeaf rfl (rfl) rfl (c_rLeaf (d := 2) hκ (most := 60) hT hN hw hr2 (of_cur) (by omega) hB hB.2.2.1 hlv (by omega) hls (by omega) (by omega) (by omega) (by omega)) rfl rfl (Nat.le_of_ble_eq_true rfl) (fit_rm (by omega)) (⟨Nat.le_of_ble_eq_true rfl, Nat.le_of_ble_eq_true rfl⟩) (fun v Ω' hp => ?_) (fun _ _ h => h.elim)
      obtain ⟨rfl, rfl⟩ := hp
      refine V_ifeqB dX8_readGone_32 (tgt := 53) (by decide) (fun q32 => ?_) (fun q32 => ?_)
      · have hb := of_decide_eq_false q32
        rw [if_neg hb]
        refine V_ex sX8_readGone_53 (by rfl) (by first | exact trivial | exact Or.inr rfl | exact Or.inl rfl | (simp only [ob, obA, R32, R64] at *; omega) | (simp only [ob, obA, R32, R64] at *; and_intros <;> omega)) ?_
        refine V_zret dX8_readGone_54 rfl (by first | exact Or.inl rfl | exact Or.inr rfl | exact b2i_01 _) (by decide) ?_
        by_cases hw2 : w (i + 2) = -2
        · have hl2 : rLf w v bb.2.2.1 60 (i + 2) bb.2.2.2.2.2 = pLf v bb.2.2.1 60 (i + 2) bb.2.2.2.2.2 := by rw [rLf, if_neg (not_not_intro hw2)]
          rw [hl2] at hb ⊢
          rw [hP, if_neg (not_not_intro hw2), pLvs, if_pos hw2, if_pos hb]
          exact lP_no hb (f2.trans (FS.fnd s _ _)) (by rw [at_fnd (by omega), of_cur]) of_fnd
        · rw [hP, if_pos hw2, rLf, if_pos hw2]
          exact lP_no (show (1 : Int) ≠ 0 by decide) (f2.trans (FS.fnd s _ _)) (by rw [at_fnd (by omega), of_cur]) of_fnd
      · have hb := of_decide_eq_true q32
        rw [if_pos hb]
        obtain ⟨a1, a2, a3, a4, a5⟩ := rLf_0 hb
        have hi2 : i + 2 < N := pTok_lt hT (by omega) (by omega)
        have hv2 := hT.2 (i + 2)
        rw [hP, if_neg (not_not_intro a1), pLvs, if_pos a1, if_neg (not_not_intro a2)]
        have f3 : FLs (s + 7 + 5 * (v (i + 1)).toNat + 1) G (uI (lsTake (uI G 4 6 ((i + 2 : Nat) : Int)) (s + 7 + 5 * (v (i + 1)).toNat + 1) (v (i + 2))) 4 6 (((i + 2 : Nat) : Int) + 1)) := ((FLs.cur _ G _).trans (FLs.take _ _ _)).trans (FLs.cur _ _ _)
        have hls3 := lsIs_congr (G' := uI (lsTake (uI G 4 6 ((i + 2 : Nat) : Int)) (s + 7 + 5 * (v (i + 1)).toNat + 1) (v (i + 2))) 4 6 (((i + 2 : Nat) : Int) + 1)) (lsIs_take hls (by omega) a4) (at_cur (by omega)) (by funext j; exact at_cur (by omega))
        generalize hG3 : uI (lsTake (uI G 4 6 ((i + 2 : Nat) : Int)) (s + 7 + 5 * (v (i + 1)).toNat + 1) (v (i + 2))) 4 6 (((i + 2 : Nat) : Int) + 1) = G3 at *
        have hc3 : G3.1 4 6 = ((i + 2 + 1 : Nat) : Int) := by rw [← hG3, of_cur]; omega
        refine V_ex sX8_readGone_35 (by simp only [Option.toList, List.cons_append, List.nil_append, exN, ex1, gI, gL, gR, pI, pL, pR, lget, lset1, lset2, kl, b2I, b2L, nob, ob32, ob64, xGet, xPut, xLen, xLd, xLdR, xSt, obA, true_and, and_true, and_self, eq_self, Nat.reduceEqDiff, Nat.zero_ne_one, reduceIte, Nat.reduceLeDiff, and_false, false_and, show skd 0 5 = 2 from rfl, hB.1, hB.2.1, upd2_eq, Int.reduceToNat, Int.toNat_natCast]; rfl) (by first | exact trivial | exact Or.inr rfl | exact Or.inl rfl | (simp only [ob, obA, R32, R64] at *; omega) | (simp only [ob, obA, R32, R64] at *; and_intros <;> omega)) ?_
        refine V_callV (M := MX8_readGone) (N := MX8_readLeaves) dX8_readGone_43 lRX8_127 kX8_readLeaves rfl (rfl) rfl (c_rLeaves (d := 2) hκ (most := 60) (lv := bb.2.2.1) (i := i + 2 + 1) hT hN hw (f3.rd (by omega) hr) hc3 (by omega) hB hB.2.2.1 (by rw [f3.2 _ _ (by omega) (by omega) (by omega) (by omega)]; exact hbk.2.2.1) (by omega) hls3 (by simp; omega) (by omega) (by omega) (by omega) (by omega)) rfl rfl (Nat.le_of_ble_eq_true rfl) (fit_rm (by omega)) (⟨Nat.le_of_ble_eq_true rfl, Nat.le_of_ble_eq_true rfl⟩) (fun v Ω' hp => ?_) (fun _ _ h => h.elim)
        obtain ⟨rfl, G4, rfl, f4, a4', b4', c4'⟩ := hp
        generalize pLvs w v bb.2.2.1 60 501 (i + 2 + 1) (bb.2.2.2.2.2 ++ [v (i + 2)]) = r at *
        have f34 := f3.trans f4
        have h31 : G3.1 3 1 = G.1 3 1 := by rw [← hG3, at_cur (by omega), lsTake_ne (by omega) (by omega), at_cur (by omega)]
        refine V_ifeqB dX8_readGone_46 (tgt := 53) (by decide) (fun q46 => ?_) (fun q46 => ?_)
        · have hb2 := of_decide_eq_false q46
          refine V_ex sX8_readGone_53 (by rfl) (by first | exact trivial | exact Or.inr rfl | exact Or.inl rfl | (simp only [ob, obA, R32, R64] at *; omega) | (simp only [ob, obA, R32, R64] at *; and_intros <;> omega)) ?_
          refine V_zret dX8_readGone_54 rfl (by first | exact Or.inl rfl | exact Or.inr rfl | exact b2i_01 _) (by decide) (lP_no hb2 (FS.ls f34 (by omega)) a4' (c4' hb2))
        · have hb2 := of_decide_eq_true q46
          refine V_ex sX8_readGone_49 (by rfl) (by first | exact trivial | exact Or.inr rfl | exact Or.inl rfl | (simp only [ob, obA, R32, R64] at *; omega) | (simp only [ob, obA, R32, R64] at *; and_intros <;> omega)) ?_
          refine V_goto dX8_readGone_50 (tgt := 54) (by decide) ?_
          refine V_zret dX8_readGone_54 rfl (by first | exact Or.inl rfl | exact Or.inr rfl | exact b2i_01 _) (by decide) ?_
          refine lP_ok hb2 (FS.ls f34 (by omega)) a4' ((b4' hb2).1.trans h31) ?_
          exact ShC_go hC0 s3 s1 hj (fun x k p q r t => f34.2 x k (by omega) (by omega) (by omega) (by omega)) (by rw [show s + 8 + 5 * (v (i + 1)).toNat = s + 7 + 5 * (v (i + 1)).toNat + 1 by omega]; exact (b4' hb2).2)
  · have hP : pGone w v i S = (i + 1, pIdx w v S.1.length (i + 1), S) := by rw [pGone, if_pos hx]
    have ebk : ∀ z, bkAt (uI (uI G 4 6 ((i : Int) + 1)) 3 1 z) s (-1) = 0 := fun z => by rw [bkAt, if_neg (by omega)]
    refine V_ex sX8_readGone_0 (by simp only [Option.toList, List.cons_append, List.nil_append, exN, ex1, gI, gL, gR, pI, pL, pR, lget, lset1, lset2, kl, b2I, b2L, nob, ob32, ob64, xGet, xPut, xLen, xLd, xLdR, xSt, obA, true_and, and_true, and_self, eq_self, Nat.reduceEqDiff, Nat.zero_ne_one, reduceIte, Nat.reduceLeDiff, and_false, false_and, show skd 7 0 = 2 from rfl, show LF.1 3 = some (.inl 7) from rfl, show LF.2 3 0 = some 4 from rfl, upd2_eq, Int.reduceToNat, Int.toNat_natCast]; rfl) (by first | exact trivial | exact Or.inr rfl | exact Or.inl rfl | (simp only [ob, obA, R32, R64] at *; omega) | (simp only [ob, obA, R32, R64] at *; and_intros <;> omega)) ?_
    refine V_callV (M := MX8_readGone) (N := MX9_advance) dX8_readGone_4 lRX8_52 kX9_advance rfl (rfl) rfl (c_tAdvance (d := 0) hκ) rfl rfl (Nat.le_of_ble_eq_true rfl) (fit_rm (by omega)) (⟨Nat.le_of_ble_eq_true rfl, Nat.le_of_ble_eq_true rfl⟩) (fun v Ω' hp => ?_) (fun _ _ h => h.elim)
    obtain ⟨rfl, rfl⟩ := hp
    rw [hi]
    refine V_ex sX8_readGone_7 (by rfl) (by first | exact trivial | exact Or.inr rfl | exact Or.inl rfl | (simp only [ob, obA, R32, R64] at *; omega) | (simp only [ob, obA, R32, R64] at *; and_intros <;> omega)) ?_
    refine V_callV (M := MX8_readGone) (N := MX8_readBookIndex) dX8_readGone_10 lRX8_115 kX8_readBookIndex rfl (rfl) rfl (c_rIdx (d := 2) hκ (i := i + 1) (nb := S.1.length) hE0 hr1 (by rw [of_cur]; omega) (by omega) e1 s1 (by omega)) rfl rfl (Nat.le_of_ble_eq_true rfl) (fit_rm (by omega)) (⟨Nat.le_of_ble_eq_true rfl, Nat.le_of_ble_eq_true rfl⟩) (fun v Ω' hp => ?_) (fun _ _ h => h.elim)
    obtain ⟨rfl, rfl⟩ := hp
    rw [if_neg hx, if_neg hx]
    refine V_callV (M := MX8_readGone) (N := MX7_bookAt) dX8_readGone_13 lRX8_112 kX7_bookAt rfl (h1S) rfl (c_bookAt (d := 0) hκ hS (by unfold R32; omega) (by rw [at_fnd (by omega), at_cur (by omega), h1]; unfold R32; omega)) rfl rfl (Nat.le_of_ble_eq_true rfl) (fit_rm (by omega)) (⟨Nat.le_of_ble_eq_true rfl, Nat.le_of_ble_eq_true rfl⟩) (fun v Ω' hp => ?_) (fun _ _ h => h.elim)
    obtain ⟨rfl, rfl⟩ := hp
    rw [ebk]
    refine V_ex sX8_readGone_16 (by rfl) (by first | exact trivial | exact Or.inr rfl | exact Or.inl rfl | (simp only [ob, obA, R32, R64] at *; omega) | (simp only [ob, obA, R32, R64] at *; and_intros <;> omega)) ?_
    refine V_ifnull dX8_readGone_18 (tgt := 53) (by decide) (fun q18 => ?_) (fun q18 => ?_)
    · refine V_ex sX8_readGone_53 (by rfl) (by first | exact trivial | exact Or.inr rfl | exact Or.inl rfl | (simp only [ob, obA, R32, R64] at *; omega) | (simp only [ob, obA, R32, R64] at *; and_intros <;> omega)) ?_
      refine V_zret dX8_readGone_54 rfl (by first | exact Or.inl rfl | exact Or.inr rfl | exact b2i_01 _) (by decide) (by rw [hP]; exact lP_no hx ((FS.cur s G _).trans (FS.fnd s _ _)) (by rw [at_fnd (by omega), of_cur]; show _ = ((i + 1 : Nat) : Int); omega) of_fnd)
    · exact absurd rfl q18
