/-! THE MODEL's reader: lines; what it holds -/
def mBk (G : Wd) (a : Nat) (b : Bk) : Prop := G.1 149 a = b.1 ∧ G.1 150 a = b.2.1 ∧ G.1 151 a = b.2.2.1 ∧ (b.1 = 6 → G.1 158 a = b.2.2.2.1 ∧ G.1 159 a = b.2.2.2.2.1) ∧ G.1 152 a = (b.2.2.2.2.2.length : Nat) ∧ ∀ k (h : k < b.2.2.2.2.2.length), G.1 153 (60 * a + k) = b.2.2.2.2.2[k]'h
def mCp (G : Wd) (c : Nat) (q : Int × List Int) : Prop := G.1 154 c = q.1 ∧ G.1 155 c = (q.2.length : Nat) ∧ ∀ k (h : k < q.2.length), G.1 156 (30 * c + k) = q.2[k]'h
/-- what is being read: the upper halves -/
def mS1 (G : Wd) (S : Sh) : Prop := G.1 148 2 = (S.1.length : Nat) ∧ (∀ j (h : j < S.1.length), mBk G (6 + j) (S.1[j]'h)) ∧ G.1 148 3 = (S.2.1.length : Nat) ∧ (∀ j (h : j < S.2.1.length), mCp G (8 + j) (S.2.1[j]'h)) ∧ (∀ k (h : k < S.2.2.1.length), G.1 157 (10 + k) = S.2.2.1[k]'h) ∧ mCd G S.2.2.2.2
theorem mBk_congr {G G' : Wd} {a : Nat} {b : Bk} (h : mBk G a b) (e : ∀ x, (149 ≤ x ∧ x ≤ 152) ∨ (158 ≤ x ∧ x ≤ 159) → G'.1 x a = G.1 x a) (e3 : ∀ k, 60 * a ≤ k → k < 60 * a + b.2.2.2.2.2.length → G'.1 153 k = G.1 153 k) : mBk G' a b := by
  obtain ⟨h1, h2, h3, h4, h5, h6⟩ := h
  exact ⟨by rw [e _ (by omega)]; exact h1, by rw [e _ (by omega)]; exact h2, by rw [e _ (by omega)]; exact h3, fun q => by rw [e _ (by omega), e _ (by omega)]; exact h4 q, by rw [e _ (by omega)]; exact h5, fun k hk => by rw [e3 _ (by omega) (by omega)]; exact h6 k hk⟩
theorem mCp_congr {G G' : Wd} {c : Nat} {q : Int × List Int} (h : mCp G c q) (e : ∀ x, 154 ≤ x → x ≤ 155 → G'.1 x c = G.1 x c) (e3 : ∀ k, 30 * c ≤ k → k < 30 * c + q.2.length → G'.1 156 k = G.1 156 k) : mCp G' c q := by
  obtain ⟨h1, h2, h3⟩ := h
  exact ⟨by rw [e _ (by omega) (by omega)]; exact h1, by rw [e _ (by omega) (by omega)]; exact h2, fun k hk => by rw [e3 _ (by omega) (by omega)]; exact h3 k hk⟩
/-- what reading may change -/
def up (x j : Nat) : Prop := (x = 145 ∧ 19 ≤ j ∧ j ≤ 27 ∧ j ≠ 20) ∨ (x = 148 ∧ 2 ≤ j) ∨ (149 ≤ x ∧ x ≤ 152 ∧ 6 ≤ j) ∨ (x = 153 ∧ 360 ≤ j) ∨ (154 ≤ x ∧ x ≤ 155 ∧ 8 ≤ j) ∨ (x = 156 ∧ 240 ≤ j) ∨ (x = 157 ∧ 10 ≤ j) ∨ (158 ≤ x ∧ x ≤ 159 ∧ 6 ≤ j) ∨ (x = 160 ∧ 500 ≤ j)
def FU (G G' : Wd) : Prop := G'.2 = G.2 ∧ ∀ x j, ¬ up x j → G'.1 x j = G.1 x j
theorem FU.refl (G : Wd) : FU G G := ⟨rfl, fun _ _ _ => rfl⟩
theorem FU.trans {G G' G'' : Wd} (h : FU G G') (h' : FU G' G'') : FU G G'' := ⟨h'.1.trans h.1, fun x j p => (h'.2 x j p).trans (h.2 x j p)⟩
theorem FU.x {G G' : Wd} (h : FX G G') : FU G G' := ⟨h.1, fun x j p => h.2 x j (fun q => p (by unfold up; omega)) (fun q => p (by unfold up; omega))⟩
theorem FU.m {G G' : Wd} (h : Fm G G') : FU G G' := FU.x (FX.m h)
theorem FU.ct {f : Nat → Int} {n i : Nat} {k : Int} (G : Wd) : FU G (ctW f n i k G) := FU.x (FX.ct G)
theorem FU.u (G : Wd) {a k : Nat} (z : Int) (h : up a k) : FU G (uI G a k z) := ⟨rfl, fun x j p => iv (fun q => p (by rw [q.1, q.2]; exact h))⟩
theorem FU.lv {a fr most : Nat} {G G' : Wd} (h : FLm a fr most G G') (hu : ∀ j, fr ≤ j → j < fr + most → up a j) : FU G G' := ⟨h.1, fun x j p => h.2 x j (fun q => p (by unfold up; omega)) (fun q => p (by rw [q.1]; exact hu j q.2.1 q.2.2))⟩
theorem mS1_same {G G' : Wd} {S : Sh} (h : mS1 G S) (e : ∀ x j, 148 ≤ x → x ≤ 160 → G'.1 x j = G.1 x j) (e23 : G'.1 145 23 = G.1 145 23) : mS1 G' S := by
  obtain ⟨h1, h2, h3, h4, h5, h6, h7⟩ := h
  exact ⟨by rw [e _ _ (by omega) (by omega)]; exact h1, fun j hj => mBk_congr (h2 j hj) (fun x a => e _ _ (by omega) (by omega)) (fun k a b => e _ _ (by omega) (by omega)), by rw [e _ _ (by omega) (by omega)]; exact h3, fun j hj => mCp_congr (h4 j hj) (fun x a b => e _ _ (by omega) (by omega)) (fun k a b => e _ _ (by omega) (by omega)), fun k hk => by rw [e _ _ (by omega) (by omega)]; exact h5 k hk, by rw [e23]; exact h6, fun k hk => by rw [e _ _ (by omega) (by omega)]; exact h7 k hk⟩
theorem mS1_m {G G' : Wd} {S : Sh} (h : mS1 G S) (f : Fm G G') : mS1 G' S := mS1_same h (fun x j a b => f.2 x j (by omega)) (f.2 _ _ (by omega))
/-- a line's part begins at token i -/
def mlH (f : Nat → Int) (n : Nat) (G : Wd) (i : Nat) (S : Sh) : Prop := mI f n G i ∧ i < (tk f n 0).length - 1 ∧ mS1 G S ∧ okSh i S
def mlR (f : Nat → Int) (n : Nat) (G : Wd) (r : PS) : Prop := (r.2.1 = 0 → mI f n G r.1 ∧ mS1 G r.2.2) ∧ (r.2.1 ≠ 0 → G.1 145 26 = r.2.1 ∧ G.1 145 27 = (tkB (tk f n 0) r.1 : Nat))
def mlP (f : Nat → Int) (n : Nat) (r : PS) (G : Wd) : Option Vl → Om → Prop := fun u Ω' => u = none ∧ ∃ G', Ω' = Wm G' ∧ FU G G' ∧ mlR f n G' r
theorem mlR_ct {f : Nat → Int} {n i : Nat} {k : Int} {S : Sh} {G : Wd} (hk : k ≠ 0) : mlR f n (ctW f n i k G) (i, k, S) := ⟨fun q => absurd q hk, fun _ => ⟨ct_26, by unfold ctW; rw [iu]⟩⟩
/-- the leaves gone of the j-th book -/
theorem mS1_go {G G' : Wd} {j : Nat} {S : Sh} {g : List Int} (h : mS1 G S) (hb : S.1.length ≤ 6) (h60 : ∀ b ∈ S.1, b.2.2.2.2.2.length ≤ 60) (hj : j < S.1.length) (e : ∀ x k, 148 ≤ x → x ≤ 160 → ¬ (x = 153 ∧ 60 * (6 + j) ≤ k ∧ k < 60 * (6 + j) + 60) → ¬ (x = 152 ∧ k = 6 + j) → G'.1 x k = G.1 x k) (e23 : G'.1 145 23 = G.1 145 23) (hm : G'.1 152 (6 + j) = (g.length : Nat)) (hg : ∀ k (h : k < g.length), G'.1 153 (60 * (6 + j) + k) = g[k]'h) : mS1 G' (setGo S j g) := by
  obtain ⟨h1, h2, h3, h4, h5, h6, h7⟩ := h
  refine ⟨by rw [e _ _ (by omega) (by omega) (by omega) (by omega)]; simpa [setGo] using h1, fun k hk => ?_, by rw [e _ _ (by omega) (by omega) (by omega) (by omega)]; exact h3, fun k hk => ?_, fun k hk => by rw [e _ _ (by omega) (by omega) (by omega) (by omega)]; exact h5 k hk, by rw [e23]; exact h6, fun k hk => by rw [e _ _ (by omega) (by omega) (by omega) (by omega)]; exact h7 k hk⟩
  · have hk2 : k < S.1.length := by simpa [setGo] using hk
    have hbk := h2 k hk2
    have hl := h60 _ (List.getElem_mem hk2)
    simp only [setGo, List.getElem_modify]
    by_cases c : j = k
    · subst c
      rw [if_pos rfl]
      obtain ⟨b1, b2, b3, b4, b5, b6⟩ := hbk
      exact ⟨by rw [e _ _ (by omega) (by omega) (by omega) (by omega)]; exact b1, by rw [e _ _ (by omega) (by omega) (by omega) (by omega)]; exact b2, by rw [e _ _ (by omega) (by omega) (by omega) (by omega)]; exact b3, fun q => by rw [e _ _ (by omega) (by omega) (by omega) (by omega), e _ _ (by omega) (by omega) (by omega) (by omega)]; exact b4 q, hm, hg⟩
    · rw [if_neg c]
      exact mBk_congr hbk (fun x a => e _ _ (by omega) (by omega) (by omega) (by omega)) (fun y a b => e _ _ (by omega) (by omega) (by omega) (by omega))
  · have hk2 : k < S.2.1.length := hk
    exact mCp_congr (h4 k hk2) (fun x a b => e _ _ (by omega) (by omega) (by omega) (by omega)) (fun y a b => e _ _ (by omega) (by omega) (by omega) (by omega))
set_option maxRecDepth 100000 in
set_option maxHeartbeats 4000000 in
theorem c_mGone {κ : Kx} (hκ : KOK κ) {d n i : Nat} {f : Nat → Int} {S : Sh} {G : Wd} (h : mlH f n G i S) (hw : tkW (tk f n 0) i = 264) (hd : 3 ≤ d) : Ct κ MX12_readGone d 0 0 [VR 145] (Wm G) (mlP f n (pGone (tkW (tk f n 0)) (tkV (tk f n 0)) i S) G) noX := by
  refine Ct_of hκ kX12_readGone.1 rfl (Nat.le_of_ble_eq_true rfl) (ls := [some (VR 145), none]) rfl (fun μ => ?_)
  obtain ⟨hI, hiN, hS, hO⟩ := h
  have hS0 := hS
  obtain ⟨h1, h2, -⟩ := hS
  obtain ⟨s1, s2, -⟩ := hO
  have hL1 := (tk_len f n n 0 (by omega)).1
  have st := c_iNext hκ (d := 2) hI (by omega) (by omega)
  have badV : ∀ (G3 : Wd) (x : Option Vl), FU G G3 → G3.1 145 26 ≠ 0 → R32 (G3.1 145 26) → mlR f n G3 (pGone (tkW (tk f n 0)) (tkV (tk f n 0)) i S) → V κ MX12_readGone (rmD d 0 0) (mlP f n (pGone (tkW (tk f n 0)) (tkV (tk f n 0)) i S) G) noX 0 0 μ 0 0 (Wm (G3)) 29 [some (VR 145), x] [] := fun G3 x f3 hb hR hr => by
    refine V_ex sX12_readGone_29 (by simp only [Option.toList, List.cons_append, List.nil_append, exN, ex1, gI, gL, gR, pI, pL, pR, lget, lset1, lset2, kl, b2I, b2L, nob, ob32, ob64, xGet, xPut, xLen, xLd, xLdR, xSt, obA, true_and, and_true, and_self, eq_self, Nat.reduceEqDiff, Nat.zero_ne_one, reduceIte, Nat.reduceLeDiff, and_false, false_and, show skd 11 26 = 0 from rfl, show LF.1 145 = some (.inl 11) from rfl, upd2_eq, Int.reduceToNat, Int.toNat_natCast]; rfl) (by first | exact trivial | exact Or.inr rfl | exact Or.inl rfl | (simp only [ob, obA, R32, R64] at *; omega) | (simp only [ob, obA, R32, R64] at *; and_intros <;> omega)) ?_
    refine V_ifne dX12_readGone_33 (tgt := 72) (by decide) (by exact hR) (fun q33 => ?_) (fun q33 => ?_)
    · refine V_vret dX12_readGone_72 rfl (by decide) ⟨rfl, G3, rfl, f3, hr⟩
    · exact absurd q33 hb
  have good : ∀ (b : Nat) (G3 : Wd), b < S.1.length → tkV (tk f n 0) (i + 1) = (b : Int) → pIdx (tkW (tk f n 0)) (tkV (tk f n 0)) S.1.length (i + 1) = 0 → tkW (tk f n 0) (i + 2) = -2 → FU G G3 → mI f n G3 (i + 2) → mS1 G3 S → V κ MX12_readGone (rmD d 0 0) (mlP f n (pGone (tkW (tk f n 0)) (tkV (tk f n 0)) i S) G) noX 0 0 μ 0 0 (Wm (G3)) 29 [some (VR 145), some (VI (b : Nat))] [] := fun b G3 hbl hb hx hw2 fu3 i3 hS3 => by
    obtain ⟨h26, h21⟩ := mI_26 i3
    have hlt3 := mI_lt i3
    have hok := s2 _ (List.getElem_mem hbl)
    have hgd : S.1.getD b (0, 0, 0, 0, 0, []) = S.1[b]'hbl := by rw [List.getD_eq_getElem?_getD, List.getElem?_eq_getElem hbl]; rfl
    have hlvS : bkLv S b = (S.1[b]'hbl).2.2.1 := by unfold bkLv; rw [hgd]
    have hgoS : bkGo S b = (S.1[b]'hbl).2.2.2.2.2 := by unfold bkGo; rw [hgd]
    have hPe : pGone (tkW (tk f n 0)) (tkV (tk f n 0)) i S = ((pLvs (tkW (tk f n 0)) (tkV (tk f n 0)) (S.1[b]'hbl).2.2.1 60 502 (i + 2) (S.1[b]'hbl).2.2.2.2.2).1, (pLvs (tkW (tk f n 0)) (tkV (tk f n 0)) (S.1[b]'hbl).2.2.1 60 502 (i + 2) (S.1[b]'hbl).2.2.2.2.2).2.1, setGo S b (pLvs (tkW (tk f n 0)) (tkV (tk f n 0)) (S.1[b]'hbl).2.2.1 60 502 (i + 2) (S.1[b]'hbl).2.2.2.2.2).2.2) := by
      unfold pGone
      rw [if_neg (by omega), if_neg (by omega), hb, Int.toNat_natCast, hlvS, hgoS]
    obtain ⟨b1, b2, b3, b4, b5, b6⟩ := hS3.2.1 b hbl
    obtain ⟨o1, o2, o3, o4, o5, o6, o7, o8, o9⟩ := hok
    have e6 : (6 + (b : Int)).toNat = 6 + b := by omega
    have e60 : (60 : Int) * (6 + (b : Int)) = ((60 * (6 + b) : Nat) : Int) := by omega
    have hC := c_mLeaves (κ := κ) hκ (d := 2) i3 (a := 153) (sz := 720) (bk := b) (fr := 60 * (6 + b)) (most := 60) rfl (by omega) (by omega) (by omega) (by omega) b3 (by omega) b6 o8 (fun z hz => by have := o9 z hz; unfold R32; omega) (by omega) 502 (by omega)
    generalize pLvs (tkW (tk f n 0)) (tkV (tk f n 0)) (S.1[b]'hbl).2.2.1 60 502 (i + 2) (S.1[b]'hbl).2.2.2.2.2 = r at *
    refine V_ex sX12_readGone_29 (by simp only [Option.toList, List.cons_append, List.nil_append, exN, ex1, gI, gL, gR, pI, pL, pR, lget, lset1, lset2, kl, b2I, b2L, nob, ob32, ob64, xGet, xPut, xLen, xLd, xLdR, xSt, obA, true_and, and_true, and_self, eq_self, Nat.reduceEqDiff, Nat.zero_ne_one, reduceIte, Nat.reduceLeDiff, and_false, false_and, show skd 11 26 = 0 from rfl, show LF.1 145 = some (.inl 11) from rfl, upd2_eq, Int.reduceToNat, Int.toNat_natCast]; rfl) (by first | exact trivial | exact Or.inr rfl | exact Or.inl rfl | (simp only [ob, obA, R32, R64] at *; omega) | (simp only [ob, obA, R32, R64] at *; and_intros <;> omega)) ?_
    refine V_ifne dX12_readGone_33 (tgt := 72) (by decide) (by rw [h26]; unfold R32; decide) (fun q33 => ?_) (fun q33 => ?_)
    · exact absurd h26 q33
    · refine V_ex sX12_readGone_36 (by simp only [Option.toList, List.cons_append, List.nil_append, exN, ex1, gI, gL, gR, pI, pL, pR, lget, lset1, lset2, kl, b2I, b2L, nob, ob32, ob64, xGet, xPut, xLen, xLd, xLdR, xSt, obA, true_and, and_true, and_self, eq_self, Nat.reduceEqDiff, Nat.zero_ne_one, reduceIte, Nat.reduceLeDiff, and_false, false_and, show skd 11 7 = 2 from rfl, show skd 11 8 = 2 from rfl, show LF.1 145 = some (.inl 11) from rfl, show LF.2 145 7 = some 152 from rfl, show LF.2 145 8 = some 153 from rfl, show LF.1 152 = some (.inr (0, 12)) from rfl, e6, b5, upd2_eq, Int.reduceToNat, Int.toNat_natCast]; rfl) (by first | exact trivial | exact Or.inr rfl | exact Or.inl rfl | (simp only [ob, obA, R32, R64] at *; omega) | (simp only [ob, obA, R32, R64] at *; and_intros <;> omega)) ?_
      rw [e60]
      refine V_callV (M := MX12_readGone) (N := MX12_readLeaves) dX12_readGone_68 lRX12_307 kX12_readLeaves rfl (rfl) rfl (hC) rfl rfl (Nat.le_of_ble_eq_true rfl) (fit_rm (by omega)) (⟨Nat.le_of_ble_eq_true rfl, Nat.le_of_ble_eq_true rfl⟩) (fun v Ω' hp => ?_) (fun _ _ h => h.elim)
      obtain ⟨G4, rfl, f4, hr0, hr1⟩ := hp
      have f4u : FU G G4 := fu3.trans (FU.lv f4 (fun j p q => by unfold up; omega))
      have hMV : ∃ z, v = some (VI z) ∧ (r.2.1 = 0 → z = (r.2.2.length : Nat)) := by
        by_cases c : r.2.1 = 0
        · exact ⟨_, (hr0 c).2.1, fun _ => rfl⟩
        · obtain ⟨-, -, z, hz⟩ := hr1 c
          exact ⟨z, hz, fun q => absurd q c⟩
      obtain ⟨z, rfl, hz⟩ := hMV
      refine V_ex sX12_readGone_71 (by simp only [Option.toList, List.cons_append, List.nil_append, exN, ex1, gI, gL, gR, pI, pL, pR, lget, lset1, lset2, kl, b2I, b2L, nob, ob32, ob64, xGet, xPut, xLen, xLd, xLdR, xSt, obA, true_and, and_true, and_self, eq_self, Nat.reduceEqDiff, Nat.zero_ne_one, reduceIte, Nat.reduceLeDiff, and_false, false_and, show LF.1 152 = some (.inr (0, 12)) from rfl, e6, upd2_eq, Int.reduceToNat, Int.toNat_natCast]; rfl) (by first | exact trivial | exact Or.inr rfl | exact Or.inl rfl | (simp only [ob, obA, R32, R64] at *; omega) | (simp only [ob, obA, R32, R64] at *; and_intros <;> omega)) ?_
      refine V_vret dX12_readGone_72 rfl (by decide) ?_
      refine ⟨rfl, _, rfl, f4u.trans (FU.u G4 z (by unfold up; omega)), ?_⟩
      rw [hPe]
      refine ⟨fun q => ⟨mI_keep (fun j p q r => iv (by omega)) (by funext j; exact iv (by omega)) (hr0 q).1, mS1_go hS3 s1 (fun b hb => (s2 b hb).2.2.2.2.2.2.2.1) hbl (fun x k p q r t => by rw [iv (by omega)]; exact f4.2 _ _ (by omega) (by omega)) (by rw [iv (by omega)]; exact f4.2 _ _ (by omega) (by omega)) (by rw [iu, hz q]) (fun k hk => by rw [iv (by omega)]; exact (hr0 q).2.2 k hk)⟩, fun q => ⟨by rw [iv (by omega)]; exact (hr1 q).1, by rw [iv (by omega)]; exact (hr1 q).2.1⟩⟩
  by_cases hx : pIdx (tkW (tk f n 0)) (tkV (tk f n 0)) S.1.length (i + 1) = 0
  · obtain ⟨hw1, hlt⟩ := pIdx_0 hx
    refine V_ex sX12_readGone_0 (by rfl) (by first | exact trivial | exact Or.inr rfl | exact Or.inl rfl | (simp only [ob, obA, R32, R64] at *; omega) | (simp only [ob, obA, R32, R64] at *; and_intros <;> omega)) ?_
    refine V_callV (M := MX12_readGone) (N := MX12_stepOn) dX12_readGone_1 lRX12_249 kX12_stepOn rfl (rfl) rfl (st) rfl rfl (Nat.le_of_ble_eq_true rfl) (fit_rm (by omega)) (⟨Nat.le_of_ble_eq_true rfl, Nat.le_of_ble_eq_true rfl⟩) (fun v Ω' hp => ?_) (fun _ _ h => h.elim)
    obtain ⟨rfl, G2, rfl, f2, i2⟩ := hp
    have h12 : G2.1 148 2 = (S.1.length : Nat) := by rw [f2.2 _ _ (by omega)]; exact h1
    have hv1 := (mI_lt i2).2.2.2.2.1
    obtain ⟨b, hb⟩ : ∃ b : Nat, tkV (tk f n 0) (i + 1) = (b : Int) := ⟨(tkV (tk f n 0) (i + 1)).toNat, by omega⟩
    refine V_ex sX12_readGone_4 (by rfl) (by first | exact trivial | exact Or.inr rfl | exact Or.inl rfl | (simp only [ob, obA, R32, R64] at *; omega) | (simp only [ob, obA, R32, R64] at *; and_intros <;> omega)) ?_
    refine V_callV (M := MX12_readGone) (N := MX12_readOneOf) dX12_readGone_5 lRX12_304 kX12_readOneOf rfl (rfl) rfl (c_mOneOf hκ (d := 2) i2 h12 (by omega) (by omega)) rfl rfl (Nat.le_of_ble_eq_true rfl) (fit_rm (by omega)) (⟨Nat.le_of_ble_eq_true rfl, Nat.le_of_ble_eq_true rfl⟩) (fun v Ω' hp => ?_) (fun _ _ h => h.elim)
    obtain ⟨hp, -⟩ := hp
    obtain ⟨rfl, -, G3, rfl, f3, i3⟩ := hp hx
    rw [hb]
    replace i3 : mI f n G3 (i + 2) := i3
    obtain ⟨h26, h21⟩ := mI_26 i3
    have hkd := kd_R (tkW (tk f n 0) (i + 2))
    have fu3 : FU G G3 := (FU.m f2).trans (FU.m f3)
    have hS3 : mS1 G3 S := mS1_m (mS1_m hS0 f2) f3
    refine V_ex sX12_readGone_8 (by simp only [Option.toList, List.cons_append, List.nil_append, exN, ex1, gI, gL, gR, pI, pL, pR, lget, lset1, lset2, kl, b2I, b2L, nob, ob32, ob64, xGet, xPut, xLen, xLd, xLdR, xSt, obA, true_and, and_true, and_self, eq_self, Nat.reduceEqDiff, Nat.zero_ne_one, reduceIte, Nat.reduceLeDiff, and_false, false_and, show skd 11 26 = 0 from rfl, show LF.1 145 = some (.inl 11) from rfl, upd2_eq, Int.reduceToNat, Int.toNat_natCast]; rfl) (by first | exact trivial | exact Or.inr rfl | exact Or.inl rfl | (simp only [ob, obA, R32, R64] at *; omega) | (simp only [ob, obA, R32, R64] at *; and_intros <;> omega)) ?_
    refine V_ifne dX12_readGone_13 (tgt := 29) (by decide) (by rw [h26]; unfold R32; decide) (fun q13 => ?_) (fun q13 => ?_)
    · exact absurd h26 q13
    · refine V_ex sX12_readGone_16 (by simp only [Option.toList, List.cons_append, List.nil_append, exN, ex1, gI, gL, gR, pI, pL, pR, lget, lset1, lset2, kl, b2I, b2L, nob, ob32, ob64, xGet, xPut, xLen, xLd, xLdR, xSt, obA, true_and, and_true, and_self, eq_self, Nat.reduceEqDiff, Nat.zero_ne_one, reduceIte, Nat.reduceLeDiff, and_false, false_and, show skd 11 21 = 0 from rfl, show LF.1 145 = some (.inl 11) from rfl, upd2_eq, Int.reduceToNat, Int.toNat_natCast]; rfl) (by first | exact trivial | exact Or.inr rfl | exact Or.inl rfl | (simp only [ob, obA, R32, R64] at *; omega) | (simp only [ob, obA, R32, R64] at *; and_intros <;> omega)) ?_
      refine V_icmpeq dX12_readGone_21 (tgt := 29) (by decide) (by rw [h21]; unfold R32; omega) (fun q21 => ?_) (fun q21 => ?_)
      · rw [h21, kd_2] at q21
        exact good b G3 (by omega) hb hx q21 fu3 i3 hS3
      · rw [h21, kd_2] at q21
        refine V_ex sX12_readGone_24 (by rfl) (by first | exact trivial | exact Or.inr rfl | exact Or.inl rfl | (simp only [ob, obA, R32, R64] at *; omega) | (simp only [ob, obA, R32, R64] at *; and_intros <;> omega)) ?_
        refine V_callV (M := MX12_readGone) (N := MX12_cant) dX12_readGone_26 lRX12_245 kX12_cant rfl (rfl) rfl (c_iCant (d := 0) hκ i3) rfl rfl (Nat.le_of_ble_eq_true rfl) (fit_rm (by omega)) (⟨Nat.le_of_ble_eq_true rfl, Nat.le_of_ble_eq_true rfl⟩) (fun v Ω' hp => ?_) (fun _ _ h => h.elim)
        obtain ⟨rfl, rfl⟩ := hp
        exact badV _ _ (fu3.trans (FU.ct G3)) (by rw [ct_26]; decide) (by rw [ct_26]; unfold R32; decide) (by unfold pGone; rw [if_neg (by omega), if_pos q21]; exact mlR_ct (by decide))
  · have hR := pIdx_R (tkW (tk f n 0)) (tkV (tk f n 0)) S.1.length (i + 1)
    refine V_ex sX12_readGone_0 (by rfl) (by first | exact trivial | exact Or.inr rfl | exact Or.inl rfl | (simp only [ob, obA, R32, R64] at *; omega) | (simp only [ob, obA, R32, R64] at *; and_intros <;> omega)) ?_
    refine V_callV (M := MX12_readGone) (N := MX12_stepOn) dX12_readGone_1 lRX12_249 kX12_stepOn rfl (rfl) rfl (st) rfl rfl (Nat.le_of_ble_eq_true rfl) (fit_rm (by omega)) (⟨Nat.le_of_ble_eq_true rfl, Nat.le_of_ble_eq_true rfl⟩) (fun v Ω' hp => ?_) (fun _ _ h => h.elim)
    obtain ⟨rfl, G2, rfl, f2, i2⟩ := hp
    have h12 : G2.1 148 2 = (S.1.length : Nat) := by rw [f2.2 _ _ (by omega)]; exact h1
    refine V_ex sX12_readGone_4 (by rfl) (by first | exact trivial | exact Or.inr rfl | exact Or.inl rfl | (simp only [ob, obA, R32, R64] at *; omega) | (simp only [ob, obA, R32, R64] at *; and_intros <;> omega)) ?_
    refine V_callV (M := MX12_readGone) (N := MX12_readOneOf) dX12_readGone_5 lRX12_304 kX12_readOneOf rfl (rfl) rfl (c_mOneOf hκ (d := 2) i2 h12 (by omega) (by omega)) rfl rfl (Nat.le_of_ble_eq_true rfl) (fit_rm (by omega)) (⟨Nat.le_of_ble_eq_true rfl, Nat.le_of_ble_eq_true rfl⟩) (fun v Ω' hp => ?_) (fun _ _ h => h.elim)
    obtain ⟨-, hp⟩ := hp
    obtain ⟨rfl, rfl⟩ := hp hx
    refine V_ex sX12_readGone_8 (by simp only [Option.toList, List.cons_append, List.nil_append, exN, ex1, gI, gL, gR, pI, pL, pR, lget, lset1, lset2, kl, b2I, b2L, nob, ob32, ob64, xGet, xPut, xLen, xLd, xLdR, xSt, obA, true_and, and_true, and_self, eq_self, Nat.reduceEqDiff, Nat.zero_ne_one, reduceIte, Nat.reduceLeDiff, and_false, false_and, show skd 11 26 = 0 from rfl, show LF.1 145 = some (.inl 11) from rfl, upd2_eq, Int.reduceToNat, Int.toNat_natCast]; rfl) (by first | exact trivial | exact Or.inr rfl | exact Or.inl rfl | (simp only [ob, obA, R32, R64] at *; omega) | (simp only [ob, obA, R32, R64] at *; and_intros <;> omega)) ?_
    refine V_ifne dX12_readGone_13 (tgt := 29) (by decide) (by rw [ct_26]; unfold R32; omega) (fun q13 => ?_) (fun q13 => ?_)
    · exact badV _ _ ((FU.m f2).trans (FU.ct G2)) (by rw [ct_26]; exact hx) (by rw [ct_26]; unfold R32; omega) (by unfold pGone; rw [if_pos hx]; exact mlR_ct hx)
    · rw [ct_26] at q13; exact absurd q13 hx
