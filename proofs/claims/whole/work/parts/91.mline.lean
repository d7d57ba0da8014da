/-! THE MODEL's reader: a line -/
theorem mV_kinds : LF.2 145 0 = some 146 ∧ LF.1 146 = some (.inr (5, 7)) ∧ ∀ i, i < 7 → LF.2 146 i = some (1000019 + i) := by decide +kernel
set_option maxRecDepth 100000 in
set_option maxHeartbeats 4000000 in
theorem c_iKinds {κ : Kx} (hκ : KOK κ) (hKS : KS κ) {d n i : Nat} {f : Nat → Int} {G : Wd} (h : mI f n G i) (hd : 5 ≤ d) : Ct κ MX12_which d 0 0 [VR 145, VR 146] (Wm G) (keepG G (VI (if 256 ≤ tkW (tk f n 0) i ∧ tkW (tk f n 0) i < 263 then tkW (tk f n 0) i - 256 else -1))) noX := by
  obtain ⟨hf, t, l, h1, hg, h3⟩ := h
  rw [(mI_at h1).1]
  have e := c_mWhich hκ hKS (d := d) (w0 := 0) (s0 := 1000019) mV_kinds.2.1 (by decide) (fun j hj => ⟨mV_kinds.2.2 j hj, by
    have := ks_M hKS (j := j) (by omega)
    rw [show mWd.getD j 0 = 0 + j by
      have : ∀ j, j < 7 → mWd.getD j 0 = 0 + j := by decide
      exact this j hj] at this
    exact this⟩) hg hd
  simpa using e
/-- a line and its end -/
def pEnd (w : Nat → Int) (r : PS) : PS := if r.2.1 ≠ 0 then r else if w r.1 = 59 then (r.1 + 1, 0, r.2.2) else (r.1, 1, r.2.2)
def mLnP (f : Nat → Int) (n : Nat) (z : Bool) (r : PS) (G : Wd) : Option Vl → Om → Prop := fun u Ω' => u = some (VI (b2i z)) ∧ ∃ G', Ω' = Wm G' ∧ FU G G' ∧ mlR f n G' r
theorem mS1_ld {G G' : Wd} {S : Sh} {a : List Int} {z : Bool} (h : mS1 G S) (e : ∀ x k, 148 ≤ x → x ≤ 160 → x ≠ 157 → G'.1 x k = G.1 x k) (e23 : G'.1 145 23 = G.1 145 23) (ha : ∀ k (h : k < a.length), G'.1 157 (10 + k) = a[k]'h) : mS1 G' (S.1, S.2.1, a, z, S.2.2.2.2) := by
  obtain ⟨h1, h2, h3, h4, h5, h6, h7⟩ := h
  exact ⟨by rw [e _ _ (by omega) (by omega) (by omega)]; exact h1, fun j (hj : j < S.1.length) => mBk_congr (h2 j hj) (fun x a => e _ _ (by omega) (by omega) (by omega)) (fun k a b => e _ _ (by omega) (by omega) (by omega)), by rw [e _ _ (by omega) (by omega) (by omega)]; exact h3, fun j (hj : j < S.2.1.length) => mCp_congr (h4 j hj) (fun x a b => e _ _ (by omega) (by omega) (by omega)) (fun k a b => e _ _ (by omega) (by omega) (by omega)), ha, by rw [e23]; exact h6, fun k hk => by rw [e _ _ (by omega) (by omega) (by omega)]; exact h7 k hk⟩
set_option maxRecDepth 100000 in
set_option maxHeartbeats 4000000 in
theorem c_mLine {κ : Kx} (hκ : KOK κ) (hKS : KS κ) {d n i : Nat} {f : Nat → Int} {S : Sh} {G : Wd} (hf : ∀ j, j < n → 0 ≤ f j ∧ f j ≤ 255) (h : mlH f n G i S) (hd : 47 ≤ d) : Ct κ MX12_readLine d 0 0 [VR 145, VI (b2i S.2.2.2.1)] (Wm G) (mLnP f n (S.2.2.2.1 || decide (tkW (tk f n 0) i = 266)) (pEnd (tkW (tk f n 0)) (pLine (tkW (tk f n 0)) (tkV (tk f n 0)) i S)) G) noX := by
  refine Ct_of hκ kX12_readLine.1 rfl (Nat.le_of_ble_eq_true rfl) (ls := [some (VR 145), some (VI (b2i S.2.2.2.1)), none, none, none]) rfl (fun μ => ?_)
  have h0 := h
  obtain ⟨hI, hiN, hS, hO⟩ := h
  have hT := tk_pTok hf
  have hok := pLine_ok (v := tkV (tk f n 0)) hT hiN hO
  obtain ⟨h26, h21⟩ := mI_26 hI
  have hL1 := (tk_len f n n 0 (by omega)).1
  have hlt := mI_lt hI
  have hwm1 : tkW (tk f n 0) i ≠ -1 := fun q => by have := (hT.1 i (by omega)).mp q; omega
  have hK := c_iKinds hκ hKS (d := 5) hI (by omega)
  have hLd := c_iIs hκ hKS (d := 4) hI (ks_M hKS (j := 15) (by omega)) (by decide) (by omega)
  have hGo := c_iIs hκ hKS (d := 4) hI (ks_M hKS (j := 16) (by omega)) (by decide) (by omega)
  have hCp := c_iIs hκ hKS (d := 4) hI (ks_M hKS (j := 17) (by omega)) (by decide) (by omega)
  generalize hr : pLine (tkW (tk f n 0)) (tkV (tk f n 0)) i S = r at *
  have hS0 := hS
  -- behind a line
  have T : ∀ (ld : Bool) (G1 : Wd) (x y : Option Vl), ld = decide (tkW (tk f n 0) i = 266) → FU G G1 → mlR f n G1 r → V κ MX12_readLine (rmD d 0 0) (mLnP f n (S.2.2.2.1 || decide (tkW (tk f n 0) i = 266)) (pEnd (tkW (tk f n 0)) r) G) noX 0 0 μ 0 0 (Wm (G1)) 138 [some (VR 145), some (VI (b2i S.2.2.2.1)), x, some (VI (b2i ld)), y] [] := fun ld G1 x y hld f1 m1 => by
    subst hld
    by_cases hb : r.2.1 = 0
    · obtain ⟨i1, s1⟩ := m1.1 hb
      have hM := c_iMark hκ (d := 2) (c := 59) i1 (by decide) (by omega) (by omega)
      by_cases hc : tkW (tk f n 0) r.1 = 59
      · have hE : pEnd (tkW (tk f n 0)) r = (r.1 + 1, 0, r.2.2) := by unfold pEnd; rw [if_neg (by omega), if_pos hc]
        refine V_ex sX12_readLine_138 (by rfl) (by first | exact trivial | exact Or.inr rfl | exact Or.inl rfl | (simp only [ob, obA, R32, R64] at *; omega) | (simp only [ob, obA, R32, R64] at *; and_intros <;> omega)) ?_
        refine V_callV (M := MX12_readLine) (N := MX12_mark) dX12_readLine_141 lRX12_268 kX12_mark rfl (rfl) rfl (hM) rfl rfl (Nat.le_of_ble_eq_true rfl) (fit_rm (by omega)) (⟨Nat.le_of_ble_eq_true rfl, Nat.le_of_ble_eq_true rfl⟩) (fun v Ω' hp => ?_) (fun _ _ h => h.elim)
        obtain ⟨rfl, G2, rfl, f2, i2⟩ := hp.1 hc
        refine V_ex sX12_readLine_144 (by rfl) (by first | exact trivial | exact Or.inr rfl | exact Or.inl rfl | (simp only [ob, obA, R32, R64] at *; omega) | (simp only [ob, obA, R32, R64] at *; and_intros <;> omega)) ?_
        refine V_ifneB dX12_readLine_145 (tgt := 152) (by decide) (fun q145 => ?_) (fun q145 => ?_)
        · refine V_ex sX12_readLine_152 (by rfl) (by first | exact trivial | exact Or.inr rfl | exact Or.inl rfl | (simp only [ob, obA, R32, R64] at *; omega) | (simp only [ob, obA, R32, R64] at *; and_intros <;> omega)) ?_
          refine V_goto dX12_readLine_153 (tgt := 157) (by decide) ?_
          refine V_zret dX12_readLine_157 rfl (by first | exact Or.inl rfl | exact Or.inr rfl | exact b2i_01 _) (by decide) (by rw [hE]; exact ⟨by rw [q145]; rfl, G2, rfl, f1.trans (FU.m f2), fun _ => ⟨i2, mS1_m s1 f2⟩, fun q => absurd rfl q⟩)
        · refine V_ex sX12_readLine_148 (by rfl) (by first | exact trivial | exact Or.inr rfl | exact Or.inl rfl | (simp only [ob, obA, R32, R64] at *; omega) | (simp only [ob, obA, R32, R64] at *; and_intros <;> omega)) ?_
          refine V_ifeqB dX12_readLine_149 (tgt := 156) (by decide) (fun q149 => ?_) (fun q149 => ?_)
          · refine V_ex sX12_readLine_156 (by rfl) (by first | exact trivial | exact Or.inr rfl | exact Or.inl rfl | (simp only [ob, obA, R32, R64] at *; omega) | (simp only [ob, obA, R32, R64] at *; and_intros <;> omega)) ?_
            refine V_zret dX12_readLine_157 rfl (by first | exact Or.inl rfl | exact Or.inr rfl | exact b2i_01 _) (by decide) (by rw [hE]; exact ⟨by rw [q145, q149]; rfl, G2, rfl, f1.trans (FU.m f2), fun _ => ⟨i2, mS1_m s1 f2⟩, fun q => absurd rfl q⟩)
          · refine V_ex sX12_readLine_152 (by rfl) (by first | exact trivial | exact Or.inr rfl | exact Or.inl rfl | (simp only [ob, obA, R32, R64] at *; omega) | (simp only [ob, obA, R32, R64] at *; and_intros <;> omega)) ?_
            refine V_goto dX12_readLine_153 (tgt := 157) (by decide) ?_
            refine V_zret dX12_readLine_157 rfl (by first | exact Or.inl rfl | exact Or.inr rfl | exact b2i_01 _) (by decide) (by rw [hE]; exact ⟨by rw [q145, q149]; rfl, G2, rfl, f1.trans (FU.m f2), fun _ => ⟨i2, mS1_m s1 f2⟩, fun q => absurd rfl q⟩)
      · have hE : pEnd (tkW (tk f n 0)) r = (r.1, 1, r.2.2) := by unfold pEnd; rw [if_neg (by omega), if_neg hc]
        refine V_ex sX12_readLine_138 (by rfl) (by first | exact trivial | exact Or.inr rfl | exact Or.inl rfl | (simp only [ob, obA, R32, R64] at *; omega) | (simp only [ob, obA, R32, R64] at *; and_intros <;> omega)) ?_
        refine V_callV (M := MX12_readLine) (N := MX12_mark) dX12_readLine_141 lRX12_268 kX12_mark rfl (rfl) rfl (hM) rfl rfl (Nat.le_of_ble_eq_true rfl) (fit_rm (by omega)) (⟨Nat.le_of_ble_eq_true rfl, Nat.le_of_ble_eq_true rfl⟩) (fun v Ω' hp => ?_) (fun _ _ h => h.elim)
        obtain ⟨rfl, rfl⟩ := hp.2 hc
        refine V_ex sX12_readLine_144 (by rfl) (by first | exact trivial | exact Or.inr rfl | exact Or.inl rfl | (simp only [ob, obA, R32, R64] at *; omega) | (simp only [ob, obA, R32, R64] at *; and_intros <;> omega)) ?_
        refine V_ifneB dX12_readLine_145 (tgt := 152) (by decide) (fun q145 => ?_) (fun q145 => ?_)
        · refine V_ex sX12_readLine_152 (by rfl) (by first | exact trivial | exact Or.inr rfl | exact Or.inl rfl | (simp only [ob, obA, R32, R64] at *; omega) | (simp only [ob, obA, R32, R64] at *; and_intros <;> omega)) ?_
          refine V_goto dX12_readLine_153 (tgt := 157) (by decide) ?_
          refine V_zret dX12_readLine_157 rfl (by first | exact Or.inl rfl | exact Or.inr rfl | exact b2i_01 _) (by decide) (by rw [hE]; exact ⟨by rw [q145]; rfl, _, rfl, f1.trans (FU.ct G1), mlR_ct (by decide)⟩)
        · refine V_ex sX12_readLine_148 (by rfl) (by first | exact trivial | exact Or.inr rfl | exact Or.inl rfl | (simp only [ob, obA, R32, R64] at *; omega) | (simp only [ob, obA, R32, R64] at *; and_intros <;> omega)) ?_
          refine V_ifeqB dX12_readLine_149 (tgt := 156) (by decide) (fun q149 => ?_) (fun q149 => ?_)
          · refine V_ex sX12_readLine_156 (by rfl) (by first | exact trivial | exact Or.inr rfl | exact Or.inl rfl | (simp only [ob, obA, R32, R64] at *; omega) | (simp only [ob, obA, R32, R64] at *; and_intros <;> omega)) ?_
            refine V_zret dX12_readLine_157 rfl (by first | exact Or.inl rfl | exact Or.inr rfl | exact b2i_01 _) (by decide) (by rw [hE]; exact ⟨by rw [q145, q149]; rfl, _, rfl, f1.trans (FU.ct G1), mlR_ct (by decide)⟩)
          · refine V_ex sX12_readLine_152 (by rfl) (by first | exact trivial | exact Or.inr rfl | exact Or.inl rfl | (simp only [ob, obA, R32, R64] at *; omega) | (simp only [ob, obA, R32, R64] at *; and_intros <;> omega)) ?_
            refine V_goto dX12_readLine_153 (tgt := 157) (by decide) ?_
            refine V_zret dX12_readLine_157 rfl (by first | exact Or.inl rfl | exact Or.inr rfl | exact b2i_01 _) (by decide) (by rw [hE]; exact ⟨by rw [q145, q149]; rfl, _, rfl, f1.trans (FU.ct G1), mlR_ct (by decide)⟩)
    · obtain ⟨g26, g27⟩ := m1.2 hb
      have hE : pEnd (tkW (tk f n 0)) r = r := by unfold pEnd; rw [if_pos hb]
      have hb1 : G1.1 145 26 ≠ 0 := by rw [g26]; exact hb
      have hR1 : R32 (G1.1 145 26) := by rw [g26]; have a1 := hok.2.2.1; have a2 := hok.2.2.2.1; unfold R32; omega
      refine V_ex sX12_readLine_138 (by rfl) (by first | exact trivial | exact Or.inr rfl | exact Or.inl rfl | (simp only [ob, obA, R32, R64] at *; omega) | (simp only [ob, obA, R32, R64] at *; and_intros <;> omega)) ?_
      refine V_callV (M := MX12_readLine) (N := MX12_mark) dX12_readLine_141 lRX12_268 kX12_mark rfl (rfl) rfl (c_mMark0 (d := 2) hκ hb1 hR1) rfl rfl (Nat.le_of_ble_eq_true rfl) (fit_rm (by omega)) (⟨Nat.le_of_ble_eq_true rfl, Nat.le_of_ble_eq_true rfl⟩) (fun v Ω' hp => ?_) (fun _ _ h => h.elim)
      obtain ⟨rfl, rfl⟩ := hp
      refine V_ex sX12_readLine_144 (by rfl) (by first | exact trivial | exact Or.inr rfl | exact Or.inl rfl | (simp only [ob, obA, R32, R64] at *; omega) | (simp only [ob, obA, R32, R64] at *; and_intros <;> omega)) ?_
      refine V_ifneB dX12_readLine_145 (tgt := 152) (by decide) (fun q145 => ?_) (fun q145 => ?_)
      · refine V_ex sX12_readLine_152 (by rfl) (by first | exact trivial | exact Or.inr rfl | exact Or.inl rfl | (simp only [ob, obA, R32, R64] at *; omega) | (simp only [ob, obA, R32, R64] at *; and_intros <;> omega)) ?_
        refine V_goto dX12_readLine_153 (tgt := 157) (by decide) ?_
        refine V_zret dX12_readLine_157 rfl (by first | exact Or.inl rfl | exact Or.inr rfl | exact b2i_01 _) (by decide) (by rw [hE]; exact ⟨by rw [q145]; rfl, G1, rfl, f1, m1⟩)
      · refine V_ex sX12_readLine_148 (by rfl) (by first | exact trivial | exact Or.inr rfl | exact Or.inl rfl | (simp only [ob, obA, R32, R64] at *; omega) | (simp only [ob, obA, R32, R64] at *; and_intros <;> omega)) ?_
        refine V_ifeqB dX12_readLine_149 (tgt := 156) (by decide) (fun q149 => ?_) (fun q149 => ?_)
        · refine V_ex sX12_readLine_156 (by rfl) (by first | exact trivial | exact Or.inr rfl | exact Or.inl rfl | (simp only [ob, obA, R32, R64] at *; omega) | (simp only [ob, obA, R32, R64] at *; and_intros <;> omega)) ?_
          refine V_zret dX12_readLine_157 rfl (by first | exact Or.inl rfl | exact Or.inr rfl | exact b2i_01 _) (by decide) (by rw [hE]; exact ⟨by rw [q145, q149]; rfl, G1, rfl, f1, m1⟩)
        · refine V_ex sX12_readLine_152 (by rfl) (by first | exact trivial | exact Or.inr rfl | exact Or.inl rfl | (simp only [ob, obA, R32, R64] at *; omega) | (simp only [ob, obA, R32, R64] at *; and_intros <;> omega)) ?_
          refine V_goto dX12_readLine_153 (tgt := 157) (by decide) ?_
          refine V_zret dX12_readLine_157 rfl (by first | exact Or.inl rfl | exact Or.inr rfl | exact b2i_01 _) (by decide) (by rw [hE]; exact ⟨by rw [q145, q149]; rfl, G1, rfl, f1, m1⟩)
  by_cases hbk : 256 ≤ tkW (tk f n 0) i ∧ tkW (tk f n 0) i < 263
  · -- a book
    rw [if_pos hbk] at hK
    have hrr : pBook (tkW (tk f n 0)) (tkV (tk f n 0)) (tkW (tk f n 0) i - 256) i S = r := by rw [← hr]; unfold pLine; rw [if_neg (by omega), if_neg (by omega), if_neg (by omega), if_pos (by omega)]
    have hB := c_mBook hκ hKS (d := 46) (k := tkW (tk f n 0) i - 256) hf h0 (by omega) (by omega) (by omega)
    rw [hrr] at hB
    have hdd : decide (tkW (tk f n 0) i = 256 + ((mWd.getD 15 0 : Nat) : Int)) = decide (tkW (tk f n 0) i = 266) := rfl
    rw [hdd] at hLd
    refine V_ex sX12_readLine_0 (by simp only [Option.toList, List.cons_append, List.nil_append, exN, ex1, gI, gL, gR, pI, pL, pR, lget, lset1, lset2, kl, b2I, b2L, nob, ob32, ob64, xGet, xPut, xLen, xLd, xLdR, xSt, obA, true_and, and_true, and_self, eq_self, Nat.reduceEqDiff, Nat.zero_ne_one, reduceIte, Nat.reduceLeDiff, and_false, false_and, show skd 11 0 = 2 from rfl, show LF.1 145 = some (.inl 11) from rfl, show LF.2 145 0 = some 146 from rfl, upd2_eq, Int.reduceToNat, Int.toNat_natCast]; rfl) (by first | exact trivial | exact Or.inr rfl | exact Or.inl rfl | (simp only [ob, obA, R32, R64] at *; omega) | (simp only [ob, obA, R32, R64] at *; and_intros <;> omega)) ?_
    refine V_callV (M := MX12_readLine) (N := MX12_which) dX12_readLine_5 lRX12_264 kX12_which rfl (rfl) rfl (hK) rfl rfl (Nat.le_of_ble_eq_true rfl) (fit_rm (by omega)) (⟨Nat.le_of_ble_eq_true rfl, Nat.le_of_ble_eq_true rfl⟩) (fun v Ω' hp => ?_) (fun _ _ h => h.elim)
    obtain ⟨rfl, rfl⟩ := hp
    refine V_ex sX12_readLine_8 (by rfl) (by first | exact trivial | exact Or.inr rfl | exact Or.inl rfl | (simp only [ob, obA, R32, R64] at *; omega) | (simp only [ob, obA, R32, R64] at *; and_intros <;> omega)) ?_
    refine V_ldcSw (n := 1000034) (ks_R hKS (i := 33) rfl) dX12_readLine_10 ?_
    refine V_callV (M := MX12_readLine) (N := MX12_is) dX12_readLine_13 lRX12_238 kX12_is rfl (rfl) rfl (hLd) rfl rfl (Nat.le_of_ble_eq_true rfl) (fit_rm (by omega)) (⟨Nat.le_of_ble_eq_true rfl, Nat.le_of_ble_eq_true rfl⟩) (fun v Ω' hp => ?_) (fun _ _ h => h.elim)
    obtain ⟨rfl, rfl⟩ := hp
    refine V_ex sX12_readLine_16 (by rfl) (by first | exact trivial | exact Or.inr rfl | exact Or.inl rfl | (simp only [ob, obA, R32, R64] at *; omega) | (simp only [ob, obA, R32, R64] at *; and_intros <;> omega)) ?_
    refine V_ifeqB dX12_readLine_18 (tgt := 30) (by decide) (fun q18 => ?_) (fun q18 => ?_)
    · refine V_ex sX12_readLine_30 (by rfl) (by first | exact trivial | exact Or.inr rfl | exact Or.inl rfl | (simp only [ob, obA, R32, R64] at *; omega) | (simp only [ob, obA, R32, R64] at *; and_intros <;> omega)) ?_
      refine V_icmpeq dX12_readLine_32 (tgt := 43) (by decide) (by simp only [R32, R64] at *; omega) (fun q32 => ?_) (fun q32 => ?_)
      · omega
      · refine V_ex sX12_readLine_35 (by rfl) (by first | exact trivial | exact Or.inr rfl | exact Or.inl rfl | (simp only [ob, obA, R32, R64] at *; omega) | (simp only [ob, obA, R32, R64] at *; and_intros <;> omega)) ?_
        refine V_callV (M := MX12_readLine) (N := MX12_readBook) dX12_readLine_37 lRX12_312 kX12_readBook rfl (rfl) rfl (hB) rfl rfl (Nat.le_of_ble_eq_true rfl) (fit_rm (by omega)) (⟨Nat.le_of_ble_eq_true rfl, Nat.le_of_ble_eq_true rfl⟩) (fun v Ω' hp => ?_) (fun _ _ h => h.elim)
        obtain ⟨rfl, G2, rfl, f2, m2⟩ := hp
        refine V_goto dX12_readLine_40 (tgt := 138) (by decide) ?_
        exact T _ G2 _ _ rfl f2 m2
    · have := of_decide_eq_true q18
      omega
  · rw [if_neg hbk] at hK
    have hdd : decide (tkW (tk f n 0) i = 256 + ((mWd.getD 15 0 : Nat) : Int)) = decide (tkW (tk f n 0) i = 266) := rfl
    rw [hdd] at hLd
    have hdg : decide (tkW (tk f n 0) i = 256 + ((mWd.getD 16 0 : Nat) : Int)) = decide (tkW (tk f n 0) i = 264) := rfl
    rw [hdg] at hGo
    have hdc : decide (tkW (tk f n 0) i = 256 + ((mWd.getD 17 0 : Nat) : Int)) = decide (tkW (tk f n 0) i = 265) := rfl
    rw [hdc] at hCp
    -- a line that is none
    have N : ∀ (ld : Bool) (k : Int), ld = decide (tkW (tk f n 0) i = 266) → r = (i, k, S) → k ≠ 0 → R32 k → V κ MX12_readLine (rmD d 0 0) (mLnP f n (S.2.2.2.1 || decide (tkW (tk f n 0) i = 266)) (pEnd (tkW (tk f n 0)) r) G) noX 0 0 μ 0 0 (Wm (ctW f n i k G)) 86 [some (VR 145), some (VI (b2i S.2.2.2.1)), some (VI (-1)), some (VI (b2i ld)), none] [] := fun ld k hld hrk hk hkR => by
      refine V_ex sX12_readLine_86 (by simp only [Option.toList, List.cons_append, List.nil_append, exN, ex1, gI, gL, gR, pI, pL, pR, lget, lset1, lset2, kl, b2I, b2L, nob, ob32, ob64, xGet, xPut, xLen, xLd, xLdR, xSt, obA, true_and, and_true, and_self, eq_self, Nat.reduceEqDiff, Nat.zero_ne_one, reduceIte, Nat.reduceLeDiff, and_false, false_and, show skd 11 26 = 0 from rfl, show LF.1 145 = some (.inl 11) from rfl, upd2_eq, Int.reduceToNat, Int.toNat_natCast]; rfl) (by first | exact trivial | exact Or.inr rfl | exact Or.inl rfl | (simp only [ob, obA, R32, R64] at *; omega) | (simp only [ob, obA, R32, R64] at *; and_intros <;> omega)) ?_
      refine V_ifne dX12_readLine_90 (tgt := 97) (by decide) (by rw [ct_26]; exact hkR) (fun q90 => ?_) (fun q90 => ?_)
      · refine V_ex sX12_readLine_97 (by rfl) (by first | exact trivial | exact Or.inr rfl | exact Or.inl rfl | (simp only [ob, obA, R32, R64] at *; omega) | (simp only [ob, obA, R32, R64] at *; and_intros <;> omega)) ?_
        refine V_ex sX12_readLine_100 (by rfl) (by first | exact trivial | exact Or.inr rfl | exact Or.inl rfl | (simp only [ob, obA, R32, R64] at *; omega) | (simp only [ob, obA, R32, R64] at *; and_intros <;> omega)) ?_
        refine V_icmpge dX12_readLine_104 (tgt := 138) (by decide) (by simp only [R32, R64] at *; omega) (fun q104 => ?_) (fun q104 => ?_)
        · exact absurd q104 (by decide)
        · refine V_ex sX12_readLine_107 (by simp only [Option.toList, List.cons_append, List.nil_append, exN, ex1, gI, gL, gR, pI, pL, pR, lget, lset1, lset2, kl, b2I, b2L, nob, ob32, ob64, xGet, xPut, xLen, xLd, xLdR, xSt, obA, true_and, and_true, and_self, eq_self, Nat.reduceEqDiff, Nat.zero_ne_one, reduceIte, Nat.reduceLeDiff, and_false, false_and, show skd 11 26 = 0 from rfl, show LF.1 145 = some (.inl 11) from rfl, upd2_eq, Int.reduceToNat, Int.toNat_natCast]; rfl) (by first | exact trivial | exact Or.inr rfl | exact Or.inl rfl | (simp only [ob, obA, R32, R64] at *; omega) | (simp only [ob, obA, R32, R64] at *; and_intros <;> omega)) ?_
          refine V_ifne dX12_readLine_111 (tgt := 138) (by decide) (by rw [ct_26]; exact hkR) (fun q111 => ?_) (fun q111 => ?_)
          · exact T ld _ _ _ hld (FU.ct G) (by rw [hrk]; exact mlR_ct hk)
          · rw [ct_26] at q111; exact absurd q111 hk
      · rw [ct_26] at q90; exact absurd q90 hk
    by_cases hw4 : tkW (tk f n 0) i = 264
    · have hrr : pGone (tkW (tk f n 0)) (tkV (tk f n 0)) i S = r := by rw [← hr]; unfold pLine; rw [if_pos hw4]
      have hC := c_mGone hκ (d := 3) h0 hw4 (by omega)
      rw [hrr] at hC
      refine V_ex sX12_readLine_0 (by simp only [Option.toList, List.cons_append, List.nil_append, exN, ex1, gI, gL, gR, pI, pL, pR, lget, lset1, lset2, kl, b2I, b2L, nob, ob32, ob64, xGet, xPut, xLen, xLd, xLdR, xSt, obA, true_and, and_true, and_self, eq_self, Nat.reduceEqDiff, Nat.zero_ne_one, reduceIte, Nat.reduceLeDiff, and_false, false_and, show skd 11 0 = 2 from rfl, show LF.1 145 = some (.inl 11) from rfl, show LF.2 145 0 = some 146 from rfl, upd2_eq, Int.reduceToNat, Int.toNat_natCast]; rfl) (by first | exact trivial | exact Or.inr rfl | exact Or.inl rfl | (simp only [ob, obA, R32, R64] at *; omega) | (simp only [ob, obA, R32, R64] at *; and_intros <;> omega)) ?_
      refine V_callV (M := MX12_readLine) (N := MX12_which) dX12_readLine_5 lRX12_264 kX12_which rfl (rfl) rfl (hK) rfl rfl (Nat.le_of_ble_eq_true rfl) (fit_rm (by omega)) (⟨Nat.le_of_ble_eq_true rfl, Nat.le_of_ble_eq_true rfl⟩) (fun v Ω' hp => ?_) (fun _ _ h => h.elim)
      obtain ⟨rfl, rfl⟩ := hp
      refine V_ex sX12_readLine_8 (by rfl) (by first | exact trivial | exact Or.inr rfl | exact Or.inl rfl | (simp only [ob, obA, R32, R64] at *; omega) | (simp only [ob, obA, R32, R64] at *; and_intros <;> omega)) ?_
      refine V_ldcSw (n := 1000034) (ks_R hKS (i := 33) rfl) dX12_readLine_10 ?_
      refine V_callV (M := MX12_readLine) (N := MX12_is) dX12_readLine_13 lRX12_238 kX12_is rfl (rfl) rfl (hLd) rfl rfl (Nat.le_of_ble_eq_true rfl) (fit_rm (by omega)) (⟨Nat.le_of_ble_eq_true rfl, Nat.le_of_ble_eq_true rfl⟩) (fun v Ω' hp => ?_) (fun _ _ h => h.elim)
      obtain ⟨rfl, rfl⟩ := hp
      refine V_ex sX12_readLine_16 (by rfl) (by first | exact trivial | exact Or.inr rfl | exact Or.inl rfl | (simp only [ob, obA, R32, R64] at *; omega) | (simp only [ob, obA, R32, R64] at *; and_intros <;> omega)) ?_
      refine V_ifeqB dX12_readLine_18 (tgt := 30) (by decide) (fun q18 => ?_) (fun q18 => ?_)
      · refine V_ex sX12_readLine_30 (by rfl) (by first | exact trivial | exact Or.inr rfl | exact Or.inl rfl | (simp only [ob, obA, R32, R64] at *; omega) | (simp only [ob, obA, R32, R64] at *; and_intros <;> omega)) ?_
        refine V_icmpeq dX12_readLine_32 (tgt := 43) (by decide) (by simp only [R32, R64] at *; omega) (fun q32 => ?_) (fun q32 => ?_)
        · refine V_ex sX12_readLine_43 (by rfl) (by first | exact trivial | exact Or.inr rfl | exact Or.inl rfl | (simp only [ob, obA, R32, R64] at *; omega) | (simp only [ob, obA, R32, R64] at *; and_intros <;> omega)) ?_
          refine V_ldcSw (n := 1000035) (ks_R hKS (i := 34) rfl) dX12_readLine_44 ?_
          refine V_callV (M := MX12_readLine) (N := MX12_is) dX12_readLine_47 lRX12_238 kX12_is rfl (rfl) rfl (hGo) rfl rfl (Nat.le_of_ble_eq_true rfl) (fit_rm (by omega)) (⟨Nat.le_of_ble_eq_true rfl, Nat.le_of_ble_eq_true rfl⟩) (fun v Ω' hp => ?_) (fun _ _ h => h.elim)
          obtain ⟨rfl, rfl⟩ := hp
          refine V_ifeqB dX12_readLine_50 (tgt := 60) (by decide) (fun q50 => ?_) (fun q50 => ?_)
          · exact absurd hw4 (of_decide_eq_false q50)
          · refine V_ex sX12_readLine_53 (by rfl) (by first | exact trivial | exact Or.inr rfl | exact Or.inl rfl | (simp only [ob, obA, R32, R64] at *; omega) | (simp only [ob, obA, R32, R64] at *; and_intros <;> omega)) ?_
            refine V_callV (M := MX12_readLine) (N := MX12_readGone) dX12_readLine_54 lRX12_316 kX12_readGone rfl (rfl) rfl (hC) rfl rfl (Nat.le_of_ble_eq_true rfl) (fit_rm (by omega)) (⟨Nat.le_of_ble_eq_true rfl, Nat.le_of_ble_eq_true rfl⟩) (fun v Ω' hp => ?_) (fun _ _ h => h.elim)
            obtain ⟨rfl, G2, rfl, f2, m2⟩ := hp
            refine V_goto dX12_readLine_57 (tgt := 138) (by decide) ?_
            exact T _ G2 _ _ rfl f2 m2
        · exact absurd rfl q32
      · have := of_decide_eq_true q18
        omega
    · by_cases hw5 : tkW (tk f n 0) i = 265
      · have hrr : pCopy (tkW (tk f n 0)) (tkV (tk f n 0)) i S = r := by rw [← hr]; unfold pLine; rw [if_neg hw4, if_pos hw5]
        have hC := c_mCopy hκ (d := 3) h0 hw5 (by omega)
        rw [hrr] at hC
        refine V_ex sX12_readLine_0 (by simp only [Option.toList, List.cons_append, List.nil_append, exN, ex1, gI, gL, gR, pI, pL, pR, lget, lset1, lset2, kl, b2I, b2L, nob, ob32, ob64, xGet, xPut, xLen, xLd, xLdR, xSt, obA, true_and, and_true, and_self, eq_self, Nat.reduceEqDiff, Nat.zero_ne_one, reduceIte, Nat.reduceLeDiff, and_false, false_and, show skd 11 0 = 2 from rfl, show LF.1 145 = some (.inl 11) from rfl, show LF.2 145 0 = some 146 from rfl, upd2_eq, Int.reduceToNat, Int.toNat_natCast]; rfl) (by first | exact trivial | exact Or.inr rfl | exact Or.inl rfl | (simp only [ob, obA, R32, R64] at *; omega) | (simp only [ob, obA, R32, R64] at *; and_intros <;> omega)) ?_
        refine V_callV (M := MX12_readLine) (N := MX12_which) dX12_readLine_5 lRX12_264 kX12_which rfl (rfl) rfl (hK) rfl rfl (Nat.le_of_ble_eq_true rfl) (fit_rm (by omega)) (⟨Nat.le_of_ble_eq_true rfl, Nat.le_of_ble_eq_true rfl⟩) (fun v Ω' hp => ?_) (fun _ _ h => h.elim)
        obtain ⟨rfl, rfl⟩ := hp
        refine V_ex sX12_readLine_8 (by rfl) (by first | exact trivial | exact Or.inr rfl | exact Or.inl rfl | (simp only [ob, obA, R32, R64] at *; omega) | (simp only [ob, obA, R32, R64] at *; and_intros <;> omega)) ?_
        refine V_ldcSw (n := 1000034) (ks_R hKS (i := 33) rfl) dX12_readLine_10 ?_
        refine V_callV (M := MX12_readLine) (N := MX12_is) dX12_readLine_13 lRX12_238 kX12_is rfl (rfl) rfl (hLd) rfl rfl (Nat.le_of_ble_eq_true rfl) (fit_rm (by omega)) (⟨Nat.le_of_ble_eq_true rfl, Nat.le_of_ble_eq_true rfl⟩) (fun v Ω' hp => ?_) (fun _ _ h => h.elim)
        obtain ⟨rfl, rfl⟩ := hp
        refine V_ex sX12_readLine_16 (by rfl) (by first | exact trivial | exact Or.inr rfl | exact Or.inl rfl | (simp only [ob, obA, R32, R64] at *; omega) | (simp only [ob, obA, R32, R64] at *; and_intros <;> omega)) ?_
        refine V_ifeqB dX12_readLine_18 (tgt := 30) (by decide) (fun q18 => ?_) (fun q18 => ?_)
        · refine V_ex sX12_readLine_30 (by rfl) (by first | exact trivial | exact Or.inr rfl | exact Or.inl rfl | (simp only [ob, obA, R32, R64] at *; omega) | (simp only [ob, obA, R32, R64] at *; and_intros <;> omega)) ?_
          refine V_icmpeq dX12_readLine_32 (tgt := 43) (by decide) (by simp only [R32, R64] at *; omega) (fun q32 => ?_) (fun q32 => ?_)
          · refine V_ex sX12_readLine_43 (by rfl) (by first | exact trivial | exact Or.inr rfl | exact Or.inl rfl | (simp only [ob, obA, R32, R64] at *; omega) | (simp only [ob, obA, R32, R64] at *; and_intros <;> omega)) ?_
            refine V_ldcSw (n := 1000035) (ks_R hKS (i := 34) rfl) dX12_readLine_44 ?_
            refine V_callV (M := MX12_readLine) (N := MX12_is) dX12_readLine_47 lRX12_238 kX12_is rfl (rfl) rfl (hGo) rfl rfl (Nat.le_of_ble_eq_true rfl) (fit_rm (by omega)) (⟨Nat.le_of_ble_eq_true rfl, Nat.le_of_ble_eq_true rfl⟩) (fun v Ω' hp => ?_) (fun _ _ h => h.elim)
            obtain ⟨rfl, rfl⟩ := hp
            refine V_ifeqB dX12_readLine_50 (tgt := 60) (by decide) (fun q50 => ?_) (fun q50 => ?_)
            · refine V_ex sX12_readLine_60 (by rfl) (by first | exact trivial | exact Or.inr rfl | exact Or.inl rfl | (simp only [ob, obA, R32, R64] at *; omega) | (simp only [ob, obA, R32, R64] at *; and_intros <;> omega)) ?_
              refine V_ldcSw (n := 1000036) (ks_R hKS (i := 35) rfl) dX12_readLine_61 ?_
              refine V_callV (M := MX12_readLine) (N := MX12_is) dX12_readLine_64 lRX12_238 kX12_is rfl (rfl) rfl (hCp) rfl rfl (Nat.le_of_ble_eq_true rfl) (fit_rm (by omega)) (⟨Nat.le_of_ble_eq_true rfl, Nat.le_of_ble_eq_true rfl⟩) (fun v Ω' hp => ?_) (fun _ _ h => h.elim)
              obtain ⟨rfl, rfl⟩ := hp
              refine V_ifeqB dX12_readLine_67 (tgt := 77) (by decide) (fun q67 => ?_) (fun q67 => ?_)
              · exact absurd hw5 (of_decide_eq_false q67)
              · refine V_ex sX12_readLine_70 (by rfl) (by first | exact trivial | exact Or.inr rfl | exact Or.inl rfl | (simp only [ob, obA, R32, R64] at *; omega) | (simp only [ob, obA, R32, R64] at *; and_intros <;> omega)) ?_
                refine V_callV (M := MX12_readLine) (N := MX12_readCopy) dX12_readLine_71 lRX12_321 kX12_readCopy rfl (rfl) rfl (hC) rfl rfl (Nat.le_of_ble_eq_true rfl) (fit_rm (by omega)) (⟨Nat.le_of_ble_eq_true rfl, Nat.le_of_ble_eq_true rfl⟩) (fun v Ω' hp => ?_) (fun _ _ h => h.elim)
                obtain ⟨rfl, G2, rfl, f2, m2⟩ := hp
                refine V_goto dX12_readLine_74 (tgt := 138) (by decide) ?_
                exact T _ G2 _ _ rfl f2 m2
            · exact absurd (of_decide_eq_true q50) hw4
          · exact absurd rfl q32
        · have := of_decide_eq_true q18
          omega
      · by_cases hw6 : tkW (tk f n 0) i = 266
        · have hrr : pLead (tkW (tk f n 0)) (tkV (tk f n 0)) i S = r := by rw [← hr]; unfold pLine; rw [if_neg hw4, if_neg hw5, if_pos hw6]
          by_cases hl : S.2.2.2.1 = true
          · have hr5 : r = (i, 5, S) := by rw [← hrr]; unfold pLead; rw [if_pos hl]
            have hb5 : (ctW f n i 5 G).1 145 26 ≠ 0 := by rw [ct_26]; decide
            have hR5 : R32 ((ctW f n i 5 G).1 145 26) := by rw [ct_26]; unfold R32; decide
            refine V_ex sX12_readLine_0 (by simp only [Option.toList, List.cons_append, List.nil_append, exN, ex1, gI, gL, gR, pI, pL, pR, lget, lset1, lset2, kl, b2I, b2L, nob, ob32, ob64, xGet, xPut, xLen, xLd, xLdR, xSt, obA, true_and, and_true, and_self, eq_self, Nat.reduceEqDiff, Nat.zero_ne_one, reduceIte, Nat.reduceLeDiff, and_false, false_and, show skd 11 0 = 2 from rfl, show LF.1 145 = some (.inl 11) from rfl, show LF.2 145 0 = some 146 from rfl, upd2_eq, Int.reduceToNat, Int.toNat_natCast]; rfl) (by first | exact trivial | exact Or.inr rfl | exact Or.inl rfl | (simp only [ob, obA, R32, R64] at *; omega) | (simp only [ob, obA, R32, R64] at *; and_intros <;> omega)) ?_
            refine V_callV (M := MX12_readLine) (N := MX12_which) dX12_readLine_5 lRX12_264 kX12_which rfl (rfl) rfl (hK) rfl rfl (Nat.le_of_ble_eq_true rfl) (fit_rm (by omega)) (⟨Nat.le_of_ble_eq_true rfl, Nat.le_of_ble_eq_true rfl⟩) (fun v Ω' hp => ?_) (fun _ _ h => h.elim)
            obtain ⟨rfl, rfl⟩ := hp
            refine V_ex sX12_readLine_8 (by rfl) (by first | exact trivial | exact Or.inr rfl | exact Or.inl rfl | (simp only [ob, obA, R32, R64] at *; omega) | (simp only [ob, obA, R32, R64] at *; and_intros <;> omega)) ?_
            refine V_ldcSw (n := 1000034) (ks_R hKS (i := 33) rfl) dX12_readLine_10 ?_
            refine V_callV (M := MX12_readLine) (N := MX12_is) dX12_readLine_13 lRX12_238 kX12_is rfl (rfl) rfl (hLd) rfl rfl (Nat.le_of_ble_eq_true rfl) (fit_rm (by omega)) (⟨Nat.le_of_ble_eq_true rfl, Nat.le_of_ble_eq_true rfl⟩) (fun v Ω' hp => ?_) (fun _ _ h => h.elim)
            obtain ⟨rfl, rfl⟩ := hp
            refine V_ex sX12_readLine_16 (by rfl) (by first | exact trivial | exact Or.inr rfl | exact Or.inl rfl | (simp only [ob, obA, R32, R64] at *; omega) | (simp only [ob, obA, R32, R64] at *; and_intros <;> omega)) ?_
            refine V_ifeqB dX12_readLine_18 (tgt := 30) (by decide) (fun q18 => ?_) (fun q18 => ?_)
            · exact absurd hw6 (of_decide_eq_false q18)
            · refine V_ex sX12_readLine_21 (by rfl) (by first | exact trivial | exact Or.inr rfl | exact Or.inl rfl | (simp only [ob, obA, R32, R64] at *; omega) | (simp only [ob, obA, R32, R64] at *; and_intros <;> omega)) ?_
              refine V_ifeqB dX12_readLine_22 (tgt := 30) (by decide) (fun q22 => ?_) (fun q22 => ?_)
              · rw [hl] at q22; exact absurd q22 (by decide)
              · refine V_ex sX12_readLine_25 (by rfl) (by first | exact trivial | exact Or.inr rfl | exact Or.inl rfl | (simp only [ob, obA, R32, R64] at *; omega) | (simp only [ob, obA, R32, R64] at *; and_intros <;> omega)) ?_
                refine V_callV (M := MX12_readLine) (N := MX12_cant) dX12_readLine_27 lRX12_245 kX12_cant rfl (rfl) rfl (c_iCant (d := 0) hκ hI) rfl rfl (Nat.le_of_ble_eq_true rfl) (fit_rm (by omega)) (⟨Nat.le_of_ble_eq_true rfl, Nat.le_of_ble_eq_true rfl⟩) (fun v Ω' hp => ?_) (fun _ _ h => h.elim)
                obtain ⟨rfl, rfl⟩ := hp
                refine V_ex sX12_readLine_30 (by rfl) (by first | exact trivial | exact Or.inr rfl | exact Or.inl rfl | (simp only [ob, obA, R32, R64] at *; omega) | (simp only [ob, obA, R32, R64] at *; and_intros <;> omega)) ?_
                refine V_icmpeq dX12_readLine_32 (tgt := 43) (by decide) (by simp only [R32, R64] at *; omega) (fun q32 => ?_) (fun q32 => ?_)
                · refine V_ex sX12_readLine_43 (by rfl) (by first | exact trivial | exact Or.inr rfl | exact Or.inl rfl | (simp only [ob, obA, R32, R64] at *; omega) | (simp only [ob, obA, R32, R64] at *; and_intros <;> omega)) ?_
                  refine V_ldcSw (n := 1000035) (ks_R hKS (i := 34) rfl) dX12_readLine_44 ?_
                  refine V_callV (M := MX12_readLine) (N := MX12_is) dX12_readLine_47 lRX12_238 kX12_is rfl (rfl) rfl (c_mIs0b (d := 4) hκ hb5 hR5) rfl rfl (Nat.le_of_ble_eq_true rfl) (fit_rm (by omega)) (⟨Nat.le_of_ble_eq_true rfl, Nat.le_of_ble_eq_true rfl⟩) (fun v Ω' hp => ?_) (fun _ _ h => h.elim)
                  obtain ⟨rfl, rfl⟩ := hp
                  refine V_ifeqB dX12_readLine_50 (tgt := 60) (by decide) (fun q50 => ?_) (fun q50 => ?_)
                  · refine V_ex sX12_readLine_60 (by rfl) (by first | exact trivial | exact Or.inr rfl | exact Or.inl rfl | (simp only [ob, obA, R32, R64] at *; omega) | (simp only [ob, obA, R32, R64] at *; and_intros <;> omega)) ?_
                    refine V_ldcSw (n := 1000036) (ks_R hKS (i := 35) rfl) dX12_readLine_61 ?_
                    refine V_callV (M := MX12_readLine) (N := MX12_is) dX12_readLine_64 lRX12_238 kX12_is rfl (rfl) rfl (c_mIs0b (d := 4) hκ hb5 hR5) rfl rfl (Nat.le_of_ble_eq_true rfl) (fit_rm (by omega)) (⟨Nat.le_of_ble_eq_true rfl, Nat.le_of_ble_eq_true rfl⟩) (fun v Ω' hp => ?_) (fun _ _ h => h.elim)
                    obtain ⟨rfl, rfl⟩ := hp
                    refine V_ifeqB dX12_readLine_67 (tgt := 77) (by decide) (fun q67 => ?_) (fun q67 => ?_)
                    · refine V_ex sX12_readLine_77 (by rfl) (by first | exact trivial | exact Or.inr rfl | exact Or.inl rfl | (simp only [ob, obA, R32, R64] at *; omega) | (simp only [ob, obA, R32, R64] at *; and_intros <;> omega)) ?_
                      refine V_ifneB dX12_readLine_78 (tgt := 86) (by decide) (fun q78 => ?_) (fun q78 => ?_)
                      · exact N _ 5 rfl hr5 (by decide) (by unfold R32; decide)
                      · exact absurd hw6 (of_decide_eq_false q78)
                    · exact absurd q67 (by decide)
                  · exact absurd q50 (by decide)
                · exact absurd rfl q32
          · have hl0 : S.2.2.2.1 = false := by simpa using hl
            have hr6 : r = ((pLdN (tkW (tk f n 0)) (tkV (tk f n 0)) 10 (i + 1) []).1, (pLdN (tkW (tk f n 0)) (tkV (tk f n 0)) 10 (i + 1) []).2.1, (S.1, S.2.1, (pLdN (tkW (tk f n 0)) (tkV (tk f n 0)) 10 (i + 1) []).2.2, true, S.2.2.2.2)) := by rw [← hrr]; unfold pLead; rw [if_neg hl]
            have L : ∀ (k j : Nat) (a : List Int) (G1 : Wd), a.length + k = 10 → FU G G1 → mI f n G1 j → (∀ y (hy : y < a.length), G1.1 157 (10 + y) = a[y]'hy) → (∀ x y, 148 ≤ x → x ≤ 160 → x ≠ 157 → G1.1 x y = G.1 x y) → G1.1 145 23 = G.1 145 23 → pLdN (tkW (tk f n 0)) (tkV (tk f n 0)) k j a = pLdN (tkW (tk f n 0)) (tkV (tk f n 0)) 10 (i + 1) [] → V κ MX12_readLine (rmD d 0 0) (mLnP f n (S.2.2.2.1 || decide (tkW (tk f n 0) i = 266)) (pEnd (tkW (tk f n 0)) r) G) noX 0 0 μ 0 0 (Wm (G1)) 100 [some (VR 145), some (VI (b2i S.2.2.2.1)), some (VI (-1)), some (VI (b2i (decide (tkW (tk f n 0) i = 266)))), some (VI (a.length : Nat))] [] := by
              intro k
              induction k with
              | zero =>
                intro j a G1 hak f1 i1 ha hs1 h23 he
                rw [pLdN] at he
                refine V_ex sX12_readLine_100 (by rfl) (by first | exact trivial | exact Or.inr rfl | exact Or.inl rfl | (simp only [ob, obA, R32, R64] at *; omega) | (simp only [ob, obA, R32, R64] at *; and_intros <;> omega)) ?_
                refine V_icmpge dX12_readLine_104 (tgt := 138) (by decide) (by simp only [R32, R64] at *; omega) (fun q104 => ?_) (fun q104 => ?_)
                · exact T _ G1 _ _ rfl f1 (by rw [hr6, ← he]; exact ⟨fun _ => ⟨i1, mS1_ld hS0 hs1 h23 ha⟩, fun q => absurd rfl q⟩)
                · omega
              | succ k ih =>
                intro j a G1 hak f1 i1 ha hs1 h23 he
                rw [pLdN] at he
                have hN := c_iReadNum hκ (d := 2) (lo := 0) (hh := 9999) i1 (by omega) (by omega) (by omega)
                obtain ⟨g26, g21⟩ := mI_26 i1
                have e10 : ((10 : Int) + (a.length : Nat)).toNat = 10 + a.length := by omega
                by_cases hx : pNum (tkW (tk f n 0)) (tkV (tk f n 0)) 0 9999 j = 0
                · rw [if_neg (by omega)] at he
                  refine V_ex sX12_readLine_100 (by rfl) (by first | exact trivial | exact Or.inr rfl | exact Or.inl rfl | (simp only [ob, obA, R32, R64] at *; omega) | (simp only [ob, obA, R32, R64] at *; and_intros <;> omega)) ?_
                  refine V_icmpge dX12_readLine_104 (tgt := 138) (by decide) (by simp only [R32, R64] at *; omega) (fun q104 => ?_) (fun q104 => ?_)
                  · omega
                  · refine V_ex sX12_readLine_107 (by simp only [Option.toList, List.cons_append, List.nil_append, exN, ex1, gI, gL, gR, pI, pL, pR, lget, lset1, lset2, kl, b2I, b2L, nob, ob32, ob64, xGet, xPut, xLen, xLd, xLdR, xSt, obA, true_and, and_true, and_self, eq_self, Nat.reduceEqDiff, Nat.zero_ne_one, reduceIte, Nat.reduceLeDiff, and_false, false_and, show skd 11 26 = 0 from rfl, show LF.1 145 = some (.inl 11) from rfl, upd2_eq, Int.reduceToNat, Int.toNat_natCast]; rfl) (by first | exact trivial | exact Or.inr rfl | exact Or.inl rfl | (simp only [ob, obA, R32, R64] at *; omega) | (simp only [ob, obA, R32, R64] at *; and_intros <;> omega)) ?_
                    refine V_ifne dX12_readLine_111 (tgt := 138) (by decide) (by rw [g26]; unfold R32; decide) (fun q111 => ?_) (fun q111 => ?_)
                    · exact absurd g26 q111
                    · refine V_ex sX12_readLine_114 (by simp only [Option.toList, List.cons_append, List.nil_append, exN, ex1, gI, gL, gR, pI, pL, pR, lget, lset1, lset2, kl, b2I, b2L, nob, ob32, ob64, xGet, xPut, xLen, xLd, xLdR, xSt, obA, true_and, and_true, and_self, eq_self, Nat.reduceEqDiff, Nat.zero_ne_one, reduceIte, Nat.reduceLeDiff, and_false, false_and, show skd 11 12 = 2 from rfl, show LF.1 145 = some (.inl 11) from rfl, show LF.2 145 12 = some 157 from rfl, upd2_eq, Int.reduceToNat, Int.toNat_natCast]; rfl) (by first | exact trivial | exact Or.inr rfl | exact Or.inl rfl | (simp only [ob, obA, R32, R64] at *; omega) | (simp only [ob, obA, R32, R64] at *; and_intros <;> omega)) ?_
                      refine V_callV (M := MX12_readLine) (N := MX12_readNumber) dX12_readLine_128 lRX12_258 kX12_readNumber rfl (rfl) rfl (hN) rfl rfl (Nat.le_of_ble_eq_true rfl) (fit_rm (by omega)) (⟨Nat.le_of_ble_eq_true rfl, Nat.le_of_ble_eq_true rfl⟩) (fun v Ω' hp => ?_) (fun _ _ h => h.elim)
                      obtain ⟨rfl, -, G2, rfl, f2, i2⟩ := hp.1 hx
                      refine V_ex sX12_readLine_131 (by simp only [Option.toList, List.cons_append, List.nil_append, exN, ex1, gI, gL, gR, pI, pL, pR, lget, lset1, lset2, kl, b2I, b2L, nob, ob32, ob64, xGet, xPut, xLen, xLd, xLdR, xSt, obA, true_and, and_true, and_self, eq_self, Nat.reduceEqDiff, Nat.zero_ne_one, reduceIte, Nat.reduceLeDiff, and_false, false_and, show LF.1 157 = some (.inr (0, 20)) from rfl, e10, upd2_eq, Int.reduceToNat, Int.toNat_natCast]; rfl) (by first | exact trivial | exact Or.inr rfl | exact Or.inl rfl | (simp only [ob, obA, R32, R64] at *; omega) | (simp only [ob, obA, R32, R64] at *; and_intros <;> omega)) ?_
                      refine V_goto dX12_readLine_135 (tgt := 100) (by decide) ?_
                      rw [show ((a.length : Nat) : Int) + 1 = ((a ++ [tkV (tk f n 0) j]).length : Nat) by simp]
                      exact ih (j + 1) (a ++ [tkV (tk f n 0) j]) _ (by simp; omega) ((f1.trans (FU.m f2)).trans (FU.u G2 (a := 157) (k := 10 + a.length) _ (by unfold up; omega))) (mI_keep (fun j p q r => iv (by omega)) (by funext j; exact iv (by omega)) i2) (fun y hy => by
                        simp only [List.length_append, List.length_singleton] at hy
                        rcases Nat.lt_or_ge y a.length with q | q
                        · rw [iv (by omega), f2.2 _ _ (by omega), ha y q, List.getElem_append_left q]
                        · obtain rfl : y = a.length := by omega
                          rw [iu, List.getElem_concat_length rfl]) (fun x y p q r => by rw [iv (by omega), f2.2 _ _ (by omega)]; exact hs1 x y p q r) (by rw [iv (by omega), f2.2 _ _ (by omega)]; exact h23) he
                · rw [if_pos hx] at he
                  have hRk := pNum_R (tkW (tk f n 0)) (tkV (tk f n 0)) 0 9999 j
                  generalize pNum (tkW (tk f n 0)) (tkV (tk f n 0)) 0 9999 j = kk at *
                  have fin : ∀ (z : Int), V κ MX12_readLine (rmD d 0 0) (mLnP f n (S.2.2.2.1 || decide (tkW (tk f n 0) i = 266)) (pEnd (tkW (tk f n 0)) r) G) noX 0 0 μ 0 0 (Wm (uI (ctW f n j kk G1) 157 (10 + a.length) 0)) 100 [some (VR 145), some (VI (b2i S.2.2.2.1)), some (VI (-1)), some (VI (b2i (decide (tkW (tk f n 0) i = 266)))), some (VI ((a.length : Nat) + 1))] [] := fun z => by
                    have g26' : (uI (ctW f n j kk G1) 157 (10 + a.length) 0).1 145 26 = kk := by rw [iv (by omega)]; exact ct_26
                    have hfin : mlR f n (uI (ctW f n j kk G1) 157 (10 + a.length) 0) r := by rw [hr6, ← he]; exact ⟨fun q => absurd q hx, fun _ => ⟨g26', by rw [iv (by omega)]; unfold ctW; rw [iu]⟩⟩
                    generalize hGG : uI (ctW f n j kk G1) 157 (10 + a.length) 0 = GG at *
                    have fGG : FU G GG := by rw [← hGG]; exact (f1.trans (FU.ct G1)).trans (FU.u _ _ (by unfold up; omega))
                    refine V_ex sX12_readLine_100 (by rfl) (by first | exact trivial | exact Or.inr rfl | exact Or.inl rfl | (simp only [ob, obA, R32, R64] at *; omega) | (simp only [ob, obA, R32, R64] at *; and_intros <;> omega)) ?_
                    refine V_icmpge dX12_readLine_104 (tgt := 138) (by decide) (by simp only [R32, R64] at *; omega) (fun q104 => ?_) (fun q104 => ?_)
                    · exact T _ GG _ _ rfl fGG hfin
                    · refine V_ex sX12_readLine_107 (by simp only [Option.toList, List.cons_append, List.nil_append, exN, ex1, gI, gL, gR, pI, pL, pR, lget, lset1, lset2, kl, b2I, b2L, nob, ob32, ob64, xGet, xPut, xLen, xLd, xLdR, xSt, obA, true_and, and_true, and_self, eq_self, Nat.reduceEqDiff, Nat.zero_ne_one, reduceIte, Nat.reduceLeDiff, and_false, false_and, show skd 11 26 = 0 from rfl, show LF.1 145 = some (.inl 11) from rfl, upd2_eq, Int.reduceToNat, Int.toNat_natCast]; rfl) (by first | exact trivial | exact Or.inr rfl | exact Or.inl rfl | (simp only [ob, obA, R32, R64] at *; omega) | (simp only [ob, obA, R32, R64] at *; and_intros <;> omega)) ?_
                      refine V_ifne dX12_readLine_111 (tgt := 138) (by decide) (by rw [g26']; unfold R32; omega) (fun q111 => ?_) (fun q111 => ?_)
                      · exact T _ GG _ _ rfl fGG hfin
                      · rw [g26'] at q111; exact absurd q111 hx
                  refine V_ex sX12_readLine_100 (by rfl) (by first | exact trivial | exact Or.inr rfl | exact Or.inl rfl | (simp only [ob, obA, R32, R64] at *; omega) | (simp only [ob, obA, R32, R64] at *; and_intros <;> omega)) ?_
                  refine V_icmpge dX12_readLine_104 (tgt := 138) (by decide) (by simp only [R32, R64] at *; omega) (fun q104 => ?_) (fun q104 => ?_)
                  · omega
                  · refine V_ex sX12_readLine_107 (by simp only [Option.toList, List.cons_append, List.nil_append, exN, ex1, gI, gL, gR, pI, pL, pR, lget, lset1, lset2, kl, b2I, b2L, nob, ob32, ob64, xGet, xPut, xLen, xLd, xLdR, xSt, obA, true_and, and_true, and_self, eq_self, Nat.reduceEqDiff, Nat.zero_ne_one, reduceIte, Nat.reduceLeDiff, and_false, false_and, show skd 11 26 = 0 from rfl, show LF.1 145 = some (.inl 11) from rfl, upd2_eq, Int.reduceToNat, Int.toNat_natCast]; rfl) (by first | exact trivial | exact Or.inr rfl | exact Or.inl rfl | (simp only [ob, obA, R32, R64] at *; omega) | (simp only [ob, obA, R32, R64] at *; and_intros <;> omega)) ?_
                    refine V_ifne dX12_readLine_111 (tgt := 138) (by decide) (by rw [g26]; unfold R32; decide) (fun q111 => ?_) (fun q111 => ?_)
                    · exact absurd g26 q111
                    · refine V_ex sX12_readLine_114 (by simp only [Option.toList, List.cons_append, List.nil_append, exN, ex1, gI, gL, gR, pI, pL, pR, lget, lset1, lset2, kl, b2I, b2L, nob, ob32, ob64, xGet, xPut, xLen, xLd, xLdR, xSt, obA, true_and, and_true, and_self, eq_self, Nat.reduceEqDiff, Nat.zero_ne_one, reduceIte, Nat.reduceLeDiff, and_false, false_and, show skd 11 12 = 2 from rfl, show LF.1 145 = some (.inl 11) from rfl, show LF.2 145 12 = some 157 from rfl, upd2_eq, Int.reduceToNat, Int.toNat_natCast]; rfl) (by first | exact trivial | exact Or.inr rfl | exact Or.inl rfl | (simp only [ob, obA, R32, R64] at *; omega) | (simp only [ob, obA, R32, R64] at *; and_intros <;> omega)) ?_
                      refine V_callV (M := MX12_readLine) (N := MX12_readNumber) dX12_readLine_128 lRX12_258 kX12_readNumber rfl (rfl) rfl (hN) rfl rfl (Nat.le_of_ble_eq_true rfl) (fit_rm (by omega)) (⟨Nat.le_of_ble_eq_true rfl, Nat.le_of_ble_eq_true rfl⟩) (fun v Ω' hp => ?_) (fun _ _ h => h.elim)
                      obtain ⟨rfl, rfl⟩ := hp.2 hx
                      refine V_ex sX12_readLine_131 (by simp only [Option.toList, List.cons_append, List.nil_append, exN, ex1, gI, gL, gR, pI, pL, pR, lget, lset1, lset2, kl, b2I, b2L, nob, ob32, ob64, xGet, xPut, xLen, xLd, xLdR, xSt, obA, true_and, and_true, and_self, eq_self, Nat.reduceEqDiff, Nat.zero_ne_one, reduceIte, Nat.reduceLeDiff, and_false, false_and, show LF.1 157 = some (.inr (0, 20)) from rfl, e10, upd2_eq, Int.reduceToNat, Int.toNat_natCast]; rfl) (by first | exact trivial | exact Or.inr rfl | exact Or.inl rfl | (simp only [ob, obA, R32, R64] at *; omega) | (simp only [ob, obA, R32, R64] at *; and_intros <;> omega)) ?_
                      refine V_goto dX12_readLine_135 (tgt := 100) (by decide) ?_
                      exact fin 0
            refine V_ex sX12_readLine_0 (by simp only [Option.toList, List.cons_append, List.nil_append, exN, ex1, gI, gL, gR, pI, pL, pR, lget, lset1, lset2, kl, b2I, b2L, nob, ob32, ob64, xGet, xPut, xLen, xLd, xLdR, xSt, obA, true_and, and_true, and_self, eq_self, Nat.reduceEqDiff, Nat.zero_ne_one, reduceIte, Nat.reduceLeDiff, and_false, false_and, show skd 11 0 = 2 from rfl, show LF.1 145 = some (.inl 11) from rfl, show LF.2 145 0 = some 146 from rfl, upd2_eq, Int.reduceToNat, Int.toNat_natCast]; rfl) (by first | exact trivial | exact Or.inr rfl | exact Or.inl rfl | (simp only [ob, obA, R32, R64] at *; omega) | (simp only [ob, obA, R32, R64] at *; and_intros <;> omega)) ?_
            refine V_callV (M := MX12_readLine) (N := MX12_which) dX12_readLine_5 lRX12_264 kX12_which rfl (rfl) rfl (hK) rfl rfl (Nat.le_of_ble_eq_true rfl) (fit_rm (by omega)) (⟨Nat.le_of_ble_eq_true rfl, Nat.le_of_ble_eq_true rfl⟩) (fun v Ω' hp => ?_) (fun _ _ h => h.elim)
            obtain ⟨rfl, rfl⟩ := hp
            refine V_ex sX12_readLine_8 (by rfl) (by first | exact trivial | exact Or.inr rfl | exact Or.inl rfl | (simp only [ob, obA, R32, R64] at *; omega) | (simp only [ob, obA, R32, R64] at *; and_intros <;> omega)) ?_
            refine V_ldcSw (n := 1000034) (ks_R hKS (i := 33) rfl) dX12_readLine_10 ?_
            refine V_callV (M := MX12_readLine) (N := MX12_is) dX12_readLine_13 lRX12_238 kX12_is rfl (rfl) rfl (hLd) rfl rfl (Nat.le_of_ble_eq_true rfl) (fit_rm (by omega)) (⟨Nat.le_of_ble_eq_true rfl, Nat.le_of_ble_eq_true rfl⟩) (fun v Ω' hp => ?_) (fun _ _ h => h.elim)
            obtain ⟨rfl, rfl⟩ := hp
            refine V_ex sX12_readLine_16 (by rfl) (by first | exact trivial | exact Or.inr rfl | exact Or.inl rfl | (simp only [ob, obA, R32, R64] at *; omega) | (simp only [ob, obA, R32, R64] at *; and_intros <;> omega)) ?_
            refine V_ifeqB dX12_readLine_18 (tgt := 30) (by decide) (fun q18 => ?_) (fun q18 => ?_)
            · exact absurd hw6 (of_decide_eq_false q18)
            · refine V_ex sX12_readLine_21 (by rfl) (by first | exact trivial | exact Or.inr rfl | exact Or.inl rfl | (simp only [ob, obA, R32, R64] at *; omega) | (simp only [ob, obA, R32, R64] at *; and_intros <;> omega)) ?_
              refine V_ifeqB dX12_readLine_22 (tgt := 30) (by decide) (fun q22 => ?_) (fun q22 => ?_)
              · refine V_ex sX12_readLine_30 (by rfl) (by first | exact trivial | exact Or.inr rfl | exact Or.inl rfl | (simp only [ob, obA, R32, R64] at *; omega) | (simp only [ob, obA, R32, R64] at *; and_intros <;> omega)) ?_
                refine V_icmpeq dX12_readLine_32 (tgt := 43) (by decide) (by simp only [R32, R64] at *; omega) (fun q32 => ?_) (fun q32 => ?_)
                · refine V_ex sX12_readLine_43 (by rfl) (by first | exact trivial | exact Or.inr rfl | exact Or.inl rfl | (simp only [ob, obA, R32, R64] at *; omega) | (simp only [ob, obA, R32, R64] at *; and_intros <;> omega)) ?_
                  refine V_ldcSw (n := 1000035) (ks_R hKS (i := 34) rfl) dX12_readLine_44 ?_
                  refine V_callV (M := MX12_readLine) (N := MX12_is) dX12_readLine_47 lRX12_238 kX12_is rfl (rfl) rfl (hGo) rfl rfl (Nat.le_of_ble_eq_true rfl) (fit_rm (by omega)) (⟨Nat.le_of_ble_eq_true rfl, Nat.le_of_ble_eq_true rfl⟩) (fun v Ω' hp => ?_) (fun _ _ h => h.elim)
                  obtain ⟨rfl, rfl⟩ := hp
                  refine V_ifeqB dX12_readLine_50 (tgt := 60) (by decide) (fun q50 => ?_) (fun q50 => ?_)
                  · refine V_ex sX12_readLine_60 (by rfl) (by first | exact trivial | exact Or.inr rfl | exact Or.inl rfl | (simp only [ob, obA, R32, R64] at *; omega) | (simp only [ob, obA, R32, R64] at *; and_intros <;> omega)) ?_
                    refine V_ldcSw (n := 1000036) (ks_R hKS (i := 35) rfl) dX12_readLine_61 ?_
                    refine V_callV (M := MX12_readLine) (N := MX12_is) dX12_readLine_64 lRX12_238 kX12_is rfl (rfl) rfl (hCp) rfl rfl (Nat.le_of_ble_eq_true rfl) (fit_rm (by omega)) (⟨Nat.le_of_ble_eq_true rfl, Nat.le_of_ble_eq_true rfl⟩) (fun v Ω' hp => ?_) (fun _ _ h => h.elim)
                    obtain ⟨rfl, rfl⟩ := hp
                    refine V_ifeqB dX12_readLine_67 (tgt := 77) (by decide) (fun q67 => ?_) (fun q67 => ?_)
                    · refine V_ex sX12_readLine_77 (by rfl) (by first | exact trivial | exact Or.inr rfl | exact Or.inl rfl | (simp only [ob, obA, R32, R64] at *; omega) | (simp only [ob, obA, R32, R64] at *; and_intros <;> omega)) ?_
                      refine V_ifneB dX12_readLine_78 (tgt := 86) (by decide) (fun q78 => ?_) (fun q78 => ?_)
                      · refine V_ex sX12_readLine_86 (by simp only [Option.toList, List.cons_append, List.nil_append, exN, ex1, gI, gL, gR, pI, pL, pR, lget, lset1, lset2, kl, b2I, b2L, nob, ob32, ob64, xGet, xPut, xLen, xLd, xLdR, xSt, obA, true_and, and_true, and_self, eq_self, Nat.reduceEqDiff, Nat.zero_ne_one, reduceIte, Nat.reduceLeDiff, and_false, false_and, show skd 11 26 = 0 from rfl, show LF.1 145 = some (.inl 11) from rfl, upd2_eq, Int.reduceToNat, Int.toNat_natCast]; rfl) (by first | exact trivial | exact Or.inr rfl | exact Or.inl rfl | (simp only [ob, obA, R32, R64] at *; omega) | (simp only [ob, obA, R32, R64] at *; and_intros <;> omega)) ?_
                        refine V_ifne dX12_readLine_90 (tgt := 97) (by decide) (by rw [h26]; unfold R32; decide) (fun q90 => ?_) (fun q90 => ?_)
                        · exact absurd h26 q90
                        · refine V_ex sX12_readLine_93 (by rfl) (by first | exact trivial | exact Or.inr rfl | exact Or.inl rfl | (simp only [ob, obA, R32, R64] at *; omega) | (simp only [ob, obA, R32, R64] at *; and_intros <;> omega)) ?_
                          refine V_callV (M := MX12_readLine) (N := MX12_stepOn) dX12_readLine_94 lRX12_249 kX12_stepOn rfl (rfl) rfl (c_iNext hκ (d := 2) hI hwm1 (by omega)) rfl rfl (Nat.le_of_ble_eq_true rfl) (fit_rm (by omega)) (⟨Nat.le_of_ble_eq_true rfl, Nat.le_of_ble_eq_true rfl⟩) (fun v Ω' hp => ?_) (fun _ _ h => h.elim)
                          obtain ⟨rfl, G2, rfl, f2, i2⟩ := hp
                          refine V_ex sX12_readLine_97 (by rfl) (by first | exact trivial | exact Or.inr rfl | exact Or.inl rfl | (simp only [ob, obA, R32, R64] at *; omega) | (simp only [ob, obA, R32, R64] at *; and_intros <;> omega)) ?_
                          exact L 10 (i + 1) [] G2 rfl (FU.m f2) i2 (fun y hy => absurd hy (by simp)) (fun x y p q r => f2.2 _ _ (by omega)) (f2.2 _ _ (by omega)) rfl
                      · exact absurd hw6 (of_decide_eq_false q78)
                    · exact absurd (of_decide_eq_true q67) hw5
                  · exact absurd (of_decide_eq_true q50) hw4
                · exact absurd rfl q32
              · rw [hl0] at q22; exact absurd q22 (by decide)
        · have hr1 : r = (i, 1, S) := by rw [← hr]; unfold pLine; rw [if_neg hw4, if_neg hw5, if_neg hw6, if_neg (by omega)]
          refine V_ex sX12_readLine_0 (by simp only [Option.toList, List.cons_append, List.nil_append, exN, ex1, gI, gL, gR, pI, pL, pR, lget, lset1, lset2, kl, b2I, b2L, nob, ob32, ob64, xGet, xPut, xLen, xLd, xLdR, xSt, obA, true_and, and_true, and_self, eq_self, Nat.reduceEqDiff, Nat.zero_ne_one, reduceIte, Nat.reduceLeDiff, and_false, false_and, show skd 11 0 = 2 from rfl, show LF.1 145 = some (.inl 11) from rfl, show LF.2 145 0 = some 146 from rfl, upd2_eq, Int.reduceToNat, Int.toNat_natCast]; rfl) (by first | exact trivial | exact Or.inr rfl | exact Or.inl rfl | (simp only [ob, obA, R32, R64] at *; omega) | (simp only [ob, obA, R32, R64] at *; and_intros <;> omega)) ?_
          refine V_callV (M := MX12_readLine) (N := MX12_which) dX12_readLine_5 lRX12_264 kX12_which rfl (rfl) rfl (hK) rfl rfl (Nat.le_of_ble_eq_true rfl) (fit_rm (by omega)) (⟨Nat.le_of_ble_eq_true rfl, Nat.le_of_ble_eq_true rfl⟩) (fun v Ω' hp => ?_) (fun _ _ h => h.elim)
          obtain ⟨rfl, rfl⟩ := hp
          refine V_ex sX12_readLine_8 (by rfl) (by first | exact trivial | exact Or.inr rfl | exact Or.inl rfl | (simp only [ob, obA, R32, R64] at *; omega) | (simp only [ob, obA, R32, R64] at *; and_intros <;> omega)) ?_
          refine V_ldcSw (n := 1000034) (ks_R hKS (i := 33) rfl) dX12_readLine_10 ?_
          refine V_callV (M := MX12_readLine) (N := MX12_is) dX12_readLine_13 lRX12_238 kX12_is rfl (rfl) rfl (hLd) rfl rfl (Nat.le_of_ble_eq_true rfl) (fit_rm (by omega)) (⟨Nat.le_of_ble_eq_true rfl, Nat.le_of_ble_eq_true rfl⟩) (fun v Ω' hp => ?_) (fun _ _ h => h.elim)
          obtain ⟨rfl, rfl⟩ := hp
          refine V_ex sX12_readLine_16 (by rfl) (by first | exact trivial | exact Or.inr rfl | exact Or.inl rfl | (simp only [ob, obA, R32, R64] at *; omega) | (simp only [ob, obA, R32, R64] at *; and_intros <;> omega)) ?_
          refine V_ifeqB dX12_readLine_18 (tgt := 30) (by decide) (fun q18 => ?_) (fun q18 => ?_)
          · refine V_ex sX12_readLine_30 (by rfl) (by first | exact trivial | exact Or.inr rfl | exact Or.inl rfl | (simp only [ob, obA, R32, R64] at *; omega) | (simp only [ob, obA, R32, R64] at *; and_intros <;> omega)) ?_
            refine V_icmpeq dX12_readLine_32 (tgt := 43) (by decide) (by simp only [R32, R64] at *; omega) (fun q32 => ?_) (fun q32 => ?_)
            · refine V_ex sX12_readLine_43 (by rfl) (by first | exact trivial | exact Or.inr rfl | exact Or.inl rfl | (simp only [ob, obA, R32, R64] at *; omega) | (simp only [ob, obA, R32, R64] at *; and_intros <;> omega)) ?_
              refine V_ldcSw (n := 1000035) (ks_R hKS (i := 34) rfl) dX12_readLine_44 ?_
              refine V_callV (M := MX12_readLine) (N := MX12_is) dX12_readLine_47 lRX12_238 kX12_is rfl (rfl) rfl (hGo) rfl rfl (Nat.le_of_ble_eq_true rfl) (fit_rm (by omega)) (⟨Nat.le_of_ble_eq_true rfl, Nat.le_of_ble_eq_true rfl⟩) (fun v Ω' hp => ?_) (fun _ _ h => h.elim)
              obtain ⟨rfl, rfl⟩ := hp
              refine V_ifeqB dX12_readLine_50 (tgt := 60) (by decide) (fun q50 => ?_) (fun q50 => ?_)
              · refine V_ex sX12_readLine_60 (by rfl) (by first | exact trivial | exact Or.inr rfl | exact Or.inl rfl | (simp only [ob, obA, R32, R64] at *; omega) | (simp only [ob, obA, R32, R64] at *; and_intros <;> omega)) ?_
                refine V_ldcSw (n := 1000036) (ks_R hKS (i := 35) rfl) dX12_readLine_61 ?_
                refine V_callV (M := MX12_readLine) (N := MX12_is) dX12_readLine_64 lRX12_238 kX12_is rfl (rfl) rfl (hCp) rfl rfl (Nat.le_of_ble_eq_true rfl) (fit_rm (by omega)) (⟨Nat.le_of_ble_eq_true rfl, Nat.le_of_ble_eq_true rfl⟩) (fun v Ω' hp => ?_) (fun _ _ h => h.elim)
                obtain ⟨rfl, rfl⟩ := hp
                refine V_ifeqB dX12_readLine_67 (tgt := 77) (by decide) (fun q67 => ?_) (fun q67 => ?_)
                · refine V_ex sX12_readLine_77 (by rfl) (by first | exact trivial | exact Or.inr rfl | exact Or.inl rfl | (simp only [ob, obA, R32, R64] at *; omega) | (simp only [ob, obA, R32, R64] at *; and_intros <;> omega)) ?_
                  refine V_ifneB dX12_readLine_78 (tgt := 86) (by decide) (fun q78 => ?_) (fun q78 => ?_)
                  · exact absurd (of_decide_eq_true q78) hw6
                  · refine V_ex sX12_readLine_81 (by rfl) (by first | exact trivial | exact Or.inr rfl | exact Or.inl rfl | (simp only [ob, obA, R32, R64] at *; omega) | (simp only [ob, obA, R32, R64] at *; and_intros <;> omega)) ?_
                    refine V_callV (M := MX12_readLine) (N := MX12_cant) dX12_readLine_83 lRX12_245 kX12_cant rfl (rfl) rfl (c_iCant (d := 0) hκ hI) rfl rfl (Nat.le_of_ble_eq_true rfl) (fit_rm (by omega)) (⟨Nat.le_of_ble_eq_true rfl, Nat.le_of_ble_eq_true rfl⟩) (fun v Ω' hp => ?_) (fun _ _ h => h.elim)
                    obtain ⟨rfl, rfl⟩ := hp
                    exact N _ 1 rfl hr1 (by decide) (by unfold R32; decide)
                · exact absurd (of_decide_eq_true q67) hw5
              · exact absurd (of_decide_eq_true q50) hw4
            · exact absurd rfl q32
          · exact absurd (of_decide_eq_true q18) hw6
