/-! THE MODEL's reader: signs laid; a part of a rule -/
/-- the model's sign for a sign of the class -/
def sm (z : Int) : Int := if -4 ≤ z then z else if z = -5 then -28 else if z = -6 then -26 else if z = -7 then -27 else if z = -8 then -24 else if z = -9 then -25 else z - 10
def mCd (G : Wd) (c : List Int) : Prop := G.1 145 23 = (c.length : Nat) ∧ ∀ j (h : j < c.length), G.1 160 (500 + j) = sm (c[j]'h)
/-- the same but the reader's own cells and the signs being laid -/
def FX (G G' : Wd) : Prop := G'.2 = G.2 ∧ ∀ x j, ¬ (x = 145 ∧ (j = 19 ∨ j = 21 ∨ j = 22 ∨ j = 23 ∨ j = 24 ∨ j = 25 ∨ j = 26 ∨ j = 27)) → ¬ (x = 160 ∧ 500 ≤ j) → G'.1 x j = G.1 x j
theorem FX.refl (G : Wd) : FX G G := ⟨rfl, fun _ _ _ _ => rfl⟩
theorem FX.trans {G G' G'' : Wd} (h : FX G G') (h' : FX G' G'') : FX G G'' := ⟨h'.1.trans h.1, fun x j a b => (h'.2 x j a b).trans (h.2 x j a b)⟩
theorem FX.m {G G' : Wd} (h : Fm G G') : FX G G' := ⟨h.1, fun x j a _ => h.2 x j (by omega)⟩
theorem FX.ct {f : Nat → Int} {n i : Nat} {k : Int} (G : Wd) : FX G (ctW f n i k G) := ⟨rfl, fun x j a b => by unfold ctW; rw [iv (by omega), iv (by omega)]⟩
def lyW (G : Wd) (m : Nat) (z : Int) : Wd := uI (uI G 160 (500 + m) z) 145 23 ((m : Int) + 1)
theorem FX.ly (G : Wd) (m : Nat) (z : Int) : FX G (lyW G m z) := ⟨rfl, fun x j a b => by unfold lyW; rw [iv (by omega), iv (by omega)]⟩
theorem ly_cd {G : Wd} {c : List Int} {z : Int} (h : mCd G c) : mCd (lyW G c.length (sm z)) (c ++ [z]) := by
  refine ⟨by unfold lyW; rw [iu]; simp, fun j hj => ?_⟩
  unfold lyW
  rw [iv (by omega)]
  by_cases e : j < c.length
  · rw [iv (by omega), List.getElem_append_left e]; exact h.2 j e
  · obtain rfl : j = c.length := by simp at hj; omega
    rw [iu]; simp
theorem ly_I {f : Nat → Int} {n i m : Nat} {z : Int} {G : Wd} (h : mI f n G i) : mI f n (lyW G m z) i := Fm.I (fun x j a b => by unfold lyW; rw [iv (by omega), iv (by omega)]) h
theorem cd_m {G G' : Wd} (h : Fm G G') {c : List Int} (hc : mCd G c) : mCd G' c := ⟨by rw [h.2 _ _ (by omega)]; exact hc.1, fun j hj => by rw [h.2 _ _ (by omega)]; exact hc.2 j hj⟩
def mH (f : Nat → Int) (n : Nat) (G : Wd) (i : Nat) (c : List Int) : Prop := mI f n G i ∧ mCd G c ∧ c.length ≤ i
def mR (f : Nat → Int) (n : Nat) (G : Wd) (r : PE) : Prop := (r.2.1 = 0 → mI f n G r.1 ∧ mCd G r.2.2) ∧ (r.2.1 ≠ 0 → G.1 145 26 = r.2.1 ∧ G.1 145 27 = (tkB (tk f n 0) r.1 : Nat))
def mQ (f : Nat → Int) (n : Nat) (r : PE) (G : Wd) : Option Vl → Om → Prop := fun u Ω' => u = none ∧ ∃ G', Ω' = Wm G' ∧ FX G G' ∧ mR f n G' r
def mEC (κ : Kx) (M : Ms) (d : Nat) (lv : Int) (f : Nat → Int) (n : Nat) (p : PE → PE) : Prop := (∀ (G : Wd) (i : Nat) (c : List Int), mH f n G i c → Ct κ M d 0 0 [VR 145, VI lv] (Wm G) (mQ f n (p (i, 0, c)) G) noX) ∧ ∀ G : Wd, G.1 145 26 ≠ 0 → R32 (G.1 145 26) → Ct κ M d 0 0 [VR 145, VI lv] (Wm G) (voidG G) noX
theorem mR_ct {f : Nat → Int} {n i : Nat} {k : Int} {c : List Int} (G : Wd) (hk : k ≠ 0) : mR f n (ctW f n i k G) (i, k, c) := ⟨fun q => absurd q hk, fun _ => ⟨by unfold ctW; rw [iv (by omega), iu], by unfold ctW; rw [iu]⟩⟩
theorem ct_26 {f : Nat → Int} {n i : Nat} {k : Int} {G : Wd} : (ctW f n i k G).1 145 26 = k := by unfold ctW; rw [iv (by omega), iu]
theorem mI_26 {f : Nat → Int} {n i : Nat} {G : Wd} (h : mI f n G i) : G.1 145 26 = 0 ∧ G.1 145 21 = kd (tkW (tk f n 0) i) := by
  obtain ⟨hf, t, l, h1, h2, h3⟩ := h
  exact ⟨h2.2.2.2, by rw [h2.2.2.1.2.2.2.1, (mI_at h1).1]⟩
theorem mI_lt {f : Nat → Int} {n i : Nat} {G : Wd} (h : mI f n G i) : i ≤ (tk f n 0).length - 1 ∧ (tk f n 0).length - 1 ≤ 500 ∧ -2 ≤ tkW (tk f n 0) i ∧ tkW (tk f n 0) i ≤ 274 ∧ 0 ≤ tkV (tk f n 0) i ∧ tkV (tk f n 0) i ≤ 10000 := by
  obtain ⟨hf, t, l, h1, h2, h3⟩ := h
  have e := mI_at h1
  have hl := tk_len f n n 0 (by omega)
  have hn := h2.1.2.1
  have hF := tkF_is (fun j hj => h2.1.2.2 j (by omega)) h2.2.1
  rw [e.1, e.2.1]
  exact ⟨e.2.2.2, by omega, hF.2.2.1, hF.2.2.2.1, hF.2.2.2.2.2.2.2.1⟩
set_option maxRecDepth 100000 in
set_option maxHeartbeats 4000000 in
theorem c_iLay {κ : Kx} (hκ : KOK κ) {d i : Nat} {z : Int} {f : Nat → Int} {n : Nat} {G : Wd} {c : List Int} (h : mI f n G i) (hc : mCd G c) (hl : c.length < 500) : Ct κ MX12_lay d 0 0 [VR 145, VI z] (Wm G) (voidG (lyW G c.length z)) noX := c_mLay hκ (mI_26 h).1 hc.1 hl
theorem mV_values : LF.2 145 1 = some 147 ∧ LF.1 147 = some (.inr (5, 4)) ∧ ∀ i, i < 4 → LF.2 147 i = some (1000026 + i) := by decide +kernel
set_option maxRecDepth 100000 in
set_option maxHeartbeats 4000000 in
theorem c_iValues {κ : Kx} (hκ : KOK κ) (hKS : KS κ) {d n i : Nat} {f : Nat → Int} {G : Wd} (h : mI f n G i) (hd : 5 ≤ d) : Ct κ MX12_which d 0 0 [VR 145, VR 147] (Wm G) (keepG G (VI (if 267 ≤ tkW (tk f n 0) i ∧ tkW (tk f n 0) i < 271 then tkW (tk f n 0) i - 267 else -1))) noX := by
  obtain ⟨hf, t, l, h1, h2, h3⟩ := h
  rw [(mI_at h1).1]
  have := c_mWhich (d := d) (w0 := 11) hκ hKS mV_values.2.1 (by omega) (fun i hi => ⟨mV_values.2.2 i hi, by
    have e : mWd.getD (7 + i) 0 = 11 + i := by rcases (show i = 0 ∨ i = 1 ∨ i = 2 ∨ i = 3 by omega) with rfl | rfl | rfl | rfl <;> rfl
    have := ks_M hKS (j := 7 + i) (by omega)
    rw [e, show 1000019 + (7 + i) = 1000026 + i by omega] at this
    exact this⟩) h2 hd
  refine this.mono (fun v Ω' hp => ?_) (fun _ _ h => h)
  refine ⟨hp.1.trans ?_, hp.2⟩
  congr 2
  by_cases c : 267 ≤ t.1 ∧ t.1 < 271
  · rw [if_pos c, if_pos (by omega)]; omega
  · rw [if_neg c, if_neg (by omega)]
