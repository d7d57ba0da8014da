/-! THE MODEL's reader stands at the i-th token -/
def mI (f : Nat → Int) (n : Nat) (G : Wd) (i : Nat) : Prop := G.1 162 = f ∧ ∃ t l, (tk f n 0).drop i = t :: l ∧ mG G n t ∧ (t.1 ≠ -1 → l = tk f n t.2.2.2)
/-- the i-th token's place -/
def tkB (L : List Tk) (i : Nat) : Nat := (L.getD i (-1, 0, 0, 0)).2.2.1
theorem drop_get {α : Type} {L : List α} {i : Nat} {t : α} {l : List α} (h : L.drop i = t :: l) : i < L.length ∧ L[i]? = some t ∧ L.drop (i + 1) = l := by
  have hl : i < L.length := by
    rcases Nat.lt_or_ge i L.length with q | q
    · exact q
    · rw [List.drop_of_length_le q] at h; cases h
  rw [List.drop_eq_getElem_cons hl] at h
  injection h with h1 h2
  exact ⟨hl, by rw [List.getElem?_eq_getElem hl, h1], h2⟩
theorem mI_at {f : Nat → Int} {n i : Nat} {t : Tk} {l : List Tk} (h : (tk f n 0).drop i = t :: l) : tkW (tk f n 0) i = t.1 ∧ tkV (tk f n 0) i = t.2.1 ∧ tkB (tk f n 0) i = t.2.2.1 ∧ i ≤ (tk f n 0).length - 1 := by
  obtain ⟨h1, h2, -⟩ := drop_get h
  unfold tkW tkV tkB
  rw [List.getD_eq_getElem?_getD, h2]
  exact ⟨rfl, rfl, rfl, by omega⟩
/-- step on -/
def siP (f : Nat → Int) (n i : Nat) (G : Wd) : Option Vl → Om → Prop := fun u Ω' => u = none ∧ ∃ G', Ω' = Wm G' ∧ Fm G G' ∧ mI f n G' i
theorem stP_si {f : Nat → Int} {n i : Nat} {G : Wd} {t : Tk} {l : List Tk} (hf : G.1 162 = f) (hd : (tk f n 0).drop i = t :: l) (hl : l = tk f n t.2.2.2) {u : Option Vl} {Ω' : Om} (h : stP n t G u Ω') : siP f n (i + 1) G u Ω' := by
  obtain ⟨rfl, G', t', l', rfl, f1, h1, h2, h3⟩ := h
  rw [hf] at h1 h3
  exact ⟨rfl, G', rfl, f1, f1.tape.trans hf, t', l', by rw [(drop_get hd).2.2, hl, h1], h2, h3⟩
set_option maxRecDepth 100000 in
set_option maxHeartbeats 4000000 in
theorem c_iNext {κ : Kx} (hκ : KOK κ) {d n i : Nat} {f : Nat → Int} {G : Wd} (h : mI f n G i) (hw : tkW (tk f n 0) i ≠ -1) (hd : 1 ≤ d) : Ct κ MX12_stepOn d 0 0 [VR 145] (Wm G) (siP f n (i + 1) G) noX := by
  obtain ⟨hf, t, l, h1, h2, h3⟩ := h
  have e := mI_at h1
  exact (c_mNext hκ h2 hd).mono (fun v Ω' hp => stP_si hf h1 (h3 (by rw [← e.1]; exact hw)) hp) (fun _ _ h => h)
set_option maxRecDepth 100000 in
set_option maxHeartbeats 4000000 in
theorem c_iIs {κ : Kx} (hκ : KOK κ) (hKS : KS κ) {d n i q k : Nat} {f : Nat → Int} {G : Wd} (h : mI f n G i) (hs : SF κ q (wordT.getD k [])) (hk : k < 18) (hd : 4 ≤ d) : Ct κ MX12_is d 0 0 [VR 145, VR q] (Wm G) (keepG G (VI (b2i (decide (tkW (tk f n 0) i = 256 + (k : Int)))))) noX := by
  obtain ⟨hf, t, l, h1, h2, h3⟩ := h
  rw [(mI_at h1).1]
  exact c_mIs hκ hKS hs hk h2 hd
set_option maxRecDepth 100000 in
set_option maxHeartbeats 4000000 in
theorem c_iMarked {κ : Kx} (hκ : KOK κ) {d n i : Nat} {c : Int} {f : Nat → Int} {G : Wd} (h : mI f n G i) (hc : isMk c = true) (hcR : 0 ≤ c ∧ c ≤ 127) : Ct κ MX12_isMarked d 0 0 [VR 145, VI c] (Wm G) (keepG G (VI (b2i (decide (tkW (tk f n 0) i = c))))) noX := by
  obtain ⟨hf, t, l, h1, h2, h3⟩ := h
  rw [(mI_at h1).1]
  exact c_mIsMarked hκ h2 hc hcR
/-- a fault k at the token i -/
def ctW (f : Nat → Int) (n i : Nat) (k : Int) (G : Wd) : Wd := uI (uI G 145 26 k) 145 27 (tkB (tk f n 0) i : Nat)
theorem cantW_i {f : Nat → Int} {n i : Nat} {k : Int} {G : Wd} (h : mI f n G i) : cantW G k = ctW f n i k G := by
  obtain ⟨hf, t, l, h1, h2, h3⟩ := h
  rw [cantW_0 h2.2.2.2, h2.2.2.1.1, ctW, (mI_at h1).2.2.1]
set_option maxRecDepth 100000 in
set_option maxHeartbeats 4000000 in
theorem c_iCant {κ : Kx} (hκ : KOK κ) {d n i : Nat} {k : Int} {f : Nat → Int} {G : Wd} (h : mI f n G i) : Ct κ MX12_cant d 0 0 [VR 145, VI k] (Wm G) (voidG (ctW f n i k G)) noX := by
  rw [← cantW_i h]
  obtain ⟨hf, t, l, h1, h2, h3⟩ := h
  exact c_mCant hκ (by rw [h2.2.2.2]; unfold R32; omega)
set_option maxRecDepth 100000 in
set_option maxHeartbeats 4000000 in
theorem c_iMark {κ : Kx} (hκ : KOK κ) {d n i : Nat} {c : Int} {f : Nat → Int} {G : Wd} (h : mI f n G i) (hc : isMk c = true) (hcR : 0 ≤ c ∧ c ≤ 127) (hd : 2 ≤ d) : Ct κ MX12_mark d 0 0 [VR 145, VI c] (Wm G) (fun u Ω' => (tkW (tk f n 0) i = c → siP f n (i + 1) G u Ω') ∧ (tkW (tk f n 0) i ≠ c → u = none ∧ Ω' = Wm (ctW f n i 1 G))) noX := by
  have hcw := cantW_i (k := 1) h
  obtain ⟨hf, t, l, h1, h2, h3⟩ := h
  have e := mI_at h1
  refine (c_mMark hκ h2 hc hcR hd).mono (fun v Ω' hp => ?_) (fun _ _ h => h)
  rw [e.1, ← hcw]
  exact ⟨fun q => stP_si hf h1 (h3 (by omega)) (hp.1 q), hp.2⟩
theorem pN_i {f : Nat → Int} {n i : Nat} {lo hh : Int} {t : Tk} {l : List Tk} (h : (tk f n 0).drop i = t :: l) : pN t lo hh = pNum (tkW (tk f n 0)) (tkV (tk f n 0)) lo hh i := by
  have e := mI_at h
  unfold pN pNum
  rw [e.1, e.2.1]
set_option maxRecDepth 100000 in
set_option maxHeartbeats 4000000 in
theorem c_iNumNow {κ : Kx} (hκ : KOK κ) {d n i : Nat} {lo hh : Int} {f : Nat → Int} {G : Wd} (h : mI f n G i) (hlo : 0 ≤ lo ∧ lo ≤ 9999) (hhi : 0 ≤ hh ∧ hh ≤ 9999) (hd : 1 ≤ d) : Ct κ MX12_numberNow d 0 0 [VR 145, VI lo, VI hh] (Wm G) (fun u Ω' => u = some (VI (if pNum (tkW (tk f n 0)) (tkV (tk f n 0)) lo hh i = 0 then tkV (tk f n 0) i else 0)) ∧ Ω' = Wm (if pNum (tkW (tk f n 0)) (tkV (tk f n 0)) lo hh i = 0 then G else ctW f n i (pNum (tkW (tk f n 0)) (tkV (tk f n 0)) lo hh i) G)) noX := by
  have hcw := fun k => cantW_i (k := k) h
  obtain ⟨hf, t, l, h1, h2, h3⟩ := h
  rw [← pN_i h1, (mI_at h1).2.1, ← hcw]
  exact c_mNumNow hκ h2 hlo hhi hd
set_option maxRecDepth 100000 in
set_option maxHeartbeats 4000000 in
theorem c_iReadNum {κ : Kx} (hκ : KOK κ) {d n i : Nat} {lo hh : Int} {f : Nat → Int} {G : Wd} (h : mI f n G i) (hlo : 0 ≤ lo ∧ lo ≤ 9999) (hhi : 0 ≤ hh ∧ hh ≤ 9999) (hd : 2 ≤ d) : Ct κ MX12_readNumber d 0 0 [VR 145, VI lo, VI hh] (Wm G) (fun u Ω' => (pNum (tkW (tk f n 0)) (tkV (tk f n 0)) lo hh i = 0 → u = some (VI (tkV (tk f n 0) i)) ∧ siP f n (i + 1) G none Ω') ∧ (pNum (tkW (tk f n 0)) (tkV (tk f n 0)) lo hh i ≠ 0 → u = some (VI 0) ∧ Ω' = Wm (ctW f n i (pNum (tkW (tk f n 0)) (tkV (tk f n 0)) lo hh i) G))) noX := by
  have hcw := fun k => cantW_i (k := k) h
  obtain ⟨hf, t, l, h1, h2, h3⟩ := h
  refine (c_mReadNum hκ h2 hlo hhi hd).mono (fun v Ω' hp => ?_) (fun _ _ h => h)
  rw [← pN_i h1, (mI_at h1).2.1, ← hcw]
  refine ⟨fun q => ⟨(hp.1 q).1, stP_si hf h1 (h3 ?_) (hp.1 q).2⟩, hp.2⟩
  intro e
  rw [pN, if_pos (by omega)] at q
  exact absurd q (by decide)
theorem Fm.I {G G' : Wd} (h : ∀ x j, ¬ (x = 145 ∧ (j = 23)) → ¬ (x = 160 ∧ 500 ≤ j) → G'.1 x j = G.1 x j) {f : Nat → Int} {n i : Nat} (hI : mI f n G i) : mI f n G' i := by
  obtain ⟨hf, t, l, h1, ⟨⟨x1, x2, x3⟩, h5, ⟨a1, a2, a3, a4, a5⟩, h7⟩, h3⟩ := hI
  have e : G'.1 162 = G.1 162 := by funext j; exact h 162 j (by omega) (by omega)
  exact ⟨e.trans hf, t, l, h1, ⟨⟨by rw [h _ _ (by omega) (by omega)]; exact x1, x2, fun j hj => by rw [e]; exact x3 j hj⟩, by rw [e]; exact h5, ⟨by rw [h _ _ (by omega) (by omega)]; exact a1, by rw [h _ _ (by omega) (by omega)]; exact a2, by rw [h _ _ (by omega) (by omega)]; exact a3, by rw [h _ _ (by omega) (by omega)]; exact a4, fun p q => by rw [h _ _ (by omega) (by omega)]; exact a5 p q⟩, by rw [h _ _ (by omega) (by omega)]; exact h7⟩, h3⟩
