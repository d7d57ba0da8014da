/-! TornLeavesModel: numbers -/
theorem bz0 {p : Prop} [Decidable p] (h : ¬ p) : (some (VI 0) : Option Vl) = some (VI (b2i (decide p))) := by rw [decide_eq_false h]; rfl
theorem bz1 {p : Prop} [Decidable p] (h : p) : (some (VI 1) : Option Vl) = some (VI (b2i (decide p))) := by rw [decide_eq_true h]; rfl
theorem viE {a b : Int} (h : a = b) : (some (VI a) : Option Vl) = some (VI b) := by rw [h]
theorem vlE {a b : Int} (h : a = b) : (some (VL a) : Option Vl) = some (VL b) := by rw [h]
theorem vrE {a b : Nat} (h : a = b) : (some (VR a) : Option Vl) = some (VR b) := by rw [h]
set_option maxRecDepth 100000 in
set_option maxHeartbeats 4000000 in
theorem c_misIn {κ : Kx} (hκ : KOK κ) {d : Nat} {v a b : Int} {G : Wd} (hv : R64 v) (ha : R64 a) (hb : R64 b) : Ct κ MX12_isIn d 0 0 [VL v, VL a, VL b] (Wm G) (keepG G (VI (b2i (decide (a ≤ v ∧ v ≤ b))))) noX := by
  refine Ct_of hκ kX12_isIn.1 rfl (Nat.le_of_ble_eq_true rfl) (ls := [some (VL v), none, some (VL a), none, some (VL b), none]) rfl (fun μ => ?_)
  refine V_ex sX12_isIn_0 (by rfl) (by first | exact trivial | exact Or.inr rfl | exact Or.inl rfl | (simp only [ob, obA, R32, R64] at *; omega) | (simp only [ob, obA, R32, R64] at *; and_intros <;> omega)) ?_
  refine V_liflt dX12_isIn_3 (tgt := 17) (by decide) (fun q3 => ?_) (fun q3 => ?_)
  · refine V_ex sX12_isIn_17 (by rfl) (by first | exact trivial | exact Or.inr rfl | exact Or.inl rfl | (simp only [ob, obA, R32, R64] at *; omega) | (simp only [ob, obA, R32, R64] at *; and_intros <;> omega)) ?_
    refine V_zret dX12_isIn_18 rfl (by first | exact Or.inl rfl | exact Or.inr rfl | exact b2i_01 _) (by decide) ⟨by first | exact bz0 (by omega) | exact bz1 (by omega), rfl⟩
  · refine V_ex sX12_isIn_6 (by rfl) (by first | exact trivial | exact Or.inr rfl | exact Or.inl rfl | (simp only [ob, obA, R32, R64] at *; omega) | (simp only [ob, obA, R32, R64] at *; and_intros <;> omega)) ?_
    refine V_lifgt dX12_isIn_10 (tgt := 17) (by decide) (fun q10 => ?_) (fun q10 => ?_)
    · refine V_ex sX12_isIn_17 (by rfl) (by first | exact trivial | exact Or.inr rfl | exact Or.inl rfl | (simp only [ob, obA, R32, R64] at *; omega) | (simp only [ob, obA, R32, R64] at *; and_intros <;> omega)) ?_
      refine V_zret dX12_isIn_18 rfl (by first | exact Or.inl rfl | exact Or.inr rfl | exact b2i_01 _) (by decide) ⟨by first | exact bz0 (by omega) | exact bz1 (by omega), rfl⟩
    · refine V_ex sX12_isIn_13 (by rfl) (by first | exact trivial | exact Or.inr rfl | exact Or.inl rfl | (simp only [ob, obA, R32, R64] at *; omega) | (simp only [ob, obA, R32, R64] at *; and_intros <;> omega)) ?_
      refine V_goto dX12_isIn_14 (tgt := 18) (by decide) ?_
      refine V_zret dX12_isIn_18 rfl (by first | exact Or.inl rfl | exact Or.inr rfl | exact b2i_01 _) (by decide) ⟨by first | exact bz0 (by omega) | exact bz1 (by omega), rfl⟩
set_option maxRecDepth 100000 in
set_option maxHeartbeats 4000000 in
theorem c_misSum {κ : Kx} (hκ : KOK κ) {d : Nat} {s : Int} {G : Wd} (hs : R64 s) (hd : 1 ≤ d) : Ct κ MX12_isSum d 0 0 [VL s] (Wm G) (keepG G (VI (b2i (decide (1 ≤ s ∧ s ≤ 1000000000000000000))))) noX := by
  refine Ct_of hκ kX12_isSum.1 rfl (Nat.le_of_ble_eq_true rfl) (ls := [some (VL s), none]) rfl (fun μ => ?_)
  refine V_ex sX12_isSum_0 (by rfl) (by first | exact trivial | exact Or.inr rfl | exact Or.inl rfl | (simp only [ob, obA, R32, R64] at *; omega) | (simp only [ob, obA, R32, R64] at *; and_intros <;> omega)) ?_
  refine V_callS (M := MX12_isSum) (N := MX12_isIn) dX12_isSum_5 lRX12_178 kX12_isIn rfl (c_misIn (d := 0) hκ hs (by unfold R64; omega) (by unfold R64; omega)) rfl rfl (Nat.le_of_ble_eq_true rfl) (fit_rm (by omega)) (⟨Nat.le_of_ble_eq_true rfl, Nat.le_of_ble_eq_true rfl⟩) (fun v Ω' hp => ?_) (fun _ _ h => h.elim)
  obtain ⟨rfl, rfl⟩ := hp
  refine V_zret dX12_isSum_8 rfl (by first | exact Or.inl rfl | exact Or.inr rfl | exact b2i_01 _) (by decide) ⟨rfl, rfl⟩
set_option maxRecDepth 100000 in
set_option maxHeartbeats 4000000 in
theorem c_misFrom {κ : Kx} (hκ : KOK κ) {d : Nat} {s : Int} {G : Wd} (hs : R32 s) (hd : 1 ≤ d) : Ct κ MX12_isFrom d 0 0 [VI s] (Wm G) (keepG G (VI (b2i (decide (0 ≤ s ∧ s ≤ 99999999))))) noX := by
  refine Ct_of hκ kX12_isFrom.1 rfl (Nat.le_of_ble_eq_true rfl) (ls := [some (VI s)]) rfl (fun μ => ?_)
  refine V_ex sX12_isFrom_0 (by rfl) (by first | exact trivial | exact Or.inr rfl | exact Or.inl rfl | (simp only [ob, obA, R32, R64] at *; omega) | (simp only [ob, obA, R32, R64] at *; and_intros <;> omega)) ?_
  refine V_callS (M := MX12_isFrom) (N := MX12_isIn) dX12_isFrom_6 lRX12_178 kX12_isIn rfl (c_misIn (d := 0) hκ (by unfold R64; unfold R32 at hs; omega) (by unfold R64; omega) (by unfold R64; omega)) rfl rfl (Nat.le_of_ble_eq_true rfl) (fit_rm (by omega)) (⟨Nat.le_of_ble_eq_true rfl, Nat.le_of_ble_eq_true rfl⟩) (fun v Ω' hp => ?_) (fun _ _ h => h.elim)
  obtain ⟨rfl, rfl⟩ := hp
  refine V_zret dX12_isFrom_9 rfl (by first | exact Or.inl rfl | exact Or.inr rfl | exact b2i_01 _) (by decide) ⟨rfl, rfl⟩
theorem upTo_even {n : Int} (h : n % 2 = 0) : n / 2 * (n + 1) = n * (n + 1) / 2 := by
  obtain ⟨m, rfl⟩ : ∃ m, n = 2 * m := ⟨n / 2, by omega⟩
  rw [show 2 * m / 2 = m by omega, show 2 * m * (2 * m + 1) = 2 * (m * (2 * m + 1)) by grind]
  omega
theorem upTo_odd {n : Int} (h : n % 2 = 1) : (n + 1) / 2 * n = n * (n + 1) / 2 := by
  obtain ⟨m, rfl⟩ : ∃ m, n = 2 * m + 1 := ⟨n / 2, by omega⟩
  rw [show (2 * m + 1 + 1) / 2 = m + 1 by omega, show (2 * m + 1) * (2 * m + 1 + 1) = 2 * ((m + 1) * (2 * m + 1)) by grind]
  omega
set_option maxRecDepth 100000 in
set_option maxHeartbeats 4000000 in
theorem c_mupTo {κ : Kx} (hκ : KOK κ) {d : Nat} {n : Int} {G : Wd} (hn : 0 ≤ n ∧ n ≤ 3000000000) : Ct κ MX12_upTo d 0 0 [VL n] (Wm G) (keepG G (VL (n * (n + 1) / 2))) noX := by
  refine Ct_of hκ kX12_upTo.1 rfl (Nat.le_of_ble_eq_true rfl) (ls := [some (VL n), none]) rfl (fun μ => ?_)
  have hm := mul_bd (A := 3000000000) (B := 3000000001) hn.1 hn.2 (show 0 ≤ n + 1 by omega) (by omega)
  refine V_ex sX12_upTo_0 (by rfl) (by rw [tm_nn (by omega)]; exact ⟨⟨by unfold R64; omega, by unfold R64; omega, by decide⟩, by unfold R64; omega, r64_0⟩) ?_
  rw [tm_nn (by omega)]
  refine V_lifne dX12_upTo_7 (tgt := 22) (by decide) (fun q7 => ?_) (fun q7 => ?_)
  · refine V_ex sX12_upTo_22 (by rfl) (by exact ⟨by unfold R64; omega, by unfold R64; omega, by decide⟩) ?_
    rw [td_nn (by omega)]
    refine V_lret dX12_upTo_31 rfl (by decide) ⟨by rw [upTo_odd (by omega)], rfl⟩
  · refine V_ex sX12_upTo_10 (by rfl) (by exact ⟨by unfold R64; omega, by unfold R64; omega, by decide⟩) ?_
    rw [td_nn (by omega)]
    refine V_goto dX12_upTo_19 (tgt := 31) (by decide) ?_
    refine V_lret dX12_upTo_31 rfl (by decide) ⟨by rw [upTo_even (by omega)], rfl⟩
/-- r is the root of v -/
def isRt (v r : Int) : Prop := 0 ≤ r ∧ r ≤ 3037000499 ∧ r * r ≤ v ∧ v < (r + 1) * (r + 1)
theorem sq_mono {x y : Int} (h0 : 0 ≤ x) (h : x ≤ y) : x * x ≤ y * y := Int.mul_le_mul h h h0 (by omega)
set_option maxRecDepth 100000 in
set_option maxHeartbeats 4000000 in
theorem c_mroot {κ : Kx} (hκ : KOK κ) {d : Nat} {v : Int} {G : Wd} (hv : 0 ≤ v ∧ v ≤ 2000000000000000000) : Ct κ MX12_root d 0 0 [VL v] (Wm G) (fun u Ω' => ∃ r : Int, isRt v r ∧ keepG G (VL r) u Ω') noX := by
  refine Ct_of hκ kX12_root.1 rfl (Nat.le_of_ble_eq_true rfl) (ls := [some (VL v), none, none, none, none, none, none, none]) rfl (fun μ => ?_)
  refine V_ex sX12_root_0 (by rfl) (by first | exact trivial | exact Or.inl trivial | exact Or.inr rfl | exact Or.inl rfl) ?_
  suffices L : ∀ (n : Nat) (low high : Int) (x : Option Vl), 0 ≤ low → low ≤ high → high ≤ 3037000499 → high - low ≤ n → low * low ≤ v → v < (high + 1) * (high + 1) → V κ MX12_root (rmD d 0 0) (fun u Ω' => ∃ r : Int, isRt v r ∧ keepG G (VL r) u Ω') noX 0 0 μ 0 0 (Wm G) 7 [some (VL v), none, some (VL low), none, some (VL high), none, x, none] [] from L 3037000499 0 3037000499 _ (by omega) (by omega) (by omega) (by omega) (by omega) (by omega)
  intro n
  induction n with
  | zero =>
    intro low high x h0 h1 h2 h3 h4 h5
    obtain rfl : high = low := by omega
    refine V_ex sX12_root_7 (by rfl) (by first | exact trivial | exact Or.inr rfl | exact Or.inl rfl | (simp only [ob, obA, R32, R64] at *; omega) | (simp only [ob, obA, R32, R64] at *; and_intros <;> omega)) ?_
    refine V_lifge dX12_root_11 (tgt := 51) (by decide) (fun q11 => ?_) (fun q11 => ?_)
    · refine V_ex sX12_root_51 (by rfl) (by first | exact trivial | exact Or.inr rfl | exact Or.inl rfl | (simp only [ob, obA, R32, R64] at *; omega) | (simp only [ob, obA, R32, R64] at *; and_intros <;> omega)) ?_
      refine V_lret dX12_root_52 rfl (by decide) ⟨high, ⟨h0, h2, h4, h5⟩, rfl, rfl⟩
    · omega
  | succ n ih =>
    intro low high x h0 h1 h2 h3 h4 h5
    have hm : 0 ≤ (low + high + 1) / 2 ∧ (low + high + 1) / 2 ≤ 3037000499 := by omega
    have hq := mul_bd hm.1 hm.2 hm.1 hm.2
    have hlast : ∀ y, high ≤ low → V κ MX12_root (rmD d 0 0) (fun u Ω' => ∃ r : Int, isRt v r ∧ keepG G (VL r) u Ω') noX 0 0 μ 0 0 (Wm G) 51 [some (VL v), none, some (VL low), none, some (VL high), none, y, none] [] := fun y h => by
      obtain rfl : high = low := by omega
      refine V_ex sX12_root_51 (by rfl) (by first | exact trivial | exact Or.inr rfl | exact Or.inl rfl | (simp only [ob, obA, R32, R64] at *; omega) | (simp only [ob, obA, R32, R64] at *; and_intros <;> omega)) ?_
      refine V_lret dX12_root_52 rfl (by decide) ⟨high, ⟨h0, h2, h4, h5⟩, rfl, rfl⟩
    refine V_ex sX12_root_7 (by rfl) (by first | exact trivial | exact Or.inr rfl | exact Or.inl rfl | (simp only [ob, obA, R32, R64] at *; omega) | (simp only [ob, obA, R32, R64] at *; and_intros <;> omega)) ?_
    refine V_lifge dX12_root_11 (tgt := 51) (by decide) (fun q11 => ?_) (fun q11 => ?_)
    · exact hlast _ q11
    · refine V_ex sX12_root_14 (by rfl) (by rw [td_nn (by omega)]; exact ⟨⟨by unfold R64; omega, by unfold R64; omega, by decide⟩, by unfold R64; omega, by unfold R64; omega⟩) ?_
      rw [td_nn (by omega)]
      refine V_lifgt dX12_root_33 (tgt := 42) (by decide) (fun q33 => ?_) (fun q33 => ?_)
      · refine V_ex sX12_root_42 (by rfl) (by first | exact trivial | exact Or.inr rfl | exact Or.inl rfl | (simp only [ob, obA, R32, R64] at *; omega) | (simp only [ob, obA, R32, R64] at *; and_intros <;> omega)) ?_
        refine V_goto dX12_root_48 (tgt := 7) (by decide) ?_
        refine ih _ _ _ h0 (by omega) (by omega) (by omega) h4 ?_
        rw [show (low + high + 1) / 2 - 1 + 1 = (low + high + 1) / 2 by omega]; exact q33
      · refine V_ex sX12_root_36 (by rfl) (by first | exact trivial | exact Or.inr rfl | exact Or.inl rfl | (simp only [ob, obA, R32, R64] at *; omega) | (simp only [ob, obA, R32, R64] at *; and_intros <;> omega)) ?_
        refine V_goto dX12_root_39 (tgt := 48) (by decide) ?_
        refine V_goto dX12_root_48 (tgt := 7) (by decide) ?_
        exact ih _ _ _ (by omega) (by omega) h2 (by omega) q33 h5
