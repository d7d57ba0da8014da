/-! TornLeavesModel: several, ways, way -/
set_option maxRecDepth 100000 in
set_option maxHeartbeats 4000000 in
theorem c_moutBy {κ : Kx} (hκ : KOK κ) {d : Nat} {s k n : Int} {G : Wd} (hR : R64 (n * (2 * n + 1) - s - 3 * k)) : Ct κ MX12_outBy d 0 0 [VL s, VL k, VL n] (Wm G) (keepG G (VL (leafTot s k n))) noX := by
  refine Ct_of hκ kX12_outBy.1 rfl (Nat.le_of_ble_eq_true rfl) (ls := [some (VL s), none, some (VL k), none, some (VL n), none, none, none]) rfl (fun μ => ?_)
  have no : ¬ (0 ≤ n * (2 * n + 1) - s - 3 * k ∧ (n * (2 * n + 1) - s - 3 * k) % 4 = 0) → V κ MX12_outBy (rmD d 0 0) (keepG G (VL (leafTot s k n))) noX 0 0 μ 0 0 (Wm G) 39 [some (VL s), none, some (VL k), none, some (VL n), none, some (VL (n * (2 * n + 1) - s - 3 * k)), none] [] := fun h => by
    refine V_ex sX12_outBy_39 (by rfl) (by first | exact trivial | exact Or.inr rfl | exact Or.inl rfl | (simp only [ob, obA, R32, R64] at *; omega) | (simp only [ob, obA, R32, R64] at *; and_intros <;> omega)) ?_
    refine V_goto dX12_outBy_42 (tgt := 51) (by decide) ?_
    refine V_lret dX12_outBy_51 rfl (by decide) ⟨by rw [leafTot, if_neg h], rfl⟩
  refine V_ex sX12_outBy_0 (by rfl) (by exact ⟨hR, r64_0⟩) ?_
  generalize hq : n * (2 * n + 1) - s - 3 * k = z at *
  refine V_liflt dX12_outBy_25 (tgt := 39) (by decide) (fun q25 => ?_) (fun q25 => ?_)
  · exact no (by omega)
  · refine V_ex sX12_outBy_28 (by rfl) (by rw [tm_nn (by omega)]; exact ⟨⟨hR, by unfold R64; omega, by decide⟩, by unfold R64; omega, r64_0⟩) ?_
    rw [tm_nn (by omega)]
    refine V_lifeq dX12_outBy_36 (tgt := 45) (by decide) (fun q36 => ?_) (fun q36 => ?_)
    · refine V_ex sX12_outBy_45 (by rfl) (by exact ⟨hR, by unfold R64; omega, by decide⟩) ?_
      rw [td_nn (by omega)]
      refine V_lret dX12_outBy_51 rfl (by decide) ⟨by rw [leafTot, hq, if_pos (by omega)], rfl⟩
    · exact no (by omega)
set_option maxRecDepth 100000 in
set_option maxHeartbeats 4000000 in
theorem c_mleastOf {κ : Kx} (hκ : KOK κ) {d : Nat} {k : Int} {G : Wd} (hk : 1 ≤ k ∧ k ≤ 1000) : Ct κ MX12_leastOf d 0 0 [VL k] (Wm G) (keepG G (VL (k * (k - 1) / 2))) noX := by
  refine Ct_of hκ kX12_leastOf.1 rfl (Nat.le_of_ble_eq_true rfl) (ls := [some (VL k), none]) rfl (fun μ => ?_)
  have hm := mul_bd (A := 1000) (B := 1000) (show 0 ≤ k by omega) hk.2 (show 0 ≤ k - 1 by omega) (by omega)
  refine V_ex sX12_leastOf_0 (by rfl) (by exact ⟨by unfold R64; omega, by unfold R64; omega, by decide⟩) ?_
  rw [td_nn (by omega)]
  refine V_lret dX12_leastOf_9 rfl (by decide) ⟨rfl, rfl⟩
set_option maxRecDepth 100000 in
set_option maxHeartbeats 4000000 in
theorem c_mgreatestOf {κ : Kx} (hκ : KOK κ) {d : Nat} {k n : Int} {G : Wd} (hk : 1 ≤ k ∧ k ≤ 1000) : Ct κ MX12_greatestOf d 0 0 [VL k, VL n] (Wm G) (keepG G (VL (k * n - k * (k + 1) / 2))) noX := by
  refine Ct_of hκ kX12_greatestOf.1 rfl (Nat.le_of_ble_eq_true rfl) (ls := [some (VL k), none, some (VL n), none]) rfl (fun μ => ?_)
  have hm := mul_bd (A := 1000) (B := 1001) (show 0 ≤ k by omega) hk.2 (show 0 ≤ k + 1 by omega) (by omega)
  refine V_ex sX12_greatestOf_0 (by rfl) (by exact ⟨by unfold R64; omega, by unfold R64; omega, by decide⟩) ?_
  rw [td_nn (by omega)]
  refine V_lret dX12_greatestOf_13 rfl (by decide) ⟨rfl, rfl⟩
def sevL (s k : Int) : Nat → Int → List Int
  | 0, _ => []
  | c + 1, n => if canOut s k n then n :: sevL s k c (n + 1) else sevL s k c (n + 1)
theorem sevL_skip (s k : Int) (c : Nat) : ∀ (t : Nat) (n : Int), (∀ x, n ≤ x → x < n + t → canOut s k x = false) → sevL s k (t + c) n = sevL s k c (n + t) := by
  intro t
  induction t with
  | zero => intro n h; simp
  | succ t ih =>
    intro n h
    rw [show t + 1 + c = (t + c) + 1 by omega, sevL, h n (by omega) (by omega), if_neg (by simp), ih (n + 1) (fun x h1 h2 => h x (by omega) (by omega))]
    congr 1; omega
def isW (s r : Int) : Prop := 0 ≤ r ∧ r * (2 * r + 1) ≤ s ∧ s < (r + 1) * (2 * r + 3)
theorem w_mono {x y : Int} (h0 : 0 ≤ x) (h : x ≤ y) : x * (2 * x + 1) ≤ y * (2 * y + 1) := Int.mul_le_mul h (by omega) (by omega) (by omega)
theorem isW_uni {s r q : Int} (h : isW s r) (h' : isW s q) : r = q := by
  obtain ⟨a, b, c⟩ := h
  obtain ⟨a', b', c'⟩ := h'
  rcases Int.lt_trichotomy r q with w | w | w
  · have := w_mono (show 0 ≤ r + 1 by omega) (show r + 1 ≤ q by omega); rw [show 2 * (r + 1) + 1 = 2 * r + 3 by omega] at this; omega
  · exact w
  · have := w_mono (show 0 ≤ q + 1 by omega) (show q + 1 ≤ r by omega); rw [show 2 * (q + 1) + 1 = 2 * q + 3 by omega] at this; omega
noncomputable def theW (s : Int) : Int := Classical.epsilon (isW s)
theorem theW_eq {s r : Int} (h : isW s r) : theW s = r := isW_uni (Classical.epsilon_spec ⟨r, h⟩) h
noncomputable def sevP (s k i : Int) : Int × Int := if ¬ ((1 ≤ s ∧ s ≤ 1000000000000000000) ∧ 1 ≤ k ∧ k ≤ 60) then (2, 0) else if i = -1 then (0, ((sevL s k k.toNat (theW s + 1)).length : Nat)) else if h : i.toNat < (sevL s k k.toNat (theW s + 1)).length ∧ 0 ≤ i then (0, (sevL s k k.toNat (theW s + 1))[i.toNat]'h.1) else (1, 0)
theorem canOut_below {s k n r : Int} (hW : isW s r) (hk : 1 ≤ k) (h0 : 0 ≤ n) (h : n ≤ r) : canOut s k n = false := by
  have h1 := w_mono h0 h
  have h2 := hW.2.1
  have hkk : 0 ≤ k * (k - 1) := Int.mul_nonneg (by omega) (by omega)
  have : leafTot s k n = -1 := by rw [leafTot, if_neg (by omega)]
  rw [canOut, this]
  exact decide_eq_false (by omega)
theorem canOut_m {s k n : Int} (hk : 1 ≤ k ∧ k ≤ 60) (hn : k ≤ n) : canOut s k n = decide (k * (k - 1) / 2 ≤ leafTot s k n ∧ leafTot s k n ≤ k * n - k * (k + 1) / 2) := by
  have e1 : k * (k + 1) = k * (k - 1) + 2 * k := by grind
  have e2 : k * (n - k) = k * n - k * (k - 1) - k := by grind
  have hev : k * (k - 1) % 2 = 0 := by
    rcases (show k % 2 = 0 ∨ k % 2 = 1 by omega) with h | h
    · obtain ⟨m, rfl⟩ : ∃ m, k = 2 * m := ⟨k / 2, by omega⟩
      rw [Int.mul_assoc]; omega
    · obtain ⟨m, rfl⟩ : ∃ m, k = 2 * m + 1 := ⟨k / 2, by omega⟩
      rw [show (2 * m + 1) * (2 * m + 1 - 1) = 2 * ((2 * m + 1) * m) by grind]; omega
  rw [canOut, e1, e2]
  congr 1
  apply propext
  constructor
  · intro h; omega
  · intro h; omega
set_option maxRecDepth 100000 in
set_option maxHeartbeats 4000000 in
theorem c_mseveral {κ : Kx} (hκ : KOK κ) {d : Nat} {s k i : Int} {G : Wd} (hs : R64 s) (hk : R32 k) (hi : R32 i) (hd : 3 ≤ d) : Ct κ MX12_several d 0 0 [VR 145, VL s, VI k, VI i] (Wm G) (mpL G [2] [] [] (sevP s k i)) noX := by
  refine Ct_of hκ kX12_several.1 rfl (Nat.le_of_ble_eq_true rfl) (ls := [some (VR 145), some (VL s), none, some (VI k), some (VI i), none, none, none, none, none]) rfl (fun μ => ?_)
  have f0 : FM [2] [] [] G (uI G 145 2 0) := (FM.refl _ _ _ _).s (by decide)
  have no : ¬ ((1 ≤ s ∧ s ≤ 1000000000000000000) ∧ 1 ≤ k ∧ k ≤ 60) → V κ MX12_several (rmD d 0 0) (mpL G [2] [] [] (sevP s k i)) noX 0 0 μ 0 0 (Wm (uI G 145 2 0)) 24 [some (VR 145), some (VL s), none, some (VI k), some (VI i), none, none, none, none, none] [] := fun h => by
    refine V_ex sX12_several_24 (by rfl) (by first | exact trivial | exact Or.inr rfl | exact Or.inl rfl | (simp only [ob, obA, R32, R64] at *; omega) | (simp only [ob, obA, R32, R64] at *; and_intros <;> omega)) ?_
    refine V_callV (M := MX12_several) (N := MX12_fail) dX12_several_26 lRX12_324 kX12_fail rfl (rfl) rfl (c_mfail (d := 2) hκ) rfl rfl (Nat.le_of_ble_eq_true rfl) (fit_rm (by omega)) (⟨Nat.le_of_ble_eq_true rfl, Nat.le_of_ble_eq_true rfl⟩) (fun v Ω' hp => ?_) (fun _ _ h => h.elim)
    obtain ⟨rfl, rfl⟩ := hp
    refine V_ex sX12_several_29 (by rfl) (by first | exact trivial | exact Or.inr rfl | exact Or.inl rfl | (simp only [ob, obA, R32, R64] at *; omega) | (simp only [ob, obA, R32, R64] at *; and_intros <;> omega)) ?_
    refine V_lret dX12_several_30 rfl (by decide) ⟨by rw [sevP, if_pos h], _, rfl, f0.s (by decide), by rw [sevP, if_pos h]; simp [upd2_eq]⟩
  have fin : ∀ (n many : Int) (x : Option Vl), ((1 ≤ s ∧ s ≤ 1000000000000000000) ∧ 1 ≤ k ∧ k ≤ 60) → many = ((sevL s k k.toNat (theW s + 1)).length : Nat) → many ≤ 60 → ¬ (0 ≤ i ∧ i < many) → V κ MX12_several (rmD d 0 0) (mpL G [2] [] [] (sevP s k i)) noX 0 0 μ 0 0 (Wm (uI G 145 2 0)) 149 [some (VR 145), some (VL s), none, some (VI k), some (VI i), some (VL n), none, some (VI many), x, none] [] := fun n many x hg hm hm2 hi2 => by
    refine V_ex sX12_several_149 (by rfl) (by first | exact trivial | exact Or.inr rfl | exact Or.inl rfl | (simp only [ob, obA, R32, R64] at *; omega) | (simp only [ob, obA, R32, R64] at *; and_intros <;> omega)) ?_
    refine V_icmpne dX12_several_152 (tgt := 161) (by decide) (by simp only [R32, R64] at *; omega) (fun q152 => ?_) (fun q152 => ?_)
    · refine V_ex sX12_several_161 (by rfl) (by first | exact trivial | exact Or.inr rfl | exact Or.inl rfl | (simp only [ob, obA, R32, R64] at *; omega) | (simp only [ob, obA, R32, R64] at *; and_intros <;> omega)) ?_
      refine V_callV (M := MX12_several) (N := MX12_fail) dX12_several_163 lRX12_324 kX12_fail rfl (rfl) rfl (c_mfail (d := 2) hκ) rfl rfl (Nat.le_of_ble_eq_true rfl) (fit_rm (by omega)) (⟨Nat.le_of_ble_eq_true rfl, Nat.le_of_ble_eq_true rfl⟩) (fun v Ω' hp => ?_) (fun _ _ h => h.elim)
      obtain ⟨rfl, rfl⟩ := hp
      refine V_ex sX12_several_166 (by rfl) (by first | exact trivial | exact Or.inr rfl | exact Or.inl rfl | (simp only [ob, obA, R32, R64] at *; omega) | (simp only [ob, obA, R32, R64] at *; and_intros <;> omega)) ?_
      refine V_lret dX12_several_167 rfl (by decide) ⟨by rw [sevP, if_neg (not_not_intro hg), if_neg q152, dif_neg (by omega)], _, rfl, f0.s (by decide), by rw [sevP, if_neg (not_not_intro hg), if_neg q152, dif_neg (by omega)]; simp [upd2_eq]⟩
    · refine V_ex sX12_several_155 (by rfl) (by first | exact trivial | exact Or.inr rfl | exact Or.inl rfl | (simp only [ob, obA, R32, R64] at *; omega) | (simp only [ob, obA, R32, R64] at *; and_intros <;> omega)) ?_
      refine V_goto dX12_several_158 (tgt := 167) (by decide) ?_
      refine V_lret dX12_several_167 rfl (by decide) ⟨by rw [sevP, if_neg (not_not_intro hg), if_pos q152, hm], _, rfl, f0, by rw [sevP, if_neg (not_not_intro hg), if_pos q152]; simp [upd2_eq]⟩
  have body : ∀ (r n many : Int) (x : Option Vl), ((1 ≤ s ∧ s ≤ 1000000000000000000) ∧ 1 ≤ k ∧ k ≤ 60) → isW s r → r < 1000000000 → k ≤ n → n ≤ r + k → 0 ≤ many → many ≤ 60 →
      (canOut s k n = true → many = i → mpL G [2] [] [] (sevP s k i) (some (VL n)) (Wm (uI G 145 2 0))) →
      (∀ y, (canOut s k n = false ∨ ¬ many = i) → V κ MX12_several (rmD d 0 0) (mpL G [2] [] [] (sevP s k i)) noX 0 0 μ 0 0 (Wm (uI G 145 2 0)) 53 [some (VR 145), some (VL s), none, some (VI k), some (VI i), some (VL (n + 1)), none, some (VI (if canOut s k n then many + 1 else many)), y, none] []) →
      V κ MX12_several (rmD d 0 0) (mpL G [2] [] [] (sevP s k i)) noX 0 0 μ 0 0 (Wm (uI G 145 2 0)) 53 [some (VR 145), some (VL s), none, some (VI k), some (VI i), some (VL n), none, some (VI many), x, none] [] := by
    intro r n many x hg hW hr hkn hn hm0 hm1 hret hnext
    have hmn := mul_bd (A := 1000000060) (B := 2000000121) (show 0 ≤ n by omega) (by omega) (show 0 ≤ 2 * n + 1 by omega) (by omega)
    have hkk := mul_bd (A := 60) (B := 61) (show 0 ≤ k by omega) (by omega) (show 0 ≤ k + 1 by omega) (by omega)
    have hkk2 := mul_bd (A := 60) (B := 60) (show 0 ≤ k by omega) (by omega) (show 0 ≤ k - 1 by omega) (by omega)
    have hkn2 := mul_bd (A := 60) (B := 1000000060) (show 0 ≤ k by omega) (by omega) (show 0 ≤ n by omega) (by omega)
    have hle : n * (2 * n + 1) - 3 * k - 4 * (k * n - k * (k + 1) / 2) ≤ s := by
      have h1 := w_mono (show 0 ≤ n - k by omega) (show n - k ≤ r by omega)
      have h2 := hW.2.1
      have hev : k * (k + 1) % 2 = 0 := by
        rcases (show k % 2 = 0 ∨ k % 2 = 1 by omega) with h | h
        · obtain ⟨m, rfl⟩ : ∃ m, k = 2 * m := ⟨k / 2, by omega⟩
          rw [Int.mul_assoc]; omega
        · obtain ⟨m, rfl⟩ : ∃ m, k = 2 * m + 1 := ⟨k / 2, by omega⟩
          rw [show (2 * m + 1) * (2 * m + 1 + 1) = 2 * ((2 * m + 1) * (m + 1)) by grind]; omega
      have e : (n - k) * (2 * (n - k) + 1) = n * (2 * n + 1) - 3 * k - 4 * (k * n) + 2 * (k * (k + 1)) := by grind
      omega
    have hT : R64 (n * (2 * n + 1) - s - 3 * k) := by unfold R64; omega
    have hTR := leafTot_R hT
    have hT2 : -1 ≤ leafTot s k n := by unfold leafTot; split <;> omega
    have hcan := canOut_m (s := s) hg.2 hkn
    have k64 : R64 k := by unfold R64; omega
    have step : ∀ m2, m2 = (if canOut s k n then many + 1 else many) → (canOut s k n = false ∨ ¬ many = i) → V κ MX12_several (rmD d 0 0) (mpL G [2] [] [] (sevP s k i)) noX 0 0 μ 0 0 (Wm (uI G 145 2 0)) 140 [some (VR 145), some (VL s), none, some (VI k), some (VI i), some (VL n), none, some (VI m2), some (VL (leafTot s k n)), none] [] := fun m2 hm2 hc => by
      refine V_ex sX12_several_140 (by rfl) (by first | exact trivial | exact Or.inr rfl | exact Or.inl rfl | (simp only [ob, obA, R32, R64] at *; omega) | (simp only [ob, obA, R32, R64] at *; and_intros <;> omega)) ?_
      refine V_goto dX12_several_146 (tgt := 53) (by decide) ?_
      rw [hm2]; exact hnext _ hc
    refine V_ex sX12_several_53 (by rfl) (by exact ⟨hk, hk⟩) ?_
    refine V_callS (M := MX12_several) (N := MX12_greatestOf) dX12_several_78 lRX12_472 kX12_greatestOf rfl (c_mgreatestOf (d := 2) hκ (by omega)) rfl rfl (Nat.le_of_ble_eq_true rfl) (fit_rm (by omega)) (⟨Nat.le_of_ble_eq_true rfl, Nat.le_of_ble_eq_true rfl⟩) (fun v Ω' hp => ?_) (fun _ _ h => h.elim)
    obtain ⟨rfl, rfl⟩ := hp
    refine V_ex sX12_several_81 (by rfl) (by exact ⟨by unfold R64; omega, hs⟩) ?_
    refine V_lifgt dX12_several_85 (tgt := 149) (by decide) (fun q85 => ?_) (fun q85 => ?_)
    · omega
    · refine V_ex sX12_several_88 (by rfl) (by first | exact trivial | exact Or.inr rfl | exact Or.inl rfl | (simp only [ob, obA, R32, R64] at *; omega) | (simp only [ob, obA, R32, R64] at *; and_intros <;> omega)) ?_
      refine V_callS (M := MX12_several) (N := MX12_outBy) dX12_several_93 lRX12_475 kX12_outBy rfl (c_moutBy (d := 2) hκ hT) rfl rfl (Nat.le_of_ble_eq_true rfl) (fit_rm (by omega)) (⟨Nat.le_of_ble_eq_true rfl, Nat.le_of_ble_eq_true rfl⟩) (fun v Ω' hp => ?_) (fun _ _ h => h.elim)
      obtain ⟨rfl, rfl⟩ := hp
      refine V_ex sX12_several_96 (by rfl) (by exact ⟨hTR, by unfold R64; omega⟩) ?_
      refine V_lifeq dX12_several_104 (tgt := 140) (by decide) (fun q104 => ?_) (fun q104 => ?_)
      · exact step _ (by rw [hcan, decide_eq_false (by omega)]; rfl) (Or.inl (by rw [hcan, decide_eq_false (by omega)]))
      · refine V_ex sX12_several_107 (by rfl) (by first | exact trivial | exact Or.inr rfl | exact Or.inl rfl | (simp only [ob, obA, R32, R64] at *; omega) | (simp only [ob, obA, R32, R64] at *; and_intros <;> omega)) ?_
        refine V_callS (M := MX12_several) (N := MX12_leastOf) dX12_several_111 lRX12_479 kX12_leastOf rfl (c_mleastOf (d := 2) hκ (by omega)) rfl rfl (Nat.le_of_ble_eq_true rfl) (fit_rm (by omega)) (⟨Nat.le_of_ble_eq_true rfl, Nat.le_of_ble_eq_true rfl⟩) (fun v Ω' hp => ?_) (fun _ _ h => h.elim)
        obtain ⟨rfl, rfl⟩ := hp
        refine V_ex sX12_several_114 (by rfl) (by first | exact trivial | exact Or.inr rfl | exact Or.inl rfl | (simp only [ob, obA, R32, R64] at *; omega) | (simp only [ob, obA, R32, R64] at *; and_intros <;> omega)) ?_
        refine V_callS (M := MX12_several) (N := MX12_greatestOf) dX12_several_118 lRX12_472 kX12_greatestOf rfl (c_mgreatestOf (d := 2) hκ (by omega)) rfl rfl (Nat.le_of_ble_eq_true rfl) (fit_rm (by omega)) (⟨Nat.le_of_ble_eq_true rfl, Nat.le_of_ble_eq_true rfl⟩) (fun v Ω' hp => ?_) (fun _ _ h => h.elim)
        obtain ⟨rfl, rfl⟩ := hp
        refine V_callS (M := MX12_several) (N := MX12_isIn) dX12_several_121 lRX12_178 kX12_isIn rfl (c_misIn (d := 2) hκ hTR (by unfold R64; omega) (by unfold R64; omega)) rfl rfl (Nat.le_of_ble_eq_true rfl) (fit_rm (by omega)) (⟨Nat.le_of_ble_eq_true rfl, Nat.le_of_ble_eq_true rfl⟩) (fun v Ω' hp => ?_) (fun _ _ h => h.elim)
        obtain ⟨rfl, rfl⟩ := hp
        rw [← hcan]
        refine V_ifeqB dX12_several_124 (tgt := 140) (by decide) (fun q124 => ?_) (fun q124 => ?_)
        · exact step _ (by rw [q124]; rfl) (Or.inl q124)
        · refine V_ex sX12_several_127 (by rfl) (by first | exact trivial | exact Or.inr rfl | exact Or.inl rfl | (simp only [ob, obA, R32, R64] at *; omega) | (simp only [ob, obA, R32, R64] at *; and_intros <;> omega)) ?_
          refine V_icmpne dX12_several_131 (tgt := 137) (by decide) (by simp only [R32, R64] at *; omega) (fun q131 => ?_) (fun q131 => ?_)
          · refine V_ex sX12_several_137 (by rfl) (by first | exact trivial | exact Or.inr rfl | exact Or.inl rfl | (simp only [ob, obA, R32, R64] at *; omega) | (simp only [ob, obA, R32, R64] at *; and_intros <;> omega)) ?_
            exact step _ (by rw [q124]; rfl) (Or.inr q131)
          · refine V_ex sX12_several_134 (by rfl) (by first | exact trivial | exact Or.inr rfl | exact Or.inl rfl | (simp only [ob, obA, R32, R64] at *; omega) | (simp only [ob, obA, R32, R64] at *; and_intros <;> omega)) ?_
            refine V_lret dX12_several_136 rfl (by decide) (hret q124 q131)
  have main : ∀ (r : Int), ((1 ≤ s ∧ s ≤ 1000000000000000000) ∧ 1 ≤ k ∧ k ≤ 60) → isW s r → ∀ (c : Nat) (n : Int) (pre : List Int) (many : Int) (x : Option Vl), k ≤ n → n + c = r + k + 1 → sevL s k k.toNat (theW s + 1) = pre ++ sevL s k c n → many = (pre.length : Nat) → (pre.length : Int) + c ≤ 60 → ¬ (0 ≤ i ∧ i < many) → V κ MX12_several (rmD d 0 0) (mpL G [2] [] [] (sevP s k i)) noX 0 0 μ 0 0 (Wm (uI G 145 2 0)) 53 [some (VR 145), some (VL s), none, some (VI k), some (VI i), some (VL n), none, some (VI many), x, none] [] := by
    intro r hg hW c
    have hr : r < 1000000000 := by
      rcases Int.lt_or_le r 1000000000 with h | h
      · exact h
      · have := w_mono (by decide) h; have := hW.2.1; omega
    induction c with
    | zero =>
      intro n pre many x hkn hn hL hm hpc hni
      have hkk := mul_bd (A := 60) (B := 61) (show 0 ≤ k by omega) (by omega) (show 0 ≤ k + 1 by omega) (by omega)
      have hmn := mul_bd (A := 1000000061) (B := 2000000123) (show 0 ≤ n by have := hW.1; omega) (by omega) (show 0 ≤ 2 * n + 1 by have := hW.1; omega) (by omega)
      have hkn2 := mul_bd (A := 60) (B := 1000000061) (show 0 ≤ k by omega) (by omega) (show 0 ≤ n by omega) (by omega)
      have hgt : s < n * (2 * n + 1) - 3 * k - 4 * (k * n - k * (k + 1) / 2) := by
        have h2 := hW.2.2
        have hev : k * (k + 1) % 2 = 0 := by
          rcases (show k % 2 = 0 ∨ k % 2 = 1 by omega) with h | h
          · obtain ⟨m, rfl⟩ : ∃ m, k = 2 * m := ⟨k / 2, by omega⟩
            rw [Int.mul_assoc]; omega
          · obtain ⟨m, rfl⟩ : ∃ m, k = 2 * m + 1 := ⟨k / 2, by omega⟩
            rw [show (2 * m + 1) * (2 * m + 1 + 1) = 2 * ((2 * m + 1) * (m + 1)) by grind]; omega
        have e : (r + 1) * (2 * r + 3) = n * (2 * n + 1) - 3 * k - 4 * (k * n) + 2 * (k * (k + 1)) := by
          obtain rfl : r = n - k - 1 := by omega
          grind
        omega
      have hgt2 : R64 (n * (2 * n + 1) - 3 * k - 4 * (k * n - k * (k + 1) / 2)) := by unfold R64; omega
      refine V_ex sX12_several_53 (by rfl) (by exact ⟨hk, hk⟩) ?_
      refine V_callS (M := MX12_several) (N := MX12_greatestOf) dX12_several_78 lRX12_472 kX12_greatestOf rfl (c_mgreatestOf (d := 2) hκ (by omega)) rfl rfl (Nat.le_of_ble_eq_true rfl) (fit_rm (by omega)) (⟨Nat.le_of_ble_eq_true rfl, Nat.le_of_ble_eq_true rfl⟩) (fun v Ω' hp => ?_) (fun _ _ h => h.elim)
      obtain ⟨rfl, rfl⟩ := hp
      refine V_ex sX12_several_81 (by rfl) (by exact ⟨hgt2, hs⟩) ?_
      refine V_lifgt dX12_several_85 (tgt := 149) (by decide) (fun q85 => ?_) (fun q85 => ?_)
      · exact fin _ _ _ hg (by rw [hL, hm]; simp [sevL]) (by omega) hni
      · omega
    | succ c ih =>
      intro n pre many x hkn hn hL hm hpc hni
      rw [sevL] at hL
      refine body r n many x hg hW hr hkn (by omega) (by omega) (by omega) (fun hc hmi => ?_) (fun y hc => ?_)
      · rw [hc, if_pos rfl] at hL
        have hlen : i.toNat < (sevL s k k.toNat (theW s + 1)).length := by rw [hL]; simp; omega
        have hget : (sevL s k k.toNat (theW s + 1))[i.toNat]'hlen = n := by
          have ei : i.toNat = pre.length := by omega
          simp only [hL, ei, List.getElem_append_right (Nat.le_refl _), Nat.sub_self, List.getElem_cons_zero]
        exact ⟨by rw [sevP, if_neg (not_not_intro hg), if_neg (by omega), dif_pos ⟨hlen, by omega⟩, hget], _, rfl, f0, by rw [sevP, if_neg (not_not_intro hg), if_neg (by omega), dif_pos ⟨hlen, by omega⟩]; simp [upd2_eq]⟩
      · by_cases hcan : canOut s k n = true
        · rw [hcan] at hL hc ⊢
          exact ih (n + 1) (pre ++ [n]) _ _ (by omega) (by omega) (by rw [hL]; simp) (by simp; omega) (by simp; omega) (by simp at hc ⊢; omega)
        · have hcf : canOut s k n = false := by simpa using hcan
          rw [hcf] at hL ⊢
          exact ih (n + 1) pre _ _ (by omega) (by omega) (by simpa using hL) (by simpa using hm) (by omega) (by simpa using hni)
  have climb : ∀ (r : Int), ((1 ≤ s ∧ s ≤ 1000000000000000000) ∧ 1 ≤ k ∧ k ≤ 60) → isW s r → r < 1000000000 → ∀ (t : Nat) (n : Int) (x : Option Vl), k ≤ n → n + t = r + 1 → V κ MX12_several (rmD d 0 0) (mpL G [2] [] [] (sevP s k i)) noX 0 0 μ 0 0 (Wm (uI G 145 2 0)) 53 [some (VR 145), some (VL s), none, some (VI k), some (VI i), some (VL n), none, some (VI 0), x, none] [] := by
    intro r hg hW hr t
    induction t with
    | zero =>
      intro n x hkn hn
      have ew := theW_eq hW
      exact main r hg hW k.toNat n [] 0 x hkn (by omega) (by rw [ew, show n = r + 1 by omega]; rfl) rfl (by simp; omega) (by omega)
    | succ t ih =>
      intro n x hkn hn
      have hf := canOut_below hW (show 1 ≤ k by omega) (show 0 ≤ n by omega) (show n ≤ r by omega)
      refine body r n 0 x hg hW hr hkn (by omega) (by omega) (by omega) (fun hc => absurd hc (by rw [hf]; decide)) (fun y hc => ?_)
      rw [hf]
      exact ih (n + 1) _ (by omega) (by omega)
  have startK : ∀ (r : Int) (x : Option Vl), ((1 ≤ s ∧ s ≤ 1000000000000000000) ∧ 1 ≤ k ∧ k ≤ 60) → isW s r → r + 1 ≤ k → V κ MX12_several (rmD d 0 0) (mpL G [2] [] [] (sevP s k i)) noX 0 0 μ 0 0 (Wm (uI G 145 2 0)) 53 [some (VR 145), some (VL s), none, some (VI k), some (VI i), some (VL k), none, some (VI 0), x, none] [] := fun r x hg hW hk1 => by
    have ew := theW_eq hW
    have h0 := hW.1
    refine main r hg hW (r + 1).toNat k [] 0 x (by omega) (by omega) ?_ rfl (by simp; omega) (by omega)
    have e := sevL_skip s k (r + 1).toNat (k - (r + 1)).toNat (r + 1) (fun x h1 h2 => by rw [canOut]; exact decide_eq_false (by omega))
    rw [ew, List.nil_append, show k.toNat = (k - (r + 1)).toNat + (r + 1).toNat by omega, e]
    congr 1; omega
  refine V_ex sX12_several_0 (by simp only [Option.toList, List.cons_append, List.nil_append, exN, ex1, gI, gL, gR, pI, pL, pR, lget, lset1, lset2, kl, b2I, b2L, nob, ob32, ob64, xGet, xPut, xLen, xLd, xLdR, xSt, obA, true_and, and_true, and_self, eq_self, Nat.reduceEqDiff, Nat.zero_ne_one, reduceIte, Nat.reduceLeDiff, and_false, false_and, show skd 11 2 = 0 from rfl, show LF.1 145 = some (.inl 11) from rfl, upd2_eq, Int.reduceToNat, Int.toNat_natCast]; rfl) (by first | exact trivial | exact Or.inr rfl | exact Or.inl rfl | (simp only [ob, obA, R32, R64] at *; omega) | (simp only [ob, obA, R32, R64] at *; and_intros <;> omega)) ?_
  refine V_callS (M := MX12_several) (N := MX12_isSum) dX12_several_6 lRX12_452 kX12_isSum rfl (c_misSum (d := 2) hκ hs (by omega)) rfl rfl (Nat.le_of_ble_eq_true rfl) (fit_rm (by omega)) (⟨Nat.le_of_ble_eq_true rfl, Nat.le_of_ble_eq_true rfl⟩) (fun v Ω' hp => ?_) (fun _ _ h => h.elim)
  obtain ⟨rfl, rfl⟩ := hp
  refine V_ifeqB dX12_several_9 (tgt := 24) (by decide) (fun q9 => ?_) (fun q9 => ?_)
  · have h1 := of_decide_eq_false q9
    exact no (by omega)
  · have h1 := of_decide_eq_true q9
    refine V_ex sX12_several_12 (by rfl) (by first | exact trivial | exact Or.inr rfl | exact Or.inl rfl | (simp only [ob, obA, R32, R64] at *; omega) | (simp only [ob, obA, R32, R64] at *; and_intros <;> omega)) ?_
    refine V_callS (M := MX12_several) (N := MX12_isIn) dX12_several_18 lRX12_178 kX12_isIn rfl (c_misIn (d := 2) hκ (by simp only [R32, R64] at *; omega) (by unfold R64; omega) (by unfold R64; omega)) rfl rfl (Nat.le_of_ble_eq_true rfl) (fit_rm (by omega)) (⟨Nat.le_of_ble_eq_true rfl, Nat.le_of_ble_eq_true rfl⟩) (fun v Ω' hp => ?_) (fun _ _ h => h.elim)
    obtain ⟨rfl, rfl⟩ := hp
    refine V_ifneB dX12_several_21 (tgt := 31) (by decide) (fun q21 => ?_) (fun q21 => ?_)
    · have h2 := of_decide_eq_true q21
      refine V_ex sX12_several_31 (by rfl) (by exact ⟨hk, hs, by unfold R64; omega, by decide⟩) ?_
      rw [td_nn (by omega)]
      refine V_callS (M := MX12_several) (N := MX12_root) dX12_several_38 lRX12_443 kX12_root rfl (c_mroot (d := 2) hκ (v := s / 2) (by omega)) rfl rfl (Nat.le_of_ble_eq_true rfl) (fit_rm (by omega)) (⟨Nat.le_of_ble_eq_true rfl, Nat.le_of_ble_eq_true rfl⟩) (fun v Ω' hp => ?_) (fun _ _ h => h.elim)
      obtain ⟨q, ⟨q0, q1, q2, q3⟩, rfl, rfl⟩ := hp
      have hq8 : q < 710000000 := rt_lt q2 (by omega) (by omega)
      have hr : ∃ r, isW s r ∧ q ≤ r + 1 := by
        have e1 : q * (2 * q + 1) = 2 * (q * q) + q := by grind
        have e2 : (q + 1) * (2 * q + 3) = 2 * ((q + 1) * (q + 1)) + (q + 1) := by grind
        by_cases c : q * (2 * q + 1) ≤ s
        · exact ⟨q, ⟨q0, c, by omega⟩, by omega⟩
        · have q1 : 1 ≤ q := by rcases Int.lt_or_le q 1 with h | h; (have : q = 0 := by omega); subst this; omega; exact h
          have e3 : (q - 1) * (2 * (q - 1) + 1) = 2 * (q * q) - 3 * q + 1 := by grind
          exact ⟨q - 1, ⟨by omega, by omega, by rw [show q - 1 + 1 = q by omega, show 2 * (q - 1) + 3 = 2 * q + 1 by omega]; omega⟩, by omega⟩
      obtain ⟨r, hW, hqr⟩ := hr
      have hr9 : r < 1000000000 := by rcases Int.lt_or_le r 1000000000 with h | h; exact h; have := w_mono (by decide) h; have := hW.2.1; omega
      refine V_ex sX12_several_41 (by rfl) (by first | exact trivial | exact Or.inr rfl | exact Or.inl rfl | (simp only [ob, obA, R32, R64] at *; omega) | (simp only [ob, obA, R32, R64] at *; and_intros <;> omega)) ?_
      refine V_mmaxl (M := MX12_several) dX12_several_45 lRX12_446 (by unfold R64; unfold R32 at hk; omega) (Nat.le_of_ble_eq_true rfl) (fit_rm (by omega)) ⟨Nat.le_refl _, Nat.le_refl _⟩ ?_
      refine V_ex sX12_several_48 (by rfl) (by first | exact trivial | exact Or.inr rfl | exact Or.inl rfl | (simp only [ob, obA, R32, R64] at *; omega) | (simp only [ob, obA, R32, R64] at *; and_intros <;> omega)) ?_
      have hg : (1 ≤ s ∧ s ≤ 1000000000000000000) ∧ 1 ≤ k ∧ k ≤ 60 := ⟨h1, h2⟩
      by_cases hc : q - 2 < k
      · rw [if_pos hc]
        by_cases c : k ≤ r + 1
        · exact climb r hg hW hr9 (r + 1 - k).toNat _ _ (by omega) (by omega)
        · exact startK r _ hg hW (by omega)
      · rw [if_neg hc]
        exact climb r hg hW hr9 (r + 1 - (q - 2)).toNat _ _ (by omega) (by omega)
    · have h2 := of_decide_eq_false q21
      exact no (by omega)
