/-! Ways: rows of leaves that add up, and the one at a place -/
def canOut (s k L : Int) : Bool := decide (k ≤ L ∧ k * (k - 1) / 2 ≤ leafTot s k L ∧ leafTot s k L ≤ k * (k - 1) / 2 + k * (L - k))
theorem leafTot_R {s k L : Int} (h : R64 (L * (2 * L + 1) - s - 3 * k)) : R64 (leafTot s k L) := by
  unfold leafTot R64 at *
  split <;> omega
set_option maxRecDepth 100000 in
set_option maxHeartbeats 4000000 in
theorem c_canBeOut {κ : Kx} (hκ : KOK κ) {d : Nat} {s k L : Int} {G : Wd} (hk : 0 ≤ k ∧ k ≤ 1000) (hL : 0 ≤ L ∧ L ≤ 2000000000) (hR : R64 (L * (2 * L + 1) - s - 3 * k)) (hd : 1 ≤ d) : Ct κ MX10_canBeOut d 0 0 [VL s, VI k, VL L] (Wm G) (keepG G (VI (b2i (canOut s k L)))) noX := by
  refine Ct_of hκ kX10_canBeOut.1 rfl (Nat.le_of_ble_eq_true rfl) (ls := [some (VL s), none, some (VI k), some (VL L), none, none, none, none, none]) rfl (fun μ => ?_)
  have hkR : R32 k := by unfold R32; omega
  have hkk : 0 ≤ k * (k - 1) ∧ k * (k - 1) ≤ 1000 * 999 := by
    rcases Int.lt_or_le k 1 with h | h
    · have : k = 0 := by omega
      subst this; decide
    · exact mul_bd hk.1 hk.2 (by omega) (by omega)
  have hkL : k ≤ L → 0 ≤ k * (L - k) ∧ k * (L - k) ≤ 1000 * 2000000000 := fun h => mul_bd hk.1 hk.2 (by omega) (by omega)
  have hT := leafTot_R hR
  have hT2 : -1 ≤ leafTot s k L := by unfold leafTot; split <;> omega
  refine V_ex sX10_canBeOut_0 (by rfl) (by first | exact trivial | exact Or.inl trivial | exact Or.inr rfl | exact Or.inl rfl) ?_
  refine V_callS (M := MX10_canBeOut) (N := MX10_leafTotal) (As := [VL s, VI k, VL L]) (rest := []) dX10_canBeOut_3 lRX10_25 kX10_leafTotal rfl (c_leafTotal (d := 0) hκ hkR hR) rfl rfl (Nat.le_of_ble_eq_true rfl) (fit_rm (by omega)) (⟨Nat.le_refl _, Nat.le_refl _⟩) (fun v Ω' hp => ?_) (fun _ _ h => h.elim)
  obtain ⟨rfl, rfl⟩ := hp
  generalize hq : leafTot s k L = T at *
  have no : ¬ (k ≤ L ∧ k * (k - 1) / 2 ≤ T ∧ T ≤ k * (k - 1) / 2 + k * (L - k)) → V κ MX10_canBeOut (rmD d 0 0) (keepG G (VI (b2i (canOut s k L)))) noX 0 0 μ 0 0 (Wm G) 56 [some (VL s), none, some (VI k), some (VL L), none, some (VL T), none, some (VL (k * (k - 1) / 2)), none] [] := fun h => by
    refine V_ex sX10_canBeOut_56 (by rfl) (by first | exact trivial | exact Or.inl trivial | exact Or.inr rfl | exact Or.inl rfl) ?_
    refine V_zret dX10_canBeOut_57 rfl (by first | exact Or.inl rfl | exact Or.inr rfl | exact b2i_01 _) (by decide) ⟨by rw [canOut, hq, decide_eq_false h]; rfl, rfl⟩
  refine V_ex sX10_canBeOut_6 (by rfl) (by exact ⟨hkR, by unfold R32; omega, ⟨by unfold R64; omega, by unfold R64; omega, by decide⟩, hkR, by unfold R64; omega, by unfold R64; omega⟩) ?_
  rw [td_nn hkk.1]
  refine V_liflt dX10_canBeOut_25 (tgt := 56) (by decide) (fun q => ?_) (fun q => ?_)
  · exact no (by omega)
  · refine V_ex sX10_canBeOut_28 (by rfl) (by exact ⟨hT, by unfold R64; omega⟩) ?_
    refine V_liflt dX10_canBeOut_33 (tgt := 56) (by decide) (fun q2 => ?_) (fun q2 => ?_)
    · exact no (by omega)
    · have := hkL (by omega)
      refine V_ex sX10_canBeOut_36 (by rfl) (by exact ⟨hkR, hkR, hT, by unfold R64; omega⟩) ?_
      refine V_lifgt dX10_canBeOut_49 (tgt := 56) (by decide) (fun q3 => ?_) (fun q3 => ?_)
      · exact no (by omega)
      · refine V_ex sX10_canBeOut_52 (by rfl) (by first | exact trivial | exact Or.inl trivial | exact Or.inr rfl | exact Or.inl rfl) ?_
        refine V_goto dX10_canBeOut_53 (tgt := 57) (by decide) ?_
        refine V_zret dX10_canBeOut_57 rfl (by first | exact Or.inl rfl | exact Or.inr rfl | exact b2i_01 _) (by decide) ⟨by rw [canOut, hq, decide_eq_true ⟨by omega, by omega, by omega⟩]; rfl, rfl⟩
def rowsS (k n total : Int) : Int :=
  if k < 0 ∨ n < k ∨ 60 < n then 0
  else if total - k * (k - 1) / 2 < 0 ∨ k * (n - k) < total - k * (k - 1) / 2 then 0
  else coS (n.toNat - (min k (n - k)).toNat) (min k (n - k)).toNat (min (total - k * (k - 1) / 2) (k * (n - k) - (total - k * (k - 1) / 2))).toNat
set_option maxRecDepth 100000 in
set_option maxHeartbeats 4000000 in
theorem c_rows {κ : Kx} (hκ : KOK κ) {d : Nat} {k n t : Int} {G : Wd} (hk : R32 k) (hn : R32 n) (ht : -1000000000000000 ≤ t ∧ t ≤ 1000000000000000) (hd : 1 ≤ d) : Ct κ MX10_rows d 0 0 [VR 133, VI k, VI n, VL t] (Wm G) (fun v Ω' => v = some (VL (rowsS k n t)) ∧ ∃ G', Ω' = Wm G' ∧ Fs [] [134] G G') noX := by
  refine Ct_of hκ kX10_rows.1 rfl (Nat.le_of_ble_eq_true rfl) (ls := [some (VR 133), some (VI k), some (VI n), some (VL t), none, none, none, none, none]) rfl (fun μ => ?_)
  have zero1 : (k < 0 ∨ n < k ∨ 60 < n) → V κ MX10_rows (rmD d 0 0) (fun v Ω' => v = some (VL (rowsS k n t)) ∧ ∃ G', Ω' = Wm G' ∧ Fs [] [134] G G') noX 0 0 μ 0 0 (Wm G) 15 [some (VR 133), some (VI k), some (VI n), some (VL t), none, none, none, none, none] [] := fun h => by
    refine V_ex sX10_rows_15 (by rfl) (by first | exact trivial | exact Or.inl trivial | exact Or.inr rfl | exact Or.inl rfl) ?_
    refine V_lret dX10_rows_16 rfl (by decide) ⟨by rw [rowsS, if_pos h], G, rfl, Fs.refl _ _ _⟩
  refine V_ex sX10_rows_0 (by rfl) (by first | exact trivial | exact Or.inl trivial | exact Or.inr rfl | exact Or.inl rfl) ?_
  refine V_iflt dX10_rows_1 (tgt := 15) (by decide) (by exact hk) (fun q => ?_) (fun q => ?_)
  · exact zero1 (by omega)
  · refine V_ex sX10_rows_4 (by rfl) (by first | exact trivial | exact Or.inl trivial | exact Or.inr rfl | exact Or.inl rfl) ?_
    refine V_icmpgt dX10_rows_6 (tgt := 15) (by decide) (by exact ⟨hk, hn⟩) (fun q2 => ?_) (fun q2 => ?_)
    · exact zero1 (by omega)
    · refine V_ex sX10_rows_9 (by rfl) (by first | exact trivial | exact Or.inl trivial | exact Or.inr rfl | exact Or.inl rfl) ?_
      refine V_icmple dX10_rows_12 (tgt := 17) (by decide) (by exact ⟨hn, by unfold R32; omega⟩) (fun q3 => ?_) (fun q3 => ?_)
      · have hkk : 0 ≤ k * (k - 1) ∧ k * (k - 1) ≤ 60 * 60 := by
          rcases Int.lt_or_le k 1 with h | h
          · have : k = 0 := by omega
            subst this; decide
          · exact mul_bd q (by omega) (by omega) (by omega)
        have hkn : 0 ≤ k * (n - k) := Int.mul_nonneg q (by omega)
        have hkn2 : 4 * (k * (n - k)) ≤ 3600 := by
          have e : 4 * (k * (n - k)) = n * n - (n - 2 * k) * (n - 2 * k) := by grind
          have h1 : n * n ≤ 60 * 60 := Int.mul_le_mul q3 q3 (by omega) (by decide)
          have h2 : 0 ≤ (n - 2 * k) * (n - 2 * k) := by
            rcases Int.lt_or_le (n - 2 * k) 0 with h | h
            · exact Int.le_of_lt (Int.mul_pos_of_neg_of_neg h h)
            · exact Int.mul_nonneg h h
          omega
        have zero2 : ∀ a b, (t - k * (k - 1) / 2 < 0 ∨ k * (n - k) < t - k * (k - 1) / 2) → V κ MX10_rows (rmD d 0 0) (fun v Ω' => v = some (VL (rowsS k n t)) ∧ ∃ G', Ω' = Wm G' ∧ Fs [] [134] G G') noX 0 0 μ 0 0 (Wm G) 56 [some (VR 133), some (VI k), some (VI n), some (VL t), none, some a, none, some b, none] [] := fun a b h => by
          refine V_ex sX10_rows_56 (by rfl) (by first | exact trivial | exact Or.inl trivial | exact Or.inr rfl | exact Or.inl rfl) ?_
          refine V_lret dX10_rows_57 rfl (by decide) ⟨by rw [rowsS, if_neg (by omega), if_pos h], G, rfl, Fs.refl _ _ _⟩
        refine V_ex sX10_rows_17 (by rfl) (by rw [td_nn hkk.1]; exact ⟨hk, by unfold R32; omega, ⟨by unfold R64; omega, by unfold R64; omega, by decide⟩, hk, by unfold R32; omega, by unfold R64; omega, r64_0⟩) ?_
        rw [td_nn hkk.1]
        refine V_liflt dX10_rows_45 (tgt := 56) (by decide) (fun q4 => ?_) (fun q4 => ?_)
        · exact zero2 _ _ (Or.inl q4)
        · refine V_ex sX10_rows_48 (by rfl) (by exact ⟨by unfold R64; omega, by unfold R64; omega⟩) ?_
          refine V_lifle dX10_rows_53 (tgt := 58) (by decide) (fun q5 => ?_) (fun q5 => ?_)
          · refine V_ex sX10_rows_58 (by rfl) (by first | exact trivial | exact Or.inl trivial | exact Or.inr rfl | exact Or.inl rfl) ?_
            refine V_mmin (M := MX10_rows) dX10_rows_63 lRX10_29 (by unfold R32 at *; omega) (Nat.le_of_ble_eq_true rfl) (fit_rm (by omega)) ⟨Nat.le_refl _, Nat.le_refl _⟩ ?_
            refine V_ex sX10_rows_66 (by rfl) (by first | exact trivial | exact Or.inl trivial | exact Or.inr rfl | exact Or.inl rfl) ?_
            refine V_mminl (M := MX10_rows) dX10_rows_74 lRX10_35 (by unfold R64; omega) (Nat.le_of_ble_eq_true rfl) (fit_rm (by omega)) ⟨Nat.le_refl _, Nat.le_refl _⟩ ?_
            generalize hm : (if n - k < k then n - k else k) = m
            generalize hpl : (if k * (n - k) - (t - k * (k - 1) / 2) < t - k * (k - 1) / 2 then k * (n - k) - (t - k * (k - 1) / 2) else t - k * (k - 1) / 2) = pl
            have hm2 : m = min k (n - k) := by rw [← hm]; split <;> omega
            have hpl2 : pl = min (t - k * (k - 1) / 2) (k * (n - k) - (t - k * (k - 1) / 2)) := by rw [← hpl]; split <;> omega
            obtain ⟨m', rfl⟩ : ∃ m' : Nat, m = (m' : Int) := ⟨m.toNat, by omega⟩
            obtain ⟨pl', rfl⟩ : ∃ pl' : Nat, pl = (pl' : Int) := ⟨pl.toNat, by omega⟩
            obtain ⟨n', rfl⟩ : ∃ n' : Nat, n = (n' : Int) := ⟨n.toNat, by omega⟩
            refine V_ex sX10_rows_77 (by rfl) (by first | exact trivial | exact Or.inl trivial | exact Or.inr rfl | exact Or.inl rfl) ?_
            refine V_callV (M := MX10_rows) (N := MX10_coefficient) (As := [VI (m' : Nat), VI (n' : Nat), VI (pl' : Nat)]) (rest := []) dX10_rows_78 lRX10_38 kX10_coefficient rfl (rfl) rfl (c_coefficient (d := 0) hκ (k := m') (n := n') (p := pl') (by omega) (by omega) (by omega)) rfl rfl (Nat.le_of_ble_eq_true rfl) (fit_rm (by omega)) (⟨Nat.le_refl _, Nat.le_refl _⟩) (fun v Ω' hp2 => ?_) (fun _ _ h => h.elim)
            obtain ⟨rfl, G1, rfl, f1⟩ := hp2
            refine V_lret dX10_rows_81 rfl (by decide) ⟨by rw [rowsS, if_neg (by omega), if_neg (by omega), ← hm2, ← hpl2]; rfl, G1, rfl, f1⟩
          · exact zero2 _ _ (Or.inr (by omega))
      · exact zero1 (by omega)
