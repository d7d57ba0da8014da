/-! Ways: roots and counts -/
theorem mul_bd {x y A B : Int} (hx : 0 ≤ x) (hx2 : x ≤ A) (hy : 0 ≤ y) (hy2 : y ≤ B) : 0 ≤ x * y ∧ x * y ≤ A * B :=
  ⟨Int.mul_nonneg hx hy, Int.mul_le_mul hx2 hy2 hy (by omega)⟩
set_option maxRecDepth 100000 in
set_option maxHeartbeats 4000000 in
theorem c_largest {κ : Kx} (hκ : KOK κ) {d : Nat} {a b c s : Int} {G : Wd} (ha : R32 a) (hb : R32 b) (hc : R32 c) (hs : R64 s) (hR : ∀ x : Int, 0 ≤ x → x ≤ 2000000000 → R64 ((a * x + b) * x + c)) (h0 : c ≤ s) (h1 : s < (a * 2000000000 + b) * 2000000000 + c) :
    Ct κ MX10_largest d 0 0 [VI a, VI b, VI c, VL s] (Wm G) (fun v Ω' => ∃ r : Int, (0 ≤ r ∧ r < 2000000000 ∧ (a * r + b) * r + c ≤ s ∧ s < (a * (r + 1) + b) * (r + 1) + c) ∧ keepG G (VL r) v Ω') noX := by
  refine Ct_of hκ kX10_largest.1 rfl (Nat.le_of_ble_eq_true rfl) (ls := [some (VI a), some (VI b), some (VI c), some (VL s), none, none, none, none, none, none, none, none]) rfl (fun μ => ?_)
  refine V_ex sX10_largest_0 (by rfl) (by exact trivial) ?_
  have fin : ∀ (good bad round : Int) (x y : Option Vl), 0 ≤ good → bad ≤ 2000000000 → good < bad → bad - good ≤ 1 → (a * good + b) * good + c ≤ s → s < (a * bad + b) * bad + c → V κ MX10_largest (rmD d 0 0) (fun v Ω' => ∃ r : Int, (0 ≤ r ∧ r < 2000000000 ∧ (a * r + b) * r + c ≤ s ∧ s < (a * (r + 1) + b) * (r + 1) + c) ∧ keepG G (VL r) v Ω') noX 0 0 μ 0 0 (Wm G) 75 [some (VI a), some (VI b), some (VI c), some (VL s), none, some (VL good), none, some (VL bad), none, some (VI round), x, y] [] := by
    intro good bad round x y g0 g1 g2 g3 g4 g5
    refine V_ex sX10_largest_75 (by rfl) (by exact trivial) ?_
    refine V_lret dX10_largest_77 rfl (by decide) ⟨good, ⟨g0, by omega, g4, by rw [show good + 1 = bad by omega]; exact g5⟩, rfl, rfl⟩
  suffices L : ∀ (k : Nat) (good bad round : Int) (x y : Option Vl), round = 40 - (k : Int) → k ≤ 40 → 0 ≤ good → bad ≤ 2000000000 → good < bad → (bad - good ≤ 1 ∨ (9 ≤ k ∧ bad - good ≤ 2 ^ (k - 9))) → (a * good + b) * good + c ≤ s → s < (a * bad + b) * bad + c → V κ MX10_largest (rmD d 0 0) (fun v Ω' => ∃ r : Int, (0 ≤ r ∧ r < 2000000000 ∧ (a * r + b) * r + c ≤ s ∧ s < (a * (r + 1) + b) * (r + 1) + c) ∧ keepG G (VL r) v Ω') noX 0 0 μ 0 0 (Wm G) 11 [some (VI a), some (VI b), some (VI c), some (VL s), none, some (VL good), none, some (VL bad), none, some (VI round), x, y] [] from L 40 0 2000000000 0 _ _ (by omega) (by omega) (by omega) (by omega) (by omega) (Or.inr ⟨by omega, by decide⟩) (by simpa using h0) h1
  intro k
  induction k with
  | zero =>
    intro good bad round x y hr hk g0 g1 g2 g3 g4 g5
    refine V_ex sX10_largest_11 (by rfl) (by exact trivial) ?_
    refine V_icmpge dX10_largest_15 (tgt := 75) (by decide) (by unfold R32; constructor <;> omega) (fun q => ?_) (fun q => ?_)
    · exact fin _ _ _ _ _ g0 g1 g2 (by omega) g4 g5
    · omega
  | succ k ih =>
    intro good bad round x y hr hk g0 g1 g2 g3 g4 g5
    refine V_ex sX10_largest_11 (by rfl) (by exact trivial) ?_
    refine V_icmpge dX10_largest_15 (tgt := 75) (by decide) (by unfold R32; constructor <;> omega) (fun q => ?_) (fun q => ?_)
    · omega
    · refine V_ex sX10_largest_18 (by rfl) (by exact ⟨by unfold R64; omega, by unfold R64; omega⟩) ?_
      refine V_lifle dX10_largest_25 (tgt := 75) (by decide) (fun q2 => ?_) (fun q2 => ?_)
      · exact fin _ _ _ _ _ g0 g1 g2 (by omega) g4 g5
      · have hk9 : 9 ≤ k := by
          rcases g3 with g3 | ⟨g3, g6⟩
          · omega
          · rcases Nat.lt_or_ge k 9 with h | h
            · have : k + 1 - 9 = 0 := by omega
              rw [this] at g6; omega
            · exact h
        have hp : bad - good ≤ 2 * 2 ^ (k - 9) := by
          rcases g3 with g3 | ⟨g3, g6⟩
          · omega
          · have e : (2 : Int) ^ (k + 1 - 9) = 2 ^ (k - 9) * 2 := by rw [← Int.pow_succ]; congr 1; omega
            omega
        have hm := hR ((good + bad) / 2) (by omega) (by omega)
        refine V_ex sX10_largest_28 (by rfl) (by rw [td_nn (by omega)]; exact ⟨⟨by unfold R64; omega, by unfold R64; omega, by decide⟩, ha, hb, hc, hm, hs⟩) ?_
        rw [td_nn (by omega)]
        refine V_lifgt dX10_largest_55 (tgt := 65) (by decide) (fun q3 => ?_) (fun q3 => ?_)
        · refine V_ex sX10_largest_65 (by rfl) (by exact trivial) ?_
          refine V_ex sX10_largest_69 (by rfl) (by exact trivial) ?_
          refine V_goto dX10_largest_72 (tgt := 11) (by decide) ?_
          exact ih _ _ _ _ _ (by omega) (by omega) g0 (by omega) (by omega) (Or.inr ⟨hk9, by omega⟩) g4 q3
        · refine V_ex sX10_largest_58 (by rfl) (by exact trivial) ?_
          refine V_goto dX10_largest_62 (tgt := 69) (by decide) ?_
          refine V_ex sX10_largest_69 (by rfl) (by exact trivial) ?_
          refine V_goto dX10_largest_72 (tgt := 11) (by decide) ?_
          exact ih _ _ _ _ _ (by omega) (by omega) (by omega) g1 (by omega) (Or.inr ⟨hk9, by omega⟩) q3 g5
def leafTot (s k L : Int) : Int := if 0 ≤ L * (2 * L + 1) - s - 3 * k ∧ (L * (2 * L + 1) - s - 3 * k) % 4 = 0 then (L * (2 * L + 1) - s - 3 * k) / 4 else -1
set_option maxRecDepth 100000 in
set_option maxHeartbeats 4000000 in
theorem c_leafTotal {κ : Kx} (hκ : KOK κ) {d : Nat} {s k L : Int} {G : Wd} (hk : R32 k) (hR : R64 (L * (2 * L + 1) - s - 3 * k)) : Ct κ MX10_leafTotal d 0 0 [VL s, VI k, VL L] (Wm G) (keepG G (VL (leafTot s k L))) noX := by
  refine Ct_of hκ kX10_leafTotal.1 rfl (Nat.le_of_ble_eq_true rfl) (ls := [some (VL s), none, some (VI k), some (VL L), none, none, none]) rfl (fun μ => ?_)
  have no : ¬ (0 ≤ L * (2 * L + 1) - s - 3 * k ∧ (L * (2 * L + 1) - s - 3 * k) % 4 = 0) → V κ MX10_leafTotal (rmD d 0 0) (keepG G (VL (leafTot s k L))) noX 0 0 μ 0 0 (Wm G) 47 [some (VL s), none, some (VI k), some (VL L), none, some (VL (L * (2 * L + 1) - s - 3 * k)), none] [] := fun h => by
    refine V_ex sX10_leafTotal_47 (by rfl) (by exact trivial) ?_
    refine V_lret dX10_leafTotal_50 rfl (by decide) ⟨by rw [leafTot, if_neg h], rfl⟩
  refine V_ex sX10_leafTotal_0 (by rfl) (by exact ⟨hk, hR, r64_0⟩) ?_
  generalize hq : L * (2 * L + 1) - s - 3 * k = z at *
  refine V_liflt dX10_leafTotal_24 (tgt := 47) (by decide) (fun q => ?_) (fun q => ?_)
  · exact no (by omega)
  · refine V_ex sX10_leafTotal_27 (by rfl) (by rw [tm_nn q]; exact ⟨⟨hR, by unfold R64; omega, by decide⟩, by unfold R64; omega, r64_0⟩) ?_
    rw [tm_nn q]
    refine V_lifne dX10_leafTotal_35 (tgt := 47) (by decide) (fun q2 => ?_) (fun q2 => ?_)
    · exact no (by omega)
    · refine V_ex sX10_leafTotal_38 (by rfl) (by exact ⟨hR, by unfold R64; omega, by decide⟩) ?_
      refine V_goto dX10_leafTotal_44 (tgt := 50) (by decide) ?_
      rw [td_nn q]
      refine V_lret dX10_leafTotal_50 rfl (by decide) ⟨by rw [leafTot, hq, if_pos ⟨q, q2⟩], rfl⟩
