/-! TornLeaves: sewn, street, several -/
theorem sewn_top {s r : Int} (hs : 1 ≤ s) (h0 : 0 ≤ r) (h1 : (2 * r + -3) * r + -2 ≤ s) (h2 : s < (2 * (r + 1) + -3) * (r + 1) + -2) : 2 ≤ r ∧ (2 * r + 1) * (r - 2) ≤ s ∧ ∀ L, isSewn s L → L = r := by
  have e1 : (2 * r + -3) * r + -2 = (2 * r + 1) * (r - 2) := by grind
  have e2 : (2 * (r + 1) + -3) * (r + 1) + -2 = (2 * (r + 1) + 1) * (r + 1 - 2) := by grind
  have hr : 2 ≤ r := by
    rcases (show r = 0 ∨ r = 1 ∨ 2 ≤ r by omega) with h | h | h
    · subst h; omega
    · subst h; omega
    · exact h
  refine ⟨hr, by omega, fun L ⟨l1, l2, l3⟩ => ?_⟩
  rcases Int.lt_trichotomy L r with c | c | c
  · have := sew_lt l1 c; omega
  · exact c
  · have := sew_mono (show 2 ≤ r + 1 by omega) (show r + 1 ≤ L by omega); omega
theorem sewn_R : ∀ x : Int, 0 ≤ x → x ≤ 2000000000 → R64 ((2 * x + -3) * x + -2) := fun x h0 h1 => by
  have h2 := mul_bd (x := 2 * x + 3) (y := x) (A := 4000000003) (B := 2000000000) (by omega) (by omega) h0 h1
  have e : (2 * x + -3) * x + -2 = (2 * x + 3) * x - 6 * x - 2 := by grind
  unfold R64
  omega
set_option maxRecDepth 100000 in
set_option maxHeartbeats 4000000 in
theorem c_xSewn {κ : Kx} (hκ : KOK κ) {d s0 : Nat} {K s : Int} {A : Ab} {G : Wd} (hC : RC G s0 A) (hI : Inv K A) (hR : aR G) (hs : R64 s) (hd : 20 ≤ d) : Ct κ MX11_sewn d 16 128 [VR 1, VL s] (Wm G) (cP G A ((sewnP s).1 = 0) (some (VL (sewnP s).2))) (cX G A ((sewnP s).1 = 1) IAE) := by
  refine Ct_of hκ kX11_sewn.1 rfl (Nat.le_of_ble_eq_true rfl) (ls := [some (VR 1), some (VL s), none, none, none]) rfl (fun μ => ?_)
  refine V_ex sX11_sewn_0 (by rfl) (by first | exact trivial | exact Or.inr rfl | exact Or.inl rfl | (simp only [ob, obA, R32, R64] at *; omega) | (simp only [ob, obA, R32, R64] at *; and_intros <;> omega) | (simp [ob, obA])) ?_
  refine V_callS (M := MX11_sewn) (N := MX11_needSum) dX11_sewn_1 lRX11_308 kX11_needSum rfl (c_needSum (d := 6) hκ hs (by omega)) rfl rfl (Nat.le_of_ble_eq_true rfl) (fit_rm (by omega)) (⟨Nat.le_of_ble_eq_true rfl, Nat.le_of_ble_eq_true rfl⟩) (fun v Ω' hp => ?_) (fun E Ω' h => ⟨by rw [h.2.1, h.2.2]; exact cX_0 hC (by rw [sewnP, if_pos h.1]), rfl, Nat.le_of_ble_eq_true rfl, Nat.le_of_ble_eq_true rfl⟩)
  obtain ⟨h1, rfl, rfl⟩ := hp
  refine V_ex sX11_sewn_4 (by rfl) (by first | exact trivial | exact Or.inr rfl | exact Or.inl rfl | (simp only [ob, obA, R32, R64] at *; omega) | (simp only [ob, obA, R32, R64] at *; and_intros <;> omega) | (simp [ob, obA])) ?_
  refine V_callS (M := MX11_sewn) (N := MX10_largest) dX11_sewn_10 lRX11_329 kX10_largest rfl (c_largest (d := 6) hκ (a := 2) (b := -3) (c := -2) (s := s) (by unfold R32; omega) (by unfold R32; omega) (by unfold R32; omega) hs sewn_R (by omega) (by omega)) rfl rfl (Nat.le_of_ble_eq_true rfl) (fit_rm (by omega)) (⟨Nat.le_of_ble_eq_true rfl, Nat.le_of_ble_eq_true rfl⟩) (fun v Ω' hp => ?_) (fun _ _ h => h.elim)
  obtain ⟨r, ⟨r0, r1, r2, r3⟩, rfl, rfl⟩ := hp
  obtain ⟨t1, t2, t3⟩ := sewn_top h1.1 r0 r2 r3
  have hb := mul_bd (A := 4000000001) (B := 2000000000) (show 0 ≤ 2 * r + 1 by omega) (by omega) (show 0 ≤ r - 2 by omega) (by omega)
  refine V_ex sX11_sewn_13 (by rfl) (by rw [tm_nn (by omega)]; exact ⟨⟨by unfold R64; omega, by unfold R64; omega, by decide⟩, by unfold R64; omega, by unfold R64; omega⟩) ?_
  rw [tm_nn (by omega)]
  refine V_lifne dX11_sewn_21 (tgt := 46) (by decide) (fun q21 => ?_) (fun q21 => ?_)
  · refine V_ex sX11_sewn_46 (by rfl) (by first | exact trivial | exact Or.inr rfl | exact Or.inl rfl | (simp only [ob, obA, R32, R64] at *; omega) | (simp only [ob, obA, R32, R64] at *; and_intros <;> omega) | (simp [ob, obA])) ?_
    refine V_lret dX11_sewn_49 rfl (by decide) (by rw [sewnP, if_neg (not_not_intro h1), sewnV_no (fun L hL => q21 (by rw [← t3 L hL]; exact hL.2.1))]; exact cP_0 hC rfl rfl)
  · refine V_ex sX11_sewn_24 (by rfl) (by exact ⟨by unfold R64; omega, hs⟩) ?_
    refine V_lifne dX11_sewn_39 (tgt := 46) (by decide) (fun q39 => ?_) (fun q39 => ?_)
    · refine V_ex sX11_sewn_46 (by rfl) (by first | exact trivial | exact Or.inr rfl | exact Or.inl rfl | (simp only [ob, obA, R32, R64] at *; omega) | (simp only [ob, obA, R32, R64] at *; and_intros <;> omega) | (simp [ob, obA])) ?_
      refine V_lret dX11_sewn_49 rfl (by decide) (by rw [sewnP, if_neg (not_not_intro h1), sewnV_no (fun L hL => q39 (by rw [← t3 L hL]; exact hL.2.2))]; exact cP_0 hC rfl rfl)
    · refine V_ex sX11_sewn_42 (by rfl) (by first | exact trivial | exact Or.inr rfl | exact Or.inl rfl | (simp only [ob, obA, R32, R64] at *; omega) | (simp only [ob, obA, R32, R64] at *; and_intros <;> omega) | (simp [ob, obA])) ?_
      refine V_goto dX11_sewn_43 (tgt := 49) (by decide) ?_
      refine V_lret dX11_sewn_49 rfl (by decide) (by rw [sewnP, if_neg (not_not_intro h1), sewnV_is ⟨t1, q21, q39⟩]; exact cP_0 hC rfl rfl)
theorem str_R {e : Int} (he : e = 0 ∨ e = 1) : ∀ x : Int, 0 ≤ x → x ≤ 2000000000 → R64 ((1 * x + e) * x + 0) := fun x h0 h1 => by
  have h2 := mul_bd (x := 1 * x + e) (y := x) (A := 2000000001) (B := 2000000000) (by omega) (by omega) h0 h1
  unfold R64
  omega
theorem str_top {s e r : Int} (he : e = 0 ∨ e = 1) (h0 : 0 ≤ r) (h1 : (1 * r + e) * r + 0 ≤ s) (h2 : s < (1 * (r + 1) + e) * (r + 1) + 0) : theH s e = r + 1 ∧ s < (r + 1) * (r + 1 + e) := by
  have e1 : (r + 1 - 1) * (r + 1 - 1 + e) = (1 * r + e) * r + 0 := by grind
  have e2 : (r + 1) * (r + 1 + e) = (1 * (r + 1) + e) * (r + 1) + 0 := by grind
  exact ⟨theH_eq (by omega) ⟨by omega, by omega, by omega⟩, by omega⟩
set_option maxRecDepth 100000 in
set_option maxHeartbeats 4000000 in
theorem c_xStreet {κ : Kx} (hκ : KOK κ) {d s0 : Nat} {K s e w : Int} {A : Ab} {G : Wd} (hC : RC G s0 A) (hI : Inv K A) (hR : aR G) (hs : R64 s) (he : R32 e) (hw : R32 w) (hd : 20 ≤ d) : Ct κ MX11_street d 16 128 [VR 1, VL s, VI e, VI w] (Wm G) (cP G A ((streetP s e w).1 = 0) (some (VL (streetP s e w).2))) (cX2 G A (streetP s e w).1) := by
  refine Ct_of hκ kX11_street.1 rfl (Nat.le_of_ble_eq_true rfl) (ls := [some (VR 1), some (VL s), none, some (VI e), some (VI w), none, none, none, none]) rfl (fun μ => ?_)
  have go : (e = 0 ∨ e = 1) → V κ MX11_street (rmD d 16 128) (cP G A ((streetP s e w).1 = 0) (some (VL (streetP s e w).2))) (cX2 G A (streetP s e w).1) 16 128 μ 0 0 (Wm (G)) 20 [some (VR 1), some (VL s), none, some (VI e), some (VI w), none, none, none, none] [] := fun hee => by
    have hee2 : 0 ≤ e ∧ e ≤ 1 := by omega
    refine V_ex sX11_street_20 (by rfl) (by first | exact trivial | exact Or.inr rfl | exact Or.inl rfl | (simp only [ob, obA, R32, R64] at *; omega) | (simp only [ob, obA, R32, R64] at *; and_intros <;> omega) | (simp [ob, obA])) ?_
    refine V_callS (M := MX11_street) (N := MX11_needSum) dX11_street_21 lRX11_308 kX11_needSum rfl (c_needSum (d := 6) hκ hs (by omega)) rfl rfl (Nat.le_of_ble_eq_true rfl) (fit_rm (by omega)) (⟨Nat.le_of_ble_eq_true rfl, Nat.le_of_ble_eq_true rfl⟩) (fun v Ω' hp => ?_) (fun E Ω' h => ⟨by rw [h.2.1, h.2.2]; exact cX2_2 hC (by rw [streetP, if_neg (not_not_intro hee2), if_pos h.1]), rfl, Nat.le_of_ble_eq_true rfl, Nat.le_of_ble_eq_true rfl⟩)
    obtain ⟨h1, rfl, rfl⟩ := hp
    refine V_ex sX11_street_24 (by rfl) (by first | exact trivial | exact Or.inr rfl | exact Or.inl rfl | (simp only [ob, obA, R32, R64] at *; omega) | (simp only [ob, obA, R32, R64] at *; and_intros <;> omega) | (simp [ob, obA])) ?_
    refine V_callS (M := MX11_street) (N := MX10_largest) dX11_street_28 lRX11_329 kX10_largest rfl (c_largest (d := 6) hκ (a := 1) (b := e) (c := 0) (s := s) (by unfold R32; omega) he (by unfold R32; omega) hs (str_R hee) (by omega) (by omega)) rfl rfl (Nat.le_of_ble_eq_true rfl) (fit_rm (by omega)) (⟨Nat.le_of_ble_eq_true rfl, Nat.le_of_ble_eq_true rfl⟩) (fun v Ω' hp => ?_) (fun _ _ h => h.elim)
    obtain ⟨r, ⟨r0, r1, r2, r3⟩, rfl, rfl⟩ := hp
    obtain ⟨t1, t2⟩ := str_top hee r0 r2 r3
    have hb := mul_bd (A := 2000000000) (B := 2000000001) (show 0 ≤ r + 1 by omega) (by omega) (show 0 ≤ r + 1 + e by omega) (by omega)
    refine V_ex sX11_street_31 (by rfl) (by rw [tm_nn (by omega)]; exact ⟨he, ⟨by unfold R64; omega, by unfold R64; omega, by decide⟩, he, by unfold R64; omega, by unfold R64; omega⟩) ?_
    rw [tm_nn (by omega)]
    refine V_lifne dX11_street_56 (tgt := 63) (by decide) (fun q56 => ?_) (fun q56 => ?_)
    · refine V_ex sX11_street_63 (by rfl) (by first | exact trivial | exact Or.inr rfl | exact Or.inl rfl | (simp only [ob, obA, R32, R64] at *; omega) | (simp only [ob, obA, R32, R64] at *; and_intros <;> omega) | (simp [ob, obA])) ?_
      refine V_ifeq dX11_street_65 (tgt := 73) (by decide) (by simp only [R32, R64] at *; omega) (fun q65 => ?_) (fun q65 => ?_)
      · refine V_ex sX11_street_73 (by rfl) (by first | exact trivial | exact Or.inr rfl | exact Or.inl rfl | (simp only [ob, obA, R32, R64] at *; omega) | (simp only [ob, obA, R32, R64] at *; and_intros <;> omega) | (simp [ob, obA])) ?_
        refine V_lret dX11_street_75 rfl (by decide) (by rw [streetP, if_neg (not_not_intro hee2), if_neg (not_not_intro h1), t1, if_neg (by omega), if_pos q65]; exact cP_0 hC rfl rfl)
      · refine V_ex sX11_street_68 (by rfl) (by first | exact trivial | exact Or.inr rfl | exact Or.inl rfl | (simp only [ob, obA, R32, R64] at *; omega) | (simp only [ob, obA, R32, R64] at *; and_intros <;> omega) | (simp [ob, obA])) ?_
        refine V_goto dX11_street_70 (tgt := 75) (by decide) ?_
        refine V_lret dX11_street_75 rfl (by decide) (by rw [streetP, if_neg (not_not_intro hee2), if_neg (not_not_intro h1), t1, if_neg (by omega), if_neg q65]; exact cP_0 hC rfl rfl)
    · refine V_ex sX11_street_59 (by rfl) (by first | exact trivial | exact Or.inr rfl | exact Or.inl rfl | (simp only [ob, obA, R32, R64] at *; omega) | (simp only [ob, obA, R32, R64] at *; and_intros <;> omega) | (simp [ob, obA])) ?_
      refine V_lret dX11_street_62 rfl (by decide) (by rw [streetP, if_neg (not_not_intro hee2), if_neg (not_not_intro h1), t1, if_pos (by omega)]; exact cP_0 hC rfl rfl)
  refine V_ex sX11_street_0 (by rfl) (by first | exact trivial | exact Or.inr rfl | exact Or.inl rfl | (simp only [ob, obA, R32, R64] at *; omega) | (simp only [ob, obA, R32, R64] at *; and_intros <;> omega) | (simp [ob, obA])) ?_
  refine V_ifeq dX11_street_1 (tgt := 20) (by decide) (by simp only [R32, R64] at *; omega) (fun q1 => ?_) (fun q1 => ?_)
  · exact go (Or.inl q1)
  · refine V_ex sX11_street_4 (by rfl) (by first | exact trivial | exact Or.inr rfl | exact Or.inl rfl | (simp only [ob, obA, R32, R64] at *; omega) | (simp only [ob, obA, R32, R64] at *; and_intros <;> omega) | (simp [ob, obA])) ?_
    refine V_icmpeq dX11_street_6 (tgt := 20) (by decide) (by simp only [R32, R64] at *; omega) (fun q6 => ?_) (fun q6 => ?_)
    · exact go (Or.inr q6)
    · refine V_throwW (M := MX11_street) (is := 355) (text := "no such side") tC_nse (by decide +kernel) dX11_street_9 (by decide +kernel) dX11_street_13 dX11_street_16 dX11_street_19 rfl (Nat.le_of_ble_eq_true rfl) ⟨by show 6 ≤ d; omega, by show 100 ≤ 100 + 40 * d; omega⟩ ⟨Nat.le_of_ble_eq_true rfl, Nat.le_of_ble_eq_true rfl⟩ ⟨Nat.le_of_ble_eq_true rfl, Nat.le_of_ble_eq_true rfl⟩ (cX2_1 hC (by rw [streetP, if_pos (by omega)]))
theorem sevP_at {s k i n : Int} {pre rest : List Int} (hg : (1 ≤ s ∧ s ≤ 1000000000000000000) ∧ 1 ≤ k ∧ k ≤ 60) (h : sevL s k k.toNat (theW s + 1) = pre ++ n :: rest) (hi : i = (pre.length : Nat)) : sevP s k i = (0, n) := by
  subst hi
  unfold sevP
  rw [if_neg (not_not_intro hg), if_neg (by omega), dif_pos ⟨by rw [h, List.length_append, List.length_cons]; omega, by omega⟩]
  simp [h]
theorem sevP_len {s k : Int} (hg : (1 ≤ s ∧ s ≤ 1000000000000000000) ∧ 1 ≤ k ∧ k ≤ 60) : sevP s k (-1) = (0, (((sevL s k k.toNat (theW s + 1)).length : Nat) : Int)) := by
  unfold sevP
  rw [if_neg (not_not_intro hg), if_pos rfl]
theorem sevP_no {s k i : Int} (hg : (1 ≤ s ∧ s ≤ 1000000000000000000) ∧ 1 ≤ k ∧ k ≤ 60) (h1 : i ≠ -1) (h : ¬ (0 ≤ i ∧ i < ((sevL s k k.toNat (theW s + 1)).length : Nat))) : sevP s k i = (1, 0) := by
  unfold sevP
  rw [if_neg (not_not_intro hg), if_neg h1, dif_neg (by omega)]
theorem sev_R : ∀ x : Int, 0 ≤ x → x ≤ 2000000000 → R64 ((2 * x + 1) * x + 0) := fun x h0 h1 => by
  have h2 := mul_bd (x := 2 * x + 1) (y := x) (A := 4000000001) (B := 2000000000) (by omega) (by omega) h0 h1
  unfold R64
  omega
theorem sev_top {s r : Int} (hs : s ≤ 1000000000000000000) (h0 : 0 ≤ r) (h1 : (2 * r + 1) * r + 0 ≤ s) (h2 : s < (2 * (r + 1) + 1) * (r + 1) + 0) : theW s = r ∧ r < 1000000000 := by
  have e1 : r * (2 * r + 1) = (2 * r + 1) * r + 0 := by grind
  have e2 : (r + 1) * (2 * r + 3) = (2 * (r + 1) + 1) * (r + 1) + 0 := by grind
  refine ⟨theW_eq ⟨h0, by omega, by omega⟩, ?_⟩
  rcases Int.lt_or_le r 1000000000 with h | h
  · exact h
  · have := w_mono (by decide) h; omega
set_option maxRecDepth 100000 in
set_option maxHeartbeats 4000000 in
theorem c_xSeveral {κ : Kx} (hκ : KOK κ) {d s0 : Nat} {K s k i : Int} {A : Ab} {G : Wd} (hC : RC G s0 A) (hI : Inv K A) (hR : aR G) (hs : R64 s) (hk : R32 k) (hi : R32 i) (hd : 20 ≤ d) : Ct κ MX11_several d 16 128 [VR 1, VL s, VI k, VI i] (Wm G) (cP G A ((sevP s k i).1 = 0) (some (VL (sevP s k i).2))) (cX2 G A (sevP s k i).1) := by
  refine Ct_of hκ kX11_several.1 rfl (Nat.le_of_ble_eq_true rfl) (ls := [some (VR 1), some (VL s), none, some (VI k), some (VI i), none, none, none, none]) rfl (fun μ => ?_)
  have L : ((1 ≤ s ∧ s ≤ 1000000000000000000) ∧ 1 ≤ k ∧ k ≤ 60) → ∀ (r : Int), 0 ≤ r → r < 1000000000 → theW s = r → ∀ (c : Nat) (m : Int) (pre : List Int) (many : Int), 1 ≤ m → m + c = k + 1 → sevL s k k.toNat (theW s + 1) = pre ++ sevL s k c (r + m) → many = (pre.length : Nat) → many < m → ¬ (0 ≤ i ∧ i < many) → V κ MX11_several (rmD d 16 128) (cP G A ((sevP s k i).1 = 0) (some (VL (sevP s k i).2))) (cX2 G A (sevP s k i).1) 16 128 μ (0 + 1 + 1 + 0) (0 + 6 + 6 + 0) (Wm (G)) 28 [some (VR 1), some (VL s), none, some (VI k), some (VI i), some (VL r), none, some (VI many), some (VI m)] [] := by
    intro hg r hr0 hr hw c
    induction c with
    | zero =>
      intro m pre many hm1 hm hL hmany hlt hno
      have hlen : ((sevL s k k.toNat (theW s + 1)).length : Int) = many := by rw [hL, sevL, List.append_nil]; omega
      refine V_ex sX11_several_28 (by rfl) (by first | exact trivial | exact Or.inr rfl | exact Or.inl rfl | (simp only [ob, obA, R32, R64] at *; omega) | (simp only [ob, obA, R32, R64] at *; and_intros <;> omega) | (simp [ob, obA])) ?_
      refine V_icmpgt dX11_several_31 (tgt := 71) (by decide) (by simp only [R32, R64] at *; omega) (fun q31 => ?_) (fun q31 => ?_)
      · refine V_ex sX11_several_71 (by rfl) (by first | exact trivial | exact Or.inr rfl | exact Or.inl rfl | (simp only [ob, obA, R32, R64] at *; omega) | (simp only [ob, obA, R32, R64] at *; and_intros <;> omega) | (simp [ob, obA])) ?_
        refine V_icmpeq dX11_several_74 (tgt := 88) (by decide) (by simp only [R32, R64] at *; omega) (fun q74 => ?_) (fun q74 => ?_)
        · refine V_ex sX11_several_88 (by rfl) (by first | exact trivial | exact Or.inr rfl | exact Or.inl rfl | (simp only [ob, obA, R32, R64] at *; omega) | (simp only [ob, obA, R32, R64] at *; and_intros <;> omega) | (simp [ob, obA])) ?_
          refine V_lret dX11_several_91 rfl (by decide) (by subst q74; rw [sevP_len hg, hlen]; exact cP_0 hC rfl rfl)
        · refine V_throwW (M := MX11_several) (is := 337) (text := "no such number of leaves") tC_nse (by decide +kernel) dX11_several_77 (by decide +kernel) dX11_several_81 dX11_several_84 dX11_several_87 rfl (Nat.le_of_ble_eq_true rfl) ⟨by show 6 ≤ d; omega, by show 100 ≤ 100 + 40 * d; omega⟩ ⟨Nat.le_of_ble_eq_true rfl, Nat.le_of_ble_eq_true rfl⟩ ⟨Nat.le_of_ble_eq_true rfl, Nat.le_of_ble_eq_true rfl⟩ (cX2_1 hC (by rw [sevP_no hg q74 (by omega)]))
      · omega
    | succ c ih =>
      intro m pre many hm1 hm hL hmany hlt hno
      have hmn := mul_bd (A := 1000000060) (B := 2000000121) (show 0 ≤ r + m by omega) (by omega) (show 0 ≤ 2 * (r + m) + 1 by omega) (by omega)
      have hk64 : R64 k := r32_64 hk
      rw [sevL] at hL
      have e1 : r + m + 1 = r + (m + 1) := by omega
      rw [e1] at hL
      refine V_ex sX11_several_28 (by rfl) (by first | exact trivial | exact Or.inr rfl | exact Or.inl rfl | (simp only [ob, obA, R32, R64] at *; omega) | (simp only [ob, obA, R32, R64] at *; and_intros <;> omega) | (simp [ob, obA])) ?_
      refine V_icmpgt dX11_several_31 (tgt := 71) (by decide) (by simp only [R32, R64] at *; omega) (fun q31 => ?_) (fun q31 => ?_)
      · omega
      · refine V_ex sX11_several_34 (by rfl) (by first | exact trivial | exact Or.inr rfl | exact Or.inl rfl | (simp only [ob, obA, R32, R64] at *; omega) | (simp only [ob, obA, R32, R64] at *; and_intros <;> omega) | (simp [ob, obA])) ?_
        refine V_callS (M := MX11_several) (N := MX10_canBeOut) dX11_several_42 lRX11_333 kX10_canBeOut rfl (c_canBeOut (d := 6) hκ (s := s) (k := k) (L := r + m) (by omega) (by omega) (by unfold R64; omega) (by omega)) rfl rfl (Nat.le_of_ble_eq_true rfl) (fit_rm (by omega)) (⟨Nat.le_of_ble_eq_true rfl, Nat.le_of_ble_eq_true rfl⟩) (fun v Ω' hp => ?_) (fun _ _ h => h.elim)
        obtain ⟨rfl, rfl⟩ := hp
        refine V_ifeqB dX11_several_45 (tgt := 65) (by decide) (fun q45 => ?_) (fun q45 => ?_)
        · refine V_ex sX11_several_65 (by rfl) (by first | exact trivial | exact Or.inr rfl | exact Or.inl rfl | (simp only [ob, obA, R32, R64] at *; omega) | (simp only [ob, obA, R32, R64] at *; and_intros <;> omega) | (simp [ob, obA])) ?_
          refine V_goto dX11_several_68 (tgt := 28) (by decide) ?_
          exact ih (m + 1) pre many (by omega) (by omega) (by rw [hL, if_neg (by rw [q45]; decide)]) hmany (by omega) hno
        · refine V_ex sX11_several_48 (by rfl) (by first | exact trivial | exact Or.inr rfl | exact Or.inl rfl | (simp only [ob, obA, R32, R64] at *; omega) | (simp only [ob, obA, R32, R64] at *; and_intros <;> omega) | (simp [ob, obA])) ?_
          refine V_icmpne dX11_several_52 (tgt := 62) (by decide) (by simp only [R32, R64] at *; omega) (fun q52 => ?_) (fun q52 => ?_)
          · refine V_ex sX11_several_62 (by rfl) (by first | exact trivial | exact Or.inr rfl | exact Or.inl rfl | (simp only [ob, obA, R32, R64] at *; omega) | (simp only [ob, obA, R32, R64] at *; and_intros <;> omega) | (simp [ob, obA])) ?_
            refine V_ex sX11_several_65 (by rfl) (by first | exact trivial | exact Or.inr rfl | exact Or.inl rfl | (simp only [ob, obA, R32, R64] at *; omega) | (simp only [ob, obA, R32, R64] at *; and_intros <;> omega) | (simp [ob, obA])) ?_
            refine V_goto dX11_several_68 (tgt := 28) (by decide) ?_
            exact ih (m + 1) (pre ++ [r + m]) (many + 1) (by omega) (by omega) (by rw [hL, if_pos q45]; simp) (by rw [List.length_append]; simp; omega) (by omega) (by omega)
          · refine V_ex sX11_several_55 (by rfl) (by first | exact trivial | exact Or.inr rfl | exact Or.inl rfl | (simp only [ob, obA, R32, R64] at *; omega) | (simp only [ob, obA, R32, R64] at *; and_intros <;> omega) | (simp [ob, obA])) ?_
            refine V_lret dX11_several_61 rfl (by decide) (by rw [if_pos q45] at hL; rw [sevP_at hg hL (by omega)]; exact cP_0 hC rfl rfl)
  have hk64 : R64 k := r32_64 hk
  refine V_ex sX11_several_0 (by rfl) (by first | exact trivial | exact Or.inr rfl | exact Or.inl rfl | (simp only [ob, obA, R32, R64] at *; omega) | (simp only [ob, obA, R32, R64] at *; and_intros <;> omega) | (simp [ob, obA])) ?_
  refine V_callS (M := MX11_several) (N := MX11_needSum) dX11_several_1 lRX11_308 kX11_needSum rfl (c_needSum (d := 6) hκ hs (by omega)) rfl rfl (Nat.le_of_ble_eq_true rfl) (fit_rm (by omega)) (⟨Nat.le_of_ble_eq_true rfl, Nat.le_of_ble_eq_true rfl⟩) (fun v Ω' hp => ?_) (fun E Ω' h => ⟨by rw [h.2.1, h.2.2]; exact cX2_2 hC (by rw [sevP, if_pos (fun q => h.1 q.1)]), rfl, Nat.le_of_ble_eq_true rfl, Nat.le_of_ble_eq_true rfl⟩)
  obtain ⟨h1, rfl, rfl⟩ := hp
  refine V_ex sX11_several_4 (by rfl) (by first | exact trivial | exact Or.inr rfl | exact Or.inl rfl | (simp only [ob, obA, R32, R64] at *; omega) | (simp only [ob, obA, R32, R64] at *; and_intros <;> omega) | (simp [ob, obA])) ?_
  refine V_callS (M := MX11_several) (N := MX11_needWithin) dX11_several_10 lRX11_281 kX11_needWithin rfl (c_needWithin (d := 6) hκ hk64 (by unfold R64; omega) (by unfold R64; omega) (by omega)) rfl rfl (Nat.le_of_ble_eq_true rfl) (fit_rm (by omega)) (⟨Nat.le_of_ble_eq_true rfl, Nat.le_of_ble_eq_true rfl⟩) (fun v Ω' hp => ?_) (fun E Ω' h => ⟨by rw [h.2.1, h.2.2]; exact cX2_2 hC (by rw [sevP, if_pos (fun q => h.1 q.2)]), rfl, Nat.le_of_ble_eq_true rfl, Nat.le_of_ble_eq_true rfl⟩)
  obtain ⟨h2, rfl, rfl⟩ := hp
  refine V_ex sX11_several_13 (by rfl) (by first | exact trivial | exact Or.inr rfl | exact Or.inl rfl | (simp only [ob, obA, R32, R64] at *; omega) | (simp only [ob, obA, R32, R64] at *; and_intros <;> omega) | (simp [ob, obA])) ?_
  refine V_callS (M := MX11_several) (N := MX10_largest) dX11_several_17 lRX11_329 kX10_largest rfl (c_largest (d := 6) hκ (a := 2) (b := 1) (c := 0) (s := s) (by unfold R32; omega) (by unfold R32; omega) (by unfold R32; omega) hs sev_R (by omega) (by omega)) rfl rfl (Nat.le_of_ble_eq_true rfl) (fit_rm (by omega)) (⟨Nat.le_of_ble_eq_true rfl, Nat.le_of_ble_eq_true rfl⟩) (fun v Ω' hp => ?_) (fun _ _ h => h.elim)
  obtain ⟨r, ⟨r0, r1, r2, r3⟩, rfl, rfl⟩ := hp
  obtain ⟨t1, t2⟩ := sev_top h1.2 r0 r2 r3
  refine V_ex sX11_several_20 (by rfl) (by first | exact trivial | exact Or.inr rfl | exact Or.inl rfl | (simp only [ob, obA, R32, R64] at *; omega) | (simp only [ob, obA, R32, R64] at *; and_intros <;> omega) | (simp [ob, obA])) ?_
  exact L ⟨h1, h2⟩ r r0 t2 t1 k.toNat 1 [] 0 (by omega) (by omega) (by rw [t1]; rfl) rfl (by omega) (by omega)
