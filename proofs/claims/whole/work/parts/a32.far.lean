/-! TornLeaves: far, lacks -/
theorem sS_R (f : Int) : ∀ n : Nat, 0 ≤ sS f n ∧ sS f n ≤ 19 * (n : Int) := by
  intro n
  induction n with
  | zero => exact ⟨Int.le_refl _, Int.le_refl _⟩
  | succ n ih => rw [sS_succ]; have := dgc_nn f 19 ((n : Int) + 1); omega
theorem shortL_iff (L : Nat → Int) (a b : Nat) : ∀ (k f : Nat), f + k = 10 → (shortL L a b k f = -1 ↔ ∀ g : Nat, f ≤ g → g < 10 → sS (g : Nat) b - sS (g : Nat) a ≤ L g) := by
  intro k
  induction k with
  | zero => intro f h; exact ⟨fun _ g h1 h2 => by omega, fun _ => rfl⟩
  | succ k ih =>
    intro f h
    rw [shortL]
    split
    · rename_i c
      exact ⟨fun q => by omega, fun q => by have := q f (Nat.le_refl _) (by omega); omega⟩
    · rename_i c
      rw [ih (f + 1) (by omega)]
      constructor
      · intro q g h1 h2
        rcases Nat.lt_or_ge f g with z | z
        · exact q g z h2
        · obtain rfl : g = f := by omega
          omega
      · intro q g h1 h2
        exact q g (by omega) h2
theorem short_en {L : Nat → Int} {a b : Nat} : shortL L (a - 1) b 10 0 = -1 ↔ enough L a b := by
  rw [shortL_iff L (a - 1) b 10 0 rfl]
  exact ⟨fun q f hf => q f (Nat.zero_le _) hf, fun q f _ hf => q f hf⟩
theorem shortL_R (L : Nat → Int) (a b : Nat) : ∀ (k f : Nat), f + k = 10 → -1 ≤ shortL L a b k f ∧ shortL L a b k f ≤ 9 := by
  intro k
  induction k with
  | zero => intro f h; exact ⟨Int.le_refl _, by show (-1 : Int) ≤ 9; decide⟩
  | succ k ih =>
    intro f h
    rw [shortL]
    split
    · omega
    · exact ih (f + 1) (by omega)
set_option maxRecDepth 100000 in
set_option maxHeartbeats 4000000 in
theorem c_shortOf {κ : Kx} (hκ : KOK κ) {d s a b : Nat} {L : Nat → Int} {G : Wd} (hn : G.2.2 1 3 = s) (hS : SHa s) (hL : ∀ f : Nat, f < 10 → G.1 (s + 4) f = L f) (hL2 : ∀ f : Nat, f < 10 → 0 ≤ L f ∧ L f ≤ 9999) (ha : 1 ≤ a ∧ a ≤ 1000000000) (hb : b ≤ 1000000000) (hd : 3 ≤ d) : Ct κ MX11_shortOf d 0 0 [VR 1, VI (a : Nat), VI (b : Nat)] (Wm G) (keepG G (VI (shortL L (a - 1) b 10 0))) noX := by
  refine Ct_of hκ kX11_shortOf.1 rfl (Nat.le_of_ble_eq_true rfl) (ls := [some (VR 1), some (VI (a : Nat)), some (VI (b : Nat)), none]) rfl (fun μ => ?_)
  have h1S := (sh_facts hS).1
  have ea : (a : Int) - 1 = ((a - 1 : Nat) : Int) := by omega
  have lp : ∀ (k i : Nat) (ii : Int), ii = (i : Int) → i + k = 10 → shortL L (a - 1) b k i = shortL L (a - 1) b 10 0 → V κ MX11_shortOf (rmD d 0 0) (keepG G (VI (shortL L (a - 1) b 10 0))) noX 0 0 μ 0 0 (Wm (G)) 2 [some (VR 1), some (VI (a : Nat)), some (VI (b : Nat)), some (VI ii)] [] := by
    intro k
    induction k with
    | zero =>
      intro i ii hii hik he
      refine V_ex sX11_shortOf_2 (by rfl) (by first | exact trivial | exact Or.inr rfl | exact Or.inl rfl | (simp only [ob, obA, R32, R64] at *; omega) | (simp only [ob, obA, R32, R64] at *; and_intros <;> omega) | (simp [ob, obA])) ?_
      refine V_icmpge dX11_shortOf_5 (tgt := 44) (by decide) (by simp only [R32, R64] at *; omega) (fun q5 => ?_) (fun q5 => ?_)
      · refine V_ex sX11_shortOf_44 (by rfl) (by first | exact trivial | exact Or.inr rfl | exact Or.inl rfl | (simp only [ob, obA, R32, R64] at *; omega) | (simp only [ob, obA, R32, R64] at *; and_intros <;> omega) | (simp [ob, obA])) ?_
        refine V_iret dX11_shortOf_45 rfl (by decide) ⟨by rw [← he]; rfl, rfl⟩
      · omega
    | succ k ih =>
      intro i ii hii hik he
      subst hii
      have hP1 := c_printed (κ := κ) hκ (d := 2) (f := (i : Int)) (last := (b : Int)) (G := G) (by unfold R32; omega) (by omega) (by unfold R64; omega) (by omega)
      have hP2 := c_printed (κ := κ) hκ (d := 2) (f := (i : Int)) (last := ((a - 1 : Nat) : Int)) (G := G) (by unfold R32; omega) (by omega) (by unfold R64; omega) (by omega)
      rw [prC_sS (by omega) _ (by omega)] at hP1 hP2
      have hLd := c_leadOf (κ := κ) hκ (d := 2) (s := s) (i := (i : Int)) (G := G) hS (by unfold R32; omega) (by omega)
      rw [rAt_nat i rfl (by omega), hL i (by omega)] at hLd
      have r1 := sS_R (i : Int) b
      have r2 := sS_R (i : Int) (a - 1)
      have r3 := hL2 i (by omega)
      rw [shortL] at he
      refine V_ex sX11_shortOf_2 (by rfl) (by first | exact trivial | exact Or.inr rfl | exact Or.inl rfl | (simp only [ob, obA, R32, R64] at *; omega) | (simp only [ob, obA, R32, R64] at *; and_intros <;> omega) | (simp [ob, obA])) ?_
      refine V_icmpge dX11_shortOf_5 (tgt := 44) (by decide) (by simp only [R32, R64] at *; omega) (fun q5 => ?_) (fun q5 => ?_)
      · omega
      · refine V_ex sX11_shortOf_8 (by rfl) (by first | exact trivial | exact Or.inr rfl | exact Or.inl rfl | (simp only [ob, obA, R32, R64] at *; omega) | (simp only [ob, obA, R32, R64] at *; and_intros <;> omega) | (simp [ob, obA])) ?_
        refine V_callS (M := MX11_shortOf) (N := MX3_printed) dX11_shortOf_11 lRX11_379 kX3_printed rfl (hP1) rfl rfl (Nat.le_of_ble_eq_true rfl) (fit_rm (by omega)) (⟨Nat.le_of_ble_eq_true rfl, Nat.le_of_ble_eq_true rfl⟩) (fun v Ω' hp => ?_) (fun _ _ h => h.elim)
        obtain ⟨rfl, rfl⟩ := hp
        refine V_ex sX11_shortOf_14 (by simp only [Option.toList, List.cons_append, List.nil_append, exN, ex1, gI, gL, gR, pI, pL, pR, lget, lset1, lset2, kl, b2I, b2L, nob, ob32, ob64, xGet, xPut, xLen, xLd, xLdR, xSt, obA, true_and, and_true, and_self, eq_self, Nat.reduceEqDiff, Nat.zero_ne_one, reduceIte, Nat.reduceLeDiff, and_false, false_and, ea, upd2_eq, Int.reduceToNat, Int.toNat_natCast]; rfl) (by first | exact trivial | exact Or.inr rfl | exact Or.inl rfl | (simp only [ob, obA, R32, R64] at *; omega) | (simp only [ob, obA, R32, R64] at *; and_intros <;> omega) | (simp [ob, obA])) ?_
        refine V_callS (M := MX11_shortOf) (N := MX3_printed) dX11_shortOf_19 lRX11_379 kX3_printed rfl (hP2) rfl rfl (Nat.le_of_ble_eq_true rfl) (fit_rm (by omega)) (⟨Nat.le_of_ble_eq_true rfl, Nat.le_of_ble_eq_true rfl⟩) (fun v Ω' hp => ?_) (fun _ _ h => h.elim)
        obtain ⟨rfl, rfl⟩ := hp
        refine V_ex sX11_shortOf_22 (by simp only [Option.toList, List.cons_append, List.nil_append, exN, ex1, gI, gL, gR, pI, pL, pR, lget, lset1, lset2, kl, b2I, b2L, nob, ob32, ob64, xGet, xPut, xLen, xLd, xLdR, xSt, obA, true_and, and_true, and_self, eq_self, Nat.reduceEqDiff, Nat.zero_ne_one, reduceIte, Nat.reduceLeDiff, and_false, false_and, show skd 10 3 = 3 from rfl, show LF.1 1 = some (.inl 10) from rfl, hn, h1S, upd2_eq, Int.reduceToNat, Int.toNat_natCast]; rfl) (by first | exact trivial | exact Or.inr rfl | exact Or.inl rfl | (simp only [ob, obA, R32, R64] at *; omega) | (simp only [ob, obA, R32, R64] at *; and_intros <;> omega) | (simp [ob, obA])) ?_
        refine V_callV (M := MX11_shortOf) (N := MX7_leadOf) dX11_shortOf_28 lRX11_122 kX7_leadOf rfl (h1S) rfl (hLd) rfl rfl (Nat.le_of_ble_eq_true rfl) (fit_rm (by omega)) (⟨Nat.le_of_ble_eq_true rfl, Nat.le_of_ble_eq_true rfl⟩) (fun v Ω' hp => ?_) (fun _ _ h => h.elim)
        obtain ⟨rfl, rfl⟩ := hp
        refine V_ex sX11_shortOf_31 (by rfl) (by exact ⟨by unfold R32; omega, by unfold R64; omega, by unfold R64; omega⟩) ?_
        refine V_lifle dX11_shortOf_33 (tgt := 38) (by decide) (fun q33 => ?_) (fun q33 => ?_)
        · refine V_ex sX11_shortOf_38 (by rfl) (by first | exact trivial | exact Or.inr rfl | exact Or.inl rfl | (simp only [ob, obA, R32, R64] at *; omega) | (simp only [ob, obA, R32, R64] at *; and_intros <;> omega) | (simp [ob, obA])) ?_
          refine V_goto dX11_shortOf_41 (tgt := 2) (by decide) ?_
          exact ih (i + 1) _ (by omega) (by omega) (by rw [← he, if_neg (by omega)])
        · refine V_ex sX11_shortOf_36 (by rfl) (by first | exact trivial | exact Or.inr rfl | exact Or.inl rfl | (simp only [ob, obA, R32, R64] at *; omega) | (simp only [ob, obA, R32, R64] at *; and_intros <;> omega) | (simp [ob, obA])) ?_
          refine V_iret dX11_shortOf_37 rfl (by decide) ⟨by rw [if_pos (by omega)] at he; rw [← he], rfl⟩
  refine V_ex sX11_shortOf_0 (by rfl) (by first | exact trivial | exact Or.inr rfl | exact Or.inl rfl | (simp only [ob, obA, R32, R64] at *; omega) | (simp only [ob, obA, R32, R64] at *; and_intros <;> omega) | (simp [ob, obA])) ?_
  exact lp 10 0 0 rfl (by omega) rfl
theorem enough_top (L : Nat → Int) (n : Nat) (hL2 : ∀ f : Nat, f < 10 → 0 ≤ L f ∧ L f ≤ 9999) : enough L (n + 1) n := fun f hf => by
  have := hL2 f hf
  rw [show n + 1 - 1 = n by omega]; omega
theorem enough_0 (L : Nat → Int) (hL2 : ∀ f : Nat, f < 10 → 0 ≤ L f ∧ L f ≤ 9999) : enough L 1 0 ∧ ¬ enough L 1 100000 := by
  refine ⟨enough_top L 0 hL2, fun h => ?_⟩
  have h1 := h 1 (by omega)
  have h2 := hL2 1 (by omega)
  have e : sS ((1 : Nat) : Int) 100000 = 50001 := by
    rw [← prC_sS (by decide) 100000 (by decide)]; decide +kernel
  rw [e, show sS ((1 : Nat) : Int) (1 - 1) = 0 from rfl] at h1
  omega
set_option maxRecDepth 100000 in
set_option maxHeartbeats 4000000 in
theorem c_lastP {κ : Kx} (hκ : KOK κ) {d s n : Nat} {L : Nat → Int} {G : Wd} (hn : G.2.2 1 3 = s) (hS : SHa s) (hL : ∀ f : Nat, f < 10 → G.1 (s + 4) f = L f) (hL2 : ∀ f : Nat, f < 10 → 0 ≤ L f ∧ L f ≤ 9999) (hn9 : n ≤ 99999999) (hd : 4 ≤ d) : Ct κ MX11_lastPrinted d 0 0 [VR 1, VI (n : Nat)] (Wm G) (fun v Ω' => isFar L n (theFar L n) ∧ keepG G (VI (theFar L n : Nat)) v Ω') noX := by
  refine Ct_of hκ kX11_lastPrinted.1 rfl (Nat.le_of_ble_eq_true rfl) (ls := [some (VR 1), some (VI (n : Nat)), none, none, none, none, none]) rfl (fun μ => ?_)
  have tail : ∀ (g b m e r : Int) (y : Option Vl), (e = 0 ∨ e = 1) → (0 ≤ r ∧ r < 32) → (e = 1 → V κ MX11_lastPrinted (rmD d 0 0) (fun v Ω' => isFar L n (theFar L n) ∧ keepG G (VI (theFar L n : Nat)) v Ω') noX 0 0 μ 0 0 (Wm (G)) 27 [some (VR 1), some (VI (n : Nat)), some (VI m), some (VI b), some (VI (r + 1)), some (VI m), some (VI e)] []) → (e = 0 → V κ MX11_lastPrinted (rmD d 0 0) (fun v Ω' => isFar L n (theFar L n) ∧ keepG G (VI (theFar L n : Nat)) v Ω') noX 0 0 μ 0 0 (Wm (G)) 27 [some (VR 1), some (VI (n : Nat)), some (VI g), some (VI m), some (VI (r + 1)), some (VI m), some (VI e)] []) → V κ MX11_lastPrinted (rmD d 0 0) (fun v Ω' => isFar L n (theFar L n) ∧ keepG G (VI (theFar L n : Nat)) v Ω') noX 0 0 μ 0 0 (Wm (G)) 92 [some (VR 1), some (VI (n : Nat)), some (VI g), some (VI b), some (VI r), some (VI m), y] [VI e] := fun g b m e r y he hr h1 h0 => by
    refine V_ex sX11_lastPrinted_92 (by rfl) (by first | exact trivial | exact Or.inr rfl | exact Or.inl rfl | (simp only [ob, obA, R32, R64] at *; omega) | (simp only [ob, obA, R32, R64] at *; and_intros <;> omega) | (simp [ob, obA])) ?_
    refine V_ifeq dX11_lastPrinted_96 (tgt := 105) (by decide) (by simp only [R32, R64] at *; omega) (fun q96 => ?_) (fun q96 => ?_)
    · refine V_ex sX11_lastPrinted_105 (by rfl) (by first | exact trivial | exact Or.inr rfl | exact Or.inl rfl | (simp only [ob, obA, R32, R64] at *; omega) | (simp only [ob, obA, R32, R64] at *; and_intros <;> omega) | (simp [ob, obA])) ?_
      refine V_ex sX11_lastPrinted_108 (by rfl) (by first | exact trivial | exact Or.inr rfl | exact Or.inl rfl | (simp only [ob, obA, R32, R64] at *; omega) | (simp only [ob, obA, R32, R64] at *; and_intros <;> omega) | (simp [ob, obA])) ?_
      refine V_goto dX11_lastPrinted_111 (tgt := 27) (by decide) ?_
      exact h0 q96
    · refine V_ex sX11_lastPrinted_99 (by rfl) (by first | exact trivial | exact Or.inr rfl | exact Or.inl rfl | (simp only [ob, obA, R32, R64] at *; omega) | (simp only [ob, obA, R32, R64] at *; and_intros <;> omega) | (simp [ob, obA])) ?_
      refine V_goto dX11_lastPrinted_102 (tgt := 108) (by decide) ?_
      refine V_ex sX11_lastPrinted_108 (by rfl) (by first | exact trivial | exact Or.inr rfl | exact Or.inl rfl | (simp only [ob, obA, R32, R64] at *; omega) | (simp only [ob, obA, R32, R64] at *; and_intros <;> omega) | (simp [ob, obA])) ?_
      refine V_goto dX11_lastPrinted_111 (tgt := 27) (by decide) ?_
      exact h1 (by omega)
  by_cases h0 : n = 0
  · have L0 : ∀ (k g b : Nat) (gg bb r : Int) (x y : Option Vl), gg = (g : Int) → bb = (b : Int) → r = 27 - (k : Int) → k ≤ 27 → g < b → b ≤ 100000 → (b : Int) - g ≤ 2 ^ k → enough L 1 g → ¬ enough L 1 b → V κ MX11_lastPrinted (rmD d 0 0) (fun v Ω' => isFar L n (theFar L n) ∧ keepG G (VI (theFar L n : Nat)) v Ω') noX 0 0 μ 0 0 (Wm (G)) 27 [some (VR 1), some (VI (n : Nat)), some (VI gg), some (VI bb), some (VI r), x, y] [] := by
      intro k
      induction k with
      | zero =>
        intro g b gg bb r x y hgg hbb hr hk hgb hb hd2 e1 e2
        subst hgg hbb
        have hbg : (b : Int) - g = 1 := by simp at hd2; omega
        have hIs : isFar L n g := (by rw [isFar, if_pos h0]; exact ⟨e1, by rw [show g + 1 = b by omega]; exact e2⟩)
        have hF : theFar L n = g := theFar_eq hIs
        have ab : (if 0 ≤ (b : Int) - (g : Int) then (b : Int) - (g : Int) else 0 - ((b : Int) - (g : Int))) = 1 := by rw [if_pos (by omega), hbg]
        refine V_ex sX11_lastPrinted_27 (by rfl) (by first | exact trivial | exact Or.inr rfl | exact Or.inl rfl | (simp only [ob, obA, R32, R64] at *; omega) | (simp only [ob, obA, R32, R64] at *; and_intros <;> omega) | (simp [ob, obA])) ?_
        refine V_icmpge dX11_lastPrinted_31 (tgt := 114) (by decide) (by simp only [R32, R64] at *; omega) (fun q31 => ?_) (fun q31 => ?_)
        · omega
        · refine V_ex sX11_lastPrinted_34 (by rfl) (by first | exact trivial | exact Or.inr rfl | exact Or.inl rfl | (simp only [ob, obA, R32, R64] at *; omega) | (simp only [ob, obA, R32, R64] at *; and_intros <;> omega) | (simp [ob, obA])) ?_
          refine V_mabs (M := MX11_lastPrinted) dX11_lastPrinted_37 lRX11_370 (by simp only [R32, R64] at *; omega) (Nat.le_of_ble_eq_true rfl) (fit_rm (by omega)) ⟨Nat.le_refl _, Nat.le_refl _⟩ ?_
          rw [ab]
          refine V_ex sX11_lastPrinted_40 (by rfl) (by first | exact trivial | exact Or.inr rfl | exact Or.inl rfl | (simp only [ob, obA, R32, R64] at *; omega) | (simp only [ob, obA, R32, R64] at *; and_intros <;> omega) | (simp [ob, obA])) ?_
          refine V_icmple dX11_lastPrinted_41 (tgt := 114) (by decide) (by simp only [R32, R64] at *; omega) (fun q41 => ?_) (fun q41 => ?_)
          · refine V_ex sX11_lastPrinted_114 (by rfl) (by first | exact trivial | exact Or.inr rfl | exact Or.inl rfl | (simp only [ob, obA, R32, R64] at *; omega) | (simp only [ob, obA, R32, R64] at *; and_intros <;> omega) | (simp [ob, obA])) ?_
            refine V_iret dX11_lastPrinted_115 rfl (by decide) ⟨by rw [hF]; exact hIs, by rw [hF], rfl⟩
          · omega
      | succ k ih =>
        intro g b gg bb r x y hgg hbb hr hk hgb hb hd2 e1 e2
        subst hgg hbb
        have ab : (if 0 ≤ (b : Int) - (g : Int) then (b : Int) - (g : Int) else 0 - ((b : Int) - (g : Int))) = (b : Int) - g := by rw [if_pos (by omega)]
        obtain ⟨m, hm⟩ : ∃ m : Nat, m = g + (b - g) / 2 := ⟨_, rfl⟩
        have em : (g : Int) + Int.tdiv ((b : Int) - (g : Int)) 2 = (m : Int) := by rw [td_nn (by omega)]; omega
        have hpw : (2 : Int) ^ (k + 1) = 2 ^ k * 2 := Int.pow_succ _ _
        have hSh := c_shortOf (κ := κ) hκ (d := d - 1) (a := 1) (b := m) hn hS hL hL2 ⟨by omega, by omega⟩ (by omega) (by omega)
        have hSR := shortL_R L (1 - 1) m 10 0 rfl
        by_cases h1 : b - g ≤ 1
        · have hIs : isFar L n g := (by rw [isFar, if_pos h0]; exact ⟨e1, by rw [show g + 1 = b by omega]; exact e2⟩)
          have hF : theFar L n = g := theFar_eq hIs
          refine V_ex sX11_lastPrinted_27 (by rfl) (by first | exact trivial | exact Or.inr rfl | exact Or.inl rfl | (simp only [ob, obA, R32, R64] at *; omega) | (simp only [ob, obA, R32, R64] at *; and_intros <;> omega) | (simp [ob, obA])) ?_
          refine V_icmpge dX11_lastPrinted_31 (tgt := 114) (by decide) (by simp only [R32, R64] at *; omega) (fun q31 => ?_) (fun q31 => ?_)
          · omega
          · refine V_ex sX11_lastPrinted_34 (by rfl) (by first | exact trivial | exact Or.inr rfl | exact Or.inl rfl | (simp only [ob, obA, R32, R64] at *; omega) | (simp only [ob, obA, R32, R64] at *; and_intros <;> omega) | (simp [ob, obA])) ?_
            refine V_mabs (M := MX11_lastPrinted) dX11_lastPrinted_37 lRX11_370 (by simp only [R32, R64] at *; omega) (Nat.le_of_ble_eq_true rfl) (fit_rm (by omega)) ⟨Nat.le_refl _, Nat.le_refl _⟩ ?_
            rw [ab]
            refine V_ex sX11_lastPrinted_40 (by rfl) (by first | exact trivial | exact Or.inr rfl | exact Or.inl rfl | (simp only [ob, obA, R32, R64] at *; omega) | (simp only [ob, obA, R32, R64] at *; and_intros <;> omega) | (simp [ob, obA])) ?_
            refine V_icmple dX11_lastPrinted_41 (tgt := 114) (by decide) (by simp only [R32, R64] at *; omega) (fun q41 => ?_) (fun q41 => ?_)
            · refine V_ex sX11_lastPrinted_114 (by rfl) (by first | exact trivial | exact Or.inr rfl | exact Or.inl rfl | (simp only [ob, obA, R32, R64] at *; omega) | (simp only [ob, obA, R32, R64] at *; and_intros <;> omega) | (simp [ob, obA])) ?_
              refine V_iret dX11_lastPrinted_115 rfl (by decide) ⟨by rw [hF]; exact hIs, by rw [hF], rfl⟩
            · omega
        · have hup : shortL L (1 - 1) m 10 0 = -1 → V κ MX11_lastPrinted (rmD d 0 0) (fun v Ω' => isFar L n (theFar L n) ∧ keepG G (VI (theFar L n : Nat)) v Ω') noX 0 0 μ 0 0 (Wm (G)) 27 [some (VR 1), some (VI (n : Nat)), some (VI (m : Nat)), some (VI (b : Nat)), some (VI (r + 1)), some (VI (m : Nat)), some (VI 1)] [] := fun h => ih m b _ _ _ _ _ rfl rfl (by omega) (by omega) (by omega) hb (by omega) (short_en.mp h) e2
          have hdn : ¬ shortL L (1 - 1) m 10 0 = -1 → V κ MX11_lastPrinted (rmD d 0 0) (fun v Ω' => isFar L n (theFar L n) ∧ keepG G (VI (theFar L n : Nat)) v Ω') noX 0 0 μ 0 0 (Wm (G)) 27 [some (VR 1), some (VI (n : Nat)), some (VI (g : Nat)), some (VI (m : Nat)), some (VI (r + 1)), some (VI (m : Nat)), some (VI 0)] [] := fun h => ih g m _ _ _ _ _ rfl rfl (by omega) (by omega) (by omega) (by omega) (by omega) e1 (fun q => h (short_en.mpr q))
          refine V_ex sX11_lastPrinted_27 (by rfl) (by first | exact trivial | exact Or.inr rfl | exact Or.inl rfl | (simp only [ob, obA, R32, R64] at *; omega) | (simp only [ob, obA, R32, R64] at *; and_intros <;> omega) | (simp [ob, obA])) ?_
          refine V_icmpge dX11_lastPrinted_31 (tgt := 114) (by decide) (by simp only [R32, R64] at *; omega) (fun q31 => ?_) (fun q31 => ?_)
          · omega
          · refine V_ex sX11_lastPrinted_34 (by rfl) (by first | exact trivial | exact Or.inr rfl | exact Or.inl rfl | (simp only [ob, obA, R32, R64] at *; omega) | (simp only [ob, obA, R32, R64] at *; and_intros <;> omega) | (simp [ob, obA])) ?_
            refine V_mabs (M := MX11_lastPrinted) dX11_lastPrinted_37 lRX11_370 (by simp only [R32, R64] at *; omega) (Nat.le_of_ble_eq_true rfl) (fit_rm (by omega)) ⟨Nat.le_refl _, Nat.le_refl _⟩ ?_
            rw [ab]
            refine V_ex sX11_lastPrinted_40 (by rfl) (by first | exact trivial | exact Or.inr rfl | exact Or.inl rfl | (simp only [ob, obA, R32, R64] at *; omega) | (simp only [ob, obA, R32, R64] at *; and_intros <;> omega) | (simp [ob, obA])) ?_
            refine V_icmple dX11_lastPrinted_41 (tgt := 114) (by decide) (by simp only [R32, R64] at *; omega) (fun q41 => ?_) (fun q41 => ?_)
            · omega
            · refine V_ex sX11_lastPrinted_44 (by simp only [Option.toList, List.cons_append, List.nil_append, exN, ex1, gI, gL, gR, pI, pL, pR, lget, lset1, lset2, kl, b2I, b2L, nob, ob32, ob64, xGet, xPut, xLen, xLd, xLdR, xSt, obA, true_and, and_true, and_self, eq_self, Nat.reduceEqDiff, Nat.zero_ne_one, reduceIte, Nat.reduceLeDiff, and_false, false_and, em, upd2_eq, Int.reduceToNat, Int.toNat_natCast]; rfl) (by exact ⟨by unfold R32; omega, by unfold R32; omega, by decide⟩) ?_
              refine V_ifne dX11_lastPrinted_54 (tgt := 76) (by decide) (by simp only [R32, R64] at *; omega) (fun q54 => ?_) (fun q54 => ?_)
              · omega
              · refine V_ex sX11_lastPrinted_57 (by rfl) (by first | exact trivial | exact Or.inr rfl | exact Or.inl rfl | (simp only [ob, obA, R32, R64] at *; omega) | (simp only [ob, obA, R32, R64] at *; and_intros <;> omega) | (simp [ob, obA])) ?_
                refine V_callV (M := MX11_lastPrinted) (N := MX11_shortOf) dX11_lastPrinted_61 lRX11_375 kX11_shortOf rfl (rfl) rfl (hSh) rfl rfl (Nat.le_of_ble_eq_true rfl) (fit_rm (by omega)) (⟨Nat.le_of_ble_eq_true rfl, Nat.le_of_ble_eq_true rfl⟩) (fun v Ω' hp => ?_) (fun _ _ h => h.elim)
                obtain ⟨rfl, rfl⟩ := hp
                refine V_ex sX11_lastPrinted_64 (by rfl) (by first | exact trivial | exact Or.inr rfl | exact Or.inl rfl | (simp only [ob, obA, R32, R64] at *; omega) | (simp only [ob, obA, R32, R64] at *; and_intros <;> omega) | (simp [ob, obA])) ?_
                refine V_icmpne dX11_lastPrinted_65 (tgt := 72) (by decide) (by simp only [R32, R64] at *; omega) (fun q65 => ?_) (fun q65 => ?_)
                · refine V_ex sX11_lastPrinted_72 (by rfl) (by first | exact trivial | exact Or.inr rfl | exact Or.inl rfl | (simp only [ob, obA, R32, R64] at *; omega) | (simp only [ob, obA, R32, R64] at *; and_intros <;> omega) | (simp [ob, obA])) ?_
                  refine V_goto dX11_lastPrinted_73 (tgt := 92) (by decide) ?_
                  exact tail _ _ _ 0 _ _ (Or.inl rfl) (by omega) (fun q => by cases q) (fun _ => hdn q65)
                · refine V_ex sX11_lastPrinted_68 (by rfl) (by first | exact trivial | exact Or.inr rfl | exact Or.inl rfl | (simp only [ob, obA, R32, R64] at *; omega) | (simp only [ob, obA, R32, R64] at *; and_intros <;> omega) | (simp [ob, obA])) ?_
                  refine V_goto dX11_lastPrinted_69 (tgt := 92) (by decide) ?_
                  exact tail _ _ _ 1 _ _ (Or.inr rfl) (by omega) (fun _ => hup q65) (fun q => by cases q)
    obtain ⟨z1, z2⟩ := enough_0 L hL2
    refine V_ex sX11_lastPrinted_0 (by rfl) (by first | exact trivial | exact Or.inr rfl | exact Or.inl rfl | (simp only [ob, obA, R32, R64] at *; omega) | (simp only [ob, obA, R32, R64] at *; and_intros <;> omega) | (simp [ob, obA])) ?_
    refine V_ifne dX11_lastPrinted_1 (tgt := 8) (by decide) (by simp only [R32, R64] at *; omega) (fun q1 => ?_) (fun q1 => ?_)
    · omega
    · refine V_ex sX11_lastPrinted_4 (by rfl) (by first | exact trivial | exact Or.inr rfl | exact Or.inl rfl | (simp only [ob, obA, R32, R64] at *; omega) | (simp only [ob, obA, R32, R64] at *; and_intros <;> omega) | (simp [ob, obA])) ?_
      refine V_goto dX11_lastPrinted_5 (tgt := 11) (by decide) ?_
      refine V_ex sX11_lastPrinted_11 (by rfl) (by first | exact trivial | exact Or.inr rfl | exact Or.inl rfl | (simp only [ob, obA, R32, R64] at *; omega) | (simp only [ob, obA, R32, R64] at *; and_intros <;> omega) | (simp [ob, obA])) ?_
      refine V_ifne dX11_lastPrinted_13 (tgt := 22) (by decide) (by simp only [R32, R64] at *; omega) (fun q13 => ?_) (fun q13 => ?_)
      · omega
      · refine V_ex sX11_lastPrinted_16 (by rfl) (by first | exact trivial | exact Or.inr rfl | exact Or.inl rfl | (simp only [ob, obA, R32, R64] at *; omega) | (simp only [ob, obA, R32, R64] at *; and_intros <;> omega) | (simp [ob, obA])) ?_
        refine V_goto dX11_lastPrinted_19 (tgt := 23) (by decide) ?_
        refine V_ex sX11_lastPrinted_23 (by rfl) (by first | exact trivial | exact Or.inr rfl | exact Or.inl rfl | (simp only [ob, obA, R32, R64] at *; omega) | (simp only [ob, obA, R32, R64] at *; and_intros <;> omega) | (simp [ob, obA])) ?_
        exact L0 27 0 100000 0 100000 0 none none rfl rfl (by omega) (by omega) (by omega) (by omega) (by decide) z1 z2
  · have L1 : ∀ (k g b : Nat) (gg bb r : Int) (x y : Option Vl), gg = (g : Int) → bb = (b : Int) → r = 27 - (k : Int) → k ≤ 27 → b < g → g ≤ n + 1 → (g : Int) - b ≤ 2 ^ k → enough L g n → (b = 0 ∨ ¬ enough L b n) → V κ MX11_lastPrinted (rmD d 0 0) (fun v Ω' => isFar L n (theFar L n) ∧ keepG G (VI (theFar L n : Nat)) v Ω') noX 0 0 μ 0 0 (Wm (G)) 27 [some (VR 1), some (VI (n : Nat)), some (VI gg), some (VI bb), some (VI r), x, y] [] := by
      intro k
      induction k with
      | zero =>
        intro g b gg bb r x y hgg hbb hr hk hgb hb hd2 e1 e2
        subst hgg hbb
        have hbg : (g : Int) - b = 1 := by simp at hd2; omega
        have hIs : isFar L n g := (by rw [isFar, if_neg h0]; exact ⟨by omega, hb, e1, by rw [show g - 1 = b by omega]; rcases e2 with q | q; exact Or.inl (by omega); exact Or.inr q⟩)
        have hF : theFar L n = g := theFar_eq hIs
        have ab : (if 0 ≤ (b : Int) - (g : Int) then (b : Int) - (g : Int) else 0 - ((b : Int) - (g : Int))) = 1 := by rw [if_neg (by omega)]; omega
        refine V_ex sX11_lastPrinted_27 (by rfl) (by first | exact trivial | exact Or.inr rfl | exact Or.inl rfl | (simp only [ob, obA, R32, R64] at *; omega) | (simp only [ob, obA, R32, R64] at *; and_intros <;> omega) | (simp [ob, obA])) ?_
        refine V_icmpge dX11_lastPrinted_31 (tgt := 114) (by decide) (by simp only [R32, R64] at *; omega) (fun q31 => ?_) (fun q31 => ?_)
        · omega
        · refine V_ex sX11_lastPrinted_34 (by rfl) (by first | exact trivial | exact Or.inr rfl | exact Or.inl rfl | (simp only [ob, obA, R32, R64] at *; omega) | (simp only [ob, obA, R32, R64] at *; and_intros <;> omega) | (simp [ob, obA])) ?_
          refine V_mabs (M := MX11_lastPrinted) dX11_lastPrinted_37 lRX11_370 (by simp only [R32, R64] at *; omega) (Nat.le_of_ble_eq_true rfl) (fit_rm (by omega)) ⟨Nat.le_refl _, Nat.le_refl _⟩ ?_
          rw [ab]
          refine V_ex sX11_lastPrinted_40 (by rfl) (by first | exact trivial | exact Or.inr rfl | exact Or.inl rfl | (simp only [ob, obA, R32, R64] at *; omega) | (simp only [ob, obA, R32, R64] at *; and_intros <;> omega) | (simp [ob, obA])) ?_
          refine V_icmple dX11_lastPrinted_41 (tgt := 114) (by decide) (by simp only [R32, R64] at *; omega) (fun q41 => ?_) (fun q41 => ?_)
          · refine V_ex sX11_lastPrinted_114 (by rfl) (by first | exact trivial | exact Or.inr rfl | exact Or.inl rfl | (simp only [ob, obA, R32, R64] at *; omega) | (simp only [ob, obA, R32, R64] at *; and_intros <;> omega) | (simp [ob, obA])) ?_
            refine V_iret dX11_lastPrinted_115 rfl (by decide) ⟨by rw [hF]; exact hIs, by rw [hF], rfl⟩
          · omega
      | succ k ih =>
        intro g b gg bb r x y hgg hbb hr hk hgb hb hd2 e1 e2
        subst hgg hbb
        have ab : (if 0 ≤ (b : Int) - (g : Int) then (b : Int) - (g : Int) else 0 - ((b : Int) - (g : Int))) = (g : Int) - b := by rw [if_neg (by omega)]; omega
        obtain ⟨m, hm⟩ : ∃ m : Nat, m = g - (g - b) / 2 := ⟨_, rfl⟩
        have etd : Int.tdiv ((b : Int) - (g : Int)) 2 = -(((g : Int) - b) / 2) := by rw [show (b : Int) - (g : Int) = -((g : Int) - b) by omega, Int.neg_tdiv, td_nn (by omega)]
        have em : (g : Int) + Int.tdiv ((b : Int) - (g : Int)) 2 = (m : Int) := by rw [etd]; omega
        have hpw : (2 : Int) ^ (k + 1) = 2 ^ k * 2 := Int.pow_succ _ _
        by_cases h1 : g - b ≤ 1
        · have hIs : isFar L n g := (by rw [isFar, if_neg h0]; exact ⟨by omega, hb, e1, by rw [show g - 1 = b by omega]; rcases e2 with q | q; exact Or.inl (by omega); exact Or.inr q⟩)
          have hF : theFar L n = g := theFar_eq hIs
          refine V_ex sX11_lastPrinted_27 (by rfl) (by first | exact trivial | exact Or.inr rfl | exact Or.inl rfl | (simp only [ob, obA, R32, R64] at *; omega) | (simp only [ob, obA, R32, R64] at *; and_intros <;> omega) | (simp [ob, obA])) ?_
          refine V_icmpge dX11_lastPrinted_31 (tgt := 114) (by decide) (by simp only [R32, R64] at *; omega) (fun q31 => ?_) (fun q31 => ?_)
          · omega
          · refine V_ex sX11_lastPrinted_34 (by rfl) (by first | exact trivial | exact Or.inr rfl | exact Or.inl rfl | (simp only [ob, obA, R32, R64] at *; omega) | (simp only [ob, obA, R32, R64] at *; and_intros <;> omega) | (simp [ob, obA])) ?_
            refine V_mabs (M := MX11_lastPrinted) dX11_lastPrinted_37 lRX11_370 (by simp only [R32, R64] at *; omega) (Nat.le_of_ble_eq_true rfl) (fit_rm (by omega)) ⟨Nat.le_refl _, Nat.le_refl _⟩ ?_
            rw [ab]
            refine V_ex sX11_lastPrinted_40 (by rfl) (by first | exact trivial | exact Or.inr rfl | exact Or.inl rfl | (simp only [ob, obA, R32, R64] at *; omega) | (simp only [ob, obA, R32, R64] at *; and_intros <;> omega) | (simp [ob, obA])) ?_
            refine V_icmple dX11_lastPrinted_41 (tgt := 114) (by decide) (by simp only [R32, R64] at *; omega) (fun q41 => ?_) (fun q41 => ?_)
            · refine V_ex sX11_lastPrinted_114 (by rfl) (by first | exact trivial | exact Or.inr rfl | exact Or.inl rfl | (simp only [ob, obA, R32, R64] at *; omega) | (simp only [ob, obA, R32, R64] at *; and_intros <;> omega) | (simp [ob, obA])) ?_
              refine V_iret dX11_lastPrinted_115 rfl (by decide) ⟨by rw [hF]; exact hIs, by rw [hF], rfl⟩
            · omega
        · have hSh := c_shortOf (κ := κ) hκ (d := d - 1) (a := m) (b := n) hn hS hL hL2 ⟨by omega, by omega⟩ (by omega) (by omega)
          have hSR := shortL_R L (m - 1) n 10 0 rfl
          have hup : shortL L (m - 1) n 10 0 = -1 → V κ MX11_lastPrinted (rmD d 0 0) (fun v Ω' => isFar L n (theFar L n) ∧ keepG G (VI (theFar L n : Nat)) v Ω') noX 0 0 μ 0 0 (Wm (G)) 27 [some (VR 1), some (VI (n : Nat)), some (VI (m : Nat)), some (VI (b : Nat)), some (VI (r + 1)), some (VI (m : Nat)), some (VI 1)] [] := fun h => ih m b _ _ _ _ _ rfl rfl (by omega) (by omega) (by omega) (by omega) (by omega) (short_en.mp h) e2
          have hdn : ¬ shortL L (m - 1) n 10 0 = -1 → V κ MX11_lastPrinted (rmD d 0 0) (fun v Ω' => isFar L n (theFar L n) ∧ keepG G (VI (theFar L n : Nat)) v Ω') noX 0 0 μ 0 0 (Wm (G)) 27 [some (VR 1), some (VI (n : Nat)), some (VI (g : Nat)), some (VI (m : Nat)), some (VI (r + 1)), some (VI (m : Nat)), some (VI 0)] [] := fun h => ih g m _ _ _ _ _ rfl rfl (by omega) (by omega) (by omega) (by omega) (by omega) e1 (Or.inr (fun q => h (short_en.mpr q)))
          refine V_ex sX11_lastPrinted_27 (by rfl) (by first | exact trivial | exact Or.inr rfl | exact Or.inl rfl | (simp only [ob, obA, R32, R64] at *; omega) | (simp only [ob, obA, R32, R64] at *; and_intros <;> omega) | (simp [ob, obA])) ?_
          refine V_icmpge dX11_lastPrinted_31 (tgt := 114) (by decide) (by simp only [R32, R64] at *; omega) (fun q31 => ?_) (fun q31 => ?_)
          · omega
          · refine V_ex sX11_lastPrinted_34 (by rfl) (by first | exact trivial | exact Or.inr rfl | exact Or.inl rfl | (simp only [ob, obA, R32, R64] at *; omega) | (simp only [ob, obA, R32, R64] at *; and_intros <;> omega) | (simp [ob, obA])) ?_
            refine V_mabs (M := MX11_lastPrinted) dX11_lastPrinted_37 lRX11_370 (by simp only [R32, R64] at *; omega) (Nat.le_of_ble_eq_true rfl) (fit_rm (by omega)) ⟨Nat.le_refl _, Nat.le_refl _⟩ ?_
            rw [ab]
            refine V_ex sX11_lastPrinted_40 (by rfl) (by first | exact trivial | exact Or.inr rfl | exact Or.inl rfl | (simp only [ob, obA, R32, R64] at *; omega) | (simp only [ob, obA, R32, R64] at *; and_intros <;> omega) | (simp [ob, obA])) ?_
            refine V_icmple dX11_lastPrinted_41 (tgt := 114) (by decide) (by simp only [R32, R64] at *; omega) (fun q41 => ?_) (fun q41 => ?_)
            · omega
            · refine V_ex sX11_lastPrinted_44 (by simp only [Option.toList, List.cons_append, List.nil_append, exN, ex1, gI, gL, gR, pI, pL, pR, lget, lset1, lset2, kl, b2I, b2L, nob, ob32, ob64, xGet, xPut, xLen, xLd, xLdR, xSt, obA, true_and, and_true, and_self, eq_self, Nat.reduceEqDiff, Nat.zero_ne_one, reduceIte, Nat.reduceLeDiff, and_false, false_and, em, upd2_eq, Int.reduceToNat, Int.toNat_natCast]; rfl) (by exact ⟨by unfold R32; omega, by unfold R32; omega, by decide⟩) ?_
              refine V_ifne dX11_lastPrinted_54 (tgt := 76) (by decide) (by simp only [R32, R64] at *; omega) (fun q54 => ?_) (fun q54 => ?_)
              · refine V_ex sX11_lastPrinted_76 (by rfl) (by first | exact trivial | exact Or.inr rfl | exact Or.inl rfl | (simp only [ob, obA, R32, R64] at *; omega) | (simp only [ob, obA, R32, R64] at *; and_intros <;> omega) | (simp [ob, obA])) ?_
                refine V_callV (M := MX11_lastPrinted) (N := MX11_shortOf) dX11_lastPrinted_80 lRX11_375 kX11_shortOf rfl (rfl) rfl (hSh) rfl rfl (Nat.le_of_ble_eq_true rfl) (fit_rm (by omega)) (⟨Nat.le_of_ble_eq_true rfl, Nat.le_of_ble_eq_true rfl⟩) (fun v Ω' hp => ?_) (fun _ _ h => h.elim)
                obtain ⟨rfl, rfl⟩ := hp
                refine V_ex sX11_lastPrinted_83 (by rfl) (by first | exact trivial | exact Or.inr rfl | exact Or.inl rfl | (simp only [ob, obA, R32, R64] at *; omega) | (simp only [ob, obA, R32, R64] at *; and_intros <;> omega) | (simp [ob, obA])) ?_
                refine V_icmpne dX11_lastPrinted_84 (tgt := 91) (by decide) (by simp only [R32, R64] at *; omega) (fun q84 => ?_) (fun q84 => ?_)
                · refine V_ex sX11_lastPrinted_91 (by rfl) (by first | exact trivial | exact Or.inr rfl | exact Or.inl rfl | (simp only [ob, obA, R32, R64] at *; omega) | (simp only [ob, obA, R32, R64] at *; and_intros <;> omega) | (simp [ob, obA])) ?_
                  exact tail _ _ _ 0 _ _ (Or.inl rfl) (by omega) (fun q => by cases q) (fun _ => hdn q84)
                · refine V_ex sX11_lastPrinted_87 (by rfl) (by first | exact trivial | exact Or.inr rfl | exact Or.inl rfl | (simp only [ob, obA, R32, R64] at *; omega) | (simp only [ob, obA, R32, R64] at *; and_intros <;> omega) | (simp [ob, obA])) ?_
                  refine V_goto dX11_lastPrinted_88 (tgt := 92) (by decide) ?_
                  exact tail _ _ _ 1 _ _ (Or.inr rfl) (by omega) (fun _ => hup q84) (fun q => by cases q)
              · omega
    refine V_ex sX11_lastPrinted_0 (by rfl) (by first | exact trivial | exact Or.inr rfl | exact Or.inl rfl | (simp only [ob, obA, R32, R64] at *; omega) | (simp only [ob, obA, R32, R64] at *; and_intros <;> omega) | (simp [ob, obA])) ?_
    refine V_ifne dX11_lastPrinted_1 (tgt := 8) (by decide) (by simp only [R32, R64] at *; omega) (fun q1 => ?_) (fun q1 => ?_)
    · refine V_ex sX11_lastPrinted_8 (by rfl) (by first | exact trivial | exact Or.inr rfl | exact Or.inl rfl | (simp only [ob, obA, R32, R64] at *; omega) | (simp only [ob, obA, R32, R64] at *; and_intros <;> omega) | (simp [ob, obA])) ?_
      refine V_ex sX11_lastPrinted_11 (by rfl) (by first | exact trivial | exact Or.inr rfl | exact Or.inl rfl | (simp only [ob, obA, R32, R64] at *; omega) | (simp only [ob, obA, R32, R64] at *; and_intros <;> omega) | (simp [ob, obA])) ?_
      refine V_ifne dX11_lastPrinted_13 (tgt := 22) (by decide) (by simp only [R32, R64] at *; omega) (fun q13 => ?_) (fun q13 => ?_)
      · refine V_ex sX11_lastPrinted_22 (by rfl) (by first | exact trivial | exact Or.inr rfl | exact Or.inl rfl | (simp only [ob, obA, R32, R64] at *; omega) | (simp only [ob, obA, R32, R64] at *; and_intros <;> omega) | (simp [ob, obA])) ?_
        refine V_ex sX11_lastPrinted_23 (by rfl) (by first | exact trivial | exact Or.inr rfl | exact Or.inl rfl | (simp only [ob, obA, R32, R64] at *; omega) | (simp only [ob, obA, R32, R64] at *; and_intros <;> omega) | (simp [ob, obA])) ?_
        exact L1 27 (n + 1) 0 _ _ 0 none none (by omega) rfl (by omega) (by omega) (by omega) (by omega) (by omega) (enough_top L n hL2) (Or.inl rfl)
      · omega
    · omega
theorem far_R {L : Nat → Int} {n v : Nat} (hL2 : ∀ f : Nat, f < 10 → 0 ≤ L f ∧ L f ≤ 9999) (hn9 : n ≤ 99999999) (h : isFar L n v) : v ≤ 100000000 ∧ (n ≠ 0 → 1 ≤ v) := by
  unfold isFar at h
  by_cases h0 : n = 0
  · rw [if_pos h0] at h
    refine ⟨?_, fun q => absurd h0 q⟩
    rcases Nat.lt_or_ge v 100000 with c | c
    · omega
    · exfalso
      refine (enough_0 L hL2).2 (fun f hf => ?_)
      have := h.1 f hf
      have := sS_mono (f := (f : Nat)) c
      omega
  · rw [if_neg h0] at h
    exact ⟨by omega, fun _ => h.1⟩
def leadL (S : Sh) (f : Nat) : Int := S.2.2.1.getD f 0
theorem lead_at {G : Wd} {s : Nat} {A : Ab} (hC : RC G s A) (hO : okSh 500 A.1) : (∀ f : Nat, f < 10 → G.1 (s + 4) f = leadL A.1 f) ∧ ∀ f : Nat, f < 10 → 0 ≤ leadL A.1 f ∧ leadL A.1 f ≤ 9999 := by
  have e10 : A.1.2.2.1.length = 10 := hO.2.2.2.2.1
  have hl := hC.2.1.2.2.2.2.1
  have e : ∀ f : Nat, (h : f < 10) → leadL A.1 f = A.1.2.2.1[f]'(by omega) := fun f h => by unfold leadL; rw [List.getD_eq_getElem?_getD, List.getElem?_eq_getElem (by omega)]; rfl
  exact ⟨fun f hf => by rw [e f hf]; exact hl f (by omega), fun f hf => by rw [e f hf]; exact hO.2.2.2.2.2.1 _ (List.getElem_mem _)⟩
set_option maxRecDepth 100000 in
set_option maxHeartbeats 4000000 in
theorem c_xFar {κ : Kx} (hκ : KOK κ) {d s : Nat} {K n : Int} {A : Ab} {G : Wd} (hC : RC G s A) (hI : Inv K A) (hR : aR G) (hn : R32 n) (hd : 20 ≤ d) : Ct κ MX11_far d 16 128 [VR 1, VI n] (Wm G) (cP G A ((farP (leadL A.1) n).1 = 0) (some (VI (farP (leadL A.1) n).2))) (cX G A ((farP (leadL A.1) n).1 = 1) IAE) := by
  refine Ct_of hκ kX11_far.1 rfl (Nat.le_of_ble_eq_true rfl) (ls := [some (VR 1), some (VI n)]) rfl (fun μ => ?_)
  have hn64 : R64 n := r32_64 hn
  obtain ⟨hL, hL2⟩ := lead_at hC hI.1
  by_cases hg : 0 ≤ n ∧ n ≤ 99999999
  · have hLP := c_lastP (κ := κ) hκ (d := 6) (n := n.toNat) (G := G) hC.1.1 hC.1.2.2 hL hL2 (by omega) (by omega)
    rw [Int.toNat_of_nonneg hg.1] at hLP
    refine V_ex sX11_far_0 (by rfl) (by first | exact trivial | exact Or.inr rfl | exact Or.inl rfl | (simp only [ob, obA, R32, R64] at *; omega) | (simp only [ob, obA, R32, R64] at *; and_intros <;> omega) | (simp [ob, obA])) ?_
    refine V_callS (M := MX11_far) (N := MX11_needWithin) dX11_far_6 lRX11_281 kX11_needWithin rfl (c_needWithin (d := 6) hκ hn64 (by unfold R64; omega) (by unfold R64; omega) (by omega)) rfl rfl (Nat.le_of_ble_eq_true rfl) (fit_rm (by omega)) (⟨Nat.le_of_ble_eq_true rfl, Nat.le_of_ble_eq_true rfl⟩) (fun v Ω' hp => ?_) (fun E Ω' h => absurd hg h.1)
    obtain ⟨-, rfl, rfl⟩ := hp
    refine V_ex sX11_far_9 (by rfl) (by first | exact trivial | exact Or.inr rfl | exact Or.inl rfl | (simp only [ob, obA, R32, R64] at *; omega) | (simp only [ob, obA, R32, R64] at *; and_intros <;> omega) | (simp [ob, obA])) ?_
    refine V_callV (M := MX11_far) (N := MX11_lastPrinted) dX11_far_11 lRX11_366 kX11_lastPrinted rfl (rfl) rfl (hLP) rfl rfl (Nat.le_of_ble_eq_true rfl) (fit_rm (by omega)) (⟨Nat.le_of_ble_eq_true rfl, Nat.le_of_ble_eq_true rfl⟩) (fun v Ω' hp => ?_) (fun _ _ h => h.elim)
    obtain ⟨hF, rfl, rfl⟩ := hp
    refine V_iret dX11_far_14 rfl (by decide) (by rw [farP, if_neg (not_not_intro hg)]; exact cP_0 hC rfl rfl)
  · refine V_ex sX11_far_0 (by rfl) (by first | exact trivial | exact Or.inr rfl | exact Or.inl rfl | (simp only [ob, obA, R32, R64] at *; omega) | (simp only [ob, obA, R32, R64] at *; and_intros <;> omega) | (simp [ob, obA])) ?_
    refine V_callS (M := MX11_far) (N := MX11_needWithin) dX11_far_6 lRX11_281 kX11_needWithin rfl (c_needWithin (d := 6) hκ hn64 (by unfold R64; omega) (by unfold R64; omega) (by omega)) rfl rfl (Nat.le_of_ble_eq_true rfl) (fit_rm (by omega)) (⟨Nat.le_of_ble_eq_true rfl, Nat.le_of_ble_eq_true rfl⟩) (fun v Ω' hp => ?_) (fun E Ω' h => ⟨by rw [h.2.1, h.2.2]; exact cX_0 hC (by rw [farP, if_pos h.1]), rfl, Nat.le_of_ble_eq_true rfl, Nat.le_of_ble_eq_true rfl⟩)
    skip
    exact absurd hp.1 hg
set_option maxRecDepth 100000 in
set_option maxHeartbeats 4000000 in
theorem c_xLacks {κ : Kx} (hκ : KOK κ) {d s : Nat} {K n : Int} {A : Ab} {G : Wd} (hC : RC G s A) (hI : Inv K A) (hR : aR G) (hn : R32 n) (hd : 20 ≤ d) : Ct κ MX11_lacks d 16 128 [VR 1, VI n] (Wm G) (cP G A ((lacksP (leadL A.1) n).1 = 0) (some (VI (lacksP (leadL A.1) n).2))) (cX G A ((lacksP (leadL A.1) n).1 = 1) IAE) := by
  refine Ct_of hκ kX11_lacks.1 rfl (Nat.le_of_ble_eq_true rfl) (ls := [some (VR 1), some (VI n), none]) rfl (fun μ => ?_)
  have hn64 : R64 n := r32_64 hn
  obtain ⟨hL, hL2⟩ := lead_at hC hI.1
  by_cases hg : 0 ≤ n ∧ n ≤ 99999999
  · obtain ⟨m, rfl⟩ : ∃ m : Nat, n = (m : Int) := ⟨n.toNat, by omega⟩
    have e : lacksP (leadL A.1) (m : Nat) = (0, lackV (leadL A.1) m (theFar (leadL A.1) m)) := by rw [lacksP, if_neg (not_not_intro hg)]; rfl
    refine V_ex sX11_lacks_0 (by rfl) (by first | exact trivial | exact Or.inr rfl | exact Or.inl rfl | (simp only [ob, obA, R32, R64] at *; omega) | (simp only [ob, obA, R32, R64] at *; and_intros <;> omega) | (simp [ob, obA])) ?_
    refine V_callS (M := MX11_lacks) (N := MX11_needWithin) dX11_lacks_6 lRX11_281 kX11_needWithin rfl (c_needWithin (d := 6) hκ hn64 (by unfold R64; omega) (by unfold R64; omega) (by omega)) rfl rfl (Nat.le_of_ble_eq_true rfl) (fit_rm (by omega)) (⟨Nat.le_of_ble_eq_true rfl, Nat.le_of_ble_eq_true rfl⟩) (fun v Ω' hp => ?_) (fun E Ω' h => absurd hg h.1)
    obtain ⟨-, rfl, rfl⟩ := hp
    refine V_ex sX11_lacks_9 (by rfl) (by first | exact trivial | exact Or.inr rfl | exact Or.inl rfl | (simp only [ob, obA, R32, R64] at *; omega) | (simp only [ob, obA, R32, R64] at *; and_intros <;> omega) | (simp [ob, obA])) ?_
    refine V_callV (M := MX11_lacks) (N := MX11_lastPrinted) dX11_lacks_11 lRX11_366 kX11_lastPrinted rfl (rfl) rfl (c_lastP (d := 6) hκ (n := m) hC.1.1 hC.1.2.2 hL hL2 (by omega) (by omega)) rfl rfl (Nat.le_of_ble_eq_true rfl) (fit_rm (by omega)) (⟨Nat.le_of_ble_eq_true rfl, Nat.le_of_ble_eq_true rfl⟩) (fun v Ω' hp => ?_) (fun _ _ h => h.elim)
    obtain ⟨hF, rfl, rfl⟩ := hp
    obtain ⟨w1, w2⟩ := far_R hL2 (by omega) hF
    generalize theFar (leadL A.1) m = v at *
    have hS1 := c_shortOf (κ := κ) hκ (d := 6) (a := 1) (b := v + 1) (G := G) hC.1.1 hC.1.2.2 hL hL2 (by omega) (by omega) (by omega)
    have e1 : (v : Int) + 1 = ((v + 1 : Nat) : Int) := by omega
    refine V_ex sX11_lacks_14 (by rfl) (by first | exact trivial | exact Or.inr rfl | exact Or.inl rfl | (simp only [ob, obA, R32, R64] at *; omega) | (simp only [ob, obA, R32, R64] at *; and_intros <;> omega) | (simp [ob, obA])) ?_
    refine V_ifne dX11_lacks_16 (tgt := 28) (by decide) (by simp only [R32, R64] at *; omega) (fun q16 => ?_) (fun q16 => ?_)
    · refine V_ex sX11_lacks_28 (by rfl) (by first | exact trivial | exact Or.inr rfl | exact Or.inl rfl | (simp only [ob, obA, R32, R64] at *; omega) | (simp only [ob, obA, R32, R64] at *; and_intros <;> omega) | (simp [ob, obA])) ?_
      refine V_icmpne dX11_lacks_30 (tgt := 37) (by decide) (by simp only [R32, R64] at *; omega) (fun q30 => ?_) (fun q30 => ?_)
      · have e2 : (v : Int) - 1 = ((v - 1 : Nat) : Int) := by have := w2 (by omega); omega
        refine V_ex sX11_lacks_37 (by simp only [Option.toList, List.cons_append, List.nil_append, exN, ex1, gI, gL, gR, pI, pL, pR, lget, lset1, lset2, kl, b2I, b2L, nob, ob32, ob64, xGet, xPut, xLen, xLd, xLdR, xSt, obA, true_and, and_true, and_self, eq_self, Nat.reduceEqDiff, Nat.zero_ne_one, reduceIte, Nat.reduceLeDiff, and_false, false_and, e2, upd2_eq, Int.reduceToNat, Int.toNat_natCast]; rfl) (by first | exact trivial | exact Or.inr rfl | exact Or.inl rfl | (simp only [ob, obA, R32, R64] at *; omega) | (simp only [ob, obA, R32, R64] at *; and_intros <;> omega) | (simp [ob, obA])) ?_
        refine V_callV (M := MX11_lacks) (N := MX11_shortOf) dX11_lacks_42 lRX11_375 kX11_shortOf rfl (rfl) rfl (c_shortOf (d := 6) hκ (a := v - 1) (b := m) hC.1.1 hC.1.2.2 hL hL2 (by have := w2 (by omega); omega) (by omega) (by omega)) rfl rfl (Nat.le_of_ble_eq_true rfl) (fit_rm (by omega)) (⟨Nat.le_of_ble_eq_true rfl, Nat.le_of_ble_eq_true rfl⟩) (fun v Ω' hp => ?_) (fun _ _ h => h.elim)
        obtain ⟨rfl, rfl⟩ := hp
        refine V_iret dX11_lacks_45 rfl (by decide) (by rw [e, lackV, if_neg (by omega), if_neg (by omega)]; exact cP_0 hC rfl rfl)
      · refine V_ex sX11_lacks_33 (by rfl) (by first | exact trivial | exact Or.inr rfl | exact Or.inl rfl | (simp only [ob, obA, R32, R64] at *; omega) | (simp only [ob, obA, R32, R64] at *; and_intros <;> omega) | (simp [ob, obA])) ?_
        refine V_goto dX11_lacks_34 (tgt := 45) (by decide) ?_
        refine V_iret dX11_lacks_45 rfl (by decide) (by rw [e, lackV, if_neg (by omega), if_pos (by omega)]; exact cP_0 hC rfl rfl)
    · refine V_ex sX11_lacks_19 (by simp only [Option.toList, List.cons_append, List.nil_append, exN, ex1, gI, gL, gR, pI, pL, pR, lget, lset1, lset2, kl, b2I, b2L, nob, ob32, ob64, xGet, xPut, xLen, xLd, xLdR, xSt, obA, true_and, and_true, and_self, eq_self, Nat.reduceEqDiff, Nat.zero_ne_one, reduceIte, Nat.reduceLeDiff, and_false, false_and, e1, upd2_eq, Int.reduceToNat, Int.toNat_natCast]; rfl) (by first | exact trivial | exact Or.inr rfl | exact Or.inl rfl | (simp only [ob, obA, R32, R64] at *; omega) | (simp only [ob, obA, R32, R64] at *; and_intros <;> omega) | (simp [ob, obA])) ?_
      refine V_callV (M := MX11_lacks) (N := MX11_shortOf) dX11_lacks_24 lRX11_375 kX11_shortOf rfl (rfl) rfl (hS1) rfl rfl (Nat.le_of_ble_eq_true rfl) (fit_rm (by omega)) (⟨Nat.le_of_ble_eq_true rfl, Nat.le_of_ble_eq_true rfl⟩) (fun v Ω' hp => ?_) (fun _ _ h => h.elim)
      obtain ⟨rfl, rfl⟩ := hp
      refine V_iret dX11_lacks_27 rfl (by decide) (by rw [e, lackV, if_pos (by omega)]; exact cP_0 hC rfl rfl)
  · have e : lacksP (leadL A.1) n = (1, 0) := by rw [lacksP, if_pos hg]
    refine V_ex sX11_lacks_0 (by rfl) (by first | exact trivial | exact Or.inr rfl | exact Or.inl rfl | (simp only [ob, obA, R32, R64] at *; omega) | (simp only [ob, obA, R32, R64] at *; and_intros <;> omega) | (simp [ob, obA])) ?_
    refine V_callS (M := MX11_lacks) (N := MX11_needWithin) dX11_lacks_6 lRX11_281 kX11_needWithin rfl (c_needWithin (d := 6) hκ hn64 (by unfold R64; omega) (by unfold R64; omega) (by omega)) rfl rfl (Nat.le_of_ble_eq_true rfl) (fit_rm (by omega)) (⟨Nat.le_of_ble_eq_true rfl, Nat.le_of_ble_eq_true rfl⟩) (fun v Ω' hp => ?_) (fun E Ω' h => ⟨by rw [h.2.1, h.2.2]; exact cX_0 hC (by rw [e]), rfl, Nat.le_of_ble_eq_true rfl, Nat.le_of_ble_eq_true rfl⟩)
    skip
    exact absurd hp.1 hg
