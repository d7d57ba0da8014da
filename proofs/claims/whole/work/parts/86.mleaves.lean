/-! THE MODEL's reader: leaves told -/
def amg (f : Nat → Int) (a m : Nat) (v : Int) : Bool := (List.range m).any (fun k => decide (f (a + k) = v))
theorem amg_yes {f : Nat → Int} {a m k : Nat} {v : Int} (hk : k < m) (h : f (a + k) = v) : amg f a m v = true := List.any_eq_true.mpr ⟨k, List.mem_range.mpr hk, decide_eq_true h⟩
theorem amg_no {f : Nat → Int} {a m : Nat} {v : Int} (h : ∀ k, k < m → f (a + k) ≠ v) : amg f a m v = false := by
  cases e : amg f a m v with
  | false => rfl
  | true =>
    obtain ⟨k, hk, hv⟩ := List.any_eq_true.mp e
    exact absurd (of_decide_eq_true hv) (h k (List.mem_range.mp hk))
theorem amg_list {f : Nat → Int} {a : Nat} {v : Int} {g : List Int} (h : ∀ j (hj : j < g.length), f (a + j) = g[j]'hj) : amg f a g.length v = decide (v ∈ g) := by
  by_cases hv : v ∈ g
  · obtain ⟨k, hk, e⟩ := List.getElem_of_mem hv
    rw [decide_eq_true hv]
    exact amg_yes hk ((h k hk).trans e)
  · rw [decide_eq_false hv]
    exact amg_no (fun k hk e => hv (by rw [← e, h k hk]; exact List.getElem_mem hk))
set_option maxRecDepth 100000 in
set_option maxHeartbeats 4000000 in
theorem c_mAmong {κ : Kx} (hκ : KOK κ) {d a n fr m : Nat} {v : Int} {G : Wd} (ha : LF.1 a = some (.inr (0, n))) (hn : fr + m ≤ n) (hn2 : n ≤ 100000) (hv : R32 v) (hr : ∀ j, j < m → R32 (G.1 a (fr + j))) : Ct κ MX12_isAmong d 0 0 [VR a, VI (fr : Nat), VI (m : Nat), VI v] (Wm G) (keepG G (VI (b2i (amg (G.1 a) fr m v)))) noX := by
  refine Ct_of hκ kX12_isAmong.1 rfl (Nat.le_of_ble_eq_true rfl) (ls := [some (VR a), some (VI (fr : Nat)), some (VI (m : Nat)), some (VI v), none]) rfl (fun μ => ?_)
  have L : ∀ (r k : Nat) (ii : Int), k + r = m → ii = (k : Int) → (∀ j, j < k → G.1 a (fr + j) ≠ v) → V κ MX12_isAmong (rmD d 0 0) (keepG G (VI (b2i (amg (G.1 a) fr m v)))) noX 0 0 μ 0 0 (Wm G) 3 [some (VR a), some (VI (fr : Nat)), some (VI (m : Nat)), some (VI v), some (VI ii)] [] := by
    intro r
    induction r with
    | zero =>
      intro k ii hk hi hj
      refine V_ex sX12_isAmong_3 (by rfl) (by first | exact trivial | exact Or.inr rfl | exact Or.inl rfl | (simp only [ob, obA, R32, R64] at *; omega) | (simp only [ob, obA, R32, R64] at *; and_intros <;> omega)) ?_
      refine V_icmpge dX12_isAmong_6 (tgt := 27) (by decide) (by simp only [R32, R64] at *; omega) (fun q6 => ?_) (fun q6 => ?_)
      · refine V_ex sX12_isAmong_27 (by rfl) (by first | exact trivial | exact Or.inr rfl | exact Or.inl rfl | (simp only [ob, obA, R32, R64] at *; omega) | (simp only [ob, obA, R32, R64] at *; and_intros <;> omega)) ?_
        refine V_zret dX12_isAmong_28 rfl (by first | exact Or.inl rfl | exact Or.inr rfl | exact b2i_01 _) (by decide) ⟨by rw [amg_no (fun j hj2 => hj j (by omega))]; rfl, rfl⟩
      · omega
    | succ r ih =>
      intro k ii hk hi hj
      subst hi
      have e : ((fr : Int) + (k : Int)).toNat = fr + k := by omega
      refine V_ex sX12_isAmong_3 (by rfl) (by first | exact trivial | exact Or.inr rfl | exact Or.inl rfl | (simp only [ob, obA, R32, R64] at *; omega) | (simp only [ob, obA, R32, R64] at *; and_intros <;> omega)) ?_
      refine V_icmpge dX12_isAmong_6 (tgt := 27) (by decide) (by simp only [R32, R64] at *; omega) (fun q6 => ?_) (fun q6 => ?_)
      · omega
      · refine V_ex sX12_isAmong_9 (by simp only [Option.toList, List.cons_append, List.nil_append, exN, ex1, gI, gL, gR, pI, pL, pR, lget, lset1, lset2, kl, b2I, b2L, nob, ob32, ob64, xGet, xPut, xLen, xLd, xLdR, xSt, obA, true_and, and_true, and_self, eq_self, Nat.reduceEqDiff, Nat.zero_ne_one, reduceIte, Nat.reduceLeDiff, and_false, false_and, ha, upd2_eq, Int.reduceToNat, Int.toNat_natCast]; rfl) (by first | exact trivial | exact Or.inr rfl | exact Or.inl rfl | (simp only [ob, obA, R32, R64] at *; omega) | (simp only [ob, obA, R32, R64] at *; and_intros <;> omega)) ?_
        rw [e]
        refine V_icmpne dX12_isAmong_16 (tgt := 21) (by decide) (by exact ⟨hr k (by omega), hv⟩) (fun q16 => ?_) (fun q16 => ?_)
        · refine V_ex sX12_isAmong_21 (by rfl) (by first | exact trivial | exact Or.inr rfl | exact Or.inl rfl | (simp only [ob, obA, R32, R64] at *; omega) | (simp only [ob, obA, R32, R64] at *; and_intros <;> omega)) ?_
          refine V_goto dX12_isAmong_24 (tgt := 3) (by decide) ?_
          exact ih (k + 1) _ (by omega) (by omega) (fun j hj2 => by rcases Nat.lt_or_ge j k with h | h; exact hj j h; rw [show j = k by omega]; assumption)
        · refine V_ex sX12_isAmong_19 (by rfl) (by first | exact trivial | exact Or.inr rfl | exact Or.inl rfl | (simp only [ob, obA, R32, R64] at *; omega) | (simp only [ob, obA, R32, R64] at *; and_intros <;> omega)) ?_
          refine V_zret dX12_isAmong_20 rfl (by first | exact Or.inl rfl | exact Or.inr rfl | exact b2i_01 _) (by decide) ⟨by rw [amg_yes (k := k) (by omega) (by assumption)]; rfl, rfl⟩
  refine V_ex sX12_isAmong_0 (by rfl) (by first | exact trivial | exact Or.inr rfl | exact Or.inl rfl | (simp only [ob, obA, R32, R64] at *; omega) | (simp only [ob, obA, R32, R64] at *; and_intros <;> omega)) ?_
  exact L m 0 0 (by omega) rfl (fun j hj => absurd hj (by omega))
theorem mI_keep {G G' : Wd} (h5 : ∀ j, 19 ≤ j → j ≤ 26 → j ≠ 23 → G'.1 145 j = G.1 145 j) (h162 : G'.1 162 = G.1 162) {f : Nat → Int} {n i : Nat} (hI : mI f n G i) : mI f n G' i := by
  obtain ⟨hf, t, l, h1, ⟨⟨x1, x2, x3⟩, h6, ⟨a1, a2, a3, a4, a5⟩, h7⟩, h3⟩ := hI
  exact ⟨h162.trans hf, t, l, h1, ⟨⟨by rw [h5 _ (by omega) (by omega) (by omega)]; exact x1, x2, fun j hj => by rw [h162]; exact x3 j hj⟩, by rw [h162]; exact h6, ⟨by rw [h5 _ (by omega) (by omega) (by omega)]; exact a1, by rw [h5 _ (by omega) (by omega) (by omega)]; exact a2, by rw [h5 _ (by omega) (by omega) (by omega)]; exact a3, by rw [h5 _ (by omega) (by omega) (by omega)]; exact a4, fun p q => by rw [h5 _ (by omega) (by omega) (by omega)]; exact a5 p q⟩, by rw [h5 _ (by omega) (by omega) (by omega)]; exact h7⟩, h3⟩
def ixP (f : Nat → Int) (n i nb : Nat) (G : Wd) : Option Vl → Om → Prop := fun u Ω' => (pIdx (tkW (tk f n 0)) (tkV (tk f n 0)) nb i = 0 → u = some (VI (tkV (tk f n 0) i)) ∧ siP f n (i + 1) G none Ω') ∧ (pIdx (tkW (tk f n 0)) (tkV (tk f n 0)) nb i ≠ 0 → u = some (VI 0) ∧ Ω' = Wm (ctW f n i (pIdx (tkW (tk f n 0)) (tkV (tk f n 0)) nb i) G))
set_option maxRecDepth 100000 in
set_option maxHeartbeats 4000000 in
theorem c_mOneOf {κ : Kx} (hκ : KOK κ) {d n i nb : Nat} {f : Nat → Int} {G : Wd} (h : mI f n G i) (hnb : G.1 148 2 = (nb : Nat)) (hnb6 : nb ≤ 6) (hd : 2 ≤ d) : Ct κ MX12_readOneOf d 0 0 [VR 145] (Wm G) (ixP f n i nb G) noX := by
  refine Ct_of hκ kX12_readOneOf.1 rfl (Nat.le_of_ble_eq_true rfl) (ls := [some (VR 145), none]) rfl (fun μ => ?_)
  obtain ⟨h26, h21⟩ := mI_26 h
  obtain ⟨j1, j2, j3, j4, j5, j6⟩ := mI_lt h
  have hN := c_iNumNow hκ (d := 1) (lo := 0) (hh := 9999) h (by omega) (by omega) (by omega)
  have h26k : ∀ k : Int, (ctW f n i k G).1 145 26 = k := fun k => ct_26
  by_cases hx : pNum (tkW (tk f n 0)) (tkV (tk f n 0)) 0 9999 i = 0
  · obtain ⟨w1, w2, w3⟩ := pNum_0 hx
    rw [if_pos hx, if_pos hx] at hN
    by_cases hy : (nb : Int) ≤ tkV (tk f n 0) i
    · have hz : pIdx (tkW (tk f n 0)) (tkV (tk f n 0)) nb i = 3 := by rw [pIdx, if_neg (by omega), if_neg (by omega), if_pos hy]
      refine V_ex sX12_readOneOf_0 (by rfl) (by first | exact trivial | exact Or.inr rfl | exact Or.inl rfl | (simp only [ob, obA, R32, R64] at *; omega) | (simp only [ob, obA, R32, R64] at *; and_intros <;> omega)) ?_
      refine V_callV (M := MX12_readOneOf) (N := MX12_numberNow) dX12_readOneOf_5 lRX12_252 kX12_numberNow rfl (rfl) rfl (hN) rfl rfl (Nat.le_of_ble_eq_true rfl) (fit_rm (by omega)) (⟨Nat.le_of_ble_eq_true rfl, Nat.le_of_ble_eq_true rfl⟩) (fun v Ω' hp => ?_) (fun _ _ h => h.elim)
      obtain ⟨rfl, rfl⟩ := hp
      refine V_ex sX12_readOneOf_8 (by simp only [Option.toList, List.cons_append, List.nil_append, exN, ex1, gI, gL, gR, pI, pL, pR, lget, lset1, lset2, kl, b2I, b2L, nob, ob32, ob64, xGet, xPut, xLen, xLd, xLdR, xSt, obA, true_and, and_true, and_self, eq_self, Nat.reduceEqDiff, Nat.zero_ne_one, reduceIte, Nat.reduceLeDiff, and_false, false_and, show skd 11 26 = 0 from rfl, show LF.1 145 = some (.inl 11) from rfl, upd2_eq, Int.reduceToNat, Int.toNat_natCast]; rfl) (by first | exact trivial | exact Or.inr rfl | exact Or.inl rfl | (simp only [ob, obA, R32, R64] at *; omega) | (simp only [ob, obA, R32, R64] at *; and_intros <;> omega)) ?_
      refine V_ifne dX12_readOneOf_13 (tgt := 31) (by decide) (by rw [h26]; unfold R32; decide) (fun q13 => ?_) (fun q13 => ?_)
      · exact absurd h26 q13
      · refine V_ex sX12_readOneOf_16 (by simp only [Option.toList, List.cons_append, List.nil_append, exN, ex1, gI, gL, gR, pI, pL, pR, lget, lset1, lset2, kl, b2I, b2L, nob, ob32, ob64, xGet, xPut, xLen, xLd, xLdR, xSt, obA, true_and, and_true, and_self, eq_self, Nat.reduceEqDiff, Nat.zero_ne_one, reduceIte, Nat.reduceLeDiff, and_false, false_and, show skd 11 3 = 2 from rfl, show LF.1 145 = some (.inl 11) from rfl, show LF.2 145 3 = some 148 from rfl, show LF.1 148 = some (.inr (0, 4)) from rfl, hnb, upd2_eq, Int.reduceToNat, Int.toNat_natCast]; rfl) (by first | exact trivial | exact Or.inr rfl | exact Or.inl rfl | (simp only [ob, obA, R32, R64] at *; omega) | (simp only [ob, obA, R32, R64] at *; and_intros <;> omega)) ?_
        refine V_icmplt dX12_readOneOf_23 (tgt := 31) (by decide) (by simp only [R32, R64] at *; omega) (fun q23 => ?_) (fun q23 => ?_)
        · omega
        · refine V_ex sX12_readOneOf_26 (by rfl) (by first | exact trivial | exact Or.inr rfl | exact Or.inl rfl | (simp only [ob, obA, R32, R64] at *; omega) | (simp only [ob, obA, R32, R64] at *; and_intros <;> omega)) ?_
          refine V_callV (M := MX12_readOneOf) (N := MX12_cant) dX12_readOneOf_28 lRX12_245 kX12_cant rfl (rfl) rfl (c_iCant (d := 0) hκ h) rfl rfl (Nat.le_of_ble_eq_true rfl) (fit_rm (by omega)) (⟨Nat.le_of_ble_eq_true rfl, Nat.le_of_ble_eq_true rfl⟩) (fun v Ω' hp => ?_) (fun _ _ h => h.elim)
          obtain ⟨rfl, rfl⟩ := hp
          refine V_ex sX12_readOneOf_31 (by simp only [Option.toList, List.cons_append, List.nil_append, exN, ex1, gI, gL, gR, pI, pL, pR, lget, lset1, lset2, kl, b2I, b2L, nob, ob32, ob64, xGet, xPut, xLen, xLd, xLdR, xSt, obA, true_and, and_true, and_self, eq_self, Nat.reduceEqDiff, Nat.zero_ne_one, reduceIte, Nat.reduceLeDiff, and_false, false_and, show skd 11 26 = 0 from rfl, show LF.1 145 = some (.inl 11) from rfl, upd2_eq, Int.reduceToNat, Int.toNat_natCast]; rfl) (by first | exact trivial | exact Or.inr rfl | exact Or.inl rfl | (simp only [ob, obA, R32, R64] at *; omega) | (simp only [ob, obA, R32, R64] at *; and_intros <;> omega)) ?_
          refine V_ifne dX12_readOneOf_35 (tgt := 42) (by decide) (by rw [h26k]; unfold R32; decide) (fun q35 => ?_) (fun q35 => ?_)
          · refine V_ex sX12_readOneOf_42 (by simp only [Option.toList, List.cons_append, List.nil_append, exN, ex1, gI, gL, gR, pI, pL, pR, lget, lset1, lset2, kl, b2I, b2L, nob, ob32, ob64, xGet, xPut, xLen, xLd, xLdR, xSt, obA, true_and, and_true, and_self, eq_self, Nat.reduceEqDiff, Nat.zero_ne_one, reduceIte, Nat.reduceLeDiff, and_false, false_and, show skd 11 26 = 0 from rfl, show LF.1 145 = some (.inl 11) from rfl, upd2_eq, Int.reduceToNat, Int.toNat_natCast]; rfl) (by first | exact trivial | exact Or.inr rfl | exact Or.inl rfl | (simp only [ob, obA, R32, R64] at *; omega) | (simp only [ob, obA, R32, R64] at *; and_intros <;> omega)) ?_
            refine V_ifne dX12_readOneOf_46 (tgt := 53) (by decide) (by rw [h26k]; unfold R32; decide) (fun q46 => ?_) (fun q46 => ?_)
            · refine V_ex sX12_readOneOf_53 (by rfl) (by first | exact trivial | exact Or.inr rfl | exact Or.inl rfl | (simp only [ob, obA, R32, R64] at *; omega) | (simp only [ob, obA, R32, R64] at *; and_intros <;> omega)) ?_
              refine V_iret dX12_readOneOf_54 rfl (by decide) ⟨fun q => by rw [hz] at q; exact absurd q (by decide), fun _ => ⟨rfl, by rw [hz]⟩⟩
            · rw [h26k] at q46; exact absurd q46 (by decide)
          · rw [h26k] at q35; exact absurd q35 (by decide)
    · have hz : pIdx (tkW (tk f n 0)) (tkV (tk f n 0)) nb i = 0 := by rw [pIdx, if_neg (by omega), if_neg (by omega), if_neg hy]
      refine V_ex sX12_readOneOf_0 (by rfl) (by first | exact trivial | exact Or.inr rfl | exact Or.inl rfl | (simp only [ob, obA, R32, R64] at *; omega) | (simp only [ob, obA, R32, R64] at *; and_intros <;> omega)) ?_
      refine V_callV (M := MX12_readOneOf) (N := MX12_numberNow) dX12_readOneOf_5 lRX12_252 kX12_numberNow rfl (rfl) rfl (hN) rfl rfl (Nat.le_of_ble_eq_true rfl) (fit_rm (by omega)) (⟨Nat.le_of_ble_eq_true rfl, Nat.le_of_ble_eq_true rfl⟩) (fun v Ω' hp => ?_) (fun _ _ h => h.elim)
      obtain ⟨rfl, rfl⟩ := hp
      refine V_ex sX12_readOneOf_8 (by simp only [Option.toList, List.cons_append, List.nil_append, exN, ex1, gI, gL, gR, pI, pL, pR, lget, lset1, lset2, kl, b2I, b2L, nob, ob32, ob64, xGet, xPut, xLen, xLd, xLdR, xSt, obA, true_and, and_true, and_self, eq_self, Nat.reduceEqDiff, Nat.zero_ne_one, reduceIte, Nat.reduceLeDiff, and_false, false_and, show skd 11 26 = 0 from rfl, show LF.1 145 = some (.inl 11) from rfl, upd2_eq, Int.reduceToNat, Int.toNat_natCast]; rfl) (by first | exact trivial | exact Or.inr rfl | exact Or.inl rfl | (simp only [ob, obA, R32, R64] at *; omega) | (simp only [ob, obA, R32, R64] at *; and_intros <;> omega)) ?_
      refine V_ifne dX12_readOneOf_13 (tgt := 31) (by decide) (by rw [h26]; unfold R32; decide) (fun q13 => ?_) (fun q13 => ?_)
      · exact absurd h26 q13
      · refine V_ex sX12_readOneOf_16 (by simp only [Option.toList, List.cons_append, List.nil_append, exN, ex1, gI, gL, gR, pI, pL, pR, lget, lset1, lset2, kl, b2I, b2L, nob, ob32, ob64, xGet, xPut, xLen, xLd, xLdR, xSt, obA, true_and, and_true, and_self, eq_self, Nat.reduceEqDiff, Nat.zero_ne_one, reduceIte, Nat.reduceLeDiff, and_false, false_and, show skd 11 3 = 2 from rfl, show LF.1 145 = some (.inl 11) from rfl, show LF.2 145 3 = some 148 from rfl, show LF.1 148 = some (.inr (0, 4)) from rfl, hnb, upd2_eq, Int.reduceToNat, Int.toNat_natCast]; rfl) (by first | exact trivial | exact Or.inr rfl | exact Or.inl rfl | (simp only [ob, obA, R32, R64] at *; omega) | (simp only [ob, obA, R32, R64] at *; and_intros <;> omega)) ?_
        refine V_icmplt dX12_readOneOf_23 (tgt := 31) (by decide) (by simp only [R32, R64] at *; omega) (fun q23 => ?_) (fun q23 => ?_)
        · refine V_ex sX12_readOneOf_31 (by simp only [Option.toList, List.cons_append, List.nil_append, exN, ex1, gI, gL, gR, pI, pL, pR, lget, lset1, lset2, kl, b2I, b2L, nob, ob32, ob64, xGet, xPut, xLen, xLd, xLdR, xSt, obA, true_and, and_true, and_self, eq_self, Nat.reduceEqDiff, Nat.zero_ne_one, reduceIte, Nat.reduceLeDiff, and_false, false_and, show skd 11 26 = 0 from rfl, show LF.1 145 = some (.inl 11) from rfl, upd2_eq, Int.reduceToNat, Int.toNat_natCast]; rfl) (by first | exact trivial | exact Or.inr rfl | exact Or.inl rfl | (simp only [ob, obA, R32, R64] at *; omega) | (simp only [ob, obA, R32, R64] at *; and_intros <;> omega)) ?_
          refine V_ifne dX12_readOneOf_35 (tgt := 42) (by decide) (by rw [h26]; unfold R32; decide) (fun q35 => ?_) (fun q35 => ?_)
          · exact absurd h26 q35
          · refine V_ex sX12_readOneOf_38 (by rfl) (by first | exact trivial | exact Or.inr rfl | exact Or.inl rfl | (simp only [ob, obA, R32, R64] at *; omega) | (simp only [ob, obA, R32, R64] at *; and_intros <;> omega)) ?_
            refine V_callV (M := MX12_readOneOf) (N := MX12_stepOn) dX12_readOneOf_39 lRX12_249 kX12_stepOn rfl (rfl) rfl (c_iNext (d := 1) hκ h (by omega) (by omega)) rfl rfl (Nat.le_of_ble_eq_true rfl) (fit_rm (by omega)) (⟨Nat.le_of_ble_eq_true rfl, Nat.le_of_ble_eq_true rfl⟩) (fun v Ω' hp => ?_) (fun _ _ h => h.elim)
            obtain ⟨rfl, G2, rfl, f2, i2⟩ := hp
            refine V_ex sX12_readOneOf_42 (by simp only [Option.toList, List.cons_append, List.nil_append, exN, ex1, gI, gL, gR, pI, pL, pR, lget, lset1, lset2, kl, b2I, b2L, nob, ob32, ob64, xGet, xPut, xLen, xLd, xLdR, xSt, obA, true_and, and_true, and_self, eq_self, Nat.reduceEqDiff, Nat.zero_ne_one, reduceIte, Nat.reduceLeDiff, and_false, false_and, show skd 11 26 = 0 from rfl, show LF.1 145 = some (.inl 11) from rfl, upd2_eq, Int.reduceToNat, Int.toNat_natCast]; rfl) (by first | exact trivial | exact Or.inr rfl | exact Or.inl rfl | (simp only [ob, obA, R32, R64] at *; omega) | (simp only [ob, obA, R32, R64] at *; and_intros <;> omega)) ?_
            refine V_ifne dX12_readOneOf_46 (tgt := 53) (by decide) (by rw [(mI_26 i2).1]; unfold R32; decide) (fun q46 => ?_) (fun q46 => ?_)
            · exact absurd (mI_26 i2).1 q46
            · refine V_ex sX12_readOneOf_49 (by rfl) (by first | exact trivial | exact Or.inr rfl | exact Or.inl rfl | (simp only [ob, obA, R32, R64] at *; omega) | (simp only [ob, obA, R32, R64] at *; and_intros <;> omega)) ?_
              refine V_goto dX12_readOneOf_50 (tgt := 54) (by decide) ?_
              refine V_iret dX12_readOneOf_54 rfl (by decide) ⟨fun _ => ⟨rfl, rfl, G2, rfl, f2, i2⟩, fun q => absurd hz q⟩
        · omega
  · rw [if_neg hx, if_neg hx] at hN
    have hz : pIdx (tkW (tk f n 0)) (tkV (tk f n 0)) nb i = pNum (tkW (tk f n 0)) (tkV (tk f n 0)) 0 9999 i := by
      unfold pNum at *
      unfold pIdx
      by_cases e1 : tkW (tk f n 0) i ≠ -2
      · rw [if_pos e1, if_pos e1]
      · rw [if_neg e1] at hx ⊢
        rw [if_neg e1]
        by_cases e2 : tkV (tk f n 0) i < 0 ∨ 9999 < tkV (tk f n 0) i
        · rw [if_pos e2, if_pos (by omega)]
        · rw [if_neg e2] at hx; exact absurd rfl hx
    have hR := pNum_R (tkW (tk f n 0)) (tkV (tk f n 0)) 0 9999 i
    generalize pNum (tkW (tk f n 0)) (tkV (tk f n 0)) 0 9999 i = k at *
    refine V_ex sX12_readOneOf_0 (by rfl) (by first | exact trivial | exact Or.inr rfl | exact Or.inl rfl | (simp only [ob, obA, R32, R64] at *; omega) | (simp only [ob, obA, R32, R64] at *; and_intros <;> omega)) ?_
    refine V_callV (M := MX12_readOneOf) (N := MX12_numberNow) dX12_readOneOf_5 lRX12_252 kX12_numberNow rfl (rfl) rfl (hN) rfl rfl (Nat.le_of_ble_eq_true rfl) (fit_rm (by omega)) (⟨Nat.le_of_ble_eq_true rfl, Nat.le_of_ble_eq_true rfl⟩) (fun v Ω' hp => ?_) (fun _ _ h => h.elim)
    obtain ⟨rfl, rfl⟩ := hp
    refine V_ex sX12_readOneOf_8 (by simp only [Option.toList, List.cons_append, List.nil_append, exN, ex1, gI, gL, gR, pI, pL, pR, lget, lset1, lset2, kl, b2I, b2L, nob, ob32, ob64, xGet, xPut, xLen, xLd, xLdR, xSt, obA, true_and, and_true, and_self, eq_self, Nat.reduceEqDiff, Nat.zero_ne_one, reduceIte, Nat.reduceLeDiff, and_false, false_and, show skd 11 26 = 0 from rfl, show LF.1 145 = some (.inl 11) from rfl, upd2_eq, Int.reduceToNat, Int.toNat_natCast]; rfl) (by first | exact trivial | exact Or.inr rfl | exact Or.inl rfl | (simp only [ob, obA, R32, R64] at *; omega) | (simp only [ob, obA, R32, R64] at *; and_intros <;> omega)) ?_
    refine V_ifne dX12_readOneOf_13 (tgt := 31) (by decide) (by rw [h26k]; unfold R32; omega) (fun q13 => ?_) (fun q13 => ?_)
    · refine V_ex sX12_readOneOf_31 (by simp only [Option.toList, List.cons_append, List.nil_append, exN, ex1, gI, gL, gR, pI, pL, pR, lget, lset1, lset2, kl, b2I, b2L, nob, ob32, ob64, xGet, xPut, xLen, xLd, xLdR, xSt, obA, true_and, and_true, and_self, eq_self, Nat.reduceEqDiff, Nat.zero_ne_one, reduceIte, Nat.reduceLeDiff, and_false, false_and, show skd 11 26 = 0 from rfl, show LF.1 145 = some (.inl 11) from rfl, upd2_eq, Int.reduceToNat, Int.toNat_natCast]; rfl) (by first | exact trivial | exact Or.inr rfl | exact Or.inl rfl | (simp only [ob, obA, R32, R64] at *; omega) | (simp only [ob, obA, R32, R64] at *; and_intros <;> omega)) ?_
      refine V_ifne dX12_readOneOf_35 (tgt := 42) (by decide) (by rw [h26k]; unfold R32; omega) (fun q35 => ?_) (fun q35 => ?_)
      · refine V_ex sX12_readOneOf_42 (by simp only [Option.toList, List.cons_append, List.nil_append, exN, ex1, gI, gL, gR, pI, pL, pR, lget, lset1, lset2, kl, b2I, b2L, nob, ob32, ob64, xGet, xPut, xLen, xLd, xLdR, xSt, obA, true_and, and_true, and_self, eq_self, Nat.reduceEqDiff, Nat.zero_ne_one, reduceIte, Nat.reduceLeDiff, and_false, false_and, show skd 11 26 = 0 from rfl, show LF.1 145 = some (.inl 11) from rfl, upd2_eq, Int.reduceToNat, Int.toNat_natCast]; rfl) (by first | exact trivial | exact Or.inr rfl | exact Or.inl rfl | (simp only [ob, obA, R32, R64] at *; omega) | (simp only [ob, obA, R32, R64] at *; and_intros <;> omega)) ?_
        refine V_ifne dX12_readOneOf_46 (tgt := 53) (by decide) (by rw [h26k]; unfold R32; omega) (fun q46 => ?_) (fun q46 => ?_)
        · refine V_ex sX12_readOneOf_53 (by rfl) (by first | exact trivial | exact Or.inr rfl | exact Or.inl rfl | (simp only [ob, obA, R32, R64] at *; omega) | (simp only [ob, obA, R32, R64] at *; and_intros <;> omega)) ?_
          refine V_iret dX12_readOneOf_54 rfl (by decide) ⟨fun q => by rw [hz] at q; exact absurd q hx, fun _ => ⟨rfl, by rw [hz]⟩⟩
        · rw [h26k] at q46; exact absurd q46 hx
      · rw [h26k] at q35; exact absurd q35 hx
    · rw [h26k] at q13; exact absurd q13 hx
