/-! THE MODEL's reader: is it this word, this mark; numbers told -/
/-- the reader of the model stands at t, nothing wrong yet -/
def mG (G : Wd) (n : Nat) (t : Tk) : Prop := mTx G n ∧ tkF (G.1 162) n t ∧ mAt G t ∧ G.1 145 26 = 0
theorem kd_1 (w : Int) : kd w = 1 ↔ 256 ≤ w := by
  unfold kd
  split
  · constructor <;> intro h <;> omega
  · split
    · constructor <;> intro h <;> omega
    · split
      · constructor <;> intro h <;> omega
      · split <;> constructor <;> intro h <;> omega
theorem kd_2 (w : Int) : kd w = 2 ↔ w = -2 := by
  unfold kd
  split
  · constructor <;> intro h <;> omega
  · split
    · constructor <;> intro h <;> omega
    · split
      · constructor <;> intro h <;> omega
      · split <;> constructor <;> intro h <;> omega
theorem kd_0 (w : Int) : kd w = 0 ↔ w = -1 := by
  unfold kd
  split
  · constructor <;> intro h <;> omega
  · split
    · constructor <;> intro h <;> omega
    · split
      · constructor <;> intro h <;> omega
      · split <;> constructor <;> intro h <;> omega
theorem kd_3 (w : Int) : kd w = 3 ↔ w ≠ -1 ∧ w ≠ -2 ∧ w < 256 ∧ isMk w = true := by
  unfold kd
  split
  · constructor <;> intro h <;> omega
  · split
    · constructor <;> intro h <;> omega
    · split
      · constructor <;> intro h <;> omega
      · split
        · rename_i a b c d; exact ⟨fun _ => ⟨a, b, by omega, d⟩, fun _ => rfl⟩
        · rename_i a b c d; exact ⟨fun h => by omega, fun h => absurd h.2.2.2 d⟩
theorem kd_R (w : Int) : 0 ≤ kd w ∧ kd w ≤ 4 := by unfold kd; split <;> (try split) <;> (try split) <;> (try split) <;> decide
set_option maxRecDepth 100000 in
set_option maxHeartbeats 4000000 in
theorem c_mIs {κ : Kx} (hκ : KOK κ) (hKS : KS κ) {d n q k : Nat} {t : Tk} {G : Wd} (hs : SF κ q (wordT.getD k [])) (hk : k < 18) (hg : mG G n t) (hd : 4 ≤ d) : Ct κ MX12_is d 0 0 [VR 145, VR q] (Wm G) (keepG G (VI (b2i (decide (t.1 = 256 + (k : Int)))))) noX := by
  refine Ct_of hκ kX12_is.1 rfl (Nat.le_of_ble_eq_true rfl) (ls := [some (VR 145), some (VR q), none, none]) rfl (fun μ => ?_)
  obtain ⟨hx, hF, hA, h26⟩ := hg
  obtain ⟨a1, a2, a3, a4, a5⟩ := hA
  obtain ⟨f1, f2, f3, f4, f5, f6, f7, f8, f9⟩ := tkF_is (fun j hj => hx.2.2 j (by have := hx.2.1; omega)) hF
  obtain ⟨x1, x2, x3⟩ := hx
  have hs0 := hs
  have hit := wfind_hit (f := G.1 162) (p := t.2.2.1) (e := t.2.2.2) wordT 256 k (by show k < 18; exact hk) wordT_nd
  have hwl := wordT_len k hk
  generalize wordT.getD k [] = u at *
  have hW : 256 ≤ t.1 → (isWd (G.1 162) t.2.2.1 t.2.2.2 u = true ↔ t.1 = 256 + (k : Int)) := fun q => by rw [hit, ← f5 q]
  have hkd := kd_1 t.1
  have hkR := kd_R t.1
  obtain ⟨hq, hl, hb, b0, h1, h2, h3, h4⟩ := hs
  have out : ¬ t.1 = 256 + (k : Int) → ∀ x, V κ MX12_is (rmD d 0 0) (keepG G (VI (b2i (decide (t.1 = 256 + (k : Int)))))) noX 0 0 μ 0 0 (Wm G) 39 [some (VR 145), some (VR q), some (VI 0), some (VI x)] [] := fun hn x => by
    refine V_ex sX12_is_39 (by rfl) (by first | exact trivial | exact Or.inr rfl | exact Or.inl rfl | (simp only [ob, obA, R32, R64] at *; omega) | (simp only [ob, obA, R32, R64] at *; and_intros <;> omega)) ?_
    refine V_ifeq dX12_is_40 (tgt := 82) (by decide) (by simp only [R32, R64] at *; omega) (fun q40 => ?_) (fun q40 => ?_)
    · refine V_ex sX12_is_82 (by rfl) (by first | exact trivial | exact Or.inr rfl | exact Or.inl rfl | (simp only [ob, obA, R32, R64] at *; omega) | (simp only [ob, obA, R32, R64] at *; and_intros <;> omega)) ?_
      refine V_zret dX12_is_83 rfl (by first | exact Or.inl rfl | exact Or.inr rfl | exact b2i_01 _) (by decide) ⟨bz0 hn, rfl⟩
    · omega
  have L : ∀ (y i : Nat) (ii : Int), 256 ≤ t.1 → (t.2.2.2 : Int) - (t.2.2.1 : Int) = (u.length : Nat) → ii = (i : Int) → i + y = u.length → wdEq (G.1 162) (t.2.2.1 + i) (u.drop i) = wdEq (G.1 162) t.2.2.1 u → V κ MX12_is (rmD d 0 0) (keepG G (VI (b2i (decide (t.1 = 256 + (k : Int)))))) noX 0 0 μ 0 0 (Wm G) 39 [some (VR 145), some (VR q), some (VI 1), some (VI ii)] [] := by
    intro y
    induction y with
    | zero =>
      intro i ii h256 hlen hii hk2 hw
      rw [List.drop_of_length_le (by omega), wdEq] at hw
      have hy : t.1 = 256 + (k : Int) := (hW h256).mp (by rw [isWd, ← hw, decide_eq_true hlen]; rfl)
      refine V_ex sX12_is_39 (by rfl) (by first | exact trivial | exact Or.inr rfl | exact Or.inl rfl | (simp only [ob, obA, R32, R64] at *; omega) | (simp only [ob, obA, R32, R64] at *; and_intros <;> omega)) ?_
      refine V_ifeq dX12_is_40 (tgt := 82) (by decide) (by simp only [R32, R64] at *; omega) (fun q40 => ?_) (fun q40 => ?_)
      · omega
      · refine V_ex sX12_is_43 (by rfl) (by first | exact trivial | exact Or.inr rfl | exact Or.inl rfl | (simp only [ob, obA, R32, R64] at *; omega) | (simp only [ob, obA, R32, R64] at *; and_intros <;> omega)) ?_
        refine V_callVs (M := MX12_is) (N := MJ0_length_8abf5) hq h1 dX12_is_45 lRX12_230 kJ0_length_8abf5 rfl rfl (c_sLength (d := 1) hκ hKS.1 hs0 (by omega)) rfl rfl (Nat.le_of_ble_eq_true rfl) (fit_rm (by omega)) (⟨Nat.le_of_ble_eq_true rfl, Nat.le_of_ble_eq_true rfl⟩) (fun v Ω' hp => ?_) (fun _ _ h => h.elim)
        obtain ⟨rfl, rfl⟩ := hp
        refine V_icmpge dX12_is_48 (tgt := 82) (by decide) (by simp only [R32, R64] at *; omega) (fun q48 => ?_) (fun q48 => ?_)
        · refine V_ex sX12_is_82 (by rfl) (by first | exact trivial | exact Or.inr rfl | exact Or.inl rfl | (simp only [ob, obA, R32, R64] at *; omega) | (simp only [ob, obA, R32, R64] at *; and_intros <;> omega)) ?_
          refine V_zret dX12_is_83 rfl (by first | exact Or.inl rfl | exact Or.inr rfl | exact b2i_01 _) (by decide) ⟨bz1 hy, rfl⟩
        · omega
    | succ y ih =>
      intro i ii h256 hlen hii hk2 hw
      subst hii
      have hit : i < u.length := by omega
      have hg := getD_in hit hb
      have eg : u.getD i 0 = u[i]'hit := by rw [List.getD_eq_getElem?_getD, List.getElem?_eq_getElem hit]; rfl
      rw [List.drop_eq_getElem_cons hit, wdEq, ← eg] at hw
      have hbi := x3 (t.2.2.1 + i) (by omega)
      have ei : ((t.2.2.1 : Int) + (i : Int)).toNat = t.2.2.1 + i := by omega
      have no : ¬ G.1 162 (t.2.2.1 + i) = u.getD i 0 → ¬ t.1 = 256 + (k : Int) := fun c y => by
        have h3 := (hW h256).mpr y
        rw [isWd, ← hw, decide_eq_false c] at h3
        simp at h3
      refine V_ex sX12_is_39 (by rfl) (by first | exact trivial | exact Or.inr rfl | exact Or.inl rfl | (simp only [ob, obA, R32, R64] at *; omega) | (simp only [ob, obA, R32, R64] at *; and_intros <;> omega)) ?_
      refine V_ifeq dX12_is_40 (tgt := 82) (by decide) (by simp only [R32, R64] at *; omega) (fun q40 => ?_) (fun q40 => ?_)
      · omega
      · refine V_ex sX12_is_43 (by rfl) (by first | exact trivial | exact Or.inr rfl | exact Or.inl rfl | (simp only [ob, obA, R32, R64] at *; omega) | (simp only [ob, obA, R32, R64] at *; and_intros <;> omega)) ?_
        refine V_callVs (M := MX12_is) (N := MJ0_length_8abf5) hq h1 dX12_is_45 lRX12_230 kJ0_length_8abf5 rfl rfl (c_sLength (d := 1) hκ hKS.1 hs0 (by omega)) rfl rfl (Nat.le_of_ble_eq_true rfl) (fit_rm (by omega)) (⟨Nat.le_of_ble_eq_true rfl, Nat.le_of_ble_eq_true rfl⟩) (fun v Ω' hp => ?_) (fun _ _ h => h.elim)
        obtain ⟨rfl, rfl⟩ := hp
        refine V_icmpge dX12_is_48 (tgt := 82) (by decide) (by simp only [R32, R64] at *; omega) (fun q48 => ?_) (fun q48 => ?_)
        · omega
        · refine V_ex sX12_is_51 (by rfl) (by first | exact trivial | exact Or.inr rfl | exact Or.inl rfl | (simp only [ob, obA, R32, R64] at *; omega) | (simp only [ob, obA, R32, R64] at *; and_intros <;> omega)) ?_
          refine V_callVs (M := MX12_is) (N := MJ0_charAt_5068e) hq h1 dX12_is_53 lRX12_234 kJ0_charAt_5068e rfl rfl (c_sCharAt (d := 3) hκ hKS.1 hs0 hit (by omega)) rfl rfl (Nat.le_of_ble_eq_true rfl) (fit_rm (by omega)) (⟨Nat.le_of_ble_eq_true rfl, Nat.le_of_ble_eq_true rfl⟩) (fun v Ω' hp => ?_) (fun _ _ h => h.elim)
          obtain ⟨rfl, rfl⟩ := hp
          refine V_ex sX12_is_56 (by simp only [Option.toList, List.cons_append, List.nil_append, exN, ex1, gI, gL, gR, pI, pL, pR, lget, lset1, lset2, kl, b2I, b2L, nob, ob32, ob64, xGet, xPut, xLen, xLd, xLdR, xSt, obA, true_and, and_true, and_self, eq_self, Nat.reduceEqDiff, Nat.zero_ne_one, reduceIte, Nat.reduceLeDiff, and_false, false_and, show skd 11 17 = 2 from rfl, show skd 11 24 = 0 from rfl, show LF.1 145 = some (.inl 11) from rfl, show LF.2 145 17 = some 162 from rfl, show LF.1 162 = some (.inr (0, 500)) from rfl, a1, ei, upd2_eq, Int.reduceToNat, Int.toNat_natCast]; rfl) (by refine ⟨?_, ?_⟩ <;> (try unfold R32) <;> omega) ?_
          refine V_icmpne dX12_is_67 (tgt := 74) (by decide) (by simp only [R32, R64] at *; omega) (fun q67 => ?_) (fun q67 => ?_)
          · refine V_ex sX12_is_74 (by rfl) (by first | exact trivial | exact Or.inr rfl | exact Or.inl rfl | (simp only [ob, obA, R32, R64] at *; omega) | (simp only [ob, obA, R32, R64] at *; and_intros <;> omega)) ?_
            refine V_ex sX12_is_75 (by rfl) (by first | exact trivial | exact Or.inr rfl | exact Or.inl rfl | (simp only [ob, obA, R32, R64] at *; omega) | (simp only [ob, obA, R32, R64] at *; and_intros <;> omega)) ?_
            refine V_goto dX12_is_79 (tgt := 39) (by decide) ?_
            exact out (no (by omega)) _
          · refine V_ex sX12_is_70 (by rfl) (by first | exact trivial | exact Or.inr rfl | exact Or.inl rfl | (simp only [ob, obA, R32, R64] at *; omega) | (simp only [ob, obA, R32, R64] at *; and_intros <;> omega)) ?_
            refine V_goto dX12_is_71 (tgt := 75) (by decide) ?_
            refine V_ex sX12_is_75 (by rfl) (by first | exact trivial | exact Or.inr rfl | exact Or.inl rfl | (simp only [ob, obA, R32, R64] at *; omega) | (simp only [ob, obA, R32, R64] at *; and_intros <;> omega)) ?_
            refine V_goto dX12_is_79 (tgt := 39) (by decide) ?_
            exact ih (i + 1) _ h256 hlen (by omega) (by omega) (by rw [← hw, decide_eq_true (by omega)]; rfl)
  have hlW : t.1 = 256 + (k : Int) → (t.2.2.2 : Int) - (t.2.2.1 : Int) = (u.length : Nat) := fun y => by
    have h3 := (hW (by omega)).mpr y
    rw [isWd, Bool.and_eq_true, decide_eq_true_eq] at h3
    exact h3.1
  refine V_ex sX12_is_0 (by simp only [Option.toList, List.cons_append, List.nil_append, exN, ex1, gI, gL, gR, pI, pL, pR, lget, lset1, lset2, kl, b2I, b2L, nob, ob32, ob64, xGet, xPut, xLen, xLd, xLdR, xSt, obA, true_and, and_true, and_self, eq_self, Nat.reduceEqDiff, Nat.zero_ne_one, reduceIte, Nat.reduceLeDiff, and_false, false_and, show skd 11 26 = 0 from rfl, show LF.1 145 = some (.inl 11) from rfl, h26, a4, a3, a1, upd2_eq, Int.reduceToNat, Int.toNat_natCast]; rfl) (by first | exact trivial | exact Or.inr rfl | exact Or.inl rfl | (simp only [ob, obA, R32, R64] at *; omega) | (simp only [ob, obA, R32, R64] at *; and_intros <;> omega)) ?_
  refine V_ifne dX12_is_4 (tgt := 35) (by decide) (by simp only [R32, R64] at *; omega) (fun q4 => ?_) (fun q4 => ?_)
  · exact absurd rfl q4
  · refine V_ex sX12_is_7 (by simp only [Option.toList, List.cons_append, List.nil_append, exN, ex1, gI, gL, gR, pI, pL, pR, lget, lset1, lset2, kl, b2I, b2L, nob, ob32, ob64, xGet, xPut, xLen, xLd, xLdR, xSt, obA, true_and, and_true, and_self, eq_self, Nat.reduceEqDiff, Nat.zero_ne_one, reduceIte, Nat.reduceLeDiff, and_false, false_and, show skd 11 21 = 0 from rfl, show LF.1 145 = some (.inl 11) from rfl, h26, a4, a3, a1, upd2_eq, Int.reduceToNat, Int.toNat_natCast]; rfl) (by first | exact trivial | exact Or.inr rfl | exact Or.inl rfl | (simp only [ob, obA, R32, R64] at *; omega) | (simp only [ob, obA, R32, R64] at *; and_intros <;> omega)) ?_
    refine V_icmpne dX12_is_12 (tgt := 35) (by decide) (by simp only [R32, R64] at *; omega) (fun q12 => ?_) (fun q12 => ?_)
    · refine V_ex sX12_is_35 (by rfl) (by first | exact trivial | exact Or.inr rfl | exact Or.inl rfl | (simp only [ob, obA, R32, R64] at *; omega) | (simp only [ob, obA, R32, R64] at *; and_intros <;> omega)) ?_
      refine V_ex sX12_is_36 (by rfl) (by first | exact trivial | exact Or.inr rfl | exact Or.inl rfl | (simp only [ob, obA, R32, R64] at *; omega) | (simp only [ob, obA, R32, R64] at *; and_intros <;> omega)) ?_
      exact out (by omega) 0
    · refine V_ex sX12_is_15 (by rfl) (by first | exact trivial | exact Or.inr rfl | exact Or.inl rfl | (simp only [ob, obA, R32, R64] at *; omega) | (simp only [ob, obA, R32, R64] at *; and_intros <;> omega)) ?_
      refine V_callVs (M := MX12_is) (N := MJ0_length_8abf5) hq h1 dX12_is_16 lRX12_230 kJ0_length_8abf5 rfl rfl (c_sLength (d := 1) hκ hKS.1 hs0 (by omega)) rfl rfl (Nat.le_of_ble_eq_true rfl) (fit_rm (by omega)) (⟨Nat.le_of_ble_eq_true rfl, Nat.le_of_ble_eq_true rfl⟩) (fun v Ω' hp => ?_) (fun _ _ h => h.elim)
      obtain ⟨rfl, rfl⟩ := hp
      refine V_ex sX12_is_19 (by simp only [Option.toList, List.cons_append, List.nil_append, exN, ex1, gI, gL, gR, pI, pL, pR, lget, lset1, lset2, kl, b2I, b2L, nob, ob32, ob64, xGet, xPut, xLen, xLd, xLdR, xSt, obA, true_and, and_true, and_self, eq_self, Nat.reduceEqDiff, Nat.zero_ne_one, reduceIte, Nat.reduceLeDiff, and_false, false_and, show skd 11 25 = 0 from rfl, show skd 11 24 = 0 from rfl, show LF.1 145 = some (.inl 11) from rfl, h26, a4, a3, a1, upd2_eq, Int.reduceToNat, Int.toNat_natCast]; rfl) (by first | exact trivial | exact Or.inr rfl | exact Or.inl rfl | (simp only [ob, obA, R32, R64] at *; omega) | (simp only [ob, obA, R32, R64] at *; and_intros <;> omega)) ?_
      refine V_icmpne dX12_is_28 (tgt := 35) (by decide) (by simp only [R32, R64] at *; omega) (fun q28 => ?_) (fun q28 => ?_)
      · refine V_ex sX12_is_35 (by rfl) (by first | exact trivial | exact Or.inr rfl | exact Or.inl rfl | (simp only [ob, obA, R32, R64] at *; omega) | (simp only [ob, obA, R32, R64] at *; and_intros <;> omega)) ?_
        refine V_ex sX12_is_36 (by rfl) (by first | exact trivial | exact Or.inr rfl | exact Or.inl rfl | (simp only [ob, obA, R32, R64] at *; omega) | (simp only [ob, obA, R32, R64] at *; and_intros <;> omega)) ?_
        exact out (by intro y; have := hlW y; omega) 0
      · refine V_ex sX12_is_31 (by rfl) (by first | exact trivial | exact Or.inr rfl | exact Or.inl rfl | (simp only [ob, obA, R32, R64] at *; omega) | (simp only [ob, obA, R32, R64] at *; and_intros <;> omega)) ?_
        refine V_goto dX12_is_32 (tgt := 36) (by decide) ?_
        refine V_ex sX12_is_36 (by rfl) (by first | exact trivial | exact Or.inr rfl | exact Or.inl rfl | (simp only [ob, obA, R32, R64] at *; omega) | (simp only [ob, obA, R32, R64] at *; and_intros <;> omega)) ?_
        exact L u.length 0 0 (by omega) (by omega) rfl (by omega) rfl
set_option maxRecDepth 100000 in
set_option maxHeartbeats 4000000 in
theorem c_mIsMarked0 {κ : Kx} (hκ : KOK κ) {d : Nat} {c : Int} {G : Wd} (hb : G.1 145 26 ≠ 0) (hbR : R32 (G.1 145 26)) : Ct κ MX12_isMarked d 0 0 [VR 145, VI c] (Wm G) (keepG G (VI 0)) noX := by
  refine Ct_of hκ kX12_isMarked.1 rfl (Nat.le_of_ble_eq_true rfl) (ls := [some (VR 145), some (VI c)]) rfl (fun μ => ?_)
  refine V_ex sX12_isMarked_0 (by simp only [Option.toList, List.cons_append, List.nil_append, exN, ex1, gI, gL, gR, pI, pL, pR, lget, lset1, lset2, kl, b2I, b2L, nob, ob32, ob64, xGet, xPut, xLen, xLd, xLdR, xSt, obA, true_and, and_true, and_self, eq_self, Nat.reduceEqDiff, Nat.zero_ne_one, reduceIte, Nat.reduceLeDiff, and_false, false_and, show skd 11 26 = 0 from rfl, show LF.1 145 = some (.inl 11) from rfl, upd2_eq, Int.reduceToNat, Int.toNat_natCast]; rfl) (by first | exact trivial | exact Or.inr rfl | exact Or.inl rfl | (simp only [ob, obA, R32, R64] at *; omega) | (simp only [ob, obA, R32, R64] at *; and_intros <;> omega)) ?_
  refine V_ifne dX12_isMarked_4 (tgt := 32) (by decide) (by exact hbR) (fun q4 => ?_) (fun q4 => ?_)
  · refine V_ex sX12_isMarked_32 (by rfl) (by first | exact trivial | exact Or.inr rfl | exact Or.inl rfl | (simp only [ob, obA, R32, R64] at *; omega) | (simp only [ob, obA, R32, R64] at *; and_intros <;> omega)) ?_
    refine V_zret dX12_isMarked_33 rfl (by first | exact Or.inl rfl | exact Or.inr rfl | exact b2i_01 _) (by decide) ⟨rfl, rfl⟩
  · omega
set_option maxRecDepth 100000 in
set_option maxHeartbeats 4000000 in
theorem c_mIsMarked {κ : Kx} (hκ : KOK κ) {d n : Nat} {c : Int} {t : Tk} {G : Wd} (hg : mG G n t) (hc : isMk c = true) (hcR : 0 ≤ c ∧ c ≤ 127) : Ct κ MX12_isMarked d 0 0 [VR 145, VI c] (Wm G) (keepG G (VI (b2i (decide (t.1 = c))))) noX := by
  refine Ct_of hκ kX12_isMarked.1 rfl (Nat.le_of_ble_eq_true rfl) (ls := [some (VR 145), some (VI c)]) rfl (fun μ => ?_)
  obtain ⟨hx, hF, hA, h26⟩ := hg
  obtain ⟨a1, a2, a3, a4, a5⟩ := hA
  obtain ⟨f1, f2, f3, f4, f5, f6, f7, f8, f9⟩ := tkF_is (fun j hj => hx.2.2 j (by have := hx.2.1; omega)) hF
  obtain ⟨x1, x2, x3⟩ := hx
  have hkd := kd_3 t.1
  have hkR := kd_R t.1
  have hb1 := x3 t.2.2.1
  have hc2 : t.1 = c → kd t.1 = 3 := fun e => hkd.mpr ⟨by omega, by omega, by omega, by rw [e]; exact hc⟩
  have hlt : kd t.1 = 3 → t.2.2.1 < n ∧ G.1 162 t.2.2.1 = t.1 := fun e => by
    obtain ⟨y1, y2, y3, y4⟩ := hkd.mp e
    exact f6 (by omega) y3
  have et : ((t.2.2.1 : Nat) : Int).toNat = t.2.2.1 := Int.toNat_natCast _
  refine V_ex sX12_isMarked_0 (by simp only [Option.toList, List.cons_append, List.nil_append, exN, ex1, gI, gL, gR, pI, pL, pR, lget, lset1, lset2, kl, b2I, b2L, nob, ob32, ob64, xGet, xPut, xLen, xLd, xLdR, xSt, obA, true_and, and_true, and_self, eq_self, Nat.reduceEqDiff, Nat.zero_ne_one, reduceIte, Nat.reduceLeDiff, and_false, false_and, show skd 11 26 = 0 from rfl, show LF.1 145 = some (.inl 11) from rfl, h26, a4, a1, et, upd2_eq, Int.reduceToNat, Int.toNat_natCast]; rfl) (by first | exact trivial | exact Or.inr rfl | exact Or.inl rfl | (simp only [ob, obA, R32, R64] at *; omega) | (simp only [ob, obA, R32, R64] at *; and_intros <;> omega)) ?_
  refine V_ifne dX12_isMarked_4 (tgt := 32) (by decide) (by simp only [R32, R64] at *; omega) (fun q4 => ?_) (fun q4 => ?_)
  · exact absurd rfl q4
  · refine V_ex sX12_isMarked_7 (by simp only [Option.toList, List.cons_append, List.nil_append, exN, ex1, gI, gL, gR, pI, pL, pR, lget, lset1, lset2, kl, b2I, b2L, nob, ob32, ob64, xGet, xPut, xLen, xLd, xLdR, xSt, obA, true_and, and_true, and_self, eq_self, Nat.reduceEqDiff, Nat.zero_ne_one, reduceIte, Nat.reduceLeDiff, and_false, false_and, show skd 11 21 = 0 from rfl, show LF.1 145 = some (.inl 11) from rfl, h26, a4, a1, et, upd2_eq, Int.reduceToNat, Int.toNat_natCast]; rfl) (by first | exact trivial | exact Or.inr rfl | exact Or.inl rfl | (simp only [ob, obA, R32, R64] at *; omega) | (simp only [ob, obA, R32, R64] at *; and_intros <;> omega)) ?_
    refine V_icmpne dX12_isMarked_12 (tgt := 32) (by decide) (by simp only [R32, R64] at *; omega) (fun q12 => ?_) (fun q12 => ?_)
    · refine V_ex sX12_isMarked_32 (by rfl) (by first | exact trivial | exact Or.inr rfl | exact Or.inl rfl | (simp only [ob, obA, R32, R64] at *; omega) | (simp only [ob, obA, R32, R64] at *; and_intros <;> omega)) ?_
      refine V_zret dX12_isMarked_33 rfl (by first | exact Or.inl rfl | exact Or.inr rfl | exact b2i_01 _) (by decide) ⟨bz0 (fun e => q12 (hc2 e)), rfl⟩
    · have hl3 := hlt q12
      have hb2 := hb1 (by omega)
      refine V_ex sX12_isMarked_15 (by simp only [Option.toList, List.cons_append, List.nil_append, exN, ex1, gI, gL, gR, pI, pL, pR, lget, lset1, lset2, kl, b2I, b2L, nob, ob32, ob64, xGet, xPut, xLen, xLd, xLdR, xSt, obA, true_and, and_true, and_self, eq_self, Nat.reduceEqDiff, Nat.zero_ne_one, reduceIte, Nat.reduceLeDiff, and_false, false_and, show skd 11 17 = 2 from rfl, show skd 11 24 = 0 from rfl, show LF.1 145 = some (.inl 11) from rfl, show LF.2 145 17 = some 162 from rfl, show LF.1 162 = some (.inr (0, 500)) from rfl, h26, a4, a1, et, upd2_eq, Int.reduceToNat, Int.toNat_natCast]; rfl) (by first | exact trivial | exact Or.inr rfl | exact Or.inl rfl | (simp only [ob, obA, R32, R64] at *; omega) | (simp only [ob, obA, R32, R64] at *; and_intros <;> omega)) ?_
      refine V_icmpne dX12_isMarked_25 (tgt := 32) (by decide) (by simp only [R32, R64] at *; omega) (fun q25 => ?_) (fun q25 => ?_)
      · refine V_ex sX12_isMarked_32 (by rfl) (by first | exact trivial | exact Or.inr rfl | exact Or.inl rfl | (simp only [ob, obA, R32, R64] at *; omega) | (simp only [ob, obA, R32, R64] at *; and_intros <;> omega)) ?_
        refine V_zret dX12_isMarked_33 rfl (by first | exact Or.inl rfl | exact Or.inr rfl | exact b2i_01 _) (by decide) ⟨bz0 (by omega), rfl⟩
      · refine V_ex sX12_isMarked_28 (by rfl) (by first | exact trivial | exact Or.inr rfl | exact Or.inl rfl | (simp only [ob, obA, R32, R64] at *; omega) | (simp only [ob, obA, R32, R64] at *; and_intros <;> omega)) ?_
        refine V_goto dX12_isMarked_29 (tgt := 33) (by decide) ?_
        refine V_zret dX12_isMarked_33 rfl (by first | exact Or.inl rfl | exact Or.inr rfl | exact b2i_01 _) (by decide) ⟨bz1 (by omega), rfl⟩
