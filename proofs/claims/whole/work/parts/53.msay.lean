/-! TornLeavesModel: figures up to a number, what is said of fits -/
theorem pAt_m {f last pw : Int} (hp : 1 ≤ pw) (hl : 0 ≤ last) {a z : Int} (ha : a = last / (10 * pw) - (if f = 0 then 1 else 0)) (hz : z = if f < last / pw % 10 then pw else if last / pw % 10 = f then last % pw + 1 else 0) : a * pw + z = pAt f last pw := by
  have e : last / (10 * pw) = last / pw / 10 := by rw [Int.mul_comm, Int.ediv_ediv_of_nonneg (by omega)]
  rw [pAt, ha, hz, e]
  generalize last / pw / 10 - (if f = 0 then 1 else 0) = b
  split
  · grind
  · split <;> omega
theorem p10_17 {j : Nat} (h : j ≤ 17) : 1 ≤ (10 : Int) ^ j ∧ (10 : Int) ^ j ≤ 100000000000000000 := by
  have h1 : (10 : Nat) ^ j ≤ 10 ^ 17 := Nat.pow_le_pow_right (by decide) h
  have h2 : 1 ≤ (10 : Nat) ^ j := Nat.one_le_pow _ _ (by decide)
  have h3 : ((10 ^ j : Nat) : Int) = (10 : Int) ^ j := by simp
  omega
set_option maxRecDepth 100000 in
set_option maxHeartbeats 4000000 in
theorem c_mfiguresUpTo {κ : Kx} (hκ : KOK κ) {d : Nat} {n f : Int} {G : Wd} (hn : 0 ≤ n ∧ n < 100000000000000000) (hf : R32 f) : Ct κ MX12_figuresUpTo d 0 0 [VL n, VI f] (Wm G) (keepG G (VL (prC f n 18 1))) noX := by
  refine Ct_of hκ kX12_figuresUpTo.1 rfl (Nat.le_of_ble_eq_true rfl) (ls := [some (VL n), none, some (VI f), none, none, none, none, none, none, none, none, none, none]) rfl (fun μ => ?_)
  have hf64 : R64 f := r32_64 hf
  have hn64 : R64 n := by unfold R64; omega
  by_cases hf10 : f = 10
  · have L : ∀ (k : Nat) (all pw : Int), k ≤ 18 → 1 ≤ k → pw = 10 ^ (18 - k) → all + prC f n k pw = prC f n 18 1 → V κ MX12_figuresUpTo (rmD d 0 0) (keepG G (VL (prC f n 18 1))) noX 0 0 μ 0 0 (Wm G) 11 [some (VL n), none, some (VI f), some (VL all), none, some (VL pw), none, none, none, none, none, none, none] [] := by
      intro k
      induction k with
      | zero => intro all pw hk hk1; omega
      | succ k ih =>
        intro all pw hk hk1 hpw he
        have hb := p10_17 (j := 18 - (k + 1)) (by omega)
        rw [← hpw] at hb
        have hp2 : pw * 10 = 10 ^ (18 - k) := by rw [hpw, ← Int.pow_succ]; congr 1; omega
        have hk0 : k = 0 → n < pw := fun h => by subst h; rw [hpw]; omega
        refine V_ex sX12_figuresUpTo_11 (by rfl) (by first | exact trivial | exact Or.inr rfl | exact Or.inl rfl | (simp only [ob, obA, R32, R64] at *; omega) | (simp only [ob, obA, R32, R64] at *; and_intros <;> omega)) ?_
        refine V_lifgt dX12_figuresUpTo_15 (tgt := 38) (by decide) (fun q15 => ?_) (fun q15 => ?_)
        · refine V_ex sX12_figuresUpTo_38 (by rfl) (by first | exact trivial | exact Or.inr rfl | exact Or.inl rfl | (simp only [ob, obA, R32, R64] at *; omega) | (simp only [ob, obA, R32, R64] at *; and_intros <;> omega)) ?_
          refine V_lret dX12_figuresUpTo_39 rfl (by decide) ⟨by rw [← he, prC, if_pos q15, Int.add_zero], rfl⟩
        · refine V_ex sX12_figuresUpTo_18 (by rfl) (by first | exact trivial | exact Or.inr rfl | exact Or.inl rfl | (simp only [ob, obA, R32, R64] at *; omega) | (simp only [ob, obA, R32, R64] at *; and_intros <;> omega)) ?_
          refine V_goto dX12_figuresUpTo_35 (tgt := 11) (by decide) ?_
          refine ih _ _ (by omega) (by omega) hp2 ?_
          rw [← he, prC, if_neg (by omega), prT, if_pos hf10]; omega
    refine V_ex sX12_figuresUpTo_0 (by rfl) (by first | exact trivial | exact Or.inr rfl | exact Or.inl rfl | (simp only [ob, obA, R32, R64] at *; omega) | (simp only [ob, obA, R32, R64] at *; and_intros <;> omega)) ?_
    refine V_icmpne dX12_figuresUpTo_3 (tgt := 40) (by decide) (by simp only [R32, R64] at *; omega) (fun q3 => ?_) (fun q3 => ?_)
    · omega
    · refine V_ex sX12_figuresUpTo_6 (by rfl) (by first | exact trivial | exact Or.inr rfl | exact Or.inl rfl | (simp only [ob, obA, R32, R64] at *; omega) | (simp only [ob, obA, R32, R64] at *; and_intros <;> omega)) ?_
      exact L 18 0 1 (by omega) (by omega) rfl (by omega)
  · have L : ∀ (k : Nat) (all pw : Int) (x y z : Option Vl), k ≤ 18 → 1 ≤ k → pw = 10 ^ (18 - k) → all + prC f n k pw = prC f n 18 1 → V κ MX12_figuresUpTo (rmD d 0 0) (keepG G (VL (prC f n 18 1))) noX 0 0 μ 0 0 (Wm G) 45 [some (VL n), none, some (VI f), some (VL all), none, some (VL pw), none, x, none, y, none, z, none] [] := by
      intro k
      induction k with
      | zero => intro all pw x y z hk hk1; omega
      | succ k ih =>
        intro all pw x y z hk hk1 hpw he
        have hb := p10_17 (j := 18 - (k + 1)) (by omega)
        rw [← hpw] at hb
        have hp2 : pw * 10 = 10 ^ (18 - k) := by rw [hpw, ← Int.pow_succ]; congr 1; omega
        have hk0 : k = 0 → n < pw := fun h => by subst h; rw [hpw]; omega
        have hpR : R64 pw := by unfold R64; omega
        have hd : 0 ≤ n / pw := Int.ediv_nonneg hn.1 (by omega)
        have join : ∀ (a w : Int) (x y z : Option Vl), pw ≤ n → a = n / (10 * pw) - (if f = 0 then 1 else 0) → (w = if f < n / pw % 10 then pw else if n / pw % 10 = f then n % pw + 1 else 0) → V κ MX12_figuresUpTo (rmD d 0 0) (keepG G (VL (prC f n 18 1))) noX 0 0 μ 0 0 (Wm G) 123 [some (VL n), none, some (VI f), some (VL all), none, some (VL pw), none, x, none, y, none, z, none] [VL w, VL (a * pw), VL all] := fun a w x y z h0 ha hw => by
          refine V_ex sX12_figuresUpTo_123 (by rfl) (by first | exact trivial | exact Or.inr rfl | exact Or.inl rfl | (simp only [ob, obA, R32, R64] at *; omega) | (simp only [ob, obA, R32, R64] at *; and_intros <;> omega)) ?_
          refine V_goto dX12_figuresUpTo_134 (tgt := 45) (by decide) ?_
          refine ih _ _ _ _ _ (by omega) (by omega) hp2 ?_
          rw [← he, prC, if_neg (by omega), prT, if_neg hf10, ← pAt_m hb.1 hn.1 ha hw]; omega
        have dig : 0 ≤ n / pw % 10 ∧ n / pw % 10 < 10 := by omega
        have mid : ∀ (a : Int), pw ≤ n → a = n / (10 * pw) - (if f = 0 then 1 else 0) → V κ MX12_figuresUpTo (rmD d 0 0) (keepG G (VL (prC f n 18 1))) noX 0 0 μ 0 0 (Wm G) 88 [some (VL n), none, some (VI f), some (VL all), none, some (VL pw), none, some (VL a), none, some (VL (n / pw % 10)), none, some (VL (n % pw)), none] [] := fun a h0 ha => by
          refine V_ex sX12_figuresUpTo_88 (by rfl) (by exact ⟨hf, by unfold R64; omega, hf64⟩) ?_
          refine V_lifle dX12_figuresUpTo_99 (tgt := 107) (by decide) (fun q99 => ?_) (fun q99 => ?_)
          · refine V_ex sX12_figuresUpTo_107 (by rfl) (by exact ⟨hf, by unfold R64; omega, hf64⟩) ?_
            refine V_lifne dX12_figuresUpTo_112 (tgt := 122) (by decide) (fun q112 => ?_) (fun q112 => ?_)
            · refine V_ex sX12_figuresUpTo_122 (by rfl) (by first | exact trivial | exact Or.inr rfl | exact Or.inl rfl | (simp only [ob, obA, R32, R64] at *; omega) | (simp only [ob, obA, R32, R64] at *; and_intros <;> omega)) ?_
              exact join _ _ _ _ _ h0 ha (by rw [if_neg (by omega), if_neg (by omega)])
            · refine V_ex sX12_figuresUpTo_115 (by rfl) (by first | exact trivial | exact Or.inr rfl | exact Or.inl rfl | (simp only [ob, obA, R32, R64] at *; omega) | (simp only [ob, obA, R32, R64] at *; and_intros <;> omega)) ?_
              refine V_goto dX12_figuresUpTo_119 (tgt := 123) (by decide) ?_
              exact join _ _ _ _ _ h0 ha (by rw [if_neg (by omega), if_pos (by omega)])
          · refine V_ex sX12_figuresUpTo_102 (by rfl) (by first | exact trivial | exact Or.inr rfl | exact Or.inl rfl | (simp only [ob, obA, R32, R64] at *; omega) | (simp only [ob, obA, R32, R64] at *; and_intros <;> omega)) ?_
            refine V_goto dX12_figuresUpTo_104 (tgt := 123) (by decide) ?_
            exact join _ _ _ _ _ h0 ha (by rw [if_pos (by omega)])
        refine V_ex sX12_figuresUpTo_45 (by rfl) (by first | exact trivial | exact Or.inr rfl | exact Or.inl rfl | (simp only [ob, obA, R32, R64] at *; omega) | (simp only [ob, obA, R32, R64] at *; and_intros <;> omega)) ?_
        refine V_lifgt dX12_figuresUpTo_49 (tgt := 137) (by decide) (fun q49 => ?_) (fun q49 => ?_)
        · refine V_ex sX12_figuresUpTo_137 (by rfl) (by first | exact trivial | exact Or.inr rfl | exact Or.inl rfl | (simp only [ob, obA, R32, R64] at *; omega) | (simp only [ob, obA, R32, R64] at *; and_intros <;> omega)) ?_
          refine V_lret dX12_figuresUpTo_138 rfl (by decide) ⟨by rw [← he, prC, if_pos q49, Int.add_zero], rfl⟩
        · refine V_ex sX12_figuresUpTo_52 (by rfl) (by rw [td_nn hn.1]; exact ⟨⟨hn64, by unfold R64; omega, by omega⟩, ⟨hn64, hpR, by omega⟩, ⟨by have := Int.ediv_le_self pw hn.1; unfold R64; omega, by unfold R64; omega, by decide⟩, hn64, hpR, by omega⟩) ?_
          rw [td_nn hn.1, td_nn hn.1, tm_nn hn.1, tm_nn hd]
          refine V_ifne dX12_figuresUpTo_79 (tgt := 88) (by decide) (by simp only [R32, R64] at *; omega) (fun q79 => ?_) (fun q79 => ?_)
          · exact mid _ q49 (by rw [if_neg (by omega), Int.sub_zero])
          · refine V_ex sX12_figuresUpTo_82 (by rfl) (by first | exact trivial | exact Or.inr rfl | exact Or.inl rfl | (simp only [ob, obA, R32, R64] at *; omega) | (simp only [ob, obA, R32, R64] at *; and_intros <;> omega)) ?_
            exact mid _ q49 (by rw [if_pos (by omega)])
    refine V_ex sX12_figuresUpTo_0 (by rfl) (by first | exact trivial | exact Or.inr rfl | exact Or.inl rfl | (simp only [ob, obA, R32, R64] at *; omega) | (simp only [ob, obA, R32, R64] at *; and_intros <;> omega)) ?_
    refine V_icmpne dX12_figuresUpTo_3 (tgt := 40) (by decide) (by simp only [R32, R64] at *; omega) (fun q3 => ?_) (fun q3 => ?_)
    · refine V_ex sX12_figuresUpTo_40 (by rfl) (by first | exact trivial | exact Or.inr rfl | exact Or.inl rfl | (simp only [ob, obA, R32, R64] at *; omega) | (simp only [ob, obA, R32, R64] at *; and_intros <;> omega)) ?_
      exact L 18 0 1 _ _ _ (by omega) (by omega) rfl (by omega)
    · omega
theorem fitL_ok {s : Int} (h : isMost s (theR s)) (hs : 1 ≤ s ∧ s ≤ 1000000000000000000) : ∀ q ∈ fitL s, (0 ≤ q.1 ∧ q.1 ≤ 2000000000) ∧ 0 ≤ q.2 ∧ q.2 ≤ 2000000000 := by
  obtain ⟨r0, r1, r2, r3⟩ := h
  have rb : theR s < 1500000000 := by
    rcases Int.lt_or_le (theR s) 1500000000 with h | h
    · exact h
    · have := Int.mul_le_mul h (show (1500000000 : Int) ≤ theR s + 1 by omega) (by decide) r0; omega
  intro q hq
  have hA : ∀ p, p ≤ theR s + 2 → 1 ≤ p → q ∈ fitA s p → (0 ≤ q.1 ∧ q.1 ≤ 2000000000) ∧ 0 ≤ q.2 ∧ q.2 ≤ 2000000000 := fun p h1 h2 h => by
    unfold fitA at h
    split at h
    · have := List.mem_singleton.mp h; subst this; simp only; omega
    · cases h
  have hB : ∀ p, p ≤ theR s + 2 → 1 ≤ p → q ∈ fitB s p → (0 ≤ q.1 ∧ q.1 ≤ 2000000000) ∧ 0 ≤ q.2 ∧ q.2 ≤ 2000000000 := fun p h1 h2 h => by
    unfold fitB at h
    split at h
    · have := List.mem_singleton.mp h; subst this; simp only; omega
    · cases h
  unfold fitL at hq
  simp only [List.mem_append] at hq
  rcases hq with ((h | h) | h) | h
  · exact hA _ (by omega) (by omega) h
  · exact hB _ (by omega) (by omega) h
  · exact hA _ (by omega) (by omega) h
  · exact hB _ (by omega) (by omega) h
set_option maxRecDepth 100000 in
set_option maxHeartbeats 4000000 in
theorem c_mfiguresLeft {κ : Kx} (hκ : KOK κ) {d i : Nat} {f : Int} {L : List (Int × Int)} {G : Wd} (hL : fitsM G L) (hi : i < L.length) (hf : 0 ≤ f ∧ f ≤ 10) (hp : 0 ≤ (L[i]'hi).1 ∧ (L[i]'hi).1 ≤ 2000000000) (hl : 0 ≤ (L[i]'hi).2 ∧ (L[i]'hi).2 ≤ 2000000000) (hd : 1 ≤ d) : Ct κ MX12_figuresLeft d 0 0 [VR 145, VI (i : Nat), VI f] (Wm G) (keepG G (VL (sayF f (L[i]'hi)))) noX := by
  refine Ct_of hκ kX12_figuresLeft.1 rfl (Nat.le_of_ble_eq_true rfl) (ls := [some (VR 145), some (VI (i : Nat)), some (VI f), none, none, none, none]) rfl (fun μ => ?_)
  obtain ⟨h1, h2, h3⟩ := hL
  obtain ⟨e1, e2⟩ := h3 i hi
  generalize L[i]'hi = q at *
  have hfR : R32 f := by unfold R32; omega
  have hd1 := dgc_nn f 19 (2 * q.2 + 1)
  have hd2 := dgc_nn f 19 (2 * q.2 + 1 + 1)
  have join : ∀ z, z = (if 2 * q.2 + 1 < q.1 then dgc f 19 (2 * q.2 + 1 + 1) else 0) → V κ MX12_figuresLeft (rmD d 0 0) (keepG G (VL (sayF f q))) noX 0 0 μ 0 0 (Wm G) 36 [some (VR 145), some (VI (i : Nat)), some (VI f), some (VL (2 * q.2 + 1)), none, none, none] [VL z] := fun z hz => by
    refine V_ex sX12_figuresLeft_36 (by simp only [Option.toList, List.cons_append, List.nil_append, exN, ex1, gI, gL, gR, pI, pL, pR, lget, lset1, lset2, kl, b2I, b2L, nob, ob32, ob64, xGet, xPut, xLen, xLd, xLdR, xSt, obA, true_and, and_true, and_self, eq_self, Nat.reduceEqDiff, Nat.zero_ne_one, reduceIte, Nat.reduceLeDiff, and_false, false_and, show skd 11 40 = 2 from rfl, show LF.1 145 = some (.inl 11) from rfl, show LF.2 145 40 = some 168 from rfl, show LF.1 168 = some (.inr (1, 6)) from rfl, e1, e2, upd2_eq, Int.reduceToNat, Int.toNat_natCast]; rfl) (by first | exact trivial | exact Or.inr rfl | exact Or.inl rfl | (simp only [ob, obA, R32, R64] at *; omega) | (simp only [ob, obA, R32, R64] at *; and_intros <;> omega)) ?_
    refine V_callS (M := MX12_figuresLeft) (N := MX12_figuresUpTo) dX12_figuresLeft_45 lRX12_460 kX12_figuresUpTo rfl (c_mfiguresUpTo (d := 0) hκ (by omega) hfR) rfl rfl (Nat.le_of_ble_eq_true rfl) (fit_rm (by omega)) (⟨Nat.le_of_ble_eq_true rfl, Nat.le_of_ble_eq_true rfl⟩) (fun v Ω' hp => ?_) (fun _ _ h => h.elim)
    obtain ⟨rfl, rfl⟩ := hp
    refine V_ex sX12_figuresLeft_48 (by rfl) (by first | exact trivial | exact Or.inr rfl | exact Or.inl rfl | (simp only [ob, obA, R32, R64] at *; omega) | (simp only [ob, obA, R32, R64] at *; and_intros <;> omega)) ?_
    refine V_callS (M := MX12_figuresLeft) (N := MX12_figuresIn) dX12_figuresLeft_50 lRX12_400 kX12_figuresIn rfl (c_mfiguresIn (d := 0) hκ (by unfold R64; omega) hfR) rfl rfl (Nat.le_of_ble_eq_true rfl) (fit_rm (by omega)) (⟨Nat.le_of_ble_eq_true rfl, Nat.le_of_ble_eq_true rfl⟩) (fun v Ω' hp => ?_) (fun _ _ h => h.elim)
    obtain ⟨rfl, rfl⟩ := hp
    refine V_ex sX12_figuresLeft_53 (by rfl) (by first | exact trivial | exact Or.inr rfl | exact Or.inl rfl | (simp only [ob, obA, R32, R64] at *; omega) | (simp only [ob, obA, R32, R64] at *; and_intros <;> omega)) ?_
    refine V_lret dX12_figuresLeft_58 rfl (by decide) ⟨by rw [sayF, if_neg (by omega), hz], rfl⟩
  refine V_ex sX12_figuresLeft_0 (by simp only [Option.toList, List.cons_append, List.nil_append, exN, ex1, gI, gL, gR, pI, pL, pR, lget, lset1, lset2, kl, b2I, b2L, nob, ob32, ob64, xGet, xPut, xLen, xLd, xLdR, xSt, obA, true_and, and_true, and_self, eq_self, Nat.reduceEqDiff, Nat.zero_ne_one, reduceIte, Nat.reduceLeDiff, and_false, false_and, show skd 11 41 = 2 from rfl, show skd 11 40 = 2 from rfl, show LF.1 145 = some (.inl 11) from rfl, show LF.2 145 41 = some 169 from rfl, show LF.1 169 = some (.inr (1, 6)) from rfl, show LF.2 145 40 = some 168 from rfl, show LF.1 168 = some (.inr (1, 6)) from rfl, e1, e2, upd2_eq, Int.reduceToNat, Int.toNat_natCast]; rfl) (by first | exact trivial | exact Or.inr rfl | exact Or.inl rfl | (simp only [ob, obA, R32, R64] at *; omega) | (simp only [ob, obA, R32, R64] at *; and_intros <;> omega)) ?_
  refine V_lifge dX12_figuresLeft_21 (tgt := 35) (by decide) (fun q21 => ?_) (fun q21 => ?_)
  · refine V_ex sX12_figuresLeft_35 (by rfl) (by first | exact trivial | exact Or.inr rfl | exact Or.inl rfl | (simp only [ob, obA, R32, R64] at *; omega) | (simp only [ob, obA, R32, R64] at *; and_intros <;> omega)) ?_
    exact join _ (by rw [if_neg (by omega)])
  · refine V_ex sX12_figuresLeft_24 (by rfl) (by first | exact trivial | exact Or.inr rfl | exact Or.inl rfl | (simp only [ob, obA, R32, R64] at *; omega) | (simp only [ob, obA, R32, R64] at *; and_intros <;> omega)) ?_
    refine V_callS (M := MX12_figuresLeft) (N := MX12_figuresIn) dX12_figuresLeft_28 lRX12_400 kX12_figuresIn rfl (c_mfiguresIn (d := 0) hκ (by unfold R64; omega) hfR) rfl rfl (Nat.le_of_ble_eq_true rfl) (fit_rm (by omega)) (⟨Nat.le_of_ble_eq_true rfl, Nat.le_of_ble_eq_true rfl⟩) (fun v Ω' hp => ?_) (fun _ _ h => h.elim)
    obtain ⟨rfl, rfl⟩ := hp
    refine V_ex sX12_figuresLeft_31 (by rfl) (by first | exact trivial | exact Or.inr rfl | exact Or.inl rfl | (simp only [ob, obA, R32, R64] at *; omega) | (simp only [ob, obA, R32, R64] at *; and_intros <;> omega)) ?_
    refine V_goto dX12_figuresLeft_32 (tgt := 36) (by decide) ?_
    exact join _ (by rw [if_pos (by omega)])
set_option maxRecDepth 100000 in
set_option maxHeartbeats 4000000 in
theorem c_msaying {κ : Kx} (hκ : KOK κ) {d i : Nat} {f : Int} {L : List (Int × Int)} {G : Wd} (hL : fitsM G L) (hi : i < L.length) (hf : 0 ≤ f ∧ f ≤ 11) (hp : 0 ≤ (L[i]'hi).1 ∧ (L[i]'hi).1 ≤ 2000000000) (hl : 0 ≤ (L[i]'hi).2 ∧ (L[i]'hi).2 ≤ 2000000000) (hd : 2 ≤ d) : Ct κ MX12_saying d 0 0 [VR 145, VI (i : Nat), VI f] (Wm G) (keepG G (VL (sayF f (L[i]'hi)))) noX := by
  refine Ct_of hκ kX12_saying.1 rfl (Nat.le_of_ble_eq_true rfl) (ls := [some (VR 145), some (VI (i : Nat)), some (VI f)]) rfl (fun μ => ?_)
  obtain ⟨e1, e2⟩ := hL.2.2 i hi
  have h2 := hL.2.1
  refine V_ex sX12_saying_0 (by rfl) (by first | exact trivial | exact Or.inr rfl | exact Or.inl rfl | (simp only [ob, obA, R32, R64] at *; omega) | (simp only [ob, obA, R32, R64] at *; and_intros <;> omega)) ?_
  refine V_icmple dX12_saying_3 (tgt := 21) (by decide) (by simp only [R32, R64] at *; omega) (fun q3 => ?_) (fun q3 => ?_)
  · refine V_ex sX12_saying_21 (by rfl) (by first | exact trivial | exact Or.inr rfl | exact Or.inl rfl | (simp only [ob, obA, R32, R64] at *; omega) | (simp only [ob, obA, R32, R64] at *; and_intros <;> omega)) ?_
    refine V_callV (M := MX12_saying) (N := MX12_figuresLeft) dX12_saying_24 lRX12_464 kX12_figuresLeft rfl (rfl) rfl (c_mfiguresLeft (d := 1) hκ hL hi (by omega) hp hl (by omega)) rfl rfl (Nat.le_of_ble_eq_true rfl) (fit_rm (by omega)) (⟨Nat.le_of_ble_eq_true rfl, Nat.le_of_ble_eq_true rfl⟩) (fun v Ω' hp => ?_) (fun _ _ h => h.elim)
    obtain ⟨rfl, rfl⟩ := hp
    refine V_lret dX12_saying_27 rfl (by decide) ⟨rfl, rfl⟩
  · refine V_ex sX12_saying_6 (by simp only [Option.toList, List.cons_append, List.nil_append, exN, ex1, gI, gL, gR, pI, pL, pR, lget, lset1, lset2, kl, b2I, b2L, nob, ob32, ob64, xGet, xPut, xLen, xLd, xLdR, xSt, obA, true_and, and_true, and_self, eq_self, Nat.reduceEqDiff, Nat.zero_ne_one, reduceIte, Nat.reduceLeDiff, and_false, false_and, show skd 11 40 = 2 from rfl, show LF.1 145 = some (.inl 11) from rfl, show LF.2 145 40 = some 168 from rfl, show LF.1 168 = some (.inr (1, 6)) from rfl, e1, upd2_eq, Int.reduceToNat, Int.toNat_natCast]; rfl) (by exact ⟨by omega, ⟨by unfold R64; omega, by unfold R64; omega, by decide⟩⟩) ?_
    rw [td_nn (by omega)]
    refine V_goto dX12_saying_18 (tgt := 27) (by decide) ?_
    refine V_lret dX12_saying_27 rfl (by decide) ⟨by rw [sayF, if_pos (by omega)], rfl⟩
set_option maxRecDepth 100000 in
set_option maxHeartbeats 4000000 in
theorem c_mfail {κ : Kx} (hκ : KOK κ) {d : Nat} {k : Int} {G : Wd} : Ct κ MX12_fail d 0 0 [VR 145, VI k] (Wm G) (fun v Ω' => v = some (VI 0) ∧ Ω' = Wm (uI G 145 2 k)) noX := by
  refine Ct_of hκ kX12_fail.1 rfl (Nat.le_of_ble_eq_true rfl) (ls := [some (VR 145), some (VI k)]) rfl (fun μ => ?_)
  refine V_ex sX12_fail_0 (by simp only [Option.toList, List.cons_append, List.nil_append, exN, ex1, gI, gL, gR, pI, pL, pR, lget, lset1, lset2, kl, b2I, b2L, nob, ob32, ob64, xGet, xPut, xLen, xLd, xLdR, xSt, obA, true_and, and_true, and_self, eq_self, Nat.reduceEqDiff, Nat.zero_ne_one, reduceIte, Nat.reduceLeDiff, and_false, false_and, show skd 11 2 = 0 from rfl, show LF.1 145 = some (.inl 11) from rfl, upd2_eq, Int.reduceToNat, Int.toNat_natCast]; rfl) (by first | exact trivial | exact Or.inr rfl | exact Or.inl rfl | (simp only [ob, obA, R32, R64] at *; omega) | (simp only [ob, obA, R32, R64] at *; and_intros <;> omega)) ?_
  refine V_iret dX12_fail_6 rfl (by decide) ⟨rfl, rfl⟩
set_option maxRecDepth 100000 in
set_option maxHeartbeats 4000000 in
theorem c_mthrown {κ : Kx} (hκ : KOK κ) {d : Nat} {G : Wd} : Ct κ MX12_thrown d 0 0 [VR 145] (Wm G) (keepG G (VI (G.1 145 2))) noX := by
  refine Ct_of hκ kX12_thrown.1 rfl (Nat.le_of_ble_eq_true rfl) (ls := [some (VR 145)]) rfl (fun μ => ?_)
  refine V_ex sX12_thrown_0 (by simp only [Option.toList, List.cons_append, List.nil_append, exN, ex1, gI, gL, gR, pI, pL, pR, lget, lset1, lset2, kl, b2I, b2L, nob, ob32, ob64, xGet, xPut, xLen, xLd, xLdR, xSt, obA, true_and, and_true, and_self, eq_self, Nat.reduceEqDiff, Nat.zero_ne_one, reduceIte, Nat.reduceLeDiff, and_false, false_and, show skd 11 2 = 0 from rfl, show LF.1 145 = some (.inl 11) from rfl, upd2_eq, Int.reduceToNat, Int.toNat_natCast]; rfl) (by first | exact trivial | exact Or.inr rfl | exact Or.inl rfl | (simp only [ob, obA, R32, R64] at *; omega) | (simp only [ob, obA, R32, R64] at *; and_intros <;> omega)) ?_
  refine V_iret dX12_thrown_4 rfl (by decide) ⟨rfl, rfl⟩
/-- a call of the model: its code, its answer, what it may change -/
abbrev mpL (G : Wd) (S A B : List Nat) (r : Int × Int) : Option Vl → Om → Prop := fun v Ω' => v = some (VL r.2) ∧ ∃ G', Ω' = Wm G' ∧ FM S A B G G' ∧ G'.1 145 2 = r.1
abbrev mpI (G : Wd) (S A B : List Nat) (r : Int × Int) : Option Vl → Om → Prop := fun v Ω' => v = some (VI r.2) ∧ ∃ G', Ω' = Wm G' ∧ FM S A B G G' ∧ G'.1 145 2 = r.1
noncomputable def fitsP (s i : Int) : Int × Int := if ¬ (1 ≤ s ∧ s ≤ 1000000000000000000) then (2, 0) else if i = -1 then (0, ((fitL s).length : Nat)) else if h : i.toNat < (fitL s).length ∧ 0 ≤ i then (0, ((fitL s)[i.toNat]'h.1).1) else (1, 0)
noncomputable def leafP (s i : Int) : Int × Int := if ¬ (1 ≤ s ∧ s ≤ 1000000000000000000) then (2, 0) else if h : i.toNat < (fitL s).length ∧ 0 ≤ i then (0, ((fitL s)[i.toNat]'h.1).2) else (1, 0)
set_option maxRecDepth 100000 in
set_option maxHeartbeats 4000000 in
theorem c_mfits {κ : Kx} (hκ : KOK κ) {d : Nat} {s i : Int} {G : Wd} (hs : R64 s) (hi : R32 i) (hd : 3 ≤ d) : Ct κ MX12_fits d 0 0 [VR 145, VL s, VI i] (Wm G) (mpL G [2, 42] [] [168, 169] (fitsP s i)) noX := by
  refine Ct_of hκ kX12_fits.1 rfl (Nat.le_of_ble_eq_true rfl) (ls := [some (VR 145), some (VL s), none, some (VI i)]) rfl (fun μ => ?_)
  have f0 : FM [2, 42] [] [168, 169] G (uI G 145 2 0) := (FM.refl _ _ _ _).s (by decide)
  refine V_ex sX12_fits_0 (by simp only [Option.toList, List.cons_append, List.nil_append, exN, ex1, gI, gL, gR, pI, pL, pR, lget, lset1, lset2, kl, b2I, b2L, nob, ob32, ob64, xGet, xPut, xLen, xLd, xLdR, xSt, obA, true_and, and_true, and_self, eq_self, Nat.reduceEqDiff, Nat.zero_ne_one, reduceIte, Nat.reduceLeDiff, and_false, false_and, show skd 11 2 = 0 from rfl, show LF.1 145 = some (.inl 11) from rfl, upd2_eq, Int.reduceToNat, Int.toNat_natCast]; rfl) (by first | exact trivial | exact Or.inr rfl | exact Or.inl rfl | (simp only [ob, obA, R32, R64] at *; omega) | (simp only [ob, obA, R32, R64] at *; and_intros <;> omega)) ?_
  refine V_callS (M := MX12_fits) (N := MX12_isSum) dX12_fits_6 lRX12_452 kX12_isSum rfl (c_misSum (d := 2) hκ hs (by omega)) rfl rfl (Nat.le_of_ble_eq_true rfl) (fit_rm (by omega)) (⟨Nat.le_of_ble_eq_true rfl, Nat.le_of_ble_eq_true rfl⟩) (fun v Ω' hp => ?_) (fun _ _ h => h.elim)
  obtain ⟨rfl, rfl⟩ := hp
  refine V_ifneB dX12_fits_9 (tgt := 19) (by decide) (fun q9 => ?_) (fun q9 => ?_)
  · have hsum := of_decide_eq_true q9
    refine V_ex sX12_fits_19 (by rfl) (by first | exact trivial | exact Or.inr rfl | exact Or.inl rfl | (simp only [ob, obA, R32, R64] at *; omega) | (simp only [ob, obA, R32, R64] at *; and_intros <;> omega)) ?_
    refine V_callV (M := MX12_fits) (N := MX12_tellFits) dX12_fits_21 lRX12_456 kX12_tellFits rfl (rfl) rfl (c_mtellFits (d := 2) hκ (of_decide_eq_true q9) (by omega)) rfl rfl (Nat.le_of_ble_eq_true rfl) (fit_rm (by omega)) (⟨Nat.le_of_ble_eq_true rfl, Nat.le_of_ble_eq_true rfl⟩) (fun v Ω' hp => ?_) (fun _ _ h => h.elim)
    obtain ⟨rfl, G1, rfl, f1, hm, a1⟩ := hp
    have g1 := f0.trans (f1.mono (by decide) (by decide) (by decide))
    have c0 : G1.1 145 2 = 0 := by rw [f1.i5 (by decide) (by decide)]; simp [upd2_eq]
    have hlen := a1.1
    have hl6 := a1.2.1
    refine V_ex sX12_fits_24 (by rfl) (by first | exact trivial | exact Or.inr rfl | exact Or.inl rfl | (simp only [ob, obA, R32, R64] at *; omega) | (simp only [ob, obA, R32, R64] at *; and_intros <;> omega)) ?_
    refine V_icmpne dX12_fits_26 (tgt := 37) (by decide) (by simp only [R32, R64] at *; omega) (fun q26 => ?_) (fun q26 => ?_)
    · refine V_ex sX12_fits_37 (by simp only [Option.toList, List.cons_append, List.nil_append, exN, ex1, gI, gL, gR, pI, pL, pR, lget, lset1, lset2, kl, b2I, b2L, nob, ob32, ob64, xGet, xPut, xLen, xLd, xLdR, xSt, obA, true_and, and_true, and_self, eq_self, Nat.reduceEqDiff, Nat.zero_ne_one, reduceIte, Nat.reduceLeDiff, and_false, false_and, show skd 11 42 = 0 from rfl, show LF.1 145 = some (.inl 11) from rfl, upd2_eq, Int.reduceToNat, Int.toNat_natCast]; rfl) (by first | exact trivial | exact Or.inr rfl | exact Or.inl rfl | (simp only [ob, obA, R32, R64] at *; omega) | (simp only [ob, obA, R32, R64] at *; and_intros <;> omega)) ?_
      refine V_callS (M := MX12_fits) (N := MX12_isIn) dX12_fits_47 lRX12_178 kX12_isIn rfl (c_misIn (d := 2) hκ (by simp only [R32, R64] at *; omega) (by unfold R64; omega) (by unfold R64; omega)) rfl rfl (Nat.le_of_ble_eq_true rfl) (fit_rm (by omega)) (⟨Nat.le_of_ble_eq_true rfl, Nat.le_of_ble_eq_true rfl⟩) (fun v Ω' hp => ?_) (fun _ _ h => h.elim)
      obtain ⟨rfl, rfl⟩ := hp
      refine V_ifeqB dX12_fits_50 (tgt := 62) (by decide) (fun q50 => ?_) (fun q50 => ?_)
      · have h50 := of_decide_eq_false q50
        refine V_ex sX12_fits_62 (by rfl) (by first | exact trivial | exact Or.inr rfl | exact Or.inl rfl | (simp only [ob, obA, R32, R64] at *; omega) | (simp only [ob, obA, R32, R64] at *; and_intros <;> omega)) ?_
        refine V_callV (M := MX12_fits) (N := MX12_fail) dX12_fits_64 lRX12_324 kX12_fail rfl (rfl) rfl (c_mfail (d := 2) hκ) rfl rfl (Nat.le_of_ble_eq_true rfl) (fit_rm (by omega)) (⟨Nat.le_of_ble_eq_true rfl, Nat.le_of_ble_eq_true rfl⟩) (fun v Ω' hp => ?_) (fun _ _ h => h.elim)
        obtain ⟨rfl, rfl⟩ := hp
        refine V_ex sX12_fits_67 (by rfl) (by first | exact trivial | exact Or.inr rfl | exact Or.inl rfl | (simp only [ob, obA, R32, R64] at *; omega) | (simp only [ob, obA, R32, R64] at *; and_intros <;> omega)) ?_
        refine V_lret dX12_fits_68 rfl (by decide) ⟨by rw [fitsP, if_neg (not_not_intro hsum), if_neg q26, dif_neg (by omega)], _, rfl, g1.s (by decide), by rw [fitsP, if_neg (not_not_intro hsum), if_neg q26, dif_neg (by omega)]; simp [upd2_eq]⟩
      · have h50 := of_decide_eq_true q50
        have hi2 : i.toNat < (fitL s).length := by omega
        have hv := (a1.2.2 i.toNat hi2).1
        refine V_ex sX12_fits_53 (by simp only [Option.toList, List.cons_append, List.nil_append, exN, ex1, gI, gL, gR, pI, pL, pR, lget, lset1, lset2, kl, b2I, b2L, nob, ob32, ob64, xGet, xPut, xLen, xLd, xLdR, xSt, obA, true_and, and_true, and_self, eq_self, Nat.reduceEqDiff, Nat.zero_ne_one, reduceIte, Nat.reduceLeDiff, and_false, false_and, show skd 11 40 = 2 from rfl, show LF.1 145 = some (.inl 11) from rfl, show LF.2 145 40 = some 168 from rfl, show LF.1 168 = some (.inr (1, 6)) from rfl, hv, upd2_eq, Int.reduceToNat, Int.toNat_natCast]; rfl) (by first | exact trivial | exact Or.inr rfl | exact Or.inl rfl | (simp only [ob, obA, R32, R64] at *; omega) | (simp only [ob, obA, R32, R64] at *; and_intros <;> omega)) ?_
        refine V_goto dX12_fits_59 (tgt := 68) (by decide) ?_
        refine V_lret dX12_fits_68 rfl (by decide) ⟨by rw [fitsP, if_neg (not_not_intro hsum), if_neg q26, dif_pos ⟨hi2, h50.1⟩], _, rfl, g1, by rw [fitsP, if_neg (not_not_intro hsum), if_neg q26, dif_pos ⟨hi2, h50.1⟩, c0]⟩
    · refine V_ex sX12_fits_29 (by simp only [Option.toList, List.cons_append, List.nil_append, exN, ex1, gI, gL, gR, pI, pL, pR, lget, lset1, lset2, kl, b2I, b2L, nob, ob32, ob64, xGet, xPut, xLen, xLd, xLdR, xSt, obA, true_and, and_true, and_self, eq_self, Nat.reduceEqDiff, Nat.zero_ne_one, reduceIte, Nat.reduceLeDiff, and_false, false_and, show skd 11 42 = 0 from rfl, show LF.1 145 = some (.inl 11) from rfl, upd2_eq, Int.reduceToNat, Int.toNat_natCast]; rfl) (by simp only [ob, R32]; omega) ?_
      refine V_goto dX12_fits_34 (tgt := 68) (by decide) ?_
      refine V_lret dX12_fits_68 rfl (by decide) ⟨by rw [fitsP, if_neg (not_not_intro hsum), if_pos q26, hlen], _, rfl, g1, by rw [fitsP, if_neg (not_not_intro hsum), if_pos q26, c0]⟩
  · refine V_ex sX12_fits_12 (by rfl) (by first | exact trivial | exact Or.inr rfl | exact Or.inl rfl | (simp only [ob, obA, R32, R64] at *; omega) | (simp only [ob, obA, R32, R64] at *; and_intros <;> omega)) ?_
    refine V_callV (M := MX12_fits) (N := MX12_fail) dX12_fits_14 lRX12_324 kX12_fail rfl (rfl) rfl (c_mfail (d := 2) hκ) rfl rfl (Nat.le_of_ble_eq_true rfl) (fit_rm (by omega)) (⟨Nat.le_of_ble_eq_true rfl, Nat.le_of_ble_eq_true rfl⟩) (fun v Ω' hp => ?_) (fun _ _ h => h.elim)
    obtain ⟨rfl, rfl⟩ := hp
    refine V_ex sX12_fits_17 (by rfl) (by first | exact trivial | exact Or.inr rfl | exact Or.inl rfl | (simp only [ob, obA, R32, R64] at *; omega) | (simp only [ob, obA, R32, R64] at *; and_intros <;> omega)) ?_
    refine V_lret dX12_fits_18 rfl (by decide) ⟨by rw [fitsP, if_pos (of_decide_eq_false q9)], _, rfl, f0.s (by decide), by rw [fitsP, if_pos (of_decide_eq_false q9)]; simp [upd2_eq]⟩
set_option maxRecDepth 100000 in
set_option maxHeartbeats 4000000 in
theorem c_mleaf {κ : Kx} (hκ : KOK κ) {d : Nat} {s i : Int} {G : Wd} (hs : R64 s) (hi : R32 i) (hd : 3 ≤ d) : Ct κ MX12_leaf d 0 0 [VR 145, VL s, VI i] (Wm G) (mpL G [2, 42] [] [168, 169] (leafP s i)) noX := by
  refine Ct_of hκ kX12_leaf.1 rfl (Nat.le_of_ble_eq_true rfl) (ls := [some (VR 145), some (VL s), none, some (VI i)]) rfl (fun μ => ?_)
  have f0 : FM [2, 42] [] [168, 169] G (uI G 145 2 0) := (FM.refl _ _ _ _).s (by decide)
  refine V_ex sX12_leaf_0 (by simp only [Option.toList, List.cons_append, List.nil_append, exN, ex1, gI, gL, gR, pI, pL, pR, lget, lset1, lset2, kl, b2I, b2L, nob, ob32, ob64, xGet, xPut, xLen, xLd, xLdR, xSt, obA, true_and, and_true, and_self, eq_self, Nat.reduceEqDiff, Nat.zero_ne_one, reduceIte, Nat.reduceLeDiff, and_false, false_and, show skd 11 2 = 0 from rfl, show LF.1 145 = some (.inl 11) from rfl, upd2_eq, Int.reduceToNat, Int.toNat_natCast]; rfl) (by first | exact trivial | exact Or.inr rfl | exact Or.inl rfl | (simp only [ob, obA, R32, R64] at *; omega) | (simp only [ob, obA, R32, R64] at *; and_intros <;> omega)) ?_
  refine V_callS (M := MX12_leaf) (N := MX12_isSum) dX12_leaf_6 lRX12_452 kX12_isSum rfl (c_misSum (d := 2) hκ hs (by omega)) rfl rfl (Nat.le_of_ble_eq_true rfl) (fit_rm (by omega)) (⟨Nat.le_of_ble_eq_true rfl, Nat.le_of_ble_eq_true rfl⟩) (fun v Ω' hp => ?_) (fun _ _ h => h.elim)
  obtain ⟨rfl, rfl⟩ := hp
  refine V_ifneB dX12_leaf_9 (tgt := 19) (by decide) (fun q9 => ?_) (fun q9 => ?_)
  · have hsum := of_decide_eq_true q9
    refine V_ex sX12_leaf_19 (by rfl) (by first | exact trivial | exact Or.inr rfl | exact Or.inl rfl | (simp only [ob, obA, R32, R64] at *; omega) | (simp only [ob, obA, R32, R64] at *; and_intros <;> omega)) ?_
    refine V_callV (M := MX12_leaf) (N := MX12_tellFits) dX12_leaf_21 lRX12_456 kX12_tellFits rfl (rfl) rfl (c_mtellFits (d := 2) hκ (of_decide_eq_true q9) (by omega)) rfl rfl (Nat.le_of_ble_eq_true rfl) (fit_rm (by omega)) (⟨Nat.le_of_ble_eq_true rfl, Nat.le_of_ble_eq_true rfl⟩) (fun v Ω' hp => ?_) (fun _ _ h => h.elim)
    obtain ⟨rfl, G1, rfl, f1, hm, a1⟩ := hp
    have g1 := f0.trans (f1.mono (by decide) (by decide) (by decide))
    have c0 : G1.1 145 2 = 0 := by rw [f1.i5 (by decide) (by decide)]; simp [upd2_eq]
    have hlen := a1.1
    have hl6 := a1.2.1
    refine V_ex sX12_leaf_24 (by simp only [Option.toList, List.cons_append, List.nil_append, exN, ex1, gI, gL, gR, pI, pL, pR, lget, lset1, lset2, kl, b2I, b2L, nob, ob32, ob64, xGet, xPut, xLen, xLd, xLdR, xSt, obA, true_and, and_true, and_self, eq_self, Nat.reduceEqDiff, Nat.zero_ne_one, reduceIte, Nat.reduceLeDiff, and_false, false_and, show skd 11 42 = 0 from rfl, show LF.1 145 = some (.inl 11) from rfl, upd2_eq, Int.reduceToNat, Int.toNat_natCast]; rfl) (by first | exact trivial | exact Or.inr rfl | exact Or.inl rfl | (simp only [ob, obA, R32, R64] at *; omega) | (simp only [ob, obA, R32, R64] at *; and_intros <;> omega)) ?_
    refine V_callS (M := MX12_leaf) (N := MX12_isIn) dX12_leaf_34 lRX12_178 kX12_isIn rfl (c_misIn (d := 2) hκ (by simp only [R32, R64] at *; omega) (by unfold R64; omega) (by unfold R64; omega)) rfl rfl (Nat.le_of_ble_eq_true rfl) (fit_rm (by omega)) (⟨Nat.le_of_ble_eq_true rfl, Nat.le_of_ble_eq_true rfl⟩) (fun v Ω' hp => ?_) (fun _ _ h => h.elim)
    obtain ⟨rfl, rfl⟩ := hp
    refine V_ifeqB dX12_leaf_37 (tgt := 49) (by decide) (fun q37 => ?_) (fun q37 => ?_)
    · have h50 := of_decide_eq_false q37
      refine V_ex sX12_leaf_49 (by rfl) (by first | exact trivial | exact Or.inr rfl | exact Or.inl rfl | (simp only [ob, obA, R32, R64] at *; omega) | (simp only [ob, obA, R32, R64] at *; and_intros <;> omega)) ?_
      refine V_callV (M := MX12_leaf) (N := MX12_fail) dX12_leaf_51 lRX12_324 kX12_fail rfl (rfl) rfl (c_mfail (d := 2) hκ) rfl rfl (Nat.le_of_ble_eq_true rfl) (fit_rm (by omega)) (⟨Nat.le_of_ble_eq_true rfl, Nat.le_of_ble_eq_true rfl⟩) (fun v Ω' hp => ?_) (fun _ _ h => h.elim)
      obtain ⟨rfl, rfl⟩ := hp
      refine V_ex sX12_leaf_54 (by rfl) (by first | exact trivial | exact Or.inr rfl | exact Or.inl rfl | (simp only [ob, obA, R32, R64] at *; omega) | (simp only [ob, obA, R32, R64] at *; and_intros <;> omega)) ?_
      refine V_lret dX12_leaf_55 rfl (by decide) ⟨by rw [leafP, if_neg (not_not_intro hsum), dif_neg (by omega)], _, rfl, g1.s (by decide), by rw [leafP, if_neg (not_not_intro hsum), dif_neg (by omega)]; simp [upd2_eq]⟩
    · have h50 := of_decide_eq_true q37
      have hi2 : i.toNat < (fitL s).length := by omega
      have hv := (a1.2.2 i.toNat hi2).2
      refine V_ex sX12_leaf_40 (by simp only [Option.toList, List.cons_append, List.nil_append, exN, ex1, gI, gL, gR, pI, pL, pR, lget, lset1, lset2, kl, b2I, b2L, nob, ob32, ob64, xGet, xPut, xLen, xLd, xLdR, xSt, obA, true_and, and_true, and_self, eq_self, Nat.reduceEqDiff, Nat.zero_ne_one, reduceIte, Nat.reduceLeDiff, and_false, false_and, show skd 11 41 = 2 from rfl, show LF.1 145 = some (.inl 11) from rfl, show LF.2 145 41 = some 169 from rfl, show LF.1 169 = some (.inr (1, 6)) from rfl, hv, upd2_eq, Int.reduceToNat, Int.toNat_natCast]; rfl) (by first | exact trivial | exact Or.inr rfl | exact Or.inl rfl | (simp only [ob, obA, R32, R64] at *; omega) | (simp only [ob, obA, R32, R64] at *; and_intros <;> omega)) ?_
      refine V_goto dX12_leaf_46 (tgt := 55) (by decide) ?_
      refine V_lret dX12_leaf_55 rfl (by decide) ⟨by rw [leafP, if_neg (not_not_intro hsum), dif_pos ⟨hi2, h50.1⟩], _, rfl, g1, by rw [leafP, if_neg (not_not_intro hsum), dif_pos ⟨hi2, h50.1⟩, c0]⟩
  · refine V_ex sX12_leaf_12 (by rfl) (by first | exact trivial | exact Or.inr rfl | exact Or.inl rfl | (simp only [ob, obA, R32, R64] at *; omega) | (simp only [ob, obA, R32, R64] at *; and_intros <;> omega)) ?_
    refine V_callV (M := MX12_leaf) (N := MX12_fail) dX12_leaf_14 lRX12_324 kX12_fail rfl (rfl) rfl (c_mfail (d := 2) hκ) rfl rfl (Nat.le_of_ble_eq_true rfl) (fit_rm (by omega)) (⟨Nat.le_of_ble_eq_true rfl, Nat.le_of_ble_eq_true rfl⟩) (fun v Ω' hp => ?_) (fun _ _ h => h.elim)
    obtain ⟨rfl, rfl⟩ := hp
    refine V_ex sX12_leaf_17 (by rfl) (by first | exact trivial | exact Or.inr rfl | exact Or.inl rfl | (simp only [ob, obA, R32, R64] at *; omega) | (simp only [ob, obA, R32, R64] at *; and_intros <;> omega)) ?_
    refine V_lret dX12_leaf_18 rfl (by decide) ⟨by rw [leafP, if_pos (of_decide_eq_false q9)], _, rfl, f0.s (by decide), by rw [leafP, if_pos (of_decide_eq_false q9)]; simp [upd2_eq]⟩
def cntL (f m : Int) : List (Int × Int) → Int
  | [] => 0
  | q :: r => (if sayF f q = m then 1 else 0) + cntL f m r
noncomputable def saidP (s f m : Int) : Int × Int := if ¬ (1 ≤ s ∧ s ≤ 1000000000000000000) then (2, 0) else if ¬ (0 ≤ f ∧ f ≤ 10) then (1, 0) else (0, cntL f m (fitL s))
set_option maxRecDepth 100000 in
set_option maxHeartbeats 4000000 in
theorem c_msaid {κ : Kx} (hκ : KOK κ) {d : Nat} {s f m : Int} {G : Wd} (hs : R64 s) (hf : R32 f) (hm : R64 m) (hd : 3 ≤ d) : Ct κ MX12_said d 0 0 [VR 145, VL s, VI f, VL m] (Wm G) (mpI G [2, 42] [] [168, 169] (saidP s f m)) noX := by
  refine Ct_of hκ kX12_said.1 rfl (Nat.le_of_ble_eq_true rfl) (ls := [some (VR 145), some (VL s), none, some (VI f), some (VL m), none, none, none]) rfl (fun μ => ?_)
  have f0 : FM [2, 42] [] [168, 169] G (uI G 145 2 0) := (FM.refl _ _ _ _).s (by decide)
  have loop : ∀ (G1 : Wd), FM [2, 42] [] [168, 169] G G1 → fitsM G1 (fitL s) → G1.1 145 2 = 0 → (1 ≤ s ∧ s ≤ 1000000000000000000) → (0 ≤ f ∧ f ≤ 10) → (∀ q ∈ fitL s, (0 ≤ q.1 ∧ q.1 ≤ 2000000000) ∧ 0 ≤ q.2 ∧ q.2 ≤ 2000000000) → ∀ (k i : Nat) (ii acc : Int), i + k = (fitL s).length → ii = i → acc + cntL f m ((fitL s).drop i) = cntL f m (fitL s) → V κ MX12_said (rmD d 0 0) (mpI G [2, 42] [] [168, 169] (saidP s f m)) noX 0 0 μ 0 0 (Wm G1) 47 [some (VR 145), some (VL s), none, some (VI f), some (VL m), none, some (VI acc), some (VI ii)] [] := fun G1 g1 a1 c0 hsum hfig hok k => by
    have hlen := a1.1
    have hl6 := a1.2.1
    induction k with
    | zero =>
      intro i ii acc hik hii hacc
      subst hii
      rw [List.drop_of_length_le (by omega)] at hacc
      refine V_ex sX12_said_47 (by simp only [Option.toList, List.cons_append, List.nil_append, exN, ex1, gI, gL, gR, pI, pL, pR, lget, lset1, lset2, kl, b2I, b2L, nob, ob32, ob64, xGet, xPut, xLen, xLd, xLdR, xSt, obA, true_and, and_true, and_self, eq_self, Nat.reduceEqDiff, Nat.zero_ne_one, reduceIte, Nat.reduceLeDiff, and_false, false_and, show skd 11 42 = 0 from rfl, show LF.1 145 = some (.inl 11) from rfl, hlen, upd2_eq, Int.reduceToNat, Int.toNat_natCast]; rfl) (by first | exact trivial | exact Or.inr rfl | exact Or.inl rfl | (simp only [ob, obA, R32, R64] at *; omega) | (simp only [ob, obA, R32, R64] at *; and_intros <;> omega)) ?_
      refine V_icmpge dX12_said_53 (tgt := 85) (by decide) (by simp only [R32, R64] at *; omega) (fun q53 => ?_) (fun q53 => ?_)
      · refine V_ex sX12_said_85 (by rfl) (by first | exact trivial | exact Or.inr rfl | exact Or.inl rfl | (simp only [ob, obA, R32, R64] at *; omega) | (simp only [ob, obA, R32, R64] at *; and_intros <;> omega)) ?_
        refine V_iret dX12_said_87 rfl (by decide) ⟨by rw [saidP, if_neg (not_not_intro hsum), if_neg (not_not_intro hfig), ← hacc, cntL, Int.add_zero], _, rfl, g1, by rw [saidP, if_neg (not_not_intro hsum), if_neg (not_not_intro hfig), c0]⟩
      · omega
    | succ k ih =>
      intro i ii acc hik hii hacc
      subst hii
      have hi2 : i < (fitL s).length := by omega
      rw [List.drop_eq_getElem_cons hi2, cntL] at hacc
      have hq := hok _ (List.getElem_mem hi2)
      have hsay := sayF_R (f := f) (q := (fitL s)[i]'hi2) (by omega) hq.1 hq.2
      refine V_ex sX12_said_47 (by simp only [Option.toList, List.cons_append, List.nil_append, exN, ex1, gI, gL, gR, pI, pL, pR, lget, lset1, lset2, kl, b2I, b2L, nob, ob32, ob64, xGet, xPut, xLen, xLd, xLdR, xSt, obA, true_and, and_true, and_self, eq_self, Nat.reduceEqDiff, Nat.zero_ne_one, reduceIte, Nat.reduceLeDiff, and_false, false_and, show skd 11 42 = 0 from rfl, show LF.1 145 = some (.inl 11) from rfl, hlen, upd2_eq, Int.reduceToNat, Int.toNat_natCast]; rfl) (by first | exact trivial | exact Or.inr rfl | exact Or.inl rfl | (simp only [ob, obA, R32, R64] at *; omega) | (simp only [ob, obA, R32, R64] at *; and_intros <;> omega)) ?_
      refine V_icmpge dX12_said_53 (tgt := 85) (by decide) (by simp only [R32, R64] at *; omega) (fun q53 => ?_) (fun q53 => ?_)
      · omega
      · refine V_ex sX12_said_56 (by rfl) (by first | exact trivial | exact Or.inr rfl | exact Or.inl rfl | (simp only [ob, obA, R32, R64] at *; omega) | (simp only [ob, obA, R32, R64] at *; and_intros <;> omega)) ?_
        refine V_callV (M := MX12_said) (N := MX12_figuresLeft) dX12_said_62 lRX12_464 kX12_figuresLeft rfl (rfl) rfl (c_mfiguresLeft (d := 2) hκ a1 hi2 hfig hq.1 hq.2 (by omega)) rfl rfl (Nat.le_of_ble_eq_true rfl) (fit_rm (by omega)) (⟨Nat.le_of_ble_eq_true rfl, Nat.le_of_ble_eq_true rfl⟩) (fun v Ω' hp => ?_) (fun _ _ h => h.elim)
        obtain ⟨rfl, rfl⟩ := hp
        refine V_ex sX12_said_65 (by rfl) (by exact ⟨hsay, hm⟩) ?_
        refine V_lifne dX12_said_68 (tgt := 75) (by decide) (fun q68 => ?_) (fun q68 => ?_)
        · refine V_ex sX12_said_75 (by rfl) (by first | exact trivial | exact Or.inr rfl | exact Or.inl rfl | (simp only [ob, obA, R32, R64] at *; omega) | (simp only [ob, obA, R32, R64] at *; and_intros <;> omega)) ?_
          refine V_ex sX12_said_76 (by rfl) (by first | exact trivial | exact Or.inr rfl | exact Or.inl rfl | (simp only [ob, obA, R32, R64] at *; omega) | (simp only [ob, obA, R32, R64] at *; and_intros <;> omega)) ?_
          refine V_goto dX12_said_82 (tgt := 47) (by decide) ?_
          exact ih (i + 1) _ _ (by omega) (by omega) (by rw [← hacc, if_neg q68]; omega)
        · refine V_ex sX12_said_71 (by rfl) (by first | exact trivial | exact Or.inr rfl | exact Or.inl rfl | (simp only [ob, obA, R32, R64] at *; omega) | (simp only [ob, obA, R32, R64] at *; and_intros <;> omega)) ?_
          refine V_goto dX12_said_72 (tgt := 76) (by decide) ?_
          refine V_ex sX12_said_76 (by rfl) (by first | exact trivial | exact Or.inr rfl | exact Or.inl rfl | (simp only [ob, obA, R32, R64] at *; omega) | (simp only [ob, obA, R32, R64] at *; and_intros <;> omega)) ?_
          refine V_goto dX12_said_82 (tgt := 47) (by decide) ?_
          exact ih (i + 1) _ _ (by omega) (by omega) (by rw [← hacc, if_pos q68]; omega)
  refine V_ex sX12_said_0 (by simp only [Option.toList, List.cons_append, List.nil_append, exN, ex1, gI, gL, gR, pI, pL, pR, lget, lset1, lset2, kl, b2I, b2L, nob, ob32, ob64, xGet, xPut, xLen, xLd, xLdR, xSt, obA, true_and, and_true, and_self, eq_self, Nat.reduceEqDiff, Nat.zero_ne_one, reduceIte, Nat.reduceLeDiff, and_false, false_and, show skd 11 2 = 0 from rfl, show LF.1 145 = some (.inl 11) from rfl, upd2_eq, Int.reduceToNat, Int.toNat_natCast]; rfl) (by first | exact trivial | exact Or.inr rfl | exact Or.inl rfl | (simp only [ob, obA, R32, R64] at *; omega) | (simp only [ob, obA, R32, R64] at *; and_intros <;> omega)) ?_
  refine V_callS (M := MX12_said) (N := MX12_isSum) dX12_said_6 lRX12_452 kX12_isSum rfl (c_misSum (d := 2) hκ hs (by omega)) rfl rfl (Nat.le_of_ble_eq_true rfl) (fit_rm (by omega)) (⟨Nat.le_of_ble_eq_true rfl, Nat.le_of_ble_eq_true rfl⟩) (fun v Ω' hp => ?_) (fun _ _ h => h.elim)
  obtain ⟨rfl, rfl⟩ := hp
  refine V_ifneB dX12_said_9 (tgt := 18) (by decide) (fun q9 => ?_) (fun q9 => ?_)
  · have hsum := of_decide_eq_true q9
    refine V_ex sX12_said_18 (by rfl) (by first | exact trivial | exact Or.inr rfl | exact Or.inl rfl | (simp only [ob, obA, R32, R64] at *; omega) | (simp only [ob, obA, R32, R64] at *; and_intros <;> omega)) ?_
    refine V_callS (M := MX12_said) (N := MX12_isIn) dX12_said_24 lRX12_178 kX12_isIn rfl (c_misIn (d := 2) hκ (by simp only [R32, R64] at *; omega) (by unfold R64; omega) (by unfold R64; omega)) rfl rfl (Nat.le_of_ble_eq_true rfl) (fit_rm (by omega)) (⟨Nat.le_of_ble_eq_true rfl, Nat.le_of_ble_eq_true rfl⟩) (fun v Ω' hp => ?_) (fun _ _ h => h.elim)
    obtain ⟨rfl, rfl⟩ := hp
    refine V_ifneB dX12_said_27 (tgt := 36) (by decide) (fun q27 => ?_) (fun q27 => ?_)
    · have hfig := of_decide_eq_true q27
      refine V_ex sX12_said_36 (by rfl) (by first | exact trivial | exact Or.inr rfl | exact Or.inl rfl | (simp only [ob, obA, R32, R64] at *; omega) | (simp only [ob, obA, R32, R64] at *; and_intros <;> omega)) ?_
      refine V_callV (M := MX12_said) (N := MX12_tellFits) dX12_said_38 lRX12_456 kX12_tellFits rfl (rfl) rfl (c_mtellFits (d := 2) hκ hsum (by omega)) rfl rfl (Nat.le_of_ble_eq_true rfl) (fit_rm (by omega)) (⟨Nat.le_of_ble_eq_true rfl, Nat.le_of_ble_eq_true rfl⟩) (fun v Ω' hp => ?_) (fun _ _ h => h.elim)
      obtain ⟨rfl, G1, rfl, f1, hm1, a1⟩ := hp
      have g1 := f0.trans (f1.mono (by decide) (by decide) (by decide))
      have c0 : G1.1 145 2 = 0 := by rw [f1.i5 (by decide) (by decide)]; simp [upd2_eq]
      refine V_ex sX12_said_41 (by rfl) (by first | exact trivial | exact Or.inr rfl | exact Or.inl rfl | (simp only [ob, obA, R32, R64] at *; omega) | (simp only [ob, obA, R32, R64] at *; and_intros <;> omega)) ?_
      exact loop G1 g1 a1 c0 hsum hfig (fitL_ok hm1 hsum) (fitL s).length 0 0 0 (by omega) rfl (by simp)
    · have hfig := of_decide_eq_false q27
      refine V_ex sX12_said_30 (by rfl) (by first | exact trivial | exact Or.inr rfl | exact Or.inl rfl | (simp only [ob, obA, R32, R64] at *; omega) | (simp only [ob, obA, R32, R64] at *; and_intros <;> omega)) ?_
      refine V_callV (M := MX12_said) (N := MX12_fail) dX12_said_32 lRX12_324 kX12_fail rfl (rfl) rfl (c_mfail (d := 2) hκ) rfl rfl (Nat.le_of_ble_eq_true rfl) (fit_rm (by omega)) (⟨Nat.le_of_ble_eq_true rfl, Nat.le_of_ble_eq_true rfl⟩) (fun v Ω' hp => ?_) (fun _ _ h => h.elim)
      obtain ⟨rfl, rfl⟩ := hp
      refine V_iret dX12_said_35 rfl (by decide) ⟨by rw [saidP, if_neg (not_not_intro hsum), if_pos hfig], _, rfl, f0.s (by decide), by rw [saidP, if_neg (not_not_intro hsum), if_pos hfig]; simp [upd2_eq]⟩
  · refine V_ex sX12_said_12 (by rfl) (by first | exact trivial | exact Or.inr rfl | exact Or.inl rfl | (simp only [ob, obA, R32, R64] at *; omega) | (simp only [ob, obA, R32, R64] at *; and_intros <;> omega)) ?_
    refine V_callV (M := MX12_said) (N := MX12_fail) dX12_said_14 lRX12_324 kX12_fail rfl (rfl) rfl (c_mfail (d := 2) hκ) rfl rfl (Nat.le_of_ble_eq_true rfl) (fit_rm (by omega)) (⟨Nat.le_of_ble_eq_true rfl, Nat.le_of_ble_eq_true rfl⟩) (fun v Ω' hp => ?_) (fun _ _ h => h.elim)
    obtain ⟨rfl, rfl⟩ := hp
    refine V_iret dX12_said_17 rfl (by decide) ⟨by rw [saidP, if_pos (of_decide_eq_false q9)], _, rfl, f0.s (by decide), by rw [saidP, if_pos (of_decide_eq_false q9)]; simp [upd2_eq]⟩
