/-! Figures -/
theorem td_nn {x y : Int} (h : 0 ≤ x) : Int.tdiv x y = x / y := Int.tdiv_eq_ediv_of_nonneg h
theorem tm_nn {x y : Int} (h : 0 ≤ x) : Int.tmod x y = x % y := Int.tmod_eq_emod_of_nonneg h
/-- how often a figure (10: any) is written in n, k places at most -/
def dgc (f : Int) : Nat → Int → Int
  | 0, _ => 0
  | k + 1, n => if n ≤ 0 then 0 else (if f = 10 ∨ n % 10 = f then 1 else 0) + dgc f k (n / 10)
theorem dgc_nn (f : Int) : ∀ (k : Nat) (n : Int), 0 ≤ dgc f k n ∧ dgc f k n ≤ k := by
  intro k
  induction k with
  | zero => intro n; simp [dgc]
  | succ k ih =>
    intro n
    have := ih (n / 10)
    unfold dgc
    split
    · omega
    · split <;> omega
theorem dgc_neg (f : Int) (k : Nat) {n : Int} (h : n ≤ 0) : dgc f k n = 0 := by
  cases k with
  | zero => rfl
  | succ k => unfold dgc; rw [if_pos h]
set_option maxRecDepth 100000 in
set_option maxHeartbeats 4000000 in
theorem c_inNumber {κ : Kx} (hκ : KOK κ) {d : Nat} {f n : Int} {G : Wd} (hf : R32 f) (hn : R64 n) : Ct κ MX3_inNumber d 0 0 [VI f, VL n] (Wm G) (keepG G (VI (dgc f 19 n))) noX := by
  refine Ct_of hκ kX3_inNumber.1 rfl (Nat.le_of_ble_eq_true rfl) (ls := [some (VI f), some (VL n), none, none, none, none, none]) rfl (fun μ => ?_)
  refine V_ex sX3_inNumber_0 (by rfl) (by exact trivial) ?_
  suffices L : ∀ (k : Nat) (rest many place : Int), place = 19 - (k : Int) → k ≤ 19 → R64 rest → many + dgc f k rest = dgc f 19 n → V κ MX3_inNumber (rmD d 0 0) (keepG G (VI (dgc f 19 n))) noX 0 0 μ 0 0 (Wm G) 8 [some (VI f), some (VL n), none, some (VI many), some (VL rest), none, some (VI place)] [] from L 19 n 0 0 (by omega) (by omega) hn (by omega)
  intro k
  induction k with
  | zero =>
    intro rest many place hp hk hr he
    refine V_ex sX3_inNumber_8 (by rfl) (by exact trivial) ?_
    refine V_icmpge dX3_inNumber_12 (tgt := 57) (by decide) (by unfold R32; constructor <;> omega) (fun q => ?_) (fun q => ?_)
    · refine V_ex sX3_inNumber_57 (by rfl) (by exact trivial) ?_
      refine V_iret dX3_inNumber_58 rfl (by decide) ⟨by rw [← he]; simp [dgc], rfl⟩
    · omega
  | succ k ih =>
    intro rest many place hp hk hr he
    have stop : rest ≤ 0 → V κ MX3_inNumber (rmD d 0 0) (keepG G (VI (dgc f 19 n))) noX 0 0 μ 0 0 (Wm G) 57 [some (VI f), some (VL n), none, some (VI many), some (VL rest), none, some (VI place)] [] := fun h => by
      rw [dgc_neg f _ h] at he
      refine V_ex sX3_inNumber_57 (by rfl) (by exact trivial) ?_
      refine V_iret dX3_inNumber_58 rfl (by decide) ⟨by rw [← he]; simp, rfl⟩
    refine V_ex sX3_inNumber_8 (by rfl) (by exact trivial) ?_
    refine V_icmpge dX3_inNumber_12 (tgt := 57) (by decide) (by unfold R32; constructor <;> omega) (fun q => ?_) (fun q => ?_)
    · omega
    · refine V_ex sX3_inNumber_15 (by rfl) (by exact ⟨hr, r64_0⟩) ?_
      refine V_lifle dX3_inNumber_19 (tgt := 57) (by decide) (fun q2 => ?_) (fun q2 => ?_)
      · exact stop q2
      · have next : ∀ m2, m2 = many + (if f = 10 ∨ rest % 10 = f then 1 else 0) → V κ MX3_inNumber (rmD d 0 0) (keepG G (VI (dgc f 19 n))) noX 0 0 μ 0 0 (Wm G) 43 [some (VI f), some (VL n), none, some (VI m2), some (VL rest), none, some (VI place)] [] := fun m2 hm => by
          refine V_ex sX3_inNumber_43 (by rfl) (by exact ⟨hr, by unfold R64; omega, by decide⟩) ?_
          refine V_goto dX3_inNumber_54 (tgt := 8) (by decide) ?_
          rw [td_nn (by omega)]
          refine ih _ _ _ (by omega) (by omega) (by unfold R64 at *; omega) ?_
          rw [dgc, if_neg (by omega)] at he
          rw [← he, hm]; omega
        refine V_ex sX3_inNumber_22 (by rfl) (by exact trivial) ?_
        refine V_icmpeq dX3_inNumber_25 (tgt := 40) (by decide) (by exact ⟨hf, by unfold R32; omega⟩) (fun q3 => ?_) (fun q3 => ?_)
        · refine V_ex sX3_inNumber_40 (by rfl) (by exact trivial) ?_
          exact next _ (by rw [if_pos (Or.inl q3)])
        · refine V_ex sX3_inNumber_28 (by rfl) (by exact ⟨⟨hr, by unfold R64; omega, by decide⟩, hf, by unfold R64; rw [tm_nn (by omega)]; omega, by unfold R64; unfold R32 at hf; omega⟩) ?_
          rw [tm_nn (by omega)]
          refine V_lifne dX3_inNumber_37 (tgt := 43) (by decide) (fun q4 => ?_) (fun q4 => ?_)
          · exact next _ (by rw [if_neg (by omega)]; omega)
          · refine V_ex sX3_inNumber_40 (by rfl) (by exact trivial) ?_
            exact next _ (by rw [if_pos (Or.inr q4)])
theorem r32_64 {x : Int} (h : R32 x) : R64 x := by unfold R32 R64 at *; omega
set_option maxRecDepth 100000 in
set_option maxHeartbeats 4000000 in
theorem c_isBuzz {κ : Kx} (hκ : KOK κ) {d : Nat} {b n : Int} {G : Wd} (hb : R32 b) (hn : R32 n) (hd : 1 ≤ d) : Ct κ MX3_isBuzz d 0 0 [VI b, VI n] (Wm G) (keepG G (VI (b2i (decide (0 < b ∧ (n.tmod b = 0 ∨ 0 < dgc b 19 n)))))) noX := by
  refine Ct_of hκ kX3_isBuzz.1 rfl (Nat.le_of_ble_eq_true rfl) (ls := [some (VI b), some (VI n)]) rfl (fun μ => ?_)
  refine V_ex sX3_isBuzz_0 (by rfl) (by exact trivial) ?_
  refine V_ifle dX3_isBuzz_1 (tgt := 23) (by decide) (by exact hb) (fun q => ?_) (fun q => ?_)
  · refine V_ex sX3_isBuzz_23 (by rfl) (by exact trivial) ?_
    refine V_zret dX3_isBuzz_24 rfl (by first | exact Or.inl rfl | exact Or.inr rfl | exact b2i_01 _) (by decide) ⟨by rw [decide_eq_false (by omega)]; rfl, rfl⟩
  · have hR : R32 (n.tmod b) := by
      have h1 := Int.tmod_lt_of_pos n q
      have h2 : -b < n.tmod b := by
        have := Int.tmod_lt_of_pos (-n) q
        rw [Int.neg_tmod] at this; omega
      unfold R32 at *; omega
    refine V_ex sX3_isBuzz_4 (by rfl) (by exact ⟨hn, hb, by omega⟩) ?_
    refine V_ifeq dX3_isBuzz_7 (tgt := 19) (by decide) (by exact hR) (fun q2 => ?_) (fun q2 => ?_)
    · refine V_ex sX3_isBuzz_19 (by rfl) (by exact trivial) ?_
      refine V_goto dX3_isBuzz_20 (tgt := 24) (by decide) ?_
      refine V_zret dX3_isBuzz_24 rfl (by first | exact Or.inl rfl | exact Or.inr rfl | exact b2i_01 _) (by decide) ⟨by rw [decide_eq_true ⟨q, Or.inl q2⟩]; rfl, rfl⟩
    · refine V_ex sX3_isBuzz_10 (by rfl) (by exact hn) ?_
      refine V_callS (M := MX3_isBuzz) (N := MX3_inNumber) (As := [VI b, VL n]) (rest := []) dX3_isBuzz_13 lRX3_9 kX3_inNumber rfl (c_inNumber (d := 0) hκ hb (r32_64 hn)) rfl rfl (Nat.le_of_ble_eq_true rfl) (fit_rm (by omega)) (⟨Nat.le_refl _, Nat.le_refl _⟩) (fun v Ω' hp => ?_) (fun _ _ h => h.elim)
      obtain ⟨rfl, rfl⟩ := hp
      have hg := dgc_nn b 19 n
      refine V_ifle dX3_isBuzz_16 (tgt := 23) (by decide) (by unfold R32; omega) (fun q3 => ?_) (fun q3 => ?_)
      · refine V_ex sX3_isBuzz_23 (by rfl) (by exact trivial) ?_
        refine V_zret dX3_isBuzz_24 rfl (by first | exact Or.inl rfl | exact Or.inr rfl | exact b2i_01 _) (by decide) ⟨by rw [decide_eq_false (by omega)]; rfl, rfl⟩
      · refine V_ex sX3_isBuzz_19 (by rfl) (by exact trivial) ?_
        refine V_goto dX3_isBuzz_20 (tgt := 24) (by decide) ?_
        refine V_zret dX3_isBuzz_24 rfl (by first | exact Or.inl rfl | exact Or.inr rfl | exact b2i_01 _) (by decide) ⟨by rw [decide_eq_true ⟨q, Or.inr q3⟩]; rfl, rfl⟩
/-- how often f stands at the place of the power pw in 1, 2 .. last -/
def pAt (f last pw : Int) : Int :=
  if f < last / pw % 10 then (last / pw / 10 - (if f = 0 then 1 else 0) + 1) * pw else if last / pw % 10 = f then (last / pw / 10 - (if f = 0 then 1 else 0)) * pw + last % pw + 1 else (last / pw / 10 - (if f = 0 then 1 else 0)) * pw
set_option maxRecDepth 100000 in
set_option maxHeartbeats 4000000 in
theorem c_printedAt {κ : Kx} (hκ : KOK κ) {d : Nat} {f last pw : Int} {G : Wd} (hf : R32 f) (hl : 0 ≤ last) (hl2 : R64 last) (hp0 : 1 ≤ pw) (hp : R64 pw) : Ct κ MX3_printedAt d 0 0 [VI f, VL last, VL pw] (Wm G) (keepG G (VL (pAt f last pw))) noX := by
  refine Ct_of hκ kX3_printedAt.1 rfl (Nat.le_of_ble_eq_true rfl) (ls := [some (VI f), some (VL last), none, some (VL pw), none, none, none, none, none]) rfl (fun μ => ?_)
  have hdv : 0 ≤ last / pw := Int.ediv_nonneg hl (by omega)
  have hdr : last / pw ≤ last := Int.ediv_le_self _ hl
  have hD : R64 (last / pw) := by unfold R64 at *; omega
  refine V_ex sX3_printedAt_0 (by rfl) (by exact ⟨hp, by unfold R64; omega⟩) ?_
  refine V_lifge dX3_printedAt_3 (tgt := 8) (by decide) (fun q => ?_) (fun q => ?_)
  · have join : ∀ z : Int, z = (if f = 0 then 1 else 0) → V κ MX3_printedAt (rmD d 0 0) (keepG G (VL (pAt f last pw))) noX 0 0 μ 0 0 (Wm G) 24 [some (VI f), some (VL last), none, some (VL pw), none, none, none, none, none] [VI z, VL (last / pw / 10)] := fun z hz => by
      have hz2 : z = 0 ∨ z = 1 := by rw [hz]; split <;> simp
      refine V_ex sX3_printedAt_24 (by rfl) (by rw [td_nn hl]; exact ⟨by unfold R32; omega, ⟨hl2, hp, by omega⟩, ⟨hD, by unfold R64; omega, by decide⟩, hf, by rw [tm_nn hdv]; unfold R64; omega, r32_64 hf⟩) ?_
      rw [td_nn hl, tm_nn hdv]
      refine V_lifle dX3_printedAt_42 (tgt := 52) (by decide) (fun q => ?_) (fun q => ?_)
      · refine V_ex sX3_printedAt_52 (by rfl) (by exact ⟨hf, by unfold R64; omega, r32_64 hf⟩) ?_
        refine V_lifne dX3_printedAt_57 (tgt := 73) (by decide) (fun q2 => ?_) (fun q2 => ?_)
        · refine V_ex sX3_printedAt_73 (by rfl) (by exact trivial) ?_
          refine V_lret dX3_printedAt_77 rfl (by decide) ⟨by rw [pAt, if_neg (by omega), if_neg q2, hz], rfl⟩
        · refine V_ex sX3_printedAt_60 (by rfl) (by exact ⟨hl2, hp, by omega⟩) ?_
          refine V_goto dX3_printedAt_70 (tgt := 77) (by decide) ?_
          refine V_lret dX3_printedAt_77 rfl (by decide) ⟨by rw [pAt, if_neg (by omega), if_pos q2, hz, tm_nn hl], rfl⟩
      · refine V_ex sX3_printedAt_45 (by rfl) (by exact trivial) ?_
        refine V_lret dX3_printedAt_51 rfl (by decide) ⟨by rw [pAt, if_pos q, hz], rfl⟩
    refine V_ex sX3_printedAt_8 (by rfl) (by exact ⟨⟨hl2, hp, by omega⟩, by rw [td_nn hl]; exact hD, by unfold R64; omega, by decide⟩) ?_
    rw [td_nn hl, td_nn hdv]
    refine V_ifne dX3_printedAt_16 (tgt := 23) (by decide) (by exact hf) (fun q2 => ?_) (fun q2 => ?_)
    · refine V_ex sX3_printedAt_23 (by rfl) (by exact trivial) ?_
      exact join 0 (by rw [if_neg q2])
    · refine V_ex sX3_printedAt_19 (by rfl) (by exact trivial) ?_
      refine V_goto dX3_printedAt_20 (tgt := 24) (by decide) ?_
      exact join 1 (by rw [if_pos q2])
  · omega
/-- what one place adds -/
def prT (f last pw : Int) : Int := if f = 10 then last - pw + 1 else pAt f last pw
def prC (f last : Int) : Nat → Int → Int
  | 0, _ => 0
  | k + 1, pw => if last < pw then 0 else prT f last pw + prC f last k (pw * 10)
theorem p10_le {j : Nat} (h : j ≤ 18) : 1 ≤ (10 : Int) ^ j ∧ (10 : Int) ^ j ≤ 1000000000000000000 := by
  have h1 : (10 : Nat) ^ j ≤ 10 ^ 18 := Nat.pow_le_pow_right (by decide) h
  have h2 : 1 ≤ (10 : Nat) ^ j := Nat.one_le_pow _ _ (by decide)
  have h3 : ((10 ^ j : Nat) : Int) = (10 : Int) ^ j := by simp
  omega
set_option maxRecDepth 100000 in
set_option maxHeartbeats 4000000 in
theorem c_printed {κ : Kx} (hκ : KOK κ) {d : Nat} {f last : Int} {G : Wd} (hf : R32 f) (hl : 0 ≤ last) (hl2 : R64 last) (hd : 1 ≤ d) : Ct κ MX3_printed d 0 0 [VI f, VL last] (Wm G) (keepG G (VL (prC f last 18 1))) noX := by
  refine Ct_of hκ kX3_printed.1 rfl (Nat.le_of_ble_eq_true rfl) (ls := [some (VI f), some (VL last), none, none, none, none, none, none]) rfl (fun μ => ?_)
  refine V_ex sX3_printed_0 (by rfl) (by exact trivial) ?_
  suffices L : ∀ (k : Nat) (many pw place : Int), place = 18 - (k : Int) → k ≤ 18 → pw = 10 ^ (18 - k) → many + prC f last k pw = prC f last 18 1 → V κ MX3_printed (rmD d 0 0) (keepG G (VL (prC f last 18 1))) noX 0 0 μ 0 0 (Wm G) 8 [some (VI f), some (VL last), none, some (VL many), none, some (VL pw), none, some (VI place)] [] from L 18 0 1 0 (by omega) (by omega) (by simp) (by omega)
  intro k
  induction k with
  | zero =>
    intro many pw place hpl hk hpw he
    refine V_ex sX3_printed_8 (by rfl) (by exact trivial) ?_
    refine V_icmpge dX3_printed_12 (tgt := 68) (by decide) (by unfold R32; constructor <;> omega) (fun q => ?_) (fun q => ?_)
    · refine V_ex sX3_printed_68 (by rfl) (by exact trivial) ?_
      refine V_lret dX3_printed_69 rfl (by decide) ⟨by rw [← he]; simp [prC], rfl⟩
    · omega
  | succ k ih =>
    intro many pw place hpl hk hpw he
    have hb := p10_le (j := 18 - (k + 1)) (by omega)
    rw [← hpw] at hb
    have hpR : R64 pw := by unfold R64; omega
    refine V_ex sX3_printed_8 (by rfl) (by exact trivial) ?_
    refine V_icmpge dX3_printed_12 (tgt := 68) (by decide) (by unfold R32; constructor <;> omega) (fun q => ?_) (fun q => ?_)
    · omega
    · refine V_ex sX3_printed_15 (by rfl) (by exact ⟨hpR, r64_0⟩) ?_
      refine V_lifle dX3_printed_19 (tgt := 68) (by decide) (fun q2 => ?_) (fun q2 => ?_)
      · omega
      · refine V_ex sX3_printed_22 (by rfl) (by exact ⟨hpR, hl2⟩) ?_
        refine V_lifgt dX3_printed_26 (tgt := 68) (by decide) (fun q3 => ?_) (fun q3 => ?_)
        · refine V_ex sX3_printed_68 (by rfl) (by exact trivial) ?_
          refine V_lret dX3_printed_69 rfl (by decide) ⟨by rw [← he, prC, if_pos q3]; simp, rfl⟩
        · have next : V κ MX3_printed (rmD d 0 0) (keepG G (VL (prC f last 18 1))) noX 0 0 μ 0 0 (Wm G) 52 [some (VI f), some (VL last), none, some (VL many), none, some (VL pw), none, some (VI place)] [VL (prT f last pw), VL many] := by
            refine V_ex sX3_printed_52 (by rfl) (by exact trivial) ?_
            refine V_goto dX3_printed_65 (tgt := 8) (by decide) ?_
            refine ih _ _ _ (by omega) (by omega) ?_ ?_
            · rw [hpw, ← Int.pow_succ]; congr 1; omega
            · rw [← he, prC, if_neg (by omega)]; omega
          refine V_ex sX3_printed_29 (by rfl) (by exact trivial) ?_
          refine V_icmpne dX3_printed_33 (tgt := 45) (by decide) (by exact ⟨hf, by unfold R32; omega⟩) (fun q4 => ?_) (fun q4 => ?_)
          · refine V_ex sX3_printed_45 (by rfl) (by exact trivial) ?_
            refine V_callS (M := MX3_printed) (N := MX3_printedAt) (As := [VI f, VL last, VL pw]) (rest := [VL many]) dX3_printed_49 lRX3_17 kX3_printedAt rfl (c_printedAt (d := 0) hκ hf hl hl2 hb.1 hpR) rfl rfl (Nat.le_of_ble_eq_true rfl) (fit_rm (by omega)) (⟨Nat.le_refl _, Nat.le_refl _⟩) (fun v Ω' hp => ?_) (fun _ _ h => h.elim)
            obtain ⟨rfl, rfl⟩ := hp
            rw [show pAt f last pw = prT f last pw by rw [prT, if_neg q4]]
            exact next
          · refine V_ex sX3_printed_36 (by rfl) (by exact trivial) ?_
            refine V_goto dX3_printed_42 (tgt := 52) (by decide) ?_
            rw [show last - pw + 1 = prT f last pw by rw [prT, if_pos q4]]
            exact next
def swC (f : Int) : Nat → Int → Int → Int
  | 0, _, _ => 0
  | k + 1, n, pw => if n ≤ 0 then 0 else (if n % 9 < f then n % 9 else n % 9 + 1) * pw + swC f k (n / 9) (pw * 10)
set_option maxRecDepth 100000 in
set_option maxHeartbeats 4000000 in
theorem c_standsWithout {κ : Kx} (hκ : KOK κ) {d : Nat} {f n : Int} {G : Wd} (hf : R32 f) (hn : R64 n) : Ct κ MX3_standsWithout d 0 0 [VI f, VL n] (Wm G) (keepG G (VL (swC f 18 n 1))) noX := by
  refine Ct_of hκ kX3_standsWithout.1 rfl (Nat.le_of_ble_eq_true rfl) (ls := [some (VI f), some (VL n), none, none, none, none, none, none, none, none, none, none]) rfl (fun μ => ?_)
  refine V_ex sX3_standsWithout_0 (by rfl) (by exact trivial) ?_
  suffices L : ∀ (k : Nat) (num pw rest place : Int) (x y : Option Vl), place = 18 - (k : Int) → k ≤ 18 → R64 rest → num + swC f k rest pw = swC f 18 n 1 → V κ MX3_standsWithout (rmD d 0 0) (keepG G (VL (swC f 18 n 1))) noX 0 0 μ 0 0 (Wm G) 11 [some (VI f), some (VL n), none, some (VL num), none, some (VL pw), none, some (VL rest), none, some (VI place), x, y] [] from L 18 0 1 n 0 _ _ (by omega) (by omega) hn (by omega)
  intro k
  induction k with
  | zero =>
    intro num pw rest place x y hpl hk hr he
    refine V_ex sX3_standsWithout_11 (by rfl) (by exact trivial) ?_
    refine V_icmpge dX3_standsWithout_15 (tgt := 78) (by decide) (by unfold R32; constructor <;> omega) (fun q => ?_) (fun q => ?_)
    · refine V_ex sX3_standsWithout_78 (by rfl) (by exact trivial) ?_
      refine V_lret dX3_standsWithout_79 rfl (by decide) ⟨by rw [← he]; simp [swC], rfl⟩
    · omega
  | succ k ih =>
    intro num pw rest place x y hpl hk hr he
    refine V_ex sX3_standsWithout_11 (by rfl) (by exact trivial) ?_
    refine V_icmpge dX3_standsWithout_15 (tgt := 78) (by decide) (by unfold R32; constructor <;> omega) (fun q => ?_) (fun q => ?_)
    · omega
    · refine V_ex sX3_standsWithout_18 (by rfl) (by exact ⟨hr, r64_0⟩) ?_
      refine V_lifle dX3_standsWithout_22 (tgt := 78) (by decide) (fun q2 => ?_) (fun q2 => ?_)
      · refine V_ex sX3_standsWithout_78 (by rfl) (by exact trivial) ?_
        refine V_lret dX3_standsWithout_79 rfl (by decide) ⟨by rw [← he, swC, if_pos q2]; simp, rfl⟩
      · have next : ∀ (dd : Int) (x2 y2 : Option Vl), dd = (if rest % 9 < f then rest % 9 else rest % 9 + 1) → V κ MX3_standsWithout (rmD d 0 0) (keepG G (VL (swC f 18 n 1))) noX 0 0 μ 0 0 (Wm G) 51 [some (VI f), some (VL n), none, some (VL num), none, some (VL pw), none, some (VL rest), none, some (VI place), x2, y2] [VL dd, VL num] := fun dd x2 y2 hdd => by
          refine V_ex sX3_standsWithout_51 (by rfl) (by exact ⟨hr, by unfold R64; omega, by decide⟩) ?_
          refine V_goto dX3_standsWithout_75 (tgt := 11) (by decide) ?_
          rw [td_nn (by omega)]
          refine ih _ _ _ _ _ _ (by omega) (by omega) (by unfold R64 at *; omega) ?_
          rw [← he, swC, if_neg (by omega), hdd]; omega
        refine V_ex sX3_standsWithout_25 (by rfl) (by rw [tm_nn (by omega)]; exact ⟨⟨hr, by unfold R64; omega, by decide⟩, hf, by unfold R64; omega, r32_64 hf⟩) ?_
        rw [tm_nn (by omega)]
        refine V_liflt dX3_standsWithout_39 (tgt := 49) (by decide) (fun q3 => ?_) (fun q3 => ?_)
        · refine V_ex sX3_standsWithout_49 (by rfl) (by exact trivial) ?_
          exact next _ _ _ (by rw [if_pos q3])
        · refine V_ex sX3_standsWithout_42 (by rfl) (by exact trivial) ?_
          refine V_goto dX3_standsWithout_46 (tgt := 51) (by decide) ?_
          exact next _ _ _ (by rw [if_neg (by omega)])
def pwC (f : Int) : Nat → Int → Int → Option Int
  | 0, _, _ => some 0
  | k + 1, v, pw => if v ≤ 0 then some 0 else if v % 10 = f then none else (pwC f k (v / 10) (pw * 9)).map (fun z => (if f < v % 10 then v % 10 - 1 else v % 10) * pw + z)
def pwR (o : Option Int) : Int := o.getD (-1)
set_option maxRecDepth 100000 in
set_option maxHeartbeats 4000000 in
theorem c_placeWithout {κ : Kx} (hκ : KOK κ) {d : Nat} {f n : Int} {G : Wd} (hf : R32 f) (hn : R64 n) : Ct κ MX3_placeWithout d 0 0 [VI f, VL n] (Wm G) (keepG G (VL (pwR (pwC f 18 n 1)))) noX := by
  refine Ct_of hκ kX3_placeWithout.1 rfl (Nat.le_of_ble_eq_true rfl) (ls := [some (VI f), some (VL n), none, none, none, none, none, none, none, none, none, none]) rfl (fun μ => ?_)
  refine V_ex sX3_placeWithout_0 (by rfl) (by exact trivial) ?_
  suffices L : ∀ (k : Nat) (num pw rest place : Int) (x y : Option Vl), place = 18 - (k : Int) → k ≤ 18 → R64 rest → (pwC f k rest pw).map (fun z => num + z) = pwC f 18 n 1 → V κ MX3_placeWithout (rmD d 0 0) (keepG G (VL (pwR (pwC f 18 n 1)))) noX 0 0 μ 0 0 (Wm G) 11 [some (VI f), some (VL n), none, some (VL num), none, some (VL pw), none, some (VL rest), none, some (VI place), x, y] [] from L 18 0 1 n 0 _ _ (by omega) (by omega) hn (by cases pwC f 18 n 1 <;> simp)
  intro k
  induction k with
  | zero =>
    intro num pw rest place x y hpl hk hr he
    refine V_ex sX3_placeWithout_11 (by rfl) (by exact trivial) ?_
    refine V_icmpge dX3_placeWithout_15 (tgt := 90) (by decide) (by unfold R32; constructor <;> omega) (fun q => ?_) (fun q => ?_)
    · refine V_ex sX3_placeWithout_90 (by rfl) (by exact trivial) ?_
      refine V_lret dX3_placeWithout_91 rfl (by decide) ⟨by rw [← he]; simp [pwC, pwR], rfl⟩
    · omega
  | succ k ih =>
    intro num pw rest place x y hpl hk hr he
    refine V_ex sX3_placeWithout_11 (by rfl) (by exact trivial) ?_
    refine V_icmpge dX3_placeWithout_15 (tgt := 90) (by decide) (by unfold R32; constructor <;> omega) (fun q => ?_) (fun q => ?_)
    · omega
    · refine V_ex sX3_placeWithout_18 (by rfl) (by exact ⟨hr, r64_0⟩) ?_
      refine V_lifle dX3_placeWithout_22 (tgt := 90) (by decide) (fun q2 => ?_) (fun q2 => ?_)
      · refine V_ex sX3_placeWithout_90 (by rfl) (by exact trivial) ?_
        refine V_lret dX3_placeWithout_91 rfl (by decide) ⟨by rw [← he, pwC, if_pos q2]; simp [pwR], rfl⟩
      · refine V_ex sX3_placeWithout_25 (by rfl) (by rw [tm_nn (by omega)]; exact ⟨⟨hr, by unfold R64; omega, by decide⟩, hf, by unfold R64; omega, r32_64 hf⟩) ?_
        rw [tm_nn (by omega)]
        refine V_lifne dX3_placeWithout_38 (tgt := 45) (by decide) (fun q3 => ?_) (fun q3 => ?_)
        · have next : ∀ (dd : Int) (x2 y2 : Option Vl), dd = (if f < rest % 10 then rest % 10 - 1 else rest % 10) → V κ MX3_placeWithout (rmD d 0 0) (keepG G (VL (pwR (pwC f 18 n 1)))) noX 0 0 μ 0 0 (Wm G) 63 [some (VI f), some (VL n), none, some (VL num), none, some (VL pw), none, some (VL rest), none, some (VI place), x2, y2] [VL dd, VL num] := fun dd x2 y2 hdd => by
            refine V_ex sX3_placeWithout_63 (by rfl) (by exact ⟨hr, by unfold R64; omega, by decide⟩) ?_
            refine V_goto dX3_placeWithout_87 (tgt := 11) (by decide) ?_
            rw [td_nn (by omega)]
            refine ih _ _ _ _ _ _ (by omega) (by omega) (by unfold R64 at *; omega) ?_
            rw [← he, pwC, if_neg (by omega), if_neg q3, hdd, Option.map_map]
            congr 1
            funext z
            simp only [Function.comp]
            omega
          refine V_ex sX3_placeWithout_45 (by rfl) (by exact ⟨hf, by unfold R64; omega, r32_64 hf⟩) ?_
          refine V_lifle dX3_placeWithout_51 (tgt := 61) (by decide) (fun q4 => ?_) (fun q4 => ?_)
          · refine V_ex sX3_placeWithout_61 (by rfl) (by exact trivial) ?_
            exact next _ _ _ (by rw [if_neg (by omega)])
          · refine V_ex sX3_placeWithout_54 (by rfl) (by exact trivial) ?_
            refine V_goto dX3_placeWithout_58 (tgt := 63) (by decide) ?_
            exact next _ _ _ (by rw [if_pos q4])
        · refine V_ex sX3_placeWithout_41 (by rfl) (by exact trivial) ?_
          refine V_lret dX3_placeWithout_44 rfl (by decide) ⟨by rw [← he, pwC, if_neg (by omega), if_pos q3]; rfl, rfl⟩
