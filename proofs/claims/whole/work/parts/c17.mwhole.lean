/-! THE MODEL: whole, bought -/
theorem countP_same {l m : List Int} (p : Int → Bool) (hl : l.Nodup) (hm : m.Nodup) (h : ∀ x, x ∈ l ↔ x ∈ m) : l.countP p = m.countP p := by
  rw [List.countP_eq_length_filter, List.countP_eq_length_filter]
  exact Nat.le_antisymm (nodup_le (hl.filter p) (fun x hx => by
    rw [List.mem_filter] at hx ⊢; exact ⟨(h x).mp hx.1, hx.2⟩)) (nodup_le (hm.filter p) (fun x hx => by
    rw [List.mem_filter] at hx ⊢; exact ⟨(h x).mpr hx.1, hx.2⟩))
theorem gl_same {S : Sh} {j : Nat} (hO : okSh 500 S) (hj : j < S.1.length) : ∀ x, x ∈ glL (bkJ S j).2.2.2.2.2 (bkJ S j).2.2.1.toNat ↔ x ∈ (bkJ S j).2.2.2.2.2 := by
  obtain ⟨g1, g2, g3, g4, g5⟩ := gone_ok hO hj
  intro x
  rw [glL_mem]
  exact ⟨fun h => h.1, fun h => ⟨h, (g3 x h).1, by have := (g3 x h).2; omega⟩⟩
theorem bought_lk {S : Sh} {j : Nat} (hO : okSh 500 S) (hj : j < S.1.length) : (hvL S j (bkJ S j).2.2.1.toNat).countP (fun z => decide (z = 0)) = lkN S j (2 ^ S.2.1.length - 1) := by
  have h8 := hO.2.2.1
  obtain ⟨g1, g2, g3, g4, g5⟩ := gone_ok hO hj
  unfold hvL lkN
  rw [List.countP_map, ← countP_same _ (glL_nd (g := (bkJ S j).2.2.2.2.2) (bkJ S j).2.2.1.toNat) g1 (gl_same hO hj)]
  refine List.countP_congr (fun l _ => ?_)
  have := hv_0 (S := S) (b := (j : Int)) (l := l) h8
  show decide (hvI S (j : Int) l = 0) = true ↔ (!inSet S (j : Int) (2 ^ S.2.1.length - 1) l) = true
  rw [decide_eq_true_eq, this]
  cases inSet S (j : Int) (2 ^ S.2.1.length - 1) l <;> simp
def qP (S : Sh) (j : Nat) (n : Nat) : Bool := decide (lkN S j n = 0)
theorem mw_q {S : Sh} {j n : Nat} (hO : okSh 500 S) (hj : j < S.1.length) (hn : n < 256) : mwP (hvL S j (bkJ S j).2.2.1.toNat) n = qP S j n := by
  have h8 := hO.2.2.1
  rw [Bool.eq_iff_iff]
  unfold mwP qP hvL lkN
  rw [List.all_eq_true, decide_eq_true_eq, List.countP_eq_zero]
  constructor
  · intro h l hl
    have h1 := h _ (List.mem_map.mpr ⟨l, (gl_same hO hj l).mpr hl, rfl⟩)
    rw [decide_eq_true_eq, hv_in h8 hn] at h1
    rw [h1]; simp
  · intro h z hz
    obtain ⟨l, hl, rfl⟩ := List.mem_map.mp hz
    have h1 := h l ((gl_same hO hj l).mp hl)
    rw [decide_eq_true_eq, hv_in h8 hn]
    cases q : inSet S (j : Int) n l with
    | true => rfl
    | false => rw [q] at h1; exact absurd rfl h1
theorem whF_congr {P Q : Nat → Bool} : ∀ N, (∀ n, n < N → P n = Q n) → whF P N = whF Q N := by
  intro N
  induction N with
  | zero => intro _; rfl
  | succ N ih => intro h; rw [whF, whF, ih (fun n hn => h n (by omega)), h N (by omega)]
theorem whF_best {Q : Nat → Bool} : ∀ N m, m < N → Q m = true → whF Q N ≠ -1 ∧ bitsN (whF Q N).toNat ≤ bitsN m := by
  intro N
  induction N with
  | zero => intro m hm; omega
  | succ N ih =>
    intro m hm hq
    rw [whF]
    by_cases c : (whF Q N = -1 ∨ bitsN N < bitsN (whF Q N).toNat) ∧ Q N = true
    · rw [if_pos c, Int.toNat_natCast]
      refine ⟨by omega, ?_⟩
      by_cases e : m = N
      · subst e; exact Nat.le_refl _
      · obtain ⟨i1, i2⟩ := ih m (by omega) hq
        have := c.1.resolve_left i1
        omega
    · rw [if_neg c]
      by_cases e : m = N
      · subst e
        have c2 : ¬ (whF Q m = -1 ∨ bitsN m < bitsN (whF Q m).toNat) := fun q => c ⟨q, hq⟩
        exact ⟨fun q => c2 (Or.inl q), Nat.le_of_not_lt fun q => c2 (Or.inr q)⟩
      · exact ih m (by omega) hq
theorem bMod : ∀ C, C < 9 → ∀ n, n < 256 → 2 ^ C ≤ n → bitsN (n % 2 ^ C) < bitsN n := by decide +kernel
theorem anyN_congr {f g : Nat → Bool} : ∀ n, (∀ c, c < n → f c = g c) → anyN f n = anyN g n := by
  intro n
  induction n with
  | zero => intro _; rfl
  | succ n ih => intro h; rw [anyN, anyN, ih (fun c hc => h c (by omega)), h n (by omega)]
theorem lk_mod {S : Sh} {j n : Nat} : lkN S j (n % 2 ^ S.2.1.length) = lkN S j n := by
  unfold lkN
  refine List.countP_congr (fun l _ => ?_)
  have e : inSet S (j : Int) (n % 2 ^ S.2.1.length) l = inSet S (j : Int) n l := by
    unfold inSet
    refine anyN_congr _ (fun c hc => ?_)
    unfold fB
    rw [Nat.testBit_mod_two_pow, decide_eq_true hc, Bool.true_and]
  rw [e]
theorem whF_stop {S : Sh} {j : Nat} (h8 : S.2.1.length ≤ 8) : ∀ k, 2 ^ S.2.1.length + k ≤ 256 → whF (qP S j) (2 ^ S.2.1.length + k) = whF (qP S j) (2 ^ S.2.1.length) := by
  intro k
  induction k with
  | zero => intro _; rfl
  | succ k ih =>
    intro hk
    rw [show 2 ^ S.2.1.length + (k + 1) = (2 ^ S.2.1.length + k) + 1 by omega, whF, if_neg, ih (by omega)]
    rintro ⟨c1, c2⟩
    have hp : 0 < 2 ^ S.2.1.length := Nat.one_le_two_pow
    have hm : (2 ^ S.2.1.length + k) % 2 ^ S.2.1.length < 2 ^ S.2.1.length + k := by have := Nat.mod_lt (2 ^ S.2.1.length + k) hp; omega
    have hq : qP S j ((2 ^ S.2.1.length + k) % 2 ^ S.2.1.length) = true := by unfold qP at c2 ⊢; rw [lk_mod]; exact c2
    obtain ⟨b1, b2⟩ := whF_best _ _ hm hq
    have b3 := bMod S.2.1.length (by omega) (2 ^ S.2.1.length + k) (by omega) (by omega)
    have := c1.resolve_left b1
    omega
theorem whole_q {S : Sh} {j : Nat} (hO : okSh 500 S) (hj : j < S.1.length) : whF (mwP (hvL S j (bkJ S j).2.2.1.toNat)) 256 = whF (qP S j) (2 ^ S.2.1.length) := by
  have h8 := hO.2.2.1
  have h2 := pw8 S.2.1.length (by omega)
  rw [whF_congr 256 (fun n hn => mw_q hO hj hn)]
  have := whF_stop (S := S) (j := j) h8 (256 - 2 ^ S.2.1.length) (by omega)
  rw [← this]
  congr 1
  omega
theorem lk_60 {S : Sh} {j n : Nat} (hO : okSh 500 S) (hj : j < S.1.length) : lkN S j n ≤ 60 := Nat.le_trans List.countP_le_length (gone_ok hO hj).2.1
set_option maxRecDepth 100000 in
set_option maxHeartbeats 4000000 in
theorem c_mxBought {κ : Kx} (hκ : KOK κ) {d : Nat} {K i : Int} {A : Ab} {G : Wd} (hC : RM G A) (hI : Inv K A) (hi : R32 i) (hd : 20 ≤ d) : Ct κ MX12_bought d 0 0 [VR 145, VI i] (Wm G) (mdP G A (some (VI (boughtP A i).2)) (boughtP A i).1) noX := by
  refine Ct_of hκ kX12_bought.1 rfl (Nat.le_of_ble_eq_true rfl) (ls := [some (VR 145), some (VI i)]) rfl (fun μ => ?_)
  have hC1 := RM_0 hC 0
  have hO := hI.1
  have h8 := hO.2.2.1
  have t1 : G.1 148 1 = (A.1.2.1.length : Nat) := hC.1.2.2.1
  by_cases hin : inB A.1 i
  · obtain ⟨j, hj⟩ : ∃ j : Nat, i = (j : Int) := ⟨i.toNat, by have := hin.1; omega⟩
    subst hj
    have hj : j < A.1.1.length := by have := hin.2; omega
    have e : boughtP A (j : Nat) = (0, ((lkN A.1 j (2 ^ A.1.2.1.length - 1) : Nat) : Int)) := by unfold boughtP; rw [if_neg (fun h => h hin), ← bought_lk hO hj]; rfl
    have h2 := pw8 A.1.2.1.length (by omega)
    have h1 : 1 ≤ 2 ^ A.1.2.1.length := Nat.one_le_two_pow
    have hL := c_mLacking (κ := κ) hκ (d := 5) (j := j) (n := 2 ^ A.1.2.1.length - 1) (G := uI G 145 2 0) hC1.1 hO hj (by omega) (by omega)
    have es := shl1 A.1.2.1.length (by omega)
    have e1 : ((2 ^ A.1.2.1.length : Nat) : Int) - 1 = ((2 ^ A.1.2.1.length - 1 : Nat) : Int) := by omega
    refine V_ex sX12_bought_0 (by simp only [Option.toList, List.cons_append, List.nil_append, exN, ex1, gI, gL, gR, pI, pL, pR, lget, lset1, lset2, kl, b2I, b2L, nob, ob32, ob64, xGet, xPut, xLen, xLd, xLdR, xSt, obA, true_and, and_true, and_self, eq_self, Nat.reduceEqDiff, Nat.zero_ne_one, reduceIte, Nat.reduceLeDiff, and_false, false_and, show skd 11 2 = 0 from rfl, show LF.1 145 = some (.inl 11) from rfl, upd2_eq, Int.reduceToNat, Int.toNat_natCast]; rfl) (by first | exact trivial | exact Or.inr rfl | exact Or.inl rfl | (simp only [ob, obA, R32, R64] at *; omega) | (simp only [ob, obA, R32, R64] at *; and_intros <;> omega) | (simp [ob, obA])) ?_
    refine V_callV (M := MX12_bought) (N := MX12_isBook) dX12_bought_7 lRX12_386 kX12_isBook rfl (rfl) rfl (c_mIsBook (d := 2) hκ hC1.1 hI.1 hi (by omega)) rfl rfl (Nat.le_of_ble_eq_true rfl) (fit_rm (by omega)) (⟨Nat.le_of_ble_eq_true rfl, Nat.le_of_ble_eq_true rfl⟩) (fun v Ω' hp => ?_) (fun _ _ h => h.elim)
    obtain ⟨rfl, rfl⟩ := hp
    refine V_ifeqB dX12_bought_10 (tgt := 31) (by decide) (fun q10 => ?_) (fun q10 => ?_)
    · exact absurd (of_decide_eq_false q10) (fun z => z hin)
    · refine V_ex sX12_bought_13 (by simp only [Option.toList, List.cons_append, List.nil_append, exN, ex1, gI, gL, gR, pI, pL, pR, lget, lset1, lset2, kl, b2I, b2L, nob, ob32, ob64, xGet, xPut, xLen, xLd, xLdR, xSt, obA, true_and, and_true, and_self, eq_self, Nat.reduceEqDiff, Nat.zero_ne_one, reduceIte, Nat.reduceLeDiff, and_false, false_and, show skd 11 3 = 2 from rfl, show LF.1 145 = some (.inl 11) from rfl, show LF.2 145 3 = some 148 from rfl, show LF.1 148 = some (.inr (0, 4)) from rfl, t1, es, e1, upd2_eq, Int.reduceToNat, Int.toNat_natCast]; rfl) (by first | exact trivial | exact Or.inr rfl | exact Or.inl rfl | (simp only [ob, obA, R32, R64] at *; omega) | (simp only [ob, obA, R32, R64] at *; and_intros <;> omega) | (simp [ob, obA])) ?_
      refine V_callV (M := MX12_bought) (N := MX12_lacking) dX12_bought_25 lRX12_513 kX12_lacking rfl (rfl) rfl (hL) rfl rfl (Nat.le_of_ble_eq_true rfl) (fit_rm (by omega)) (⟨Nat.le_of_ble_eq_true rfl, Nat.le_of_ble_eq_true rfl⟩) (fun v Ω' hp => ?_) (fun _ _ h => h.elim)
      obtain ⟨rfl, rfl⟩ := hp
      refine V_goto dX12_bought_28 (tgt := 36) (by decide) ?_
      refine V_iret dX12_bought_36 rfl (by decide) (md_0 hC (by rw [e]) (by rw [e]))
  · have e : boughtP A i = (1, 0) := by unfold boughtP; rw [if_pos hin]
    refine V_ex sX12_bought_0 (by simp only [Option.toList, List.cons_append, List.nil_append, exN, ex1, gI, gL, gR, pI, pL, pR, lget, lset1, lset2, kl, b2I, b2L, nob, ob32, ob64, xGet, xPut, xLen, xLd, xLdR, xSt, obA, true_and, and_true, and_self, eq_self, Nat.reduceEqDiff, Nat.zero_ne_one, reduceIte, Nat.reduceLeDiff, and_false, false_and, show skd 11 2 = 0 from rfl, show LF.1 145 = some (.inl 11) from rfl, upd2_eq, Int.reduceToNat, Int.toNat_natCast]; rfl) (by first | exact trivial | exact Or.inr rfl | exact Or.inl rfl | (simp only [ob, obA, R32, R64] at *; omega) | (simp only [ob, obA, R32, R64] at *; and_intros <;> omega) | (simp [ob, obA])) ?_
    refine V_callV (M := MX12_bought) (N := MX12_isBook) dX12_bought_7 lRX12_386 kX12_isBook rfl (rfl) rfl (c_mIsBook (d := 2) hκ hC1.1 hI.1 hi (by omega)) rfl rfl (Nat.le_of_ble_eq_true rfl) (fit_rm (by omega)) (⟨Nat.le_of_ble_eq_true rfl, Nat.le_of_ble_eq_true rfl⟩) (fun v Ω' hp => ?_) (fun _ _ h => h.elim)
    obtain ⟨rfl, rfl⟩ := hp
    refine V_ifeqB dX12_bought_10 (tgt := 31) (by decide) (fun q10 => ?_) (fun q10 => ?_)
    · refine V_ex sX12_bought_31 (by rfl) (by first | exact trivial | exact Or.inr rfl | exact Or.inl rfl | (simp only [ob, obA, R32, R64] at *; omega) | (simp only [ob, obA, R32, R64] at *; and_intros <;> omega) | (simp [ob, obA])) ?_
      refine V_callV (M := MX12_bought) (N := MX12_fail) dX12_bought_33 lRX12_324 kX12_fail rfl (rfl) rfl (c_mfail (d := 2) hκ) rfl rfl (Nat.le_of_ble_eq_true rfl) (fit_rm (by omega)) (⟨Nat.le_of_ble_eq_true rfl, Nat.le_of_ble_eq_true rfl⟩) (fun v Ω' hp => ?_) (fun _ _ h => h.elim)
      obtain ⟨rfl, rfl⟩ := hp
      refine V_iret dX12_bought_36 rfl (by decide) (md_1 hC (by rw [e]) (by rw [e]))
    · exact absurd (of_decide_eq_true q10) hin
set_option maxRecDepth 100000 in
set_option maxHeartbeats 4000000 in
theorem c_mxWhole {κ : Kx} (hκ : KOK κ) {d : Nat} {K i : Int} {A : Ab} {G : Wd} (hC : RM G A) (hI : Inv K A) (hi : R32 i) (hd : 20 ≤ d) : Ct κ MX12_whole d 0 0 [VR 145, VI i] (Wm G) (mdP G A (some (VI (wholeP A i).2)) (wholeP A i).1) noX := by
  refine Ct_of hκ kX12_whole.1 rfl (Nat.le_of_ble_eq_true rfl) (ls := [some (VR 145), some (VI i), none, none]) rfl (fun μ => ?_)
  have hC1 := RM_0 hC 0
  have hO := hI.1
  have h8 := hO.2.2.1
  have t1 : G.1 148 1 = (A.1.2.1.length : Nat) := hC.1.2.2.1
  by_cases hin : inB A.1 i
  · obtain ⟨j, hj⟩ : ∃ j : Nat, i = (j : Int) := ⟨i.toNat, by have := hin.1; omega⟩
    subst hj
    have hj : j < A.1.1.length := by have := hin.2; omega
    have e : wholeP A (j : Nat) = (0, whF (qP A.1 j) (2 ^ A.1.2.1.length)) := by unfold wholeP; rw [if_neg (fun h => h hin), ← whole_q hO hj]; rfl
    have h2 := pw8 A.1.2.1.length (by omega)
    have es := shl1 A.1.2.1.length (by omega)
    have hL := fun n (hn : n < 256) => c_mLacking (κ := κ) hκ (d := 5) (j := j) (n := n) (G := uI G 145 2 0) hC1.1 hO hj hn (by omega)
    have hBc := fun (m : Nat) (hm : m < 256) => c_mBitsOf (κ := κ) hκ (d := 3) (n := m) (G := uI G 145 2 0) hm
    have h1 : 1 ≤ 2 ^ A.1.2.1.length := Nat.one_le_two_pow
    generalize hN : 2 ^ A.1.2.1.length = N at *
    have L : ∀ (r n : Nat) (nn w : Int), n + r = N → nn = (n : Int) → w = whF (qP A.1 j) n → V κ MX12_whole (rmD d 0 0) (mdP G A (some (VI (wholeP A (j : Nat)).2)) (wholeP A (j : Nat)).1) noX 0 0 μ 0 0 (Wm (uI G 145 2 0)) 23 [some (VR 145), some (VI (j : Nat)), some (VI w), some (VI nn)] [] := by
      intro r
      induction r with
      | zero =>
        intro n nn w hn hnn hw
        obtain rfl : n = N := by omega
        subst hnn
        refine V_ex sX12_whole_23 (by simp only [Option.toList, List.cons_append, List.nil_append, exN, ex1, gI, gL, gR, pI, pL, pR, lget, lset1, lset2, kl, b2I, b2L, nob, ob32, ob64, xGet, xPut, xLen, xLd, xLdR, xSt, obA, true_and, and_true, and_self, eq_self, Nat.reduceEqDiff, Nat.zero_ne_one, reduceIte, Nat.reduceLeDiff, and_false, false_and, show skd 11 3 = 2 from rfl, show LF.1 145 = some (.inl 11) from rfl, show LF.2 145 3 = some 148 from rfl, show LF.1 148 = some (.inr (0, 4)) from rfl, t1, es, upd2_eq, Int.reduceToNat, Int.toNat_natCast]; rfl) (by first | exact trivial | exact Or.inr rfl | exact Or.inl rfl | (simp only [ob, obA, R32, R64] at *; omega) | (simp only [ob, obA, R32, R64] at *; and_intros <;> omega) | (simp [ob, obA])) ?_
        refine V_icmpge dX12_whole_32 (tgt := 68) (by decide) (by simp only [R32, R64] at *; omega) (fun q32 => ?_) (fun q32 => ?_)
        · refine V_ex sX12_whole_68 (by rfl) (by first | exact trivial | exact Or.inr rfl | exact Or.inl rfl | (simp only [ob, obA, R32, R64] at *; omega) | (simp only [ob, obA, R32, R64] at *; and_intros <;> omega) | (simp [ob, obA])) ?_
          refine V_iret dX12_whole_69 rfl (by decide) (md_0 hC (by rw [e, hw]) (by rw [e]))
        · omega
      | succ r ih =>
        intro n nn w hn hnn hw
        subst hnn
        have hn256 : n < 256 := by omega
        have hwR := whF_R (qP A.1 j) n
        rw [← hw] at hwR
        have hl60 := lk_60 (n := n) hO hj
        have hs : whF (qP A.1 j) (n + 1) = if (w = -1 ∨ bitsN n < bitsN w.toNat) ∧ qP A.1 j n = true then (n : Int) else w := by rw [whF, ← hw]
        have no : ¬ ((w = -1 ∨ bitsN n < bitsN w.toNat) ∧ qP A.1 j n = true) → V κ MX12_whole (rmD d 0 0) (mdP G A (some (VI (wholeP A (j : Nat)).2)) (wholeP A (j : Nat)).1) noX 0 0 μ 0 0 (Wm (uI G 145 2 0)) 62 [some (VR 145), some (VI (j : Nat)), some (VI w), some (VI (n : Nat))] [] := fun q => by
          refine V_ex sX12_whole_62 (by rfl) (by first | exact trivial | exact Or.inr rfl | exact Or.inl rfl | (simp only [ob, obA, R32, R64] at *; omega) | (simp only [ob, obA, R32, R64] at *; and_intros <;> omega) | (simp [ob, obA])) ?_
          refine V_goto dX12_whole_65 (tgt := 23) (by decide) ?_
          exact ih (n + 1) _ w (by omega) (by omega) (by rw [hs, if_neg q])
        have go : (w = -1 ∨ bitsN n < bitsN w.toNat) → V κ MX12_whole (rmD d 0 0) (mdP G A (some (VI (wholeP A (j : Nat)).2)) (wholeP A (j : Nat)).1) noX 0 0 μ 0 0 (Wm (uI G 145 2 0)) 51 [some (VR 145), some (VI (j : Nat)), some (VI w), some (VI (n : Nat))] [] := fun q => by
          refine V_ex sX12_whole_51 (by rfl) (by first | exact trivial | exact Or.inr rfl | exact Or.inl rfl | (simp only [ob, obA, R32, R64] at *; omega) | (simp only [ob, obA, R32, R64] at *; and_intros <;> omega) | (simp [ob, obA])) ?_
          refine V_callV (M := MX12_whole) (N := MX12_lacking) dX12_whole_54 lRX12_513 kX12_lacking rfl (rfl) rfl (hL n hn256) rfl rfl (Nat.le_of_ble_eq_true rfl) (fit_rm (by omega)) (⟨Nat.le_of_ble_eq_true rfl, Nat.le_of_ble_eq_true rfl⟩) (fun v Ω' hp => ?_) (fun _ _ h => h.elim)
          obtain ⟨rfl, rfl⟩ := hp
          refine V_ifne dX12_whole_57 (tgt := 62) (by decide) (by simp only [R32, R64] at *; omega) (fun q57 => ?_) (fun q57 => ?_)
          · exact no (fun z => by have := of_decide_eq_true z.2; omega)
          · refine V_ex sX12_whole_60 (by rfl) (by first | exact trivial | exact Or.inr rfl | exact Or.inl rfl | (simp only [ob, obA, R32, R64] at *; omega) | (simp only [ob, obA, R32, R64] at *; and_intros <;> omega) | (simp [ob, obA])) ?_
            refine V_ex sX12_whole_62 (by rfl) (by exact trivial) ?_
            refine V_goto dX12_whole_65 (tgt := 23) (by decide) ?_
            exact ih (n + 1) _ (n : Int) (by omega) (by omega) (by rw [hs, if_pos ⟨q, decide_eq_true (show lkN A.1 j n = 0 by omega)⟩])
        by_cases hw1 : w = -1
        · refine V_ex sX12_whole_23 (by simp only [Option.toList, List.cons_append, List.nil_append, exN, ex1, gI, gL, gR, pI, pL, pR, lget, lset1, lset2, kl, b2I, b2L, nob, ob32, ob64, xGet, xPut, xLen, xLd, xLdR, xSt, obA, true_and, and_true, and_self, eq_self, Nat.reduceEqDiff, Nat.zero_ne_one, reduceIte, Nat.reduceLeDiff, and_false, false_and, show skd 11 3 = 2 from rfl, show LF.1 145 = some (.inl 11) from rfl, show LF.2 145 3 = some 148 from rfl, show LF.1 148 = some (.inr (0, 4)) from rfl, t1, es, upd2_eq, Int.reduceToNat, Int.toNat_natCast]; rfl) (by first | exact trivial | exact Or.inr rfl | exact Or.inl rfl | (simp only [ob, obA, R32, R64] at *; omega) | (simp only [ob, obA, R32, R64] at *; and_intros <;> omega) | (simp [ob, obA])) ?_
          refine V_icmpge dX12_whole_32 (tgt := 68) (by decide) (by simp only [R32, R64] at *; omega) (fun q32 => ?_) (fun q32 => ?_)
          · omega
          · refine V_ex sX12_whole_35 (by rfl) (by first | exact trivial | exact Or.inr rfl | exact Or.inl rfl | (simp only [ob, obA, R32, R64] at *; omega) | (simp only [ob, obA, R32, R64] at *; and_intros <;> omega) | (simp [ob, obA])) ?_
            refine V_icmpeq dX12_whole_37 (tgt := 51) (by decide) (by simp only [R32, R64] at *; omega) (fun q37 => ?_) (fun q37 => ?_)
            · exact go (Or.inl hw1)
            · exact absurd hw1 q37
        · obtain ⟨v9, hv9⟩ : ∃ v : Nat, w = (v : Int) := ⟨w.toNat, by omega⟩
          have hb1 := bitsN_le n hn256
          have hb2 := bitsN_le v9 (by omega)
          have ew : w.toNat = v9 := by omega
          rw [ew] at go no
          have hB9 := hBc v9 (by omega)
          rw [← hv9] at hB9
          refine V_ex sX12_whole_23 (by simp only [Option.toList, List.cons_append, List.nil_append, exN, ex1, gI, gL, gR, pI, pL, pR, lget, lset1, lset2, kl, b2I, b2L, nob, ob32, ob64, xGet, xPut, xLen, xLd, xLdR, xSt, obA, true_and, and_true, and_self, eq_self, Nat.reduceEqDiff, Nat.zero_ne_one, reduceIte, Nat.reduceLeDiff, and_false, false_and, show skd 11 3 = 2 from rfl, show LF.1 145 = some (.inl 11) from rfl, show LF.2 145 3 = some 148 from rfl, show LF.1 148 = some (.inr (0, 4)) from rfl, t1, es, upd2_eq, Int.reduceToNat, Int.toNat_natCast]; rfl) (by first | exact trivial | exact Or.inr rfl | exact Or.inl rfl | (simp only [ob, obA, R32, R64] at *; omega) | (simp only [ob, obA, R32, R64] at *; and_intros <;> omega) | (simp [ob, obA])) ?_
          refine V_icmpge dX12_whole_32 (tgt := 68) (by decide) (by simp only [R32, R64] at *; omega) (fun q32 => ?_) (fun q32 => ?_)
          · omega
          · refine V_ex sX12_whole_35 (by rfl) (by first | exact trivial | exact Or.inr rfl | exact Or.inl rfl | (simp only [ob, obA, R32, R64] at *; omega) | (simp only [ob, obA, R32, R64] at *; and_intros <;> omega) | (simp [ob, obA])) ?_
            refine V_icmpeq dX12_whole_37 (tgt := 51) (by decide) (by simp only [R32, R64] at *; omega) (fun q37 => ?_) (fun q37 => ?_)
            · omega
            · refine V_ex sX12_whole_40 (by rfl) (by first | exact trivial | exact Or.inr rfl | exact Or.inl rfl | (simp only [ob, obA, R32, R64] at *; omega) | (simp only [ob, obA, R32, R64] at *; and_intros <;> omega) | (simp [ob, obA])) ?_
              refine V_callS (M := MX12_whole) (N := MX12_bitsOf) dX12_whole_41 lRX12_510 kX12_bitsOf rfl (hBc n hn256) rfl rfl (Nat.le_of_ble_eq_true rfl) (fit_rm (by omega)) (⟨Nat.le_of_ble_eq_true rfl, Nat.le_of_ble_eq_true rfl⟩) (fun v Ω' hp => ?_) (fun _ _ h => h.elim)
              obtain ⟨rfl, rfl⟩ := hp
              refine V_ex sX12_whole_44 (by rfl) (by first | exact trivial | exact Or.inr rfl | exact Or.inl rfl | (simp only [ob, obA, R32, R64] at *; omega) | (simp only [ob, obA, R32, R64] at *; and_intros <;> omega) | (simp [ob, obA])) ?_
              skip
              refine V_callS (M := MX12_whole) (N := MX12_bitsOf) dX12_whole_45 lRX12_510 kX12_bitsOf rfl (hB9) rfl rfl (Nat.le_of_ble_eq_true rfl) (fit_rm (by omega)) (⟨Nat.le_of_ble_eq_true rfl, Nat.le_of_ble_eq_true rfl⟩) (fun v Ω' hp => ?_) (fun _ _ h => h.elim)
              obtain ⟨rfl, rfl⟩ := hp
              refine V_icmpge dX12_whole_48 (tgt := 62) (by decide) (by simp only [R32, R64] at *; omega) (fun q48 => ?_) (fun q48 => ?_)
              · exact no (fun z => by rcases z.1 with z1 | z1 <;> omega)
              · exact go (Or.inr (by omega))
    refine V_ex sX12_whole_0 (by simp only [Option.toList, List.cons_append, List.nil_append, exN, ex1, gI, gL, gR, pI, pL, pR, lget, lset1, lset2, kl, b2I, b2L, nob, ob32, ob64, xGet, xPut, xLen, xLd, xLdR, xSt, obA, true_and, and_true, and_self, eq_self, Nat.reduceEqDiff, Nat.zero_ne_one, reduceIte, Nat.reduceLeDiff, and_false, false_and, show skd 11 2 = 0 from rfl, show LF.1 145 = some (.inl 11) from rfl, upd2_eq, Int.reduceToNat, Int.toNat_natCast]; rfl) (by first | exact trivial | exact Or.inr rfl | exact Or.inl rfl | (simp only [ob, obA, R32, R64] at *; omega) | (simp only [ob, obA, R32, R64] at *; and_intros <;> omega) | (simp [ob, obA])) ?_
    refine V_callV (M := MX12_whole) (N := MX12_isBook) dX12_whole_7 lRX12_386 kX12_isBook rfl (rfl) rfl (c_mIsBook (d := 2) hκ hC1.1 hI.1 hi (by omega)) rfl rfl (Nat.le_of_ble_eq_true rfl) (fit_rm (by omega)) (⟨Nat.le_of_ble_eq_true rfl, Nat.le_of_ble_eq_true rfl⟩) (fun v Ω' hp => ?_) (fun _ _ h => h.elim)
    obtain ⟨rfl, rfl⟩ := hp
    refine V_ifneB dX12_whole_10 (tgt := 19) (by decide) (fun q10 => ?_) (fun q10 => ?_)
    · refine V_ex sX12_whole_19 (by rfl) (by first | exact trivial | exact Or.inr rfl | exact Or.inl rfl | (simp only [ob, obA, R32, R64] at *; omega) | (simp only [ob, obA, R32, R64] at *; and_intros <;> omega) | (simp [ob, obA])) ?_
      exact L N 0 0 (-1) (by omega) rfl rfl
    · exact absurd (of_decide_eq_false q10) (fun z => z hin)
  · have e : wholeP A i = (1, 0) := by unfold wholeP; rw [if_pos hin]
    refine V_ex sX12_whole_0 (by simp only [Option.toList, List.cons_append, List.nil_append, exN, ex1, gI, gL, gR, pI, pL, pR, lget, lset1, lset2, kl, b2I, b2L, nob, ob32, ob64, xGet, xPut, xLen, xLd, xLdR, xSt, obA, true_and, and_true, and_self, eq_self, Nat.reduceEqDiff, Nat.zero_ne_one, reduceIte, Nat.reduceLeDiff, and_false, false_and, show skd 11 2 = 0 from rfl, show LF.1 145 = some (.inl 11) from rfl, upd2_eq, Int.reduceToNat, Int.toNat_natCast]; rfl) (by first | exact trivial | exact Or.inr rfl | exact Or.inl rfl | (simp only [ob, obA, R32, R64] at *; omega) | (simp only [ob, obA, R32, R64] at *; and_intros <;> omega) | (simp [ob, obA])) ?_
    refine V_callV (M := MX12_whole) (N := MX12_isBook) dX12_whole_7 lRX12_386 kX12_isBook rfl (rfl) rfl (c_mIsBook (d := 2) hκ hC1.1 hI.1 hi (by omega)) rfl rfl (Nat.le_of_ble_eq_true rfl) (fit_rm (by omega)) (⟨Nat.le_of_ble_eq_true rfl, Nat.le_of_ble_eq_true rfl⟩) (fun v Ω' hp => ?_) (fun _ _ h => h.elim)
    obtain ⟨rfl, rfl⟩ := hp
    refine V_ifneB dX12_whole_10 (tgt := 19) (by decide) (fun q10 => ?_) (fun q10 => ?_)
    · exact absurd (of_decide_eq_true q10) hin
    · refine V_ex sX12_whole_13 (by rfl) (by first | exact trivial | exact Or.inr rfl | exact Or.inl rfl | (simp only [ob, obA, R32, R64] at *; omega) | (simp only [ob, obA, R32, R64] at *; and_intros <;> omega) | (simp [ob, obA])) ?_
      refine V_callV (M := MX12_whole) (N := MX12_fail) dX12_whole_15 lRX12_324 kX12_fail rfl (rfl) rfl (c_mfail (d := 2) hκ) rfl rfl (Nat.le_of_ble_eq_true rfl) (fit_rm (by omega)) (⟨Nat.le_of_ble_eq_true rfl, Nat.le_of_ble_eq_true rfl⟩) (fun v Ω' hp => ?_) (fun _ _ h => h.elim)
      obtain ⟨rfl, rfl⟩ := hp
      refine V_iret dX12_whole_18 rfl (by decide) (md_1 hC (by rw [e]) (by rw [e]))
