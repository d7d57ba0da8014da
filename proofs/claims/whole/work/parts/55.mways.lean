/-! TornLeavesModel: ways -/
/-- how many rows of m leaves among f, f + 1 .. (j of them) add up to s -/
def wyN (f : Nat) : Nat → Nat → Int → Int
  | 0, m, s => if m = 0 ∧ s = 0 then 1 else 0
  | j + 1, 0, s => wyN f j 0 s
  | j + 1, m + 1, s => wyN f j (m + 1) s + wyN f j m (s - ((f : Int) + (j : Int)))
theorem wyN_neg (f : Nat) : ∀ (j m : Nat) (s : Int), s < 0 → wyN f j m s = 0 := by
  intro j
  induction j with
  | zero => intro m s h; rw [wyN, if_neg (by omega)]
  | succ j ih =>
    intro m s h
    cases m with
    | zero => rw [wyN]; exact ih 0 s h
    | succ m => rw [wyN, ih _ s h, ih _ _ (by omega)]; rfl
theorem wyN_R (f : Nat) : ∀ (j m : Nat) (s : Int), 0 ≤ wyN f j m s ∧ wyN f j m s ≤ 2 ^ j := by
  intro j
  induction j with
  | zero => intro m s; rw [wyN]; split <;> simp
  | succ j ih =>
    intro m s
    have e : (2 : Int) ^ (j + 1) = 2 ^ j * 2 := Int.pow_succ _ _
    cases m with
    | zero => rw [wyN]; have := ih 0 s; omega
    | succ m => rw [wyN]; have h1 := ih (m + 1) s; have h2 := ih m (s - ((f : Int) + (j : Int))); omega
def wyS (f : Nat) (b m s : Int) : Int := if m < 0 ∨ s < 0 ∨ 1799 < s then 0 else wyN f (b - (f : Int)).toNat m.toNat s
set_option maxRecDepth 100000 in
set_option maxHeartbeats 4000000 in
theorem c_mwaysBy {κ : Kx} (hκ : KOK κ) {d f : Nat} {b m s : Int} {G : Wd} (hf : f ≤ 61) (hb : 0 ≤ b ∧ b ≤ 60) (hm : -1000 ≤ m ∧ m ≤ 30) (hs : R64 s) : Ct κ MX12_waysBy d 0 0 [VR 145, VI (f : Nat), VI b, VI m, VL s] (Wm G) (fun v Ω' => v = some (VL (wyS f b m s)) ∧ ∃ G', Ω' = Wm G' ∧ FM [] [] [170] G G') noX := by
  refine Ct_of hκ kX12_waysBy.1 rfl (Nat.le_of_ble_eq_true rfl) (ls := [some (VR 145), some (VI (f : Nat)), some (VI b), some (VI m), some (VL s), none, none, none, none, none]) rfl (fun μ => ?_)
  by_cases hz : m < 0 ∨ s < 0 ∨ 1799 < s
  · refine V_ex sX12_waysBy_0 (by rfl) (by first | exact trivial | exact Or.inr rfl | exact Or.inl rfl | (simp only [ob, obA, R32, R64] at *; omega) | (simp only [ob, obA, R32, R64] at *; and_intros <;> omega)) ?_
    refine V_iflt dX12_waysBy_1 (tgt := 20) (by decide) (by simp only [R32, R64] at *; omega) (fun q1 => ?_) (fun q1 => ?_)
    · refine V_ex sX12_waysBy_20 (by rfl) (by first | exact trivial | exact Or.inr rfl | exact Or.inl rfl | (simp only [ob, obA, R32, R64] at *; omega) | (simp only [ob, obA, R32, R64] at *; and_intros <;> omega)) ?_
      refine V_lret dX12_waysBy_21 rfl (by decide) ⟨by rw [wyS, if_pos hz], G, rfl, FM.refl _ _ _ _⟩
    · refine V_ex sX12_waysBy_4 (by rfl) (by first | exact trivial | exact Or.inr rfl | exact Or.inl rfl | (simp only [ob, obA, R32, R64] at *; omega) | (simp only [ob, obA, R32, R64] at *; and_intros <;> omega)) ?_
      refine V_liflt dX12_waysBy_8 (tgt := 20) (by decide) (fun q8 => ?_) (fun q8 => ?_)
      · refine V_ex sX12_waysBy_20 (by rfl) (by first | exact trivial | exact Or.inr rfl | exact Or.inl rfl | (simp only [ob, obA, R32, R64] at *; omega) | (simp only [ob, obA, R32, R64] at *; and_intros <;> omega)) ?_
        refine V_lret dX12_waysBy_21 rfl (by decide) ⟨by rw [wyS, if_pos hz], G, rfl, FM.refl _ _ _ _⟩
      · refine V_ex sX12_waysBy_11 (by rfl) (by first | exact trivial | exact Or.inr rfl | exact Or.inl rfl | (simp only [ob, obA, R32, R64] at *; omega) | (simp only [ob, obA, R32, R64] at *; and_intros <;> omega)) ?_
        refine V_lifle dX12_waysBy_17 (tgt := 22) (by decide) (fun q17 => ?_) (fun q17 => ?_)
        · omega
        · refine V_ex sX12_waysBy_20 (by rfl) (by first | exact trivial | exact Or.inr rfl | exact Or.inl rfl | (simp only [ob, obA, R32, R64] at *; omega) | (simp only [ob, obA, R32, R64] at *; and_intros <;> omega)) ?_
          refine V_lret dX12_waysBy_21 rfl (by decide) ⟨by rw [wyS, if_pos hz], G, rfl, FM.refl _ _ _ _⟩
  · obtain ⟨M, rfl⟩ : ∃ M : Nat, m = M := ⟨m.toNat, by omega⟩
    obtain ⟨S, rfl⟩ : ∃ S : Nat, s = S := ⟨s.toNat, by omega⟩
    have hw : wyS f b (M : Nat) (S : Nat) = wyN f (b - (f : Int)).toNat M (S : Nat) := by rw [wyS, if_neg hz]; simp
    have fin : ∀ (G1 : Wd) (ii : Int) (x y : Option Vl), FM [] [] [170] G G1 → G1.2.1 170 (1800 * M + S) = wyN f (b - (f : Int)).toNat M (S : Nat) → V κ MX12_waysBy (rmD d 0 0) (fun v Ω' => v = some (VL (wyS f b (M : Nat) (S : Nat))) ∧ ∃ G', Ω' = Wm G' ∧ FM [] [] [170] G G') noX 0 0 μ 0 0 (Wm G1) 169 [some (VR 145), some (VI (f : Nat)), some (VI b), some (VI (M : Nat)), some (VL (S : Nat)), none, some (VI (S : Nat)), some (VI ii), x, y] [] := fun G1 ii x y f1 h => by
      have ei : (1800 * (M : Int) + (S : Int)).toNat = 1800 * M + S := by omega
      refine V_ex sX12_waysBy_169 (by simp only [Option.toList, List.cons_append, List.nil_append, exN, ex1, gI, gL, gR, pI, pL, pR, lget, lset1, lset2, kl, b2I, b2L, nob, ob32, ob64, xGet, xPut, xLen, xLd, xLdR, xSt, obA, true_and, and_true, and_self, eq_self, Nat.reduceEqDiff, Nat.zero_ne_one, reduceIte, Nat.reduceLeDiff, and_false, false_and, show skd 11 43 = 2 from rfl, show LF.1 145 = some (.inl 11) from rfl, show LF.2 145 43 = some 170 from rfl, show LF.1 170 = some (.inr (1, 55800)) from rfl, ei, h, upd2_eq, Int.reduceToNat, Int.toNat_natCast]; rfl) (by first | exact trivial | exact Or.inr rfl | exact Or.inl rfl | (simp only [ob, obA, R32, R64] at *; omega) | (simp only [ob, obA, R32, R64] at *; and_intros <;> omega)) ?_
      refine V_lret dX12_waysBy_182 rfl (by decide) ⟨by rw [hw], G1, rfl, f1⟩
    have L3 : ∀ (k j : Nat) (ii : Int) (G1 : Wd) (x y : Option Vl), ii = (f : Int) + j → (k = 0 ∧ b ≤ ii ∧ j = (b - (f : Int)).toNat ∨ ii + k = b) → FM [] [] [170] G G1 → (∀ m x : Nat, m ≤ M → x ≤ S → G1.2.1 170 (1800 * m + x) = wyN f j m (x : Nat)) → V κ MX12_waysBy (rmD d 0 0) (fun v Ω' => v = some (VL (wyS f b (M : Nat) (S : Nat))) ∧ ∃ G', Ω' = Wm G' ∧ FM [] [] [170] G G') noX 0 0 μ 0 0 (Wm G1) 90 [some (VR 145), some (VI (f : Nat)), some (VI b), some (VI (M : Nat)), some (VL (S : Nat)), none, some (VI (S : Nat)), some (VI ii), x, y] [] := by
      intro k
      induction k with
      | zero =>
        intro j ii G1 x y hii hk f1 h1
        have hj : j = (b - (f : Int)).toNat := by omega
        refine V_ex sX12_waysBy_90 (by rfl) (by first | exact trivial | exact Or.inr rfl | exact Or.inl rfl | (simp only [ob, obA, R32, R64] at *; omega) | (simp only [ob, obA, R32, R64] at *; and_intros <;> omega)) ?_
        refine V_icmpge dX12_waysBy_93 (tgt := 169) (by decide) (by simp only [R32, R64] at *; omega) (fun q93 => ?_) (fun q93 => ?_)
        · exact fin _ _ _ _ f1 (by rw [h1 M S (by omega) (by omega), hj])
        · omega
      | succ k ih3 =>
        intro j ii G1 x y hii hk f1 h1
        have hib : ii + ((k : Int) + 1) = b := by omega
        have L4 : ∀ (m : Nat) (G2 : Wd) (y : Option Vl), m ≤ M → FM [] [] [170] G G2 → (∀ m' x : Nat, m' ≤ M → x ≤ S → G2.2.1 170 (1800 * m' + x) = if m < m' then wyN f (j + 1) m' (x : Nat) else wyN f j m' (x : Nat)) → V κ MX12_waysBy (rmD d 0 0) (fun v Ω' => v = some (VL (wyS f b (M : Nat) (S : Nat))) ∧ ∃ G', Ω' = Wm G' ∧ FM [] [] [170] G G') noX 0 0 μ 0 0 (Wm G2) 99 [some (VR 145), some (VI (f : Nat)), some (VI b), some (VI (M : Nat)), some (VL (S : Nat)), none, some (VI (S : Nat)), some (VI ii), some (VI (m : Nat)), y] [] := by
          intro m
          induction m with
          | zero =>
            intro G2 y hmM f2 h2
            refine V_ex sX12_waysBy_99 (by rfl) (by first | exact trivial | exact Or.inr rfl | exact Or.inl rfl | (simp only [ob, obA, R32, R64] at *; omega) | (simp only [ob, obA, R32, R64] at *; and_intros <;> omega)) ?_
            refine V_ifle dX12_waysBy_101 (tgt := 163) (by decide) (by simp only [R32, R64] at *; omega) (fun q101 => ?_) (fun q101 => ?_)
            · refine V_ex sX12_waysBy_163 (by rfl) (by first | exact trivial | exact Or.inr rfl | exact Or.inl rfl | (simp only [ob, obA, R32, R64] at *; omega) | (simp only [ob, obA, R32, R64] at *; and_intros <;> omega)) ?_
              refine V_goto dX12_waysBy_166 (tgt := 90) (by decide) ?_
              refine ih3 (j + 1) _ _ _ _ (by omega) (by omega) f2 (fun m' x' hm' hx' => ?_)
              rw [h2 m' x' hm' hx']
              cases m' with
              | zero => rw [if_neg (by omega), wyN]
              | succ m' => rw [if_pos (by omega)]
            · omega
          | succ m ih4 =>
            intro G2 y hmM f2 h2
            have L5 : ∀ (n : Nat) (xx : Int) (G3 : Wd), xx = (n : Int) - 1 → n ≤ S + 1 → FM [] [] [170] G G3 → (∀ m' x : Nat, m' ≤ M → x ≤ S → G3.2.1 170 (1800 * m' + x) = if m + 1 < m' ∨ (m' = m + 1 ∧ n ≤ x) then wyN f (j + 1) m' (x : Nat) else wyN f j m' (x : Nat)) → V κ MX12_waysBy (rmD d 0 0) (fun v Ω' => v = some (VL (wyS f b (M : Nat) (S : Nat))) ∧ ∃ G', Ω' = Wm G' ∧ FM [] [] [170] G G') noX 0 0 μ 0 0 (Wm G3) 108 [some (VR 145), some (VI (f : Nat)), some (VI b), some (VI (M : Nat)), some (VL (S : Nat)), none, some (VI (S : Nat)), some (VI ii), some (VI ((m + 1 : Nat) : Int)), some (VI xx)] [] := by
              intro n
              have out : ∀ (n : Nat) (xx : Int) (G3 : Wd), xx = (n : Int) - 1 → (n : Int) ≤ ii → FM [] [] [170] G G3 → (∀ m' x : Nat, m' ≤ M → x ≤ S → G3.2.1 170 (1800 * m' + x) = if m + 1 < m' ∨ (m' = m + 1 ∧ n ≤ x) then wyN f (j + 1) m' (x : Nat) else wyN f j m' (x : Nat)) → V κ MX12_waysBy (rmD d 0 0) (fun v Ω' => v = some (VL (wyS f b (M : Nat) (S : Nat))) ∧ ∃ G', Ω' = Wm G' ∧ FM [] [] [170] G G') noX 0 0 μ 0 0 (Wm G3) 157 [some (VR 145), some (VI (f : Nat)), some (VI b), some (VI (M : Nat)), some (VL (S : Nat)), none, some (VI (S : Nat)), some (VI ii), some (VI ((m + 1 : Nat) : Int)), some (VI xx)] [] := by
                intro n xx G3 hxx hn f3 h3
                refine V_ex sX12_waysBy_157 (by rfl) (by first | exact trivial | exact Or.inr rfl | exact Or.inl rfl | (simp only [ob, obA, R32, R64] at *; omega) | (simp only [ob, obA, R32, R64] at *; and_intros <;> omega)) ?_
                rw [show ((m + 1 : Nat) : Int) + -1 = (m : Nat) by omega]
                refine V_goto dX12_waysBy_160 (tgt := 99) (by decide) ?_
                refine ih4 G3 _ (by omega) f3 (fun m' x' hm' hx' => ?_)
                rw [h3 m' x' hm' hx']
                by_cases c1 : m + 1 < m'
                · rw [if_pos (Or.inl c1), if_pos (by omega)]
                · by_cases c2 : m' = m + 1
                  · subst c2
                    rw [if_pos (show m < m + 1 by omega)]
                    by_cases c3 : n ≤ x'
                    · rw [if_pos (Or.inr ⟨rfl, c3⟩)]
                    · rw [if_neg (by omega), wyN, wyN_neg f j m _ (by omega), Int.add_zero]
                  · rw [if_neg (by omega), if_neg (by omega)]
              induction n with
              | zero =>
                intro xx G3 hxx hn f3 h3
                refine V_ex sX12_waysBy_108 (by rfl) (by first | exact trivial | exact Or.inr rfl | exact Or.inl rfl | (simp only [ob, obA, R32, R64] at *; omega) | (simp only [ob, obA, R32, R64] at *; and_intros <;> omega)) ?_
                refine V_icmplt dX12_waysBy_112 (tgt := 157) (by decide) (by simp only [R32, R64] at *; omega) (fun q112 => ?_) (fun q112 => ?_)
                · exact out 0 _ _ hxx (by omega) f3 h3
                · omega
              | succ n ih5 =>
                intro xx G3 hxx hn f3 h3
                obtain rfl : xx = (n : Int) := by omega
                have e1 : (1800 * ((m + 1 : Nat) : Int) + (n : Int)).toNat = 1800 * (m + 1) + n := by omega
                have e2 : ii ≤ n → (1800 * (((m + 1 : Nat) : Int) - 1) + (n : Int) - ii).toNat = 1800 * m + (n - (f + j)) := fun h => by omega
                refine V_ex sX12_waysBy_108 (by rfl) (by first | exact trivial | exact Or.inr rfl | exact Or.inl rfl | (simp only [ob, obA, R32, R64] at *; omega) | (simp only [ob, obA, R32, R64] at *; and_intros <;> omega)) ?_
                refine V_icmplt dX12_waysBy_112 (tgt := 157) (by decide) (by simp only [R32, R64] at *; omega) (fun q112 => ?_) (fun q112 => ?_)
                · exact out (n + 1) _ _ (by omega) (by omega) f3 h3
                · refine V_ex sX12_waysBy_115 (by simp only [Option.toList, List.cons_append, List.nil_append, exN, ex1, gI, gL, gR, pI, pL, pR, lget, lset1, lset2, kl, b2I, b2L, nob, ob32, ob64, xGet, xPut, xLen, xLd, xLdR, xSt, obA, true_and, and_true, and_self, eq_self, Nat.reduceEqDiff, Nat.zero_ne_one, reduceIte, Nat.reduceLeDiff, and_false, false_and, show skd 11 43 = 2 from rfl, show LF.1 145 = some (.inl 11) from rfl, show LF.2 145 43 = some 170 from rfl, show LF.1 170 = some (.inr (1, 55800)) from rfl, e1, e2 q112, h3 (m + 1) n (by omega) (by omega), h3 m (n - (f + j)) (by omega) (by omega), upd2_eq, Int.reduceToNat, Int.toNat_natCast]; rfl) (by first | exact trivial | exact Or.inr rfl | exact Or.inl rfl | (simp only [ob, obA, R32, R64] at *; omega) | (simp only [ob, obA, R32, R64] at *; and_intros <;> omega)) ?_
                  refine V_goto dX12_waysBy_154 (tgt := 108) (by decide) ?_
                  refine ih5 _ _ (by omega) (by omega) (f3.b (by decide)) (fun m' x' hm' hx' => ?_)
                  simp only [upd2_eq]
                  by_cases c : 1800 * m' + x' = 1800 * (m + 1) + n
                  · obtain ⟨rfl, rfl⟩ : m' = m + 1 ∧ x' = n := by omega
                    rw [if_pos ⟨trivial, rfl⟩, if_neg (by omega), if_neg (by omega), if_pos (Or.inr ⟨rfl, Nat.le_refl _⟩), wyN]
                    rw [show ((x' - (f + j) : Nat) : Int) = (x' : Int) - ((f : Int) + (j : Int)) by omega]
                  · rw [if_neg (by intro q; exact c q.2), h3 m' x' hm' hx']
                    by_cases c2 : m + 1 < m' ∨ m' = m + 1 ∧ n + 1 ≤ x'
                    · rw [if_pos c2, if_pos (by omega)]
                    · rw [if_neg c2, if_neg (by omega)]
            refine V_ex sX12_waysBy_99 (by rfl) (by first | exact trivial | exact Or.inr rfl | exact Or.inl rfl | (simp only [ob, obA, R32, R64] at *; omega) | (simp only [ob, obA, R32, R64] at *; and_intros <;> omega)) ?_
            refine V_ifle dX12_waysBy_101 (tgt := 163) (by decide) (by simp only [R32, R64] at *; omega) (fun q101 => ?_) (fun q101 => ?_)
            · omega
            · refine V_ex sX12_waysBy_104 (by rfl) (by first | exact trivial | exact Or.inr rfl | exact Or.inl rfl | (simp only [ob, obA, R32, R64] at *; omega) | (simp only [ob, obA, R32, R64] at *; and_intros <;> omega)) ?_
              refine L5 (S + 1) _ G2 (by omega) (by omega) f2 (fun m' x' hm' hx' => ?_)
              rw [h2 m' x' hm' hx']
              by_cases c : m + 1 < m'
              · rw [if_pos c, if_pos (Or.inl c)]
              · rw [if_neg c, if_neg (by omega)]
        refine V_ex sX12_waysBy_90 (by rfl) (by first | exact trivial | exact Or.inr rfl | exact Or.inl rfl | (simp only [ob, obA, R32, R64] at *; omega) | (simp only [ob, obA, R32, R64] at *; and_intros <;> omega)) ?_
        refine V_icmpge dX12_waysBy_93 (tgt := 169) (by decide) (by simp only [R32, R64] at *; omega) (fun q93 => ?_) (fun q93 => ?_)
        · omega
        · refine V_ex sX12_waysBy_96 (by rfl) (by first | exact trivial | exact Or.inr rfl | exact Or.inl rfl | (simp only [ob, obA, R32, R64] at *; omega) | (simp only [ob, obA, R32, R64] at *; and_intros <;> omega)) ?_
          refine L4 M G1 _ (by omega) f1 (fun m' x' hm' hx' => ?_)
          rw [h1 m' x' hm' hx', if_neg (by omega)]
    have L1 : ∀ (k m : Nat) (ii : Int) (G1 : Wd) (x y : Option Vl), ii = (m : Int) → m + k = M + 1 → FM [] [] [170] G G1 → (∀ m' x : Nat, m' < m → x ≤ S → G1.2.1 170 (1800 * m' + x) = wyN f 0 m' (x : Nat)) → V κ MX12_waysBy (rmD d 0 0) (fun v Ω' => v = some (VL (wyS f b (M : Nat) (S : Nat))) ∧ ∃ G', Ω' = Wm G' ∧ FM [] [] [170] G G') noX 0 0 μ 0 0 (Wm G1) 30 [some (VR 145), some (VI (f : Nat)), some (VI b), some (VI (M : Nat)), some (VL (S : Nat)), none, some (VI (S : Nat)), some (VI ii), x, y] [] := by
      intro k
      induction k with
      | zero =>
        intro m ii G1 x y hii hk f1 h1
        refine V_ex sX12_waysBy_30 (by rfl) (by first | exact trivial | exact Or.inr rfl | exact Or.inl rfl | (simp only [ob, obA, R32, R64] at *; omega) | (simp only [ob, obA, R32, R64] at *; and_intros <;> omega)) ?_
        refine V_icmpgt dX12_waysBy_33 (tgt := 87) (by decide) (by simp only [R32, R64] at *; omega) (fun q33 => ?_) (fun q33 => ?_)
        · refine V_ex sX12_waysBy_87 (by rfl) (by first | exact trivial | exact Or.inr rfl | exact Or.inl rfl | (simp only [ob, obA, R32, R64] at *; omega) | (simp only [ob, obA, R32, R64] at *; and_intros <;> omega)) ?_
          exact L3 (b - (f : Int)).toNat 0 _ _ _ _ (by simp) (by omega) f1 (fun m' x' hm' hx' => h1 m' x' (by omega) hx')
        · omega
      | succ k ih1 =>
        intro m ii G1 x y hii hk f1 h1
        subst hii
        have L2 : ∀ (r n : Nat) (xx : Int) (G2 : Wd) (y : Option Vl), xx = (n : Int) → n + r = S + 1 → FM [] [] [170] G G2 → (∀ m' x : Nat, (m' < m ∧ x ≤ S ∨ m' = m ∧ x < n) → G2.2.1 170 (1800 * m' + x) = wyN f 0 m' (x : Nat)) → V κ MX12_waysBy (rmD d 0 0) (fun v Ω' => v = some (VL (wyS f b (M : Nat) (S : Nat))) ∧ ∃ G', Ω' = Wm G' ∧ FM [] [] [170] G G') noX 0 0 μ 0 0 (Wm G2) 39 [some (VR 145), some (VI (f : Nat)), some (VI b), some (VI (M : Nat)), some (VL (S : Nat)), none, some (VI (S : Nat)), some (VI (m : Nat)), some (VI xx), y] [] := by
          intro r
          induction r with
          | zero =>
            intro n xx G2 y hxx hr f2 h2
            refine V_ex sX12_waysBy_39 (by rfl) (by first | exact trivial | exact Or.inr rfl | exact Or.inl rfl | (simp only [ob, obA, R32, R64] at *; omega) | (simp only [ob, obA, R32, R64] at *; and_intros <;> omega)) ?_
            refine V_icmpgt dX12_waysBy_43 (tgt := 81) (by decide) (by simp only [R32, R64] at *; omega) (fun q43 => ?_) (fun q43 => ?_)
            · refine V_ex sX12_waysBy_81 (by rfl) (by first | exact trivial | exact Or.inr rfl | exact Or.inl rfl | (simp only [ob, obA, R32, R64] at *; omega) | (simp only [ob, obA, R32, R64] at *; and_intros <;> omega)) ?_
              refine V_goto dX12_waysBy_84 (tgt := 30) (by decide) ?_
              exact ih1 (m + 1) _ _ _ _ (by omega) (by omega) f2 (fun m' x' hm' hx' => h2 m' x' (by omega))
            · omega
          | succ r ih2 =>
            intro n xx G2 y hxx hr f2 h2
            subst hxx
            have e1 : (1800 * (m : Int) + (n : Int)).toNat = 1800 * m + n := by omega
            have next : ∀ z, z = wyN f 0 m (n : Nat) → V κ MX12_waysBy (rmD d 0 0) (fun v Ω' => v = some (VL (wyS f b (M : Nat) (S : Nat))) ∧ ∃ G', Ω' = Wm G' ∧ FM [] [] [170] G G') noX 0 0 μ 0 0 (Wm G2) 74 [some (VR 145), some (VI (f : Nat)), some (VI b), some (VI (M : Nat)), some (VL (S : Nat)), none, some (VI (S : Nat)), some (VI (m : Nat)), some (VI (n : Nat)), y] [VL z, VI (1800 * (m : Int) + (n : Int)), VR 170] := fun z hzz => by
              refine V_ex sX12_waysBy_74 (by simp only [Option.toList, List.cons_append, List.nil_append, exN, ex1, gI, gL, gR, pI, pL, pR, lget, lset1, lset2, kl, b2I, b2L, nob, ob32, ob64, xGet, xPut, xLen, xLd, xLdR, xSt, obA, true_and, and_true, and_self, eq_self, Nat.reduceEqDiff, Nat.zero_ne_one, reduceIte, Nat.reduceLeDiff, and_false, false_and, show LF.1 170 = some (.inr (1, 55800)) from rfl, e1, upd2_eq, Int.reduceToNat, Int.toNat_natCast]; rfl) (by first | exact trivial | exact Or.inr rfl | exact Or.inl rfl | (simp only [ob, obA, R32, R64] at *; omega) | (simp only [ob, obA, R32, R64] at *; and_intros <;> omega)) ?_
              refine V_goto dX12_waysBy_78 (tgt := 39) (by decide) ?_
              refine ih2 (n + 1) _ _ _ (by omega) (by omega) (f2.b (by decide)) (fun m' x' hc => ?_)
              simp only [upd2_eq]
              by_cases c : 1800 * m' + x' = 1800 * m + n
              · obtain ⟨rfl, rfl⟩ : m' = m ∧ x' = n := by omega
                rw [if_pos ⟨trivial, rfl⟩, hzz]
              · rw [if_neg (by intro q; exact c q.2)]; exact h2 m' x' (by omega)
            refine V_ex sX12_waysBy_39 (by rfl) (by first | exact trivial | exact Or.inr rfl | exact Or.inl rfl | (simp only [ob, obA, R32, R64] at *; omega) | (simp only [ob, obA, R32, R64] at *; and_intros <;> omega)) ?_
            refine V_icmpgt dX12_waysBy_43 (tgt := 81) (by decide) (by simp only [R32, R64] at *; omega) (fun q43 => ?_) (fun q43 => ?_)
            · omega
            · refine V_ex sX12_waysBy_46 (by simp only [Option.toList, List.cons_append, List.nil_append, exN, ex1, gI, gL, gR, pI, pL, pR, lget, lset1, lset2, kl, b2I, b2L, nob, ob32, ob64, xGet, xPut, xLen, xLd, xLdR, xSt, obA, true_and, and_true, and_self, eq_self, Nat.reduceEqDiff, Nat.zero_ne_one, reduceIte, Nat.reduceLeDiff, and_false, false_and, show skd 11 43 = 2 from rfl, show LF.1 145 = some (.inl 11) from rfl, show LF.2 145 43 = some 170 from rfl, upd2_eq, Int.reduceToNat, Int.toNat_natCast]; rfl) (by first | exact trivial | exact Or.inr rfl | exact Or.inl rfl | (simp only [ob, obA, R32, R64] at *; omega) | (simp only [ob, obA, R32, R64] at *; and_intros <;> omega)) ?_
              refine V_ifne dX12_waysBy_61 (tgt := 73) (by decide) (by simp only [R32, R64] at *; omega) (fun q61 => ?_) (fun q61 => ?_)
              · refine V_ex sX12_waysBy_73 (by rfl) (by first | exact trivial | exact Or.inr rfl | exact Or.inl rfl | (simp only [ob, obA, R32, R64] at *; omega) | (simp only [ob, obA, R32, R64] at *; and_intros <;> omega)) ?_
                exact next _ (by rw [wyN, if_neg (by omega)])
              · refine V_ex sX12_waysBy_64 (by rfl) (by first | exact trivial | exact Or.inr rfl | exact Or.inl rfl | (simp only [ob, obA, R32, R64] at *; omega) | (simp only [ob, obA, R32, R64] at *; and_intros <;> omega)) ?_
                refine V_ifne dX12_waysBy_66 (tgt := 73) (by decide) (by simp only [R32, R64] at *; omega) (fun q66 => ?_) (fun q66 => ?_)
                · refine V_ex sX12_waysBy_73 (by rfl) (by first | exact trivial | exact Or.inr rfl | exact Or.inl rfl | (simp only [ob, obA, R32, R64] at *; omega) | (simp only [ob, obA, R32, R64] at *; and_intros <;> omega)) ?_
                  exact next _ (by rw [wyN, if_neg (by omega)])
                · refine V_ex sX12_waysBy_69 (by rfl) (by first | exact trivial | exact Or.inr rfl | exact Or.inl rfl | (simp only [ob, obA, R32, R64] at *; omega) | (simp only [ob, obA, R32, R64] at *; and_intros <;> omega)) ?_
                  refine V_goto dX12_waysBy_70 (tgt := 74) (by decide) ?_
                  exact next _ (by rw [wyN, if_pos (by omega)])
        refine V_ex sX12_waysBy_30 (by rfl) (by first | exact trivial | exact Or.inr rfl | exact Or.inl rfl | (simp only [ob, obA, R32, R64] at *; omega) | (simp only [ob, obA, R32, R64] at *; and_intros <;> omega)) ?_
        refine V_icmpgt dX12_waysBy_33 (tgt := 87) (by decide) (by simp only [R32, R64] at *; omega) (fun q33 => ?_) (fun q33 => ?_)
        · omega
        · refine V_ex sX12_waysBy_36 (by rfl) (by first | exact trivial | exact Or.inr rfl | exact Or.inl rfl | (simp only [ob, obA, R32, R64] at *; omega) | (simp only [ob, obA, R32, R64] at *; and_intros <;> omega)) ?_
          exact L2 (S + 1) 0 0 G1 _ rfl (by omega) f1 (fun m' x' hc => h1 m' x' (by omega) (by omega))
    refine V_ex sX12_waysBy_0 (by rfl) (by first | exact trivial | exact Or.inr rfl | exact Or.inl rfl | (simp only [ob, obA, R32, R64] at *; omega) | (simp only [ob, obA, R32, R64] at *; and_intros <;> omega)) ?_
    refine V_iflt dX12_waysBy_1 (tgt := 20) (by decide) (by simp only [R32, R64] at *; omega) (fun q1 => ?_) (fun q1 => ?_)
    · omega
    · refine V_ex sX12_waysBy_4 (by rfl) (by first | exact trivial | exact Or.inr rfl | exact Or.inl rfl | (simp only [ob, obA, R32, R64] at *; omega) | (simp only [ob, obA, R32, R64] at *; and_intros <;> omega)) ?_
      refine V_liflt dX12_waysBy_8 (tgt := 20) (by decide) (fun q8 => ?_) (fun q8 => ?_)
      · omega
      · refine V_ex sX12_waysBy_11 (by rfl) (by first | exact trivial | exact Or.inr rfl | exact Or.inl rfl | (simp only [ob, obA, R32, R64] at *; omega) | (simp only [ob, obA, R32, R64] at *; and_intros <;> omega)) ?_
        refine V_lifle dX12_waysBy_17 (tgt := 22) (by decide) (fun q17 => ?_) (fun q17 => ?_)
        · refine V_ex sX12_waysBy_22 (by rfl) (by first | exact trivial | exact Or.inr rfl | exact Or.inl rfl | (simp only [ob, obA, R32, R64] at *; omega) | (simp only [ob, obA, R32, R64] at *; and_intros <;> omega)) ?_
          exact L1 (M + 1) 0 0 G _ _ rfl (by omega) (FM.refl _ _ _ _) (fun m' x' hm' => by omega)
        · omega
