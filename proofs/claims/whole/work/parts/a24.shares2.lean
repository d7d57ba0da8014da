/-! TornLeaves: shares -/
/-- the cells of numbers and of shares under way -/
def ShN (s : Nat) (G G' : Wd) : Prop := G'.2 = G.2 ∧ ∀ x j, x ≠ s + 6 → x ≠ 128 → ¬ (x = s ∧ j = 10) → ¬ (x = 135 ∧ j ≠ 8) → x ≠ 136 → G'.1 x j = G.1 x j
theorem ShN.n {s : Nat} {G G' : Wd} (h : ScN s G G') : ShN s G G' := ⟨h.1, fun x j a b c _ _ => h.2 x j a b c⟩
theorem ShN.trans {s : Nat} {G G' G'' : Wd} (h : ShN s G G') (h' : ShN s G' G'') : ShN s G G'' := ⟨h'.1.trans h.1, fun x j a b c d e => (h'.2 x j a b c d e).trans (h.2 x j a b c d e)⟩
theorem NC_f {G G' : Wd} {s : Nat} {S : Sh} (h : NC G s S) (f2 : G'.2.2 = G.2.2) (f : ∀ x, x < 135 → G'.1 x = G.1 x) : NC G' s S := by
  obtain ⟨h1, h2, h3, h4, h5, h6⟩ := h
  have h128 : s + 52 < 128 ∧ s + 6 ≠ 128 := by rcases h2 with rfl | rfl <;> decide
  exact ⟨by rw [f2]; exact h1, h2, ShC_N h2 h3 h4.2.2.1 h4.1 (fun x j a b c d => by rw [f x (by omega)]), h4, fun j => by rw [f _ (by omega)]; exact h5 j, cacheC_c h6 (f _ (by omega))⟩
/-- what has been offered for shares -/
def ofW (G : Wd) (W : List Int) (ch : Nat) : Prop := G.1 135 1 = (W.length : Nat) ∧ G.1 135 2 = (ch : Nat) ∧ G.1 135 3 = smW (lw W) 0 W.length ∧ (∀ k (h : k < W.length), G.1 136 k = W[k]'h) ∧ ∀ j, 0 ≤ G.1 136 j ∧ G.1 136 j ≤ 1000000
abbrev offW (G : Wd) (z : Int) : Wd := uI (uI (uI G 136 (G.1 135 1).toNat z) 135 1 (G.1 135 1 + 1)) 135 3 (G.1 135 3 + z)
theorem lw_app {W : List Int} {z : Int} (j : Nat) : lw (W ++ [z]) j = if j < W.length then lw W j else if j = W.length then z else 0 := by
  unfold lw
  rw [List.getD_eq_getElem?_getD, List.getD_eq_getElem?_getD, List.getElem?_append]
  split
  · rfl
  · split
    · rename_i h; subst h; simp
    · rw [List.getElem?_eq_none (by simp; omega)]; rfl
theorem ofW_add {G : Wd} {W : List Int} {ch : Nat} {z : Int} (h : ofW G W ch) (hz : 0 ≤ z ∧ z ≤ 199998) : ofW (offW G z) (W ++ [z]) ch := by
  obtain ⟨h1, h2, h3, h4, h5⟩ := h
  have hs : smW (lw (W ++ [z])) 0 (W ++ [z]).length = smW (lw W) 0 W.length + z := by
    rw [List.length_append, List.length_singleton, smW_app, smW_c (w' := lw W) W.length 0 (fun j _ hj => by rw [lw_app, if_pos (by omega)]), lw_app, if_neg (by omega), if_pos (by omega)]
  refine ⟨?_, ?_, ?_, fun k hk => ?_, fun j => ?_⟩
  · simp [upd2_eq]; omega
  · simp [upd2_eq]; omega
  · rw [hs]; simp [upd2_eq]; omega
  · have hk2 : k < W.length + 1 := by simpa using hk
    by_cases c : k < W.length
    · rw [List.getElem_append_left c]
      simp only [upd2_eq]
      rw [if_neg (by omega), if_neg (by omega), if_neg (by omega)]; exact h4 k c
    · have e : k = W.length := by omega
      subst e
      rw [List.getElem_append_right (Nat.le_refl _)]
      simp only [upd2_eq]
      rw [if_neg (by omega), if_neg (by omega), if_pos ⟨trivial, by omega⟩]; simp
  · simp only [upd2_eq]
    rw [if_neg (by omega), if_neg (by omega)]
    split
    · omega
    · exact h5 j
theorem thL_le (g : List Int) : ∀ n k, (thL g n).length ≤ (thL g (n + k)).length := by
  intro n k
  induction k with
  | zero => exact Nat.le_refl _
  | succ k ih => rw [← Nat.add_assoc, thL, List.length_append]; omega
theorem allL_nn {w : Nat → Int} {ch : Nat} : ∀ (r p : Nat) (h : Nat → Int) (pre : List Nat), ∀ q ∈ allL w ch r p h pre, 0 ≤ q.1 := by
  intro r
  induction r with
  | zero =>
    intro p h pre q hq
    rw [List.mem_singleton.mp hq]
    have := (mxH_is h (ch - 1)).1 0 (by omega)
    have := (mnH_is h (ch - 1)).1 0 (by omega)
    show 0 ≤ mxH h (ch - 1) - mnH h (ch - 1)
    omega
  | succ r ih =>
    intro p h pre q hq
    rw [allL] at hq
    obtain ⟨c, -, h2⟩ := List.mem_flatMap.mp hq
    exact ih _ _ _ q h2
theorem bestS_R {W : List Int} {ch : Nat} : 0 ≤ (bestS W ch).1 := by
  unfold bestS
  rcases keep_in (allL (lw W) ch W.length 0 (fun _ => 0) []) (1000000000, []) with e | e
  · rw [e]; show (0 : Int) ≤ 1000000000; decide
  · exact allL_nn _ _ _ _ _ e
theorem wsL_s {S : Sh} {j n : Nat} : wsL S j (n + 1) = if (n : Int) ∈ (bkJ S j).2.2.2.2.2 then wsL S j n else wsL S j n ++ [lfB (cdS S) (bkJ S j) (n : Int)] := by
  unfold wsL
  rw [thL]
  split
  · rw [List.append_nil]
  · rw [List.map_append]; rfl
theorem wsL_len {S : Sh} {j n : Nat} : (wsL S j n).length = (thL (bkJ S j).2.2.2.2.2 n).length := by unfold wsL; rw [List.length_map]
set_option maxRecDepth 100000 in
set_option maxHeartbeats 4000000 in
theorem c_xShares {κ : Kx} (hκ : KOK κ) {d s : Nat} {K i ch : Int} {A : Ab} {G : Wd} (hC : RC G s A) (hI : Inv K A) (hR : aR G) (hi : R32 i) (hch : R32 ch) (hd : 30 ≤ d) : Ct κ MX11_shares d 16 128 [VR 1, VI i, VI ch] (Wm G) (cP G (sharesP A i ch).2.2 ((sharesP A i ch).1 = 0) (some (VL (sharesP A i ch).2.1))) (cX2 G A (sharesP A i ch).1) := by
  refine Ct_of hκ kX11_shares.1 rfl (Nat.le_of_ble_eq_true rfl) (ls := [some (VR 1), some (VI i), some (VI ch), none, none]) rfl (fun μ => ?_)
  have hN := RC_N hC hI.1 hR
  have hs8 : s = 8 ∨ s = 61 := hC.1.2.2
  by_cases hin : inB A.1 i
  · obtain ⟨j, hj⟩ : ∃ j : Nat, i = (j : Int) := ⟨i.toNat, by have := hin.1; omega⟩
    subst hj
    have hj : j < A.1.1.length := by have := hin.2; omega
    obtain ⟨hB, hj6, hok, k0, k2, k1, -, kg⟩ := NC_b hN hj
    obtain ⟨g1, g2, g3, g4, g5⟩ := gone_ok hI.1 hj
    have hTh := c_there (κ := κ) hκ (d := 29) (G := G) hB (by omega)
    rw [kg.1, k1] at hTh
    by_cases hk2 : 2 ≤ ch ∧ ch ≤ 4
    · obtain ⟨c, hc⟩ : ∃ c : Nat, ch = (c : Int) := ⟨ch.toNat, by omega⟩
      subst hc
      by_cases h10 : 10 < (bkJ A.1 j).2.2.1 - ((bkJ A.1 j).2.2.2.2.2.length : Nat)
      · have e : sharesP A (j : Nat) (c : Nat) = (0, -2, A) := by have h10' : 10 < (bkA A (j : Nat)).2.2.1 - ((bkA A (j : Nat)).2.2.2.2.2.length : Nat) := h10; unfold sharesP; rw [if_neg (fun h => h hin), if_neg (fun h => h hk2), if_pos h10']
        refine V_ex sX11_shares_0 (by rfl) (by first | exact trivial | exact Or.inr rfl | exact Or.inl rfl | (simp only [ob, obA, R32, R64] at *; omega) | (simp only [ob, obA, R32, R64] at *; and_intros <;> omega) | (simp [ob, obA])) ?_
        refine V_callV (M := MX11_shares) (N := MX11_needBook) dX11_shares_2 lRX11_154 kX11_needBook rfl (rfl) rfl (c_nBook (d := 29) hκ hN hi (by omega)) rfl rfl (Nat.le_of_ble_eq_true rfl) (fit_rm (by omega)) (⟨Nat.le_of_ble_eq_true rfl, Nat.le_of_ble_eq_true rfl⟩) (fun v Ω' hp => ?_) (fun E Ω' h => absurd hin h.1)
        obtain ⟨-, rfl, rfl⟩ := hp
        rw [Int.toNat_natCast]
        refine V_ex sX11_shares_5 (by rfl) (by first | exact trivial | exact Or.inr rfl | exact Or.inl rfl | (simp only [ob, obA, R32, R64] at *; omega) | (simp only [ob, obA, R32, R64] at *; and_intros <;> omega) | (simp [ob, obA])) ?_
        refine V_callS (M := MX11_shares) (N := MX11_needWithin) dX11_shares_14 lRX11_281 kX11_needWithin rfl (c_needWithin (d := 29) hκ (by unfold R64; omega) (by unfold R64; omega) (by unfold R64; omega) (by omega)) rfl rfl (Nat.le_of_ble_eq_true rfl) (fit_rm (by omega)) (⟨Nat.le_of_ble_eq_true rfl, Nat.le_of_ble_eq_true rfl⟩) (fun v Ω' hp => ?_) (fun E Ω' h => absurd hk2 h.1)
        obtain ⟨-, rfl, rfl⟩ := hp
        refine V_ex sX11_shares_17 (by rfl) (by first | exact trivial | exact Or.inr rfl | exact Or.inl rfl | (simp only [ob, obA, R32, R64] at *; omega) | (simp only [ob, obA, R32, R64] at *; and_intros <;> omega) | (simp [ob, obA])) ?_
        refine V_callV (M := MX11_shares) (N := MX0_there) dX11_shares_18 lRX11_285 kX0_there rfl (hB.1) rfl (hTh) rfl rfl (Nat.le_of_ble_eq_true rfl) (fit_rm (by omega)) (⟨Nat.le_of_ble_eq_true rfl, Nat.le_of_ble_eq_true rfl⟩) (fun v Ω' hp => ?_) (fun _ _ h => h.elim)
        obtain ⟨rfl, rfl⟩ := hp
        refine V_ex sX11_shares_21 (by rfl) (by first | exact trivial | exact Or.inr rfl | exact Or.inl rfl | (simp only [ob, obA, R32, R64] at *; omega) | (simp only [ob, obA, R32, R64] at *; and_intros <;> omega) | (simp [ob, obA])) ?_
        refine V_icmple dX11_shares_23 (tgt := 30) (by decide) (by simp only [R32, R64] at *; omega) (fun q23 => ?_) (fun q23 => ?_)
        · omega
        · refine V_ex sX11_shares_26 (by rfl) (by first | exact trivial | exact Or.inr rfl | exact Or.inl rfl | (simp only [ob, obA, R32, R64] at *; omega) | (simp only [ob, obA, R32, R64] at *; and_intros <;> omega) | (simp [ob, obA])) ?_
          refine V_lret dX11_shares_29 rfl (by decide) (by rw [e]; exact cP_0 hC rfl rfl)
      · obtain ⟨n, hn⟩ : ∃ n : Nat, n = (bkJ A.1 j).2.2.1.toNat := ⟨_, rfl⟩
        have hnI : (n : Int) = (bkJ A.1 j).2.2.1 := by omega
        have e : sharesP A (j : Nat) (c : Nat) = (0, (bestS (wsL A.1 j n) c).1, sharesA A ((bestS (wsL A.1 j n) c).2.map (fun c : Nat => (c : Int)))) := by have h10' : ¬ 10 < (bkA A (j : Nat)).2.2.1 - ((bkA A (j : Nat)).2.2.2.2.2.length : Nat) := h10; unfold sharesP; rw [if_neg (fun h => h hin), if_neg (fun h => h hk2), if_neg h10', hn]; rfl
        have hlen := thL_len (g := (bkJ A.1 j).2.2.2.2.2) (n := n) g1 (fun z hz => by have := g3 z hz; omega)
        have hW10 : ∀ m, m ≤ n → (wsL A.1 j m).length ≤ 10 := fun m hm => by
          have := thL_le (bkJ A.1 j).2.2.2.2.2 m (n - m)
          rw [show m + (n - m) = n by omega] at this
          rw [wsL_len]; omega
        have hWR : ∀ m, m ≤ n → ∀ z ∈ wsL A.1 j m, 0 ≤ z ∧ z ≤ 199998 := fun m hm => wsL_R hI.1 hj (by omega)
        have L : ∀ (k m : Nat) (mm : Int) (G1 : Wd), m + k = n → mm = (m : Int) → ShN s G G1 → NC G1 s A.1 → ofW G1 (wsL A.1 j m) c → V κ MX11_shares (rmD d 16 128) (cP G (sharesP A (j : Nat) (c : Nat)).2.2 ((sharesP A (j : Nat) (c : Nat)).1 = 0) (some (VL (sharesP A (j : Nat) (c : Nat)).2.1))) (cX2 G A (sharesP A (j : Nat) (c : Nat)).1) 16 128 μ (0 + 1 + 1 + 0 + 0) (0 + 6 + 6 + 0 + 0) (Wm (G1)) 41 [some (VR 1), some (VI (j : Nat)), some (VI (c : Nat)), some (VR (s + 7 + 5 * j)), some (VI mm)] [] := by
          intro k
          induction k with
          | zero =>
            intro m mm G1 hmk hmm f1 n1 o1
            obtain rfl : m = n := by omega
            obtain ⟨-, -, -, k0', k2', k1', -, kg'⟩ := NC_b n1 hj
            have hl10 := hW10 m (Nat.le_refl _)
            have hwr := hWR m (Nat.le_refl _)
            have hbk := bestS_ok (ch := c) hwr hl10 (by omega)
            have hbr := bestS_R (W := wsL A.1 j m) (ch := c)
            obtain ⟨b1, b2, b3, b4, b5⟩ := o1
            have hsm := smW_R (lw_nn hwr) (wsL A.1 j m).length 0
            have hSh := c_share (κ := κ) hκ (d := 29) (many := (wsL A.1 j m).length) (ch := c) (total := smW (lw (wsL A.1 j m)) 0 (wsL A.1 j m).length) (G := G1) ⟨by omega, by omega⟩ hl10 ⟨hsm.1, by omega⟩ b5 b1 b2 b3 (by omega)
            rw [share_best (W := wsL A.1 j m) (w := G1.1 136) (fun j => (b5 j).1) (by omega) b4 (by
              refine smW_c _ _ (fun y _ hy => ?_)
              rw [b4 y (by omega)]; unfold lw; rw [List.getD_eq_getElem?_getD, List.getElem?_eq_getElem (by omega)]; rfl)] at hSh
            refine V_ex sX11_shares_41 (by simp only [Option.toList, List.cons_append, List.nil_append, exN, ex1, gI, gL, gR, pI, pL, pR, lget, lset1, lset2, kl, b2I, b2L, nob, ob32, ob64, xGet, xPut, xLen, xLd, xLdR, xSt, obA, true_and, and_true, and_self, eq_self, Nat.reduceEqDiff, Nat.zero_ne_one, reduceIte, Nat.reduceLeDiff, and_false, false_and, show skd 0 1 = 0 from rfl, hB.1, k1', upd2_eq, Int.reduceToNat, Int.toNat_natCast]; rfl) (by first | exact trivial | exact Or.inr rfl | exact Or.inl rfl | (simp only [ob, obA, R32, R64] at *; omega) | (simp only [ob, obA, R32, R64] at *; and_intros <;> omega) | (simp [ob, obA])) ?_
            refine V_icmpge dX11_shares_47 (tgt := 83) (by decide) (by simp only [R32, R64] at *; omega) (fun q47 => ?_) (fun q47 => ?_)
            · refine V_ex sX11_shares_83 (by simp only [Option.toList, List.cons_append, List.nil_append, exN, ex1, gI, gL, gR, pI, pL, pR, lget, lset1, lset2, kl, b2I, b2L, nob, ob32, ob64, xGet, xPut, xLen, xLd, xLdR, xSt, obA, true_and, and_true, and_self, eq_self, Nat.reduceEqDiff, Nat.zero_ne_one, reduceIte, Nat.reduceLeDiff, and_false, false_and, show skd 10 13 = 2 from rfl, show LF.1 1 = some (.inl 10) from rfl, show LF.2 1 13 = some 135 from rfl, hB.1, k1', upd2_eq, Int.reduceToNat, Int.toNat_natCast]; rfl) (by first | exact trivial | exact Or.inr rfl | exact Or.inl rfl | (simp only [ob, obA, R32, R64] at *; omega) | (simp only [ob, obA, R32, R64] at *; and_intros <;> omega) | (simp [ob, obA])) ?_
              refine V_callV (M := MX11_shares) (N := MX6_share) dX11_shares_87 lRX11_440 kX6_share rfl (rfl) rfl (hSh) rfl rfl (Nat.le_of_ble_eq_true rfl) (fit_rm (by omega)) (⟨Nat.le_of_ble_eq_true rfl, Nat.le_of_ble_eq_true rfl⟩) (fun v Ω' hp => ?_) (fun _ _ h => h.elim)
              obtain ⟨rfl, G2, rfl, f2, e8, er⟩ := hp
              refine V_ex sX11_shares_90 (by rfl) (by first | exact trivial | exact Or.inr rfl | exact Or.inl rfl | (simp only [ob, obA, R32, R64] at *; omega) | (simp only [ob, obA, R32, R64] at *; and_intros <;> omega) | (simp [ob, obA])) ?_
              refine V_lret dX11_shares_91 rfl (by decide) ?_
              
              rw [e]
              refine ⟨rfl, rfl, G2, s, rfl, ?_, ?_⟩
              · have hG2 : ∀ x j, x < 145 → x ≠ s + 6 → x ≠ 128 → ¬ (x = s ∧ j = 10) → x ≠ 135 → x ≠ 136 → x ≠ 137 → x ≠ 138 → x ≠ 139 → G2.1 x j = G.1 x j := fun x y a b c d e f g h i => by
                  rw [f2.2 x (by simp; omega)]; exact f1.2 x y b c d (by omega) f
                refine RC_k hC hI.1 (by rw [f2.1, f1.1]) (fun x y a b c d e f => ?_) ?_ ?_ ?_ ?_ ?_ ?_
                · by_cases h5 : x = 135
                  · subst h5; exact absurd (Or.inr (Or.inr (Or.inr (Or.inr (Or.inr (Or.inr (Or.inl ⟨rfl, fun q => c ⟨rfl, q⟩⟩))))))) b
                  · unfold sc at b; exact hG2 x y a (by omega) (by omega) (by omega) h5 (by omega) (by omega) (by omega) d
                · exact cacheC_c n1.2.2.2.2.2 (f2.2 128 (by decide))
                · intro y; rw [f2.2 136 (by decide)]; exact b5 y
                · intro y; rw [hG2 142 y (by omega) (by omega) (by omega) (by omega) (by omega) (by omega) (by omega) (by omega) (by omega)]; exact hC.2.2.2.2.2.2.2.2.2.2.2.2.1 y
                · intro y; rw [hG2 141 y (by omega) (by omega) (by omega) (by omega) (by omega) (by omega) (by omega) (by omega) (by omega)]; exact hC.2.2.2.2.2.2.2.2.2.2.2.2.2 y
                · exact ⟨by rw [e8, List.length_map, hbk.1], rowIs_kp er⟩
                · rw [hG2 140 5 (by omega) (by omega) (by omega) (by omega) (by omega) (by omega) (by omega) (by omega) (by omega)]
                  exact kpO_c hC.2.2.2.2.2.2.2.2.2.2.1 (funext fun y => hG2 144 y (by omega) (by omega) (by omega) (by omega) (by omega) (by omega) (by omega) (by omega) (by omega))
              · exact ⟨fun x a => by rw [f2.2 x (by simp; omega)]; exact funext fun y => f1.2 x y (by omega) (by omega) (by omega) (by omega) (by omega), fun x _ => by rw [f2.1, f1.1]⟩
            · omega
          | succ k ih =>
            intro m mm G1 hmk hmm f1 n1 o1
            subst hmm
            obtain ⟨-, -, -, k0', k2', k1', -, kg'⟩ := NC_b n1 hj
            have hz := lfB_R hok (i := (m : Int)) (by omega)
            have hH := c_has (κ := κ) hκ (d := 29) (leaf := (m : Int)) (G := G1) hB.2.2.1 (by unfold R32; omega)
            rw [kg'.2 (m : Int)] at hH
            have hs := wsL_s (S := A.1) (j := j) (n := m)
            refine V_ex sX11_shares_41 (by simp only [Option.toList, List.cons_append, List.nil_append, exN, ex1, gI, gL, gR, pI, pL, pR, lget, lset1, lset2, kl, b2I, b2L, nob, ob32, ob64, xGet, xPut, xLen, xLd, xLdR, xSt, obA, true_and, and_true, and_self, eq_self, Nat.reduceEqDiff, Nat.zero_ne_one, reduceIte, Nat.reduceLeDiff, and_false, false_and, show skd 0 1 = 0 from rfl, hB.1, k1', upd2_eq, Int.reduceToNat, Int.toNat_natCast]; rfl) (by first | exact trivial | exact Or.inr rfl | exact Or.inl rfl | (simp only [ob, obA, R32, R64] at *; omega) | (simp only [ob, obA, R32, R64] at *; and_intros <;> omega) | (simp [ob, obA])) ?_
            refine V_icmpge dX11_shares_47 (tgt := 83) (by decide) (by simp only [R32, R64] at *; omega) (fun q47 => ?_) (fun q47 => ?_)
            · omega
            · refine V_ex sX11_shares_50 (by simp only [Option.toList, List.cons_append, List.nil_append, exN, ex1, gI, gL, gR, pI, pL, pR, lget, lset1, lset2, kl, b2I, b2L, nob, ob32, ob64, xGet, xPut, xLen, xLd, xLdR, xSt, obA, true_and, and_true, and_self, eq_self, Nat.reduceEqDiff, Nat.zero_ne_one, reduceIte, Nat.reduceLeDiff, and_false, false_and, show skd 0 5 = 2 from rfl, hB.1, hB.2.1, hB.1, k1', upd2_eq, Int.reduceToNat, Int.toNat_natCast]; rfl) (by first | exact trivial | exact Or.inr rfl | exact Or.inl rfl | (simp only [ob, obA, R32, R64] at *; omega) | (simp only [ob, obA, R32, R64] at *; and_intros <;> omega) | (simp [ob, obA])) ?_
              refine V_callV (M := MX11_shares) (N := MX5_has) dX11_shares_56 lRX11_202 kX5_has rfl (hB.2.2.1.1) rfl (hH) rfl rfl (Nat.le_of_ble_eq_true rfl) (fit_rm (by omega)) (⟨Nat.le_of_ble_eq_true rfl, Nat.le_of_ble_eq_true rfl⟩) (fun v Ω' hp => ?_) (fun _ _ h => h.elim)
              obtain ⟨rfl, rfl⟩ := hp
              refine V_ifneB dX11_shares_59 (tgt := 77) (by decide) (fun q59 => ?_) (fun q59 => ?_)
              · refine V_ex sX11_shares_77 (by rfl) (by first | exact trivial | exact Or.inr rfl | exact Or.inl rfl | (simp only [ob, obA, R32, R64] at *; omega) | (simp only [ob, obA, R32, R64] at *; and_intros <;> omega) | (simp [ob, obA])) ?_
                refine V_goto dX11_shares_80 (tgt := 41) (by decide) ?_
                exact ih (m + 1) ((m : Int) + 1) G1 (by omega) (by omega) f1 n1 (by rw [hs, if_pos (of_decide_eq_true q59)]; exact o1)
              · refine V_ex sX11_shares_62 (by simp only [Option.toList, List.cons_append, List.nil_append, exN, ex1, gI, gL, gR, pI, pL, pR, lget, lset1, lset2, kl, b2I, b2L, nob, ob32, ob64, xGet, xPut, xLen, xLd, xLdR, xSt, obA, true_and, and_true, and_self, eq_self, Nat.reduceEqDiff, Nat.zero_ne_one, reduceIte, Nat.reduceLeDiff, and_false, false_and, show skd 10 13 = 2 from rfl, show LF.1 1 = some (.inl 10) from rfl, show LF.2 1 13 = some 135 from rfl, hB.1, k1', upd2_eq, Int.reduceToNat, Int.toNat_natCast]; rfl) (by first | exact trivial | exact Or.inr rfl | exact Or.inl rfl | (simp only [ob, obA, R32, R64] at *; omega) | (simp only [ob, obA, R32, R64] at *; and_intros <;> omega) | (simp [ob, obA])) ?_
                refine V_callV (M := MX11_shares) (N := MX11_leafSum) dX11_shares_71 lRX11_239 kX11_leafSum rfl (rfl) rfl (c_leafS (d := 29) hκ n1 hj (i := m) (by omega) (by omega)) rfl rfl (Nat.le_of_ble_eq_true rfl) (fit_rm (by omega)) (⟨Nat.le_of_ble_eq_true rfl, Nat.le_of_ble_eq_true rfl⟩) (fun v Ω' hp => ?_) (fun _ _ h => h.elim)
                obtain ⟨rfl, G2, rfl, f2, n2⟩ := hp
                have o2 : ofW G2 (wsL A.1 j m) c := by
                  obtain ⟨b1, b2, b3, b4, b5⟩ := o1
                  have e5 : ∀ y, G2.1 135 y = G1.1 135 y := fun y => f2.2 _ _ (by omega) (by omega) (by omega)
                  have e6 : ∀ y, G2.1 136 y = G1.1 136 y := fun y => f2.2 _ _ (by omega) (by omega) (by omega)
                  exact ⟨by rw [e5]; exact b1, by rw [e5]; exact b2, by rw [e5]; exact b3, fun y hy => by rw [e6]; exact b4 y hy, fun y => by rw [e6]; exact b5 y⟩
                have hmn : wsL A.1 j (m + 1) = wsL A.1 j m ++ [lfB (cdS A.1) (bkJ A.1 j) (m : Int)] := by rw [hs, if_neg (of_decide_eq_false q59)]
                have hlm := hW10 (m + 1) (by omega)
                have hlm2 : (wsL A.1 j m).length < 10 := by rw [hmn, List.length_append, List.length_singleton] at hlm; omega
                have o3 := ofW_add o2 hz
                have hOf := c_shOffer (κ := κ) hκ (d := 29) (z := lfB (cdS A.1) (bkJ A.1 j) (m : Int)) (G := G2) ⟨by rw [o2.1]; omega, by rw [o2.1]; omega⟩ (by omega)
                rw [← hmn] at o3
                have f3 : ShN s G (offW G2 (lfB (cdS A.1) (bkJ A.1 j) (m : Int))) := (f1.trans (ShN.n f2)).trans ⟨rfl, fun x y _ _ _ h5 h6 => by simp only [upd2_eq]; rw [if_neg (by omega), if_neg (by omega), if_neg (by omega)]⟩
                have n3 : NC (offW G2 (lfB (cdS A.1) (bkJ A.1 j) (m : Int))) s A.1 := NC_f n2 rfl (fun x hx => by funext y; simp only [upd2_eq]; rw [if_neg (by omega), if_neg (by omega), if_neg (by omega)])
                refine V_callV (M := MX11_shares) (N := MX6_offer) dX11_shares_74 lRX11_437 kX6_offer rfl (rfl) rfl (hOf) rfl rfl (Nat.le_of_ble_eq_true rfl) (fit_rm (by omega)) (⟨Nat.le_of_ble_eq_true rfl, Nat.le_of_ble_eq_true rfl⟩) (fun v Ω' hp => ?_) (fun _ _ h => h.elim)
                obtain ⟨rfl, rfl⟩ := hp
                refine V_ex sX11_shares_77 (by rfl) (by first | exact trivial | exact Or.inr rfl | exact Or.inl rfl | (simp only [ob, obA, R32, R64] at *; omega) | (simp only [ob, obA, R32, R64] at *; and_intros <;> omega) | (simp [ob, obA])) ?_
                refine V_goto dX11_shares_80 (tgt := 41) (by decide) ?_
                exact ih (m + 1) ((m : Int) + 1) _ (by omega) (by omega) f3 n3 o3
        refine V_ex sX11_shares_0 (by rfl) (by first | exact trivial | exact Or.inr rfl | exact Or.inl rfl | (simp only [ob, obA, R32, R64] at *; omega) | (simp only [ob, obA, R32, R64] at *; and_intros <;> omega) | (simp [ob, obA])) ?_
        refine V_callV (M := MX11_shares) (N := MX11_needBook) dX11_shares_2 lRX11_154 kX11_needBook rfl (rfl) rfl (c_nBook (d := 29) hκ hN hi (by omega)) rfl rfl (Nat.le_of_ble_eq_true rfl) (fit_rm (by omega)) (⟨Nat.le_of_ble_eq_true rfl, Nat.le_of_ble_eq_true rfl⟩) (fun v Ω' hp => ?_) (fun E Ω' h => absurd hin h.1)
        obtain ⟨-, rfl, rfl⟩ := hp
        rw [Int.toNat_natCast]
        refine V_ex sX11_shares_5 (by rfl) (by first | exact trivial | exact Or.inr rfl | exact Or.inl rfl | (simp only [ob, obA, R32, R64] at *; omega) | (simp only [ob, obA, R32, R64] at *; and_intros <;> omega) | (simp [ob, obA])) ?_
        refine V_callS (M := MX11_shares) (N := MX11_needWithin) dX11_shares_14 lRX11_281 kX11_needWithin rfl (c_needWithin (d := 29) hκ (by unfold R64; omega) (by unfold R64; omega) (by unfold R64; omega) (by omega)) rfl rfl (Nat.le_of_ble_eq_true rfl) (fit_rm (by omega)) (⟨Nat.le_of_ble_eq_true rfl, Nat.le_of_ble_eq_true rfl⟩) (fun v Ω' hp => ?_) (fun E Ω' h => absurd hk2 h.1)
        obtain ⟨-, rfl, rfl⟩ := hp
        refine V_ex sX11_shares_17 (by rfl) (by first | exact trivial | exact Or.inr rfl | exact Or.inl rfl | (simp only [ob, obA, R32, R64] at *; omega) | (simp only [ob, obA, R32, R64] at *; and_intros <;> omega) | (simp [ob, obA])) ?_
        refine V_callV (M := MX11_shares) (N := MX0_there) dX11_shares_18 lRX11_285 kX0_there rfl (hB.1) rfl (hTh) rfl rfl (Nat.le_of_ble_eq_true rfl) (fit_rm (by omega)) (⟨Nat.le_of_ble_eq_true rfl, Nat.le_of_ble_eq_true rfl⟩) (fun v Ω' hp => ?_) (fun _ _ h => h.elim)
        obtain ⟨rfl, rfl⟩ := hp
        refine V_ex sX11_shares_21 (by rfl) (by first | exact trivial | exact Or.inr rfl | exact Or.inl rfl | (simp only [ob, obA, R32, R64] at *; omega) | (simp only [ob, obA, R32, R64] at *; and_intros <;> omega) | (simp [ob, obA])) ?_
        refine V_icmple dX11_shares_23 (tgt := 30) (by decide) (by simp only [R32, R64] at *; omega) (fun q23 => ?_) (fun q23 => ?_)
        · refine V_ex sX11_shares_30 (by simp only [Option.toList, List.cons_append, List.nil_append, exN, ex1, gI, gL, gR, pI, pL, pR, lget, lset1, lset2, kl, b2I, b2L, nob, ob32, ob64, xGet, xPut, xLen, xLd, xLdR, xSt, obA, true_and, and_true, and_self, eq_self, Nat.reduceEqDiff, Nat.zero_ne_one, reduceIte, Nat.reduceLeDiff, and_false, false_and, show skd 10 13 = 2 from rfl, show LF.1 1 = some (.inl 10) from rfl, show LF.2 1 13 = some 135 from rfl, upd2_eq, Int.reduceToNat, Int.toNat_natCast]; rfl) (by first | exact trivial | exact Or.inr rfl | exact Or.inl rfl | (simp only [ob, obA, R32, R64] at *; omega) | (simp only [ob, obA, R32, R64] at *; and_intros <;> omega) | (simp [ob, obA])) ?_
          refine V_callV (M := MX11_shares) (N := MX6_open) dX11_shares_35 lRX11_434 kX6_open rfl (rfl) rfl (c_shOpen hκ) rfl rfl (Nat.le_of_ble_eq_true rfl) (fit_rm (by omega)) (⟨Nat.le_of_ble_eq_true rfl, Nat.le_of_ble_eq_true rfl⟩) (fun v Ω' hp => ?_) (fun _ _ h => h.elim)
          obtain ⟨rfl, rfl⟩ := hp
          refine V_ex sX11_shares_38 (by rfl) (by first | exact trivial | exact Or.inr rfl | exact Or.inl rfl | (simp only [ob, obA, R32, R64] at *; omega) | (simp only [ob, obA, R32, R64] at *; and_intros <;> omega) | (simp [ob, obA])) ?_
          exact L n 0 0 (uI (uI (uI G 135 2 (c : Nat)) 135 1 0) 135 3 0) (by omega) rfl ⟨rfl, fun x y _ _ _ h5 h6 => by simp only [upd2_eq]; rw [if_neg (by omega), if_neg (by omega), if_neg (by omega)]⟩ (NC_f hN rfl (fun x hx => by funext y; simp only [upd2_eq]; rw [if_neg (by omega), if_neg (by omega), if_neg (by omega)])) ⟨by simp [upd2_eq]; rfl, by simp [upd2_eq], by simp [upd2_eq]; rfl, fun k h => absurd h (Nat.not_lt_zero _), fun y => by simp only [upd2_eq]; rw [if_neg (by omega), if_neg (by omega), if_neg (by omega)]; exact hC.2.2.2.2.2.2.2.2.2.2.2.1 y⟩
        · omega
    · have e : sharesP A (j : Nat) ch = (2, 0, A) := by unfold sharesP; rw [if_neg (fun h => h hin), if_pos hk2]
      refine V_ex sX11_shares_0 (by rfl) (by first | exact trivial | exact Or.inr rfl | exact Or.inl rfl | (simp only [ob, obA, R32, R64] at *; omega) | (simp only [ob, obA, R32, R64] at *; and_intros <;> omega) | (simp [ob, obA])) ?_
      refine V_callV (M := MX11_shares) (N := MX11_needBook) dX11_shares_2 lRX11_154 kX11_needBook rfl (rfl) rfl (c_nBook (d := 29) hκ hN hi (by omega)) rfl rfl (Nat.le_of_ble_eq_true rfl) (fit_rm (by omega)) (⟨Nat.le_of_ble_eq_true rfl, Nat.le_of_ble_eq_true rfl⟩) (fun v Ω' hp => ?_) (fun E Ω' h => absurd hin h.1)
      obtain ⟨-, rfl, rfl⟩ := hp
      rw [Int.toNat_natCast]
      refine V_ex sX11_shares_5 (by rfl) (by first | exact trivial | exact Or.inr rfl | exact Or.inl rfl | (simp only [ob, obA, R32, R64] at *; omega) | (simp only [ob, obA, R32, R64] at *; and_intros <;> omega) | (simp [ob, obA])) ?_
      refine V_callS (M := MX11_shares) (N := MX11_needWithin) dX11_shares_14 lRX11_281 kX11_needWithin rfl (c_needWithin (d := 29) hκ (by unfold R32 at hch; unfold R64; omega) (by unfold R64; omega) (by unfold R64; omega) (by omega)) rfl rfl (Nat.le_of_ble_eq_true rfl) (fit_rm (by omega)) (⟨Nat.le_of_ble_eq_true rfl, Nat.le_of_ble_eq_true rfl⟩) (fun v Ω' hp => ?_) (fun E Ω' h => ⟨by rw [h.2.1, h.2.2]; exact cX2_2 hC (by rw [e]), rfl, Nat.le_of_ble_eq_true rfl, Nat.le_of_ble_eq_true rfl⟩)
      skip
      exact absurd hp.1 hk2
  · have e : sharesP A i ch = (1, 0, A) := by unfold sharesP; rw [if_pos hin]
    refine V_ex sX11_shares_0 (by rfl) (by first | exact trivial | exact Or.inr rfl | exact Or.inl rfl | (simp only [ob, obA, R32, R64] at *; omega) | (simp only [ob, obA, R32, R64] at *; and_intros <;> omega) | (simp [ob, obA])) ?_
    refine V_callV (M := MX11_shares) (N := MX11_needBook) dX11_shares_2 lRX11_154 kX11_needBook rfl (rfl) rfl (c_nBook (d := 29) hκ hN hi (by omega)) rfl rfl (Nat.le_of_ble_eq_true rfl) (fit_rm (by omega)) (⟨Nat.le_of_ble_eq_true rfl, Nat.le_of_ble_eq_true rfl⟩) (fun v Ω' hp => ?_) (fun E Ω' h => ⟨by rw [h.2.1, h.2.2]; exact cX2_1 hC (by rw [e]), rfl, Nat.le_of_ble_eq_true rfl, Nat.le_of_ble_eq_true rfl⟩)
    skip
    exact absurd hp.1 hin
