/-! TornLeaves: whole, bought -/
theorem uv {f : Nat → Nat → Int} {a k b j : Nat} {z : Int} (h : ¬ (b = a ∧ j = k)) : upd2 f a k z b j = f b j := by rw [upd2_eq, if_neg h]
def bitsN (n : Nat) : Nat := ((List.range 8).filter (fun i => n.testBit i)).length
def bcE (x : Int) : Int :=
  (fun a => (fun b => (fun c => (fun e => (fun g => iAnd g 63) (e + iUsh e 16)) (c + iUsh c 8)) (iAnd (b + iUsh b 4) 252645135)) (iAnd a 858993459 + iAnd (iUsh a 2) 858993459)) (x - iAnd (iUsh x 1) 1431655765)
theorem bc_ok : ∀ n, n < 256 → bcE (n : Nat) = (bitsN n : Nat) := by decide +kernel
theorem bitsN_le : ∀ n, n < 256 → bitsN n ≤ 8 := by decide +kernel
set_option maxRecDepth 100000 in
set_option maxHeartbeats 4000000 in
theorem c_bitCount {κ : Kx} (hκ : KOK κ) {d n : Nat} {G : Wd} (hn : n < 256) : Ct κ MJ6_bitCount_0f7a4 d 0 0 [VI (n : Nat)] (Wm G) (keepG G (VI (bitsN n : Nat))) noX := by
  refine Ct_of hκ kJ6_bitCount_0f7a4.1 rfl (Nat.le_of_ble_eq_true rfl) (ls := [some (VI (n : Nat))]) rfl (fun μ => ?_)
  refine V_ex sJ6_bitCount_0f7a4_0 (by rfl) (by first | exact trivial | exact Or.inr rfl | exact Or.inl rfl | (simp only [ob, obA, R32, R64] at *; omega) | (simp only [ob, obA, R32, R64] at *; and_intros <;> omega) | (simp [ob, obA])) ?_
  refine V_iret dJ6_bitCount_0f7a4_52 rfl (by decide) ⟨viE (bc_ok n hn), rfl⟩
/-- the copies of book b that have leaf l, as bits -/
def cwP (cp : List (Int × List Int)) (b l : Int) : Nat → Nat → Int → Int
  | 0, _, w => w
  | k + 1, c, w => cwP cp b l k (c + 1) (if (cp.getD c (0, [])).1 = b ∧ l ∉ (cp.getD c (0, [])).2 then iOr w (iShl 1 (c : Nat)) else w)
def hvI (S : Sh) (b l : Int) : Int := cwP S.2.1 b l S.2.1.length 0 0
theorem cwB_P {G : Wd} {s : Nat} {S : Sh} (h : ShC G s S) {b l : Int} : ∀ (k c : Nat) (w : Int), c + k ≤ S.2.1.length → cwB G s b l k c w = cwP S.2.1 b l k c w := by
  intro k
  induction k with
  | zero => intro c w _; rfl
  | succ k ih =>
    intro c w hc
    have hcl : c < S.2.1.length := by omega
    obtain ⟨q1, q2⟩ := h.2.2.2.1 c hcl
    rw [cwB, cwP, ih (c + 1) _ (by omega), q1, q2.2 l, List.getD_eq_getElem?_getD, List.getElem?_eq_getElem hcl, Option.getD_some]
    congr 1
    by_cases c1 : (S.2.1[c]'hcl).1 = b
    · by_cases c2 : l ∈ (S.2.1[c]'hcl).2
      · rw [if_neg (by simp [c2]), if_neg (fun q => q.2 c2)]
      · rw [if_pos ⟨c1, by simp [c2]⟩, if_pos ⟨c1, c2⟩]
    · rw [if_neg (fun q => c1 q.1), if_neg (fun q => c1 q.1)]
/-- the leaves gone below n, rising -/
def glL (g : List Int) : Nat → List Int
  | 0 => []
  | n + 1 => glL g n ++ if (n : Int) ∈ g then [(n : Int)] else []
theorem glL_mem {g : List Int} : ∀ (n : Nat) (z : Int), z ∈ glL g n ↔ z ∈ g ∧ 0 ≤ z ∧ z < n := by
  intro n
  induction n with
  | zero => intro z; simp [glL]; try omega
  | succ n ih =>
    intro z
    rw [glL, List.mem_append, ih]
    by_cases c : (n : Int) ∈ g
    · rw [if_pos c, List.mem_singleton]
      constructor
      · rintro (⟨a, b, e⟩ | a)
        · exact ⟨a, b, by omega⟩
        · subst a; exact ⟨c, by omega, by omega⟩
      · rintro ⟨a, b, e⟩
        by_cases q : z = (n : Int)
        · exact Or.inr q
        · exact Or.inl ⟨a, b, by omega⟩
    · rw [if_neg c]
      constructor
      · rintro (⟨a, b, e⟩ | a)
        · exact ⟨a, b, by omega⟩
        · cases a
      · rintro ⟨a, b, e⟩
        exact Or.inl ⟨a, b, by have : z ≠ (n : Int) := fun q => c (q ▸ a); omega⟩
theorem glL_nd {g : List Int} : ∀ (n : Nat), (glL g n).Nodup := by
  intro n
  induction n with
  | zero => simp [glL]
  | succ n ih =>
    rw [glL]
    refine List.nodup_append.mpr ⟨ih, by split <;> simp, fun x hx y hy e => ?_⟩
    have := ((glL_mem n x).mp hx).2.2
    split at hy
    · rw [List.mem_singleton] at hy; omega
    · cases hy
theorem glL_len {g : List Int} (n : Nat) : (glL g n).length ≤ g.length := nodup_le (glL_nd n) (fun x hx => ((glL_mem n x).mp hx).1)
def hvL (S : Sh) (j n : Nat) : List Int := (glL (bkJ S j).2.2.2.2.2 n).map (fun l => hvI S (j : Int) l)
def FH (G G' : Wd) : Prop := G'.2 = G.2 ∧ ∀ x j, x ≠ 129 → G'.1 x j = G.1 x j
theorem NC_h {G G' : Wd} {s : Nat} {S : Sh} (h : NC G s S) (f : FH G G') : NC G' s S := by
  obtain ⟨h1, h2, h3, h4, h5, h6⟩ := h
  have hs : s = 8 ∨ s = 61 := h2
  exact ⟨by rw [f.1]; exact h1, h2, ShC_same h3 (fun x j a b => f.2 x j (by omega)) h4.2.2.1 h4.1, h4, fun j => by rw [f.2 _ _ (by omega)]; exact h5 j, cacheC_c h6 (by funext j; exact f.2 _ _ (by omega))⟩
set_option maxRecDepth 100000 in
set_option maxHeartbeats 4000000 in
theorem c_havers {κ : Kx} (hκ : KOK κ) {d s j : Nat} {S : Sh} {G : Wd} (hN : NC G s S) (hRc : ∀ y, R32 (G.1 (s + 2) y)) (hj : j < S.1.length) (hd : 6 ≤ d) : Ct κ MX11_findHavers d 0 0 [VR 1, VI (j : Nat), VR (s + 7 + 5 * j)] (Wm G) (fun v Ω' => v = some (VI ((hvL S j (bkJ S j).2.2.1.toNat).length : Nat)) ∧ ∃ G', Ω' = Wm G' ∧ FH G G' ∧ ∀ i (h : i < (hvL S j (bkJ S j).2.2.1.toNat).length), G'.1 129 i = (hvL S j (bkJ S j).2.2.1.toNat)[i]'h) noX := by
  refine Ct_of hκ kX11_findHavers.1 rfl (Nat.le_of_ble_eq_true rfl) (ls := [some (VR 1), some (VI (j : Nat)), some (VR (s + 7 + 5 * j)), none, none]) rfl (fun μ => ?_)
  obtain ⟨hB, hj6, hok, -⟩ := NC_b hN hj
  have hlv := hok.2.2.2.1
  have h60 := hok.2.2.2.2.2.2.2.1
  have hs8 : s = 8 ∨ s = 61 := hN.2.1
  have L : ∀ (k n : Nat) (nn mm : Int) (G1 : Wd), n + k = (bkJ S j).2.2.1.toNat → nn = (n : Int) → mm = ((hvL S j n).length : Nat) → FH G G1 → (∀ i (h : i < (hvL S j n).length), G1.1 129 i = (hvL S j n)[i]'h) → V κ MX11_findHavers (rmD d 0 0) (fun v Ω' => v = some (VI ((hvL S j (bkJ S j).2.2.1.toNat).length : Nat)) ∧ ∃ G', Ω' = Wm G' ∧ FH G G' ∧ ∀ i (h : i < (hvL S j (bkJ S j).2.2.1.toNat).length), G'.1 129 i = (hvL S j (bkJ S j).2.2.1.toNat)[i]'h) noX 0 0 μ 0 0 (Wm (G1)) 5 [some (VR 1), some (VI (j : Nat)), some (VR (s + 7 + 5 * j)), some (VI mm), some (VI nn)] [] := by
    intro k
    induction k with
    | zero =>
      intro n nn mm G1 hnk hnn hmm f1 hv
      subst hmm
      obtain ⟨-, -, -, k0, k2, k1, -, kg⟩ := NC_b (NC_h hN f1) hj
      obtain rfl : n = (bkJ S j).2.2.1.toNat := by omega
      refine V_ex sX11_findHavers_5 (by simp only [Option.toList, List.cons_append, List.nil_append, exN, ex1, gI, gL, gR, pI, pL, pR, lget, lset1, lset2, kl, b2I, b2L, nob, ob32, ob64, xGet, xPut, xLen, xLd, xLdR, xSt, obA, true_and, and_true, and_self, eq_self, Nat.reduceEqDiff, Nat.zero_ne_one, reduceIte, Nat.reduceLeDiff, and_false, false_and, show skd 0 1 = 0 from rfl, hB.1, k1, upd2_eq, Int.reduceToNat, Int.toNat_natCast]; rfl) (by first | exact trivial | exact Or.inr rfl | exact Or.inl rfl | (simp only [ob, obA, R32, R64] at *; omega) | (simp only [ob, obA, R32, R64] at *; and_intros <;> omega) | (simp [ob, obA])) ?_
      refine V_icmpge dX11_findHavers_11 (tgt := 53) (by decide) (by simp only [R32, R64] at *; omega) (fun q11 => ?_) (fun q11 => ?_)
      · refine V_ex sX11_findHavers_53 (by rfl) (by first | exact trivial | exact Or.inr rfl | exact Or.inl rfl | (simp only [ob, obA, R32, R64] at *; omega) | (simp only [ob, obA, R32, R64] at *; and_intros <;> omega) | (simp [ob, obA])) ?_
        refine V_iret dX11_findHavers_54 rfl (by decide) ⟨rfl, G1, rfl, f1, hv⟩
      · omega
    | succ k ih =>
      intro n nn mm G1 hnk hnn hmm f1 hv
      subst hnn hmm
      have n1 := NC_h hN f1
      obtain ⟨-, -, -, k0, k2, k1, -, kg⟩ := NC_b n1 hj
      have hH := c_has (κ := κ) hκ (d := 3) (leaf := (n : Int)) (G := G1) hB.2.2.1 (by unfold R32; omega)
      rw [kg.2 (n : Int)] at hH
      have hc8 := n1.2.2.2.1.2.2.1
      have hCw := c_copiesWith (κ := κ) hκ (d := 5) (s := s) (b := (j : Int)) (l := (n : Int)) (G := G1) hN.2.1 (by unfold R32; omega) (by unfold R32; omega) (fun y => by rw [f1.2 _ _ (by omega)]; exact hRc y) (by rw [n1.2.2.1.2.2.1]; omega) (by omega)
      rw [n1.2.2.1.2.2.1, Int.toNat_natCast, cwB_P n1.2.2.1 _ _ _ (by omega)] at hCw
      have hlen : (hvL S j n).length < 60 ∨ ¬ (n : Int) ∈ (bkJ S j).2.2.2.2.2 := by
        by_cases c : (n : Int) ∈ (bkJ S j).2.2.2.2.2
        · refine Or.inl ?_
          have := glL_len (g := (bkJ S j).2.2.2.2.2) (n + 1)
          rw [glL, if_pos c, List.length_append] at this
          unfold hvL
          rw [List.length_map]
          simp only [List.length_singleton] at this
          omega
        · exact Or.inr c
      have hs : hvL S j (n + 1) = hvL S j n ++ if (n : Int) ∈ (bkJ S j).2.2.2.2.2 then [hvI S (j : Int) (n : Int)] else [] := by
        unfold hvL
        rw [glL, List.map_append]
        split <;> rfl
      have hvd : hvI S (j : Int) (n : Int) = cwP S.2.1 (j : Int) (n : Int) S.2.1.length 0 0 := rfl
      rw [← hvd] at hCw
      generalize hvI S (j : Int) (n : Int) = z at *
      have hlen6 := glL_len (g := (bkJ S j).2.2.2.2.2) n
      have hlenE : (hvL S j n).length = (glL (bkJ S j).2.2.2.2.2 n).length := by unfold hvL; rw [List.length_map]
      have hmR : R32 (((hvL S j n).length : Nat) : Int) := by unfold R32; omega
      generalize hLL : hvL S j n = HL at *
      have r1 : G1.2.2 1 3 = s := n1.1
      refine V_ex sX11_findHavers_5 (by simp only [Option.toList, List.cons_append, List.nil_append, exN, ex1, gI, gL, gR, pI, pL, pR, lget, lset1, lset2, kl, b2I, b2L, nob, ob32, ob64, xGet, xPut, xLen, xLd, xLdR, xSt, obA, true_and, and_true, and_self, eq_self, Nat.reduceEqDiff, Nat.zero_ne_one, reduceIte, Nat.reduceLeDiff, and_false, false_and, show skd 0 1 = 0 from rfl, hB.1, k1, upd2_eq, Int.reduceToNat, Int.toNat_natCast]; rfl) (by first | exact trivial | exact Or.inr rfl | exact Or.inl rfl | (simp only [ob, obA, R32, R64] at *; omega) | (simp only [ob, obA, R32, R64] at *; and_intros <;> omega) | (simp [ob, obA])) ?_
      refine V_icmpge dX11_findHavers_11 (tgt := 53) (by decide) (by simp only [R32, R64] at *; omega) (fun q11 => ?_) (fun q11 => ?_)
      · omega
      · refine V_ex sX11_findHavers_14 (by simp only [Option.toList, List.cons_append, List.nil_append, exN, ex1, gI, gL, gR, pI, pL, pR, lget, lset1, lset2, kl, b2I, b2L, nob, ob32, ob64, xGet, xPut, xLen, xLd, xLdR, xSt, obA, true_and, and_true, and_self, eq_self, Nat.reduceEqDiff, Nat.zero_ne_one, reduceIte, Nat.reduceLeDiff, and_false, false_and, show skd 0 5 = 2 from rfl, hB.1, hB.2.1, hB.1, k1, upd2_eq, Int.reduceToNat, Int.toNat_natCast]; rfl) (by first | exact trivial | exact Or.inr rfl | exact Or.inl rfl | (simp only [ob, obA, R32, R64] at *; omega) | (simp only [ob, obA, R32, R64] at *; and_intros <;> omega) | (simp [ob, obA])) ?_
        refine V_callV (M := MX11_findHavers) (N := MX5_has) dX11_findHavers_20 lRX11_202 kX5_has rfl (hB.2.2.1.1) rfl (hH) rfl rfl (Nat.le_of_ble_eq_true rfl) (fit_rm (by omega)) (⟨Nat.le_of_ble_eq_true rfl, Nat.le_of_ble_eq_true rfl⟩) (fun v Ω' hp => ?_) (fun _ _ h => h.elim)
        obtain ⟨rfl, rfl⟩ := hp
        refine V_ifeqB dX11_findHavers_23 (tgt := 47) (by decide) (fun q23 => ?_) (fun q23 => ?_)
        · refine V_ex sX11_findHavers_47 (by rfl) (by first | exact trivial | exact Or.inr rfl | exact Or.inl rfl | (simp only [ob, obA, R32, R64] at *; omega) | (simp only [ob, obA, R32, R64] at *; and_intros <;> omega) | (simp [ob, obA])) ?_
          refine V_goto dX11_findHavers_50 (tgt := 5) (by decide) ?_
          have e : hvL S j (n + 1) = HL := by rw [hs, if_neg (of_decide_eq_false q23), List.append_nil]
          exact ih (n + 1) ((n : Int) + 1) _ G1 (by omega) (by omega) (by rw [e]) f1 (fun i hi => by simp only [e] at hi ⊢; exact hv i hi)
        · refine V_ex sX11_findHavers_26 (by simp only [Option.toList, List.cons_append, List.nil_append, exN, ex1, gI, gL, gR, pI, pL, pR, lget, lset1, lset2, kl, b2I, b2L, nob, ob32, ob64, xGet, xPut, xLen, xLd, xLdR, xSt, obA, true_and, and_true, and_self, eq_self, Nat.reduceEqDiff, Nat.zero_ne_one, reduceIte, Nat.reduceLeDiff, and_false, false_and, show skd 10 10 = 2 from rfl, show skd 10 3 = 3 from rfl, show LF.1 1 = some (.inl 10) from rfl, show LF.2 1 10 = some 129 from rfl, r1, hB.1, k1, upd2_eq, Int.reduceToNat, Int.toNat_natCast]; rfl) (by first | exact trivial | exact Or.inr rfl | exact Or.inl rfl | (simp only [ob, obA, R32, R64] at *; omega) | (simp only [ob, obA, R32, R64] at *; and_intros <;> omega) | (simp [ob, obA])) ?_
          refine V_callV (M := MX11_findHavers) (N := MX7_copiesWith) dX11_findHavers_38 lRX11_406 kX7_copiesWith rfl ((sh_facts hN.2.1).1) rfl (hCw) rfl rfl (Nat.le_of_ble_eq_true rfl) (fit_rm (by omega)) (⟨Nat.le_of_ble_eq_true rfl, Nat.le_of_ble_eq_true rfl⟩) (fun v Ω' hp => ?_) (fun _ _ h => h.elim)
          obtain ⟨rfl, rfl⟩ := hp
          refine V_callS (M := MX11_findHavers) (N := MX11_setAt) dX11_findHavers_41 lRX11_87 kX11_setAt rfl (c_setAt (d := 3) hκ (a := 129) (n := 60) rfl (by decide) hmR) rfl rfl (Nat.le_of_ble_eq_true rfl) (fit_rm (by omega)) (⟨Nat.le_of_ble_eq_true rfl, Nat.le_of_ble_eq_true rfl⟩) (fun v Ω' hp => ?_) (fun _ _ h => h.elim)
          obtain ⟨rfl, rfl⟩ := hp
          rw [rSet_nat HL.length rfl (hlen.resolve_right (fun q => q (of_decide_eq_true q23)))]
          refine V_ex sX11_findHavers_44 (by rfl) (by first | exact trivial | exact Or.inr rfl | exact Or.inl rfl | (simp only [ob, obA, R32, R64] at *; omega) | (simp only [ob, obA, R32, R64] at *; and_intros <;> omega) | (simp [ob, obA])) ?_
          refine V_ex sX11_findHavers_47 (by rfl) (by first | exact trivial | exact Or.inr rfl | exact Or.inl rfl | (simp only [ob, obA, R32, R64] at *; omega) | (simp only [ob, obA, R32, R64] at *; and_intros <;> omega) | (simp [ob, obA])) ?_
          refine V_goto dX11_findHavers_50 (tgt := 5) (by decide) ?_
          have e : hvL S j (n + 1) = HL ++ [z] := by rw [hs, if_pos (of_decide_eq_true q23)]
          refine ih (n + 1) ((n : Int) + 1) _ (uI G1 129 HL.length z) (by omega) (by omega) (by rw [e, List.length_append]; simp) ⟨f1.1, fun x y a => by rw [iv (by omega)]; exact f1.2 x y a⟩ (fun i hi => ?_)
          simp only [e] at hi ⊢
          simp only [List.length_append, List.length_singleton] at hi
          rcases Nat.lt_or_ge i HL.length with q | q
          · rw [uv (by omega), hv i q, List.getElem_append_left q]
          · obtain rfl : i = HL.length := by omega
            rw [upd2_same, List.getElem_concat_length rfl]
  refine V_ex sX11_findHavers_0 (by rfl) (by first | exact trivial | exact Or.inr rfl | exact Or.inl rfl | (simp only [ob, obA, R32, R64] at *; omega) | (simp only [ob, obA, R32, R64] at *; and_intros <;> omega) | (simp [ob, obA])) ?_
  exact L (bkJ S j).2.2.1.toNat 0 0 0 G (by omega) rfl rfl ⟨rfl, fun _ _ _ => rfl⟩ (fun i hi => absurd hi (by simp [hvL, glL]))
def mwP (L : List Int) (n : Nat) : Bool := L.all (fun h => decide (iAnd h (n : Int) ≠ 0))
set_option maxRecDepth 100000 in
set_option maxHeartbeats 4000000 in
theorem c_makesW {κ : Kx} (hκ : KOK κ) {d n : Nat} {L : List Int} {G : Wd} (hL : ∀ i (h : i < L.length), G.1 129 i = L[i]'h) (h60 : L.length ≤ 60) (hn : n < 256) (hd : 1 ≤ d) : Ct κ MX11_makesWhole d 0 0 [VR 1, VI (n : Nat), VI (L.length : Nat)] (Wm G) (keepG G (VI (b2i (mwP L n)))) noX := by
  refine Ct_of hκ kX11_makesWhole.1 rfl (Nat.le_of_ble_eq_true rfl) (ls := [some (VR 1), some (VI (n : Nat)), some (VI (L.length : Nat)), none]) rfl (fun μ => ?_)
  have Lp : ∀ (k i : Nat) (ii : Int), i + k = L.length → ii = (i : Int) → (∀ x (h : x < L.length), x < i → iAnd (L[x]'h) (n : Int) ≠ 0) → V κ MX11_makesWhole (rmD d 0 0) (keepG G (VI (b2i (mwP L n)))) noX 0 0 μ 0 0 (Wm (G)) 2 [some (VR 1), some (VI (n : Nat)), some (VI (L.length : Nat)), some (VI ii)] [] := by
    intro k
    induction k with
    | zero =>
      intro i ii hik hii ha
      have e : mwP L n = true := List.all_eq_true.mpr (fun h hh => by
        obtain ⟨x, hx, q⟩ := List.getElem_of_mem hh
        rw [← q]
        exact decide_eq_true (ha x hx (by omega)))
      refine V_ex sX11_makesWhole_2 (by rfl) (by first | exact trivial | exact Or.inr rfl | exact Or.inl rfl | (simp only [ob, obA, R32, R64] at *; omega) | (simp only [ob, obA, R32, R64] at *; and_intros <;> omega) | (simp [ob, obA])) ?_
      refine V_icmpge dX11_makesWhole_4 (tgt := 28) (by decide) (by simp only [R32, R64] at *; omega) (fun q4 => ?_) (fun q4 => ?_)
      · refine V_ex sX11_makesWhole_28 (by rfl) (by first | exact trivial | exact Or.inr rfl | exact Or.inl rfl | (simp only [ob, obA, R32, R64] at *; omega) | (simp only [ob, obA, R32, R64] at *; and_intros <;> omega) | (simp [ob, obA])) ?_
        refine V_zret dX11_makesWhole_29 rfl (by first | exact Or.inl rfl | exact Or.inr rfl | exact b2i_01 _) (by decide) ⟨by rw [e]; rfl, rfl⟩
      · omega
    | succ k ih =>
      intro i ii hik hii ha
      subst hii
      have hil : i < L.length := by omega
      have hAR := iAnd_R (L[i]'hil) (n : Int)
      refine V_ex sX11_makesWhole_2 (by rfl) (by first | exact trivial | exact Or.inr rfl | exact Or.inl rfl | (simp only [ob, obA, R32, R64] at *; omega) | (simp only [ob, obA, R32, R64] at *; and_intros <;> omega) | (simp [ob, obA])) ?_
      refine V_icmpge dX11_makesWhole_4 (tgt := 28) (by decide) (by simp only [R32, R64] at *; omega) (fun q4 => ?_) (fun q4 => ?_)
      · omega
      · refine V_ex sX11_makesWhole_7 (by simp only [Option.toList, List.cons_append, List.nil_append, exN, ex1, gI, gL, gR, pI, pL, pR, lget, lset1, lset2, kl, b2I, b2L, nob, ob32, ob64, xGet, xPut, xLen, xLd, xLdR, xSt, obA, true_and, and_true, and_self, eq_self, Nat.reduceEqDiff, Nat.zero_ne_one, reduceIte, Nat.reduceLeDiff, and_false, false_and, show skd 10 10 = 2 from rfl, show LF.1 1 = some (.inl 10) from rfl, show LF.2 1 10 = some 129 from rfl, upd2_eq, Int.reduceToNat, Int.toNat_natCast]; rfl) (by first | exact trivial | exact Or.inr rfl | exact Or.inl rfl | (simp only [ob, obA, R32, R64] at *; omega) | (simp only [ob, obA, R32, R64] at *; and_intros <;> omega) | (simp [ob, obA])) ?_
        refine V_callS (M := MX11_makesWhole) (N := MX11_at) dX11_makesWhole_12 lRX11_215 kX11_at rfl (c_at (d := 0) hκ (a := 129) (n := 60) rfl (by decide) (by unfold R32; omega)) rfl rfl (Nat.le_of_ble_eq_true rfl) (fit_rm (by omega)) (⟨Nat.le_of_ble_eq_true rfl, Nat.le_of_ble_eq_true rfl⟩) (fun v Ω' hp => ?_) (fun _ _ h => h.elim)
        obtain ⟨rfl, rfl⟩ := hp
        rw [rAt_nat i rfl (by omega), hL i hil]
        refine V_ex sX11_makesWhole_15 (by rfl) (by first | exact trivial | exact Or.inr rfl | exact Or.inl rfl | (simp only [ob, obA, R32, R64] at *; omega) | (simp only [ob, obA, R32, R64] at *; and_intros <;> omega) | (simp [ob, obA])) ?_
        refine V_ifne dX11_makesWhole_17 (tgt := 22) (by decide) (by exact hAR) (fun q17 => ?_) (fun q17 => ?_)
        · refine V_ex sX11_makesWhole_22 (by rfl) (by first | exact trivial | exact Or.inr rfl | exact Or.inl rfl | (simp only [ob, obA, R32, R64] at *; omega) | (simp only [ob, obA, R32, R64] at *; and_intros <;> omega) | (simp [ob, obA])) ?_
          refine V_goto dX11_makesWhole_25 (tgt := 2) (by decide) ?_
          exact ih (i + 1) ((i : Int) + 1) (by omega) (by omega) (fun x h q => by by_cases c : x = i; subst c; exact q17; exact ha x h (by omega))
        · refine V_ex sX11_makesWhole_20 (by rfl) (by first | exact trivial | exact Or.inr rfl | exact Or.inl rfl | (simp only [ob, obA, R32, R64] at *; omega) | (simp only [ob, obA, R32, R64] at *; and_intros <;> omega) | (simp [ob, obA])) ?_
          refine V_zret dX11_makesWhole_21 rfl (by first | exact Or.inl rfl | exact Or.inr rfl | exact b2i_01 _) (by decide) ?_
          have e : mwP L n = false := by
            cases q : mwP L n with
            | false => rfl
            | true => exact absurd q17 (of_decide_eq_true (List.all_eq_true.mp q _ (List.getElem_mem hil)))
          exact ⟨by rw [e]; rfl, rfl⟩
  refine V_ex sX11_makesWhole_0 (by rfl) (by first | exact trivial | exact Or.inr rfl | exact Or.inl rfl | (simp only [ob, obA, R32, R64] at *; omega) | (simp only [ob, obA, R32, R64] at *; and_intros <;> omega) | (simp [ob, obA])) ?_
  exact Lp L.length 0 0 (by omega) rfl (fun x h q => absurd q (by omega))
/-- the first of the fewest copies among the first n sets -/
def whF (P : Nat → Bool) : Nat → Int
  | 0 => -1
  | n + 1 => if (whF P n = -1 ∨ bitsN n < bitsN (whF P n).toNat) ∧ P n = true then (n : Int) else whF P n
theorem whF_R (P : Nat → Bool) : ∀ n, -1 ≤ whF P n ∧ whF P n < n ∨ whF P n = -1 := by
  intro n
  induction n with
  | zero => exact Or.inr rfl
  | succ n ih => rw [whF]; split <;> omega
def wholeP (A : Ab) (i : Int) : Int × Int := if ¬ inB A.1 i then (1, 0) else (0, whF (mwP (hvL A.1 i.toNat (bkA A i).2.2.1.toNat)) 256)
def boughtP (A : Ab) (i : Int) : Int × Int := if ¬ inB A.1 i then (1, 0) else (0, ((hvL A.1 i.toNat (bkA A i).2.2.1.toNat).countP (fun z => decide (z = 0)) : Nat))
theorem RC_h {G G' : Wd} {s : Nat} {A : Ab} (h : RC G s A) (hO : okSh 500 A.1) (f : FH G G') : RC G' s A ∧ FrC G G' := by
  have hs : s = 8 ∨ s = 61 := h.1.2.2
  refine ⟨RC_c h hO.1 hO.2.2.1 (by rw [f.1]) (fun x j a b => f.2 x j (by unfold sc at b; omega)) (cacheC_c h.2.2.1 (by funext j; exact f.2 _ _ (by omega))) (fun j => by rw [f.2 _ _ (by omega)]; exact h.2.2.2.2.2.2.2.2.2.2.2.1 j) (fun j => by rw [f.2 _ _ (by omega)]; exact h.2.2.2.2.2.2.2.2.2.2.2.2.1 j) (fun j => by rw [f.2 _ _ (by omega)]; exact h.2.2.2.2.2.2.2.2.2.2.2.2.2 j), FrC.of (fun x a => by funext j; exact f.2 x j (by omega)) f.1⟩
theorem hvL_len {S : Sh} {j n : Nat} (hO : okSh 500 S) (hj : j < S.1.length) : (hvL S j n).length ≤ 60 := by
  have := glL_len (g := (bkJ S j).2.2.2.2.2) n
  have h2 := (gone_ok hO hj).2.1
  unfold hvL
  rw [List.length_map]
  omega
set_option maxRecDepth 100000 in
set_option maxHeartbeats 4000000 in
theorem c_xWhole {κ : Kx} (hκ : KOK κ) {d s : Nat} {K i : Int} {A : Ab} {G : Wd} (hC : RC G s A) (hI : Inv K A) (hR : aR G) (hi : R32 i) (hd : 20 ≤ d) : Ct κ MX11_whole d 16 128 [VR 1, VI i] (Wm G) (cP G A ((wholeP A i).1 = 0) (some (VI (wholeP A i).2))) (cX G A ((wholeP A i).1 = 1) NSE) := by
  refine Ct_of hκ kX11_whole.1 rfl (Nat.le_of_ble_eq_true rfl) (ls := [some (VR 1), some (VI i), none, none, none, none, none]) rfl (fun μ => ?_)
  have hN := RC_N hC hI.1 hR
  by_cases hin : inB A.1 i
  · obtain ⟨j, hj⟩ : ∃ j : Nat, i = (j : Int) := ⟨i.toNat, by have := hin.1; omega⟩
    subst hj
    have hj : j < A.1.1.length := by have := hin.2; omega
    have e : wholeP A (j : Nat) = (0, whF (mwP (hvL A.1 j (bkJ A.1 j).2.2.1.toNat)) 256) := by unfold wholeP; rw [if_neg (fun h => h hin)]; rfl
    have h60 := hvL_len (n := (bkJ A.1 j).2.2.1.toNat) hI.1 hj
    have hHv := c_havers (κ := κ) hκ (d := 7) hN (fun y => hR _ _) hj (by omega)
    generalize hvL A.1 j (bkJ A.1 j).2.2.1.toNat = HL at *
    have L : ∀ (k n : Nat) (nn : Int) (G1 : Wd) (x : Option Vl), n + k = 256 → nn = (n : Int) → FH G G1 → (∀ i (h : i < HL.length), G1.1 129 i = HL[i]'h) → V κ MX11_whole (rmD d 16 128) (cP G A ((wholeP A (j : Nat)).1 = 0) (some (VI (wholeP A (j : Nat)).2))) (cX G A ((wholeP A (j : Nat)).1 = 1) NSE) 16 128 μ (0 + 1 + 0) (0 + 6 + 0) (Wm (G1)) 19 [some (VR 1), some (VI (j : Nat)), some (VR (s + 7 + 5 * j)), some (VI (HL.length : Nat)), some (VI (whF (mwP HL) n)), some (VI nn), x] [] := by
      intro k
      induction k with
      | zero =>
        intro n nn G1 x hnk hnn f1 hv
        obtain rfl : n = 256 := by omega
        obtain ⟨a1, a2⟩ := RC_h hC hI.1 f1
        refine V_ex sX11_whole_19 (by rfl) (by first | exact trivial | exact Or.inr rfl | exact Or.inl rfl | (simp only [ob, obA, R32, R64] at *; omega) | (simp only [ob, obA, R32, R64] at *; and_intros <;> omega) | (simp [ob, obA])) ?_
        refine V_icmpge dX11_whole_24 (tgt := 78) (by decide) (by simp only [R32, R64] at *; omega) (fun q24 => ?_) (fun q24 => ?_)
        · refine V_ex sX11_whole_78 (by rfl) (by first | exact trivial | exact Or.inr rfl | exact Or.inl rfl | (simp only [ob, obA, R32, R64] at *; omega) | (simp only [ob, obA, R32, R64] at *; and_intros <;> omega) | (simp [ob, obA])) ?_
          refine V_iret dX11_whole_80 rfl (by decide) ⟨by rw [e], by rw [e], G1, s, rfl, a1, a2⟩
        · omega
      | succ k ih =>
        intro n nn G1 x hnk hnn f1 hv
        subst hnn
        have hn : n < 256 := by omega
        have hwR := whF_R (mwP HL) n
        have hs : whF (mwP HL) (n + 1) = if (whF (mwP HL) n = -1 ∨ bitsN n < bitsN (whF (mwP HL) n).toNat) ∧ mwP HL n = true then (n : Int) else whF (mwP HL) n := rfl
        have hMw := c_makesW (κ := κ) hκ (d := 5) (n := n) hv h60 hn (by omega)
        have hb1 := bitsN_le n hn
        have nx : ∀ (w : Int) (y : Option Vl), w = whF (mwP HL) (n + 1) → V κ MX11_whole (rmD d 16 128) (cP G A ((wholeP A (j : Nat)).1 = 0) (some (VI (wholeP A (j : Nat)).2))) (cX G A ((wholeP A (j : Nat)).1 = 1) NSE) 16 128 μ (0 + 1 + 0) (0 + 6 + 0) (Wm (G1)) 72 [some (VR 1), some (VI (j : Nat)), some (VR (s + 7 + 5 * j)), some (VI (HL.length : Nat)), some (VI w), some (VI (n : Nat)), y] [] := fun w y hw => by
          subst hw
          refine V_ex sX11_whole_72 (by rfl) (by first | exact trivial | exact Or.inr rfl | exact Or.inl rfl | (simp only [ob, obA, R32, R64] at *; omega) | (simp only [ob, obA, R32, R64] at *; and_intros <;> omega) | (simp [ob, obA])) ?_
          refine V_goto dX11_whole_75 (tgt := 19) (by decide) ?_
          exact ih (n + 1) ((n : Int) + 1) G1 y (by omega) (by omega) f1 hv
        have tr : (whF (mwP HL) n = -1 ∨ bitsN n < bitsN (whF (mwP HL) n).toNat) → V κ MX11_whole (rmD d 16 128) (cP G A ((wholeP A (j : Nat)).1 = 0) (some (VI (wholeP A (j : Nat)).2))) (cX G A ((wholeP A (j : Nat)).1 = 1) NSE) 16 128 μ (0 + 1 + 0) (0 + 6 + 0) (Wm (G1)) 51 [some (VR 1), some (VI (j : Nat)), some (VR (s + 7 + 5 * j)), some (VI (HL.length : Nat)), some (VI (whF (mwP HL) n)), some (VI (n : Nat)), x] [VI 1] := fun hq => by
          refine V_ex sX11_whole_51 (by rfl) (by first | exact trivial | exact Or.inr rfl | exact Or.inl rfl | (simp only [ob, obA, R32, R64] at *; omega) | (simp only [ob, obA, R32, R64] at *; and_intros <;> omega) | (simp [ob, obA])) ?_
          refine V_ifeq dX11_whole_55 (tgt := 72) (by decide) (by simp only [R32, R64] at *; omega) (fun q55 => ?_) (fun q55 => ?_)
          · omega
          · refine V_ex sX11_whole_58 (by rfl) (by first | exact trivial | exact Or.inr rfl | exact Or.inl rfl | (simp only [ob, obA, R32, R64] at *; omega) | (simp only [ob, obA, R32, R64] at *; and_intros <;> omega) | (simp [ob, obA])) ?_
            refine V_callV (M := MX11_whole) (N := MX11_makesWhole) dX11_whole_62 lRX11_402 kX11_makesWhole rfl (rfl) rfl (hMw) rfl rfl (Nat.le_of_ble_eq_true rfl) (fit_rm (by omega)) (⟨Nat.le_of_ble_eq_true rfl, Nat.le_of_ble_eq_true rfl⟩) (fun v Ω' hp => ?_) (fun _ _ h => h.elim)
            obtain ⟨rfl, rfl⟩ := hp
            refine V_ifeqB dX11_whole_65 (tgt := 72) (by decide) (fun q65 => ?_) (fun q65 => ?_)
            · exact nx _ _ (by rw [hs, if_neg (fun q => absurd (q.2.symm.trans q65) (by decide))])
            · refine V_ex sX11_whole_68 (by rfl) (by first | exact trivial | exact Or.inr rfl | exact Or.inl rfl | (simp only [ob, obA, R32, R64] at *; omega) | (simp only [ob, obA, R32, R64] at *; and_intros <;> omega) | (simp [ob, obA])) ?_
              exact nx _ _ (by rw [hs, if_pos ⟨hq, q65⟩])
        have fl : ¬ (whF (mwP HL) n = -1 ∨ bitsN n < bitsN (whF (mwP HL) n).toNat) → V κ MX11_whole (rmD d 16 128) (cP G A ((wholeP A (j : Nat)).1 = 0) (some (VI (wholeP A (j : Nat)).2))) (cX G A ((wholeP A (j : Nat)).1 = 1) NSE) 16 128 μ (0 + 1 + 0) (0 + 6 + 0) (Wm (G1)) 51 [some (VR 1), some (VI (j : Nat)), some (VR (s + 7 + 5 * j)), some (VI (HL.length : Nat)), some (VI (whF (mwP HL) n)), some (VI (n : Nat)), x] [VI 0] := fun hq => by
          refine V_ex sX11_whole_51 (by rfl) (by first | exact trivial | exact Or.inr rfl | exact Or.inl rfl | (simp only [ob, obA, R32, R64] at *; omega) | (simp only [ob, obA, R32, R64] at *; and_intros <;> omega) | (simp [ob, obA])) ?_
          refine V_ifeq dX11_whole_55 (tgt := 72) (by decide) (by simp only [R32, R64] at *; omega) (fun q55 => ?_) (fun q55 => ?_)
          · exact nx _ _ (by rw [hs, if_neg (fun q => hq q.1)])
          · omega
        by_cases hw : whF (mwP HL) n = -1
        · refine V_ex sX11_whole_19 (by rfl) (by first | exact trivial | exact Or.inr rfl | exact Or.inl rfl | (simp only [ob, obA, R32, R64] at *; omega) | (simp only [ob, obA, R32, R64] at *; and_intros <;> omega) | (simp [ob, obA])) ?_
          refine V_icmpge dX11_whole_24 (tgt := 78) (by decide) (by simp only [R32, R64] at *; omega) (fun q24 => ?_) (fun q24 => ?_)
          · omega
          · refine V_ex sX11_whole_27 (by rfl) (by first | exact trivial | exact Or.inr rfl | exact Or.inl rfl | (simp only [ob, obA, R32, R64] at *; omega) | (simp only [ob, obA, R32, R64] at *; and_intros <;> omega) | (simp [ob, obA])) ?_
            refine V_icmpeq dX11_whole_30 (tgt := 46) (by decide) (by simp only [R32, R64] at *; omega) (fun q30 => ?_) (fun q30 => ?_)
            · refine V_ex sX11_whole_46 (by rfl) (by first | exact trivial | exact Or.inr rfl | exact Or.inl rfl | (simp only [ob, obA, R32, R64] at *; omega) | (simp only [ob, obA, R32, R64] at *; and_intros <;> omega) | (simp [ob, obA])) ?_
              refine V_goto dX11_whole_47 (tgt := 51) (by decide) ?_
              exact tr (Or.inl hw)
            · exact absurd hw q30
        · obtain ⟨w, hww⟩ : ∃ w : Nat, whF (mwP HL) n = (w : Int) := ⟨(whF (mwP HL) n).toNat, by omega⟩
          have hb2 := bitsN_le w (by omega)
          have hwn : (whF (mwP HL) n).toNat = w := by omega
          have hBc := fun (m : Nat) (hm : m < 256) => c_bitCount (κ := κ) hκ (d := 3) (n := m) (G := G1) hm
          rw [hwn] at tr fl
          refine V_ex sX11_whole_19 (by rfl) (by first | exact trivial | exact Or.inr rfl | exact Or.inl rfl | (simp only [ob, obA, R32, R64] at *; omega) | (simp only [ob, obA, R32, R64] at *; and_intros <;> omega) | (simp [ob, obA])) ?_
          refine V_icmpge dX11_whole_24 (tgt := 78) (by decide) (by simp only [R32, R64] at *; omega) (fun q24 => ?_) (fun q24 => ?_)
          · omega
          · refine V_ex sX11_whole_27 (by rfl) (by first | exact trivial | exact Or.inr rfl | exact Or.inl rfl | (simp only [ob, obA, R32, R64] at *; omega) | (simp only [ob, obA, R32, R64] at *; and_intros <;> omega) | (simp [ob, obA])) ?_
            refine V_icmpeq dX11_whole_30 (tgt := 46) (by decide) (by simp only [R32, R64] at *; omega) (fun q30 => ?_) (fun q30 => ?_)
            · exact absurd q30 hw
            · refine V_ex sX11_whole_33 (by rfl) (by first | exact trivial | exact Or.inr rfl | exact Or.inl rfl | (simp only [ob, obA, R32, R64] at *; omega) | (simp only [ob, obA, R32, R64] at *; and_intros <;> omega) | (simp [ob, obA])) ?_
              refine V_callS (M := MX11_whole) (N := MJ6_bitCount_0f7a4) dX11_whole_35 lRX11_397 kJ6_bitCount_0f7a4 rfl (hBc n hn) rfl rfl (Nat.le_of_ble_eq_true rfl) (fit_rm (by omega)) (⟨Nat.le_of_ble_eq_true rfl, Nat.le_of_ble_eq_true rfl⟩) (fun v Ω' hp => ?_) (fun _ _ h => h.elim)
              obtain ⟨rfl, rfl⟩ := hp
              rw [hww]
              refine V_ex sX11_whole_38 (by rfl) (by first | exact trivial | exact Or.inr rfl | exact Or.inl rfl | (simp only [ob, obA, R32, R64] at *; omega) | (simp only [ob, obA, R32, R64] at *; and_intros <;> omega) | (simp [ob, obA])) ?_
              refine V_callS (M := MX11_whole) (N := MJ6_bitCount_0f7a4) dX11_whole_40 lRX11_397 kJ6_bitCount_0f7a4 rfl (hBc w (by omega)) rfl rfl (Nat.le_of_ble_eq_true rfl) (fit_rm (by omega)) (⟨Nat.le_of_ble_eq_true rfl, Nat.le_of_ble_eq_true rfl⟩) (fun v Ω' hp => ?_) (fun _ _ h => h.elim)
              obtain ⟨rfl, rfl⟩ := hp
              rw [hww] at tr fl
              refine V_icmpge dX11_whole_43 (tgt := 50) (by decide) (by simp only [R32, R64] at *; omega) (fun q43 => ?_) (fun q43 => ?_)
              · refine V_ex sX11_whole_50 (by rfl) (by first | exact trivial | exact Or.inr rfl | exact Or.inl rfl | (simp only [ob, obA, R32, R64] at *; omega) | (simp only [ob, obA, R32, R64] at *; and_intros <;> omega) | (simp [ob, obA])) ?_
                exact fl (by omega)
              · refine V_ex sX11_whole_46 (by rfl) (by first | exact trivial | exact Or.inr rfl | exact Or.inl rfl | (simp only [ob, obA, R32, R64] at *; omega) | (simp only [ob, obA, R32, R64] at *; and_intros <;> omega) | (simp [ob, obA])) ?_
                refine V_goto dX11_whole_47 (tgt := 51) (by decide) ?_
                exact tr (by omega)
    refine V_ex sX11_whole_0 (by rfl) (by first | exact trivial | exact Or.inr rfl | exact Or.inl rfl | (simp only [ob, obA, R32, R64] at *; omega) | (simp only [ob, obA, R32, R64] at *; and_intros <;> omega) | (simp [ob, obA])) ?_
    refine V_callV (M := MX11_whole) (N := MX11_needBook) dX11_whole_2 lRX11_154 kX11_needBook rfl (rfl) rfl (c_nBook (d := 6) hκ hN hi (by omega)) rfl rfl (Nat.le_of_ble_eq_true rfl) (fit_rm (by omega)) (⟨Nat.le_of_ble_eq_true rfl, Nat.le_of_ble_eq_true rfl⟩) (fun v Ω' hp => ?_) (fun E Ω' h => absurd hin h.1)
    obtain ⟨-, rfl, rfl⟩ := hp
    rw [Int.toNat_natCast]
    refine V_ex sX11_whole_5 (by rfl) (by first | exact trivial | exact Or.inr rfl | exact Or.inl rfl | (simp only [ob, obA, R32, R64] at *; omega) | (simp only [ob, obA, R32, R64] at *; and_intros <;> omega) | (simp [ob, obA])) ?_
    refine V_callV (M := MX11_whole) (N := MX11_findHavers) dX11_whole_9 lRX11_393 kX11_findHavers rfl (rfl) rfl (hHv) rfl rfl (Nat.le_of_ble_eq_true rfl) (fit_rm (by omega)) (⟨Nat.le_of_ble_eq_true rfl, Nat.le_of_ble_eq_true rfl⟩) (fun v Ω' hp => ?_) (fun _ _ h => h.elim)
    obtain ⟨rfl, G1, rfl, f1, hv⟩ := hp
    refine V_ex sX11_whole_12 (by rfl) (by first | exact trivial | exact Or.inr rfl | exact Or.inl rfl | (simp only [ob, obA, R32, R64] at *; omega) | (simp only [ob, obA, R32, R64] at *; and_intros <;> omega) | (simp [ob, obA])) ?_
    exact L 256 0 0 G1 _ (by omega) rfl f1 hv
  · have e : wholeP A i = (1, 0) := by unfold wholeP; rw [if_pos hin]
    refine V_ex sX11_whole_0 (by rfl) (by first | exact trivial | exact Or.inr rfl | exact Or.inl rfl | (simp only [ob, obA, R32, R64] at *; omega) | (simp only [ob, obA, R32, R64] at *; and_intros <;> omega) | (simp [ob, obA])) ?_
    refine V_callV (M := MX11_whole) (N := MX11_needBook) dX11_whole_2 lRX11_154 kX11_needBook rfl (rfl) rfl (c_nBook (d := 6) hκ hN hi (by omega)) rfl rfl (Nat.le_of_ble_eq_true rfl) (fit_rm (by omega)) (⟨Nat.le_of_ble_eq_true rfl, Nat.le_of_ble_eq_true rfl⟩) (fun v Ω' hp => ?_) (fun E Ω' h => ⟨by rw [h.2.1, h.2.2]; exact cX_0 hC (by rw [e]), rfl, Nat.le_of_ble_eq_true rfl, Nat.le_of_ble_eq_true rfl⟩)
    skip
    exact absurd hp.1 hin
theorem iOr_R (x y : Int) : R32 (iOr x y) := ⟨Int32.le_toInt _, by have := Int32.toInt_lt (Int32.ofInt x ||| Int32.ofInt y); unfold iOr; omega⟩
theorem cwP_R {cp : List (Int × List Int)} {b l : Int} : ∀ (k c : Nat) (w : Int), R32 w → R32 (cwP cp b l k c w) := by
  intro k
  induction k with
  | zero => intro c w h; exact h
  | succ k ih =>
    intro c w h
    rw [cwP]
    refine ih _ _ ?_
    split
    · exact iOr_R _ _
    · exact h
theorem hvL_R {S : Sh} {j n : Nat} : ∀ z ∈ hvL S j n, R32 z := fun z hz => by
  obtain ⟨l, hl, e⟩ := List.mem_map.mp hz
  rw [← e]
  exact cwP_R _ _ _ (by unfold R32; omega)
set_option maxRecDepth 100000 in
set_option maxHeartbeats 4000000 in
theorem c_xBought {κ : Kx} (hκ : KOK κ) {d s : Nat} {K i : Int} {A : Ab} {G : Wd} (hC : RC G s A) (hI : Inv K A) (hR : aR G) (hi : R32 i) (hd : 20 ≤ d) : Ct κ MX11_bought d 16 128 [VR 1, VI i] (Wm G) (cP G A ((boughtP A i).1 = 0) (some (VI (boughtP A i).2))) (cX G A ((boughtP A i).1 = 1) NSE) := by
  refine Ct_of hκ kX11_bought.1 rfl (Nat.le_of_ble_eq_true rfl) (ls := [some (VR 1), some (VI i), none, none, none]) rfl (fun μ => ?_)
  have hN := RC_N hC hI.1 hR
  by_cases hin : inB A.1 i
  · obtain ⟨j, hj⟩ : ∃ j : Nat, i = (j : Int) := ⟨i.toNat, by have := hin.1; omega⟩
    subst hj
    have hj : j < A.1.1.length := by have := hin.2; omega
    have e : boughtP A (j : Nat) = (0, (((hvL A.1 j (bkJ A.1 j).2.2.1.toNat).countP (fun z => decide (z = 0)) : Nat) : Int)) := by unfold boughtP; rw [if_neg (fun h => h hin)]; rfl
    have h60 := hvL_len (n := (bkJ A.1 j).2.2.1.toNat) hI.1 hj
    have hHv := c_havers (κ := κ) hκ (d := 7) hN (fun y => hR _ _) hj (by omega)
    have hHR := hvL_R (S := A.1) (j := j) (n := (bkJ A.1 j).2.2.1.toNat)
    generalize hvL A.1 j (bkJ A.1 j).2.2.1.toNat = HL at *
    have L : ∀ (k n : Nat) (nn mm : Int) (G1 : Wd), n + k = HL.length → nn = (n : Int) → mm = ((HL.take n).countP (fun z => decide (z = 0)) : Nat) → FH G G1 → (∀ i (h : i < HL.length), G1.1 129 i = HL[i]'h) → V κ MX11_bought (rmD d 16 128) (cP G A ((boughtP A (j : Nat)).1 = 0) (some (VI (boughtP A (j : Nat)).2))) (cX G A ((boughtP A (j : Nat)).1 = 1) NSE) 16 128 μ (0 + 1 + 0) (0 + 6 + 0) (Wm (G1)) 16 [some (VR 1), some (VI (j : Nat)), some (VI (HL.length : Nat)), some (VI mm), some (VI nn)] [] := by
      intro k
      induction k with
      | zero =>
        intro n nn mm G1 hnk hnn hmm f1 hv
        obtain rfl : n = HL.length := by omega
        rw [List.take_length] at hmm
        obtain ⟨a1, a2⟩ := RC_h hC hI.1 f1
        refine V_ex sX11_bought_16 (by rfl) (by first | exact trivial | exact Or.inr rfl | exact Or.inl rfl | (simp only [ob, obA, R32, R64] at *; omega) | (simp only [ob, obA, R32, R64] at *; and_intros <;> omega) | (simp [ob, obA])) ?_
        refine V_icmpge dX11_bought_19 (tgt := 43) (by decide) (by simp only [R32, R64] at *; omega) (fun q19 => ?_) (fun q19 => ?_)
        · refine V_ex sX11_bought_43 (by rfl) (by first | exact trivial | exact Or.inr rfl | exact Or.inl rfl | (simp only [ob, obA, R32, R64] at *; omega) | (simp only [ob, obA, R32, R64] at *; and_intros <;> omega) | (simp [ob, obA])) ?_
          refine V_iret dX11_bought_44 rfl (by decide) ⟨by rw [e], by rw [e, hmm], G1, s, rfl, a1, a2⟩
        · omega
      | succ k ih =>
        intro n nn mm G1 hnk hnn hmm f1 hv
        subst hnn
        have hnl : n < HL.length := by omega
        have hzR : R32 (HL[n]'hnl) := hHR _ (List.getElem_mem hnl)
        have ht : (HL.take (n + 1)).countP (fun z => decide (z = 0)) = (HL.take n).countP (fun z => decide (z = 0)) + if HL[n]'hnl = 0 then 1 else 0 := by
          rw [List.take_succ_eq_append_getElem hnl, List.countP_append, List.countP_singleton]
          by_cases c : HL[n]'hnl = 0
          · rw [if_pos c, decide_eq_true c]; rfl
          · rw [if_neg c, decide_eq_false c]; rfl
        refine V_ex sX11_bought_16 (by rfl) (by first | exact trivial | exact Or.inr rfl | exact Or.inl rfl | (simp only [ob, obA, R32, R64] at *; omega) | (simp only [ob, obA, R32, R64] at *; and_intros <;> omega) | (simp [ob, obA])) ?_
        refine V_icmpge dX11_bought_19 (tgt := 43) (by decide) (by simp only [R32, R64] at *; omega) (fun q19 => ?_) (fun q19 => ?_)
        · omega
        · refine V_ex sX11_bought_22 (by simp only [Option.toList, List.cons_append, List.nil_append, exN, ex1, gI, gL, gR, pI, pL, pR, lget, lset1, lset2, kl, b2I, b2L, nob, ob32, ob64, xGet, xPut, xLen, xLd, xLdR, xSt, obA, true_and, and_true, and_self, eq_self, Nat.reduceEqDiff, Nat.zero_ne_one, reduceIte, Nat.reduceLeDiff, and_false, false_and, show skd 10 10 = 2 from rfl, show LF.1 1 = some (.inl 10) from rfl, show LF.2 1 10 = some 129 from rfl, upd2_eq, Int.reduceToNat, Int.toNat_natCast]; rfl) (by first | exact trivial | exact Or.inr rfl | exact Or.inl rfl | (simp only [ob, obA, R32, R64] at *; omega) | (simp only [ob, obA, R32, R64] at *; and_intros <;> omega) | (simp [ob, obA])) ?_
          refine V_callS (M := MX11_bought) (N := MX11_at) dX11_bought_28 lRX11_215 kX11_at rfl (c_at (d := 3) hκ (a := 129) (n := 60) rfl (by decide) (by unfold R32; omega)) rfl rfl (Nat.le_of_ble_eq_true rfl) (fit_rm (by omega)) (⟨Nat.le_of_ble_eq_true rfl, Nat.le_of_ble_eq_true rfl⟩) (fun v Ω' hp => ?_) (fun _ _ h => h.elim)
          obtain ⟨rfl, rfl⟩ := hp
          rw [rAt_nat n rfl (by omega), hv n hnl]
          refine V_ifne dX11_bought_31 (tgt := 37) (by decide) (by exact hzR) (fun q31 => ?_) (fun q31 => ?_)
          · refine V_ex sX11_bought_37 (by rfl) (by first | exact trivial | exact Or.inr rfl | exact Or.inl rfl | (simp only [ob, obA, R32, R64] at *; omega) | (simp only [ob, obA, R32, R64] at *; and_intros <;> omega) | (simp [ob, obA])) ?_
            refine V_goto dX11_bought_40 (tgt := 16) (by decide) ?_
            exact ih (n + 1) ((n : Int) + 1) mm G1 (by omega) (by omega) (by rw [hmm, ht, if_neg q31]; rfl) f1 hv
          · refine V_ex sX11_bought_34 (by rfl) (by first | exact trivial | exact Or.inr rfl | exact Or.inl rfl | (simp only [ob, obA, R32, R64] at *; omega) | (simp only [ob, obA, R32, R64] at *; and_intros <;> omega) | (simp [ob, obA])) ?_
            refine V_ex sX11_bought_37 (by rfl) (by first | exact trivial | exact Or.inr rfl | exact Or.inl rfl | (simp only [ob, obA, R32, R64] at *; omega) | (simp only [ob, obA, R32, R64] at *; and_intros <;> omega) | (simp [ob, obA])) ?_
            refine V_goto dX11_bought_40 (tgt := 16) (by decide) ?_
            exact ih (n + 1) ((n : Int) + 1) (mm + 1) G1 (by omega) (by omega) (by rw [hmm, ht, if_pos q31]; omega) f1 hv
    refine V_ex sX11_bought_0 (by rfl) (by first | exact trivial | exact Or.inr rfl | exact Or.inl rfl | (simp only [ob, obA, R32, R64] at *; omega) | (simp only [ob, obA, R32, R64] at *; and_intros <;> omega) | (simp [ob, obA])) ?_
    refine V_callV (M := MX11_bought) (N := MX11_needBook) dX11_bought_4 lRX11_154 kX11_needBook rfl (rfl) rfl (c_nBook (d := 6) hκ hN hi (by omega)) rfl rfl (Nat.le_of_ble_eq_true rfl) (fit_rm (by omega)) (⟨Nat.le_of_ble_eq_true rfl, Nat.le_of_ble_eq_true rfl⟩) (fun v Ω' hp => ?_) (fun E Ω' h => absurd hin h.1)
    obtain ⟨-, rfl, rfl⟩ := hp
    rw [Int.toNat_natCast]
    refine V_callV (M := MX11_bought) (N := MX11_findHavers) dX11_bought_7 lRX11_393 kX11_findHavers rfl (rfl) rfl (hHv) rfl rfl (Nat.le_of_ble_eq_true rfl) (fit_rm (by omega)) (⟨Nat.le_of_ble_eq_true rfl, Nat.le_of_ble_eq_true rfl⟩) (fun v Ω' hp => ?_) (fun _ _ h => h.elim)
    obtain ⟨rfl, G1, rfl, f1, hv⟩ := hp
    refine V_ex sX11_bought_10 (by rfl) (by first | exact trivial | exact Or.inr rfl | exact Or.inl rfl | (simp only [ob, obA, R32, R64] at *; omega) | (simp only [ob, obA, R32, R64] at *; and_intros <;> omega) | (simp [ob, obA])) ?_
    exact L HL.length 0 0 0 G1 (by omega) rfl rfl f1 hv
  · have e : boughtP A i = (1, 0) := by unfold boughtP; rw [if_pos hin]
    refine V_ex sX11_bought_0 (by rfl) (by first | exact trivial | exact Or.inr rfl | exact Or.inl rfl | (simp only [ob, obA, R32, R64] at *; omega) | (simp only [ob, obA, R32, R64] at *; and_intros <;> omega) | (simp [ob, obA])) ?_
    refine V_callV (M := MX11_bought) (N := MX11_needBook) dX11_bought_4 lRX11_154 kX11_needBook rfl (rfl) rfl (c_nBook (d := 6) hκ hN hi (by omega)) rfl rfl (Nat.le_of_ble_eq_true rfl) (fit_rm (by omega)) (⟨Nat.le_of_ble_eq_true rfl, Nat.le_of_ble_eq_true rfl⟩) (fun v Ω' hp => ?_) (fun E Ω' h => ⟨by rw [h.2.1, h.2.2]; exact cX_0 hC (by rw [e]), rfl, Nat.le_of_ble_eq_true rfl, Nat.le_of_ble_eq_true rfl⟩)
    skip
    exact absurd hp.1 hin
