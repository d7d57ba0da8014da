/-! THE MODEL: the leaves there; a row copied -/
def beF (n : Nat) (f g : Nat → Int) : Nat → Int := fun j => if j < n then g j else f j
def beW (G : Wd) (a b n : Nat) : Wd := uA G a (beF n (G.1 a) (G.1 b))
theorem be_a {G : Wd} {a b n j : Nat} : (beW G a b n).1 a j = if j < n then G.1 b j else G.1 a j := by unfold beW beF; simp
theorem be_n {G : Wd} {a b n x j : Nat} (h : x ≠ a) : (beW G a b n).1 x j = G.1 x j := by unfold beW; simp [h]
set_option maxRecDepth 100000 in
set_option maxHeartbeats 4000000 in
theorem c_mBe {κ : Kx} (hκ : KOK κ) {d a b n : Nat} {G : Wd} (ha : LF.1 a = some (.inr (0, n))) (hb : LF.1 b = some (.inr (0, n))) (hab : a ≠ b) (hn : n ≤ 10000) : Ct κ MX12_be d 0 0 [VR a, VR b] (Wm G) (voidG (beW G a b n)) noX := by
  refine Ct_of hκ kX12_be.1 rfl (Nat.le_of_ble_eq_true rfl) (ls := [some (VR a), some (VR b), none]) rfl (fun μ => ?_)
  have L : ∀ (k j : Nat) (jj : Int) (G1 : Wd), j + k = n → jj = (j : Int) → G1.2 = G.2 → (∀ x y, x ≠ a → G1.1 x y = G.1 x y) → (∀ y, G1.1 a y = if y < j then G.1 b y else G.1 a y) → V κ MX12_be (rmD d 0 0) (voidG (beW G a b n)) noX 0 0 μ 0 0 (Wm (G1)) 2 [some (VR a), some (VR b), some (VI jj)] [] := by
    intro k
    induction k with
    | zero =>
      intro j jj G1 hj hjj g2 gx ga
      obtain rfl : j = n := by omega
      refine V_ex sX12_be_2 (by simp only [Option.toList, List.cons_append, List.nil_append, exN, ex1, gI, gL, gR, pI, pL, pR, lget, lset1, lset2, kl, b2I, b2L, nob, ob32, ob64, xGet, xPut, xLen, xLd, xLdR, xSt, obA, true_and, and_true, and_self, eq_self, Nat.reduceEqDiff, Nat.zero_ne_one, reduceIte, Nat.reduceLeDiff, and_false, false_and, ha, upd2_eq, Int.reduceToNat, Int.toNat_natCast]; rfl) (by first | exact trivial | exact Or.inr rfl | exact Or.inl rfl | (simp only [ob, obA, R32, R64] at *; omega) | (simp only [ob, obA, R32, R64] at *; and_intros <;> omega) | (simp [ob, obA])) ?_
      refine V_icmpge dX12_be_5 (tgt := 20) (by decide) (by simp only [R32, R64] at *; omega) (fun q5 => ?_) (fun q5 => ?_)
      · refine V_vret dX12_be_20 rfl (by decide) ⟨rfl, congrArg Wm (uI_ext (fun x y => by by_cases c : x = a; subst c; rw [be_a]; exact ga y; rw [be_n c]; exact gx x y c) g2)⟩
      · omega
    | succ k ih =>
      intro j jj G1 hj hjj g2 gx ga
      subst hjj
      have e2 : G1.1 b j = G.1 b j := gx b j (fun q => hab q.symm)
      refine V_ex sX12_be_2 (by simp only [Option.toList, List.cons_append, List.nil_append, exN, ex1, gI, gL, gR, pI, pL, pR, lget, lset1, lset2, kl, b2I, b2L, nob, ob32, ob64, xGet, xPut, xLen, xLd, xLdR, xSt, obA, true_and, and_true, and_self, eq_self, Nat.reduceEqDiff, Nat.zero_ne_one, reduceIte, Nat.reduceLeDiff, and_false, false_and, ha, upd2_eq, Int.reduceToNat, Int.toNat_natCast]; rfl) (by first | exact trivial | exact Or.inr rfl | exact Or.inl rfl | (simp only [ob, obA, R32, R64] at *; omega) | (simp only [ob, obA, R32, R64] at *; and_intros <;> omega) | (simp [ob, obA])) ?_
      refine V_icmpge dX12_be_5 (tgt := 20) (by decide) (by simp only [R32, R64] at *; omega) (fun q5 => ?_) (fun q5 => ?_)
      · omega
      · refine V_ex sX12_be_8 (by simp only [Option.toList, List.cons_append, List.nil_append, exN, ex1, gI, gL, gR, pI, pL, pR, lget, lset1, lset2, kl, b2I, b2L, nob, ob32, ob64, xGet, xPut, xLen, xLd, xLdR, xSt, obA, true_and, and_true, and_self, eq_self, Nat.reduceEqDiff, Nat.zero_ne_one, reduceIte, Nat.reduceLeDiff, and_false, false_and, ha, hb, e2, Int.toNat_natCast, upd2_eq, Int.reduceToNat, Int.toNat_natCast]; rfl) (by (simp only [ob, obA, R32]; and_intros <;> omega)) ?_
        refine V_goto dX12_be_17 (tgt := 2) (by decide) ?_
        exact ih (j + 1) _ _ (by omega) (by omega) g2 (fun x y p => by rw [iv (by intro q; exact p q.1)]; exact gx x y p) (fun y => by by_cases c : y = j; subst c; rw [iu, if_pos (by omega)]; rw [iv (by intro q; exact c q.2), ga]; by_cases c2 : y < j; rw [if_pos c2, if_pos (by omega)]; rw [if_neg c2, if_neg (by omega)])
  refine V_ex sX12_be_0 (by rfl) (by first | exact trivial | exact Or.inr rfl | exact Or.inl rfl | (simp only [ob, obA, R32, R64] at *; omega) | (simp only [ob, obA, R32, R64] at *; and_intros <;> omega) | (simp [ob, obA])) ?_
  exact L n 0 0 G (by omega) rfl rfl (fun _ _ _ => rfl) (fun y => by rw [if_neg (by omega)])
/-- the leaves there and what they are worth -/
def thM (G : Wd) (S : Sh) (j n : Nat) : Prop := G.1 145 56 = ((thL (bkJ S j).2.2.2.2.2 n).length : Nat) ∧ ∀ k (h : k < (thL (bkJ S j).2.2.2.2.2 n).length), G.1 174 k = (thL (bkJ S j).2.2.2.2.2 n)[k]'h ∧ G.2.1 179 k = lfB (cdS S) (bkJ S j) ((thL (bkJ S j).2.2.2.2.2 n)[k]'h)
set_option maxRecDepth 100000 in
set_option maxHeartbeats 4000000 in
theorem c_mTellThere {κ : Kx} (hκ : KOK κ) {d j m : Nat} {S : Sh} {G : Wd} (hM : mS0 G S) (hO : okSh 500 S) (hj : j < S.1.length) (hm : m ≤ 30) (hd : 4 ≤ d) : Ct κ MX12_tellThere d 0 0 [VR 145, VI (j : Nat), VI (m : Nat)] (Wm G) (fun u Ω' => u = some (VI (b2i (decide ((bkJ S j).2.2.1 - ((bkJ S j).2.2.2.2.2.length : Nat) ≤ (m : Int))))) ∧ ∃ G', Ω' = Wm G' ∧ FM [56] [163, 164, 174] [179] G G' ∧ ((bkJ S j).2.2.1 - ((bkJ S j).2.2.2.2.2.length : Nat) ≤ (m : Int) → thM G' S j (bkJ S j).2.2.1.toNat)) noX := by
  refine Ct_of hκ kX12_tellThere.1 rfl (Nat.le_of_ble_eq_true rfl) (ls := [some (VR 145), some (VI (j : Nat)), some (VI (m : Nat)), none]) rfl (fun μ => ?_)
  obtain ⟨m1, m2, m3, m4, m5, m6⟩ := mS0_b hM hj
  obtain ⟨g1, g2, g3, g4, g5⟩ := gone_ok hO hj
  have hj6 : j < 6 := by have := hO.1; omega
  have f0 : FM [56] [163, 164, 174] [179] G (uI G 145 56 0) := (FM.refl _ _ _ G).s (by decide)
  by_cases hth : (bkJ S j).2.2.1 - ((bkJ S j).2.2.2.2.2.length : Nat) ≤ (m : Int)
  · obtain ⟨n, hn⟩ : ∃ n : Nat, n = (bkJ S j).2.2.1.toNat := ⟨_, rfl⟩
    have hlen := thL_len (g := (bkJ S j).2.2.2.2.2) (n := n) g1 (fun z hz => by have := g3 z hz; omega)
    have hl30 : ∀ x, x ≤ n → (thL (bkJ S j).2.2.2.2.2 x).length ≤ 30 := fun x hx => by
      have := thL_le (bkJ S j).2.2.2.2.2 x (n - x)
      rw [show x + (n - x) = n by omega] at this
      omega
    have L : ∀ (k i : Nat) (ii : Int) (G1 : Wd), i + k = n → ii = (i : Int) → FM [56] [163, 164, 174] [179] G G1 → thM G1 S j i → V κ MX12_tellThere (rmD d 0 0) (fun u Ω' => u = some (VI (b2i (decide ((bkJ S j).2.2.1 - ((bkJ S j).2.2.2.2.2.length : Nat) ≤ (m : Int))))) ∧ ∃ G', Ω' = Wm G' ∧ FM [56] [163, 164, 174] [179] G G' ∧ ((bkJ S j).2.2.1 - ((bkJ S j).2.2.2.2.2.length : Nat) ≤ (m : Int) → thM G' S j (bkJ S j).2.2.1.toNat)) noX 0 0 μ 0 0 (Wm (G1)) 26 [some (VR 145), some (VI (j : Nat)), some (VI (m : Nat)), some (VI ii)] [] := by
      intro k
      induction k with
      | zero =>
        intro i ii G1 hik hii f1 t1
        obtain rfl : i = n := by omega
        have m31 : G1.1 151 j = (bkJ S j).2.2.1 := by rw [f1.i (by decide) (by decide)]; exact m3
        refine V_ex sX12_tellThere_26 (by simp only [Option.toList, List.cons_append, List.nil_append, exN, ex1, gI, gL, gR, pI, pL, pR, lget, lset1, lset2, kl, b2I, b2L, nob, ob32, ob64, xGet, xPut, xLen, xLd, xLdR, xSt, obA, true_and, and_true, and_self, eq_self, Nat.reduceEqDiff, Nat.zero_ne_one, reduceIte, Nat.reduceLeDiff, and_false, false_and, show skd 11 6 = 2 from rfl, show LF.1 145 = some (.inl 11) from rfl, show LF.2 145 6 = some 151 from rfl, show LF.1 151 = some (.inr (0, 12)) from rfl, m31, Int.toNat_natCast, upd2_eq, Int.reduceToNat, Int.toNat_natCast]; rfl) (by first | exact trivial | exact Or.inr rfl | exact Or.inl rfl | (simp only [ob, obA, R32, R64] at *; omega) | (simp only [ob, obA, R32, R64] at *; and_intros <;> omega) | (simp [ob, obA])) ?_
        refine V_icmpge dX12_tellThere_33 (tgt := 106) (by decide) (by simp only [R32, R64] at *; omega) (fun q33 => ?_) (fun q33 => ?_)
        · refine V_ex sX12_tellThere_106 (by rfl) (by first | exact trivial | exact Or.inr rfl | exact Or.inl rfl | (simp only [ob, obA, R32, R64] at *; omega) | (simp only [ob, obA, R32, R64] at *; and_intros <;> omega) | (simp [ob, obA])) ?_
          refine V_zret dX12_tellThere_107 rfl (by first | exact Or.inl rfl | exact Or.inr rfl | exact b2i_01 _) (by decide) ⟨by rw [decide_eq_true hth]; rfl, G1, rfl, f1, fun _ => by rw [← hn]; exact t1⟩
        · omega
      | succ k ih =>
        intro i ii G1 hik hii f1 t1
        subst hii
        have m31 : G1.1 151 j = (bkJ S j).2.2.1 := by rw [f1.i (by decide) (by decide)]; exact m3
        have hM1 := mS0_c hM (fun x a b => f1.i (by simp; omega) (by omega))
        by_cases hg : (i : Int) ∈ (bkJ S j).2.2.2.2.2
        · have hs : thL (bkJ S j).2.2.2.2.2 (i + 1) = thL (bkJ S j).2.2.2.2.2 i := by rw [thL, if_pos hg, List.append_nil]
          have nx := ih (i + 1) ((i : Int) + 1) G1 (by omega) (by omega) f1 (by unfold thM; rw [hs]; exact t1)
          refine V_ex sX12_tellThere_26 (by simp only [Option.toList, List.cons_append, List.nil_append, exN, ex1, gI, gL, gR, pI, pL, pR, lget, lset1, lset2, kl, b2I, b2L, nob, ob32, ob64, xGet, xPut, xLen, xLd, xLdR, xSt, obA, true_and, and_true, and_self, eq_self, Nat.reduceEqDiff, Nat.zero_ne_one, reduceIte, Nat.reduceLeDiff, and_false, false_and, show skd 11 6 = 2 from rfl, show LF.1 145 = some (.inl 11) from rfl, show LF.2 145 6 = some 151 from rfl, show LF.1 151 = some (.inr (0, 12)) from rfl, m31, Int.toNat_natCast, upd2_eq, Int.reduceToNat, Int.toNat_natCast]; rfl) (by first | exact trivial | exact Or.inr rfl | exact Or.inl rfl | (simp only [ob, obA, R32, R64] at *; omega) | (simp only [ob, obA, R32, R64] at *; and_intros <;> omega) | (simp [ob, obA])) ?_
          refine V_icmpge dX12_tellThere_33 (tgt := 106) (by decide) (by simp only [R32, R64] at *; omega) (fun q33 => ?_) (fun q33 => ?_)
          · omega
          · refine V_ex sX12_tellThere_36 (by rfl) (by first | exact trivial | exact Or.inr rfl | exact Or.inl rfl | (simp only [ob, obA, R32, R64] at *; omega) | (simp only [ob, obA, R32, R64] at *; and_intros <;> omega) | (simp [ob, obA])) ?_
            refine V_callV (M := MX12_tellThere) (N := MX12_isOut) dX12_tellThere_39 lRX12_389 kX12_isOut rfl (rfl) rfl (c_mIsOut (d := 3) hκ hM1 hO hj (by unfold R32; omega) (by omega)) rfl rfl (Nat.le_of_ble_eq_true rfl) (fit_rm (by omega)) (⟨Nat.le_of_ble_eq_true rfl, Nat.le_of_ble_eq_true rfl⟩) (fun v Ω' hp => ?_) (fun _ _ h => h.elim)
            obtain ⟨rfl, rfl⟩ := hp
            refine V_ifeqB dX12_tellThere_42 (tgt := 48) (by decide) (fun q42 => ?_) (fun q42 => ?_)
            · exact absurd hg (of_decide_eq_false q42)
            · refine V_goto dX12_tellThere_45 (tgt := 100) (by decide) ?_
              refine V_ex sX12_tellThere_100 (by rfl) (by first | exact trivial | exact Or.inr rfl | exact Or.inl rfl | (simp only [ob, obA, R32, R64] at *; omega) | (simp only [ob, obA, R32, R64] at *; and_intros <;> omega) | (simp [ob, obA])) ?_
              refine V_goto dX12_tellThere_103 (tgt := 26) (by decide) ?_
              exact nx
        · have hs : thL (bkJ S j).2.2.2.2.2 (i + 1) = thL (bkJ S j).2.2.2.2.2 i ++ [(i : Int)] := by rw [thL, if_neg hg]
          have hl29 : (thL (bkJ S j).2.2.2.2.2 i).length < 30 := by have := hl30 (i + 1) (by omega); rw [hs, List.length_append, List.length_singleton] at this; omega
          obtain ⟨t56, tk⟩ := t1
          obtain ⟨q, hq⟩ : ∃ q, q = (thL (bkJ S j).2.2.2.2.2 i).length := ⟨_, rfl⟩
          rw [← hq] at t56 hl29
          have e1 : (2 : Int) * (i : Int) + 1 = ((2 * i + 1 : Nat) : Int) := by omega
          have e2 : (2 : Int) * (i : Int) + 2 = ((2 * i + 2 : Nat) : Int) := by omega
          have hlf : lfB (cdS S) (bkJ S j) (i : Int) = numB (cdS S) (bkJ S j) ((2 * i + 1 : Nat) : Int) + numB (cdS S) (bkJ S j) ((2 * i + 2 : Nat) : Int) := by unfold lfB; rw [e1, e2]
          have hR1 := numB_Rc hO hj (p := ((2 * i + 1 : Nat) : Int)) (by omega)
          have hR2 := numB_Rc hO hj (p := ((2 * i + 2 : Nat) : Int)) (by omega)
          have f2 : FM [56] [163, 164, 174] [179] G (uI G1 174 q (i : Int)) := f1.a (by decide)
          have hM2 := mS0_c hM (fun x a b => f2.i (by simp; omega) (by omega))
          have t56' : upd2 G1.1 174 q (i : Int) 145 56 = (q : Int) := (uv (by omega)).trans t56
          have nx : ∀ G4 : Wd, FM [56] [163, 164, 174] [179] G G4 → (∀ y, G4.1 174 y = if y = q then (i : Int) else G1.1 174 y) → (∀ y, G4.2.1 179 y = if y = q then lfB (cdS S) (bkJ S j) (i : Int) else G1.2.1 179 y) → G4.1 145 56 = (q : Int) + 1 → V κ MX12_tellThere (rmD d 0 0) (fun u Ω' => u = some (VI (b2i (decide ((bkJ S j).2.2.1 - ((bkJ S j).2.2.2.2.2.length : Nat) ≤ (m : Int))))) ∧ ∃ G', Ω' = Wm G' ∧ FM [56] [163, 164, 174] [179] G G' ∧ ((bkJ S j).2.2.1 - ((bkJ S j).2.2.2.2.2.length : Nat) ≤ (m : Int) → thM G' S j (bkJ S j).2.2.1.toNat)) noX 0 0 μ 0 0 (Wm (G4)) 26 [some (VR 145), some (VI (j : Nat)), some (VI (m : Nat)), some (VI ((i : Int) + 1))] [] := fun G4 f4 h1 h2 h3 => by
            refine ih (i + 1) _ G4 (by omega) (by omega) f4 ⟨by rw [hs, List.length_append, ← hq, h3]; simp, fun y hy => ?_⟩
            have hy2 : y < (thL (bkJ S j).2.2.2.2.2 i ++ [(i : Int)]).length := by rw [← hs]; exact hy
            have hg2 : (thL (bkJ S j).2.2.2.2.2 (i + 1))[y]'hy = (thL (bkJ S j).2.2.2.2.2 i ++ [(i : Int)])[y]'hy2 := List.getElem_of_eq hs hy
            rw [hg2, h1, h2]
            by_cases c : y < (thL (bkJ S j).2.2.2.2.2 i).length
            · rw [List.getElem_append_left c, if_neg (by omega), if_neg (by omega)]; exact tk y c
            · have e : y = q := by rw [List.length_append] at hy2; simp at hy2; omega
              rw [if_pos e, if_pos e, List.getElem_append_right (by omega)]
              simp
          refine V_ex sX12_tellThere_26 (by simp only [Option.toList, List.cons_append, List.nil_append, exN, ex1, gI, gL, gR, pI, pL, pR, lget, lset1, lset2, kl, b2I, b2L, nob, ob32, ob64, xGet, xPut, xLen, xLd, xLdR, xSt, obA, true_and, and_true, and_self, eq_self, Nat.reduceEqDiff, Nat.zero_ne_one, reduceIte, Nat.reduceLeDiff, and_false, false_and, show skd 11 6 = 2 from rfl, show LF.1 145 = some (.inl 11) from rfl, show LF.2 145 6 = some 151 from rfl, show LF.1 151 = some (.inr (0, 12)) from rfl, m31, Int.toNat_natCast, upd2_eq, Int.reduceToNat, Int.toNat_natCast]; rfl) (by first | exact trivial | exact Or.inr rfl | exact Or.inl rfl | (simp only [ob, obA, R32, R64] at *; omega) | (simp only [ob, obA, R32, R64] at *; and_intros <;> omega) | (simp [ob, obA])) ?_
          refine V_icmpge dX12_tellThere_33 (tgt := 106) (by decide) (by simp only [R32, R64] at *; omega) (fun q33 => ?_) (fun q33 => ?_)
          · omega
          · refine V_ex sX12_tellThere_36 (by rfl) (by first | exact trivial | exact Or.inr rfl | exact Or.inl rfl | (simp only [ob, obA, R32, R64] at *; omega) | (simp only [ob, obA, R32, R64] at *; and_intros <;> omega) | (simp [ob, obA])) ?_
            refine V_callV (M := MX12_tellThere) (N := MX12_isOut) dX12_tellThere_39 lRX12_389 kX12_isOut rfl (rfl) rfl (c_mIsOut (d := 3) hκ hM1 hO hj (by unfold R32; omega) (by omega)) rfl rfl (Nat.le_of_ble_eq_true rfl) (fit_rm (by omega)) (⟨Nat.le_of_ble_eq_true rfl, Nat.le_of_ble_eq_true rfl⟩) (fun v Ω' hp => ?_) (fun _ _ h => h.elim)
            obtain ⟨rfl, rfl⟩ := hp
            refine V_ifeqB dX12_tellThere_42 (tgt := 48) (by decide) (fun q42 => ?_) (fun q42 => ?_)
            · refine V_ex sX12_tellThere_48 (by simp only [Option.toList, List.cons_append, List.nil_append, exN, ex1, gI, gL, gR, pI, pL, pR, lget, lset1, lset2, kl, b2I, b2L, nob, ob32, ob64, xGet, xPut, xLen, xLd, xLdR, xSt, obA, true_and, and_true, and_self, eq_self, Nat.reduceEqDiff, Nat.zero_ne_one, reduceIte, Nat.reduceLeDiff, and_false, false_and, show skd 11 49 = 2 from rfl, show skd 11 56 = 0 from rfl, show skd 11 54 = 2 from rfl, show LF.1 145 = some (.inl 11) from rfl, show LF.2 145 49 = some 174 from rfl, show LF.1 174 = some (.inr (0, 30)) from rfl, show LF.2 145 54 = some 179 from rfl, t56, t56', e1, Int.toNat_natCast, upd2_eq, Int.reduceToNat, Int.toNat_natCast]; rfl) (by first | exact trivial | exact Or.inr rfl | exact Or.inl rfl | (simp only [ob, obA, R32, R64] at *; omega) | (simp only [ob, obA, R32, R64] at *; and_intros <;> omega) | (simp [ob, obA])) ?_
              refine V_callV (M := MX12_tellThere) (N := MX12_numberOn) dX12_tellThere_73 lRX12_393 kX12_numberOn rfl (rfl) rfl (c_mNumOn (d := 3) hκ (p := 2 * i + 1) hM2 hO hj (by omega) (by omega)) rfl rfl (Nat.le_of_ble_eq_true rfl) (fit_rm (by omega)) (⟨Nat.le_of_ble_eq_true rfl, Nat.le_of_ble_eq_true rfl⟩) (fun v Ω' hp => ?_) (fun _ _ h => h.elim)
              obtain ⟨rfl, G2, rfl, f3⟩ := hp
              have f23 := f2.trans (f3.mono (by decide) (by decide) (by decide))
              have hM3 := mS0_c hM (fun x a b => f23.i (by simp; omega) (by omega))
              refine V_ex sX12_tellThere_76 (by simp only [Option.toList, List.cons_append, List.nil_append, exN, ex1, gI, gL, gR, pI, pL, pR, lget, lset1, lset2, kl, b2I, b2L, nob, ob32, ob64, xGet, xPut, xLen, xLd, xLdR, xSt, obA, true_and, and_true, and_self, eq_self, Nat.reduceEqDiff, Nat.zero_ne_one, reduceIte, Nat.reduceLeDiff, and_false, false_and, e2, upd2_eq, Int.reduceToNat, Int.toNat_natCast]; rfl) (by first | exact trivial | exact Or.inr rfl | exact Or.inl rfl | (simp only [ob, obA, R32, R64] at *; omega) | (simp only [ob, obA, R32, R64] at *; and_intros <;> omega) | (simp [ob, obA])) ?_
              refine V_callV (M := MX12_tellThere) (N := MX12_numberOn) dX12_tellThere_84 lRX12_393 kX12_numberOn rfl (rfl) rfl (c_mNumOn (d := 3) hκ (p := 2 * i + 2) hM3 hO hj (by omega) (by omega)) rfl rfl (Nat.le_of_ble_eq_true rfl) (fit_rm (by omega)) (⟨Nat.le_of_ble_eq_true rfl, Nat.le_of_ble_eq_true rfl⟩) (fun v Ω' hp => ?_) (fun _ _ h => h.elim)
              obtain ⟨rfl, G3, rfl, f4⟩ := hp
              have f24 := f23.trans (f4.mono (by decide) (by decide) (by decide))
              have f34 := f3.trans f4
              have c56 : G3.1 145 56 = (q : Int) := (f34.i5 (by decide) (by decide)).trans t56'
              have c174 : ∀ y, G3.1 174 y = if y = q then (i : Int) else G1.1 174 y := fun y => by
                rw [f34.i (by decide) (by decide)]
                by_cases c : y = q
                · subst c; rw [if_pos rfl]; exact iu
                · rw [if_neg c]; exact uv (by omega)
              have c179 : ∀ y, G3.2.1 179 y = G1.2.1 179 y := fun y => by rw [f34.l (by decide) (by decide)]
              have gx := nx (uI (uL G3 179 q (numB (cdS S) (bkJ S j) ((2 * i + 1 : Nat) : Int) + numB (cdS S) (bkJ S j) ((2 * i + 2 : Nat) : Int))) 145 56 ((q : Int) + 1)) ((f24.b (by decide)).s (by decide)) (fun y => by show upd2 G3.1 145 56 ((q : Int) + 1) 174 y = _; rw [uv (by omega)]; exact c174 y) (fun y => by
                show upd2 G3.2.1 179 q _ 179 y = _
                by_cases c : y = q
                · subst c; rw [if_pos rfl, hlf]; exact upd2_same ..
                · rw [if_neg c, uv (by omega)]; exact c179 y) iu
              refine V_ex sX12_tellThere_87 (by simp only [Option.toList, List.cons_append, List.nil_append, exN, ex1, gI, gL, gR, pI, pL, pR, lget, lset1, lset2, kl, b2I, b2L, nob, ob32, ob64, xGet, xPut, xLen, xLd, xLdR, xSt, obA, true_and, and_true, and_self, eq_self, Nat.reduceEqDiff, Nat.zero_ne_one, reduceIte, Nat.reduceLeDiff, and_false, false_and, show skd 11 56 = 0 from rfl, show LF.1 179 = some (.inr (1, 30)) from rfl, show LF.1 145 = some (.inl 11) from rfl, c56, Int.toNat_natCast, upd2_eq, Int.reduceToNat, Int.toNat_natCast]; rfl) (by first | exact trivial | exact Or.inr rfl | exact Or.inl rfl | (simp only [ob, obA, R32, R64] at *; omega) | (simp only [ob, obA, R32, R64] at *; and_intros <;> omega) | (simp [ob, obA])) ?_
              refine V_ex sX12_tellThere_100 (by rfl) (by first | exact trivial | exact Or.inr rfl | exact Or.inl rfl | (simp only [ob, obA, R32, R64] at *; omega) | (simp only [ob, obA, R32, R64] at *; and_intros <;> omega) | (simp [ob, obA])) ?_
              refine V_goto dX12_tellThere_103 (tgt := 26) (by decide) ?_
              exact gx
            · exact absurd (of_decide_eq_true q42) hg
    refine V_ex sX12_tellThere_0 (by simp only [Option.toList, List.cons_append, List.nil_append, exN, ex1, gI, gL, gR, pI, pL, pR, lget, lset1, lset2, kl, b2I, b2L, nob, ob32, ob64, xGet, xPut, xLen, xLd, xLdR, xSt, obA, true_and, and_true, and_self, eq_self, Nat.reduceEqDiff, Nat.zero_ne_one, reduceIte, Nat.reduceLeDiff, and_false, false_and, show skd 11 56 = 0 from rfl, show skd 11 6 = 2 from rfl, show skd 11 7 = 2 from rfl, show LF.1 145 = some (.inl 11) from rfl, show LF.2 145 6 = some 151 from rfl, show LF.1 151 = some (.inr (0, 12)) from rfl, show LF.2 145 7 = some 152 from rfl, show LF.1 152 = some (.inr (0, 12)) from rfl, asn (show 151 ≠ 145 by decide), asn (show 152 ≠ 145 by decide), m3, m5, Int.toNat_natCast, upd2_eq, Int.reduceToNat, Int.toNat_natCast]; rfl) (by first | exact trivial | exact Or.inr rfl | exact Or.inl rfl | (simp only [ob, obA, R32, R64] at *; omega) | (simp only [ob, obA, R32, R64] at *; and_intros <;> omega) | (simp [ob, obA])) ?_
    refine V_icmple dX12_tellThere_19 (tgt := 24) (by decide) (by simp only [R32, R64] at *; omega) (fun q19 => ?_) (fun q19 => ?_)
    · refine V_ex sX12_tellThere_24 (by rfl) (by first | exact trivial | exact Or.inr rfl | exact Or.inl rfl | (simp only [ob, obA, R32, R64] at *; omega) | (simp only [ob, obA, R32, R64] at *; and_intros <;> omega) | (simp [ob, obA])) ?_
      exact L n 0 0 _ (by omega) rfl f0 ⟨iu, fun k h => absurd h (Nat.not_lt_zero _)⟩
    · omega
  · refine V_ex sX12_tellThere_0 (by simp only [Option.toList, List.cons_append, List.nil_append, exN, ex1, gI, gL, gR, pI, pL, pR, lget, lset1, lset2, kl, b2I, b2L, nob, ob32, ob64, xGet, xPut, xLen, xLd, xLdR, xSt, obA, true_and, and_true, and_self, eq_self, Nat.reduceEqDiff, Nat.zero_ne_one, reduceIte, Nat.reduceLeDiff, and_false, false_and, show skd 11 56 = 0 from rfl, show skd 11 6 = 2 from rfl, show skd 11 7 = 2 from rfl, show LF.1 145 = some (.inl 11) from rfl, show LF.2 145 6 = some 151 from rfl, show LF.1 151 = some (.inr (0, 12)) from rfl, show LF.2 145 7 = some 152 from rfl, show LF.1 152 = some (.inr (0, 12)) from rfl, asn (show 151 ≠ 145 by decide), asn (show 152 ≠ 145 by decide), m3, m5, Int.toNat_natCast, upd2_eq, Int.reduceToNat, Int.toNat_natCast]; rfl) (by first | exact trivial | exact Or.inr rfl | exact Or.inl rfl | (simp only [ob, obA, R32, R64] at *; omega) | (simp only [ob, obA, R32, R64] at *; and_intros <;> omega) | (simp [ob, obA])) ?_
    refine V_icmple dX12_tellThere_19 (tgt := 24) (by decide) (by simp only [R32, R64] at *; omega) (fun q19 => ?_) (fun q19 => ?_)
    · omega
    · refine V_ex sX12_tellThere_22 (by rfl) (by first | exact trivial | exact Or.inr rfl | exact Or.inl rfl | (simp only [ob, obA, R32, R64] at *; omega) | (simp only [ob, obA, R32, R64] at *; and_intros <;> omega) | (simp [ob, obA])) ?_
      refine V_zret dX12_tellThere_23 rfl (by first | exact Or.inl rfl | exact Or.inr rfl | exact b2i_01 _) (by decide) ⟨by rw [decide_eq_false hth]; rfl, _, rfl, f0, fun q => absurd q hth⟩
