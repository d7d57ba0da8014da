/-! ShelfReader: a book -/
/-- a book begun at b -/
def bF (s b n : Nat) (k mk : Int) (j : Nat) (G G' : Wd) : Prop := G'.2 = G.2 ∧ (∀ x y, ¬ (b ≤ x ∧ x ≤ b + 2) → ¬ (x = s ∧ y = 1) → ¬ (x = 4 ∧ y = 6) → G'.1 x y = G.1 x y) ∧ G'.1 s 1 = ((n + 1 : Nat) : Int) ∧ G'.1 b 0 = k ∧ G'.1 b 2 = mk ∧ G'.1 b 3 = 0 ∧ G'.1 b 4 = 0 ∧ lsIs G' (b + 1) [] ∧ G'.1 4 6 = (j : Nat)
theorem bkBegin_ne {G : Wd} {a x : Nat} {kind : Int} (h : ¬ (a ≤ x ∧ x ≤ a + 2)) : (bkBegin G a kind).1 x = G.1 x := by
  unfold bkBegin
  rw [lsEmpty_ne (by omega) (by omega)]
  funext y; simp only [upd2_eq]
  rw [if_neg (by omega), if_neg (by omega), if_neg (by omega), if_neg (by omega), if_neg (by omega)]
theorem bkBegin_f {G : Wd} {a : Nat} {kind : Int} : (bkBegin G a kind).1 a 0 = kind ∧ (bkBegin G a kind).1 a 2 = 0 ∧ (bkBegin G a kind).1 a 3 = 0 ∧ (bkBegin G a kind).1 a 4 = 0 ∧ lsIs (bkBegin G a kind) (a + 1) [] := by
  have e : (bkBegin G a kind).1 a = (uI (uI (uI (uI (uI G a 0 kind) a 1 0) a 2 0) a 3 0) a 4 0).1 a := by unfold bkBegin; rw [lsEmpty_ne (by omega) (by omega)]
  refine ⟨?_, ?_, ?_, ?_, lsIs_empty _ _⟩ <;> (rw [e]; simp [upd2_eq])
set_option maxRecDepth 100000 in
set_option maxHeartbeats 4000000 in
theorem c_rBook {κ : Kx} (hκ : KOK κ) {d s N : Nat} {w v : Nat → Int} {S : Sh} (hE : eE s w v N) {G : Wd} {i : Nat} (h : lH s w v N G i S) (hd : 46 ≤ d) : Ct κ MX8_readBook d 0 0 [VR 3, VR s] (Wm G) (lP s G (if 256 ≤ w i ∧ w i ≤ 262 then pBook w v (w i - 256) i S else (i, 1, S))) noX := by
  refine Ct_of hκ kX8_readBook.1 rfl (Nat.le_of_ble_eq_true rfl) (ls := [some (VR 3), some (VR s), none, none, none]) rfl (fun μ => ?_)
  have hE0 := hE
  obtain ⟨hS, hT, hN, hw⟩ := hE
  obtain ⟨hr, hi, hiN, hC, hO⟩ := h
  have hC0 := hC
  obtain ⟨h1, h2, h3, -, -, h6, hcd⟩ := hC
  obtain ⟨s1, s2, s3, s4, s5, s6, s7, s8⟩ := hO
  have h8 := sh_8 hS
  have h1S := (sh_facts hS).1
  have e5 := (hr i (by omega)).1
  have hwi := hw i (by omega)
  by_cases hk : 256 ≤ w i ∧ w i ≤ 262
  · rw [if_pos hk]
    generalize hkk : w i - 256 = k
    have hk7 : 0 ≤ k ∧ k ≤ 6 := by omega
    by_cases hn : 6 ≤ S.1.length
    · have hP : pBook w v k i S = (i, 2, S) := by rw [pBook, if_pos hn]
      refine V_ex sX8_readBook_0 (by simp only [Option.toList, List.cons_append, List.nil_append, exN, ex1, gI, gL, gR, pI, pL, pR, lget, lset1, lset2, kl, b2I, b2L, nob, ob32, ob64, xGet, xPut, xLen, xLd, xLdR, xSt, obA, true_and, and_true, and_self, eq_self, Nat.reduceEqDiff, Nat.zero_ne_one, reduceIte, Nat.reduceLeDiff, and_false, false_and, show skd 7 0 = 2 from rfl, show LF.1 3 = some (.inl 7) from rfl, show LF.2 3 0 = some 4 from rfl, upd2_eq, Int.reduceToNat, Int.toNat_natCast]; rfl) (by first | exact trivial | exact Or.inr rfl | exact Or.inl rfl | (simp only [ob, obA, R32, R64] at *; omega) | (simp only [ob, obA, R32, R64] at *; and_intros <;> omega)) ?_
      refine V_callV (M := MX8_readBook) (N := MX9_what) dX8_readBook_4 lRX8_55 kX9_what rfl (rfl) rfl (c_tWhat (d := 0) hκ hi (by omega)) rfl rfl (Nat.le_of_ble_eq_true rfl) (fit_rm (by omega)) (⟨Nat.le_of_ble_eq_true rfl, Nat.le_of_ble_eq_true rfl⟩) (fun v Ω' hp => ?_) (fun _ _ h => h.elim)
      obtain ⟨rfl, rfl⟩ := hp
      rw [e5]
      refine V_ex sX8_readBook_7 (by simp only [Option.toList, List.cons_append, List.nil_append, exN, ex1, gI, gL, gR, pI, pL, pR, lget, lset1, lset2, kl, b2I, b2L, nob, ob32, ob64, xGet, xPut, xLen, xLd, xLdR, xSt, obA, true_and, and_true, and_self, eq_self, Nat.reduceEqDiff, Nat.zero_ne_one, reduceIte, Nat.reduceLeDiff, and_false, false_and, hkk, upd2_eq, Int.reduceToNat, Int.toNat_natCast]; rfl) (by first | exact trivial | exact Or.inr rfl | exact Or.inl rfl | (simp only [ob, obA, R32, R64] at *; omega) | (simp only [ob, obA, R32, R64] at *; and_intros <;> omega)) ?_
      refine V_iflt dX8_readBook_13 (tgt := 22) (by decide) (by simp only [R32, R64] at *; omega) (fun q13 => ?_) (fun q13 => ?_)
      · omega
      · refine V_ex sX8_readBook_16 (by rfl) (by first | exact trivial | exact Or.inr rfl | exact Or.inl rfl | (simp only [ob, obA, R32, R64] at *; omega) | (simp only [ob, obA, R32, R64] at *; and_intros <;> omega)) ?_
        refine V_icmple dX8_readBook_19 (tgt := 28) (by decide) (by simp only [R32, R64] at *; omega) (fun q19 => ?_) (fun q19 => ?_)
        · refine V_ex sX8_readBook_28 (by rfl) (by first | exact trivial | exact Or.inr rfl | exact Or.inl rfl | (simp only [ob, obA, R32, R64] at *; omega) | (simp only [ob, obA, R32, R64] at *; and_intros <;> omega)) ?_
          refine V_callV (M := MX8_readBook) (N := MX7_nextBook) dX8_readBook_30 lRX8_70 kX7_nextBook rfl (h1S) rfl (c_nextBook6 (d := 2) hκ hS (by rw [h1]; omega) (by omega)) rfl rfl (Nat.le_of_ble_eq_true rfl) (fit_rm (by omega)) (⟨Nat.le_of_ble_eq_true rfl, Nat.le_of_ble_eq_true rfl⟩) (fun v Ω' hp => ?_) (fun _ _ h => h.elim)
          obtain ⟨rfl, rfl⟩ := hp
          refine V_ex sX8_readBook_33 (by rfl) (by first | exact trivial | exact Or.inr rfl | exact Or.inl rfl | (simp only [ob, obA, R32, R64] at *; omega) | (simp only [ob, obA, R32, R64] at *; and_intros <;> omega)) ?_
          refine V_ifnonnull dX8_readBook_35 (tgt := 44) (by decide) (fun q35 => ?_) (fun q35 => ?_)
          · exact absurd rfl q35
          · refine V_ex sX8_readBook_38 (by rfl) (by first | exact trivial | exact Or.inr rfl | exact Or.inl rfl | (simp only [ob, obA, R32, R64] at *; omega) | (simp only [ob, obA, R32, R64] at *; and_intros <;> omega)) ?_
            refine V_callV (M := MX8_readBook) (N := MX8_refuse) dX8_readBook_40 lRX8_49 kX8_refuse rfl (rfl) rfl (c_rRefuse (d := 2) hκ) rfl rfl (Nat.le_of_ble_eq_true rfl) (fit_rm (by omega)) (⟨Nat.le_of_ble_eq_true rfl, Nat.le_of_ble_eq_true rfl⟩) (fun v Ω' hp => ?_) (fun _ _ h => h.elim)
            obtain ⟨rfl, rfl⟩ := hp
            refine V_zret dX8_readBook_43 rfl (by first | exact Or.inl rfl | exact Or.inr rfl | exact b2i_01 _) (by decide) (by rw [hP]; exact lP_no (show (2 : Int) ≠ 0 by decide) ((FS.sh s G 7 (by omega)).trans (FS.fnd s _ _)) (by rw [at_fnd (by omega)]; show (uI G s 1 7).1 4 6 = _; simp only [upd2_eq]; rw [if_neg (by omega)]; exact hi) of_fnd)
        · omega
    · clear h2 s4
      generalize hn0 : S.1.length = n at *
      have hB := (sh_books hS n (by omega)).2
      generalize hb0 : s + 7 + 5 * n = b at *
      have h1B := hB.1
      have hb8 : 8 ≤ b := by omega
      have hbs : s < b ∧ b + 2 ≤ s + 52 ∧ s + 7 ≤ b := by omega
      generalize hG1 : bkBegin (uI G s 1 (((n : Nat) : Int) + 1)) b k = G1
      have f0 := bkBegin_f (G := uI G s 1 (((n : Nat) : Int) + 1)) (a := b) (kind := k)
      have fn : ∀ x y, ¬ (b ≤ x ∧ x ≤ b + 2) → ¬ (x = s ∧ y = 1) → G1.1 x y = G.1 x y := fun x y p q => by rw [← hG1, bkBegin_ne p]; simp only [upd2_eq]; rw [if_neg q]
      have f12 : G1.2 = G.2 := by rw [← hG1]; rfl
      have f11 : G1.1 s 1 = ((n + 1 : Nat) : Int) := by rw [← hG1, bkBegin_ne (by omega)]; simp only [upd2_eq]; rw [if_pos ⟨trivial, trivial⟩]; omega
      rw [hG1] at f0
      have hi1 : G1.1 4 6 = (i : Nat) := by rw [fn _ _ (by omega) (by omega)]; exact hi
      -- the book behind its mark
      have T : ∀ (mk : Int) (j : Nat) (G3 : Wd), bF s b n k mk j G G3 → i < j → j ≤ N → pBook w v k i S = pBk2 w v k mk j S → V κ MX8_readBook (rmD d 0 0) (lP s G (pBook w v k i S)) noX 0 0 μ 0 0 (Wm G3) 59 [some (VR 3), some (VR s), some (VI k), some (VR b), none] [] := by
        intro mk j G3 hF hij hj hP
        obtain ⟨g2, gn, g1, gk, gm, g3, g4, gl, gc⟩ := hF
        have hr3 : rdT G3 w v N := fun y hy => by rw [gn _ _ (by omega) (by omega) (by omega), gn _ _ (by omega) (by omega) (by omega)]; exact hr y hy
        have fs3 : FS s G G3 := ⟨g2, fun x y p c e => gn x y (by omega) (by omega) c⟩
        have hvj := hT.2 j
        generalize hG4 : uI (uI G3 b 1 (v j)) 4 6 ((j : Int) + 1) = G4
        have fs4 : FS s G G4 := by rw [← hG4]; exact (fs3.trans (FS.sh s _ _ (by omega))).trans (FS.cur s _ _)
        have m4 : ∀ x y, ¬ (x = b ∧ y = 1) → ¬ (x = 4 ∧ y = 6) → G4.1 x y = G3.1 x y := fun x y p q => by rw [← hG4, at_cur q]; simp only [upd2_eq]; rw [if_neg p]
        have c4 : G4.1 4 6 = ((j + 1 : Nat) : Int) := by rw [← hG4, of_cur]; omega
        have l4 : G4.1 b 1 = v j := by rw [← hG4, at_cur (by omega)]; simp only [upd2_eq]; rw [if_pos ⟨trivial, trivial⟩]
        have ls4 : lsIs G4 (b + 1) [] := lsIs_congr gl (m4 _ _ (by omega) (by omega)) (by funext y; exact m4 _ _ (by omega) (by omega))
        have hr4 := fs4.rd hS hr
        have cd4 : codeIs G4 s S.2.2.2.2 := ⟨by rw [m4 _ _ (by omega) (by omega), gn _ _ (by omega) (by omega) (by omega)]; exact hcd.1, fun y hy => by rw [m4 _ _ (by omega) (by omega), gn _ _ (by omega) (by omega) (by omega)]; exact hcd.2 y hy⟩
        by_cases hl : rLc w v k j = 0
        · have hlW : lcW w v b k j G3 = G4 := by rw [lcW, if_pos hl, hG4]
          have hl' := hl
          unfold rLc at hl'
          split at hl'
          · exact absurd hl' (by decide)
          rename_i hodd
          obtain ⟨q1, q2, q3⟩ := pNum_0 hl'
          have hjN := pTok_lt hT hj (by omega)
          have hw1 := hw (j + 1) (by omega)
          by_cases hk6 : k = 6
          · by_cases hby : w (j + 1) = 263
            · have hjN2 := pTok_lt hT (show j + 1 ≤ N by omega) (by omega)
              have hP2 : pBook w v k i S = ((pOr w v 6 (j + 2, 0, S.2.2.2.2)).1, (pOr w v 6 (j + 2, 0, S.2.2.2.2)).2.1, (S.1 ++ [(k, mk, v j, ((S.2.2.2.2.length : Nat) : Int), (((pOr w v 6 (j + 2, 0, S.2.2.2.2)).2.2.length : Nat) : Int), ([] : List Int))], S.2.1, S.2.2.1, S.2.2.2.1, (pOr w v 6 (j + 2, 0, S.2.2.2.2)).2.2)) := by
                rw [hP, pBk2, if_neg hodd, if_neg (not_not_intro hl'), if_neg (not_not_intro hk6), if_neg (not_not_intro hby)]
              have e54 := (hr4 (j + 1) (by omega)).1
              generalize hG6 : uI (uI G4 4 6 ((j + 1 : Nat) + 1 : Int)) b 3 ((S.2.2.2.2.length : Nat) : Int) = G6
              have m6 : ∀ x y, ¬ (x = b ∧ y = 3) → ¬ (x = 4 ∧ y = 6) → G6.1 x y = G4.1 x y := fun x y p q => by rw [← hG6]; simp only [upd2_eq]; rw [if_neg p, if_neg q]
              have fs6 : FS s G G6 := by rw [← hG6]; exact (fs4.trans (FS.cur s _ _)).trans (FS.sh s _ _ (by omega))
              have c6 : G6.1 4 6 = ((j + 2 : Nat) : Int) := by rw [← hG6]; simp only [upd2_eq]; rw [if_neg (by omega), if_pos ⟨trivial, trivial⟩]; omega
              have cd6 : codeIs G6 s S.2.2.2.2 := ⟨by rw [m6 _ _ (by omega) (by omega)]; exact cd4.1, fun y hy => by rw [m6 _ _ (by omega) (by omega)]; exact cd4.2 y hy⟩
              have b63 : G6.1 b 3 = ((S.2.2.2.2.length : Nat) : Int) := by rw [← hG6]; simp only [upd2_eq]; rw [if_pos ⟨trivial, trivial⟩]
              have hOr : Ct κ MX8_readOr 45 0 0 [VR 3, VR s, VI 0] (Wm G6) (eP s G6 (j + 2) (pOr w v 6 (j + 2, 0, S.2.2.2.2))) noX := c_readOr hκ hE0 6 (by decide) G6 (j + 2) S.2.2.2.2 ⟨fs6.rd hS hr, c6, by omega, cd6, by omega⟩
              have cm : upd2 G4.1 4 6 ((j + 1 : Nat) + 1 : Int) s 8 = ((S.2.2.2.2.length : Nat) : Int) := by simp only [upd2_eq]; rw [if_neg (by omega)]; exact cd4.1
              refine V_ex sX8_readBook_59 (by rfl) (by first | exact trivial | exact Or.inr rfl | exact Or.inl rfl | (simp only [ob, obA, R32, R64] at *; omega) | (simp only [ob, obA, R32, R64] at *; and_intros <;> omega)) ?_
              refine V_callV (M := MX8_readBook) (N := MX8_readLeafCount) dX8_readBook_61 lRX8_78 kX8_readLeafCount rfl (rfl) rfl (c_rLeafCount (d := 2) hκ hr3 hT gc hj hN hw hB hb8 gk (by unfold R32; omega) (by omega)) rfl rfl (Nat.le_of_ble_eq_true rfl) (fit_rm (by omega)) (⟨Nat.le_of_ble_eq_true rfl, Nat.le_of_ble_eq_true rfl⟩) (fun v Ω' hp => ?_) (fun _ _ h => h.elim)
              obtain ⟨rfl, rfl⟩ := hp
              rw [hlW]
              refine V_ifneB dX8_readBook_64 (tgt := 69) (by decide) (fun q64 => ?_) (fun q64 => ?_)
              · refine V_ex sX8_readBook_69 (by rfl) (by first | exact trivial | exact Or.inr rfl | exact Or.inl rfl | (simp only [ob, obA, R32, R64] at *; omega) | (simp only [ob, obA, R32, R64] at *; and_intros <;> omega)) ?_
                refine V_icmpeq dX8_readBook_72 (tgt := 77) (by decide) (by simp only [R32, R64] at *; omega) (fun q72 => ?_) (fun q72 => ?_)
                · refine V_ex sX8_readBook_77 (by simp only [Option.toList, List.cons_append, List.nil_append, exN, ex1, gI, gL, gR, pI, pL, pR, lget, lset1, lset2, kl, b2I, b2L, nob, ob32, ob64, xGet, xPut, xLen, xLd, xLdR, xSt, obA, true_and, and_true, and_self, eq_self, Nat.reduceEqDiff, Nat.zero_ne_one, reduceIte, Nat.reduceLeDiff, and_false, false_and, show skd 7 0 = 2 from rfl, show LF.1 3 = some (.inl 7) from rfl, show LF.2 3 0 = some 4 from rfl, upd2_eq, Int.reduceToNat, Int.toNat_natCast]; rfl) (by first | exact trivial | exact Or.inr rfl | exact Or.inl rfl | (simp only [ob, obA, R32, R64] at *; omega) | (simp only [ob, obA, R32, R64] at *; and_intros <;> omega)) ?_
                  refine V_callV (M := MX8_readBook) (N := MX9_is) dX8_readBook_84 lRX8_37 kX9_is rfl (rfl) rfl (c_tIs (d := 2) hκ c4 (by omega) (by rw [e54]; unfold R32; omega) (by unfold R32; omega)) rfl rfl (Nat.le_of_ble_eq_true rfl) (fit_rm (by omega)) (⟨Nat.le_of_ble_eq_true rfl, Nat.le_of_ble_eq_true rfl⟩) (fun v Ω' hp => ?_) (fun _ _ h => h.elim)
                  obtain ⟨rfl, rfl⟩ := hp
                  rw [e54]
                  refine V_ifneB dX8_readBook_87 (tgt := 96) (by decide) (fun q87 => ?_) (fun q87 => ?_)
                  · refine V_ex sX8_readBook_96 (by simp only [Option.toList, List.cons_append, List.nil_append, exN, ex1, gI, gL, gR, pI, pL, pR, lget, lset1, lset2, kl, b2I, b2L, nob, ob32, ob64, xGet, xPut, xLen, xLd, xLdR, xSt, obA, true_and, and_true, and_self, eq_self, Nat.reduceEqDiff, Nat.zero_ne_one, reduceIte, Nat.reduceLeDiff, and_false, false_and, show skd 7 0 = 2 from rfl, show LF.1 3 = some (.inl 7) from rfl, show LF.2 3 0 = some 4 from rfl, upd2_eq, Int.reduceToNat, Int.toNat_natCast]; rfl) (by first | exact trivial | exact Or.inr rfl | exact Or.inl rfl | (simp only [ob, obA, R32, R64] at *; omega) | (simp only [ob, obA, R32, R64] at *; and_intros <;> omega)) ?_
                    refine V_callV (M := MX8_readBook) (N := MX9_advance) dX8_readBook_100 lRX8_52 kX9_advance rfl (rfl) rfl (c_tAdvance (d := 2) hκ) rfl rfl (Nat.le_of_ble_eq_true rfl) (fit_rm (by omega)) (⟨Nat.le_of_ble_eq_true rfl, Nat.le_of_ble_eq_true rfl⟩) (fun v Ω' hp => ?_) (fun _ _ h => h.elim)
                    obtain ⟨rfl, rfl⟩ := hp
                    rw [c4]
                    refine V_ex sX8_readBook_103 (by simp only [Option.toList, List.cons_append, List.nil_append, exN, ex1, gI, gL, gR, pI, pL, pR, lget, lset1, lset2, kl, b2I, b2L, nob, ob32, ob64, xGet, xPut, xLen, xLd, xLdR, xSt, obA, true_and, and_true, and_self, eq_self, Nat.reduceEqDiff, Nat.zero_ne_one, reduceIte, Nat.reduceLeDiff, and_false, false_and, show skd 6 8 = 0 from rfl, show skd 0 3 = 0 from rfl, cm, upd2_eq, Int.reduceToNat, Int.toNat_natCast]; rfl) (by first | exact trivial | exact Or.inr rfl | exact Or.inl rfl | (simp only [ob, obA, R32, R64] at *; omega) | (simp only [ob, obA, R32, R64] at *; and_intros <;> omega)) ?_
                    rw [show ((LF, none, upd2 (upd2 G4.1 4 6 (((j + 1 : Nat) : Int) + 1)) b 3 ((S.2.2.2.2.length : Nat) : Int), G4.2) : Om) = Wm G6 from by rw [← hG6]]
                    refine V_callV (M := MX8_readBook) (N := MX8_readOr) dX8_readBook_114 lRX8_89 kX8_readOr rfl (rfl) rfl (hOr) rfl rfl (Nat.le_of_ble_eq_true rfl) (fit_rm (by omega)) (⟨Nat.le_of_ble_eq_true rfl, Nat.le_of_ble_eq_true rfl⟩) (fun v Ω' hp => ?_) (fun _ _ h => h.elim)
                    obtain ⟨rfl, G7, rfl, f7, a7, b7, c7, d7, e7⟩ := hp
                    rw [hP2]
                    generalize pOr w v 6 (j + 2, 0, S.2.2.2.2) = r at *
                    have m7 : ∀ x y, x ≠ s + 5 → ¬ (x = 4 ∧ y = 6) → ¬ (x = 3 ∧ y = 1) → ¬ (x = s ∧ y = 8) → G7.1 x y = G6.1 x y := f7.2
                    have fs8 : FS s G (uI G7 b 4 (G7.1 s 8)) := (fs6.trans (FS.ex f7)).trans (FS.sh s _ _ (by omega))
                    refine V_ex sX8_readBook_117 (by simp only [Option.toList, List.cons_append, List.nil_append, exN, ex1, gI, gL, gR, pI, pL, pR, lget, lset1, lset2, kl, b2I, b2L, nob, ob32, ob64, xGet, xPut, xLen, xLd, xLdR, xSt, obA, true_and, and_true, and_self, eq_self, Nat.reduceEqDiff, Nat.zero_ne_one, reduceIte, Nat.reduceLeDiff, and_false, false_and, show skd 6 8 = 0 from rfl, show skd 0 4 = 0 from rfl, upd2_eq, Int.reduceToNat, Int.toNat_natCast]; rfl) (by first | exact trivial | exact Or.inr rfl | exact Or.inl rfl | (simp only [ob, obA, R32, R64] at *; omega) | (simp only [ob, obA, R32, R64] at *; and_intros <;> omega)) ?_
                    refine V_zret dX8_readBook_129 rfl (by first | exact Or.inl rfl | exact Or.inr rfl | exact b2i_01 _) (by decide) ?_
                    by_cases hr0 : r.2.1 = 0
                    · obtain ⟨x1, x2⟩ := b7 hr0
                      rw [show b2i (decide (r.2.1 = 0)) = 1 from by rw [decide_eq_true hr0]; rfl]
                      refine lP_ok (r := (r.1, r.2.1, _)) hr0 fs8 ?_ ?_ ?_
                      · simp only [upd2_eq]; rw [if_neg (by omega)]; exact a7
                      · simp only [upd2_eq]; rw [if_neg (by omega), x1, m6 _ _ (by omega) (by omega), m4 _ _ (by omega) (by omega), gn _ _ (by omega) (by omega) (by omega)]
                      · have mm : ∀ x y, ¬ (b ≤ x ∧ x ≤ b + 2) → ¬ (x = s ∧ y = 1) → ¬ (x = s ∧ y = 8) → x ≠ s + 5 → ¬ (x = 4 ∧ y = 6) → ¬ (x = 3 ∧ y = 1) → (uI G7 b 4 (G7.1 s 8)).1 x y = G.1 x y := fun x y p1 p2 p3 p4 p5 p6 => by simp only [upd2_eq]; rw [if_neg (by omega), m7 x y p4 p5 p6 p3, m6 x y (by omega) p5, m4 x y (by omega) p5, gn x y p1 p2 p5]
                        have n8 : ∀ x y, ¬ (x = b ∧ y = 4) → (uI G7 b 4 (G7.1 s 8)).1 x y = G7.1 x y := fun x y p => by simp only [upd2_eq]; rw [if_neg p]
                        have n8b : (uI G7 b 4 (G7.1 s 8)).1 b 4 = G7.1 s 8 := by simp only [upd2_eq]; rw [if_pos ⟨trivial, trivial⟩]
                        show ShC (uI G7 b 4 (G7.1 s 8)) s _
                        generalize uI G7 b 4 (G7.1 s 8) = G8 at *
                        refine ShC_bk hC0 s3 (by omega) (fun x y _ _ p q r t => mm x y (by rw [hn0, hb0] at p; omega) q r t (by omega) (by omega)) ?_ ?_ ?_
                        · rw [n8 _ _ (by omega), m7 _ _ (by omega) (by omega) (by omega) (by omega), m6 _ _ (by omega) (by omega), m4 _ _ (by omega) (by omega), g1, hn0]
                        · rw [hn0, hb0]
                          refine ⟨?_, ?_, ?_, fun _ => ⟨?_, ?_⟩, ?_⟩
                          · rw [n8 _ _ (by omega), m7 _ _ (by omega) (by omega) (by omega) (by omega), m6 _ _ (by omega) (by omega), m4 _ _ (by omega) (by omega), gk]
                          · rw [n8 _ _ (by omega), m7 _ _ (by omega) (by omega) (by omega) (by omega), m6 _ _ (by omega) (by omega), m4 _ _ (by omega) (by omega), gm]
                          · rw [n8 _ _ (by omega), m7 _ _ (by omega) (by omega) (by omega) (by omega), m6 _ _ (by omega) (by omega), l4]
                          · rw [n8 _ _ (by omega), m7 _ _ (by omega) (by omega) (by omega) (by omega), b63]
                          · rw [n8b]; exact x2.1
                          · exact lsIs_congr ls4 (by rw [n8 _ _ (by omega), m7 _ _ (by omega) (by omega) (by omega) (by omega), m6 _ _ (by omega) (by omega)]) (by funext y; rw [n8 _ _ (by omega), m7 _ _ (by omega) (by omega) (by omega) (by omega), m6 _ _ (by omega) (by omega)])
                        · exact ⟨by rw [n8 _ _ (by omega)]; exact x2.1, fun y hy => by rw [n8 _ _ (by omega)]; exact x2.2 y hy⟩
                    · rw [show b2i (decide (r.2.1 = 0)) = 0 from by rw [decide_eq_false hr0]; rfl]
                      exact lP_no (r := (r.1, r.2.1, _)) hr0 fs8 (by simp only [upd2_eq]; rw [if_neg (by omega)]; exact a7) (by simp only [upd2_eq]; rw [if_neg (by omega)]; exact c7 hr0)
                  · exact absurd hby (of_decide_eq_false q87)
                · omega
              · exact absurd hl (of_decide_eq_false q64)
            · have hP2 : pBook w v k i S = (j + 1, 1, S) := by
                rw [hP, pBk2, if_neg hodd, if_neg (not_not_intro hl'), if_neg (not_not_intro hk6), if_pos hby]
              have e54 := (hr4 (j + 1) (by omega)).1
              refine V_ex sX8_readBook_59 (by rfl) (by first | exact trivial | exact Or.inr rfl | exact Or.inl rfl | (simp only [ob, obA, R32, R64] at *; omega) | (simp only [ob, obA, R32, R64] at *; and_intros <;> omega)) ?_
              refine V_callV (M := MX8_readBook) (N := MX8_readLeafCount) dX8_readBook_61 lRX8_78 kX8_readLeafCount rfl (rfl) rfl (c_rLeafCount (d := 2) hκ hr3 hT gc hj hN hw hB hb8 gk (by unfold R32; omega) (by omega)) rfl rfl (Nat.le_of_ble_eq_true rfl) (fit_rm (by omega)) (⟨Nat.le_of_ble_eq_true rfl, Nat.le_of_ble_eq_true rfl⟩) (fun v Ω' hp => ?_) (fun _ _ h => h.elim)
              obtain ⟨rfl, rfl⟩ := hp
              rw [hlW]
              refine V_ifneB dX8_readBook_64 (tgt := 69) (by decide) (fun q64 => ?_) (fun q64 => ?_)
              · refine V_ex sX8_readBook_69 (by rfl) (by first | exact trivial | exact Or.inr rfl | exact Or.inl rfl | (simp only [ob, obA, R32, R64] at *; omega) | (simp only [ob, obA, R32, R64] at *; and_intros <;> omega)) ?_
                refine V_icmpeq dX8_readBook_72 (tgt := 77) (by decide) (by simp only [R32, R64] at *; omega) (fun q72 => ?_) (fun q72 => ?_)
                · refine V_ex sX8_readBook_77 (by simp only [Option.toList, List.cons_append, List.nil_append, exN, ex1, gI, gL, gR, pI, pL, pR, lget, lset1, lset2, kl, b2I, b2L, nob, ob32, ob64, xGet, xPut, xLen, xLd, xLdR, xSt, obA, true_and, and_true, and_self, eq_self, Nat.reduceEqDiff, Nat.zero_ne_one, reduceIte, Nat.reduceLeDiff, and_false, false_and, show skd 7 0 = 2 from rfl, show LF.1 3 = some (.inl 7) from rfl, show LF.2 3 0 = some 4 from rfl, upd2_eq, Int.reduceToNat, Int.toNat_natCast]; rfl) (by first | exact trivial | exact Or.inr rfl | exact Or.inl rfl | (simp only [ob, obA, R32, R64] at *; omega) | (simp only [ob, obA, R32, R64] at *; and_intros <;> omega)) ?_
                  refine V_callV (M := MX8_readBook) (N := MX9_is) dX8_readBook_84 lRX8_37 kX9_is rfl (rfl) rfl (c_tIs (d := 2) hκ c4 (by omega) (by rw [e54]; unfold R32; omega) (by unfold R32; omega)) rfl rfl (Nat.le_of_ble_eq_true rfl) (fit_rm (by omega)) (⟨Nat.le_of_ble_eq_true rfl, Nat.le_of_ble_eq_true rfl⟩) (fun v Ω' hp => ?_) (fun _ _ h => h.elim)
                  obtain ⟨rfl, rfl⟩ := hp
                  rw [e54]
                  refine V_ifneB dX8_readBook_87 (tgt := 96) (by decide) (fun q87 => ?_) (fun q87 => ?_)
                  · exact absurd (of_decide_eq_true q87) hby
                  · refine V_ex sX8_readBook_90 (by rfl) (by first | exact trivial | exact Or.inr rfl | exact Or.inl rfl | (simp only [ob, obA, R32, R64] at *; omega) | (simp only [ob, obA, R32, R64] at *; and_intros <;> omega)) ?_
                    refine V_callV (M := MX8_readBook) (N := MX8_refuse) dX8_readBook_92 lRX8_49 kX8_refuse rfl (rfl) rfl (c_rRefuse (d := 2) hκ) rfl rfl (Nat.le_of_ble_eq_true rfl) (fit_rm (by omega)) (⟨Nat.le_of_ble_eq_true rfl, Nat.le_of_ble_eq_true rfl⟩) (fun v Ω' hp => ?_) (fun _ _ h => h.elim)
                    obtain ⟨rfl, rfl⟩ := hp
                    refine V_zret dX8_readBook_95 rfl (by first | exact Or.inl rfl | exact Or.inr rfl | exact b2i_01 _) (by decide) (by rw [hP2]; exact lP_no (show (1 : Int) ≠ 0 by decide) (fs4.trans (FS.fnd s _ _)) (by rw [at_fnd (by omega)]; exact c4) of_fnd)
                · omega
              · exact absurd hl (of_decide_eq_false q64)
          · have hP2 : pBook w v k i S = (j + 1, 0, (S.1 ++ [(k, mk, v j, 0, 0, [])], S.2)) := by
              rw [hP, pBk2, if_neg hodd, if_neg (not_not_intro hl'), if_pos hk6]
            refine V_ex sX8_readBook_59 (by rfl) (by first | exact trivial | exact Or.inr rfl | exact Or.inl rfl | (simp only [ob, obA, R32, R64] at *; omega) | (simp only [ob, obA, R32, R64] at *; and_intros <;> omega)) ?_
            refine V_callV (M := MX8_readBook) (N := MX8_readLeafCount) dX8_readBook_61 lRX8_78 kX8_readLeafCount rfl (rfl) rfl (c_rLeafCount (d := 2) hκ hr3 hT gc hj hN hw hB hb8 gk (by unfold R32; omega) (by omega)) rfl rfl (Nat.le_of_ble_eq_true rfl) (fit_rm (by omega)) (⟨Nat.le_of_ble_eq_true rfl, Nat.le_of_ble_eq_true rfl⟩) (fun v Ω' hp => ?_) (fun _ _ h => h.elim)
            obtain ⟨rfl, rfl⟩ := hp
            rw [hlW]
            refine V_ifneB dX8_readBook_64 (tgt := 69) (by decide) (fun q64 => ?_) (fun q64 => ?_)
            · refine V_ex sX8_readBook_69 (by rfl) (by first | exact trivial | exact Or.inr rfl | exact Or.inl rfl | (simp only [ob, obA, R32, R64] at *; omega) | (simp only [ob, obA, R32, R64] at *; and_intros <;> omega)) ?_
              refine V_icmpeq dX8_readBook_72 (tgt := 77) (by decide) (by simp only [R32, R64] at *; omega) (fun q72 => ?_) (fun q72 => ?_)
              · omega
              · refine V_ex sX8_readBook_75 (by rfl) (by first | exact trivial | exact Or.inr rfl | exact Or.inl rfl | (simp only [ob, obA, R32, R64] at *; omega) | (simp only [ob, obA, R32, R64] at *; and_intros <;> omega)) ?_
                refine V_zret dX8_readBook_76 rfl (by first | exact Or.inl rfl | exact Or.inr rfl | exact b2i_01 _) (by decide) ?_
                rw [hP2]
                refine lP_ok (show ((0 : Int)) = 0 from rfl) fs4 c4 (by rw [m4 _ _ (by omega) (by omega), gn _ _ (by omega) (by omega) (by omega)]) ?_
                refine ShC_bk hC0 s3 (by omega) (fun x y _ _ p q r t => by rw [m4 _ _ (by rw [hn0, hb0] at p; omega) (by omega)]; exact gn x y (by rw [hn0, hb0] at p; omega) q (by omega)) (by rw [m4 _ _ (by omega) (by omega), g1, hn0]) ?_ cd4
                rw [hn0, hb0]
                exact ⟨by rw [m4 _ _ (by omega) (by omega)]; exact gk, by rw [m4 _ _ (by omega) (by omega)]; exact gm, l4, fun q => absurd q hk6, ls4⟩
            · exact absurd hl (of_decide_eq_false q64)
        · have hP2 : pBook w v k i S = (j, rLc w v k j, S) := by
            rw [hP, pBk2]
            unfold rLc at hl ⊢
            split
            · rfl
            · rename_i q; rw [if_neg q] at hl; rw [if_pos hl]
          have hlW : lcW w v b k j G3 = uI (uI G3 b 1 (v j)) 3 1 (rLc w v k j) := by rw [lcW, if_neg hl]
          refine V_ex sX8_readBook_59 (by rfl) (by first | exact trivial | exact Or.inr rfl | exact Or.inl rfl | (simp only [ob, obA, R32, R64] at *; omega) | (simp only [ob, obA, R32, R64] at *; and_intros <;> omega)) ?_
          refine V_callV (M := MX8_readBook) (N := MX8_readLeafCount) dX8_readBook_61 lRX8_78 kX8_readLeafCount rfl (rfl) rfl (c_rLeafCount (d := 2) hκ hr3 hT gc hj hN hw hB hb8 gk (by unfold R32; omega) (by omega)) rfl rfl (Nat.le_of_ble_eq_true rfl) (fit_rm (by omega)) (⟨Nat.le_of_ble_eq_true rfl, Nat.le_of_ble_eq_true rfl⟩) (fun v Ω' hp => ?_) (fun _ _ h => h.elim)
          obtain ⟨rfl, rfl⟩ := hp
          rw [hlW]
          refine V_ifneB dX8_readBook_64 (tgt := 69) (by decide) (fun q64 => ?_) (fun q64 => ?_)
          · exact absurd (of_decide_eq_true q64) hl
          · refine V_ex sX8_readBook_67 (by rfl) (by first | exact trivial | exact Or.inr rfl | exact Or.inl rfl | (simp only [ob, obA, R32, R64] at *; omega) | (simp only [ob, obA, R32, R64] at *; and_intros <;> omega)) ?_
            refine V_zret dX8_readBook_68 rfl (by first | exact Or.inl rfl | exact Or.inr rfl | exact b2i_01 _) (by decide) (by rw [hP2]; exact lP_no hl ((fs3.trans (FS.sh s _ _ (by omega))).trans (FS.fnd s _ _)) (by rw [at_fnd (by omega)]; simp only [upd2_eq]; rw [if_neg (by omega)]; exact gc) of_fnd)
      -- its mark
      generalize hG2 : uI G1 4 6 ((i : Int) + 1) = G2
      have m2 : ∀ x y, ¬ (x = 4 ∧ y = 6) → G2.1 x y = G1.1 x y := fun x y p => by rw [← hG2, at_cur p]
      have c2 : G2.1 4 6 = ((i + 1 : Nat) : Int) := by rw [← hG2, of_cur]; omega
      have f22 : G2.2 = G.2 := by rw [← hG2]; exact f12
      have fs2 : FS s G G2 := ⟨f22, fun x y p c e => by rw [m2 x y c]; exact fn x y (by omega) (by omega)⟩
      have hr2 := fs2.rd hS hr
      have k2 : G2.1 b 0 = k := by rw [m2 _ _ (by omega)]; exact f0.1
      have F2 : bF s b n k 0 (i + 1) G G2 := ⟨f22, fun x y p q r => by rw [m2 x y r]; exact fn x y p q, by rw [m2 _ _ (by omega)]; exact f11, k2, by rw [m2 _ _ (by omega)]; exact f0.2.1, by rw [m2 _ _ (by omega)]; exact f0.2.2.1, by rw [m2 _ _ (by omega)]; exact f0.2.2.2.1, lsIs_congr f0.2.2.2.2 (m2 _ _ (by omega)) (by funext y; exact m2 _ _ (by omega)), c2⟩
      have hv1 := hT.2 (i + 1)
      have h6n : ¬ 6 ≤ S.1.length := by omega
      by_cases hm : rMk w v k (i + 1) = 0
      · by_cases h25 : k = 2 ∨ k = 5
        · have hmW : mkW w v b k (i + 1) G2 = uI (uI G2 b 2 (v (i + 1))) 4 6 (((i + 1 : Nat) : Int) + 1) := by rw [mkW, if_neg (by omega), if_pos hm]
          have hw1 : w (i + 1) = -2 := by
            unfold rMk at hm
            split at hm
            · exact (pNum_0 hm).1
            · rw [if_pos (by omega)] at hm; exact (pNum_0 hm).1
          have hi1N := pTok_lt hT (show i + 1 ≤ N by omega) (by omega)
          have hP : pBook w v k i S = pBk2 w v k (v (i + 1)) (i + 2) S := by
            rw [pBook, if_neg h6n]
            unfold rMk at hm
            rcases h25 with q | q
            · rw [if_pos q] at hm; rw [if_pos q, if_neg (not_not_intro hm)]
            · rw [if_neg (by omega), if_pos q] at hm; rw [if_neg (by omega), if_pos q, if_neg (not_not_intro hm)]
          have F3 : bF s b n k (v (i + 1)) (i + 2) G (uI (uI G2 b 2 (v (i + 1))) 4 6 (((i + 1 : Nat) : Int) + 1)) := by
            obtain ⟨z1, z2, z3, z4, z5, z6, z7, z8, z9⟩ := F2
            have mm : ∀ x y, ¬ (x = b ∧ y = 2) → ¬ (x = 4 ∧ y = 6) → (uI (uI G2 b 2 (v (i + 1))) 4 6 (((i + 1 : Nat) : Int) + 1)).1 x y = G2.1 x y := fun x y p q => by rw [at_cur q]; simp only [upd2_eq]; rw [if_neg p]
            exact ⟨z1, fun x y p q r => by rw [mm x y (by omega) r]; exact z2 x y p q r, by rw [mm _ _ (by omega) (by omega)]; exact z3, by rw [mm _ _ (by omega) (by omega)]; exact z4, by rw [at_cur (by omega)]; simp only [upd2_eq]; rw [if_pos ⟨trivial, trivial⟩], by rw [mm _ _ (by omega) (by omega)]; exact z6, by rw [mm _ _ (by omega) (by omega)]; exact z7, lsIs_congr z8 (mm _ _ (by omega) (by omega)) (by funext y; exact mm _ _ (by omega) (by omega)), by rw [of_cur]; omega⟩
          refine V_ex sX8_readBook_0 (by simp only [Option.toList, List.cons_append, List.nil_append, exN, ex1, gI, gL, gR, pI, pL, pR, lget, lset1, lset2, kl, b2I, b2L, nob, ob32, ob64, xGet, xPut, xLen, xLd, xLdR, xSt, obA, true_and, and_true, and_self, eq_self, Nat.reduceEqDiff, Nat.zero_ne_one, reduceIte, Nat.reduceLeDiff, and_false, false_and, show skd 7 0 = 2 from rfl, show LF.1 3 = some (.inl 7) from rfl, show LF.2 3 0 = some 4 from rfl, upd2_eq, Int.reduceToNat, Int.toNat_natCast]; rfl) (by first | exact trivial | exact Or.inr rfl | exact Or.inl rfl | (simp only [ob, obA, R32, R64] at *; omega) | (simp only [ob, obA, R32, R64] at *; and_intros <;> omega)) ?_
          refine V_callV (M := MX8_readBook) (N := MX9_what) dX8_readBook_4 lRX8_55 kX9_what rfl (rfl) rfl (c_tWhat (d := 0) hκ hi (by omega)) rfl rfl (Nat.le_of_ble_eq_true rfl) (fit_rm (by omega)) (⟨Nat.le_of_ble_eq_true rfl, Nat.le_of_ble_eq_true rfl⟩) (fun v Ω' hp => ?_) (fun _ _ h => h.elim)
          obtain ⟨rfl, rfl⟩ := hp
          rw [e5]
          refine V_ex sX8_readBook_7 (by simp only [Option.toList, List.cons_append, List.nil_append, exN, ex1, gI, gL, gR, pI, pL, pR, lget, lset1, lset2, kl, b2I, b2L, nob, ob32, ob64, xGet, xPut, xLen, xLd, xLdR, xSt, obA, true_and, and_true, and_self, eq_self, Nat.reduceEqDiff, Nat.zero_ne_one, reduceIte, Nat.reduceLeDiff, and_false, false_and, hkk, upd2_eq, Int.reduceToNat, Int.toNat_natCast]; rfl) (by first | exact trivial | exact Or.inr rfl | exact Or.inl rfl | (simp only [ob, obA, R32, R64] at *; omega) | (simp only [ob, obA, R32, R64] at *; and_intros <;> omega)) ?_
          refine V_iflt dX8_readBook_13 (tgt := 22) (by decide) (by simp only [R32, R64] at *; omega) (fun q13 => ?_) (fun q13 => ?_)
          · omega
          · refine V_ex sX8_readBook_16 (by rfl) (by first | exact trivial | exact Or.inr rfl | exact Or.inl rfl | (simp only [ob, obA, R32, R64] at *; omega) | (simp only [ob, obA, R32, R64] at *; and_intros <;> omega)) ?_
            refine V_icmple dX8_readBook_19 (tgt := 28) (by decide) (by simp only [R32, R64] at *; omega) (fun q19 => ?_) (fun q19 => ?_)
            · refine V_ex sX8_readBook_28 (by rfl) (by first | exact trivial | exact Or.inr rfl | exact Or.inl rfl | (simp only [ob, obA, R32, R64] at *; omega) | (simp only [ob, obA, R32, R64] at *; and_intros <;> omega)) ?_
              refine V_callV (M := MX8_readBook) (N := MX7_nextBook) dX8_readBook_30 lRX8_70 kX7_nextBook rfl (h1S) rfl (c_nextBook (d := 2) hκ hS (by rw [h1]; omega) (by omega)) rfl rfl (Nat.le_of_ble_eq_true rfl) (fit_rm (by omega)) (⟨Nat.le_of_ble_eq_true rfl, Nat.le_of_ble_eq_true rfl⟩) (fun v Ω' hp => ?_) (fun _ _ h => h.elim)
              obtain ⟨rfl, rfl⟩ := hp
              rw [h1, Int.toNat_natCast, hb0, hG1]
              refine V_ex sX8_readBook_33 (by rfl) (by first | exact trivial | exact Or.inr rfl | exact Or.inl rfl | (simp only [ob, obA, R32, R64] at *; omega) | (simp only [ob, obA, R32, R64] at *; and_intros <;> omega)) ?_
              refine V_ifnonnull dX8_readBook_35 (tgt := 44) (by decide) (fun q35 => ?_) (fun q35 => ?_)
              · refine V_ex sX8_readBook_44 (by simp only [Option.toList, List.cons_append, List.nil_append, exN, ex1, gI, gL, gR, pI, pL, pR, lget, lset1, lset2, kl, b2I, b2L, nob, ob32, ob64, xGet, xPut, xLen, xLd, xLdR, xSt, obA, true_and, and_true, and_self, eq_self, Nat.reduceEqDiff, Nat.zero_ne_one, reduceIte, Nat.reduceLeDiff, and_false, false_and, show skd 7 0 = 2 from rfl, show LF.1 3 = some (.inl 7) from rfl, show LF.2 3 0 = some 4 from rfl, upd2_eq, Int.reduceToNat, Int.toNat_natCast]; rfl) (by first | exact trivial | exact Or.inr rfl | exact Or.inl rfl | (simp only [ob, obA, R32, R64] at *; omega) | (simp only [ob, obA, R32, R64] at *; and_intros <;> omega)) ?_
                refine V_callV (M := MX8_readBook) (N := MX9_advance) dX8_readBook_48 lRX8_52 kX9_advance rfl (rfl) rfl (c_tAdvance (d := 2) hκ) rfl rfl (Nat.le_of_ble_eq_true rfl) (fit_rm (by omega)) (⟨Nat.le_of_ble_eq_true rfl, Nat.le_of_ble_eq_true rfl⟩) (fun v Ω' hp => ?_) (fun _ _ h => h.elim)
                obtain ⟨rfl, rfl⟩ := hp
                rw [hi1, hG2]
                refine V_ex sX8_readBook_51 (by rfl) (by first | exact trivial | exact Or.inr rfl | exact Or.inl rfl | (simp only [ob, obA, R32, R64] at *; omega) | (simp only [ob, obA, R32, R64] at *; and_intros <;> omega)) ?_
                refine V_callV (M := MX8_readBook) (N := MX8_readMark) dX8_readBook_53 lRX8_74 kX8_readMark rfl (rfl) rfl (c_rMark (d := 2) hκ hr2 hT c2 (by omega) hN hw hB hb8 k2 (by unfold R32; omega) (by omega)) rfl rfl (Nat.le_of_ble_eq_true rfl) (fit_rm (by omega)) (⟨Nat.le_of_ble_eq_true rfl, Nat.le_of_ble_eq_true rfl⟩) (fun v Ω' hp => ?_) (fun _ _ h => h.elim)
                obtain ⟨rfl, rfl⟩ := hp
                rw [hmW]
                refine V_ifeqB dX8_readBook_56 (tgt := 67) (by decide) (fun q56 => ?_) (fun q56 => ?_)
                · exact absurd hm (of_decide_eq_false q56)
                · exact T _ _ _ F3 (by omega) (by omega) hP
              · omega
            · omega
        · have hmW : mkW w v b k (i + 1) G2 = G2 := by rw [mkW, if_pos (by omega)]
          have hP : pBook w v k i S = pBk2 w v k 0 (i + 1) S := by
            rw [pBook, if_neg h6n, if_neg (by omega), if_neg (by omega)]
          refine V_ex sX8_readBook_0 (by simp only [Option.toList, List.cons_append, List.nil_append, exN, ex1, gI, gL, gR, pI, pL, pR, lget, lset1, lset2, kl, b2I, b2L, nob, ob32, ob64, xGet, xPut, xLen, xLd, xLdR, xSt, obA, true_and, and_true, and_self, eq_self, Nat.reduceEqDiff, Nat.zero_ne_one, reduceIte, Nat.reduceLeDiff, and_false, false_and, show skd 7 0 = 2 from rfl, show LF.1 3 = some (.inl 7) from rfl, show LF.2 3 0 = some 4 from rfl, upd2_eq, Int.reduceToNat, Int.toNat_natCast]; rfl) (by first | exact trivial | exact Or.inr rfl | exact Or.inl rfl | (simp only [ob, obA, R32, R64] at *; omega) | (simp only [ob, obA, R32, R64] at *; and_intros <;> omega)) ?_
          refine V_callV (M := MX8_readBook) (N := MX9_what) dX8_readBook_4 lRX8_55 kX9_what rfl (rfl) rfl (c_tWhat (d := 0) hκ hi (by omega)) rfl rfl (Nat.le_of_ble_eq_true rfl) (fit_rm (by omega)) (⟨Nat.le_of_ble_eq_true rfl, Nat.le_of_ble_eq_true rfl⟩) (fun v Ω' hp => ?_) (fun _ _ h => h.elim)
          obtain ⟨rfl, rfl⟩ := hp
          rw [e5]
          refine V_ex sX8_readBook_7 (by simp only [Option.toList, List.cons_append, List.nil_append, exN, ex1, gI, gL, gR, pI, pL, pR, lget, lset1, lset2, kl, b2I, b2L, nob, ob32, ob64, xGet, xPut, xLen, xLd, xLdR, xSt, obA, true_and, and_true, and_self, eq_self, Nat.reduceEqDiff, Nat.zero_ne_one, reduceIte, Nat.reduceLeDiff, and_false, false_and, hkk, upd2_eq, Int.reduceToNat, Int.toNat_natCast]; rfl) (by first | exact trivial | exact Or.inr rfl | exact Or.inl rfl | (simp only [ob, obA, R32, R64] at *; omega) | (simp only [ob, obA, R32, R64] at *; and_intros <;> omega)) ?_
          refine V_iflt dX8_readBook_13 (tgt := 22) (by decide) (by simp only [R32, R64] at *; omega) (fun q13 => ?_) (fun q13 => ?_)
          · omega
          · refine V_ex sX8_readBook_16 (by rfl) (by first | exact trivial | exact Or.inr rfl | exact Or.inl rfl | (simp only [ob, obA, R32, R64] at *; omega) | (simp only [ob, obA, R32, R64] at *; and_intros <;> omega)) ?_
            refine V_icmple dX8_readBook_19 (tgt := 28) (by decide) (by simp only [R32, R64] at *; omega) (fun q19 => ?_) (fun q19 => ?_)
            · refine V_ex sX8_readBook_28 (by rfl) (by first | exact trivial | exact Or.inr rfl | exact Or.inl rfl | (simp only [ob, obA, R32, R64] at *; omega) | (simp only [ob, obA, R32, R64] at *; and_intros <;> omega)) ?_
              refine V_callV (M := MX8_readBook) (N := MX7_nextBook) dX8_readBook_30 lRX8_70 kX7_nextBook rfl (h1S) rfl (c_nextBook (d := 2) hκ hS (by rw [h1]; omega) (by omega)) rfl rfl (Nat.le_of_ble_eq_true rfl) (fit_rm (by omega)) (⟨Nat.le_of_ble_eq_true rfl, Nat.le_of_ble_eq_true rfl⟩) (fun v Ω' hp => ?_) (fun _ _ h => h.elim)
              obtain ⟨rfl, rfl⟩ := hp
              rw [h1, Int.toNat_natCast, hb0, hG1]
              refine V_ex sX8_readBook_33 (by rfl) (by first | exact trivial | exact Or.inr rfl | exact Or.inl rfl | (simp only [ob, obA, R32, R64] at *; omega) | (simp only [ob, obA, R32, R64] at *; and_intros <;> omega)) ?_
              refine V_ifnonnull dX8_readBook_35 (tgt := 44) (by decide) (fun q35 => ?_) (fun q35 => ?_)
              · refine V_ex sX8_readBook_44 (by simp only [Option.toList, List.cons_append, List.nil_append, exN, ex1, gI, gL, gR, pI, pL, pR, lget, lset1, lset2, kl, b2I, b2L, nob, ob32, ob64, xGet, xPut, xLen, xLd, xLdR, xSt, obA, true_and, and_true, and_self, eq_self, Nat.reduceEqDiff, Nat.zero_ne_one, reduceIte, Nat.reduceLeDiff, and_false, false_and, show skd 7 0 = 2 from rfl, show LF.1 3 = some (.inl 7) from rfl, show LF.2 3 0 = some 4 from rfl, upd2_eq, Int.reduceToNat, Int.toNat_natCast]; rfl) (by first | exact trivial | exact Or.inr rfl | exact Or.inl rfl | (simp only [ob, obA, R32, R64] at *; omega) | (simp only [ob, obA, R32, R64] at *; and_intros <;> omega)) ?_
                refine V_callV (M := MX8_readBook) (N := MX9_advance) dX8_readBook_48 lRX8_52 kX9_advance rfl (rfl) rfl (c_tAdvance (d := 2) hκ) rfl rfl (Nat.le_of_ble_eq_true rfl) (fit_rm (by omega)) (⟨Nat.le_of_ble_eq_true rfl, Nat.le_of_ble_eq_true rfl⟩) (fun v Ω' hp => ?_) (fun _ _ h => h.elim)
                obtain ⟨rfl, rfl⟩ := hp
                rw [hi1, hG2]
                refine V_ex sX8_readBook_51 (by rfl) (by first | exact trivial | exact Or.inr rfl | exact Or.inl rfl | (simp only [ob, obA, R32, R64] at *; omega) | (simp only [ob, obA, R32, R64] at *; and_intros <;> omega)) ?_
                refine V_callV (M := MX8_readBook) (N := MX8_readMark) dX8_readBook_53 lRX8_74 kX8_readMark rfl (rfl) rfl (c_rMark (d := 2) hκ hr2 hT c2 (by omega) hN hw hB hb8 k2 (by unfold R32; omega) (by omega)) rfl rfl (Nat.le_of_ble_eq_true rfl) (fit_rm (by omega)) (⟨Nat.le_of_ble_eq_true rfl, Nat.le_of_ble_eq_true rfl⟩) (fun v Ω' hp => ?_) (fun _ _ h => h.elim)
                obtain ⟨rfl, rfl⟩ := hp
                rw [hmW]
                refine V_ifeqB dX8_readBook_56 (tgt := 67) (by decide) (fun q56 => ?_) (fun q56 => ?_)
                · exact absurd hm (of_decide_eq_false q56)
                · exact T _ _ _ F2 (by omega) (by omega) hP
              · omega
            · omega
      · have h25 : k = 2 ∨ k = 5 := by
          by_cases q : k = 2
          · exact Or.inl q
          · by_cases q2 : k = 5
            · exact Or.inr q2
            · exact absurd (by rw [rMk, if_neg q, if_neg q2]) hm
        have hmW : mkW w v b k (i + 1) G2 = uI (uI G2 b 2 (v (i + 1))) 3 1 (rMk w v k (i + 1)) := by rw [mkW, if_neg (by omega), if_neg hm]
        have hP : pBook w v k i S = (i + 1, rMk w v k (i + 1), S) := by
          rw [pBook, if_neg h6n]
          unfold rMk at hm ⊢
          rcases h25 with q | q
          · rw [if_pos q] at hm; rw [if_pos q, if_pos hm, if_pos q]
          · have q2 : ¬ k = 2 := by omega
            rw [if_neg q2, if_pos q] at hm; rw [if_neg q2, if_pos q, if_pos hm, if_neg q2, if_pos q]
        refine V_ex sX8_readBook_0 (by simp only [Option.toList, List.cons_append, List.nil_append, exN, ex1, gI, gL, gR, pI, pL, pR, lget, lset1, lset2, kl, b2I, b2L, nob, ob32, ob64, xGet, xPut, xLen, xLd, xLdR, xSt, obA, true_and, and_true, and_self, eq_self, Nat.reduceEqDiff, Nat.zero_ne_one, reduceIte, Nat.reduceLeDiff, and_false, false_and, show skd 7 0 = 2 from rfl, show LF.1 3 = some (.inl 7) from rfl, show LF.2 3 0 = some 4 from rfl, upd2_eq, Int.reduceToNat, Int.toNat_natCast]; rfl) (by first | exact trivial | exact Or.inr rfl | exact Or.inl rfl | (simp only [ob, obA, R32, R64] at *; omega) | (simp only [ob, obA, R32, R64] at *; and_intros <;> omega)) ?_
        refine V_callV (M := MX8_readBook) (N := MX9_what) dX8_readBook_4 lRX8_55 kX9_what rfl (rfl) rfl (c_tWhat (d := 0) hκ hi (by omega)) rfl rfl (Nat.le_of_ble_eq_true rfl) (fit_rm (by omega)) (⟨Nat.le_of_ble_eq_true rfl, Nat.le_of_ble_eq_true rfl⟩) (fun v Ω' hp => ?_) (fun _ _ h => h.elim)
        obtain ⟨rfl, rfl⟩ := hp
        rw [e5]
        refine V_ex sX8_readBook_7 (by simp only [Option.toList, List.cons_append, List.nil_append, exN, ex1, gI, gL, gR, pI, pL, pR, lget, lset1, lset2, kl, b2I, b2L, nob, ob32, ob64, xGet, xPut, xLen, xLd, xLdR, xSt, obA, true_and, and_true, and_self, eq_self, Nat.reduceEqDiff, Nat.zero_ne_one, reduceIte, Nat.reduceLeDiff, and_false, false_and, hkk, upd2_eq, Int.reduceToNat, Int.toNat_natCast]; rfl) (by first | exact trivial | exact Or.inr rfl | exact Or.inl rfl | (simp only [ob, obA, R32, R64] at *; omega) | (simp only [ob, obA, R32, R64] at *; and_intros <;> omega)) ?_
        refine V_iflt dX8_readBook_13 (tgt := 22) (by decide) (by simp only [R32, R64] at *; omega) (fun q13 => ?_) (fun q13 => ?_)
        · omega
        · refine V_ex sX8_readBook_16 (by rfl) (by first | exact trivial | exact Or.inr rfl | exact Or.inl rfl | (simp only [ob, obA, R32, R64] at *; omega) | (simp only [ob, obA, R32, R64] at *; and_intros <;> omega)) ?_
          refine V_icmple dX8_readBook_19 (tgt := 28) (by decide) (by simp only [R32, R64] at *; omega) (fun q19 => ?_) (fun q19 => ?_)
          · refine V_ex sX8_readBook_28 (by rfl) (by first | exact trivial | exact Or.inr rfl | exact Or.inl rfl | (simp only [ob, obA, R32, R64] at *; omega) | (simp only [ob, obA, R32, R64] at *; and_intros <;> omega)) ?_
            refine V_callV (M := MX8_readBook) (N := MX7_nextBook) dX8_readBook_30 lRX8_70 kX7_nextBook rfl (h1S) rfl (c_nextBook (d := 2) hκ hS (by rw [h1]; omega) (by omega)) rfl rfl (Nat.le_of_ble_eq_true rfl) (fit_rm (by omega)) (⟨Nat.le_of_ble_eq_true rfl, Nat.le_of_ble_eq_true rfl⟩) (fun v Ω' hp => ?_) (fun _ _ h => h.elim)
            obtain ⟨rfl, rfl⟩ := hp
            rw [h1, Int.toNat_natCast, hb0, hG1]
            refine V_ex sX8_readBook_33 (by rfl) (by first | exact trivial | exact Or.inr rfl | exact Or.inl rfl | (simp only [ob, obA, R32, R64] at *; omega) | (simp only [ob, obA, R32, R64] at *; and_intros <;> omega)) ?_
            refine V_ifnonnull dX8_readBook_35 (tgt := 44) (by decide) (fun q35 => ?_) (fun q35 => ?_)
            · refine V_ex sX8_readBook_44 (by simp only [Option.toList, List.cons_append, List.nil_append, exN, ex1, gI, gL, gR, pI, pL, pR, lget, lset1, lset2, kl, b2I, b2L, nob, ob32, ob64, xGet, xPut, xLen, xLd, xLdR, xSt, obA, true_and, and_true, and_self, eq_self, Nat.reduceEqDiff, Nat.zero_ne_one, reduceIte, Nat.reduceLeDiff, and_false, false_and, show skd 7 0 = 2 from rfl, show LF.1 3 = some (.inl 7) from rfl, show LF.2 3 0 = some 4 from rfl, upd2_eq, Int.reduceToNat, Int.toNat_natCast]; rfl) (by first | exact trivial | exact Or.inr rfl | exact Or.inl rfl | (simp only [ob, obA, R32, R64] at *; omega) | (simp only [ob, obA, R32, R64] at *; and_intros <;> omega)) ?_
              refine V_callV (M := MX8_readBook) (N := MX9_advance) dX8_readBook_48 lRX8_52 kX9_advance rfl (rfl) rfl (c_tAdvance (d := 2) hκ) rfl rfl (Nat.le_of_ble_eq_true rfl) (fit_rm (by omega)) (⟨Nat.le_of_ble_eq_true rfl, Nat.le_of_ble_eq_true rfl⟩) (fun v Ω' hp => ?_) (fun _ _ h => h.elim)
              obtain ⟨rfl, rfl⟩ := hp
              rw [hi1, hG2]
              refine V_ex sX8_readBook_51 (by rfl) (by first | exact trivial | exact Or.inr rfl | exact Or.inl rfl | (simp only [ob, obA, R32, R64] at *; omega) | (simp only [ob, obA, R32, R64] at *; and_intros <;> omega)) ?_
              refine V_callV (M := MX8_readBook) (N := MX8_readMark) dX8_readBook_53 lRX8_74 kX8_readMark rfl (rfl) rfl (c_rMark (d := 2) hκ hr2 hT c2 (by omega) hN hw hB hb8 k2 (by unfold R32; omega) (by omega)) rfl rfl (Nat.le_of_ble_eq_true rfl) (fit_rm (by omega)) (⟨Nat.le_of_ble_eq_true rfl, Nat.le_of_ble_eq_true rfl⟩) (fun v Ω' hp => ?_) (fun _ _ h => h.elim)
              obtain ⟨rfl, rfl⟩ := hp
              rw [hmW]
              refine V_ifeqB dX8_readBook_56 (tgt := 67) (by decide) (fun q56 => ?_) (fun q56 => ?_)
              · refine V_ex sX8_readBook_67 (by rfl) (by first | exact trivial | exact Or.inr rfl | exact Or.inl rfl | (simp only [ob, obA, R32, R64] at *; omega) | (simp only [ob, obA, R32, R64] at *; and_intros <;> omega)) ?_
                refine V_zret dX8_readBook_68 rfl (by first | exact Or.inl rfl | exact Or.inr rfl | exact b2i_01 _) (by decide) (by rw [hP]; exact lP_no hm ((fs2.trans (FS.sh s _ _ (by omega))).trans (FS.fnd s _ _)) (by rw [at_fnd (by omega)]; simp only [upd2_eq]; rw [if_neg (by omega)]; exact c2) of_fnd)
              · exact absurd (of_decide_eq_true q56) hm
            · omega
          · omega
  · rw [if_neg hk]
    refine V_ex sX8_readBook_0 (by simp only [Option.toList, List.cons_append, List.nil_append, exN, ex1, gI, gL, gR, pI, pL, pR, lget, lset1, lset2, kl, b2I, b2L, nob, ob32, ob64, xGet, xPut, xLen, xLd, xLdR, xSt, obA, true_and, and_true, and_self, eq_self, Nat.reduceEqDiff, Nat.zero_ne_one, reduceIte, Nat.reduceLeDiff, and_false, false_and, show skd 7 0 = 2 from rfl, show LF.1 3 = some (.inl 7) from rfl, show LF.2 3 0 = some 4 from rfl, upd2_eq, Int.reduceToNat, Int.toNat_natCast]; rfl) (by first | exact trivial | exact Or.inr rfl | exact Or.inl rfl | (simp only [ob, obA, R32, R64] at *; omega) | (simp only [ob, obA, R32, R64] at *; and_intros <;> omega)) ?_
    refine V_callV (M := MX8_readBook) (N := MX9_what) dX8_readBook_4 lRX8_55 kX9_what rfl (rfl) rfl (c_tWhat (d := 0) hκ hi (by omega)) rfl rfl (Nat.le_of_ble_eq_true rfl) (fit_rm (by omega)) (⟨Nat.le_of_ble_eq_true rfl, Nat.le_of_ble_eq_true rfl⟩) (fun v Ω' hp => ?_) (fun _ _ h => h.elim)
    obtain ⟨rfl, rfl⟩ := hp
    rw [e5]
    refine V_ex sX8_readBook_7 (by rfl) (by first | exact trivial | exact Or.inr rfl | exact Or.inl rfl | (simp only [ob, obA, R32, R64] at *; omega) | (simp only [ob, obA, R32, R64] at *; and_intros <;> omega)) ?_
    refine V_iflt dX8_readBook_13 (tgt := 22) (by decide) (by simp only [R32, R64] at *; omega) (fun q13 => ?_) (fun q13 => ?_)
    · refine V_ex sX8_readBook_22 (by rfl) (by first | exact trivial | exact Or.inr rfl | exact Or.inl rfl | (simp only [ob, obA, R32, R64] at *; omega) | (simp only [ob, obA, R32, R64] at *; and_intros <;> omega)) ?_
      refine V_callV (M := MX8_readBook) (N := MX8_refuse) dX8_readBook_24 lRX8_49 kX8_refuse rfl (rfl) rfl (c_rRefuse (d := 2) hκ) rfl rfl (Nat.le_of_ble_eq_true rfl) (fit_rm (by omega)) (⟨Nat.le_of_ble_eq_true rfl, Nat.le_of_ble_eq_true rfl⟩) (fun v Ω' hp => ?_) (fun _ _ h => h.elim)
      obtain ⟨rfl, rfl⟩ := hp
      refine V_zret dX8_readBook_27 rfl (by first | exact Or.inl rfl | exact Or.inr rfl | exact b2i_01 _) (by decide) (lP_no (show (1 : Int) ≠ 0 by decide) (FS.fnd s _ _) (by rw [at_fnd (by omega)]; exact hi) of_fnd)
    · refine V_ex sX8_readBook_16 (by rfl) (by first | exact trivial | exact Or.inr rfl | exact Or.inl rfl | (simp only [ob, obA, R32, R64] at *; omega) | (simp only [ob, obA, R32, R64] at *; and_intros <;> omega)) ?_
      refine V_icmple dX8_readBook_19 (tgt := 28) (by decide) (by simp only [R32, R64] at *; omega) (fun q19 => ?_) (fun q19 => ?_)
      · omega
      · refine V_ex sX8_readBook_22 (by rfl) (by first | exact trivial | exact Or.inr rfl | exact Or.inl rfl | (simp only [ob, obA, R32, R64] at *; omega) | (simp only [ob, obA, R32, R64] at *; and_intros <;> omega)) ?_
        refine V_callV (M := MX8_readBook) (N := MX8_refuse) dX8_readBook_24 lRX8_49 kX8_refuse rfl (rfl) rfl (c_rRefuse (d := 2) hκ) rfl rfl (Nat.le_of_ble_eq_true rfl) (fit_rm (by omega)) (⟨Nat.le_of_ble_eq_true rfl, Nat.le_of_ble_eq_true rfl⟩) (fun v Ω' hp => ?_) (fun _ _ h => h.elim)
        obtain ⟨rfl, rfl⟩ := hp
        refine V_zret dX8_readBook_27 rfl (by first | exact Or.inl rfl | exact Or.inr rfl | exact b2i_01 _) (by decide) (lP_no (show (1 : Int) ≠ 0 by decide) (FS.fnd s _ _) (by rw [at_fnd (by omega)]; exact hi) of_fnd)
