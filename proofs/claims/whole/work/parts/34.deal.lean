/-! Sharing: dealing on -/
theorem rowIs_app {f : Nat → Int} {x : Nat} : ∀ {l : List Nat} {p : Nat}, rowIs f p (l ++ [x]) ↔ rowIs f p l ∧ f (p + l.length) = (x : Nat) := by
  intro l
  induction l with
  | nil => intro p; simp [rowIs]
  | cons i l ih =>
    intro p
    simp only [List.cons_append, rowIs, ih, List.length_cons]
    rw [show p + 1 + l.length = p + (l.length + 1) by omega, and_assoc]
theorem mn_le_mx (h : Nat → Int) : ∀ k, mnH h k ≤ mxH h k := by
  intro k
  induction k with
  | zero => exact Int.le_refl _
  | succ k ih => unfold mnH mxH mn mx; split <;> split <;> omega
theorem keepS_R {ch : Nat} {h : Nat → Int} {pre : List Nat} {b : SB} (hb : 0 ≤ b.1 ∧ b.1 ≤ 1000000000) : 0 ≤ (keepS ch h pre b).1 ∧ (keepS ch h pre b).1 ≤ 1000000000 := by
  have := mn_le_mx h (ch - 1)
  unfold keepS
  split
  · exact ⟨by show (0:Int) ≤ _ - _; omega, by show (_ - _ : Int) ≤ _; omega⟩
  · exact hb
theorem foldl_R {F : SB → Nat → SB} (hF : ∀ b c, (0 ≤ b.1 ∧ b.1 ≤ 1000000000) → 0 ≤ (F b c).1 ∧ (F b c).1 ≤ 1000000000) : ∀ (l : List Nat) (b : SB), (0 ≤ b.1 ∧ b.1 ≤ 1000000000) → 0 ≤ (l.foldl F b).1 ∧ (l.foldl F b).1 ≤ 1000000000 := by
  intro l
  induction l with
  | nil => intro b hb; exact hb
  | cons c l ih => intro b hb; exact ih _ (hF b c hb)
theorem dealS_R {w : Nat → Int} {ch : Nat} {total : Int} : ∀ (r place : Nat) (h : Nat → Int) (begun : Nat) (pre : List Nat) (b : SB), (0 ≤ b.1 ∧ b.1 ≤ 1000000000) → 0 ≤ (dealS w ch total r place h begun pre b).1 ∧ (dealS w ch total r place h begun pre b).1 ≤ 1000000000 := by
  intro r
  induction r with
  | zero => intro place h begun pre b hb; exact keepS_R hb
  | succ r ih =>
    intro place h begun pre b hb
    rw [dealS]
    refine foldl_R (fun b c hb => ?_) _ _ hb
    split
    · exact ih _ _ _ _ _ hb
    · exact hb
def dealP (G : Wd) (w h : Nat → Int) (many ch : Nat) (total : Int) (pre : List Nat) (b : SB) : Option Vl → Om → Prop := fun v Ω' => v = none ∧ ∃ G', Ω' = Wm G' ∧ Fr [135, 137, 138, 139] G G' ∧ ShA G' w h many ch total pre b
set_option maxRecDepth 100000 in
set_option maxHeartbeats 4000000 in
theorem c_deal {κ : Kx} (hκ : KOK κ) {w : Nat → Int} {many ch : Nat} {total : Int} (hc : 1 ≤ ch ∧ ch ≤ 4) (hm : many ≤ 10) (ht : 0 ≤ total ∧ total ≤ 100000000) (hw : ∀ j, 0 ≤ w j ∧ w j ≤ 1000000) : ∀ (r d place begun : Nat) (pre : List Nat) (h : Nat → Int) (b : SB) (G : Wd), 2 * r + 2 ≤ d → place + r = many → pre.length = place → begun ≤ 10 → ShA G w h many ch total pre b → (∀ j, 0 ≤ h j ∧ h j ≤ 1000000 * (place : Int)) → (0 ≤ b.1 ∧ b.1 ≤ 1000000000) → begun ≤ place →
    Ct κ MX6_deal d 0 0 [VR 135, VI (place : Nat), VI (begun : Nat)] (Wm G) (dealP G w h many ch total pre (dealS w ch total r place h begun pre b)) noX := by
  intro r
  induction r with
  | zero =>
    intro d place begun pre h b G hd hp hpre hbg hA hh hb hbp
    refine Ct_of hκ kX6_deal.1 rfl (Nat.le_of_ble_eq_true rfl) (ls := [some (VR 135), some (VI (place : Nat)), some (VI (begun : Nat)), none, none]) rfl (fun μ => ?_)
    refine V_ex sX6_deal_0 (by simp only [Option.toList, List.cons_append, List.nil_append, exN, ex1, gI, gL, gR, pI, pL, pR, lget, lset1, lset2, kl, b2I, b2L, nob, ob32, ob64, xGet, xPut, xLen, xLd, xLdR, xSt, obA, true_and, and_true, and_self, eq_self, Nat.reduceEqDiff, Nat.zero_ne_one, reduceIte, Nat.reduceLeDiff, and_false, false_and, show skd 5 1 = 0 from rfl, show LF.1 135 = some (.inl 5) from rfl, hA.1]; rfl) (by first | exact trivial | exact Or.inl trivial | exact Or.inr rfl | exact Or.inl rfl) ?_
    refine V_icmpge dX6_deal_5 (tgt := 14) (by decide) (by unfold R32; constructor <;> omega) (fun q => ?_) (fun q => ?_)
    · refine V_ex sX6_deal_14 (by rfl) (by first | exact trivial | exact Or.inl trivial | exact Or.inr rfl | exact Or.inl rfl) ?_
      refine V_callV (M := MX6_deal) (N := MX6_keepIfBetter) (As := []) (rest := []) dX6_deal_15 lRX6_53 kX6_keepIfBetter rfl (rfl) rfl (c_keepIfBetter (d := 1) hκ hA hc hm (by omega) (fun j => by have := hh j; omega) hb (by omega)) rfl rfl (Nat.le_of_ble_eq_true rfl) (fit_rm (by omega)) (⟨Nat.le_refl _, Nat.le_refl _⟩) (fun v Ω' hp2 => ?_) (fun _ _ h => h.elim)
      obtain ⟨rfl, G1, rfl, f1, a1⟩ := hp2
      refine V_vret dX6_deal_18 rfl (by decide) ⟨rfl, G1, rfl, f1.mono (by decide), a1⟩
    · omega
  | succ r ihr =>
    intro d place begun pre h b G hd hp hpre hbg hA hh hb hbp
    refine Ct_of hκ kX6_deal.1 rfl (Nat.le_of_ble_eq_true rfl) (ls := [some (VR 135), some (VI (place : Nat)), some (VI (begun : Nat)), none, none]) rfl (fun μ => ?_)
    refine V_ex sX6_deal_0 (by simp only [Option.toList, List.cons_append, List.nil_append, exN, ex1, gI, gL, gR, pI, pL, pR, lget, lset1, lset2, kl, b2I, b2L, nob, ob32, ob64, xGet, xPut, xLen, xLd, xLdR, xSt, obA, true_and, and_true, and_self, eq_self, Nat.reduceEqDiff, Nat.zero_ne_one, reduceIte, Nat.reduceLeDiff, and_false, false_and, show skd 5 1 = 0 from rfl, show LF.1 135 = some (.inl 5) from rfl, hA.1]; rfl) (by first | exact trivial | exact Or.inl trivial | exact Or.inr rfl | exact Or.inl rfl) ?_
    refine V_icmpge dX6_deal_5 (tgt := 14) (by decide) (by unfold R32; constructor <;> omega) (fun q => ?_) (fun q => ?_)
    · omega
    · refine V_ex sX6_deal_8 (by rfl) (by first | exact trivial | exact Or.inl trivial | exact Or.inr rfl | exact Or.inl rfl) ?_
      refine V_icmplt dX6_deal_11 (tgt := 19) (by decide) (by unfold R32; constructor <;> omega) (fun q2 => ?_) (fun q2 => ?_)
      · refine V_ex sX6_deal_19 (by simp only [Option.toList, List.cons_append, List.nil_append, exN, ex1, gI, gL, gR, pI, pL, pR, lget, lset1, lset2, kl, b2I, b2L, nob, ob32, ob64, xGet, xPut, xLen, xLd, xLdR, xSt, obA, true_and, and_true, and_self, eq_self, Nat.reduceEqDiff, Nat.zero_ne_one, reduceIte, Nat.reduceLeDiff, and_false, false_and, show skd 5 2 = 0 from rfl, show LF.1 135 = some (.inl 5) from rfl, hA.2.1]; rfl) (by first | exact trivial | exact Or.inl trivial | exact Or.inr rfl | exact Or.inl rfl) ?_
        refine V_mmin (M := MX6_deal) dX6_deal_26 lRX6_56 (by unfold R32; constructor <;> omega) (Nat.le_of_ble_eq_true rfl) (fit_rm (by omega)) ⟨Nat.le_refl _, Nat.le_refl _⟩ ?_
        refine V_ex sX6_deal_29 (by rfl) (by first | exact trivial | exact Or.inl trivial | exact Or.inr rfl | exact Or.inl rfl) ?_
        have hmin : (if (ch : Int) < (begun : Int) + 1 then (ch : Int) else (begun : Int) + 1) = ((min (begun + 1) ch : Nat) : Int) := by split <;> omega
        rw [hmin]
        generalize hM : min (begun + 1) ch = M
        generalize hres : dealS w ch total (r + 1) place h begun pre b = res
        rw [dealS, hM, List.range_eq_range'] at hres
        suffices L : ∀ (n c : Nat) (ci : Int) (G' : Wd) (b' : SB), ci = (c : Int) → c + n = M → Fr [135, 137, 138, 139] G G' → ShA G' w h many ch total pre b' → (0 ≤ b'.1 ∧ b'.1 ≤ 1000000000) → (List.range' c n).foldl (fun b c => if canBe ch total (h c + w place) b.1 = true then dealS w ch total r (place + 1) (upd1 h c (h c + w place)) (if c = begun then begun + 1 else begun) (pre ++ [c]) b else b) b' = res →
            V κ MX6_deal (rmD d 0 0) (dealP G w h many ch total pre res) noX 0 0 μ 0 0 (Wm G') 33 [some (VR 135), some (VI (place : Nat)), some (VI (begun : Nat)), some (VI (M : Nat)), some (VI ci)] [] from
          L M 0 0 G b rfl (by omega) (Fr.refl _ _) hA hb hres
        intro n
        induction n with
        | zero =>
          intro c ci G' b' hci hn f1 a1 hb1 he
          refine V_ex sX6_deal_33 (by rfl) (by first | exact trivial | exact Or.inl trivial | exact Or.inr rfl | exact Or.inl rfl) ?_
          refine V_icmpge dX6_deal_36 (tgt := 53) (by decide) (by unfold R32; constructor <;> omega) (fun q3 => ?_) (fun q3 => ?_)
          · refine V_vret dX6_deal_53 rfl (by decide) ⟨rfl, G', rfl, f1, by rw [← he]; exact a1⟩
          · omega
        | succ n ihn =>
          intro c ci G' b' hci hn f1 a1 hb1 he
          subst hci
          refine V_ex sX6_deal_33 (by rfl) (by first | exact trivial | exact Or.inl trivial | exact Or.inr rfl | exact Or.inl rfl) ?_
          refine V_icmpge dX6_deal_36 (tgt := 53) (by decide) (by unfold R32; constructor <;> omega) (fun q3 => ?_) (fun q3 => ?_)
          · omega
          · rw [List.range'_succ, List.foldl_cons] at he
            have hc4 : c < ch := by omega
            have DT : Ct κ MX6_dealTo (d - 1) 0 0 [VR 135, VI (c : Nat), VI (place : Nat), VI (begun : Nat)] (Wm G') (dealP G' w h many ch total pre (if canBe ch total (h c + w place) b'.1 = true then dealS w ch total r (place + 1) (upd1 h c (h c + w place)) (if c = begun then begun + 1 else begun) (pre ++ [c]) b' else b')) noX := by
              refine Ct_of hκ kX6_dealTo.1 rfl (Nat.le_of_ble_eq_true rfl) (ls := [some (VR 135), some (VI (c : Nat)), some (VI (place : Nat)), some (VI (begun : Nat)), none, none]) rfl (fun μ => ?_)
              obtain ⟨s1, s2, s3, s4, s5, s6, s7, s8⟩ := a1
              have hc0 := hh c
              have hw0 := hw place
              refine V_ex sX6_dealTo_0 (by simp only [Option.toList, List.cons_append, List.nil_append, exN, ex1, gI, gL, gR, pI, pL, pR, lget, lset1, lset2, kl, b2I, b2L, nob, ob32, ob64, xGet, xPut, xLen, xLd, xLdR, xSt, obA, true_and, and_true, and_self, eq_self, Nat.reduceEqDiff, Nat.zero_ne_one, reduceIte, Nat.reduceLeDiff, and_false, false_and, show skd 5 4 = 2 from rfl, show LF.1 135 = some (.inl 5) from rfl, show LF.2 135 4 = some 137 from rfl]; rfl) (by first | exact trivial | exact Or.inl trivial | exact Or.inr rfl | exact Or.inl rfl) ?_
              refine V_callSN (M := MX6_dealTo) (N := MX11_at) (As := [VR 137, VI (c : Nat)]) (rest := []) dX6_dealTo_5 lRX6_28 kX11_at rfl (c_at (d := 0) hκ (a := 137) (n := 4) rfl (by decide) (by unfold R32; omega)) rfl rfl (Nat.le_of_ble_eq_true rfl) (fit_rm (by omega)) (⟨Nat.le_refl _, Nat.le_refl _⟩) (fun v Ω' hp => ?_) (fun _ _ h => h.elim)
              obtain ⟨rfl, rfl⟩ := hp
              rw [rAt_nat c rfl (by omega), s6 c (by omega)]
              refine V_ex sX6_dealTo_8 (by simp only [Option.toList, List.cons_append, List.nil_append, exN, ex1, gI, gL, gR, pI, pL, pR, lget, lset1, lset2, kl, b2I, b2L, nob, ob32, ob64, xGet, xPut, xLen, xLd, xLdR, xSt, obA, true_and, and_true, and_self, eq_self, Nat.reduceEqDiff, Nat.zero_ne_one, reduceIte, Nat.reduceLeDiff, and_false, false_and, show skd 5 0 = 2 from rfl, show LF.1 135 = some (.inl 5) from rfl, show LF.2 135 0 = some 136 from rfl]; rfl) (by first | exact trivial | exact Or.inl trivial | exact Or.inr rfl | exact Or.inl rfl) ?_
              refine V_callSN (M := MX6_dealTo) (N := MX11_at) (As := [VR 136, VI (place : Nat)]) (rest := [VI (h c)]) dX6_dealTo_17 lRX6_28 kX11_at rfl (c_at (d := 0) hκ (a := 136) (n := 10) rfl (by decide) (by unfold R32; omega)) rfl rfl (Nat.le_of_ble_eq_true rfl) (fit_rm (by omega)) (⟨Nat.le_refl _, Nat.le_refl _⟩) (fun v Ω' hp => ?_) (fun _ _ h => h.elim)
              obtain ⟨rfl, rfl⟩ := hp
              rw [rAt_nat place rfl (by omega), s5]
              refine V_ex sX6_dealTo_20 (by simp only [Option.toList, List.cons_append, List.nil_append, exN, ex1, gI, gL, gR, pI, pL, pR, lget, lset1, lset2, kl, b2I, b2L, nob, ob32, ob64, xGet, xPut, xLen, xLd, xLdR, xSt, obA, true_and, and_true, and_self, eq_self, Nat.reduceEqDiff, Nat.zero_ne_one, reduceIte, Nat.reduceLeDiff, and_false, false_and, show skd 5 5 = 2 from rfl, show LF.1 135 = some (.inl 5) from rfl, show LF.2 135 5 = some 138 from rfl]; rfl) (by first | exact trivial | exact Or.inl trivial | exact Or.inr rfl | exact Or.inl rfl) ?_
              refine V_callSN (M := MX6_dealTo) (N := MX11_setAt) (As := [VR 138, VI (place : Nat), VI (c : Nat)]) (rest := []) dX6_dealTo_29 lRX6_41 kX11_setAt rfl (c_setAt (d := 0) hκ (a := 138) (n := 10) rfl (by decide) (by unfold R32; omega)) rfl rfl (Nat.le_of_ble_eq_true rfl) (fit_rm (by omega)) (⟨Nat.le_refl _, Nat.le_refl _⟩) (fun v Ω' hp => ?_) (fun _ _ h => h.elim)
              obtain ⟨rfl, rfl⟩ := hp
              rw [rSet_nat place rfl (by omega)]
              refine V_ex sX6_dealTo_32 (by simp only [Option.toList, List.cons_append, List.nil_append, exN, ex1, gI, gL, gR, pI, pL, pR, lget, lset1, lset2, kl, b2I, b2L, nob, ob32, ob64, xGet, xPut, xLen, xLd, xLdR, xSt, obA, true_and, and_true, and_self, eq_self, Nat.reduceEqDiff, Nat.zero_ne_one, reduceIte, Nat.reduceLeDiff, and_false, false_and, show skd 5 4 = 2 from rfl, show LF.1 135 = some (.inl 5) from rfl, show LF.2 135 4 = some 137 from rfl]; rfl) (by first | exact trivial | exact Or.inl trivial | exact Or.inr rfl | exact Or.inl rfl) ?_
              refine V_callSN (M := MX6_dealTo) (N := MX11_setAt) (As := [VR 137, VI (c : Nat), VI (h c + w place)]) (rest := []) dX6_dealTo_39 lRX6_41 kX11_setAt rfl (c_setAt (d := 0) hκ (a := 137) (n := 4) rfl (by decide) (by unfold R32; omega)) rfl rfl (Nat.le_of_ble_eq_true rfl) (fit_rm (by omega)) (⟨Nat.le_refl _, Nat.le_refl _⟩) (fun v Ω' hp => ?_) (fun _ _ h => h.elim)
              obtain ⟨rfl, rfl⟩ := hp
              rw [rSet_nat c rfl (by omega)]
              generalize hG1 : uI (uI G' 138 place (c : Nat)) 137 c (h c + w place) = G1
              have f2 : Fr [135, 137, 138, 139] G' G1 := by rw [← hG1]; exact ((Fr.refl _ _).upd (by decide)).upd (by decide)
              have a2 : ShA G1 w (upd1 h c (h c + w place)) many ch total (pre ++ [c]) b' := by
                rw [← hG1]
                refine ⟨by simp [upd2_eq]; exact s1, by simp [upd2_eq]; exact s2, by simp [upd2_eq]; exact s3, by simp [upd2_eq]; exact s4, by funext j; simp [upd2_eq]; exact congrFun s5 j, fun j hj => ?_, rowIs_app.mpr ⟨?_, ?_⟩, ?_⟩
                · simp only [upd2_eq, upd1]; by_cases hjc : j = c <;> simp [hjc]; exact s6 j hj
                · refine rowIs_of (fun j hj => ?_)
                  have := rowIs_at s7 j hj
                  simp only [upd2_eq]; rw [if_neg (by omega), if_neg (by omega)]; exact this
                · simp [upd2_eq, hpre]
                · refine rowIs_of (fun j hj => ?_)
                  have := rowIs_at s8 j hj
                  simp only [upd2_eq]; rw [if_neg (by omega), if_neg (by omega)]; exact this
              -- the hand is given back
              have back : ∀ (G2 : Wd) (b2 : SB), Fr [135, 137, 138, 139] G' G2 → ShA G2 w (upd1 h c (h c + w place)) many ch total (pre ++ [c]) b2 → b2 = (if canBe ch total (h c + w place) b'.1 = true then dealS w ch total r (place + 1) (upd1 h c (h c + w place)) (if c = begun then begun + 1 else begun) (pre ++ [c]) b' else b') → V κ MX6_dealTo (rmD (d - 1) 0 0) (dealP G' w h many ch total pre (if canBe ch total (h c + w place) b'.1 = true then dealS w ch total r (place + 1) (upd1 h c (h c + w place)) (if c = begun then begun + 1 else begun) (pre ++ [c]) b' else b')) noX 0 0 μ 0 0 (Wm G2) 70 [some (VR 135), some (VI (c : Nat)), some (VI (place : Nat)), some (VI (begun : Nat)), some (VI (h c)), some (VI (h c + w place))] [] := fun G2 b2 f3 a3 hb2 => by
                rw [← hb2]
                obtain ⟨t1, t2, t3, t4, t5, t6, t7, t8⟩ := a3
                refine V_ex sX6_dealTo_70 (by simp only [Option.toList, List.cons_append, List.nil_append, exN, ex1, gI, gL, gR, pI, pL, pR, lget, lset1, lset2, kl, b2I, b2L, nob, ob32, ob64, xGet, xPut, xLen, xLd, xLdR, xSt, obA, true_and, and_true, and_self, eq_self, Nat.reduceEqDiff, Nat.zero_ne_one, reduceIte, Nat.reduceLeDiff, and_false, false_and, show skd 5 4 = 2 from rfl, show LF.1 135 = some (.inl 5) from rfl, show LF.2 135 4 = some 137 from rfl]; rfl) (by first | exact trivial | exact Or.inl trivial | exact Or.inr rfl | exact Or.inl rfl) ?_
                refine V_callSN (M := MX6_dealTo) (N := MX11_setAt) (As := [VR 137, VI (c : Nat), VI (h c)]) (rest := []) dX6_dealTo_77 lRX6_41 kX11_setAt rfl (c_setAt (d := 0) hκ (a := 137) (n := 4) rfl (by decide) (by unfold R32; omega)) rfl rfl (Nat.le_of_ble_eq_true rfl) (fit_rm (by omega)) (⟨Nat.le_refl _, Nat.le_refl _⟩) (fun v Ω' hp => ?_) (fun _ _ h => h.elim)
                obtain ⟨rfl, rfl⟩ := hp
                rw [rSet_nat c rfl (by omega)]
                refine V_vret dX6_dealTo_80 rfl (by decide) ⟨rfl, _, rfl, f3.upd (by decide), ?_⟩
                have t7b := rowIs_app.mp t7
                refine ⟨by simp [upd2_eq]; exact t1, by simp [upd2_eq]; exact t2, by simp [upd2_eq]; exact t3, by simp [upd2_eq]; exact t4, by funext j; simp [upd2_eq]; exact congrFun t5 j, fun j hj => ?_, ?_, ?_⟩
                · have := t6 j hj; simp only [upd2_eq, upd1] at *; by_cases hjc : j = c <;> simp [hjc] at *; exact this
                · refine rowIs_of (fun j hj => ?_)
                  have := rowIs_at t7b.1 j hj
                  simp only [upd2_eq]; rw [if_neg (by omega)]; exact this
                · refine rowIs_of (fun j hj => ?_)
                  have := rowIs_at t8 j hj
                  simp only [upd2_eq]; rw [if_neg (by omega)]; exact this
              refine V_ex sX6_dealTo_42 (by rfl) (by first | exact trivial | exact Or.inl trivial | exact Or.inr rfl | exact Or.inl rfl) ?_
              refine V_callV (M := MX6_dealTo) (N := MX6_canBeBetter) (As := [VI (h c + w place)]) (rest := []) dX6_dealTo_45 lRX6_66 kX6_canBeBetter rfl (rfl) rfl (c_canBeBetter (d := 0) hκ a2.2.1 a2.2.2.1 a2.2.2.2.1 hc.2 ht (by omega) hb1) rfl rfl (Nat.le_of_ble_eq_true rfl) (fit_rm (by omega)) (⟨Nat.le_refl _, Nat.le_refl _⟩) (fun v Ω' hp2 => ?_) (fun _ _ h => h.elim)
              obtain ⟨rfl, rfl⟩ := hp2
              refine V_ifeqB dX6_dealTo_48 (tgt := 70) (by decide) (fun q4 => ?_) (fun q4 => ?_)
              · exact back G1 b' f2 a2 (by rw [if_neg (by rw [q4]; decide)])
              · have go : ∀ bg : Nat, bg = (if c = begun then begun + 1 else begun) → V κ MX6_dealTo (rmD (d - 1) 0 0) (dealP G' w h many ch total pre (if canBe ch total (h c + w place) b'.1 = true then dealS w ch total r (place + 1) (upd1 h c (h c + w place)) (if c = begun then begun + 1 else begun) (pre ++ [c]) b' else b')) noX 0 0 μ 0 0 (Wm G1) 67 [some (VR 135), some (VI (c : Nat)), some (VI (place : Nat)), some (VI (begun : Nat)), some (VI (h c)), some (VI (h c + w place))] [VI (bg : Nat), VI ((place : Int) + 1), VR 135] := fun bg hbg2 => by
                  have hbb : bg ≤ place + 1 := by rw [hbg2]; split <;> omega
                  refine V_callV (M := MX6_dealTo) (N := MX6_deal) (As := [VI ((place + 1 : Nat) : Int), VI (bg : Nat)]) (rest := []) dX6_dealTo_67 lRX6_49 kX6_deal rfl (rfl) rfl (ihr (d - 1 - 1) (place + 1) bg (pre ++ [c]) (upd1 h c (h c + w place)) b' G1 (by omega) (by omega) (by simp; omega) (by omega) a2 (fun j => by unfold upd1; have := hh j; split <;> omega) hb1 hbb) rfl rfl (Nat.le_of_ble_eq_true rfl) (fit_rm (by omega)) (⟨Nat.le_refl _, Nat.le_refl _⟩) (fun v Ω' hp2 => ?_) (fun _ _ h => h.elim)
                  obtain ⟨rfl, G2, rfl, f3, a3⟩ := hp2
                  exact back G2 _ (f2.trans f3) a3 (by rw [if_pos q4, hbg2])
                refine V_ex sX6_dealTo_51 (by rfl) (by first | exact trivial | exact Or.inl trivial | exact Or.inr rfl | exact Or.inl rfl) ?_
                refine V_icmpne dX6_dealTo_57 (tgt := 66) (by decide) (by unfold R32; constructor <;> omega) (fun q5 => ?_) (fun q5 => ?_)
                · refine V_ex sX6_dealTo_66 (by rfl) (by first | exact trivial | exact Or.inl trivial | exact Or.inr rfl | exact Or.inl rfl) ?_
                  exact go begun (by rw [if_neg (by omega)])
                · refine V_ex sX6_dealTo_60 (by rfl) (by first | exact trivial | exact Or.inl trivial | exact Or.inr rfl | exact Or.inl rfl) ?_
                  refine V_goto dX6_dealTo_63 (tgt := 67) (by decide) ?_
                  exact go (begun + 1) (by rw [if_pos (by omega)])
            refine V_ex sX6_deal_39 (by rfl) (by first | exact trivial | exact Or.inl trivial | exact Or.inr rfl | exact Or.inl rfl) ?_
            refine V_callV (M := MX6_deal) (N := MX6_dealTo) (As := [VI (c : Nat), VI (place : Nat), VI (begun : Nat)]) (rest := []) dX6_deal_44 lRX6_62 kX6_dealTo rfl (rfl) rfl (DT) rfl rfl (Nat.le_of_ble_eq_true rfl) (fit_rm (by omega)) (⟨Nat.le_refl _, Nat.le_refl _⟩) (fun v Ω' hp2 => ?_) (fun _ _ h => h.elim)
            obtain ⟨rfl, G2, rfl, f3, a3⟩ := hp2
            refine V_ex sX6_deal_47 (by rfl) (by first | exact trivial | exact Or.inl trivial | exact Or.inr rfl | exact Or.inl rfl) ?_
            refine V_goto dX6_deal_50 (tgt := 33) (by decide) ?_
            refine ihn (c + 1) _ G2 _ (by omega) (by omega) (f1.trans f3) a3 ?_ he
            split
            · exact dealS_R _ _ _ _ _ _ hb1
            · exact hb1
      · omega
