/-! Choice: the least leaves that add up -/
/-- only cells of the addresses A have changed -/
def Fr (A : List Nat) (G G' : Wd) : Prop := G'.2 = G.2 ∧ ∀ x, x ∉ A → G'.1 x = G.1 x
theorem Fr.refl (A : List Nat) (G : Wd) : Fr A G G := ⟨rfl, fun _ _ => rfl⟩
theorem Fr.trans {A : List Nat} {G G' G'' : Wd} (h : Fr A G G') (h' : Fr A G' G'') : Fr A G G'' := ⟨h'.1.trans h.1, fun x hx => (h'.2 x hx).trans (h.2 x hx)⟩
theorem Fr.upd {A : List Nat} {G G' : Wd} (h : Fr A G G') {a k : Nat} {z : Int} (ha : a ∈ A) : Fr A G (uI G' a k z) := ⟨h.1, fun x hx => (upd2_ne z (fun e => hx (by rw [e]; exact ha))).trans (h.2 x hx)⟩
theorem Fr.mono {A B : List Nat} {G G' : Wd} (h : Fr A G G') (hs : ∀ x ∈ A, x ∈ B) : Fr B G G' := ⟨h.1, fun x hx => h.2 x (fun e => hx (hs x e))⟩
theorem Fr.at {A : List Nat} {G G' : Wd} (h : Fr A G G') {a : Nat} (ha : a ∉ A) (k : Nat) : G'.1 a k = G.1 a k := congrFun (h.2 a ha) k
theorem rAt_in {f : Nat → Int} {n : Nat} {i : Int} (h : 0 ≤ i) (h2 : i < (n : Nat)) : rAt f n i = f i.toNat := by rw [rAt, if_pos ⟨h, h2⟩]
theorem rAt_nat {f : Nat → Int} {n : Nat} {i : Int} (c : Nat) (h : i = (c : Int)) (h2 : c < n) : rAt f n i = f c := by rw [rAt, if_pos ⟨by omega, by omega⟩, h]; rfl
theorem rSet_in {G : Wd} {a n : Nat} {i z : Int} (h : 0 ≤ i) (h2 : i < (n : Nat)) : rSet G a n i z = uI G a i.toNat z := by rw [rSet, if_pos ⟨h, h2⟩]
theorem rSet_nat {G : Wd} {a n : Nat} {i z : Int} (c : Nat) (h : i = (c : Int)) (h2 : c < n) : rSet G a n i z = uI G a c z := by rw [rSet, if_pos ⟨by omega, by omega⟩, h]; rfl
def pickS (w : Nat → Int) : Nat → Nat → Nat → Int → Option (List Nat)
  | _, 0, _, out => if out = 0 then some [] else none
  | 0, _ + 1, _, _ => none
  | k + 1, r + 1, i, out => match (if w i ≤ out then (pickS w k r (i + 1) (out - w i)).map (fun l => i :: l) else none) with
    | some l => some l
    | none => pickS w k (r + 1) (i + 1) out
/-- the row written from a place on -/
def rowIs (f : Nat → Int) : Nat → List Nat → Prop
  | _, [] => True
  | p, i :: l => f p = (i : Nat) ∧ rowIs f (p + 1) l
theorem rowIs_upd {f g : Nat → Int} : ∀ {l : List Nat} {p : Nat}, (∀ j, p ≤ j → g j = f j) → rowIs f p l → rowIs g p l := by
  intro l
  induction l with
  | nil => intro p _ _; trivial
  | cons i l ih => intro p h hr; exact ⟨(h p (by omega)).trans hr.1, ih (fun j hj => h j (by omega)) hr.2⟩
def pickP (G : Wd) (o : Option (List Nat)) (place : Nat) : Option Vl → Om → Prop := fun v Ω' => v = some (VI (b2i o.isSome)) ∧ ∃ G', Ω' = Wm G' ∧ Fr [143] G G' ∧ (∀ j, j < place → G'.1 143 j = G.1 143 j) ∧ ∀ l, o = some l → rowIs (G'.1 143) place l
set_option maxRecDepth 100000 in
set_option maxHeartbeats 4000000 in
theorem c_pick {κ : Kx} (hκ : KOK κ) {size many : Nat} {w : Nat → Int} (hs : size ≤ 4) (hm : many ≤ 30) (hw : ∀ j, 0 ≤ w j ∧ R32 (w j)) : ∀ (r d place i : Nat) (out : Int) (G : Wd), 2 * r ≤ d → place + r = size → i ≤ many → R64 out → G.1 140 2 = (many : Nat) → G.1 142 = w →
    Ct κ MX1_pick d 0 0 [VR 140, VI (size : Nat), VI (place : Nat), VI (i : Nat), VL out] (Wm G) (pickP G (pickS w (many - i) r i out) place) noX := by
  intro r
  induction r with
  | zero =>
    intro d place i out G hd hp hi ho h2 h142
    refine Ct_of hκ kX1_pick.1 rfl (Nat.le_of_ble_eq_true rfl) (ls := [some (VR 140), some (VI (size : Nat)), some (VI (place : Nat)), some (VI (i : Nat)), some (VL out), none, none]) rfl (fun μ => ?_)
    have hh : ∀ k, pickS w k 0 i out = if out = 0 then some [] else none := fun k => by cases k <;> rfl
    refine V_ex sX1_pick_0 (by rfl) (by first | exact trivial | exact Or.inl trivial | exact Or.inr rfl | exact Or.inl rfl) ?_
    refine V_icmpge dX1_pick_2 (tgt := 10) (by decide) (by unfold R32; constructor <;> omega) (fun q => ?_) (fun q => ?_)
    · refine V_ex sX1_pick_10 (by rfl) (by exact ⟨ho, r64_0⟩) ?_
      refine V_lifne dX1_pick_14 (tgt := 21) (by decide) (fun q2 => ?_) (fun q2 => ?_)
      · refine V_ex sX1_pick_21 (by rfl) (by first | exact trivial | exact Or.inl trivial | exact Or.inr rfl | exact Or.inl rfl) ?_
        refine V_zret dX1_pick_22 rfl (by first | exact Or.inl rfl | exact Or.inr rfl | exact b2i_01 _) (by decide) ⟨by rw [hh, if_neg q2]; rfl, G, rfl, Fr.refl _ _, fun _ _ => rfl, fun l hl => by rw [hh, if_neg q2] at hl; cases hl⟩
      · refine V_ex sX1_pick_17 (by rfl) (by first | exact trivial | exact Or.inl trivial | exact Or.inr rfl | exact Or.inl rfl) ?_
        refine V_goto dX1_pick_18 (tgt := 22) (by decide) ?_
        refine V_zret dX1_pick_22 rfl (by first | exact Or.inl rfl | exact Or.inr rfl | exact b2i_01 _) (by decide) ⟨by rw [hh, if_pos q2]; rfl, G, rfl, Fr.refl _ _, fun _ _ => rfl, fun l hl => by rw [hh, if_pos q2] at hl; cases hl; trivial⟩
    · omega
  | succ r ihr =>
    intro d place i out G hd hp hi ho h2 h142
    refine Ct_of hκ kX1_pick.1 rfl (Nat.le_of_ble_eq_true rfl) (ls := [some (VR 140), some (VI (size : Nat)), some (VI (place : Nat)), some (VI (i : Nat)), some (VL out), none, none]) rfl (fun μ => ?_)
    refine V_ex sX1_pick_0 (by rfl) (by first | exact trivial | exact Or.inl trivial | exact Or.inr rfl | exact Or.inl rfl) ?_
    refine V_icmpge dX1_pick_2 (tgt := 10) (by decide) (by unfold R32; constructor <;> omega) (fun q => ?_) (fun q => ?_)
    · omega
    · refine V_ex sX1_pick_5 (by rfl) (by first | exact trivial | exact Or.inl trivial | exact Or.inr rfl | exact Or.inl rfl) ?_
      refine V_icmplt dX1_pick_7 (tgt := 23) (by decide) (by unfold R32; constructor <;> omega) (fun q => ?_) (fun q => ?_)
      · refine V_ex sX1_pick_23 (by rfl) (by first | exact trivial | exact Or.inl trivial | exact Or.inr rfl | exact Or.inl rfl) ?_
        suffices L : ∀ (k c : Nat) (ci : Int) (G' : Wd), ci = (c : Int) → c + k = many → Fr [143] G G' → (∀ j, j < place → G'.1 143 j = G.1 143 j) → pickS w k (r + 1) c out = pickS w (many - i) (r + 1) i out →
            V κ MX1_pick (rmD d 0 0) (pickP G (pickS w (many - i) (r + 1) i out) place) noX 0 0 μ 0 0 (Wm G') 26 [some (VR 140), some (VI (size : Nat)), some (VI (place : Nat)), some (VI (i : Nat)), some (VL out), none, some (VI ci)] [] from
          L (many - i) i _ G rfl (by omega) (Fr.refl _ _) (fun _ _ => rfl) rfl
        intro k
        induction k with
        | zero =>
          intro c ci G' hc hk hf hr he
          have e2 : G'.1 140 2 = (many : Nat) := (hf.at (by decide) 2).trans h2
          refine V_ex sX1_pick_26 (by simp only [Option.toList, List.cons_append, List.nil_append, exN, ex1, gI, gL, gR, pI, pL, pR, lget, lset1, lset2, kl, b2I, b2L, nob, ob32, ob64, xGet, xPut, xLen, xLd, xLdR, xSt, obA, true_and, and_true, and_self, eq_self, Nat.reduceEqDiff, Nat.zero_ne_one, reduceIte, Nat.reduceLeDiff, and_false, false_and, show skd 1 2 = 0 from rfl, show LF.1 140 = some (.inl 1) from rfl, e2]; rfl) (by first | exact trivial | exact Or.inl trivial | exact Or.inr rfl | exact Or.inl rfl) ?_
          refine V_icmpge dX1_pick_32 (tgt := 56) (by decide) (by unfold R32; constructor <;> omega) (fun q3 => ?_) (fun q3 => ?_)
          · refine V_ex sX1_pick_56 (by rfl) (by first | exact trivial | exact Or.inl trivial | exact Or.inr rfl | exact Or.inl rfl) ?_
            refine V_zret dX1_pick_57 rfl (by first | exact Or.inl rfl | exact Or.inr rfl | exact b2i_01 _) (by decide) ⟨by rw [← he]; rfl, G', rfl, hf, hr, fun l hl => by rw [← he] at hl; cases hl⟩
          · omega
        | succ k ih =>
          intro c ci G' hc hk hf hr he
          have e2 : G'.1 140 2 = (many : Nat) := (hf.at (by decide) 2).trans h2
          have e142 : G'.1 142 = w := (hf.2 142 (by decide)).trans h142
          refine V_ex sX1_pick_26 (by simp only [Option.toList, List.cons_append, List.nil_append, exN, ex1, gI, gL, gR, pI, pL, pR, lget, lset1, lset2, kl, b2I, b2L, nob, ob32, ob64, xGet, xPut, xLen, xLd, xLdR, xSt, obA, true_and, and_true, and_self, eq_self, Nat.reduceEqDiff, Nat.zero_ne_one, reduceIte, Nat.reduceLeDiff, and_false, false_and, show skd 1 2 = 0 from rfl, show LF.1 140 = some (.inl 1) from rfl, e2]; rfl) (by first | exact trivial | exact Or.inl trivial | exact Or.inr rfl | exact Or.inl rfl) ?_
          refine V_icmpge dX1_pick_32 (tgt := 56) (by decide) (by unfold R32; constructor <;> omega) (fun q3 => ?_) (fun q3 => ?_)
          · omega
          · subst hc
            rw [pickS] at he
            have PW : Ct κ MX1_pickWith (d - 1) 0 0 [VR 140, VI (c : Nat), VI (size : Nat), VI (place : Nat), VL out] (Wm G') (pickP G' (if w c ≤ out then (pickS w k r (c + 1) (out - w c)).map (fun l => c :: l) else none) place) noX := by
              refine Ct_of hκ kX1_pickWith.1 rfl (Nat.le_of_ble_eq_true rfl) (ls := [some (VR 140), some (VI (c : Nat)), some (VI (size : Nat)), some (VI (place : Nat)), some (VL out), none]) rfl (fun μ => ?_)
              refine V_ex sX1_pickWith_0 (by simp only [Option.toList, List.cons_append, List.nil_append, exN, ex1, gI, gL, gR, pI, pL, pR, lget, lset1, lset2, kl, b2I, b2L, nob, ob32, ob64, xGet, xPut, xLen, xLd, xLdR, xSt, obA, true_and, and_true, and_self, eq_self, Nat.reduceEqDiff, Nat.zero_ne_one, reduceIte, Nat.reduceLeDiff, and_false, false_and, show skd 1 3 = 2 from rfl, show LF.1 140 = some (.inl 1) from rfl, show LF.2 140 3 = some 143 from rfl]; rfl) (by first | exact trivial | exact Or.inl trivial | exact Or.inr rfl | exact Or.inl rfl) ?_
              refine V_callSN (M := MX1_pickWith) (N := MX11_setAt) (As := [VR 143, VI (place : Nat), VI (c : Nat)]) (rest := []) dX1_pickWith_6 lRX1_35 kX11_setAt rfl (c_setAt (d := 0) hκ (a := 143) (n := 4) rfl (by decide) (by unfold R32; omega)) rfl rfl (Nat.le_of_ble_eq_true rfl) (fit_rm (by omega)) (⟨Nat.le_refl _, Nat.le_refl _⟩) (fun v Ω' hp => ?_) (fun _ _ h => h.elim)
              obtain ⟨rfl, rfl⟩ := hp
              rw [rSet_nat place rfl (by omega)]
              have f1 : Fr [143] G' (uI G' 143 place (c : Nat)) := (Fr.refl _ _).upd (by decide)
              have r1 : ∀ j, (uI G' 143 place (c : Nat)).1 143 j = if j = place then (c : Int) else G'.1 143 j := fun j => by show upd2 _ _ _ _ _ _ = _; rw [upd2_eq]; simp
              generalize uI G' 143 place (c : Nat) = G1 at f1 r1
              have g142 : G1.1 142 = w := (f1.2 142 (by decide)).trans e142
              refine V_ex sX1_pickWith_9 (by simp only [Option.toList, List.cons_append, List.nil_append, exN, ex1, gI, gL, gR, pI, pL, pR, lget, lset1, lset2, kl, b2I, b2L, nob, ob32, ob64, xGet, xPut, xLen, xLd, xLdR, xSt, obA, true_and, and_true, and_self, eq_self, Nat.reduceEqDiff, Nat.zero_ne_one, reduceIte, Nat.reduceLeDiff, and_false, false_and, show skd 1 1 = 2 from rfl, show LF.1 140 = some (.inl 1) from rfl, show LF.2 140 1 = some 142 from rfl]; rfl) (by first | exact trivial | exact Or.inl trivial | exact Or.inr rfl | exact Or.inl rfl) ?_
              refine V_callSN (M := MX1_pickWith) (N := MX11_at) (As := [VR 142, VI (c : Nat)]) (rest := []) dX1_pickWith_14 lRX1_28 kX11_at rfl (c_at (d := 0) hκ (a := 142) (n := 30) rfl (by decide) (by unfold R32; omega)) rfl rfl (Nat.le_of_ble_eq_true rfl) (fit_rm (by omega)) (⟨Nat.le_refl _, Nat.le_refl _⟩) (fun v Ω' hp => ?_) (fun _ _ h => h.elim)
              obtain ⟨rfl, rfl⟩ := hp
              rw [rAt_nat c rfl (by omega), g142]
              refine V_ex sX1_pickWith_17 (by rfl) (by exact ⟨(hw c).2, r32_64 (hw c).2, ho⟩) ?_
              refine V_lifgt dX1_pickWith_21 (tgt := 54) (by decide) (fun q4 => ?_) (fun q4 => ?_)
              · refine V_ex sX1_pickWith_54 (by rfl) (by first | exact trivial | exact Or.inl trivial | exact Or.inr rfl | exact Or.inl rfl) ?_
                refine V_zret dX1_pickWith_55 rfl (by first | exact Or.inl rfl | exact Or.inr rfl | exact b2i_01 _) (by decide) ⟨by rw [if_neg (by omega)]; rfl, G1, rfl, f1, fun j hj => by rw [r1, if_neg (by omega)], fun l hl => by rw [if_neg (by omega)] at hl; cases hl⟩
              · refine V_ex sX1_pickWith_24 (by simp only [Option.toList, List.cons_append, List.nil_append, exN, ex1, gI, gL, gR, pI, pL, pR, lget, lset1, lset2, kl, b2I, b2L, nob, ob32, ob64, xGet, xPut, xLen, xLd, xLdR, xSt, obA, true_and, and_true, and_self, eq_self, Nat.reduceEqDiff, Nat.zero_ne_one, reduceIte, Nat.reduceLeDiff, and_false, false_and, show skd 1 1 = 2 from rfl, show LF.1 140 = some (.inl 1) from rfl, show LF.2 140 1 = some 142 from rfl]; rfl) (by first | exact trivial | exact Or.inl trivial | exact Or.inr rfl | exact Or.inl rfl) ?_
                refine V_callSN (M := MX1_pickWith) (N := MX11_at) (As := [VR 142, VI (c : Nat)]) (rest := [VL out, VI ((c : Int) + 1), VI ((place : Int) + 1), VI (size : Nat), VR 140]) dX1_pickWith_39 lRX1_28 kX11_at rfl (c_at (d := 0) hκ (a := 142) (n := 30) rfl (by decide) (by unfold R32; omega)) rfl rfl (Nat.le_of_ble_eq_true rfl) (fit_rm (by omega)) (⟨Nat.le_refl _, Nat.le_refl _⟩) (fun v Ω' hp => ?_) (fun _ _ h => h.elim)
                obtain ⟨rfl, rfl⟩ := hp
                rw [rAt_nat c rfl (by omega), g142]
                refine V_ex sX1_pickWith_42 (by rfl) (by exact (hw c).2) ?_
                have hw0 := (hw c).1
                refine V_callV (M := MX1_pickWith) (N := MX1_pick) (As := [VI (size : Nat), VI ((place + 1 : Nat) : Int), VI ((c + 1 : Nat) : Int), VL (out - w c)]) (rest := []) dX1_pickWith_44 lRX1_39 kX1_pick rfl (rfl) rfl (ihr (d - 1 - 1) (place + 1) (c + 1) (out - w c) G1 (by omega) (by omega) (by omega) (by unfold R64 at *; omega) ((f1.at (by decide) 2).trans e2) g142) rfl rfl (Nat.le_of_ble_eq_true rfl) (fit_rm (by omega)) (⟨Nat.le_refl _, Nat.le_refl _⟩) (fun v Ω' hp => ?_) (fun _ _ h => h.elim)
                obtain ⟨rfl, G2, rfl, f2, r2, l2⟩ := hp
                rw [show many - (c + 1) = k by omega] at *
                have pre : ∀ j, j < place → G2.1 143 j = G'.1 143 j := fun j hj => by rw [r2 j (by omega), r1, if_neg (by omega)]
                have hpl : G2.1 143 place = (c : Nat) := by rw [r2 place (by omega), r1, if_pos rfl]
                cases hps : pickS w k r (c + 1) (out - w c) with
                | none =>
                  refine V_ifeqB dX1_pickWith_47 (tgt := 54) (by decide) (fun q5 => ?_) (fun q5 => ?_)
                  · refine V_ex sX1_pickWith_54 (by rfl) (by first | exact trivial | exact Or.inl trivial | exact Or.inr rfl | exact Or.inl rfl) ?_
                    refine V_zret dX1_pickWith_55 rfl (by first | exact Or.inl rfl | exact Or.inr rfl | exact b2i_01 _) (by decide) ⟨by rw [if_pos (by omega)]; rfl, G2, rfl, f1.trans f2, pre, fun l hl => by rw [if_pos (by omega)] at hl; cases hl⟩
                  · cases q5
                | some l =>
                  refine V_ifeqB dX1_pickWith_47 (tgt := 54) (by decide) (fun q5 => ?_) (fun q5 => ?_)
                  · cases q5
                  · refine V_ex sX1_pickWith_50 (by rfl) (by first | exact trivial | exact Or.inl trivial | exact Or.inr rfl | exact Or.inl rfl) ?_
                    refine V_goto dX1_pickWith_51 (tgt := 55) (by decide) ?_
                    refine V_zret dX1_pickWith_55 rfl (by first | exact Or.inl rfl | exact Or.inr rfl | exact b2i_01 _) (by decide) ⟨by rw [if_pos (by omega)]; rfl, G2, rfl, f1.trans f2, pre, fun l' hl => by rw [if_pos (by omega)] at hl; cases hl; exact ⟨hpl, l2 l hps⟩⟩
            refine V_ex sX1_pick_35 (by rfl) (by first | exact trivial | exact Or.inl trivial | exact Or.inr rfl | exact Or.inl rfl) ?_
            refine V_callV (M := MX1_pick) (N := MX1_pickWith) (As := [VI (c : Nat), VI (size : Nat), VI (place : Nat), VL out]) (rest := []) dX1_pick_42 lRX1_43 kX1_pickWith rfl (rfl) rfl (PW) rfl rfl (Nat.le_of_ble_eq_true rfl) (fit_rm (by omega)) (⟨Nat.le_refl _, Nat.le_refl _⟩) (fun v Ω' hp => ?_) (fun _ _ h => h.elim)
            obtain ⟨rfl, G2, rfl, f2, r2, l2⟩ := hp
            generalize hres : (if w c ≤ out then (pickS w k r (c + 1) (out - w c)).map (fun l => c :: l) else none) = res at *
            cases res with
            | none =>
              refine V_ifeqB dX1_pick_45 (tgt := 50) (by decide) (fun q5 => ?_) (fun q5 => ?_)
              · refine V_ex sX1_pick_50 (by rfl) (by first | exact trivial | exact Or.inl trivial | exact Or.inr rfl | exact Or.inl rfl) ?_
                refine V_goto dX1_pick_53 (tgt := 26) (by decide) ?_
                exact ih (c + 1) _ G2 (by omega) (by omega) (hf.trans f2) (fun j hj => (r2 j hj).trans (hr j hj)) he
              · cases q5
            | some l =>
              refine V_ifeqB dX1_pick_45 (tgt := 50) (by decide) (fun q5 => ?_) (fun q5 => ?_)
              · cases q5
              · refine V_ex sX1_pick_48 (by rfl) (by first | exact trivial | exact Or.inl trivial | exact Or.inr rfl | exact Or.inl rfl) ?_
                refine V_zret dX1_pick_49 rfl (by first | exact Or.inl rfl | exact Or.inr rfl | exact b2i_01 _) (by decide) ⟨by rw [← he]; rfl, G2, rfl, hf.trans f2, fun j hj => (r2 j hj).trans (hr j hj), fun l' hl => by rw [← he] at hl; cases hl; exact l2 l rfl⟩
      · omega
