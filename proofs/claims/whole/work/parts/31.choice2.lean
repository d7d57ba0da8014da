/-! Choice, the rest; Fits -/
set_option maxRecDepth 100000 in
set_option maxHeartbeats 4000000 in
theorem c_chForget {κ : Kx} (hκ : KOK κ) {d : Nat} {G : Wd} : Ct κ MX1_forget d 0 0 [VR 140] (Wm G) (voidG (uI G 140 5 (-1))) noX := by
  refine Ct_of hκ kX1_forget.1 rfl (Nat.le_of_ble_eq_true rfl) (ls := [some (VR 140)]) rfl (fun μ => ?_)
  refine V_ex sX1_forget_0 (by simp only [Option.toList, List.cons_append, List.nil_append, exN, ex1, gI, gL, gR, pI, pL, pR, lget, lset1, lset2, kl, b2I, b2L, nob, ob32, ob64, xGet, xPut, xLen, xLd, xLdR, xSt, obA, true_and, and_true, and_self, eq_self, Nat.reduceEqDiff, Nat.zero_ne_one, reduceIte, Nat.reduceLeDiff, and_false, false_and, show skd 1 5 = 0 from rfl, show LF.1 140 = some (.inl 1) from rfl]; rfl) (by first | exact trivial | exact Or.inl trivial | exact Or.inr rfl | exact Or.inl rfl) ?_
  refine V_vret dX1_forget_5 rfl (by decide) ⟨rfl, rfl⟩
set_option maxRecDepth 100000 in
set_option maxHeartbeats 4000000 in
theorem c_chOpen {κ : Kx} (hκ : KOK κ) {d : Nat} {G : Wd} : Ct κ MX1_open d 0 0 [VR 140] (Wm G) (voidG (uI G 140 2 0)) noX := by
  refine Ct_of hκ kX1_open.1 rfl (Nat.le_of_ble_eq_true rfl) (ls := [some (VR 140)]) rfl (fun μ => ?_)
  refine V_ex sX1_open_0 (by simp only [Option.toList, List.cons_append, List.nil_append, exN, ex1, gI, gL, gR, pI, pL, pR, lget, lset1, lset2, kl, b2I, b2L, nob, ob32, ob64, xGet, xPut, xLen, xLd, xLdR, xSt, obA, true_and, and_true, and_self, eq_self, Nat.reduceEqDiff, Nat.zero_ne_one, reduceIte, Nat.reduceLeDiff, and_false, false_and, show skd 1 2 = 0 from rfl, show LF.1 140 = some (.inl 1) from rfl]; rfl) (by first | exact trivial | exact Or.inl trivial | exact Or.inr rfl | exact Or.inl rfl) ?_
  refine V_vret dX1_open_5 rfl (by decide) ⟨rfl, rfl⟩
set_option maxRecDepth 100000 in
set_option maxHeartbeats 4000000 in
theorem c_chHasKept {κ : Kx} (hκ : KOK κ) {d : Nat} {i : Int} {G : Wd} (hi : R32 i) (hk : R32 (G.1 140 5)) : Ct κ MX1_hasKept d 0 0 [VR 140, VI i] (Wm G) (keepG G (VI (b2i (decide (0 ≤ i ∧ i < G.1 140 5))))) noX := by
  refine Ct_of hκ kX1_hasKept.1 rfl (Nat.le_of_ble_eq_true rfl) (ls := [some (VR 140), some (VI i)]) rfl (fun μ => ?_)
  refine V_ex sX1_hasKept_0 (by rfl) (by first | exact trivial | exact Or.inl trivial | exact Or.inr rfl | exact Or.inl rfl) ?_
  refine V_iflt dX1_hasKept_1 (tgt := 16) (by decide) (by exact hi) (fun q => ?_) (fun q => ?_)
  · refine V_ex sX1_hasKept_16 (by rfl) (by first | exact trivial | exact Or.inl trivial | exact Or.inr rfl | exact Or.inl rfl) ?_
    refine V_zret dX1_hasKept_17 rfl (by first | exact Or.inl rfl | exact Or.inr rfl | exact b2i_01 _) (by decide) ⟨by rw [decide_eq_false (by omega)]; rfl, rfl⟩
  · refine V_ex sX1_hasKept_4 (by simp only [Option.toList, List.cons_append, List.nil_append, exN, ex1, gI, gL, gR, pI, pL, pR, lget, lset1, lset2, kl, b2I, b2L, nob, ob32, ob64, xGet, xPut, xLen, xLd, xLdR, xSt, obA, true_and, and_true, and_self, eq_self, Nat.reduceEqDiff, Nat.zero_ne_one, reduceIte, Nat.reduceLeDiff, and_false, false_and, show skd 1 5 = 0 from rfl, show LF.1 140 = some (.inl 1) from rfl]; rfl) (by first | exact trivial | exact Or.inl trivial | exact Or.inr rfl | exact Or.inl rfl) ?_
    refine V_icmpge dX1_hasKept_9 (tgt := 16) (by decide) (by exact ⟨hi, hk⟩) (fun q2 => ?_) (fun q2 => ?_)
    · refine V_ex sX1_hasKept_16 (by rfl) (by first | exact trivial | exact Or.inl trivial | exact Or.inr rfl | exact Or.inl rfl) ?_
      refine V_zret dX1_hasKept_17 rfl (by first | exact Or.inl rfl | exact Or.inr rfl | exact b2i_01 _) (by decide) ⟨by rw [decide_eq_false (by omega)]; rfl, rfl⟩
    · refine V_ex sX1_hasKept_12 (by rfl) (by first | exact trivial | exact Or.inl trivial | exact Or.inr rfl | exact Or.inl rfl) ?_
      refine V_goto dX1_hasKept_13 (tgt := 17) (by decide) ?_
      refine V_zret dX1_hasKept_17 rfl (by first | exact Or.inl rfl | exact Or.inr rfl | exact b2i_01 _) (by decide) ⟨by rw [decide_eq_true (by omega)]; rfl, rfl⟩
set_option maxRecDepth 100000 in
set_option maxHeartbeats 4000000 in
theorem c_chKeptLeaf {κ : Kx} (hκ : KOK κ) {d : Nat} {i : Int} {G : Wd} (hi : R32 i) (hd : 1 ≤ d) : Ct κ MX1_keptLeaf d 0 0 [VR 140, VI i] (Wm G) (keepG G (VI (rAt (G.1 144) 4 i))) noX := by
  refine Ct_of hκ kX1_keptLeaf.1 rfl (Nat.le_of_ble_eq_true rfl) (ls := [some (VR 140), some (VI i)]) rfl (fun μ => ?_)
  refine V_ex sX1_keptLeaf_0 (by simp only [Option.toList, List.cons_append, List.nil_append, exN, ex1, gI, gL, gR, pI, pL, pR, lget, lset1, lset2, kl, b2I, b2L, nob, ob32, ob64, xGet, xPut, xLen, xLd, xLdR, xSt, obA, true_and, and_true, and_self, eq_self, Nat.reduceEqDiff, Nat.zero_ne_one, reduceIte, Nat.reduceLeDiff, and_false, false_and, show skd 1 4 = 2 from rfl, show LF.1 140 = some (.inl 1) from rfl, show LF.2 140 4 = some 144 from rfl]; rfl) (by first | exact trivial | exact Or.inl trivial | exact Or.inr rfl | exact Or.inl rfl) ?_
  refine V_callSN (M := MX1_keptLeaf) (N := MX11_at) (As := [VR 144, VI i]) (rest := []) dX1_keptLeaf_5 lRX1_28 kX11_at rfl (c_at (d := 0) hκ (a := 144) (n := 4) rfl (by decide) hi) rfl rfl (Nat.le_of_ble_eq_true rfl) (fit_rm (by omega)) (⟨Nat.le_refl _, Nat.le_refl _⟩) (fun v Ω' hp => ?_) (fun _ _ h => h.elim)
  obtain ⟨rfl, rfl⟩ := hp
  refine V_iret dX1_keptLeaf_8 rfl (by decide) ⟨rfl, rfl⟩
set_option maxRecDepth 100000 in
set_option maxHeartbeats 4000000 in
theorem c_chOffer {κ : Kx} (hκ : KOK κ) {d : Nat} {l z : Int} {G : Wd} (hm : 0 ≤ G.1 140 2 ∧ G.1 140 2 < 30) (hd : 1 ≤ d) : Ct κ MX1_offer d 0 0 [VR 140, VI l, VI z] (Wm G) (voidG (uI (uI (uI G 141 (G.1 140 2).toNat l) 142 (G.1 140 2).toNat z) 140 2 (G.1 140 2 + 1))) noX := by
  refine Ct_of hκ kX1_offer.1 rfl (Nat.le_of_ble_eq_true rfl) (ls := [some (VR 140), some (VI l), some (VI z)]) rfl (fun μ => ?_)
  refine V_ex sX1_offer_0 (by simp only [Option.toList, List.cons_append, List.nil_append, exN, ex1, gI, gL, gR, pI, pL, pR, lget, lset1, lset2, kl, b2I, b2L, nob, ob32, ob64, xGet, xPut, xLen, xLd, xLdR, xSt, obA, true_and, and_true, and_self, eq_self, Nat.reduceEqDiff, Nat.zero_ne_one, reduceIte, Nat.reduceLeDiff, and_false, false_and, show skd 1 0 = 2 from rfl, show skd 1 2 = 0 from rfl, show LF.1 140 = some (.inl 1) from rfl, show LF.2 140 0 = some 141 from rfl]; rfl) (by first | exact trivial | exact Or.inl trivial | exact Or.inr rfl | exact Or.inl rfl) ?_
  refine V_callSN (M := MX1_offer) (N := MX11_setAt) (As := [VR 141, VI (G.1 140 2), VI l]) (rest := []) dX1_offer_9 lRX1_35 kX11_setAt rfl (c_setAt (d := 0) hκ (a := 141) (n := 30) rfl (by decide) (by unfold R32; omega)) rfl rfl (Nat.le_of_ble_eq_true rfl) (fit_rm (by omega)) (⟨Nat.le_refl _, Nat.le_refl _⟩) (fun v Ω' hp => ?_) (fun _ _ h => h.elim)
  obtain ⟨rfl, rfl⟩ := hp
  rw [rSet_in (by omega) (by omega)]
  have q1 : ∀ z, upd2 G.1 141 (G.1 140 2).toNat z 140 2 = G.1 140 2 := fun z => by simp [upd2_eq]
  refine V_ex sX1_offer_12 (by simp only [Option.toList, List.cons_append, List.nil_append, exN, ex1, gI, gL, gR, pI, pL, pR, lget, lset1, lset2, kl, b2I, b2L, nob, ob32, ob64, xGet, xPut, xLen, xLd, xLdR, xSt, obA, true_and, and_true, and_self, eq_self, Nat.reduceEqDiff, Nat.zero_ne_one, reduceIte, Nat.reduceLeDiff, and_false, false_and, show skd 1 1 = 2 from rfl, show skd 1 2 = 0 from rfl, show LF.1 140 = some (.inl 1) from rfl, show LF.2 140 1 = some 142 from rfl, q1]; rfl) (by first | exact trivial | exact Or.inl trivial | exact Or.inr rfl | exact Or.inl rfl) ?_
  refine V_callSN (M := MX1_offer) (N := MX11_setAt) (As := [VR 142, VI (G.1 140 2), VI z]) (rest := []) dX1_offer_21 lRX1_35 kX11_setAt rfl (c_setAt (d := 0) hκ (a := 142) (n := 30) rfl (by decide) (by unfold R32; omega)) rfl rfl (Nat.le_of_ble_eq_true rfl) (fit_rm (by omega)) (⟨Nat.le_refl _, Nat.le_refl _⟩) (fun v Ω' hp => ?_) (fun _ _ h => h.elim)
  obtain ⟨rfl, rfl⟩ := hp
  rw [rSet_in (by omega) (by omega)]
  have q2 : upd2 (upd2 G.1 141 (G.1 140 2).toNat l) 142 (G.1 140 2).toNat z 140 2 = G.1 140 2 := by simp [upd2_eq]
  refine V_ex sX1_offer_24 (by simp only [Option.toList, List.cons_append, List.nil_append, exN, ex1, gI, gL, gR, pI, pL, pR, lget, lset1, lset2, kl, b2I, b2L, nob, ob32, ob64, xGet, xPut, xLen, xLd, xLdR, xSt, obA, true_and, and_true, and_self, eq_self, Nat.reduceEqDiff, Nat.zero_ne_one, reduceIte, Nat.reduceLeDiff, and_false, false_and, show skd 1 2 = 0 from rfl, show LF.1 140 = some (.inl 1) from rfl, q2]; rfl) (by first | exact trivial | exact Or.inl trivial | exact Or.inr rfl | exact Or.inl rfl) ?_
  refine V_vret dX1_offer_34 rfl (by decide) ⟨rfl, rfl⟩
/-- the first of the smallest rows that add up -/
def leastS (w : Nat → Int) (many : Nat) (out : Int) : Nat → Nat → Option (List Nat)
  | 0, _ => none
  | k + 1, size => match pickS w many size 0 out with
    | some l => some l
    | none => leastS w many out k (size + 1)
def chooseP (G : Wd) (o : Option (List Nat)) : Option Vl → Om → Prop := fun v Ω' => v = some (VI (match o with | some l => (l.length : Nat) | none => -1)) ∧ ∃ G', Ω' = Wm G' ∧ Fr [143, 144, 140] G G' ∧ (∀ j, j ≠ 5 → G'.1 140 j = G.1 140 j) ∧ (match o with | some l => G'.1 140 5 = (l.length : Nat) ∧ rowIs (G'.1 144) 0 (l.map (fun i => (G.1 141 i).toNat)) | none => G'.1 140 5 = G.1 140 5 ∧ G'.1 144 = G.1 144)
theorem pickS_len (w : Nat → Int) : ∀ (k r i : Nat) (out : Int) (l : List Nat), pickS w k r i out = some l → l.length = r ∧ ∀ x ∈ l, x < i + k := by
  intro k
  induction k with
  | zero =>
    intro r i out l h
    cases r with
    | zero => rw [pickS] at h; split at h <;> cases h; simp
    | succ r => rw [pickS] at h; cases h
  | succ k ih =>
    intro r i out l h
    cases r with
    | zero => rw [pickS] at h; split at h <;> cases h; simp
    | succ r =>
      rw [pickS] at h
      by_cases hw : w i ≤ out
      · rw [if_pos hw] at h
        cases hp : pickS w k r (i + 1) (out - w i) with
        | some l2 =>
          rw [hp] at h
          simp only [Option.map_some, Option.some.injEq] at h
          subst h
          have := ih _ _ _ _ hp
          refine ⟨by simp [this.1], fun x hx => ?_⟩
          rcases List.mem_cons.mp hx with e | e
          · omega
          · have := this.2 x e; omega
        | none =>
          rw [hp] at h
          have := ih _ _ _ _ h
          exact ⟨this.1, fun x hx => by have := this.2 x hx; omega⟩
      · rw [if_neg hw] at h
        have := ih _ _ _ _ h
        exact ⟨this.1, fun x hx => by have := this.2 x hx; omega⟩
theorem rowIs_at {f : Nat → Int} : ∀ {l : List Nat} {p : Nat}, rowIs f p l → ∀ j (h : j < l.length), f (p + j) = ((l[j]'h : Nat) : Int) := by
  intro l
  induction l with
  | nil => intro p _ j h; simp at h
  | cons i l ih =>
    intro p hr j h
    cases j with
    | zero => exact hr.1
    | succ j => have := ih hr.2 j (by simpa using h); rw [show p + (j + 1) = p + 1 + j by omega, this]; simp
theorem rowIs_of {f : Nat → Int} : ∀ {l : List Nat} {p : Nat}, (∀ j (h : j < l.length), f (p + j) = ((l[j]'h : Nat) : Int)) → rowIs f p l := by
  intro l
  induction l with
  | nil => intro p _; trivial
  | cons i l ih =>
    intro p h
    exact ⟨h 0 (by simp), ih (fun j hj => by have := h (j + 1) (by simpa using hj); rw [show p + 1 + j = p + (j + 1) by omega, this]; simp)⟩
set_option maxRecDepth 100000 in
set_option maxHeartbeats 4000000 in
theorem c_choose {κ : Kx} (hκ : KOK κ) {d : Nat} {many : Nat} {out : Int} {G : Wd} (hm : many ≤ 30) (h2 : G.1 140 2 = (many : Nat)) (hw : ∀ j, 0 ≤ G.1 142 j ∧ R32 (G.1 142 j)) (hl : ∀ j, 0 ≤ G.1 141 j) (ho : R64 out) (hd : 9 ≤ d) : Ct κ MX1_choose d 0 0 [VR 140, VL out] (Wm G) (chooseP G (leastS (G.1 142) many out 5 0)) noX := by
  refine Ct_of hκ kX1_choose.1 rfl (Nat.le_of_ble_eq_true rfl) (ls := [some (VR 140), some (VL out), none, none, none]) rfl (fun μ => ?_)
  refine V_ex sX1_choose_0 (by rfl) (by first | exact trivial | exact Or.inl trivial | exact Or.inr rfl | exact Or.inl rfl) ?_
  suffices L : ∀ (k size : Nat) (si : Int) (G' : Wd), si = (size : Int) → size + k = 5 → Fr [143] G G' → leastS (G.1 142) many out k size = leastS (G.1 142) many out 5 0 → V κ MX1_choose (rmD d 0 0) (chooseP G (leastS (G.1 142) many out 5 0)) noX 0 0 μ 0 0 (Wm G') 2 [some (VR 140), some (VL out), none, some (VI si), none] [] from L 5 0 0 G rfl rfl (Fr.refl _ _) rfl
  intro k
  induction k with
  | zero =>
    intro size si G' hs hk hf he
    refine V_ex sX1_choose_2 (by rfl) (by first | exact trivial | exact Or.inl trivial | exact Or.inr rfl | exact Or.inl rfl) ?_
    refine V_icmpgt dX1_choose_4 (tgt := 71) (by decide) (by unfold R32; constructor <;> omega) (fun q => ?_) (fun q => ?_)
    · refine V_ex sX1_choose_71 (by rfl) (by first | exact trivial | exact Or.inl trivial | exact Or.inr rfl | exact Or.inl rfl) ?_
      refine V_iret dX1_choose_72 rfl (by decide) ⟨by rw [← he]; rfl, G', rfl, hf.mono (by decide), fun j _ => hf.at (by decide) j, by rw [← he]; exact ⟨hf.at (by decide) 5, hf.2 144 (by decide)⟩⟩
    · omega
  | succ k ih =>
    intro size si G' hs hk hf he
    subst hs
    rw [leastS] at he
    have e142 : G'.1 142 = G.1 142 := hf.2 142 (by decide)
    have e2 : G'.1 140 2 = (many : Nat) := (hf.at (by decide) 2).trans h2
    refine V_ex sX1_choose_2 (by rfl) (by first | exact trivial | exact Or.inl trivial | exact Or.inr rfl | exact Or.inl rfl) ?_
    refine V_icmpgt dX1_choose_4 (tgt := 71) (by decide) (by unfold R32; constructor <;> omega) (fun q => ?_) (fun q => ?_)
    · omega
    · refine V_ex sX1_choose_7 (by rfl) (by first | exact trivial | exact Or.inl trivial | exact Or.inr rfl | exact Or.inl rfl) ?_
      refine V_callV (M := MX1_choose) (N := MX1_pick) (As := [VI (size : Nat), VI ((0 : Nat) : Int), VI ((0 : Nat) : Int), VL out]) (rest := []) dX1_choose_12 lRX1_39 kX1_pick rfl (rfl) rfl (c_pick hκ (size := size) (many := many) (w := G.1 142) (by omega) hm hw size (d - 1) 0 0 out G' (by omega) (by omega) (by omega) ho e2 e142) rfl rfl (Nat.le_of_ble_eq_true rfl) (fit_rm (by omega)) (⟨Nat.le_refl _, Nat.le_refl _⟩) (fun v Ω' hp => ?_) (fun _ _ h => h.elim)
      obtain ⟨rfl, G2, rfl, f2, r2, l2⟩ := hp
      rw [Nat.sub_zero] at *
      cases hps : pickS (G.1 142) many size 0 out with
      | none =>
        rw [hps] at he
        refine V_ifeqB dX1_choose_15 (tgt := 65) (by decide) (fun q5 => ?_) (fun q5 => ?_)
        · refine V_ex sX1_choose_65 (by rfl) (by first | exact trivial | exact Or.inl trivial | exact Or.inr rfl | exact Or.inl rfl) ?_
          refine V_goto dX1_choose_68 (tgt := 2) (by decide) ?_
          exact ih (size + 1) _ G2 (by omega) (by omega) (hf.trans f2) he
        · cases q5
      | some l =>
        rw [hps] at he
        have hrow := l2 l hps
        have hlen := pickS_len _ _ _ _ _ _ hps
        have hF := hf.trans f2
        refine V_ifeqB dX1_choose_15 (tgt := 65) (by decide) (fun q5 => ?_) (fun q5 => ?_)
        · cases q5
        · refine V_ex sX1_choose_18 (by simp only [Option.toList, List.cons_append, List.nil_append, exN, ex1, gI, gL, gR, pI, pL, pR, lget, lset1, lset2, kl, b2I, b2L, nob, ob32, ob64, xGet, xPut, xLen, xLd, xLdR, xSt, obA, true_and, and_true, and_self, eq_self, Nat.reduceEqDiff, Nat.zero_ne_one, reduceIte, Nat.reduceLeDiff, and_false, false_and, show skd 1 5 = 0 from rfl, show LF.1 140 = some (.inl 1) from rfl]; rfl) (by first | exact trivial | exact Or.inl trivial | exact Or.inr rfl | exact Or.inl rfl) ?_
          suffices L2 : ∀ (n c : Nat) (ci : Int) (G3 : Wd), ci = (c : Int) → c + n = size → Fr [144, 143, 140] G G3 → (∀ j, j ≠ 5 → G3.1 140 j = G.1 140 j) → G3.1 140 5 = (size : Nat) → G3.1 143 = G2.1 143 → (∀ j (h : j < l.length), j < c → G3.1 144 j = G.1 141 (l[j]'h)) → V κ MX1_choose (rmD d 0 0) (chooseP G (leastS (G.1 142) many out 5 0)) noX 0 0 μ 0 0 (Wm G3) 26 [some (VR 140), some (VL out), none, some (VI (size : Nat)), some (VI ci)] [] from
            L2 size 0 0 _ rfl (by omega) ((hF.mono (by decide)).upd (by decide)) (fun j hj => by show upd2 _ _ _ _ _ _ = _; rw [upd2_nek _ hj]; exact hF.at (by decide) j) (by simp [upd2_eq]) (by funext j; simp [upd2_eq]) (fun j h hj => by omega)
          intro n
          induction n with
          | zero =>
            intro c ci G3 hc hn g1 g2 g3 g4 g5
            refine V_ex sX1_choose_26 (by rfl) (by first | exact trivial | exact Or.inl trivial | exact Or.inr rfl | exact Or.inl rfl) ?_
            refine V_icmpge dX1_choose_29 (tgt := 63) (by decide) (by unfold R32; constructor <;> omega) (fun q6 => ?_) (fun q6 => ?_)
            · refine V_ex sX1_choose_63 (by rfl) (by first | exact trivial | exact Or.inl trivial | exact Or.inr rfl | exact Or.inl rfl) ?_
              refine V_iret dX1_choose_64 rfl (by decide) ⟨by rw [← he]; simp only [hlen.1], G3, rfl, g1.mono (by decide), g2, by rw [← he]; exact ⟨by rw [hlen.1]; exact g3, rowIs_of (fun j hj => by have hj2 : j < l.length := (by simpa using hj); rw [Nat.zero_add, g5 j hj2 (by omega), List.getElem_map]; exact (Int.toNat_of_nonneg (hl _)).symm)⟩⟩
            · omega
          | succ n ihn =>
            intro c ci G3 hc hn g1 g2 g3 g4 g5
            subst hc
            have hcl : c < l.length := by omega
            have hx := hlen.2 _ (List.getElem_mem hcl)
            have e143 : G3.1 143 c = ((l[c]'hcl : Nat) : Int) := by rw [g4]; have := rowIs_at hrow c hcl; rwa [Nat.zero_add] at this
            refine V_ex sX1_choose_26 (by rfl) (by first | exact trivial | exact Or.inl trivial | exact Or.inr rfl | exact Or.inl rfl) ?_
            refine V_icmpge dX1_choose_29 (tgt := 63) (by decide) (by unfold R32; constructor <;> omega) (fun q6 => ?_) (fun q6 => ?_)
            · omega
            · refine V_ex sX1_choose_32 (by simp only [Option.toList, List.cons_append, List.nil_append, exN, ex1, gI, gL, gR, pI, pL, pR, lget, lset1, lset2, kl, b2I, b2L, nob, ob32, ob64, xGet, xPut, xLen, xLd, xLdR, xSt, obA, true_and, and_true, and_self, eq_self, Nat.reduceEqDiff, Nat.zero_ne_one, reduceIte, Nat.reduceLeDiff, and_false, false_and, show skd 1 4 = 2 from rfl, show skd 1 0 = 2 from rfl, show skd 1 3 = 2 from rfl, show LF.1 140 = some (.inl 1) from rfl, show LF.2 140 4 = some 144 from rfl, show LF.2 140 0 = some 141 from rfl, show LF.2 140 3 = some 143 from rfl]; rfl) (by first | exact trivial | exact Or.inl trivial | exact Or.inr rfl | exact Or.inl rfl) ?_
              refine V_callSN (M := MX1_choose) (N := MX11_at) (As := [VR 143, VI (c : Nat)]) (rest := [VR 141, VI (c : Nat), VR 144]) dX1_choose_48 lRX1_28 kX11_at rfl (c_at (d := 0) hκ (a := 143) (n := 4) rfl (by decide) (by unfold R32; omega)) rfl rfl (Nat.le_of_ble_eq_true rfl) (fit_rm (by omega)) (⟨Nat.le_refl _, Nat.le_refl _⟩) (fun v Ω' hp => ?_) (fun _ _ h => h.elim)
              obtain ⟨rfl, rfl⟩ := hp
              rw [rAt_nat c rfl (by omega), e143]
              refine V_callSN (M := MX1_choose) (N := MX11_at) (As := [VR 141, VI ((l[c]'hcl : Nat) : Int)]) (rest := [VI (c : Nat), VR 144]) dX1_choose_51 lRX1_28 kX11_at rfl (c_at (d := 0) hκ (a := 141) (n := 30) rfl (by decide) (by unfold R32; omega)) rfl rfl (Nat.le_of_ble_eq_true rfl) (fit_rm (by omega)) (⟨Nat.le_refl _, Nat.le_refl _⟩) (fun v Ω' hp => ?_) (fun _ _ h => h.elim)
              obtain ⟨rfl, rfl⟩ := hp
              rw [rAt_nat (l[c]'hcl) rfl (by omega), show G3.1 141 (l[c]'hcl) = G.1 141 (l[c]'hcl) from g1.at (by decide) _]
              refine V_callSN (M := MX1_choose) (N := MX11_setAt) (As := [VR 144, VI (c : Nat), VI (G.1 141 (l[c]'hcl))]) (rest := []) dX1_choose_54 lRX1_35 kX11_setAt rfl (c_setAt (d := 0) hκ (a := 144) (n := 4) rfl (by decide) (by unfold R32; omega)) rfl rfl (Nat.le_of_ble_eq_true rfl) (fit_rm (by omega)) (⟨Nat.le_refl _, Nat.le_refl _⟩) (fun v Ω' hp => ?_) (fun _ _ h => h.elim)
              obtain ⟨rfl, rfl⟩ := hp
              rw [rSet_nat c rfl (by omega)]
              refine V_ex sX1_choose_57 (by rfl) (by first | exact trivial | exact Or.inl trivial | exact Or.inr rfl | exact Or.inl rfl) ?_
              refine V_goto dX1_choose_60 (tgt := 26) (by decide) ?_
              refine ihn (c + 1) _ _ (by omega) (by omega) (g1.upd (by decide)) (fun j hj => ?_) ?_ ?_ (fun j h hj => ?_)
              · simp [upd2_eq]; exact g2 j hj
              · simp [upd2_eq]; exact g3
              · funext j; simp [upd2_eq]; exact congrFun g4 j
              · show upd2 _ _ _ _ _ _ = _
                rw [upd2_eq]
                by_cases hjc : j = c
                · subst hjc; simp
                · rw [if_neg (by omega)]; exact g5 j h (by omega)
