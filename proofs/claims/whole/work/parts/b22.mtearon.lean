/-! THE MODEL: the fewest leaves, tried one after another -/
def pickU (w : Nat → Int) : Nat → Nat → Nat → Int → Option (List Nat)
  | _, 0, _, out => if out = 0 then some [] else none
  | 0, _ + 1, _, _ => none
  | k + 1, r + 1, i, out => match (pickU w k r (i + 1) (out - w i)).map (fun l => i :: l) with
    | some l => some l
    | none => pickU w k (r + 1) (i + 1) out
theorem pickU_neg {w : Nat → Int} (hw : ∀ j, 0 ≤ w j) : ∀ (k r i : Nat) (out : Int), out < 0 → pickU w k r i out = none := by
  intro k
  induction k with
  | zero =>
    intro r i out h
    cases r with
    | zero => rw [pickU, if_neg (by omega)]
    | succ r => rfl
  | succ k ih =>
    intro r i out h
    cases r with
    | zero => rw [pickU, if_neg (by omega)]
    | succ r =>
      have := hw i
      rw [pickU, ih r (i + 1) _ (by omega), ih (r + 1) (i + 1) _ h]; rfl
theorem pickU_S {w : Nat → Int} (hw : ∀ j, 0 ≤ w j) : ∀ (k r i : Nat) (out : Int), pickU w k r i out = pickS w k r i out := by
  intro k
  induction k with
  | zero => intro r i out; cases r <;> rfl
  | succ k ih =>
    intro r i out
    cases r with
    | zero => rfl
    | succ r =>
      rw [pickU, pickS, ih r, ih (r + 1)]
      by_cases h : w i ≤ out
      · rw [if_pos h]; rfl
      · rw [if_neg h, ← ih r, pickU_neg hw _ _ _ _ (by omega)]; rfl
def toP (G : Wd) (place : Nat) (o : Option (List Nat)) : Option Vl → Om → Prop := fun u Ω' => u = some (VI (b2i o.isSome)) ∧ ∃ G', Ω' = Wm G' ∧ FM [] [177] [] G G' ∧ (∀ y, y < place → G'.1 177 y = G.1 177 y) ∧ ∀ l, o = some l → ∀ t (h : t < l.length), G'.1 177 (place + t) = G.1 174 (l[t]'h)
def toC (κ : Kx) (d r many : Nat) (w : Nat → Int) : Prop := ∀ (place size i : Nat) (out : Int) (G : Wd), size = place + r → size ≤ 4 → i ≤ many → (-1000000000000000000 - 1000000 * (place : Int) ≤ out ∧ out ≤ 1000000000000000000) → G.1 145 56 = (many : Nat) → (∀ k, k < many → G.2.1 179 k = w k) → Ct κ MX12_tearOn d 0 0 [VR 145, VI (place : Nat), VI (size : Nat), VI (i : Nat), VL out] (Wm G) (toP G place (pickU w (many - i) r i out)) noX
set_option maxRecDepth 100000 in
set_option maxHeartbeats 4000000 in
theorem c_mTearOn0 {κ : Kx} (hκ : KOK κ) {d many place i : Nat} {w : Nat → Int} {out : Int} {G : Wd} (h4 : place ≤ 4) (ho : -1000000000000000000 - 1000000 * (place : Int) ≤ out ∧ out ≤ 1000000000000000000) : Ct κ MX12_tearOn d 0 0 [VR 145, VI (place : Nat), VI (place : Nat), VI (i : Nat), VL out] (Wm G) (toP G place (pickU w (many - i) 0 i out)) noX := by
  refine Ct_of hκ kX12_tearOn.1 rfl (Nat.le_of_ble_eq_true rfl) (ls := [some (VR 145), some (VI (place : Nat)), some (VI (place : Nat)), some (VI (i : Nat)), some (VL out), none, none]) rfl (fun μ => ?_)
  have hh : pickU w (many - i) 0 i out = if out = 0 then some [] else none := by cases (many - i) <;> rfl
  rw [hh]
  refine V_ex sX12_tearOn_0 (by rfl) (by first | exact trivial | exact Or.inr rfl | exact Or.inl rfl | (simp only [ob, obA, R32, R64] at *; omega) | (simp only [ob, obA, R32, R64] at *; and_intros <;> omega) | (simp [ob, obA])) ?_
  refine V_icmpne dX12_tearOn_2 (tgt := 18) (by decide) (by exact ⟨by unfold R32; omega, by unfold R32; omega⟩) (fun q2 => ?_) (fun q2 => ?_)
  · exact absurd rfl q2
  · refine V_ex sX12_tearOn_5 (by rfl) (by exact ⟨by unfold R64; omega, by unfold R64; omega⟩) ?_
    refine V_lifne dX12_tearOn_9 (tgt := 16) (by decide) (fun q9 => ?_) (fun q9 => ?_)
    · refine V_ex sX12_tearOn_16 (by rfl) (by first | exact trivial | exact Or.inr rfl | exact Or.inl rfl | (simp only [ob, obA, R32, R64] at *; omega) | (simp only [ob, obA, R32, R64] at *; and_intros <;> omega) | (simp [ob, obA])) ?_
      refine V_zret dX12_tearOn_17 rfl (by first | exact Or.inl rfl | exact Or.inr rfl | exact b2i_01 _) (by decide) ⟨by rw [if_neg q9]; rfl, G, rfl, FM.refl _ _ _ _, fun _ _ => rfl, fun l hl => by rw [if_neg q9] at hl; cases hl⟩
    · refine V_ex sX12_tearOn_12 (by rfl) (by first | exact trivial | exact Or.inr rfl | exact Or.inl rfl | (simp only [ob, obA, R32, R64] at *; omega) | (simp only [ob, obA, R32, R64] at *; and_intros <;> omega) | (simp [ob, obA])) ?_
      refine V_goto dX12_tearOn_13 (tgt := 17) (by decide) ?_
      refine V_zret dX12_tearOn_17 rfl (by first | exact Or.inl rfl | exact Or.inr rfl | exact b2i_01 _) (by decide) ⟨by rw [if_pos q9]; rfl, G, rfl, FM.refl _ _ _ _, fun _ _ => rfl, fun l hl => by rw [if_pos q9] at hl; cases hl; intro t h; exact absurd h (Nat.not_lt_zero _)⟩
set_option maxRecDepth 100000 in
set_option maxHeartbeats 4000000 in
theorem c_mTearOnS {κ : Kx} (hκ : KOK κ) {d d' r many place size i : Nat} {w : Nat → Int} {out : Int} {G : Wd} (hrec : toC κ d' r many w) (hdd : d' + 1 ≤ d) (hm : many ≤ 30) (hw : ∀ j, 0 ≤ w j ∧ w j ≤ 1000000) (hs : size = place + (r + 1)) (h4 : size ≤ 4) (hi : i ≤ many) (ho : -1000000000000000000 - 1000000 * (place : Int) ≤ out ∧ out ≤ 1000000000000000000) (h56 : G.1 145 56 = (many : Nat)) (h179 : ∀ k, k < many → G.2.1 179 k = w k) : Ct κ MX12_tearOn d 0 0 [VR 145, VI (place : Nat), VI (size : Nat), VI (i : Nat), VL out] (Wm G) (toP G place (pickU w (many - i) (r + 1) i out)) noX := by
  refine Ct_of hκ kX12_tearOn.1 rfl (Nat.le_of_ble_eq_true rfl) (ls := [some (VR 145), some (VI (place : Nat)), some (VI (size : Nat)), some (VI (i : Nat)), some (VL out), none, none]) rfl (fun μ => ?_)
  have ep : (place : Int) + 1 = ((place + 1 : Nat) : Int) := by omega
  have L : ∀ (k c : Nat) (cc : Int) (G1 : Wd), c + k = many → cc = (c : Int) → FM [] [177] [] G G1 → (∀ y, y < place → G1.1 177 y = G.1 177 y) → pickU w k (r + 1) c out = pickU w (many - i) (r + 1) i out → V κ MX12_tearOn (rmD d 0 0) (toP G place (pickU w (many - i) (r + 1) i out)) noX 0 0 μ 0 0 (Wm (G1)) 21 [some (VR 145), some (VI (place : Nat)), some (VI (size : Nat)), some (VI (i : Nat)), some (VL out), none, some (VI cc)] [] := by
    intro k
    induction k with
    | zero =>
      intro c cc G1 hck hcc f1 hy he
      have e56 : G1.1 145 56 = (many : Nat) := (f1.i5 (by decide) (by decide)).trans h56
      rw [pickU] at he
      refine V_ex sX12_tearOn_21 (by simp only [Option.toList, List.cons_append, List.nil_append, exN, ex1, gI, gL, gR, pI, pL, pR, lget, lset1, lset2, kl, b2I, b2L, nob, ob32, ob64, xGet, xPut, xLen, xLd, xLdR, xSt, obA, true_and, and_true, and_self, eq_self, Nat.reduceEqDiff, Nat.zero_ne_one, reduceIte, Nat.reduceLeDiff, and_false, false_and, show skd 11 56 = 0 from rfl, show LF.1 145 = some (.inl 11) from rfl, e56, upd2_eq, Int.reduceToNat, Int.toNat_natCast]; rfl) (by first | exact trivial | exact Or.inr rfl | exact Or.inl rfl | (simp only [ob, obA, R32, R64] at *; omega) | (simp only [ob, obA, R32, R64] at *; and_intros <;> omega) | (simp [ob, obA])) ?_
      refine V_icmpge dX12_tearOn_27 (tgt := 76) (by decide) (by simp only [R32, R64] at *; omega) (fun q27 => ?_) (fun q27 => ?_)
      · refine V_ex sX12_tearOn_76 (by rfl) (by first | exact trivial | exact Or.inr rfl | exact Or.inl rfl | (simp only [ob, obA, R32, R64] at *; omega) | (simp only [ob, obA, R32, R64] at *; and_intros <;> omega) | (simp [ob, obA])) ?_
        refine V_zret dX12_tearOn_77 rfl (by first | exact Or.inl rfl | exact Or.inr rfl | exact b2i_01 _) (by decide) ⟨by rw [← he]; rfl, G1, rfl, f1, hy, fun l hl => by rw [← he] at hl; cases hl⟩
      · omega
    | succ k ih =>
      intro c cc G1 hck hcc f1 hy he
      subst hcc
      have e56 : G1.1 145 56 = (many : Nat) := (f1.i5 (by decide) (by decide)).trans h56
      have e179 : G1.2.1 179 c = w c := by rw [f1.l (by decide) (by decide)]; exact h179 c (by omega)
      have e174 : G1.1 174 = G.1 174 := f1.i (by decide) (by decide)
      have ec : (c : Int) + 1 = ((c + 1 : Nat) : Int) := by omega
      have hwc := hw c
      have f2 : FM [] [177] [] G (uI G1 177 place (G1.1 174 c)) := f1.a (by decide)
      have hR := hrec (place + 1) size (c + 1) (out - w c) (uI G1 177 place (G1.1 174 c)) (by omega) h4 (by omega) ⟨by omega, by omega⟩ ((f2.i5 (by decide) (by decide)).trans h56) (fun y hy => by rw [f2.l (by decide) (by decide)]; exact h179 y hy)
      rw [show many - (c + 1) = k by omega] at hR
      rw [pickU] at he
      refine V_ex sX12_tearOn_21 (by simp only [Option.toList, List.cons_append, List.nil_append, exN, ex1, gI, gL, gR, pI, pL, pR, lget, lset1, lset2, kl, b2I, b2L, nob, ob32, ob64, xGet, xPut, xLen, xLd, xLdR, xSt, obA, true_and, and_true, and_self, eq_self, Nat.reduceEqDiff, Nat.zero_ne_one, reduceIte, Nat.reduceLeDiff, and_false, false_and, show skd 11 56 = 0 from rfl, show LF.1 145 = some (.inl 11) from rfl, e56, upd2_eq, Int.reduceToNat, Int.toNat_natCast]; rfl) (by first | exact trivial | exact Or.inr rfl | exact Or.inl rfl | (simp only [ob, obA, R32, R64] at *; omega) | (simp only [ob, obA, R32, R64] at *; and_intros <;> omega) | (simp [ob, obA])) ?_
      refine V_icmpge dX12_tearOn_27 (tgt := 76) (by decide) (by simp only [R32, R64] at *; omega) (fun q27 => ?_) (fun q27 => ?_)
      · omega
      · refine V_ex sX12_tearOn_30 (by simp only [Option.toList, List.cons_append, List.nil_append, exN, ex1, gI, gL, gR, pI, pL, pR, lget, lset1, lset2, kl, b2I, b2L, nob, ob32, ob64, xGet, xPut, xLen, xLd, xLdR, xSt, obA, true_and, and_true, and_self, eq_self, Nat.reduceEqDiff, Nat.zero_ne_one, reduceIte, Nat.reduceLeDiff, and_false, false_and, show skd 11 52 = 2 from rfl, show skd 11 49 = 2 from rfl, show skd 11 54 = 2 from rfl, show LF.1 145 = some (.inl 11) from rfl, show LF.2 145 52 = some 177 from rfl, show LF.2 145 49 = some 174 from rfl, show LF.1 174 = some (.inr (0, 30)) from rfl, show LF.1 177 = some (.inr (0, 4)) from rfl, show LF.2 145 54 = some 179 from rfl, show LF.1 179 = some (.inr (1, 30)) from rfl, ep, ec, e179, Int.toNat_natCast, upd2_eq, Int.reduceToNat, Int.toNat_natCast]; rfl) (by first | exact trivial | exact Or.inr rfl | exact Or.inl rfl | (simp only [ob, obA, R32, R64] at *; omega) | (simp only [ob, obA, R32, R64] at *; and_intros <;> omega) | (simp [ob, obA])) ?_
        refine V_callV (M := MX12_tearOn) (N := MX12_tearOn) dX12_tearOn_62 lRX12_549 kX12_tearOn rfl (rfl) rfl (hR) rfl rfl (Nat.le_of_ble_eq_true rfl) (fit_rm (by omega)) (⟨Nat.le_of_ble_eq_true rfl, Nat.le_of_ble_eq_true rfl⟩) (fun v Ω' hp => ?_) (fun _ _ h => h.elim)
        obtain ⟨rfl, G3, rfl, f3, hy3, hrow⟩ := hp
        have f23 := f2.trans f3
        refine V_ifeqB dX12_tearOn_65 (tgt := 70) (by decide) (fun q65 => ?_) (fun q65 => ?_)
        · refine V_ex sX12_tearOn_70 (by rfl) (by first | exact trivial | exact Or.inr rfl | exact Or.inl rfl | (simp only [ob, obA, R32, R64] at *; omega) | (simp only [ob, obA, R32, R64] at *; and_intros <;> omega) | (simp [ob, obA])) ?_
          refine V_goto dX12_tearOn_73 (tgt := 21) (by decide) ?_
          have q6 : pickU w k r (c + 1) (out - w c) = none := Option.not_isSome_iff_eq_none.mp (by rw [q65]; decide)
          rw [q6] at he
          exact ih (c + 1) _ G3 (by omega) (by omega) f23 (fun y hyp => (hy3 y (by omega)).trans ((iv (by omega)).trans (hy y hyp))) he
        · refine V_ex sX12_tearOn_68 (by rfl) (by first | exact trivial | exact Or.inr rfl | exact Or.inl rfl | (simp only [ob, obA, R32, R64] at *; omega) | (simp only [ob, obA, R32, R64] at *; and_intros <;> omega) | (simp [ob, obA])) ?_
          refine V_zret dX12_tearOn_69 rfl (by first | exact Or.inl rfl | exact Or.inr rfl | exact b2i_01 _) (by decide) ?_
          obtain ⟨l, hl⟩ := Option.isSome_iff_exists.mp q65
          rw [hl] at he
          have he2 : some (c :: l) = pickU w (many - i) (r + 1) i out := he
          refine ⟨by rw [← he2]; rfl, G3, rfl, f23, fun y hyp => (hy3 y (by omega)).trans ((iv (by omega)).trans (hy y hyp)), fun l2 hl2 => ?_⟩
          rw [← he2] at hl2
          cases hl2
          intro t ht
          cases t with
          | zero => exact (hy3 place (by omega)).trans (iu.trans (by rw [e174]; rfl))
          | succ t =>
            have q := hrow l hl t (by simpa using ht)
            rw [show place + 1 + t = place + (t + 1) by omega] at q
            refine q.trans ?_
            rw [iv (by omega), e174]; rfl
  refine V_ex sX12_tearOn_0 (by rfl) (by first | exact trivial | exact Or.inr rfl | exact Or.inl rfl | (simp only [ob, obA, R32, R64] at *; omega) | (simp only [ob, obA, R32, R64] at *; and_intros <;> omega) | (simp [ob, obA])) ?_
  refine V_icmpne dX12_tearOn_2 (tgt := 18) (by decide) (by exact ⟨by unfold R32; omega, by unfold R32; omega⟩) (fun q2 => ?_) (fun q2 => ?_)
  · refine V_ex sX12_tearOn_18 (by rfl) (by first | exact trivial | exact Or.inr rfl | exact Or.inl rfl | (simp only [ob, obA, R32, R64] at *; omega) | (simp only [ob, obA, R32, R64] at *; and_intros <;> omega) | (simp [ob, obA])) ?_
    exact L (many - i) i i G (by omega) rfl (FM.refl _ _ _ _) (fun _ _ => rfl) rfl
  · omega
theorem toC_all {κ : Kx} (hκ : KOK κ) {many : Nat} {w : Nat → Int} (hm : many ≤ 30) (hw : ∀ j, 0 ≤ w j ∧ w j ≤ 1000000) : ∀ r d : Nat, r ≤ d → toC κ d r many w := by
  intro r
  induction r with
  | zero =>
    intro d _ place size i out G hs h4 hi ho h56 h179
    obtain rfl : size = place := by omega
    exact c_mTearOn0 hκ h4 ho
  | succ r ih =>
    intro d hd place size i out G hs h4 hi ho h56 h179
    exact c_mTearOnS hκ (ih (d - 1) (by omega)) (by omega) hm hw hs h4 hi ho h56 h179
