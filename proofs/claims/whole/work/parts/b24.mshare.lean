/-! THE MODEL: shares -/
def keepO (o : Option SB) (q : SB) : Option SB := match o with | none => some q | some b => some (keepB b q)
theorem keepO_some (b : SB) : ∀ (l : List SB), l.foldl keepO (some b) = some (l.foldl keepB b) := by
  intro l
  induction l generalizing b with
  | nil => rfl
  | cons a r ih => rw [List.foldl_cons, List.foldl_cons]; exact ih (keepB b a)
theorem foldlO_fm {α : Type} {f : α → List SB} : ∀ (l : List α) (b : Option SB), (l.flatMap f).foldl keepO b = l.foldl (fun b c => (f c).foldl keepO b) b := by
  intro l
  induction l with
  | nil => intro b; rfl
  | cons a r ih => intro b; rw [List.flatMap_cons, List.foldl_append, List.foldl_cons, ih]
/-- the best shares so far -/
def bstM (G : Wd) : Option SB → Prop
  | none => G.2.1 145 59 = -1
  | some b => G.2.1 145 59 = b.1 ∧ (0 ≤ b.1 ∧ b.1 ≤ 100000000) ∧ ∀ k (h : k < b.2.length), G.1 176 k = ((b.2[k]'h : Nat) : Int)
def shF (place ch : Nat) (h : Nat → Int) (pre : List Nat) (b : Option SB) (G : Wd) : Prop := (∀ c, c < ch → G.2.1 180 c = h c) ∧ (∀ k (q : k < pre.length), G.1 175 k = ((pre[k]'q : Nat) : Int)) ∧ bstM G b
abbrev shPo (place ch : Nat) (h : Nat → Int) (pre : List Nat) (b : Option SB) (G : Wd) : Option Vl → Om → Prop := fun u Ω' => u = none ∧ ∃ G', Ω' = Wm G' ∧ FM [59] [175, 176] [180] G G' ∧ shF place ch h pre b G'
theorem mx_e (a b : Int) : (if b < a then a else b) = mx a b := by unfold mx; split <;> split <;> omega
theorem mn_e (a b : Int) : (if a < b then a else b) = mn a b := by unfold mn; split <;> split <;> omega
theorem hand_R {h : Nat → Int} {B : Int} (hh : ∀ c, 0 ≤ h c ∧ h c ≤ B) (n : Nat) : (0 ≤ mxH h n ∧ mxH h n ≤ B) ∧ 0 ≤ mnH h n ∧ mnH h n ≤ B ∧ mnH h n ≤ mxH h n := by
  obtain ⟨a1, i, -, a2⟩ := mxH_is h n
  obtain ⟨b1, k, -, b2⟩ := mnH_is h n
  have := hh i
  have := hh k
  have := a1 0 (by omega)
  have := b1 0 (by omega)
  omega
set_option maxRecDepth 100000 in
set_option maxHeartbeats 4000000 in
theorem c_mShareEnd {κ : Kx} (hκ : KOK κ) {d many ch : Nat} {h : Nat → Int} {pre : List Nat} {b : Option SB} {G : Wd} (hch : 1 ≤ ch ∧ ch ≤ 4) (hm : many ≤ 10) (hp : pre.length = many) (h56 : G.1 145 56 = (many : Nat)) (hh : ∀ c, 0 ≤ h c ∧ h c ≤ 100000000) (hS : shF many ch h pre b G) (hd : 2 ≤ d) : Ct κ MX12_shareOn d 0 0 [VR 145, VI (many : Nat), VI (ch : Nat)] (Wm G) (shPo many ch h pre (keepO b (mxH h (ch - 1) - mnH h (ch - 1), pre)) G) noX := by
  refine Ct_of hκ kX12_shareOn.1 rfl (Nat.le_of_ble_eq_true rfl) (ls := [some (VR 145), some (VI (many : Nat)), some (VI (ch : Nat)), none, none, none, none, none]) rfl (fun μ => ?_)
  obtain ⟨s1, s2, s3⟩ := hS
  have h0 := s1 0 (by omega)
  have fin : ∀ x, V κ MX12_shareOn (rmD d 0 0) (shPo many ch h pre (keepO b (mxH h (ch - 1) - mnH h (ch - 1), pre)) G) noX 0 0 μ 0 0 (Wm (G)) 64 [some (VR 145), some (VI (many : Nat)), some (VI (ch : Nat)), some (VL (mnH h (ch - 1))), none, some (VL (mxH h (ch - 1))), none, x] [] := fun x => by
    have hr := hand_R hh (ch - 1)
    have put : ∀ W, W = beW (uL G 145 59 (mxH h (ch - 1) - mnH h (ch - 1))) 176 175 10 → shF many ch h pre (some (mxH h (ch - 1) - mnH h (ch - 1), pre)) W ∧ FM [59] [175, 176] [180] G W := fun W hW => by
      subst hW
      refine ⟨⟨fun c hc => by show upd2 G.2.1 145 59 (mxH h (ch - 1) - mnH h (ch - 1)) 180 c = h c; rw [uv (by omega)]; exact s1 c hc, fun k q => (be_n (by decide)).trans (s2 k q), by show upd2 G.2.1 145 59 (mxH h (ch - 1) - mnH h (ch - 1)) 145 59 = _; exact upd2_same .., ⟨by show 0 ≤ mxH h (ch - 1) - mnH h (ch - 1); omega, by show mxH h (ch - 1) - mnH h (ch - 1) ≤ 100000000; omega⟩, fun k q => ?_⟩, rfl, fun x j a c => by rw [be_n (by simp at a; omega)], fun x j a c => by show upd2 G.2.1 145 59 (mxH h (ch - 1) - mnH h (ch - 1)) x j = _; rw [uv (by simp at c; omega)]⟩
      have q2 : k < pre.length := q
      rw [be_a, if_pos (by omega)]; exact s2 k q2
    have hbe := c_mBe (κ := κ) hκ (d := 1) (a := 176) (b := 175) (n := 10) (G := uL G 145 59 (mxH h (ch - 1) - mnH h (ch - 1))) rfl rfl (by decide) (by decide)
    cases b with
    | none =>
      have g59 : G.2.1 145 59 = -1 := s3
      refine V_ex sX12_shareOn_64 (by simp only [Option.toList, List.cons_append, List.nil_append, exN, ex1, gI, gL, gR, pI, pL, pR, lget, lset1, lset2, kl, b2I, b2L, nob, ob32, ob64, xGet, xPut, xLen, xLd, xLdR, xSt, obA, true_and, and_true, and_self, eq_self, Nat.reduceEqDiff, Nat.zero_ne_one, reduceIte, Nat.reduceLeDiff, and_false, false_and, show skd 11 59 = 1 from rfl, show LF.1 145 = some (.inl 11) from rfl, g59, upd2_eq, Int.reduceToNat, Int.toNat_natCast]; rfl) (by (simp only [ob, obA, R64]; and_intros <;> omega)) ?_
      refine V_lifeq dX12_shareOn_72 (tgt := 88) (by decide) (fun q72 => ?_) (fun q72 => ?_)
      · refine V_ex sX12_shareOn_88 (by simp only [Option.toList, List.cons_append, List.nil_append, exN, ex1, gI, gL, gR, pI, pL, pR, lget, lset1, lset2, kl, b2I, b2L, nob, ob32, ob64, xGet, xPut, xLen, xLd, xLdR, xSt, obA, true_and, and_true, and_self, eq_self, Nat.reduceEqDiff, Nat.zero_ne_one, reduceIte, Nat.reduceLeDiff, and_false, false_and, show skd 11 59 = 1 from rfl, show skd 11 51 = 2 from rfl, show skd 11 50 = 2 from rfl, show LF.1 145 = some (.inl 11) from rfl, show LF.2 145 51 = some 176 from rfl, show LF.2 145 50 = some 175 from rfl, upd2_eq, Int.reduceToNat, Int.toNat_natCast]; rfl) (by first | exact trivial | exact Or.inr rfl | exact Or.inl rfl | (simp only [ob, obA, R32, R64] at *; omega) | (simp only [ob, obA, R32, R64] at *; and_intros <;> omega) | (simp [ob, obA])) ?_
        refine V_callS (M := MX12_shareOn) (N := MX12_be) dX12_shareOn_104 lRX12_536 kX12_be rfl (hbe) rfl rfl (Nat.le_of_ble_eq_true rfl) (fit_rm (by omega)) (⟨Nat.le_of_ble_eq_true rfl, Nat.le_of_ble_eq_true rfl⟩) (fun v Ω' hp => ?_) (fun _ _ h => h.elim)
        obtain ⟨rfl, rfl⟩ := hp
        refine V_vret dX12_shareOn_107 rfl (by decide) ⟨rfl, _, rfl, (put _ rfl).2, (put _ rfl).1⟩
      · exact absurd rfl q72
    | some b =>
      obtain ⟨t1, t2, t3⟩ := s3
      refine V_ex sX12_shareOn_64 (by simp only [Option.toList, List.cons_append, List.nil_append, exN, ex1, gI, gL, gR, pI, pL, pR, lget, lset1, lset2, kl, b2I, b2L, nob, ob32, ob64, xGet, xPut, xLen, xLd, xLdR, xSt, obA, true_and, and_true, and_self, eq_self, Nat.reduceEqDiff, Nat.zero_ne_one, reduceIte, Nat.reduceLeDiff, and_false, false_and, show skd 11 59 = 1 from rfl, show LF.1 145 = some (.inl 11) from rfl, t1, upd2_eq, Int.reduceToNat, Int.toNat_natCast]; rfl) (by (simp only [ob, obA, R64]; and_intros <;> omega)) ?_
      refine V_lifeq dX12_shareOn_72 (tgt := 88) (by decide) (fun q72 => ?_) (fun q72 => ?_)
      · omega
      · refine V_ex sX12_shareOn_75 (by simp only [Option.toList, List.cons_append, List.nil_append, exN, ex1, gI, gL, gR, pI, pL, pR, lget, lset1, lset2, kl, b2I, b2L, nob, ob32, ob64, xGet, xPut, xLen, xLd, xLdR, xSt, obA, true_and, and_true, and_self, eq_self, Nat.reduceEqDiff, Nat.zero_ne_one, reduceIte, Nat.reduceLeDiff, and_false, false_and, show skd 11 59 = 1 from rfl, show LF.1 145 = some (.inl 11) from rfl, t1, upd2_eq, Int.reduceToNat, Int.toNat_natCast]; rfl) (by (simp only [ob, obA, R64]; and_intros <;> omega)) ?_
        refine V_liflt dX12_shareOn_84 (tgt := 88) (by decide) (fun q84 => ?_) (fun q84 => ?_)
        · refine V_ex sX12_shareOn_88 (by simp only [Option.toList, List.cons_append, List.nil_append, exN, ex1, gI, gL, gR, pI, pL, pR, lget, lset1, lset2, kl, b2I, b2L, nob, ob32, ob64, xGet, xPut, xLen, xLd, xLdR, xSt, obA, true_and, and_true, and_self, eq_self, Nat.reduceEqDiff, Nat.zero_ne_one, reduceIte, Nat.reduceLeDiff, and_false, false_and, show skd 11 59 = 1 from rfl, show skd 11 51 = 2 from rfl, show skd 11 50 = 2 from rfl, show LF.1 145 = some (.inl 11) from rfl, show LF.2 145 51 = some 176 from rfl, show LF.2 145 50 = some 175 from rfl, upd2_eq, Int.reduceToNat, Int.toNat_natCast]; rfl) (by first | exact trivial | exact Or.inr rfl | exact Or.inl rfl | (simp only [ob, obA, R32, R64] at *; omega) | (simp only [ob, obA, R32, R64] at *; and_intros <;> omega) | (simp [ob, obA])) ?_
          refine V_callS (M := MX12_shareOn) (N := MX12_be) dX12_shareOn_104 lRX12_536 kX12_be rfl (hbe) rfl rfl (Nat.le_of_ble_eq_true rfl) (fit_rm (by omega)) (⟨Nat.le_of_ble_eq_true rfl, Nat.le_of_ble_eq_true rfl⟩) (fun v Ω' hp => ?_) (fun _ _ h => h.elim)
          obtain ⟨rfl, rfl⟩ := hp
          refine V_vret dX12_shareOn_107 rfl (by decide) ⟨rfl, _, rfl, (put _ rfl).2, by rw [show keepO (some b) (mxH h (ch - 1) - mnH h (ch - 1), pre) = some (mxH h (ch - 1) - mnH h (ch - 1), pre) from congrArg some (if_pos (show mxH h (ch - 1) - mnH h (ch - 1) < b.1 from q84))]; exact (put _ rfl).1⟩
        · refine V_vret dX12_shareOn_87 rfl (by decide) ⟨rfl, G, rfl, FM.refl _ _ _ _, s1, s2, by rw [show keepO (some b) (mxH h (ch - 1) - mnH h (ch - 1), pre) = some b from congrArg some (if_neg (show ¬ mxH h (ch - 1) - mnH h (ch - 1) < b.1 by omega))]; exact ⟨t1, t2, t3⟩⟩
  have L : ∀ (k i : Nat) (ii : Int), i + 1 + k = ch → ii = ((i + 1 : Nat) : Int) → V κ MX12_shareOn (rmD d 0 0) (shPo many ch h pre (keepO b (mxH h (ch - 1) - mnH h (ch - 1), pre)) G) noX 0 0 μ 0 0 (Wm (G)) 26 [some (VR 145), some (VI (many : Nat)), some (VI (ch : Nat)), some (VL (mnH h i)), none, some (VL (mxH h i)), none, some (VI ii)] [] := by
    intro k
    induction k with
    | zero =>
      intro i ii hik hii
      have fx := fin (some (VI ii))
      rw [show ch - 1 = i by omega] at fx
      rw [show ch - 1 = i by omega]
      refine V_ex sX12_shareOn_26 (by rfl) (by first | exact trivial | exact Or.inr rfl | exact Or.inl rfl | (simp only [ob, obA, R32, R64] at *; omega) | (simp only [ob, obA, R32, R64] at *; and_intros <;> omega) | (simp [ob, obA])) ?_
      refine V_icmpge dX12_shareOn_29 (tgt := 64) (by decide) (by simp only [R32, R64] at *; omega) (fun q29 => ?_) (fun q29 => ?_)
      · exact fx
      · omega
    | succ k ih =>
      intro i ii hik hii
      subst hii
      have s1i := s1 (i + 1) (by omega)
      have hr := hand_R hh i
      have hi1 := hh (i + 1)
      have e1 : (if mnH h i < h (i + 1) then mnH h i else h (i + 1)) = mnH h (i + 1) := mn_e _ _
      have e2 : (if h (i + 1) < mxH h i then mxH h i else h (i + 1)) = mxH h (i + 1) := mx_e _ _
      have nx := ih (i + 1) (((i + 1 : Nat) : Int) + 1) (by omega) (by omega)
      refine V_ex sX12_shareOn_26 (by rfl) (by first | exact trivial | exact Or.inr rfl | exact Or.inl rfl | (simp only [ob, obA, R32, R64] at *; omega) | (simp only [ob, obA, R32, R64] at *; and_intros <;> omega) | (simp [ob, obA])) ?_
      refine V_icmpge dX12_shareOn_29 (tgt := 64) (by decide) (by simp only [R32, R64] at *; omega) (fun q29 => ?_) (fun q29 => ?_)
      · omega
      · refine V_ex sX12_shareOn_32 (by simp only [Option.toList, List.cons_append, List.nil_append, exN, ex1, gI, gL, gR, pI, pL, pR, lget, lset1, lset2, kl, b2I, b2L, nob, ob32, ob64, xGet, xPut, xLen, xLd, xLdR, xSt, obA, true_and, and_true, and_self, eq_self, Nat.reduceEqDiff, Nat.zero_ne_one, reduceIte, Nat.reduceLeDiff, and_false, false_and, show skd 11 55 = 2 from rfl, show LF.1 145 = some (.inl 11) from rfl, show LF.2 145 55 = some 180 from rfl, show LF.1 180 = some (.inr (1, 4)) from rfl, s1i, Int.toNat_natCast, upd2_eq, Int.reduceToNat, Int.toNat_natCast]; rfl) (by first | exact trivial | exact Or.inr rfl | exact Or.inl rfl | (simp only [ob, obA, R32, R64] at *; omega) | (simp only [ob, obA, R32, R64] at *; and_intros <;> omega) | (simp [ob, obA])) ?_
        refine V_mminl (M := MX12_shareOn) dX12_shareOn_40 lRX12_531 (by exact ⟨by unfold R64; omega, by unfold R64; omega⟩) (Nat.le_of_ble_eq_true rfl) (fit_rm (by omega)) ⟨Nat.le_refl _, Nat.le_refl _⟩ ?_
        first | rw [e1] | rw [show (if h (i + 1) < mnH h i then h (i + 1) else mnH h i) = mnH h (i + 1) from rfl]
        refine V_ex sX12_shareOn_43 (by simp only [Option.toList, List.cons_append, List.nil_append, exN, ex1, gI, gL, gR, pI, pL, pR, lget, lset1, lset2, kl, b2I, b2L, nob, ob32, ob64, xGet, xPut, xLen, xLd, xLdR, xSt, obA, true_and, and_true, and_self, eq_self, Nat.reduceEqDiff, Nat.zero_ne_one, reduceIte, Nat.reduceLeDiff, and_false, false_and, show skd 11 55 = 2 from rfl, show LF.1 145 = some (.inl 11) from rfl, show LF.2 145 55 = some 180 from rfl, show LF.1 180 = some (.inr (1, 4)) from rfl, s1i, Int.toNat_natCast, upd2_eq, Int.reduceToNat, Int.toNat_natCast]; rfl) (by first | exact trivial | exact Or.inr rfl | exact Or.inl rfl | (simp only [ob, obA, R32, R64] at *; omega) | (simp only [ob, obA, R32, R64] at *; and_intros <;> omega) | (simp [ob, obA])) ?_
        refine V_mmaxl (M := MX12_shareOn) dX12_shareOn_53 lRX12_446 (by exact ⟨by unfold R64; omega, by unfold R64; omega⟩) (Nat.le_of_ble_eq_true rfl) (fit_rm (by omega)) ⟨Nat.le_refl _, Nat.le_refl _⟩ ?_
        first | rw [e2] | rw [show (if mxH h i < h (i + 1) then h (i + 1) else mxH h i) = mxH h (i + 1) from rfl]
        refine V_ex sX12_shareOn_56 (by rfl) (by first | exact trivial | exact Or.inr rfl | exact Or.inl rfl | (simp only [ob, obA, R32, R64] at *; omega) | (simp only [ob, obA, R32, R64] at *; and_intros <;> omega) | (simp [ob, obA])) ?_
        refine V_goto dX12_shareOn_61 (tgt := 26) (by decide) ?_
        exact nx
  have st := L (ch - 1) 0 1 (by omega) rfl
  refine V_ex sX12_shareOn_0 (by simp only [Option.toList, List.cons_append, List.nil_append, exN, ex1, gI, gL, gR, pI, pL, pR, lget, lset1, lset2, kl, b2I, b2L, nob, ob32, ob64, xGet, xPut, xLen, xLd, xLdR, xSt, obA, true_and, and_true, and_self, eq_self, Nat.reduceEqDiff, Nat.zero_ne_one, reduceIte, Nat.reduceLeDiff, and_false, false_and, show skd 11 56 = 0 from rfl, show LF.1 145 = some (.inl 11) from rfl, h56, upd2_eq, Int.reduceToNat, Int.toNat_natCast]; rfl) (by first | exact trivial | exact Or.inr rfl | exact Or.inl rfl | (simp only [ob, obA, R32, R64] at *; omega) | (simp only [ob, obA, R32, R64] at *; and_intros <;> omega) | (simp [ob, obA])) ?_
  refine V_icmpne dX12_shareOn_5 (tgt := 108) (by decide) (by simp only [R32, R64] at *; omega) (fun q5 => ?_) (fun q5 => ?_)
  · exact absurd rfl q5
  · refine V_ex sX12_shareOn_8 (by simp only [Option.toList, List.cons_append, List.nil_append, exN, ex1, gI, gL, gR, pI, pL, pR, lget, lset1, lset2, kl, b2I, b2L, nob, ob32, ob64, xGet, xPut, xLen, xLd, xLdR, xSt, obA, true_and, and_true, and_self, eq_self, Nat.reduceEqDiff, Nat.zero_ne_one, reduceIte, Nat.reduceLeDiff, and_false, false_and, show skd 11 55 = 2 from rfl, show LF.1 145 = some (.inl 11) from rfl, show LF.2 145 55 = some 180 from rfl, show LF.1 180 = some (.inr (1, 4)) from rfl, h0, upd2_eq, Int.reduceToNat, Int.toNat_natCast]; rfl) (by first | exact trivial | exact Or.inr rfl | exact Or.inl rfl | (simp only [ob, obA, R32, R64] at *; omega) | (simp only [ob, obA, R32, R64] at *; and_intros <;> omega) | (simp [ob, obA])) ?_
    exact st
