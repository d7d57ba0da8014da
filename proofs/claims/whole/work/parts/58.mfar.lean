/-! TornLeavesModel: far, lacks -/
/-- how often figure f is printed on 1 .. n -/
def sS (f : Int) : Nat → Int
  | 0 => 0
  | n + 1 => sS f n + dgc f 19 ((n + 1 : Nat) : Int)
theorem sS_succ (f : Int) (n : Nat) : sS f (n + 1) = sS f n + dgc f 19 ((n : Int) + 1) := by rw [sS, show ((n + 1 : Nat) : Int) = (n : Int) + 1 by omega]
def prB (l : Nat → Int) (v : Int) : Bool := (List.range 10).all (fun f => decide (dgc (f : Nat) 19 v ≤ l f))
theorem prB_iff {l : Nat → Int} {v : Int} : prB l v = true ↔ ∀ f : Nat, f < 10 → dgc (f : Nat) 19 v ≤ l f := by
  simp [prB, List.all_eq_true]
set_option maxRecDepth 100000 in
set_option maxHeartbeats 4000000 in
theorem c_mprints {κ : Kx} (hκ : KOK κ) {d : Nat} {v : Int} {G : Wd} (hv : R32 v) (hl : ∀ f, f < 10 → R32 (G.1 171 f)) (hd : 1 ≤ d) : Ct κ MX12_prints d 0 0 [VR 145, VI v] (Wm G) (fun u Ω' => u = some (VI (b2i (prB (G.1 171) v))) ∧ ∃ G', Ω' = Wm G' ∧ FM [] [171] [] G G' ∧ ∀ f : Nat, f < 10 → G'.1 171 f = if prB (G.1 171) v then G.1 171 f - dgc (f : Nat) 19 v else G.1 171 f) noX := by
  refine Ct_of hκ kX12_prints.1 rfl (Nat.le_of_ble_eq_true rfl) (ls := [some (VR 145), some (VI v), none]) rfl (fun μ => ?_)
  have L2 : ∀ (k i : Nat) (ii : Int) (G1 : Wd), prB (G.1 171) v = true → ii = (i : Int) → i + k = 10 → FM [] [171] [] G G1 → (∀ f : Nat, f < 10 → G1.1 171 f = if f < i then G.1 171 f - dgc (f : Nat) 19 v else G.1 171 f) → V κ MX12_prints (rmD d 0 0) (fun u Ω' => u = some (VI (b2i (prB (G.1 171) v))) ∧ ∃ G', Ω' = Wm G' ∧ FM [] [171] [] G G' ∧ ∀ f : Nat, f < 10 → G'.1 171 f = if prB (G.1 171) v then G.1 171 f - dgc (f : Nat) 19 v else G.1 171 f) noX 0 0 μ 0 0 (Wm G1) 33 [some (VR 145), some (VI v), some (VI ii)] [] := by
    intro k
    induction k with
    | zero =>
      intro i ii G1 hb hii hik f1 h1
      refine V_ex sX12_prints_33 (by rfl) (by first | exact trivial | exact Or.inr rfl | exact Or.inl rfl | (simp only [ob, obA, R32, R64] at *; omega) | (simp only [ob, obA, R32, R64] at *; and_intros <;> omega)) ?_
      refine V_icmpge dX12_prints_36 (tgt := 60) (by decide) (by simp only [R32, R64] at *; omega) (fun q36 => ?_) (fun q36 => ?_)
      · refine V_ex sX12_prints_60 (by rfl) (by first | exact trivial | exact Or.inr rfl | exact Or.inl rfl | (simp only [ob, obA, R32, R64] at *; omega) | (simp only [ob, obA, R32, R64] at *; and_intros <;> omega)) ?_
        refine V_zret dX12_prints_61 rfl (by first | exact Or.inl rfl | exact Or.inr rfl | exact b2i_01 _) (by decide) ⟨by rw [hb]; rfl, G1, rfl, f1, fun f hf => by rw [h1 f hf, hb, if_pos (by omega), if_pos rfl]⟩
      · omega
    | succ k ih =>
      intro i ii G1 hb hii hik f1 h1
      subst hii
      refine V_ex sX12_prints_33 (by rfl) (by first | exact trivial | exact Or.inr rfl | exact Or.inl rfl | (simp only [ob, obA, R32, R64] at *; omega) | (simp only [ob, obA, R32, R64] at *; and_intros <;> omega)) ?_
      refine V_icmpge dX12_prints_36 (tgt := 60) (by decide) (by simp only [R32, R64] at *; omega) (fun q36 => ?_) (fun q36 => ?_)
      · omega
      · refine V_ex sX12_prints_39 (by simp only [Option.toList, List.cons_append, List.nil_append, exN, ex1, gI, gL, gR, pI, pL, pR, lget, lset1, lset2, kl, b2I, b2L, nob, ob32, ob64, xGet, xPut, xLen, xLd, xLdR, xSt, obA, true_and, and_true, and_self, eq_self, Nat.reduceEqDiff, Nat.zero_ne_one, reduceIte, Nat.reduceLeDiff, and_false, false_and, show skd 11 44 = 2 from rfl, show LF.1 145 = some (.inl 11) from rfl, show LF.2 145 44 = some 171 from rfl, show LF.1 171 = some (.inr (0, 10)) from rfl, upd2_eq, Int.reduceToNat, Int.toNat_natCast]; rfl) (by first | exact trivial | exact Or.inr rfl | exact Or.inl rfl | (simp only [ob, obA, R32, R64] at *; omega) | (simp only [ob, obA, R32, R64] at *; and_intros <;> omega)) ?_
        refine V_callS (M := MX12_prints) (N := MX12_figuresIn) dX12_prints_49 lRX12_400 kX12_figuresIn rfl (c_mfiguresIn (d := 0) hκ (by simp only [R32, R64] at *; omega) (by unfold R32; omega)) rfl rfl (Nat.le_of_ble_eq_true rfl) (fit_rm (by omega)) (⟨Nat.le_of_ble_eq_true rfl, Nat.le_of_ble_eq_true rfl⟩) (fun v Ω' hp => ?_) (fun _ _ h => h.elim)
        obtain ⟨rfl, rfl⟩ := hp
        refine V_ex sX12_prints_52 (by simp only [Option.toList, List.cons_append, List.nil_append, exN, ex1, gI, gL, gR, pI, pL, pR, lget, lset1, lset2, kl, b2I, b2L, nob, ob32, ob64, xGet, xPut, xLen, xLd, xLdR, xSt, obA, true_and, and_true, and_self, eq_self, Nat.reduceEqDiff, Nat.zero_ne_one, reduceIte, Nat.reduceLeDiff, and_false, false_and, show LF.1 171 = some (.inr (0, 10)) from rfl, upd2_eq, Int.reduceToNat, Int.toNat_natCast]; rfl) (by first | exact trivial | exact Or.inr rfl | exact Or.inl rfl | (simp only [ob, obA, R32, R64] at *; omega) | (simp only [ob, obA, R32, R64] at *; and_intros <;> omega)) ?_
        refine V_goto dX12_prints_57 (tgt := 33) (by decide) ?_
        refine ih (i + 1) _ _ hb (by omega) (by omega) (f1.a (by decide)) (fun f hf => ?_)
        simp only [upd2_eq]
        by_cases c : f = i
        · subst c; rw [if_pos ⟨trivial, rfl⟩, if_pos (by omega), h1 f hf, if_neg (by omega)]
        · rw [if_neg (by intro q; exact c q.2), h1 f hf]
          by_cases c2 : f < i
          · rw [if_pos c2, if_pos (by omega)]
          · rw [if_neg c2, if_neg (by omega)]
  have L1 : ∀ (k i : Nat) (ii : Int), ii = (i : Int) → i + k = 10 → (∀ f : Nat, f < i → dgc (f : Nat) 19 v ≤ G.1 171 f) → V κ MX12_prints (rmD d 0 0) (fun u Ω' => u = some (VI (b2i (prB (G.1 171) v))) ∧ ∃ G', Ω' = Wm G' ∧ FM [] [171] [] G G' ∧ ∀ f : Nat, f < 10 → G'.1 171 f = if prB (G.1 171) v then G.1 171 f - dgc (f : Nat) 19 v else G.1 171 f) noX 0 0 μ 0 0 (Wm G) 2 [some (VR 145), some (VI v), some (VI ii)] [] := by
    intro k
    induction k with
    | zero =>
      intro i ii hii hik h1
      refine V_ex sX12_prints_2 (by rfl) (by first | exact trivial | exact Or.inr rfl | exact Or.inl rfl | (simp only [ob, obA, R32, R64] at *; omega) | (simp only [ob, obA, R32, R64] at *; and_intros <;> omega)) ?_
      refine V_icmpge dX12_prints_5 (tgt := 31) (by decide) (by simp only [R32, R64] at *; omega) (fun q5 => ?_) (fun q5 => ?_)
      · refine V_ex sX12_prints_31 (by rfl) (by first | exact trivial | exact Or.inr rfl | exact Or.inl rfl | (simp only [ob, obA, R32, R64] at *; omega) | (simp only [ob, obA, R32, R64] at *; and_intros <;> omega)) ?_
        exact L2 10 0 0 G (prB_iff.mpr (fun f hf => h1 f (by omega))) rfl (by omega) (FM.refl _ _ _ _) (fun f hf => by rw [if_neg (by omega)])
      · omega
    | succ k ih =>
      intro i ii hii hik h1
      subst hii
      have hli := hl i (by omega)
      have hd2 := dgc_nn (i : Nat) 19 v
      refine V_ex sX12_prints_2 (by rfl) (by first | exact trivial | exact Or.inr rfl | exact Or.inl rfl | (simp only [ob, obA, R32, R64] at *; omega) | (simp only [ob, obA, R32, R64] at *; and_intros <;> omega)) ?_
      refine V_icmpge dX12_prints_5 (tgt := 31) (by decide) (by simp only [R32, R64] at *; omega) (fun q5 => ?_) (fun q5 => ?_)
      · omega
      · refine V_ex sX12_prints_8 (by rfl) (by first | exact trivial | exact Or.inr rfl | exact Or.inl rfl | (simp only [ob, obA, R32, R64] at *; omega) | (simp only [ob, obA, R32, R64] at *; and_intros <;> omega)) ?_
        refine V_callS (M := MX12_prints) (N := MX12_figuresIn) dX12_prints_11 lRX12_400 kX12_figuresIn rfl (c_mfiguresIn (d := 0) hκ (by simp only [R32, R64] at *; omega) (by unfold R32; omega)) rfl rfl (Nat.le_of_ble_eq_true rfl) (fit_rm (by omega)) (⟨Nat.le_of_ble_eq_true rfl, Nat.le_of_ble_eq_true rfl⟩) (fun v Ω' hp => ?_) (fun _ _ h => h.elim)
        obtain ⟨rfl, rfl⟩ := hp
        refine V_ex sX12_prints_14 (by simp only [Option.toList, List.cons_append, List.nil_append, exN, ex1, gI, gL, gR, pI, pL, pR, lget, lset1, lset2, kl, b2I, b2L, nob, ob32, ob64, xGet, xPut, xLen, xLd, xLdR, xSt, obA, true_and, and_true, and_self, eq_self, Nat.reduceEqDiff, Nat.zero_ne_one, reduceIte, Nat.reduceLeDiff, and_false, false_and, show skd 11 44 = 2 from rfl, show LF.1 145 = some (.inl 11) from rfl, show LF.2 145 44 = some 171 from rfl, show LF.1 171 = some (.inr (0, 10)) from rfl, upd2_eq, Int.reduceToNat, Int.toNat_natCast]; rfl) (by first | exact trivial | exact Or.inr rfl | exact Or.inl rfl | (simp only [ob, obA, R32, R64] at *; omega) | (simp only [ob, obA, R32, R64] at *; and_intros <;> omega)) ?_
        refine V_icmple dX12_prints_20 (tgt := 25) (by decide) (by simp only [R32, R64] at *; omega) (fun q20 => ?_) (fun q20 => ?_)
        · refine V_ex sX12_prints_25 (by rfl) (by first | exact trivial | exact Or.inr rfl | exact Or.inl rfl | (simp only [ob, obA, R32, R64] at *; omega) | (simp only [ob, obA, R32, R64] at *; and_intros <;> omega)) ?_
          refine V_goto dX12_prints_28 (tgt := 2) (by decide) ?_
          refine ih (i + 1) _ (by omega) (by omega) (fun f hf => ?_)
          rcases Nat.lt_or_ge f i with c | c
          · exact h1 f c
          · obtain rfl : f = i := by omega
            exact q20
        · refine V_ex sX12_prints_23 (by rfl) (by first | exact trivial | exact Or.inr rfl | exact Or.inl rfl | (simp only [ob, obA, R32, R64] at *; omega) | (simp only [ob, obA, R32, R64] at *; and_intros <;> omega)) ?_
          refine V_zret dX12_prints_24 rfl (by first | exact Or.inl rfl | exact Or.inr rfl | exact b2i_01 _) (by decide) ?_
          have hb : prB (G.1 171) v = false := by
            cases hc : prB (G.1 171) v with
            | false => rfl
            | true => have := prB_iff.mp hc i (by omega); omega
          exact ⟨by rw [hb]; rfl, G, rfl, FM.refl _ _ _ _, fun f hf => by rw [hb]; simp⟩
  refine V_ex sX12_prints_0 (by rfl) (by first | exact trivial | exact Or.inr rfl | exact Or.inl rfl | (simp only [ob, obA, R32, R64] at *; omega) | (simp only [ob, obA, R32, R64] at *; and_intros <;> omega)) ?_
  exact L1 10 0 0 rfl (by omega) (fun f hf => by omega)
def enough (L : Nat → Int) (a b : Nat) : Prop := ∀ f : Nat, f < 10 → sS (f : Nat) b - sS (f : Nat) (a - 1) ≤ L f
def isFar (L : Nat → Int) (n v : Nat) : Prop := if n = 0 then enough L 1 v ∧ ¬ enough L 1 (v + 1) else 1 ≤ v ∧ v ≤ n + 1 ∧ enough L v n ∧ (v = 1 ∨ ¬ enough L (v - 1) n)
theorem dgc_some {v : Int} (h : 1 ≤ v) : ∃ f : Nat, f < 10 ∧ 1 ≤ dgc (f : Nat) 19 v := by
  refine ⟨(v % 10).toNat, by omega, ?_⟩
  have h2 := dgc_nn ((v % 10).toNat : Nat) 18 (v / 10)
  rw [dgc, if_neg (by omega), if_pos (Or.inr (by omega))]
  omega
def used (n v : Nat) (f : Nat) : Int := if n = 0 then sS (f : Nat) v else sS (f : Nat) n - sS (f : Nat) (v - 1)
set_option maxRecDepth 100000 in
set_option maxHeartbeats 4000000 in
theorem c_mgoFar {κ : Kx} (hκ : KOK κ) {d n : Nat} {L : Nat → Int} {G : Wd} (hL : ∀ f, f < 10 → G.1 157 f = L f) (hL2 : ∀ f, f < 10 → 0 ≤ L f ∧ L f ≤ 9999) (hn : n ≤ 99999999) (hd : 2 ≤ d) : Ct κ MX12_goFar d 0 0 [VR 145, VI (n : Nat)] (Wm G) (fun u Ω' => u = none ∧ ∃ G' v, Ω' = Wm G' ∧ FM [45] [171] [] G G' ∧ G'.1 145 45 = ((v : Nat) : Int) ∧ v ≤ 99999999 + 1 ∧ isFar L n v ∧ ∀ f : Nat, f < 10 → G'.1 171 f = L f - used n v f) noX := by
  refine Ct_of hκ kX12_goFar.1 rfl (Nat.le_of_ble_eq_true rfl) (ls := [some (VR 145), some (VI (n : Nat)), none]) rfl (fun μ => ?_)
  have up : ∀ (k : Nat) (v : Nat) (G1 : Wd), n = 0 → v + k ≤ 99991 → FM [45] [171] [] G G1 → G1.1 145 45 = (v : Nat) → (∀ f : Nat, f < 10 → G1.1 171 f = L f - sS (f : Nat) v ∧ 0 ≤ G1.1 171 f) → G1.1 171 0 + G1.1 171 1 + G1.1 171 2 + G1.1 171 3 + G1.1 171 4 + G1.1 171 5 + G1.1 171 6 + G1.1 171 7 + G1.1 171 8 + G1.1 171 9 ≤ k → V κ MX12_goFar (rmD d 0 0) (fun u Ω' => u = none ∧ ∃ G' v, Ω' = Wm G' ∧ FM [45] [171] [] G G' ∧ G'.1 145 45 = ((v : Nat) : Int) ∧ v ≤ 99999999 + 1 ∧ isFar L n v ∧ ∀ f : Nat, f < 10 → G'.1 171 f = L f - used n v f) noX 0 0 μ 0 0 (Wm G1) 51 [some (VR 145), some (VI (n : Nat)), some (VI 1)] [] := by
    intro k
    induction k with
    | zero =>
      intro v G1 h0 hvk f1 hv h1 hsum
      have hz : ∀ f : Nat, f < 10 → G1.1 171 f ≤ 0 := by
        have a0 := (h1 0 (by omega)).2
        have a1 := (h1 1 (by omega)).2
        have a2 := (h1 2 (by omega)).2
        have a3 := (h1 3 (by omega)).2
        have a4 := (h1 4 (by omega)).2
        have a5 := (h1 5 (by omega)).2
        have a6 := (h1 6 (by omega)).2
        have a7 := (h1 7 (by omega)).2
        have a8 := (h1 8 (by omega)).2
        have a9 := (h1 9 (by omega)).2
        intro f hf
        rcases (show f = 0 ∨ f = 1 ∨ f = 2 ∨ f = 3 ∨ f = 4 ∨ f = 5 ∨ f = 6 ∨ f = 7 ∨ f = 8 ∨ f = 9 by omega) with rfl | rfl | rfl | rfl | rfl | rfl | rfl | rfl | rfl | rfl <;> omega
      obtain ⟨f0, hf0, hg0⟩ := dgc_some (v := (v : Int) + 1) (by omega)
      have hb : prB (G1.1 171) ((v : Int) + 1) = false := by
        cases hc : prB (G1.1 171) ((v : Int) + 1) with
        | false => rfl
        | true => have := prB_iff.mp hc f0 hf0; have := hz f0 hf0; omega
      refine V_ex sX12_goFar_51 (by simp only [Option.toList, List.cons_append, List.nil_append, exN, ex1, gI, gL, gR, pI, pL, pR, lget, lset1, lset2, kl, b2I, b2L, nob, ob32, ob64, xGet, xPut, xLen, xLd, xLdR, xSt, obA, true_and, and_true, and_self, eq_self, Nat.reduceEqDiff, Nat.zero_ne_one, reduceIte, Nat.reduceLeDiff, and_false, false_and, show skd 11 45 = 0 from rfl, show LF.1 145 = some (.inl 11) from rfl, hv, upd2_eq, Int.reduceToNat, Int.toNat_natCast]; rfl) (by first | exact trivial | exact Or.inr rfl | exact Or.inl rfl | (simp only [ob, obA, R32, R64] at *; omega) | (simp only [ob, obA, R32, R64] at *; and_intros <;> omega)) ?_
      refine V_ifle dX12_goFar_57 (tgt := 86) (by decide) (by simp only [R32, R64] at *; omega) (fun q57 => ?_) (fun q57 => ?_)
      · omega
      · refine V_ex sX12_goFar_60 (by simp only [Option.toList, List.cons_append, List.nil_append, exN, ex1, gI, gL, gR, pI, pL, pR, lget, lset1, lset2, kl, b2I, b2L, nob, ob32, ob64, xGet, xPut, xLen, xLd, xLdR, xSt, obA, true_and, and_true, and_self, eq_self, Nat.reduceEqDiff, Nat.zero_ne_one, reduceIte, Nat.reduceLeDiff, and_false, false_and, show skd 11 45 = 0 from rfl, show LF.1 145 = some (.inl 11) from rfl, hv, upd2_eq, Int.reduceToNat, Int.toNat_natCast]; rfl) (by first | exact trivial | exact Or.inr rfl | exact Or.inl rfl | (simp only [ob, obA, R32, R64] at *; omega) | (simp only [ob, obA, R32, R64] at *; and_intros <;> omega)) ?_
        refine V_callV (M := MX12_goFar) (N := MX12_prints) dX12_goFar_67 lRX12_495 kX12_prints rfl (rfl) rfl (c_mprints (d := 1) hκ (by unfold R32; omega) (fun f hf => by have := h1 f hf; have := hz f hf; unfold R32; omega) (by omega)) rfl rfl (Nat.le_of_ble_eq_true rfl) (fit_rm (by omega)) (⟨Nat.le_of_ble_eq_true rfl, Nat.le_of_ble_eq_true rfl⟩) (fun v Ω' hp => ?_) (fun _ _ h => h.elim)
        obtain ⟨rfl, G2, rfl, f2, h2⟩ := hp
        rw [hb]
        refine V_ifeqB dX12_goFar_70 (tgt := 86) (by decide) (fun q70 => ?_) (fun q70 => ?_)
        · refine V_vret dX12_goFar_86 rfl (by decide) ?_
          have h3 : ∀ f : Nat, f < 10 → G2.1 171 f = L f - sS (f : Nat) v := fun f hf => by rw [h2 f hf, hb, if_neg (by decide)]; exact (h1 f hf).1
          refine ⟨rfl, G2, v, rfl, f1.trans (f2.mono (by decide) (by decide) (by decide)), by rw [f2.i5 (by decide) (by decide)]; exact hv, by omega, ?_, fun f hf => by rw [h3 f hf, used, if_pos h0]⟩
          rw [isFar, if_pos h0]
          refine ⟨fun f hf => by have := h1 f hf; simp only [Nat.sub_self, sS]; omega, fun he => ?_⟩
          have := he f0 hf0
          have e1 := (h1 f0 hf0).1
          have e2 := hz f0 hf0
          rw [sS_succ] at this
          simp only [Nat.sub_self, sS] at this
          omega
        · cases q70
    | succ k ih =>
      intro v G1 h0 hvk f1 hv h1 hsum
      have hR : ∀ f, f < 10 → R32 (G1.1 171 f) := fun f hf => by
        have := h1 f hf
        have := hL2 f hf
        have hs : 0 ≤ sS (f : Nat) v := by
          have : ∀ m, 0 ≤ sS (f : Nat) m := fun m => by
            induction m with
            | zero => simp [sS]
            | succ m ihm => rw [sS]; have := dgc_nn (f : Nat) 19 ((m + 1 : Nat) : Int); omega
          exact this v
        unfold R32; omega
      refine V_ex sX12_goFar_51 (by simp only [Option.toList, List.cons_append, List.nil_append, exN, ex1, gI, gL, gR, pI, pL, pR, lget, lset1, lset2, kl, b2I, b2L, nob, ob32, ob64, xGet, xPut, xLen, xLd, xLdR, xSt, obA, true_and, and_true, and_self, eq_self, Nat.reduceEqDiff, Nat.zero_ne_one, reduceIte, Nat.reduceLeDiff, and_false, false_and, show skd 11 45 = 0 from rfl, show LF.1 145 = some (.inl 11) from rfl, hv, upd2_eq, Int.reduceToNat, Int.toNat_natCast]; rfl) (by first | exact trivial | exact Or.inr rfl | exact Or.inl rfl | (simp only [ob, obA, R32, R64] at *; omega) | (simp only [ob, obA, R32, R64] at *; and_intros <;> omega)) ?_
      refine V_ifle dX12_goFar_57 (tgt := 86) (by decide) (by simp only [R32, R64] at *; omega) (fun q57 => ?_) (fun q57 => ?_)
      · omega
      · refine V_ex sX12_goFar_60 (by simp only [Option.toList, List.cons_append, List.nil_append, exN, ex1, gI, gL, gR, pI, pL, pR, lget, lset1, lset2, kl, b2I, b2L, nob, ob32, ob64, xGet, xPut, xLen, xLd, xLdR, xSt, obA, true_and, and_true, and_self, eq_self, Nat.reduceEqDiff, Nat.zero_ne_one, reduceIte, Nat.reduceLeDiff, and_false, false_and, show skd 11 45 = 0 from rfl, show LF.1 145 = some (.inl 11) from rfl, hv, upd2_eq, Int.reduceToNat, Int.toNat_natCast]; rfl) (by first | exact trivial | exact Or.inr rfl | exact Or.inl rfl | (simp only [ob, obA, R32, R64] at *; omega) | (simp only [ob, obA, R32, R64] at *; and_intros <;> omega)) ?_
        refine V_callV (M := MX12_goFar) (N := MX12_prints) dX12_goFar_67 lRX12_495 kX12_prints rfl (rfl) rfl (c_mprints (d := 1) hκ (v := (v : Int) + 1) (by unfold R32; omega) hR (by omega)) rfl rfl (Nat.le_of_ble_eq_true rfl) (fit_rm (by omega)) (⟨Nat.le_of_ble_eq_true rfl, Nat.le_of_ble_eq_true rfl⟩) (fun v Ω' hp => ?_) (fun _ _ h => h.elim)
        obtain ⟨rfl, G2, rfl, f2, h2⟩ := hp
        have hv2 : G2.1 145 45 = (v : Nat) := by rw [f2.i5 (by decide) (by decide)]; exact hv
        refine V_ifeqB dX12_goFar_70 (tgt := 86) (by decide) (fun q70 => ?_) (fun q70 => ?_)
        · rw [q70] at h2
          simp only [if_neg (show ¬ (false = true) by decide)] at h2
          refine V_vret dX12_goFar_86 rfl (by decide) ?_
          refine ⟨rfl, G2, v, rfl, f1.trans (f2.mono (by decide) (by decide) (by decide)), hv2, by omega, ?_, fun f hf => by rw [h2 f hf, used, if_pos h0]; exact (h1 f hf).1⟩
          rw [isFar, if_pos h0]
          refine ⟨fun f hf => by have := h1 f hf; simp only [Nat.sub_self, sS]; omega, fun he => ?_⟩
          have : prB (G1.1 171) ((v : Int) + 1) = true := prB_iff.mpr (fun f hf => by
            have := he f hf
            have e1 := (h1 f hf).1
            rw [sS_succ] at this
            simp only [Nat.sub_self, sS] at this
            omega)
          rw [this] at q70; cases q70
        · rw [q70] at h2
          simp only [if_pos (show (true = true) by decide)] at h2
          refine V_ex sX12_goFar_73 (by simp only [Option.toList, List.cons_append, List.nil_append, exN, ex1, gI, gL, gR, pI, pL, pR, lget, lset1, lset2, kl, b2I, b2L, nob, ob32, ob64, xGet, xPut, xLen, xLd, xLdR, xSt, obA, true_and, and_true, and_self, eq_self, Nat.reduceEqDiff, Nat.zero_ne_one, reduceIte, Nat.reduceLeDiff, and_false, false_and, show skd 11 45 = 0 from rfl, show LF.1 145 = some (.inl 11) from rfl, hv2, upd2_eq, Int.reduceToNat, Int.toNat_natCast]; rfl) (by first | exact trivial | exact Or.inr rfl | exact Or.inl rfl | (simp only [ob, obA, R32, R64] at *; omega) | (simp only [ob, obA, R32, R64] at *; and_intros <;> omega)) ?_
          refine V_goto dX12_goFar_83 (tgt := 51) (by decide) ?_
          have hle := prB_iff.mp q70
          have h3 : ∀ f : Nat, f < 10 → (uI G2 145 45 ((v : Int) + 1)).1 171 f = G1.1 171 f - dgc (f : Nat) 19 ((v : Int) + 1) := fun f hf => by simp only [upd2_eq]; rw [if_neg (by omega)]; exact h2 f hf
          obtain ⟨f0, hf0, hg0⟩ := dgc_some (v := (v : Int) + 1) (by omega)
          refine ih (v + 1) (uI G2 145 45 ((v : Int) + 1)) h0 (by omega) ((f1.trans (f2.mono (by decide) (by decide) (by decide))).s (by decide)) (by simp [upd2_eq]) (fun f hf => ?_) ?_
          · rw [h3 f hf, sS_succ]
            have := hle f hf
            have := (h1 f hf).1
            omega
          · rw [h3 0 (by omega), h3 1 (by omega), h3 2 (by omega), h3 3 (by omega), h3 4 (by omega), h3 5 (by omega), h3 6 (by omega), h3 7 (by omega), h3 8 (by omega), h3 9 (by omega)]
            have b0 := dgc_nn ((0 : Nat) : Int) 19 ((v : Int) + 1)
            have b1 := dgc_nn ((1 : Nat) : Int) 19 ((v : Int) + 1)
            have b2 := dgc_nn ((2 : Nat) : Int) 19 ((v : Int) + 1)
            have b3 := dgc_nn ((3 : Nat) : Int) 19 ((v : Int) + 1)
            have b4 := dgc_nn ((4 : Nat) : Int) 19 ((v : Int) + 1)
            have b5 := dgc_nn ((5 : Nat) : Int) 19 ((v : Int) + 1)
            have b6 := dgc_nn ((6 : Nat) : Int) 19 ((v : Int) + 1)
            have b7 := dgc_nn ((7 : Nat) : Int) 19 ((v : Int) + 1)
            have b8 := dgc_nn ((8 : Nat) : Int) 19 ((v : Int) + 1)
            have b9 := dgc_nn ((9 : Nat) : Int) 19 ((v : Int) + 1)
            rcases (show f0 = 0 ∨ f0 = 1 ∨ f0 = 2 ∨ f0 = 3 ∨ f0 = 4 ∨ f0 = 5 ∨ f0 = 6 ∨ f0 = 7 ∨ f0 = 8 ∨ f0 = 9 by omega) with rfl | rfl | rfl | rfl | rfl | rfl | rfl | rfl | rfl | rfl <;> omega
  have down : ∀ (v : Nat) (G1 : Wd), 1 ≤ n → 1 ≤ v → v ≤ n + 1 → FM [45] [171] [] G G1 → G1.1 145 45 = (v : Nat) → (∀ f : Nat, f < 10 → G1.1 171 f = L f - (sS (f : Nat) n - sS (f : Nat) (v - 1)) ∧ 0 ≤ G1.1 171 f ∧ G1.1 171 f ≤ 9999) → V κ MX12_goFar (rmD d 0 0) (fun u Ω' => u = none ∧ ∃ G' v, Ω' = Wm G' ∧ FM [45] [171] [] G G' ∧ G'.1 145 45 = ((v : Nat) : Int) ∧ v ≤ 99999999 + 1 ∧ isFar L n v ∧ ∀ f : Nat, f < 10 → G'.1 171 f = L f - used n v f) noX 0 0 μ 0 0 (Wm G1) 51 [some (VR 145), some (VI (n : Nat)), some (VI (-1))] [] := by
    intro v
    induction v with
    | zero => intro G1 h0 h1; omega
    | succ v ih =>
      intro G1 h0 h1 hvn f1 hv hl
      simp only [Nat.add_sub_cancel] at hl
      have en : enough L (v + 1) n := fun f hf => by have := hl f hf; rw [Nat.add_sub_cancel]; omega
      have hR : ∀ f, f < 10 → R32 (G1.1 171 f) := fun f hf => by have := hl f hf; unfold R32; omega
      refine V_ex sX12_goFar_51 (by simp only [Option.toList, List.cons_append, List.nil_append, exN, ex1, gI, gL, gR, pI, pL, pR, lget, lset1, lset2, kl, b2I, b2L, nob, ob32, ob64, xGet, xPut, xLen, xLd, xLdR, xSt, obA, true_and, and_true, and_self, eq_self, Nat.reduceEqDiff, Nat.zero_ne_one, reduceIte, Nat.reduceLeDiff, and_false, false_and, show skd 11 45 = 0 from rfl, show LF.1 145 = some (.inl 11) from rfl, hv, upd2_eq, Int.reduceToNat, Int.toNat_natCast]; rfl) (by first | exact trivial | exact Or.inr rfl | exact Or.inl rfl | (simp only [ob, obA, R32, R64] at *; omega) | (simp only [ob, obA, R32, R64] at *; and_intros <;> omega)) ?_
      refine V_ifle dX12_goFar_57 (tgt := 86) (by decide) (by simp only [R32, R64] at *; omega) (fun q57 => ?_) (fun q57 => ?_)
      · refine V_vret dX12_goFar_86 rfl (by decide) ⟨rfl, G1, v + 1, rfl, f1, hv, by omega, by rw [isFar, if_neg (by omega)]; exact ⟨by omega, hvn, en, Or.inl (by omega)⟩, fun f hf => by rw [used, if_neg (by omega), Nat.add_sub_cancel]; exact (hl f hf).1⟩
      · refine V_ex sX12_goFar_60 (by simp only [Option.toList, List.cons_append, List.nil_append, exN, ex1, gI, gL, gR, pI, pL, pR, lget, lset1, lset2, kl, b2I, b2L, nob, ob32, ob64, xGet, xPut, xLen, xLd, xLdR, xSt, obA, true_and, and_true, and_self, eq_self, Nat.reduceEqDiff, Nat.zero_ne_one, reduceIte, Nat.reduceLeDiff, and_false, false_and, show skd 11 45 = 0 from rfl, show LF.1 145 = some (.inl 11) from rfl, hv, upd2_eq, Int.reduceToNat, Int.toNat_natCast]; rfl) (by first | exact trivial | exact Or.inr rfl | exact Or.inl rfl | (simp only [ob, obA, R32, R64] at *; omega) | (simp only [ob, obA, R32, R64] at *; and_intros <;> omega)) ?_
        refine V_callV (M := MX12_goFar) (N := MX12_prints) dX12_goFar_67 lRX12_495 kX12_prints rfl (rfl) rfl (c_mprints (d := 1) hκ (v := ((v + 1 : Nat) : Int) + -1) (by unfold R32; omega) hR (by omega)) rfl rfl (Nat.le_of_ble_eq_true rfl) (fit_rm (by omega)) (⟨Nat.le_of_ble_eq_true rfl, Nat.le_of_ble_eq_true rfl⟩) (fun v Ω' hp => ?_) (fun _ _ h => h.elim)
        obtain ⟨rfl, G2, rfl, f2, h2⟩ := hp
        have hv2 : G2.1 145 45 = ((v + 1 : Nat) : Int) := by rw [f2.i5 (by decide) (by decide)]; exact hv
        simp only [show ((v + 1 : Nat) : Int) + -1 = (v : Int) by omega] at *
        refine V_ifeqB dX12_goFar_70 (tgt := 86) (by decide) (fun q70 => ?_) (fun q70 => ?_)
        · rw [q70] at h2
          simp only [if_neg (show ¬ (false = true) by decide)] at h2
          refine V_vret dX12_goFar_86 rfl (by decide) ?_
          refine ⟨rfl, G2, v + 1, rfl, f1.trans (f2.mono (by decide) (by decide) (by decide)), hv2, by omega, ?_, fun f hf => by rw [h2 f hf, used, if_neg (by omega), Nat.add_sub_cancel]; exact (hl f hf).1⟩
          rw [isFar, if_neg (by omega)]
          refine ⟨by omega, hvn, en, Or.inr (fun he => ?_)⟩
          have : prB (G1.1 171) (v : Int) = true := prB_iff.mpr (fun f hf => by
            have := he f hf
            have e1 := (hl f hf).1
            obtain ⟨w, rfl⟩ : ∃ w, v = w + 1 := ⟨v - 1, by omega⟩
            simp only [Nat.add_sub_cancel, sS] at *
            omega)
          rw [this] at q70; cases q70
        · rw [q70] at h2
          simp only [if_pos (show (true = true) by decide)] at h2
          refine V_ex sX12_goFar_73 (by simp only [Option.toList, List.cons_append, List.nil_append, exN, ex1, gI, gL, gR, pI, pL, pR, lget, lset1, lset2, kl, b2I, b2L, nob, ob32, ob64, xGet, xPut, xLen, xLd, xLdR, xSt, obA, true_and, and_true, and_self, eq_self, Nat.reduceEqDiff, Nat.zero_ne_one, reduceIte, Nat.reduceLeDiff, and_false, false_and, show skd 11 45 = 0 from rfl, show LF.1 145 = some (.inl 11) from rfl, hv2, upd2_eq, Int.reduceToNat, Int.toNat_natCast]; rfl) (by first | exact trivial | exact Or.inr rfl | exact Or.inl rfl | (simp only [ob, obA, R32, R64] at *; omega) | (simp only [ob, obA, R32, R64] at *; and_intros <;> omega)) ?_
          refine V_goto dX12_goFar_83 (tgt := 51) (by decide) ?_
          have hle := prB_iff.mp q70
          have h3 : ∀ f : Nat, f < 10 → (uI G2 145 45 (v : Int)).1 171 f = G1.1 171 f - dgc (f : Nat) 19 (v : Int) := fun f hf => by simp only [upd2_eq]; rw [if_neg (by omega)]; exact h2 f hf
          rw [show ((v + 1 : Nat) : Int) + -1 = (v : Int) by omega]
          refine ih (uI G2 145 45 (v : Int)) h0 (by omega) (by omega) ((f1.trans (f2.mono (by decide) (by decide) (by decide))).s (by decide)) (by simp [upd2_eq]) (fun f hf => ?_)
          rw [h3 f hf]
          have h4 := hle f hf
          have h5 := hl f hf
          have h6 := dgc_nn (f : Nat) 19 (v : Int)
          obtain ⟨w, rfl⟩ : ∃ w, v = w + 1 := ⟨v - 1, by omega⟩
          simp only [Nat.add_sub_cancel, sS] at *
          omega
  have fill : ∀ (k i : Nat) (ii : Int) (G1 : Wd), ii = (i : Int) → i + k = 10 → FM [45] [171] [] G G1 → (∀ f : Nat, f < i → G1.1 171 f = L f) → V κ MX12_goFar (rmD d 0 0) (fun u Ω' => u = none ∧ ∃ G' v, Ω' = Wm G' ∧ FM [45] [171] [] G G' ∧ G'.1 145 45 = ((v : Nat) : Int) ∧ v ≤ 99999999 + 1 ∧ isFar L n v ∧ ∀ f : Nat, f < 10 → G'.1 171 f = L f - used n v f) noX 0 0 μ 0 0 (Wm G1) 2 [some (VR 145), some (VI (n : Nat)), some (VI ii)] [] := by
    intro k
    induction k with
    | zero =>
      intro i ii G1 hii hik f1 h1
      have h1 : ∀ f : Nat, f < 10 → G1.1 171 f = L f := fun f hf => h1 f (by omega)
      refine V_ex sX12_goFar_2 (by rfl) (by first | exact trivial | exact Or.inr rfl | exact Or.inl rfl | (simp only [ob, obA, R32, R64] at *; omega) | (simp only [ob, obA, R32, R64] at *; and_intros <;> omega)) ?_
      refine V_icmpge dX12_goFar_5 (tgt := 26) (by decide) (by simp only [R32, R64] at *; omega) (fun q5 => ?_) (fun q5 => ?_)
      · refine V_ex sX12_goFar_26 (by rfl) (by first | exact trivial | exact Or.inr rfl | exact Or.inl rfl | (simp only [ob, obA, R32, R64] at *; omega) | (simp only [ob, obA, R32, R64] at *; and_intros <;> omega)) ?_
        refine V_ifne dX12_goFar_28 (tgt := 35) (by decide) (by simp only [R32, R64] at *; omega) (fun q28 => ?_) (fun q28 => ?_)
        · refine V_ex sX12_goFar_35 (by rfl) (by first | exact trivial | exact Or.inr rfl | exact Or.inl rfl | (simp only [ob, obA, R32, R64] at *; omega) | (simp only [ob, obA, R32, R64] at *; and_intros <;> omega)) ?_
          refine V_ex sX12_goFar_38 (by simp only [Option.toList, List.cons_append, List.nil_append, exN, ex1, gI, gL, gR, pI, pL, pR, lget, lset1, lset2, kl, b2I, b2L, nob, ob32, ob64, xGet, xPut, xLen, xLd, xLdR, xSt, obA, true_and, and_true, and_self, eq_self, Nat.reduceEqDiff, Nat.zero_ne_one, reduceIte, Nat.reduceLeDiff, and_false, false_and, show skd 11 45 = 0 from rfl, show LF.1 145 = some (.inl 11) from rfl, upd2_eq, Int.reduceToNat, Int.toNat_natCast]; rfl) (by first | exact trivial | exact Or.inr rfl | exact Or.inl rfl | (simp only [ob, obA, R32, R64] at *; omega) | (simp only [ob, obA, R32, R64] at *; and_intros <;> omega)) ?_
          refine V_ifne dX12_goFar_42 (tgt := 49) (by decide) (by simp only [R32, R64] at *; omega) (fun q42 => ?_) (fun q42 => ?_)
          · refine V_ex sX12_goFar_49 (by rfl) (by first | exact trivial | exact Or.inr rfl | exact Or.inl rfl | (simp only [ob, obA, R32, R64] at *; omega) | (simp only [ob, obA, R32, R64] at *; and_intros <;> omega)) ?_
            refine V_ex sX12_goFar_50 (by rfl) (by first | exact trivial | exact Or.inr rfl | exact Or.inl rfl | (simp only [ob, obA, R32, R64] at *; omega) | (simp only [ob, obA, R32, R64] at *; and_intros <;> omega)) ?_
            refine down (n + 1) (uI G1 145 45 ((n : Int) + 1)) (by omega) (by omega) (by omega) (f1.s (by decide)) (by simp [upd2_eq]) (fun f hf => ?_)
            simp only [upd2_eq]
            rw [if_neg (by omega), h1 f hf, Nat.add_sub_cancel]
            have := hL2 f hf
            omega
          · omega
        · refine V_ex sX12_goFar_31 (by rfl) (by first | exact trivial | exact Or.inr rfl | exact Or.inl rfl | (simp only [ob, obA, R32, R64] at *; omega) | (simp only [ob, obA, R32, R64] at *; and_intros <;> omega)) ?_
          refine V_goto dX12_goFar_32 (tgt := 38) (by decide) ?_
          refine V_ex sX12_goFar_38 (by simp only [Option.toList, List.cons_append, List.nil_append, exN, ex1, gI, gL, gR, pI, pL, pR, lget, lset1, lset2, kl, b2I, b2L, nob, ob32, ob64, xGet, xPut, xLen, xLd, xLdR, xSt, obA, true_and, and_true, and_self, eq_self, Nat.reduceEqDiff, Nat.zero_ne_one, reduceIte, Nat.reduceLeDiff, and_false, false_and, show skd 11 45 = 0 from rfl, show LF.1 145 = some (.inl 11) from rfl, upd2_eq, Int.reduceToNat, Int.toNat_natCast]; rfl) (by first | exact trivial | exact Or.inr rfl | exact Or.inl rfl | (simp only [ob, obA, R32, R64] at *; omega) | (simp only [ob, obA, R32, R64] at *; and_intros <;> omega)) ?_
          refine V_ifne dX12_goFar_42 (tgt := 49) (by decide) (by simp only [R32, R64] at *; omega) (fun q42 => ?_) (fun q42 => ?_)
          · omega
          · refine V_ex sX12_goFar_45 (by rfl) (by first | exact trivial | exact Or.inr rfl | exact Or.inl rfl | (simp only [ob, obA, R32, R64] at *; omega) | (simp only [ob, obA, R32, R64] at *; and_intros <;> omega)) ?_
            refine V_goto dX12_goFar_46 (tgt := 50) (by decide) ?_
            refine V_ex sX12_goFar_50 (by rfl) (by first | exact trivial | exact Or.inr rfl | exact Or.inl rfl | (simp only [ob, obA, R32, R64] at *; omega) | (simp only [ob, obA, R32, R64] at *; and_intros <;> omega)) ?_
            obtain rfl : n = 0 := by omega
            have q : ∀ f : Nat, f < 10 → (uI G1 145 45 0).1 171 f = L f := fun f hf => by simp only [upd2_eq]; rw [if_neg (by omega)]; exact h1 f hf
            refine up 99990 0 (uI G1 145 45 0) rfl (by omega) (f1.s (by decide)) (by simp [upd2_eq]) (fun f hf => ?_) ?_
            · rw [q f hf]; have := hL2 f hf; simp only [sS]; omega
            · rw [q 0 (by omega), q 1 (by omega), q 2 (by omega), q 3 (by omega), q 4 (by omega), q 5 (by omega), q 6 (by omega), q 7 (by omega), q 8 (by omega), q 9 (by omega)]
              have b0 := hL2 0 (by omega)
              have b1 := hL2 1 (by omega)
              have b2 := hL2 2 (by omega)
              have b3 := hL2 3 (by omega)
              have b4 := hL2 4 (by omega)
              have b5 := hL2 5 (by omega)
              have b6 := hL2 6 (by omega)
              have b7 := hL2 7 (by omega)
              have b8 := hL2 8 (by omega)
              have b9 := hL2 9 (by omega)
              omega
      · omega
    | succ k ih =>
      intro i ii G1 hii hik f1 h1
      subst hii
      have h157 : G1.1 157 i = L i := by rw [f1.i (by decide) (by decide)]; exact hL i (by omega)
      refine V_ex sX12_goFar_2 (by rfl) (by first | exact trivial | exact Or.inr rfl | exact Or.inl rfl | (simp only [ob, obA, R32, R64] at *; omega) | (simp only [ob, obA, R32, R64] at *; and_intros <;> omega)) ?_
      refine V_icmpge dX12_goFar_5 (tgt := 26) (by decide) (by simp only [R32, R64] at *; omega) (fun q5 => ?_) (fun q5 => ?_)
      · omega
      · refine V_ex sX12_goFar_8 (by simp only [Option.toList, List.cons_append, List.nil_append, exN, ex1, gI, gL, gR, pI, pL, pR, lget, lset1, lset2, kl, b2I, b2L, nob, ob32, ob64, xGet, xPut, xLen, xLd, xLdR, xSt, obA, true_and, and_true, and_self, eq_self, Nat.reduceEqDiff, Nat.zero_ne_one, reduceIte, Nat.reduceLeDiff, and_false, false_and, show skd 11 44 = 2 from rfl, show skd 11 12 = 2 from rfl, show LF.1 145 = some (.inl 11) from rfl, show LF.2 145 44 = some 171 from rfl, show LF.2 145 12 = some 157 from rfl, show LF.1 157 = some (.inr (0, 20)) from rfl, show LF.1 171 = some (.inr (0, 10)) from rfl, h157, upd2_eq, Int.reduceToNat, Int.toNat_natCast]; rfl) (by first | exact trivial | exact Or.inr rfl | exact Or.inl rfl | (simp only [ob, obA, R32, R64] at *; omega) | (simp only [ob, obA, R32, R64] at *; and_intros <;> omega)) ?_
        refine V_goto dX12_goFar_23 (tgt := 2) (by decide) ?_
        refine ih (i + 1) _ _ (by omega) (by omega) (f1.a (by decide)) (fun f hf => ?_)
        simp only [upd2_eq]
        by_cases c : f = i
        · subst c; rw [if_pos ⟨trivial, rfl⟩]
        · rw [if_neg (by intro q; exact c q.2)]; exact h1 f (by omega)
  refine V_ex sX12_goFar_0 (by rfl) (by first | exact trivial | exact Or.inr rfl | exact Or.inl rfl | (simp only [ob, obA, R32, R64] at *; omega) | (simp only [ob, obA, R32, R64] at *; and_intros <;> omega)) ?_
  exact fill 10 0 0 G rfl (by omega) (FM.refl _ _ _ _) (fun f hf => by omega)
theorem sS_mono {f : Int} {a b : Nat} (h : a ≤ b) : sS f a ≤ sS f b := by
  induction b with
  | zero =>
    obtain rfl : a = 0 := by omega
    exact Int.le_refl _
  | succ b ih =>
    rcases Nat.lt_or_ge a (b + 1) with c | c
    · have := ih (by omega); have := dgc_nn f 19 ((b + 1 : Nat) : Int); rw [sS]; omega
    · obtain rfl : a = b + 1 := by omega
      exact Int.le_refl _
theorem isFar_uni {L : Nat → Int} {n v w : Nat} (h : isFar L n v) (h' : isFar L n w) : v = w := by
  unfold isFar at h h'
  split at h
  · rename_i c
    rw [if_pos c] at h'
    have one : ∀ v w, enough L 1 w → ¬ enough L 1 (v + 1) → ¬ v < w := fun v w h1 h2 h3 => h2 (fun f hf => by
      have := h1 f hf
      have := sS_mono (f := (f : Nat)) (show v + 1 ≤ w by omega)
      omega)
    have := one v w h'.1 h.2
    have := one w v h.1 h'.2
    omega
  · rename_i c
    rw [if_neg c] at h'
    have one : ∀ v w, 1 ≤ w → enough L w n → (v = 1 ∨ ¬ enough L (v - 1) n) → ¬ w < v := fun v w h0 h1 h2 h3 => by
      rcases h2 with h2 | h2
      · omega
      · exact h2 (fun f hf => by
          have := h1 f hf
          have := sS_mono (f := (f : Nat)) (show w - 1 ≤ v - 1 - 1 by omega)
          omega)
    have := one v w h'.1 h'.2.2.1 h.2.2.2
    have := one w v h.1 h.2.2.1 h'.2.2.2
    omega
noncomputable def theFar (L : Nat → Int) (n : Nat) : Nat := Classical.epsilon (isFar L n)
theorem theFar_eq {L : Nat → Int} {n v : Nat} (h : isFar L n v) : theFar L n = v := isFar_uni (Classical.epsilon_spec ⟨v, h⟩) h
/-- the least figure of which there isn't enough for a + 1 .. b -/
def shortL (L : Nat → Int) (a b : Nat) : Nat → Nat → Int
  | 0, _ => -1
  | k + 1, f => if L f < sS (f : Nat) b - sS (f : Nat) a then (f : Nat) else shortL L a b k (f + 1)
noncomputable def lackV (L : Nat → Int) (n v : Nat) : Int := if n = 0 then shortL L 0 (v + 1) 10 0 else if v = 1 then -1 else shortL L (v - 2) n 10 0
noncomputable def farP (L : Nat → Int) (n : Int) : Int × Int := if ¬ (0 ≤ n ∧ n ≤ 99999999) then (1, 0) else (0, (theFar L n.toNat : Nat))
noncomputable def lacksP (L : Nat → Int) (n : Int) : Int × Int := if ¬ (0 ≤ n ∧ n ≤ 99999999) then (1, 0) else (0, lackV L n.toNat (theFar L n.toNat))
set_option maxRecDepth 100000 in
set_option maxHeartbeats 4000000 in
theorem c_mfar {κ : Kx} (hκ : KOK κ) {d : Nat} {n : Int} {L : Nat → Int} {G : Wd} (hL : ∀ f, f < 10 → G.1 157 f = L f) (hL2 : ∀ f, f < 10 → 0 ≤ L f ∧ L f ≤ 9999) (hn : R32 n) (hd : 3 ≤ d) : Ct κ MX12_far d 0 0 [VR 145, VI n] (Wm G) (mpI G [2, 45] [171] [] (farP L n)) noX := by
  refine Ct_of hκ kX12_far.1 rfl (Nat.le_of_ble_eq_true rfl) (ls := [some (VR 145), some (VI n)]) rfl (fun μ => ?_)
  have f0 : FM [2, 45] [171] [] G (uI G 145 2 0) := (FM.refl _ _ _ _).s (by decide)
  by_cases hg : 0 ≤ n ∧ n ≤ 99999999
  · obtain ⟨m, rfl⟩ : ∃ m : Nat, n = m := ⟨n.toNat, by omega⟩
    refine V_ex sX12_far_0 (by simp only [Option.toList, List.cons_append, List.nil_append, exN, ex1, gI, gL, gR, pI, pL, pR, lget, lset1, lset2, kl, b2I, b2L, nob, ob32, ob64, xGet, xPut, xLen, xLd, xLdR, xSt, obA, true_and, and_true, and_self, eq_self, Nat.reduceEqDiff, Nat.zero_ne_one, reduceIte, Nat.reduceLeDiff, and_false, false_and, show skd 11 2 = 0 from rfl, show LF.1 145 = some (.inl 11) from rfl, upd2_eq, Int.reduceToNat, Int.toNat_natCast]; rfl) (by first | exact trivial | exact Or.inr rfl | exact Or.inl rfl | (simp only [ob, obA, R32, R64] at *; omega) | (simp only [ob, obA, R32, R64] at *; and_intros <;> omega)) ?_
    refine V_callS (M := MX12_far) (N := MX12_isFrom) dX12_far_6 lRX12_500 kX12_isFrom rfl (c_misFrom (d := 2) hκ hn (by omega)) rfl rfl (Nat.le_of_ble_eq_true rfl) (fit_rm (by omega)) (⟨Nat.le_of_ble_eq_true rfl, Nat.le_of_ble_eq_true rfl⟩) (fun v Ω' hp => ?_) (fun _ _ h => h.elim)
    obtain ⟨rfl, rfl⟩ := hp
    refine V_ifneB dX12_far_9 (tgt := 18) (by decide) (fun q9 => ?_) (fun q9 => ?_)
    · refine V_ex sX12_far_18 (by rfl) (by first | exact trivial | exact Or.inr rfl | exact Or.inl rfl | (simp only [ob, obA, R32, R64] at *; omega) | (simp only [ob, obA, R32, R64] at *; and_intros <;> omega)) ?_
      refine V_callV (M := MX12_far) (N := MX12_goFar) dX12_far_20 lRX12_503 kX12_goFar rfl (rfl) rfl (c_mgoFar (d := 2) hκ (L := L) (n := m) (fun f hf => by simp only [upd2_eq]; rw [if_neg (by omega)]; exact hL f hf) hL2 (by omega) (by omega)) rfl rfl (Nat.le_of_ble_eq_true rfl) (fit_rm (by omega)) (⟨Nat.le_of_ble_eq_true rfl, Nat.le_of_ble_eq_true rfl⟩) (fun v Ω' hp => ?_) (fun _ _ h => h.elim)
      obtain ⟨rfl, G1, v, rfl, f1, hv, hv2, hF, hl⟩ := hp
      have g1 := f0.trans (f1.mono (by decide) (by decide) (by decide))
      have c0 : G1.1 145 2 = 0 := by rw [f1.i5 (by decide) (by decide)]; simp [upd2_eq]
      refine V_ex sX12_far_23 (by simp only [Option.toList, List.cons_append, List.nil_append, exN, ex1, gI, gL, gR, pI, pL, pR, lget, lset1, lset2, kl, b2I, b2L, nob, ob32, ob64, xGet, xPut, xLen, xLd, xLdR, xSt, obA, true_and, and_true, and_self, eq_self, Nat.reduceEqDiff, Nat.zero_ne_one, reduceIte, Nat.reduceLeDiff, and_false, false_and, show skd 11 45 = 0 from rfl, show LF.1 145 = some (.inl 11) from rfl, hv, upd2_eq, Int.reduceToNat, Int.toNat_natCast]; rfl) (by first | exact trivial | exact Or.inr rfl | exact Or.inl rfl | (simp only [ob, obA, R32, R64] at *; omega) | (simp only [ob, obA, R32, R64] at *; and_intros <;> omega)) ?_
      refine V_iret dX12_far_27 rfl (by decide) ⟨by rw [farP, if_neg (not_not_intro hg), show ((m : Nat) : Int).toNat = m by omega, theFar_eq hF], _, rfl, g1, by rw [farP, if_neg (not_not_intro hg), c0]⟩
    · have := of_decide_eq_false q9
      omega
  · refine V_ex sX12_far_0 (by simp only [Option.toList, List.cons_append, List.nil_append, exN, ex1, gI, gL, gR, pI, pL, pR, lget, lset1, lset2, kl, b2I, b2L, nob, ob32, ob64, xGet, xPut, xLen, xLd, xLdR, xSt, obA, true_and, and_true, and_self, eq_self, Nat.reduceEqDiff, Nat.zero_ne_one, reduceIte, Nat.reduceLeDiff, and_false, false_and, show skd 11 2 = 0 from rfl, show LF.1 145 = some (.inl 11) from rfl, upd2_eq, Int.reduceToNat, Int.toNat_natCast]; rfl) (by first | exact trivial | exact Or.inr rfl | exact Or.inl rfl | (simp only [ob, obA, R32, R64] at *; omega) | (simp only [ob, obA, R32, R64] at *; and_intros <;> omega)) ?_
    refine V_callS (M := MX12_far) (N := MX12_isFrom) dX12_far_6 lRX12_500 kX12_isFrom rfl (c_misFrom (d := 2) hκ hn (by omega)) rfl rfl (Nat.le_of_ble_eq_true rfl) (fit_rm (by omega)) (⟨Nat.le_of_ble_eq_true rfl, Nat.le_of_ble_eq_true rfl⟩) (fun v Ω' hp => ?_) (fun _ _ h => h.elim)
    obtain ⟨rfl, rfl⟩ := hp
    refine V_ifneB dX12_far_9 (tgt := 18) (by decide) (fun q9 => ?_) (fun q9 => ?_)
    · have := of_decide_eq_true q9
      omega
    · refine V_ex sX12_far_12 (by rfl) (by first | exact trivial | exact Or.inr rfl | exact Or.inl rfl | (simp only [ob, obA, R32, R64] at *; omega) | (simp only [ob, obA, R32, R64] at *; and_intros <;> omega)) ?_
      refine V_callV (M := MX12_far) (N := MX12_fail) dX12_far_14 lRX12_324 kX12_fail rfl (rfl) rfl (c_mfail (d := 2) hκ) rfl rfl (Nat.le_of_ble_eq_true rfl) (fit_rm (by omega)) (⟨Nat.le_of_ble_eq_true rfl, Nat.le_of_ble_eq_true rfl⟩) (fun v Ω' hp => ?_) (fun _ _ h => h.elim)
      obtain ⟨rfl, rfl⟩ := hp
      refine V_iret dX12_far_17 rfl (by decide) ⟨by rw [farP, if_pos hg], _, rfl, f0.s (by decide), by rw [farP, if_pos hg]; simp [upd2_eq]⟩
set_option maxRecDepth 100000 in
set_option maxHeartbeats 4000000 in
theorem c_mlacks {κ : Kx} (hκ : KOK κ) {d : Nat} {n : Int} {L : Nat → Int} {G : Wd} (hL : ∀ f, f < 10 → G.1 157 f = L f) (hL2 : ∀ f, f < 10 → 0 ≤ L f ∧ L f ≤ 9999) (hn : R32 n) (hd : 3 ≤ d) : Ct κ MX12_lacks d 0 0 [VR 145, VI n] (Wm G) (mpI G [2, 45] [171] [] (lacksP L n)) noX := by
  refine Ct_of hκ kX12_lacks.1 rfl (Nat.le_of_ble_eq_true rfl) (ls := [some (VR 145), some (VI n), none, none]) rfl (fun μ => ?_)
  have f0 : FM [2, 45] [171] [] G (uI G 145 2 0) := (FM.refl _ _ _ _).s (by decide)
  by_cases hg : 0 ≤ n ∧ n ≤ 99999999
  · obtain ⟨m, rfl⟩ : ∃ m : Nat, n = m := ⟨n.toNat, by omega⟩
    have look : ∀ (G1 : Wd) (v a b : Nat) (nx : Int), FM [2, 45] [171] [] G G1 → G1.1 145 2 = 0 → isFar L m v → lackV L m v = shortL L a b 10 0 → (∃ f : Nat, f < 10 ∧ L f < sS (f : Nat) b - sS (f : Nat) a) → 0 ≤ nx ∧ nx ≤ 1000000000 → (∀ f : Nat, f < 10 → R32 (G1.1 171 f) ∧ (dgc (f : Nat) 19 nx ≤ G1.1 171 f ↔ ¬ L f < sS (f : Nat) b - sS (f : Nat) a)) → ∀ (k i : Nat) (ii : Int), ii = (i : Int) → i + k = 10 → shortL L a b k i = shortL L a b 10 0 → (∀ f : Nat, f < i → ¬ L f < sS (f : Nat) b - sS (f : Nat) a) → V κ MX12_lacks (rmD d 0 0) (mpI G [2, 45] [171] [] (lacksP L (m : Nat))) noX 0 0 μ 0 0 (Wm G1) 46 [some (VR 145), some (VI (m : Nat)), some (VI nx), some (VI ii)] [] := by
      intro G1 v a b nx g1 c0 hF hV hex hnx hl k
      induction k with
      | zero =>
        intro i ii hii hik hs hb
        obtain ⟨f, hf, hf2⟩ := hex
        exact absurd hf2 (hb f (by omega))
      | succ k ih =>
        intro i ii hii hik hs hb
        subst hii
        have hli := hl i (by omega)
        have hdn := dgc_nn (i : Nat) 19 nx
        rw [shortL] at hs
        refine V_ex sX12_lacks_46 (by rfl) (by first | exact trivial | exact Or.inr rfl | exact Or.inl rfl | (simp only [ob, obA, R32, R64] at *; omega) | (simp only [ob, obA, R32, R64] at *; and_intros <;> omega)) ?_
        refine V_callS (M := MX12_lacks) (N := MX12_figuresIn) dX12_lacks_49 lRX12_400 kX12_figuresIn rfl (c_mfiguresIn (d := 2) hκ (by unfold R64; omega) (by unfold R32; omega)) rfl rfl (Nat.le_of_ble_eq_true rfl) (fit_rm (by omega)) (⟨Nat.le_of_ble_eq_true rfl, Nat.le_of_ble_eq_true rfl⟩) (fun v Ω' hp => ?_) (fun _ _ h => h.elim)
        obtain ⟨rfl, rfl⟩ := hp
        refine V_ex sX12_lacks_52 (by simp only [Option.toList, List.cons_append, List.nil_append, exN, ex1, gI, gL, gR, pI, pL, pR, lget, lset1, lset2, kl, b2I, b2L, nob, ob32, ob64, xGet, xPut, xLen, xLd, xLdR, xSt, obA, true_and, and_true, and_self, eq_self, Nat.reduceEqDiff, Nat.zero_ne_one, reduceIte, Nat.reduceLeDiff, and_false, false_and, show skd 11 44 = 2 from rfl, show LF.1 145 = some (.inl 11) from rfl, show LF.2 145 44 = some 171 from rfl, show LF.1 171 = some (.inr (0, 10)) from rfl, upd2_eq, Int.reduceToNat, Int.toNat_natCast]; rfl) (by first | exact trivial | exact Or.inr rfl | exact Or.inl rfl | (simp only [ob, obA, R32, R64] at *; omega) | (simp only [ob, obA, R32, R64] at *; and_intros <;> omega)) ?_
        refine V_icmpgt dX12_lacks_58 (tgt := 67) (by decide) (by exact ⟨by unfold R32; omega, hli.1⟩) (fun q58 => ?_) (fun q58 => ?_)
        · refine V_ex sX12_lacks_67 (by rfl) (by first | exact trivial | exact Or.inr rfl | exact Or.inl rfl | (simp only [ob, obA, R32, R64] at *; omega) | (simp only [ob, obA, R32, R64] at *; and_intros <;> omega)) ?_
          refine V_iret dX12_lacks_68 rfl (by decide) ⟨by rw [lacksP, if_neg (not_not_intro hg), show ((m : Nat) : Int).toNat = m by omega, theFar_eq hF, hV, ← hs, if_pos (by have := hli.2; omega)], _, rfl, g1, by rw [lacksP, if_neg (not_not_intro hg), c0]⟩
        · refine V_ex sX12_lacks_61 (by rfl) (by first | exact trivial | exact Or.inr rfl | exact Or.inl rfl | (simp only [ob, obA, R32, R64] at *; omega) | (simp only [ob, obA, R32, R64] at *; and_intros <;> omega)) ?_
          refine V_goto dX12_lacks_64 (tgt := 46) (by decide) ?_
          have hn2 : ¬ L i < sS (i : Nat) b - sS (i : Nat) a := hli.2.mp q58
          refine ih (i + 1) _ (by omega) (by omega) (by rw [← hs, if_neg hn2]) (fun f hf => ?_)
          rcases Nat.lt_or_ge f i with c | c
          · exact hb f c
          · obtain rfl : f = i := by omega
            exact hn2
    have none0 : ∀ (G1 : Wd) (v a b : Nat), ¬ enough L (a + 1) b → ∃ f : Nat, f < 10 ∧ L f < sS (f : Nat) b - sS (f : Nat) a := fun G1 v a b h => by
      apply Classical.byContradiction
      intro h2
      exact h (fun f hf => by
        rw [Nat.add_sub_cancel]
        rcases Int.lt_or_le (L f) (sS (f : Nat) b - sS (f : Nat) a) with c | c
        · exact absurd ⟨f, hf, c⟩ h2
        · exact c)
    have mid : ∀ (G1 : Wd) (v : Nat) (st : Int), FM [2, 45] [171] [] G G1 → G1.1 145 2 = 0 → G1.1 145 45 = ((v : Nat) : Int) → v ≤ 100000000 → isFar L m v → (∀ f : Nat, f < 10 → G1.1 171 f = L f - used m v f) → st = (if m = 0 then 1 else -1) → V κ MX12_lacks (rmD d 0 0) (mpI G [2, 45] [171] [] (lacksP L (m : Nat))) noX 0 0 μ 0 0 (Wm G1) 36 [some (VR 145), some (VI (m : Nat)), none, none] [VI st, VI (v : Nat)] := fun G1 v st g1 c0 hv hv2 hF hl hst => by
      have hu : ∀ f : Nat, f < 10 → R32 (G1.1 171 f) := fun f hf => by
        have h1 := hl f hf
        have h2 := hL2 f hf
        have h3 : 0 ≤ used m v f ∧ used m v f ≤ L f := by
          unfold used
          unfold isFar at hF
          split
          · rename_i c
            rw [if_pos c] at hF
            have := hF.1 f hf
            have := sS_mono (f := (f : Nat)) (show 0 ≤ v by omega)
            simp only [Nat.sub_self, sS] at *
            omega
          · rename_i c
            rw [if_neg c] at hF
            have := hF.2.2.1 f hf
            have := sS_mono (f := (f : Nat)) (show v - 1 ≤ m by omega)
            omega
        unfold R32; omega
      by_cases hm : m = 0
      · rw [if_pos hm] at hst
        subst hst
        have hF2 := hF
        unfold isFar at hF2
        rw [if_pos hm] at hF2
        refine V_ex sX12_lacks_36 (by rfl) (by first | exact trivial | exact Or.inr rfl | exact Or.inl rfl | (simp only [ob, obA, R32, R64] at *; omega) | (simp only [ob, obA, R32, R64] at *; and_intros <;> omega)) ?_
        refine V_ifne dX12_lacks_39 (tgt := 44) (by decide) (by simp only [R32, R64] at *; omega) (fun q39 => ?_) (fun q39 => ?_)
        · refine V_ex sX12_lacks_44 (by rfl) (by first | exact trivial | exact Or.inr rfl | exact Or.inl rfl | (simp only [ob, obA, R32, R64] at *; omega) | (simp only [ob, obA, R32, R64] at *; and_intros <;> omega)) ?_
          refine look G1 v 0 (v + 1) _ g1 c0 hF (by rw [lackV, if_pos hm]) (none0 G1 v 0 (v + 1) hF2.2) (by omega) (fun f hf => ⟨hu f hf, ?_⟩) 10 0 0 rfl (by omega) rfl (fun f hf => by omega)
          rw [hl f hf, used, if_pos hm, sS_succ, show sS (f : Nat) 0 = 0 from rfl]
          omega
        · omega
      · rw [if_neg hm] at hst
        subst hst
        have hF2 := hF
        unfold isFar at hF2
        rw [if_neg hm] at hF2
        refine V_ex sX12_lacks_36 (by rfl) (by first | exact trivial | exact Or.inr rfl | exact Or.inl rfl | (simp only [ob, obA, R32, R64] at *; omega) | (simp only [ob, obA, R32, R64] at *; and_intros <;> omega)) ?_
        refine V_ifne dX12_lacks_39 (tgt := 44) (by decide) (by simp only [R32, R64] at *; omega) (fun q39 => ?_) (fun q39 => ?_)
        · refine V_ex sX12_lacks_44 (by rfl) (by first | exact trivial | exact Or.inr rfl | exact Or.inl rfl | (simp only [ob, obA, R32, R64] at *; omega) | (simp only [ob, obA, R32, R64] at *; and_intros <;> omega)) ?_
          have hv1 : ¬ v = 1 := by omega
          obtain ⟨w, rfl⟩ : ∃ w, v = w + 2 := ⟨v - 2, by omega⟩
          refine look G1 (w + 2) w m _ g1 c0 hF (by rw [lackV, if_neg hm, if_neg hv1, Nat.add_sub_cancel]) (none0 G1 (w + 2) w m ?_) (by omega) (fun f hf => ⟨hu f hf, ?_⟩) 10 0 0 rfl (by omega) rfl (fun f hf => by omega)
          · rcases hF2.2.2.2 with h | h
            · omega
            · exact h
          · rw [hl f hf, used, if_neg hm, show w + 2 - 1 = w + 1 by omega, sS_succ, show ((w + 2 : Nat) : Int) + -1 = (w : Int) + 1 by omega]
            omega
        · refine V_ex sX12_lacks_42 (by rfl) (by first | exact trivial | exact Or.inr rfl | exact Or.inl rfl | (simp only [ob, obA, R32, R64] at *; omega) | (simp only [ob, obA, R32, R64] at *; and_intros <;> omega)) ?_
          refine V_iret dX12_lacks_43 rfl (by decide) ⟨by rw [lacksP, if_neg (not_not_intro hg), show ((m : Nat) : Int).toNat = m by omega, theFar_eq hF, lackV, if_neg hm, if_pos (by omega)], _, rfl, g1, by rw [lacksP, if_neg (not_not_intro hg), c0]⟩
    refine V_ex sX12_lacks_0 (by simp only [Option.toList, List.cons_append, List.nil_append, exN, ex1, gI, gL, gR, pI, pL, pR, lget, lset1, lset2, kl, b2I, b2L, nob, ob32, ob64, xGet, xPut, xLen, xLd, xLdR, xSt, obA, true_and, and_true, and_self, eq_self, Nat.reduceEqDiff, Nat.zero_ne_one, reduceIte, Nat.reduceLeDiff, and_false, false_and, show skd 11 2 = 0 from rfl, show LF.1 145 = some (.inl 11) from rfl, upd2_eq, Int.reduceToNat, Int.toNat_natCast]; rfl) (by first | exact trivial | exact Or.inr rfl | exact Or.inl rfl | (simp only [ob, obA, R32, R64] at *; omega) | (simp only [ob, obA, R32, R64] at *; and_intros <;> omega)) ?_
    refine V_callS (M := MX12_lacks) (N := MX12_isFrom) dX12_lacks_6 lRX12_500 kX12_isFrom rfl (c_misFrom (d := 2) hκ hn (by omega)) rfl rfl (Nat.le_of_ble_eq_true rfl) (fit_rm (by omega)) (⟨Nat.le_of_ble_eq_true rfl, Nat.le_of_ble_eq_true rfl⟩) (fun v Ω' hp => ?_) (fun _ _ h => h.elim)
    obtain ⟨rfl, rfl⟩ := hp
    refine V_ifneB dX12_lacks_9 (tgt := 18) (by decide) (fun q9 => ?_) (fun q9 => ?_)
    · refine V_ex sX12_lacks_18 (by rfl) (by first | exact trivial | exact Or.inr rfl | exact Or.inl rfl | (simp only [ob, obA, R32, R64] at *; omega) | (simp only [ob, obA, R32, R64] at *; and_intros <;> omega)) ?_
      refine V_callV (M := MX12_lacks) (N := MX12_goFar) dX12_lacks_20 lRX12_503 kX12_goFar rfl (rfl) rfl (c_mgoFar (d := 2) hκ (L := L) (n := m) (fun f hf => by simp only [upd2_eq]; rw [if_neg (by omega)]; exact hL f hf) hL2 (by omega) (by omega)) rfl rfl (Nat.le_of_ble_eq_true rfl) (fit_rm (by omega)) (⟨Nat.le_of_ble_eq_true rfl, Nat.le_of_ble_eq_true rfl⟩) (fun v Ω' hp => ?_) (fun _ _ h => h.elim)
      obtain ⟨rfl, G1, v, rfl, f1, hv, hv2, hF, hl⟩ := hp
      have g1 := f0.trans (f1.mono (by decide) (by decide) (by decide))
      have c0 : G1.1 145 2 = 0 := by rw [f1.i5 (by decide) (by decide)]; simp [upd2_eq]
      refine V_ex sX12_lacks_23 (by simp only [Option.toList, List.cons_append, List.nil_append, exN, ex1, gI, gL, gR, pI, pL, pR, lget, lset1, lset2, kl, b2I, b2L, nob, ob32, ob64, xGet, xPut, xLen, xLd, xLdR, xSt, obA, true_and, and_true, and_self, eq_self, Nat.reduceEqDiff, Nat.zero_ne_one, reduceIte, Nat.reduceLeDiff, and_false, false_and, show skd 11 45 = 0 from rfl, show LF.1 145 = some (.inl 11) from rfl, hv, upd2_eq, Int.reduceToNat, Int.toNat_natCast]; rfl) (by first | exact trivial | exact Or.inr rfl | exact Or.inl rfl | (simp only [ob, obA, R32, R64] at *; omega) | (simp only [ob, obA, R32, R64] at *; and_intros <;> omega)) ?_
      refine V_ifne dX12_lacks_28 (tgt := 35) (by decide) (by simp only [R32, R64] at *; omega) (fun q28 => ?_) (fun q28 => ?_)
      · refine V_ex sX12_lacks_35 (by rfl) (by first | exact trivial | exact Or.inr rfl | exact Or.inl rfl | (simp only [ob, obA, R32, R64] at *; omega) | (simp only [ob, obA, R32, R64] at *; and_intros <;> omega)) ?_
        exact mid G1 v _ g1 c0 hv (by omega) hF hl (by rw [if_neg (by omega)])
      · refine V_ex sX12_lacks_31 (by rfl) (by first | exact trivial | exact Or.inr rfl | exact Or.inl rfl | (simp only [ob, obA, R32, R64] at *; omega) | (simp only [ob, obA, R32, R64] at *; and_intros <;> omega)) ?_
        refine V_goto dX12_lacks_32 (tgt := 36) (by decide) ?_
        exact mid G1 v _ g1 c0 hv (by omega) hF hl (by rw [if_pos (by omega)])
    · have := of_decide_eq_false q9
      omega
  · refine V_ex sX12_lacks_0 (by simp only [Option.toList, List.cons_append, List.nil_append, exN, ex1, gI, gL, gR, pI, pL, pR, lget, lset1, lset2, kl, b2I, b2L, nob, ob32, ob64, xGet, xPut, xLen, xLd, xLdR, xSt, obA, true_and, and_true, and_self, eq_self, Nat.reduceEqDiff, Nat.zero_ne_one, reduceIte, Nat.reduceLeDiff, and_false, false_and, show skd 11 2 = 0 from rfl, show LF.1 145 = some (.inl 11) from rfl, upd2_eq, Int.reduceToNat, Int.toNat_natCast]; rfl) (by first | exact trivial | exact Or.inr rfl | exact Or.inl rfl | (simp only [ob, obA, R32, R64] at *; omega) | (simp only [ob, obA, R32, R64] at *; and_intros <;> omega)) ?_
    refine V_callS (M := MX12_lacks) (N := MX12_isFrom) dX12_lacks_6 lRX12_500 kX12_isFrom rfl (c_misFrom (d := 2) hκ hn (by omega)) rfl rfl (Nat.le_of_ble_eq_true rfl) (fit_rm (by omega)) (⟨Nat.le_of_ble_eq_true rfl, Nat.le_of_ble_eq_true rfl⟩) (fun v Ω' hp => ?_) (fun _ _ h => h.elim)
    obtain ⟨rfl, rfl⟩ := hp
    refine V_ifneB dX12_lacks_9 (tgt := 18) (by decide) (fun q9 => ?_) (fun q9 => ?_)
    · have := of_decide_eq_true q9
      omega
    · refine V_ex sX12_lacks_12 (by rfl) (by first | exact trivial | exact Or.inr rfl | exact Or.inl rfl | (simp only [ob, obA, R32, R64] at *; omega) | (simp only [ob, obA, R32, R64] at *; and_intros <;> omega)) ?_
      refine V_callV (M := MX12_lacks) (N := MX12_fail) dX12_lacks_14 lRX12_324 kX12_fail rfl (rfl) rfl (c_mfail (d := 2) hκ) rfl rfl (Nat.le_of_ble_eq_true rfl) (fit_rm (by omega)) (⟨Nat.le_of_ble_eq_true rfl, Nat.le_of_ble_eq_true rfl⟩) (fun v Ω' hp => ?_) (fun _ _ h => h.elim)
      obtain ⟨rfl, rfl⟩ := hp
      refine V_iret dX12_lacks_17 rfl (by decide) ⟨by rw [lacksP, if_pos hg], _, rfl, f0.s (by decide), by rw [lacksP, if_pos hg]; simp [upd2_eq]⟩
