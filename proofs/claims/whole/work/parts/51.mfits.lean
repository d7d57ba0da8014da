/-! TornLeavesModel: what fits -/
/-- the same but ints of arrays A, longs of arrays B, slots S of the model -/
def FM (S A B : List Nat) (G G' : Wd) : Prop := G'.2.2 = G.2.2 ∧ (∀ x j, x ∉ A → ¬ (x = 145 ∧ j ∈ S) → G'.1 x j = G.1 x j) ∧ ∀ x j, x ∉ B → ¬ (x = 145 ∧ j ∈ S) → G'.2.1 x j = G.2.1 x j
theorem FM.refl (S A B : List Nat) (G : Wd) : FM S A B G G := ⟨rfl, fun _ _ _ _ => rfl, fun _ _ _ _ => rfl⟩
theorem FM.trans {S A B : List Nat} {G G' G'' : Wd} (h : FM S A B G G') (h' : FM S A B G' G'') : FM S A B G G'' := ⟨h'.1.trans h.1, fun x j a b => (h'.2.1 x j a b).trans (h.2.1 x j a b), fun x j a b => (h'.2.2 x j a b).trans (h.2.2 x j a b)⟩
theorem FM.mono {S A B S' A' B' : List Nat} {G G' : Wd} (h : FM S A B G G') (hS : ∀ x ∈ S, x ∈ S') (hA : ∀ x ∈ A, x ∈ A') (hB : ∀ x ∈ B, x ∈ B') : FM S' A' B' G G' := ⟨h.1, fun x j a b => h.2.1 x j (fun q => a (hA _ q)) (fun q => b ⟨q.1, hS _ q.2⟩), fun x j a b => h.2.2 x j (fun q => a (hB _ q)) (fun q => b ⟨q.1, hS _ q.2⟩)⟩
theorem FM.s {S A B : List Nat} {G G' : Wd} (h : FM S A B G G') {k : Nat} {z : Int} (hk : k ∈ S) : FM S A B G (uI G' 145 k z) := ⟨h.1, fun x j a b => by
  show upd2 G'.1 145 k z x j = _
  rw [upd2_eq, if_neg (by rintro ⟨q1, q2⟩; exact b ⟨q1, by rw [q2]; exact hk⟩)]; exact h.2.1 x j a b, h.2.2⟩
theorem FM.sL {S A B : List Nat} {G G' : Wd} (h : FM S A B G G') {k : Nat} {z : Int} (hk : k ∈ S) : FM S A B G (uL G' 145 k z) := ⟨h.1, h.2.1, fun x j a b => by
  show upd2 G'.2.1 145 k z x j = _
  rw [upd2_eq, if_neg (by rintro ⟨q1, q2⟩; exact b ⟨q1, by rw [q2]; exact hk⟩)]; exact h.2.2 x j a b⟩
theorem FM.a {S A B : List Nat} {G G' : Wd} (h : FM S A B G G') {a k : Nat} {z : Int} (ha : a ∈ A) : FM S A B G (uI G' a k z) := ⟨h.1, fun x j p b => by
  show upd2 G'.1 a k z x j = _
  rw [upd2_eq, if_neg (by rintro ⟨q1, -⟩; exact p (by rw [q1]; exact ha))]; exact h.2.1 x j p b, h.2.2⟩
theorem FM.b {S A B : List Nat} {G G' : Wd} (h : FM S A B G G') {a k : Nat} {z : Int} (ha : a ∈ B) : FM S A B G (uL G' a k z) := ⟨h.1, h.2.1, fun x j p b => by
  show upd2 G'.2.1 a k z x j = _
  rw [upd2_eq, if_neg (by rintro ⟨q1, -⟩; exact p (by rw [q1]; exact ha))]; exact h.2.2 x j p b⟩
theorem FM.i {S A B : List Nat} {G G' : Wd} (h : FM S A B G G') {x : Nat} (ha : x ∉ A) (h1 : x ≠ 145) : G'.1 x = G.1 x := by funext j; exact h.2.1 x j ha (fun q => h1 q.1)
theorem FM.i5 {S A B : List Nat} {G G' : Wd} (h : FM S A B G G') (ha : 145 ∉ A) {j : Nat} (h1 : j ∉ S) : G'.1 145 j = G.1 145 j := h.2.1 145 j ha (fun q => h1 q.2)
theorem FM.l {S A B : List Nat} {G G' : Wd} (h : FM S A B G G') {x : Nat} (ha : x ∉ B) (h1 : x ≠ 145) : G'.2.1 x = G.2.1 x := by funext j; exact h.2.2 x j ha (fun q => h1 q.1)
theorem FM.l5 {S A B : List Nat} {G G' : Wd} (h : FM S A B G G') (ha : 145 ∉ B) {j : Nat} (h1 : j ∉ S) : G'.2.1 145 j = G.2.1 145 j := h.2.2 145 j ha (fun q => h1 q.2)
/-- the fits kept by the model -/
def fitsM (G : Wd) (L : List (Int × Int)) : Prop := G.1 145 42 = (L.length : Nat) ∧ L.length ≤ 6 ∧ ∀ j (h : j < L.length), G.2.1 168 j = (L[j]'h).1 ∧ G.2.1 169 j = (L[j]'h).2
def addFit (G : Wd) (p l : Int) : Wd := uI (uL (uL G 168 (G.1 145 42).toNat p) 169 (G.1 145 42).toNat l) 145 42 (G.1 145 42 + 1)
set_option maxRecDepth 100000 in
set_option maxHeartbeats 4000000 in
theorem c_mfit {κ : Kx} (hκ : KOK κ) {d : Nat} {p l : Int} {G : Wd} (hm : 0 ≤ G.1 145 42 ∧ G.1 145 42 < 6) : Ct κ MX12_fit d 0 0 [VR 145, VL p, VL l] (Wm G) (voidG (addFit G p l)) noX := by
  refine Ct_of hκ kX12_fit.1 rfl (Nat.le_of_ble_eq_true rfl) (ls := [some (VR 145), some (VL p), none, some (VL l), none]) rfl (fun μ => ?_)
  refine V_ex sX12_fit_0 (by simp only [Option.toList, List.cons_append, List.nil_append, exN, ex1, gI, gL, gR, pI, pL, pR, lget, lset1, lset2, kl, b2I, b2L, nob, ob32, ob64, xGet, xPut, xLen, xLd, xLdR, xSt, obA, true_and, and_true, and_self, eq_self, Nat.reduceEqDiff, Nat.zero_ne_one, reduceIte, Nat.reduceLeDiff, and_false, false_and, show skd 11 40 = 2 from rfl, show skd 11 42 = 0 from rfl, show skd 11 41 = 2 from rfl, show LF.1 145 = some (.inl 11) from rfl, show LF.2 145 40 = some 168 from rfl, show LF.1 168 = some (.inr (1, 6)) from rfl, show LF.2 145 41 = some 169 from rfl, show LF.1 169 = some (.inr (1, 6)) from rfl, upd2_eq, Int.reduceToNat, Int.toNat_natCast]; rfl) (by first | exact trivial | exact Or.inr rfl | exact Or.inl rfl | (simp only [ob, obA, R32, R64] at *; omega) | (simp only [ob, obA, R32, R64] at *; and_intros <;> omega)) ?_
  refine V_vret dX12_fit_30 rfl (by decide) ⟨rfl, rfl⟩
theorem fitsM_add {G : Wd} {L : List (Int × Int)} {p l : Int} (h : fitsM G L) (h6 : L.length < 6) : fitsM (addFit G p l) (L ++ [(p, l)]) := by
  obtain ⟨h1, h2, h3⟩ := h
  refine ⟨by simp [addFit, upd2_eq, h1], by simp; omega, fun j hj => ?_⟩
  simp only [addFit, upd2_eq, h1, Int.toNat_natCast]
  by_cases e : j = L.length
  · subst e; simp
  · have hl : j < L.length := by simp at hj; omega
    have := h3 j hl
    simp [e, List.getElem_append_left hl, this]
theorem fitA_le (s p : Int) : (fitA s p).length ≤ 1 := by unfold fitA; split <;> simp
theorem fitB_le (s p : Int) : (fitB s p).length ≤ 1 := by unfold fitB; split <;> simp
set_option maxRecDepth 100000 in
set_option maxHeartbeats 4000000 in
theorem c_mfitsOf {κ : Kx} (hκ : KOK κ) {d : Nat} {s p : Int} {G : Wd} {L : List (Int × Int)} (hL : fitsM G L) (h4 : L.length ≤ 4) (hs : 1 ≤ s ∧ s ≤ 1000000000000000000) (hp : 1 ≤ p ∧ p ≤ 3000000000) (hd : 1 ≤ d) : Ct κ MX12_fitsOf d 0 0 [VR 145, VL s, VL p] (Wm G) (fun v Ω' => v = none ∧ ∃ G', Ω' = Wm G' ∧ FM [42] [] [168, 169] G G' ∧ fitsM G' (L ++ (fitA s p ++ fitB s p))) noX := by
  refine Ct_of hκ kX12_fitsOf.1 rfl (Nat.le_of_ble_eq_true rfl) (ls := [some (VR 145), some (VL s), none, some (VL p), none, none, none]) rfl (fun μ => ?_)
  have hm := mul_bd (A := 3000000000) (B := 3000000001) (show 0 ≤ p by omega) hp.2 (show 0 ≤ p + 1 by omega) (by omega)
  have hpos : 0 ≤ p * (p + 1) / 2 := by omega
  have hR : R64 (p * (p + 1) / 2 - s) := by unfold R64; omega
  have second : ∀ (G1 : Wd), FM [42] [] [168, 169] G G1 → fitsM G1 (L ++ fitA s p) → V κ MX12_fitsOf (rmD d 0 0) (fun v Ω' => v = none ∧ ∃ G', Ω' = Wm G' ∧ FM [42] [] [168, 169] G G' ∧ fitsM G' (L ++ (fitA s p ++ fitB s p))) noX 0 0 μ 0 0 (Wm G1) 62 [some (VR 145), some (VL s), none, some (VL p), none, some (VL (p * (p + 1) / 2 - s)), none] [] := fun G1 f1 a1 => by
    have hlen : (L ++ fitA s p).length < 6 := by have := fitA_le s p; simp; omega
    have hlen2 := a1.1
    refine V_ex sX12_fitsOf_62 (by rfl) (by rw [tm_nn (by omega)]; exact ⟨⟨by unfold R64; omega, by unfold R64; omega, by decide⟩, by unfold R64; omega, by unfold R64; omega⟩) ?_
    rw [tm_nn (by omega)]
    refine V_lifne dX12_fitsOf_69 (tgt := 89) (by decide) (fun q69 => ?_) (fun q69 => ?_)
    · refine V_vret dX12_fitsOf_89 rfl (by decide) ⟨rfl, G1, rfl, f1, by rw [fitB, if_neg (by omega)]; simpa using a1⟩
    · refine V_ex sX12_fitsOf_72 (by rfl) (by first | exact trivial | exact Or.inr rfl | exact Or.inl rfl | (simp only [ob, obA, R32, R64] at *; omega) | (simp only [ob, obA, R32, R64] at *; and_intros <;> omega)) ?_
      refine V_lifne dX12_fitsOf_76 (tgt := 89) (by decide) (fun q76 => ?_) (fun q76 => ?_)
      · refine V_vret dX12_fitsOf_89 rfl (by decide) ⟨rfl, G1, rfl, f1, by rw [fitB, if_neg (by omega)]; simpa using a1⟩
      · refine V_ex sX12_fitsOf_79 (by rfl) (by exact ⟨by unfold R64; omega, by unfold R64; omega, by decide⟩) ?_
        rw [td_nn (by omega)]
        refine V_callV (M := MX12_fitsOf) (N := MX12_fit) dX12_fitsOf_86 lRX12_439 kX12_fit rfl (rfl) rfl (c_mfit (d := 0) hκ (by omega)) rfl rfl (Nat.le_of_ble_eq_true rfl) (fit_rm (by omega)) (⟨Nat.le_of_ble_eq_true rfl, Nat.le_of_ble_eq_true rfl⟩) (fun v Ω' hp => ?_) (fun _ _ h => h.elim)
        obtain ⟨rfl, rfl⟩ := hp
        refine V_vret dX12_fitsOf_89 rfl (by decide) ⟨rfl, _, rfl, (((f1.b (by decide)).b (by decide)).s (by decide)), by rw [fitB, if_pos (by omega), ← List.append_assoc]; exact fitsM_add a1 hlen⟩
  have no : ¬ (3 ≤ p * (p + 1) / 2 - s ∧ (p * (p + 1) / 2 - s) % 4 = 3 ∧ (p * (p + 1) / 2 - s - 3) / 4 < p / 2) → V κ MX12_fitsOf (rmD d 0 0) (fun v Ω' => v = none ∧ ∃ G', Ω' = Wm G' ∧ FM [42] [] [168, 169] G G' ∧ fitsM G' (L ++ (fitA s p ++ fitB s p))) noX 0 0 μ 0 0 (Wm G) 62 [some (VR 145), some (VL s), none, some (VL p), none, some (VL (p * (p + 1) / 2 - s)), none] [] := fun h => second G (FM.refl _ _ _ _) (by rw [fitA, if_neg h]; simpa using hL)
  have hl1 := hL.1
  refine V_ex sX12_fitsOf_0 (by rfl) (by first | exact trivial | exact Or.inr rfl | exact Or.inl rfl | (simp only [ob, obA, R32, R64] at *; omega) | (simp only [ob, obA, R32, R64] at *; and_intros <;> omega)) ?_
  refine V_callS (M := MX12_fitsOf) (N := MX12_upTo) dX12_fitsOf_1 lRX12_431 kX12_upTo rfl (c_mupTo (d := 0) hκ (by omega)) rfl rfl (Nat.le_of_ble_eq_true rfl) (fit_rm (by omega)) (⟨Nat.le_of_ble_eq_true rfl, Nat.le_of_ble_eq_true rfl⟩) (fun v Ω' hp => ?_) (fun _ _ h => h.elim)
  obtain ⟨rfl, rfl⟩ := hp
  refine V_ex sX12_fitsOf_4 (by rfl) (by first | exact trivial | exact Or.inr rfl | exact Or.inl rfl | (simp only [ob, obA, R32, R64] at *; omega) | (simp only [ob, obA, R32, R64] at *; and_intros <;> omega)) ?_
  refine V_lifle dX12_fitsOf_12 (tgt := 62) (by decide) (fun q12 => ?_) (fun q12 => ?_)
  · exact no (by omega)
  · refine V_ex sX12_fitsOf_15 (by rfl) (by rw [tm_nn (by omega)]; exact ⟨⟨hR, by unfold R64; omega, by decide⟩, by unfold R64; omega, by unfold R64; omega⟩) ?_
    rw [tm_nn (by omega)]
    refine V_lifne dX12_fitsOf_25 (tgt := 62) (by decide) (fun q25 => ?_) (fun q25 => ?_)
    · exact no (by omega)
    · refine V_ex sX12_fitsOf_28 (by rfl) (by rw [td_nn (by omega), td_nn (by omega)]; exact ⟨⟨by unfold R64; omega, by unfold R64; omega, by decide⟩, ⟨by unfold R64; omega, by unfold R64; omega, by decide⟩, by unfold R64; omega, by unfold R64; omega⟩) ?_
      rw [td_nn (by omega), td_nn (by omega)]
      refine V_lifge dX12_fitsOf_44 (tgt := 62) (by decide) (fun q44 => ?_) (fun q44 => ?_)
      · exact no (by omega)
      · refine V_ex sX12_fitsOf_47 (by rfl) (by exact ⟨by unfold R64; omega, by unfold R64; omega, by decide⟩) ?_
        rw [td_nn (by omega)]
        refine V_callV (M := MX12_fitsOf) (N := MX12_fit) dX12_fitsOf_59 lRX12_439 kX12_fit rfl (rfl) rfl (c_mfit (d := 0) hκ (by omega)) rfl rfl (Nat.le_of_ble_eq_true rfl) (fit_rm (by omega)) (⟨Nat.le_of_ble_eq_true rfl, Nat.le_of_ble_eq_true rfl⟩) (fun v Ω' hp => ?_) (fun _ _ h => h.elim)
        obtain ⟨rfl, rfl⟩ := hp
        exact second _ (((FM.refl _ _ _ _).b (by decide)).b (by decide) |>.s (by decide)) (by rw [fitA, if_pos (by omega)]; exact fitsM_add hL (by omega))
theorem isMost_uni {s r r' : Int} (h : isMost s r) (h' : isMost s r') : r = r' := by
  obtain ⟨a0, a1, a2, a3⟩ := h
  obtain ⟨b0, b1, b2, b3⟩ := h'
  rcases Int.lt_trichotomy r r' with c | c | c
  · have := Int.mul_le_mul (show r + 1 ≤ r' by omega) (show r + 2 ≤ r' + 1 by omega) (by omega) b0; omega
  · exact c
  · have := Int.mul_le_mul (show r' + 1 ≤ r by omega) (show r' + 2 ≤ r + 1 by omega) (by omega) a0; omega
noncomputable def theR (s : Int) : Int := Classical.epsilon (isMost s)
theorem theR_eq {s r : Int} (h : isMost s r) : theR s = r := isMost_uni (Classical.epsilon_spec ⟨r, h⟩) h
noncomputable def fitL (s : Int) : List (Int × Int) := fitA s (theR s + 1) ++ fitB s (theR s + 1) ++ fitA s (theR s + 2) ++ fitB s (theR s + 2)
theorem mul_succ_even (x : Int) : x * (x + 1) % 2 = 0 := by
  rcases (show x % 2 = 0 ∨ x % 2 = 1 by omega) with h | h
  · obtain ⟨m, rfl⟩ : ∃ m, x = 2 * m := ⟨x / 2, by omega⟩
    rw [Int.mul_assoc]; omega
  · obtain ⟨m, rfl⟩ : ∃ m, x = 2 * m + 1 := ⟨x / 2, by omega⟩
    rw [show (2 * m + 1) * (2 * m + 1 + 1) = 2 * ((2 * m + 1) * (m + 1)) by grind]; omega
theorem mul_even2 (x : Int) : (x + 1) * (x + 2) % 2 = 0 := by
  have := mul_succ_even (x + 1)
  rwa [show x + 1 + 1 = x + 2 by omega] at this
theorem fit_far {s r : Int} (h : isMost s r) : fitA s (r + 3) = [] ∧ fitB s (r + 3) = [] := by
  obtain ⟨a0, a1, a2, a3⟩ := h
  have e1 : (r + 3) * (r + 3 + 1) = (r + 1) * (r + 2) + 4 * r + 10 := by grind
  have hev := mul_even2 r
  constructor
  · rw [fitA, if_neg (by rw [e1]; omega)]
  · rw [fitB, if_neg (by rw [e1]; omega)]
theorem fitL_len (s : Int) : (fitL s).length ≤ 4 := by
  have h1 := fitA_le s (theR s + 1)
  have h2 := fitB_le s (theR s + 1)
  have h3 := fitA_le s (theR s + 2)
  have h4 := fitB_le s (theR s + 2)
  simp [fitL]; omega
set_option maxRecDepth 100000 in
set_option maxHeartbeats 4000000 in
theorem c_mtellFits {κ : Kx} (hκ : KOK κ) {d : Nat} {s : Int} {G : Wd} (hs : 1 ≤ s ∧ s ≤ 1000000000000000000) (hd : 2 ≤ d) : Ct κ MX12_tellFits d 0 0 [VR 145, VL s] (Wm G) (fun v Ω' => v = none ∧ ∃ G', Ω' = Wm G' ∧ FM [42] [] [168, 169] G G' ∧ isMost s (theR s) ∧ fitsM G' (fitL s)) noX := by
  refine Ct_of hκ kX12_tellFits.1 rfl (Nat.le_of_ble_eq_true rfl) (ls := [some (VR 145), some (VL s), none, none, none, none]) rfl (fun μ => ?_)
  have f0 : FM [42] [] [168, 169] G (uI G 145 42 0) := (FM.refl _ _ _ _).s (by decide)
  have a0 : fitsM (uI G 145 42 0) [] := ⟨by simp [upd2_eq], by simp, fun j h => by simp at h⟩
  refine V_ex sX12_tellFits_0 (by simp only [Option.toList, List.cons_append, List.nil_append, exN, ex1, gI, gL, gR, pI, pL, pR, lget, lset1, lset2, kl, b2I, b2L, nob, ob32, ob64, xGet, xPut, xLen, xLd, xLdR, xSt, obA, true_and, and_true, and_self, eq_self, Nat.reduceEqDiff, Nat.zero_ne_one, reduceIte, Nat.reduceLeDiff, and_false, false_and, show skd 11 42 = 0 from rfl, show LF.1 145 = some (.inl 11) from rfl]; rfl) (by first | exact trivial | exact Or.inl trivial | exact Or.inr rfl | exact Or.inl rfl) ?_
  refine V_callS (M := MX12_tellFits) (N := MX12_root) dX12_tellFits_11 lRX12_443 kX12_root rfl (c_mroot (d := 0) hκ (v := 2 * s) (by omega)) rfl rfl (Nat.le_of_ble_eq_true rfl) (fit_rm (by omega)) (⟨Nat.le_of_ble_eq_true rfl, Nat.le_of_ble_eq_true rfl⟩) (fun v Ω' hp => ?_) (fun _ _ h => h.elim)
  obtain ⟨q, ⟨q0, q1, q2, q3⟩, rfl, rfl⟩ := hp
  -- the greatest number of pages that stays within s
  have hr : ∃ r, isMost s r := by
    have h2 : q * (q + 1) ≤ 2 * s ∨ 2 * s < q * (q + 1) := by omega
    have q1b : q < 1500000000 := by
      rcases Int.lt_or_le q 1500000000 with h | h
      · exact h
      · have := sq_mono (by decide) h; omega
    have e : (q + 1) * (q + 1) = q * (q + 1) + (q + 1) := by grind
    have e2 : (q + 1) * (q + 2) = (q + 1) * (q + 1) + (q + 1) := by grind
    have e3 : (q - 1) * (q - 1 + 1) = q * q - q := by grind
    rcases h2 with h | h
    · exact ⟨q, q0, by omega, h, by omega⟩
    · have q1 : 1 ≤ q := by
        rcases Int.lt_or_le q 1 with h1 | h1
        · have : q = 0 := by omega
          subst this; omega
        · exact h1
      exact ⟨q - 1, by omega, by omega, by omega, by rw [show q - 1 + 1 = q by omega, show q - 1 + 2 = q + 1 by omega]; exact h⟩
  obtain ⟨r, hr⟩ := hr
  have eR := theR_eq hr
  rw [← eR] at hr
  have hr2 := hr
  obtain ⟨r0, r1, r2, r3⟩ := hr2
  have hqr : q ≤ theR s + 1 := by
    rcases Int.lt_or_le (theR s + 1) q with h | h
    · have := Int.mul_le_mul (show theR s + 1 ≤ q by omega) (show theR s + 2 ≤ q by omega) (by omega) q0; omega
    · exact h
  have hfar := fit_far hr
  have fin : ∀ (k : Nat) (G1 : Wd) (ii : Int), ii = 3 - (k : Int) → k ≤ 3 → FM [42] [] [168, 169] G G1 → fitsM G1 (if k = 3 then [] else if k = 2 then fitA s (theR s + 1) ++ fitB s (theR s + 1) else fitL s) → V κ MX12_tellFits (rmD d 0 0) (fun v Ω' => v = none ∧ ∃ G', Ω' = Wm G' ∧ FM [42] [] [168, 169] G G' ∧ isMost s (theR s) ∧ fitsM G' (fitL s)) noX 0 0 μ 0 0 (Wm G1) 41 [some (VR 145), some (VL s), none, some (VL (theR s + 1)), none, some (VI ii)] [] := by
    intro k
    induction k with
    | zero =>
      intro G1 ii hi hk f1 a1
      refine V_ex sX12_tellFits_41 (by rfl) (by first | exact trivial | exact Or.inr rfl | exact Or.inl rfl | (simp only [ob, obA, R32, R64] at *; omega) | (simp only [ob, obA, R32, R64] at *; and_intros <;> omega)) ?_
      refine V_icmpge dX12_tellFits_44 (tgt := 63) (by decide) (by simp only [R32, R64] at *; omega) (fun q44 => ?_) (fun q44 => ?_)
      · refine V_vret dX12_tellFits_63 rfl (by decide) ⟨rfl, G1, rfl, f1, hr, by simpa using a1⟩
      · omega
    | succ k ih =>
      intro G1 ii hi hk f1 a1
      have hl := fitL_len s
      have hA1 := fitA_le s (theR s + 1)
      have hB1 := fitB_le s (theR s + 1)
      have h4 : (if k + 1 = 3 then [] else if k + 1 = 2 then fitA s (theR s + 1) ++ fitB s (theR s + 1) else fitL s).length ≤ 4 := by
        split
        · simp
        · split
          · simp; omega
          · exact hl
      refine V_ex sX12_tellFits_41 (by rfl) (by first | exact trivial | exact Or.inr rfl | exact Or.inl rfl | (simp only [ob, obA, R32, R64] at *; omega) | (simp only [ob, obA, R32, R64] at *; and_intros <;> omega)) ?_
      refine V_icmpge dX12_tellFits_44 (tgt := 63) (by decide) (by simp only [R32, R64] at *; omega) (fun q44 => ?_) (fun q44 => ?_)
      · omega
      · refine V_ex sX12_tellFits_47 (by rfl) (by first | exact trivial | exact Or.inr rfl | exact Or.inl rfl | (simp only [ob, obA, R32, R64] at *; omega) | (simp only [ob, obA, R32, R64] at *; and_intros <;> omega)) ?_
        refine V_callV (M := MX12_tellFits) (N := MX12_fitsOf) dX12_tellFits_54 lRX12_449 kX12_fitsOf rfl (rfl) rfl (c_mfitsOf (d := 1) hκ a1 h4 hs (by omega) (by omega)) rfl rfl (Nat.le_of_ble_eq_true rfl) (fit_rm (by omega)) (⟨Nat.le_of_ble_eq_true rfl, Nat.le_of_ble_eq_true rfl⟩) (fun v Ω' hp => ?_) (fun _ _ h => h.elim)
        obtain ⟨rfl, G2, rfl, f2, a2⟩ := hp
        refine V_ex sX12_tellFits_57 (by rfl) (by first | exact trivial | exact Or.inr rfl | exact Or.inl rfl | (simp only [ob, obA, R32, R64] at *; omega) | (simp only [ob, obA, R32, R64] at *; and_intros <;> omega)) ?_
        refine V_goto dX12_tellFits_60 (tgt := 41) (by decide) ?_
        refine ih G2 _ (by omega) (by omega) (f1.trans f2) ?_
        rcases (show k = 0 ∨ k = 1 ∨ k = 2 by omega) with rfl | rfl | rfl
        · simpa [show theR s + 1 + ii = theR s + 3 by omega, hfar.1, hfar.2] using a2
        · simpa [show theR s + 1 + ii = theR s + 2 by omega, fitL] using a2
        · simpa [show theR s + 1 + ii = theR s + 1 by omega] using a2
  have climb : ∀ (n : Nat) (p : Int), 1 ≤ p → p + n = theR s + 1 → V κ MX12_tellFits (rmD d 0 0) (fun v Ω' => v = none ∧ ∃ G', Ω' = Wm G' ∧ FM [42] [] [168, 169] G G' ∧ isMost s (theR s) ∧ fitsM G' (fitL s)) noX 0 0 μ 0 0 (Wm (uI G 145 42 0)) 22 [some (VR 145), some (VL s), none, some (VL p), none, none] [] := by
    intro n
    induction n with
    | zero =>
      intro p h1 hp2
      obtain rfl : p = theR s + 1 := by omega
      have e2 : (theR s + 1) * (theR s + 1 + 1) = (theR s + 1) * (theR s + 2) := by rw [Int.add_assoc]; rfl
      have e3 : (theR s + 1) * (theR s + 2) = theR s * (theR s + 1) + 2 * theR s + 2 := by grind
      have hev := mul_even2 (theR s)
      refine V_ex sX12_tellFits_22 (by rfl) (by first | exact trivial | exact Or.inr rfl | exact Or.inl rfl | (simp only [ob, obA, R32, R64] at *; omega) | (simp only [ob, obA, R32, R64] at *; and_intros <;> omega)) ?_
      refine V_callS (M := MX12_tellFits) (N := MX12_upTo) dX12_tellFits_23 lRX12_431 kX12_upTo rfl (c_mupTo (d := 0) hκ (by omega)) rfl rfl (Nat.le_of_ble_eq_true rfl) (fit_rm (by omega)) (⟨Nat.le_of_ble_eq_true rfl, Nat.le_of_ble_eq_true rfl⟩) (fun v Ω' hp => ?_) (fun _ _ h => h.elim)
      obtain ⟨rfl, rfl⟩ := hp
      refine V_ex sX12_tellFits_26 (by rfl) (by exact ⟨by unfold R64; rw [e2]; omega, by unfold R64; omega⟩) ?_
      refine V_lifgt dX12_tellFits_28 (tgt := 38) (by decide) (fun q28 => ?_) (fun q28 => ?_)
      · refine V_ex sX12_tellFits_38 (by rfl) (by first | exact trivial | exact Or.inr rfl | exact Or.inl rfl | (simp only [ob, obA, R32, R64] at *; omega) | (simp only [ob, obA, R32, R64] at *; and_intros <;> omega)) ?_
        exact fin 3 _ 0 rfl (by omega) f0 (by simpa using a0)
      · rw [e2] at q28; omega
    | succ n ih =>
      intro p h1 hp2
      have h3 := Int.mul_le_mul (show p ≤ theR s by omega) (show p + 1 ≤ theR s + 1 by omega) (by omega) r0
      have h4 : 0 ≤ p * (p + 1) := Int.mul_nonneg (by omega) (by omega)
      refine V_ex sX12_tellFits_22 (by rfl) (by first | exact trivial | exact Or.inr rfl | exact Or.inl rfl | (simp only [ob, obA, R32, R64] at *; omega) | (simp only [ob, obA, R32, R64] at *; and_intros <;> omega)) ?_
      refine V_callS (M := MX12_tellFits) (N := MX12_upTo) dX12_tellFits_23 lRX12_431 kX12_upTo rfl (c_mupTo (d := 0) hκ (by omega)) rfl rfl (Nat.le_of_ble_eq_true rfl) (fit_rm (by omega)) (⟨Nat.le_of_ble_eq_true rfl, Nat.le_of_ble_eq_true rfl⟩) (fun v Ω' hp => ?_) (fun _ _ h => h.elim)
      obtain ⟨rfl, rfl⟩ := hp
      refine V_ex sX12_tellFits_26 (by rfl) (by exact ⟨by unfold R64; omega, by unfold R64; omega⟩) ?_
      refine V_lifgt dX12_tellFits_28 (tgt := 38) (by decide) (fun q28 => ?_) (fun q28 => ?_)
      · omega
      · refine V_ex sX12_tellFits_31 (by rfl) (by first | exact trivial | exact Or.inr rfl | exact Or.inl rfl | (simp only [ob, obA, R32, R64] at *; omega) | (simp only [ob, obA, R32, R64] at *; and_intros <;> omega)) ?_
        refine V_goto dX12_tellFits_35 (tgt := 22) (by decide) ?_
        exact ih (p + 1) (by omega) (by omega)
  refine V_ex sX12_tellFits_14 (by rfl) (by first | exact trivial | exact Or.inr rfl | exact Or.inl rfl | (simp only [ob, obA, R32, R64] at *; omega) | (simp only [ob, obA, R32, R64] at *; and_intros <;> omega)) ?_
  refine V_mmaxl (M := MX12_tellFits) dX12_tellFits_18 lRX12_446 (by unfold R64; omega) (Nat.le_of_ble_eq_true rfl) (fit_rm (by omega)) ⟨Nat.le_refl _, Nat.le_refl _⟩ ?_
  refine V_ex sX12_tellFits_21 (by rfl) (by first | exact trivial | exact Or.inr rfl | exact Or.inl rfl | (simp only [ob, obA, R32, R64] at *; omega) | (simp only [ob, obA, R32, R64] at *; and_intros <;> omega)) ?_
  by_cases hc : q - 2 < 1
  · rw [if_pos hc]; exact climb (theR s).toNat _ (by omega) (by omega)
  · rw [if_neg hc]; exact climb (theR s + 1 - (q - 2)).toNat _ (by omega) (by omega)
