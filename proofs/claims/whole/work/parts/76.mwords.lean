/-! THE MODEL's reader: words, marks, numbers, signs -/
theorem wdEq_same {f : Nat → Int} : ∀ (t t' : List Int) (p : Nat), t.length = t'.length → wdEq f p t = true → wdEq f p t' = true → t = t' := by
  intro t
  induction t with
  | nil => intro t' p h _ _; cases t' with
    | nil => rfl
    | cons a r => simp at h
  | cons a r ih =>
    intro t' p h h1 h2
    cases t' with
    | nil => simp at h
    | cons b s =>
      rw [wdEq, Bool.and_eq_true, decide_eq_true_eq] at h1 h2
      rw [← h1.1, ← h2.1, ih s (p + 1) (by simpa using h) h1.2 h2.2]
theorem wd_same {f : Nat → Int} {p e : Nat} {t t' : List Int} (h : isWd f p e t = true) (h' : isWd f p e t' = true) : t = t' := by
  unfold isWd at h h'
  rw [Bool.and_eq_true, decide_eq_true_eq] at h h'
  exact wdEq_same t t' p (by have := h.1; have := h'.1; omega) h.2 h'.2
theorem wfind_hit {f : Nat → Int} {p e : Nat} : ∀ (l : List (List Int)) (n : Int) (k : Nat), k < l.length → l.Nodup → (isWd f p e (l.getD k []) = true ↔ wfind f p e l n = n + (k : Nat)) := by
  intro l
  induction l with
  | nil => intro n k h; simp at h
  | cons t r ih =>
    intro n k h hn
    rw [List.nodup_cons] at hn
    rw [wfind]
    cases k with
    | zero =>
      show isWd f p e t = true ↔ _
      by_cases c : isWd f p e t = true
      · rw [if_pos c]; simp [c]
      · rw [if_neg c]
        have := (wfind_R f p e r (n + 1)).1
        constructor
        · intro q; exact absurd q c
        · intro q; omega
    | succ k =>
      have hk : k < r.length := by simpa using h
      have e1 : (t :: r).getD (k + 1) [] = r.getD k [] := rfl
      rw [e1]
      by_cases c : isWd f p e t = true
      · rw [if_pos c]
        constructor
        · intro q
          have := wd_same c q
          exact absurd (by rw [this]; exact getD_mem hk) hn.1
        · intro q; omega
      · rw [if_neg c, ih (n + 1) k hk hn.2]
        constructor <;> intro q <;> omega
theorem wordT_nd : wordT.Nodup := by decide
/-- a token of a text -/
def tkF (f : Nat → Int) (n : Nat) (t : Tk) : Prop := t = (-1, 0, n, n) ∨ ∃ q, q < n ∧ isBl (f q) = false ∧ t = tokAt f n q
theorem tkF_mem {f : Nat → Int} {n : Nat} : ∀ (k p : Nat), n - p ≤ k → ∀ t ∈ tk f n p, tkF f n t := by
  intro k
  induction k with
  | zero => intro p h t ht; rw [tk_end f n p (by omega)] at ht; exact Or.inl (List.mem_singleton.mp ht)
  | succ k ih =>
    intro p h t ht
    rcases Nat.lt_or_ge p n with c | c
    · cases hb : isBl (f p) with
      | true => rw [tk_blank c hb] at ht; exact ih (p + 1) (by omega) t ht
      | false =>
        rw [tk_tok c hb] at ht
        have h1 := tokAt_end (f := f) c
        rcases List.mem_cons.mp ht with q | q
        · exact Or.inr ⟨p, c, hb, q⟩
        · exact ih _ (by omega) t q
    · rw [tk_end f n p c] at ht; exact Or.inl (List.mem_singleton.mp ht)
/-- what a token of a text is -/
theorem tkF_is {f : Nat → Int} {n : Nat} (hf : ∀ j, j < n → 0 ≤ f j ∧ f j ≤ 255) {t : Tk} (h : tkF f n t) : t.2.2.1 ≤ t.2.2.2 ∧ t.2.2.2 ≤ n ∧ -2 ≤ t.1 ∧ t.1 ≤ 274 ∧ (256 ≤ t.1 → t.1 = wfind f t.2.2.1 t.2.2.2 wordT 256) ∧ (0 ≤ t.1 → t.1 < 256 → t.2.2.1 < n ∧ f t.2.2.1 = t.1) ∧ (t.1 = -2 → (t.2.2.2 ≤ t.2.2.1 + 4 ↔ t.2.1 ≤ 9999)) ∧ (0 ≤ t.2.1 ∧ t.2.1 ≤ 10000) ∧ (t.1 ≠ -1 → t.2.2.1 < t.2.2.2) := by
  rcases h with rfl | ⟨q, hq, hb, rfl⟩
  · simp
  · have ok := tokAt_ok hf hq
    have te := tokAt_end (f := f) hq
    obtain ⟨o1, o2, o3, o4, o5⟩ := ok
    have hfq := hf q hq
    have e : (tokAt f n q).2.2.1 = q := by unfold tokAt; split; rfl; split <;> rfl
    refine ⟨by omega, o5, by omega, by omega, fun h => ?_, fun h h' => ?_, fun h => ?_, o1, fun _ => o4⟩
    · rw [e]
      unfold tokAt at h ⊢
      split
      · rfl
      · rename_i c
        rw [if_neg c] at h
        split at h
        · exact absurd h (by dsimp only; decide)
        · dsimp only at h; omega
    · rw [e]
      refine ⟨hq, ?_⟩
      unfold tokAt at h h' ⊢
      split
      · rename_i c
        rw [if_pos c] at h'
        have := (wfind_R f q (runB isLb f (n - q) q) wordT 256).1
        dsimp only at h'; omega
      · rename_i c
        rw [if_neg c] at h h'
        split
        · rename_i c2
          rw [if_pos c2] at h
          exact absurd h (by dsimp only; decide)
        · rfl
    · unfold tokAt at h ⊢
      split
      · rename_i c
        rw [if_pos c] at h
        have := (wfind_R f q (runB isLb f (n - q) q) wordT 256).1
        dsimp only at h; omega
      · rename_i c
        rw [if_neg c] at h
        split
        · rename_i c2
          dsimp only
          have hv := valC_R (f := f) (p := q) (runB isDb f (n - q) q - q) (fun j hj => runB_all isDb f (n - q) q (q + j) (by omega) (by omega))
          have hle := runB_le isDb f (n - q) q
          omega
        · rename_i c2
          rw [if_neg c2] at h
          dsimp only at h; omega
def cantW (G : Wd) (k : Int) : Wd := if G.1 145 26 = 0 then uI (uI G 145 26 k) 145 27 (G.1 145 24) else G
set_option maxRecDepth 100000 in
set_option maxHeartbeats 4000000 in
theorem c_mCant {κ : Kx} (hκ : KOK κ) {d : Nat} {k : Int} {G : Wd} (hb : R32 (G.1 145 26)) : Ct κ MX12_cant d 0 0 [VR 145, VI k] (Wm G) (voidG (cantW G k)) noX := by
  refine Ct_of hκ kX12_cant.1 rfl (Nat.le_of_ble_eq_true rfl) (ls := [some (VR 145), some (VI k)]) rfl (fun μ => ?_)
  have e : upd2 G.1 145 26 k 145 24 = G.1 145 24 := iv (G := G) (z := k) (a := 145) (k := 26) (b := 145) (j := 24) (by omega)
  refine V_ex sX12_cant_0 (by simp only [Option.toList, List.cons_append, List.nil_append, exN, ex1, gI, gL, gR, pI, pL, pR, lget, lset1, lset2, kl, b2I, b2L, nob, ob32, ob64, xGet, xPut, xLen, xLd, xLdR, xSt, obA, true_and, and_true, and_self, eq_self, Nat.reduceEqDiff, Nat.zero_ne_one, reduceIte, Nat.reduceLeDiff, and_false, false_and, show skd 11 26 = 0 from rfl, show LF.1 145 = some (.inl 11) from rfl, upd2_eq, Int.reduceToNat, Int.toNat_natCast]; rfl) (by first | exact trivial | exact Or.inr rfl | exact Or.inl rfl | (simp only [ob, obA, R32, R64] at *; omega) | (simp only [ob, obA, R32, R64] at *; and_intros <;> omega)) ?_
  refine V_ifeq dX12_cant_4 (tgt := 8) (by decide) (by exact hb) (fun q4 => ?_) (fun q4 => ?_)
  · refine V_ex sX12_cant_8 (by simp only [Option.toList, List.cons_append, List.nil_append, exN, ex1, gI, gL, gR, pI, pL, pR, lget, lset1, lset2, kl, b2I, b2L, nob, ob32, ob64, xGet, xPut, xLen, xLd, xLdR, xSt, obA, true_and, and_true, and_self, eq_self, Nat.reduceEqDiff, Nat.zero_ne_one, reduceIte, Nat.reduceLeDiff, and_false, false_and, show skd 11 26 = 0 from rfl, show skd 11 24 = 0 from rfl, show skd 11 27 = 0 from rfl, show LF.1 145 = some (.inl 11) from rfl, e, upd2_eq, Int.reduceToNat, Int.toNat_natCast]; rfl) (by first | exact trivial | exact Or.inr rfl | exact Or.inl rfl | (simp only [ob, obA, R32, R64] at *; omega) | (simp only [ob, obA, R32, R64] at *; and_intros <;> omega)) ?_
    refine V_vret dX12_cant_21 rfl (by decide) ⟨rfl, by rw [cantW, if_pos (by omega)]⟩
  · refine V_vret dX12_cant_7 rfl (by decide) ⟨rfl, by rw [cantW, if_neg q4]⟩
set_option maxRecDepth 100000 in
set_option maxHeartbeats 4000000 in
theorem c_mLay0 {κ : Kx} (hκ : KOK κ) {d : Nat} {z : Int} {G : Wd} (hb : G.1 145 26 ≠ 0) (hbR : R32 (G.1 145 26)) : Ct κ MX12_lay d 0 0 [VR 145, VI z] (Wm G) (voidG G) noX := by
  refine Ct_of hκ kX12_lay.1 rfl (Nat.le_of_ble_eq_true rfl) (ls := [some (VR 145), some (VI z)]) rfl (fun μ => ?_)
  refine V_ex sX12_lay_0 (by simp only [Option.toList, List.cons_append, List.nil_append, exN, ex1, gI, gL, gR, pI, pL, pR, lget, lset1, lset2, kl, b2I, b2L, nob, ob32, ob64, xGet, xPut, xLen, xLd, xLdR, xSt, obA, true_and, and_true, and_self, eq_self, Nat.reduceEqDiff, Nat.zero_ne_one, reduceIte, Nat.reduceLeDiff, and_false, false_and, show skd 11 26 = 0 from rfl, show LF.1 145 = some (.inl 11) from rfl, upd2_eq, Int.reduceToNat, Int.toNat_natCast]; rfl) (by first | exact trivial | exact Or.inr rfl | exact Or.inl rfl | (simp only [ob, obA, R32, R64] at *; omega) | (simp only [ob, obA, R32, R64] at *; and_intros <;> omega)) ?_
  refine V_ifeq dX12_lay_4 (tgt := 8) (by decide) (by exact hbR) (fun q4 => ?_) (fun q4 => ?_)
  · omega
  · refine V_vret dX12_lay_7 rfl (by decide) ⟨rfl, rfl⟩
set_option maxRecDepth 100000 in
set_option maxHeartbeats 4000000 in
theorem c_mLay {κ : Kx} (hκ : KOK κ) {d m : Nat} {z : Int} {G : Wd} (hb : G.1 145 26 = 0) (hm : G.1 145 23 = (m : Nat)) (hm5 : m < 500) : Ct κ MX12_lay d 0 0 [VR 145, VI z] (Wm G) (voidG (uI (uI G 160 (500 + m) z) 145 23 ((m : Int) + 1))) noX := by
  refine Ct_of hκ kX12_lay.1 rfl (Nat.le_of_ble_eq_true rfl) (ls := [some (VR 145), some (VI z)]) rfl (fun μ => ?_)
  have e : upd2 G.1 160 (500 + m) z 145 23 = (m : Nat) := (iv (G := G) (z := z) (a := 160) (k := 500 + m) (b := 145) (j := 23) (by omega)).trans hm
  have et : ((500 : Int) + (m : Nat)).toNat = 500 + m := by omega
  refine V_ex sX12_lay_0 (by simp only [Option.toList, List.cons_append, List.nil_append, exN, ex1, gI, gL, gR, pI, pL, pR, lget, lset1, lset2, kl, b2I, b2L, nob, ob32, ob64, xGet, xPut, xLen, xLd, xLdR, xSt, obA, true_and, and_true, and_self, eq_self, Nat.reduceEqDiff, Nat.zero_ne_one, reduceIte, Nat.reduceLeDiff, and_false, false_and, show skd 11 26 = 0 from rfl, show LF.1 145 = some (.inl 11) from rfl, hb, upd2_eq, Int.reduceToNat, Int.toNat_natCast]; rfl) (by first | exact trivial | exact Or.inr rfl | exact Or.inl rfl | (simp only [ob, obA, R32, R64] at *; omega) | (simp only [ob, obA, R32, R64] at *; and_intros <;> omega)) ?_
  refine V_ifeq dX12_lay_4 (tgt := 8) (by decide) (by simp only [R32, R64] at *; omega) (fun q4 => ?_) (fun q4 => ?_)
  · refine V_ex sX12_lay_8 (by simp only [Option.toList, List.cons_append, List.nil_append, exN, ex1, gI, gL, gR, pI, pL, pR, lget, lset1, lset2, kl, b2I, b2L, nob, ob32, ob64, xGet, xPut, xLen, xLd, xLdR, xSt, obA, true_and, and_true, and_self, eq_self, Nat.reduceEqDiff, Nat.zero_ne_one, reduceIte, Nat.reduceLeDiff, and_false, false_and, show skd 11 15 = 2 from rfl, show skd 11 23 = 0 from rfl, show LF.1 145 = some (.inl 11) from rfl, show LF.2 145 15 = some 160 from rfl, show LF.1 160 = some (.inr (0, 1000)) from rfl, hm, et, e, upd2_eq, Int.reduceToNat, Int.toNat_natCast]; rfl) (by first | exact trivial | exact Or.inr rfl | exact Or.inl rfl | (simp only [ob, obA, R32, R64] at *; omega) | (simp only [ob, obA, R32, R64] at *; and_intros <;> omega)) ?_
    refine V_vret dX12_lay_32 rfl (by decide) ⟨rfl, rfl⟩
  · exact absurd rfl q4
set_option maxRecDepth 100000 in
set_option maxHeartbeats 4000000 in
theorem c_mIs0 {κ : Kx} (hκ : KOK κ) {d q : Nat} {G : Wd} (hb : G.1 145 26 ≠ 0) (hbR : R32 (G.1 145 26)) : Ct κ MX12_is d 0 0 [VR 145, VR q] (Wm G) (keepG G (VI 0)) noX := by
  refine Ct_of hκ kX12_is.1 rfl (Nat.le_of_ble_eq_true rfl) (ls := [some (VR 145), some (VR q), none, none]) rfl (fun μ => ?_)
  refine V_ex sX12_is_0 (by simp only [Option.toList, List.cons_append, List.nil_append, exN, ex1, gI, gL, gR, pI, pL, pR, lget, lset1, lset2, kl, b2I, b2L, nob, ob32, ob64, xGet, xPut, xLen, xLd, xLdR, xSt, obA, true_and, and_true, and_self, eq_self, Nat.reduceEqDiff, Nat.zero_ne_one, reduceIte, Nat.reduceLeDiff, and_false, false_and, show skd 11 26 = 0 from rfl, show LF.1 145 = some (.inl 11) from rfl, upd2_eq, Int.reduceToNat, Int.toNat_natCast]; rfl) (by first | exact trivial | exact Or.inr rfl | exact Or.inl rfl | (simp only [ob, obA, R32, R64] at *; omega) | (simp only [ob, obA, R32, R64] at *; and_intros <;> omega)) ?_
  refine V_ifne dX12_is_4 (tgt := 35) (by decide) (by exact hbR) (fun q4 => ?_) (fun q4 => ?_)
  · refine V_ex sX12_is_35 (by rfl) (by first | exact trivial | exact Or.inr rfl | exact Or.inl rfl | (simp only [ob, obA, R32, R64] at *; omega) | (simp only [ob, obA, R32, R64] at *; and_intros <;> omega)) ?_
    refine V_ex sX12_is_36 (by rfl) (by first | exact trivial | exact Or.inr rfl | exact Or.inl rfl | (simp only [ob, obA, R32, R64] at *; omega) | (simp only [ob, obA, R32, R64] at *; and_intros <;> omega)) ?_
    refine V_ex sX12_is_39 (by rfl) (by first | exact trivial | exact Or.inr rfl | exact Or.inl rfl | (simp only [ob, obA, R32, R64] at *; omega) | (simp only [ob, obA, R32, R64] at *; and_intros <;> omega)) ?_
    refine V_ifeq dX12_is_40 (tgt := 82) (by decide) (by simp only [R32, R64] at *; omega) (fun q40 => ?_) (fun q40 => ?_)
    · refine V_ex sX12_is_82 (by rfl) (by first | exact trivial | exact Or.inr rfl | exact Or.inl rfl | (simp only [ob, obA, R32, R64] at *; omega) | (simp only [ob, obA, R32, R64] at *; and_intros <;> omega)) ?_
      refine V_zret dX12_is_83 rfl (by first | exact Or.inl rfl | exact Or.inr rfl | exact b2i_01 _) (by decide) ⟨rfl, rfl⟩
    · exact absurd q40 (by decide)
  · omega
