/-! Fits: the books that a sum fits -/
def Fs (A B : List Nat) (G G' : Wd) : Prop := G'.2.2 = G.2.2 ∧ (∀ x, x ∉ A → G'.1 x = G.1 x) ∧ ∀ x, x ∉ B → G'.2.1 x = G.2.1 x
theorem Fs.refl (A B : List Nat) (G : Wd) : Fs A B G G := ⟨rfl, fun _ _ => rfl, fun _ _ => rfl⟩
theorem Fs.trans {A B : List Nat} {G G' G'' : Wd} (h : Fs A B G G') (h' : Fs A B G' G'') : Fs A B G G'' := ⟨h'.1.trans h.1, fun x hx => (h'.2.1 x hx).trans (h.2.1 x hx), fun x hx => (h'.2.2 x hx).trans (h.2.2 x hx)⟩
theorem Fs.updI {A B : List Nat} {G G' : Wd} (h : Fs A B G G') {a k : Nat} {z : Int} (ha : a ∈ A) : Fs A B G (uI G' a k z) := ⟨h.1, fun x hx => (upd2_ne z (fun e => hx (by rw [e]; exact ha))).trans (h.2.1 x hx), h.2.2⟩
theorem Fs.updL {A B : List Nat} {G G' : Wd} (h : Fs A B G G') {a k : Nat} {z : Int} (ha : a ∈ B) : Fs A B G (uL G' a k z) := ⟨h.1, h.2.1, fun x hx => (upd2_ne z (fun e => hx (by rw [e]; exact ha))).trans (h.2.2 x hx)⟩
theorem Fs.mono {A B A' B' : List Nat} {G G' : Wd} (h : Fs A B G G') (hs : ∀ x ∈ A, x ∈ A') (ht : ∀ x ∈ B, x ∈ B') : Fs A' B' G G' := ⟨h.1, fun x hx => h.2.1 x (fun e => hx (hs x e)), fun x hx => h.2.2 x (fun e => hx (ht x e))⟩
theorem Fs.at {A B : List Nat} {G G' : Wd} (h : Fs A B G G') {a : Nat} (ha : a ∉ A) (k : Nat) : G'.1 a k = G.1 a k := congrFun (h.2.1 a ha) k
def fitsAre (G : Wd) (L : List (Int × Int)) : Prop := G.1 130 2 = (L.length : Nat) ∧ L.length ≤ 4 ∧ ∀ j (h : j < L.length), G.2.1 131 j = (L[j]'h).1 ∧ G.2.1 132 j = (L[j]'h).2
set_option maxRecDepth 100000 in
set_option maxHeartbeats 4000000 in
theorem c_fiKeep {κ : Kx} (hκ : KOK κ) {d : Nat} {p l : Int} {L : List (Int × Int)} {G : Wd} (hL : fitsAre G L) (h4 : L.length < 4) : Ct κ MX4_keep d 0 0 [VR 130, VL p, VL l] (Wm G) (fun v Ω' => v = none ∧ ∃ G', Ω' = Wm G' ∧ Fs [130] [131, 132] G G' ∧ fitsAre G' (L ++ [(p, l)])) noX := by
  refine Ct_of hκ kX4_keep.1 rfl (Nat.le_of_ble_eq_true rfl) (ls := [some (VR 130), some (VL p), none, some (VL l), none]) rfl (fun μ => ?_)
  obtain ⟨h1, h2, h3⟩ := hL
  refine V_ex sX4_keep_0 (by simp only [Option.toList, List.cons_append, List.nil_append, exN, ex1, gI, gL, gR, pI, pL, pR, lget, lset1, lset2, kl, b2I, b2L, nob, ob32, ob64, xGet, xPut, xLen, xLd, xLdR, xSt, obA, true_and, and_true, and_self, eq_self, Nat.reduceEqDiff, Nat.zero_ne_one, reduceIte, Nat.reduceLeDiff, and_false, false_and, show skd 3 2 = 0 from rfl, show LF.1 130 = some (.inl 3) from rfl, h1]; rfl) (by first | exact trivial | exact Or.inl trivial | exact Or.inr rfl | exact Or.inl rfl) ?_
  refine V_iflt dX4_keep_4 (tgt := 61) (by decide) (by unfold R32; omega) (fun q => ?_) (fun q => ?_)
  · omega
  · refine V_ex sX4_keep_7 (by simp only [Option.toList, List.cons_append, List.nil_append, exN, ex1, gI, gL, gR, pI, pL, pR, lget, lset1, lset2, kl, b2I, b2L, nob, ob32, ob64, xGet, xPut, xLen, xLd, xLdR, xSt, obA, true_and, and_true, and_self, eq_self, Nat.reduceEqDiff, Nat.zero_ne_one, reduceIte, Nat.reduceLeDiff, and_false, false_and, show skd 3 2 = 0 from rfl, show skd 3 0 = 2 from rfl, show LF.1 130 = some (.inl 3) from rfl, show LF.2 130 0 = some 131 from rfl, show LF.1 131 = some (.inr (1, 4)) from rfl, h1]; rfl) (by first | exact trivial | exact Or.inl trivial | exact Or.inr rfl | exact Or.inl rfl) ?_
    refine V_icmpge dX4_keep_16 (tgt := 61) (by decide) (by unfold R32; constructor <;> omega) (fun q2 => ?_) (fun q2 => ?_)
    · omega
    · refine V_ex sX4_keep_19 (by simp only [Option.toList, List.cons_append, List.nil_append, exN, ex1, gI, gL, gR, pI, pL, pR, lget, lset1, lset2, kl, b2I, b2L, nob, ob32, ob64, xGet, xPut, xLen, xLd, xLdR, xSt, obA, true_and, and_true, and_self, eq_self, Nat.reduceEqDiff, Nat.zero_ne_one, reduceIte, Nat.reduceLeDiff, and_false, false_and, show skd 3 2 = 0 from rfl, show skd 3 1 = 2 from rfl, show LF.1 130 = some (.inl 3) from rfl, show LF.2 130 1 = some 132 from rfl, show LF.1 132 = some (.inr (1, 4)) from rfl, h1]; rfl) (by first | exact trivial | exact Or.inl trivial | exact Or.inr rfl | exact Or.inl rfl) ?_
      refine V_icmpge dX4_keep_28 (tgt := 61) (by decide) (by unfold R32; constructor <;> omega) (fun q3 => ?_) (fun q3 => ?_)
      · omega
      · refine V_ex sX4_keep_31 (by simp only [Option.toList, List.cons_append, List.nil_append, exN, ex1, gI, gL, gR, pI, pL, pR, lget, lset1, lset2, kl, b2I, b2L, nob, ob32, ob64, xGet, xPut, xLen, xLd, xLdR, xSt, obA, true_and, and_true, and_self, eq_self, Nat.reduceEqDiff, Nat.zero_ne_one, reduceIte, Nat.reduceLeDiff, and_false, false_and, show skd 3 0 = 2 from rfl, show skd 3 2 = 0 from rfl, show skd 3 1 = 2 from rfl, show LF.1 130 = some (.inl 3) from rfl, show LF.2 130 0 = some 131 from rfl, show LF.2 130 1 = some 132 from rfl, show LF.1 131 = some (.inr (1, 4)) from rfl, show LF.1 132 = some (.inr (1, 4)) from rfl, h1, Int.toNat_natCast]; rfl) (by show _ ∧ _; omega) ?_
        refine V_vret dX4_keep_61 rfl (by decide) ⟨rfl, _, rfl, (((Fs.refl _ _ G).updL (a := 131) (by decide)).updL (a := 132) (by decide)).updI (by decide), ?_⟩
        refine ⟨by simp [upd2_eq], by simp; omega, fun j hj => ?_⟩
        simp only [List.length_append, List.length_singleton] at hj
        by_cases hjl : j < L.length
        · rw [List.getElem_append_left hjl]
          simp only [upd2_eq]
          rw [if_neg (by omega), if_neg (by omega), if_neg (by omega), if_neg (by omega)]
          exact h3 j hjl
        · obtain rfl : j = L.length := by omega
          simp [upd2_eq]
set_option maxRecDepth 100000 in
set_option maxHeartbeats 4000000 in
theorem c_fiLeafAt {κ : Kx} (hκ : KOK κ) {d : Nat} {i : Nat} {L : List (Int × Int)} {G : Wd} (hL : fitsAre G L) (hi : i < L.length) : Ct κ MX4_leafAt d 0 0 [VR 130, VI (i : Nat)] (Wm G) (keepG G (VL (L[i]'hi).2)) noX := by
  refine Ct_of hκ kX4_leafAt.1 rfl (Nat.le_of_ble_eq_true rfl) (ls := [some (VR 130), some (VI (i : Nat))]) rfl (fun μ => ?_)
  obtain ⟨h1, h2, h3⟩ := hL
  refine V_ex sX4_leafAt_0 (by rfl) (by first | exact trivial | exact Or.inl trivial | exact Or.inr rfl | exact Or.inl rfl) ?_
  refine V_iflt dX4_leafAt_1 (tgt := 22) (by decide) (by unfold R32; omega) (fun q => ?_) (fun q => ?_)
  · omega
  · refine V_ex sX4_leafAt_4 (by simp only [Option.toList, List.cons_append, List.nil_append, exN, ex1, gI, gL, gR, pI, pL, pR, lget, lset1, lset2, kl, b2I, b2L, nob, ob32, ob64, xGet, xPut, xLen, xLd, xLdR, xSt, obA, true_and, and_true, and_self, eq_self, Nat.reduceEqDiff, Nat.zero_ne_one, reduceIte, Nat.reduceLeDiff, and_false, false_and, show skd 3 1 = 2 from rfl, show LF.1 130 = some (.inl 3) from rfl, show LF.2 130 1 = some 132 from rfl, show LF.1 132 = some (.inr (1, 4)) from rfl]; rfl) (by first | exact trivial | exact Or.inl trivial | exact Or.inr rfl | exact Or.inl rfl) ?_
    refine V_icmpge dX4_leafAt_10 (tgt := 22) (by decide) (by unfold R32; constructor <;> omega) (fun q2 => ?_) (fun q2 => ?_)
    · omega
    · refine V_ex sX4_leafAt_13 (by simp only [Option.toList, List.cons_append, List.nil_append, exN, ex1, gI, gL, gR, pI, pL, pR, lget, lset1, lset2, kl, b2I, b2L, nob, ob32, ob64, xGet, xPut, xLen, xLd, xLdR, xSt, obA, true_and, and_true, and_self, eq_self, Nat.reduceEqDiff, Nat.zero_ne_one, reduceIte, Nat.reduceLeDiff, and_false, false_and, show skd 3 1 = 2 from rfl, show LF.1 130 = some (.inl 3) from rfl, show LF.2 130 1 = some 132 from rfl, show LF.1 132 = some (.inr (1, 4)) from rfl, Int.toNat_natCast]; rfl) (by exact ⟨by omega, by omega⟩) ?_
      refine V_goto dX4_leafAt_19 (tgt := 23) (by decide) ?_
      refine V_lret dX4_leafAt_23 rfl (by decide) ⟨by rw [(h3 i hi).2], rfl⟩
set_option maxRecDepth 100000 in
set_option maxHeartbeats 4000000 in
theorem c_fiPagesAt {κ : Kx} (hκ : KOK κ) {d : Nat} {i : Nat} {L : List (Int × Int)} {G : Wd} (hL : fitsAre G L) (hi : i < L.length) : Ct κ MX4_pagesAt d 0 0 [VR 130, VI (i : Nat)] (Wm G) (keepG G (VL (L[i]'hi).1)) noX := by
  refine Ct_of hκ kX4_pagesAt.1 rfl (Nat.le_of_ble_eq_true rfl) (ls := [some (VR 130), some (VI (i : Nat))]) rfl (fun μ => ?_)
  obtain ⟨h1, h2, h3⟩ := hL
  refine V_ex sX4_pagesAt_0 (by rfl) (by first | exact trivial | exact Or.inl trivial | exact Or.inr rfl | exact Or.inl rfl) ?_
  refine V_iflt dX4_pagesAt_1 (tgt := 22) (by decide) (by unfold R32; omega) (fun q => ?_) (fun q => ?_)
  · omega
  · refine V_ex sX4_pagesAt_4 (by simp only [Option.toList, List.cons_append, List.nil_append, exN, ex1, gI, gL, gR, pI, pL, pR, lget, lset1, lset2, kl, b2I, b2L, nob, ob32, ob64, xGet, xPut, xLen, xLd, xLdR, xSt, obA, true_and, and_true, and_self, eq_self, Nat.reduceEqDiff, Nat.zero_ne_one, reduceIte, Nat.reduceLeDiff, and_false, false_and, show skd 3 0 = 2 from rfl, show LF.1 130 = some (.inl 3) from rfl, show LF.2 130 0 = some 131 from rfl, show LF.1 131 = some (.inr (1, 4)) from rfl]; rfl) (by first | exact trivial | exact Or.inl trivial | exact Or.inr rfl | exact Or.inl rfl) ?_
    refine V_icmpge dX4_pagesAt_10 (tgt := 22) (by decide) (by unfold R32; constructor <;> omega) (fun q2 => ?_) (fun q2 => ?_)
    · omega
    · refine V_ex sX4_pagesAt_13 (by simp only [Option.toList, List.cons_append, List.nil_append, exN, ex1, gI, gL, gR, pI, pL, pR, lget, lset1, lset2, kl, b2I, b2L, nob, ob32, ob64, xGet, xPut, xLen, xLd, xLdR, xSt, obA, true_and, and_true, and_self, eq_self, Nat.reduceEqDiff, Nat.zero_ne_one, reduceIte, Nat.reduceLeDiff, and_false, false_and, show skd 3 0 = 2 from rfl, show LF.1 130 = some (.inl 3) from rfl, show LF.2 130 0 = some 131 from rfl, show LF.1 131 = some (.inr (1, 4)) from rfl, Int.toNat_natCast]; rfl) (by exact ⟨by omega, by omega⟩) ?_
      refine V_goto dX4_pagesAt_19 (tgt := 23) (by decide) ?_
      refine V_lret dX4_pagesAt_23 rfl (by decide) ⟨by rw [(h3 i hi).1], rfl⟩
/-- the books of p pages that a sum s fits -/
def fitA (s p : Int) : List (Int × Int) := if 3 ≤ p * (p + 1) / 2 - s ∧ (p * (p + 1) / 2 - s) % 4 = 3 ∧ (p * (p + 1) / 2 - s - 3) / 4 < p / 2 then [(p, (p * (p + 1) / 2 - s - 3) / 4)] else []
def fitB (s p : Int) : List (Int × Int) := if p % 2 = 1 ∧ p * (p + 1) / 2 - s = p then [(p, p / 2)] else []
theorem fitA_len (s p : Int) : (fitA s p).length ≤ 1 := by unfold fitA; split <;> simp
theorem fitB_len (s p : Int) : (fitB s p).length ≤ 1 := by unfold fitB; split <;> simp
set_option maxRecDepth 100000 in
set_option maxHeartbeats 4000000 in
theorem c_findWith {κ : Kx} (hκ : KOK κ) {d : Nat} {s p : Int} {L : List (Int × Int)} {G : Wd} (hL : fitsAre G L) (h4 : L.length ≤ 2) (hs : 0 ≤ s ∧ s ≤ 1000000000000000000) (hp : 0 ≤ p ∧ p ≤ 2000000000) (hd : 1 ≤ d) : Ct κ MX4_findWith d 0 0 [VR 130, VL s, VL p] (Wm G) (fun v Ω' => v = none ∧ ∃ G', Ω' = Wm G' ∧ Fs [130] [131, 132] G G' ∧ fitsAre G' (L ++ fitA s p ++ fitB s p)) noX := by
  refine Ct_of hκ kX4_findWith.1 rfl (Nat.le_of_ble_eq_true rfl) (ls := [some (VR 130), some (VL s), none, some (VL p), none, none, none]) rfl (fun μ => ?_)
  have hpp : 0 ≤ p * (p + 1) ∧ p * (p + 1) ≤ 2000000000 * 2000000001 := mul_bd hp.1 hp.2 (by omega) (by omega)
  have hR : R64 (p * (p + 1)) := by unfold R64; omega
  generalize hq : p * (p + 1) = P at *
  have eA : fitA s p = if 3 ≤ P / 2 - s ∧ (P / 2 - s) % 4 = 3 ∧ (P / 2 - s - 3) / 4 < p / 2 then [(p, (P / 2 - s - 3) / 4)] else [] := by rw [fitA, hq]
  have eB : fitB s p = if p % 2 = 1 ∧ P / 2 - s = p then [(p, p / 2)] else [] := by rw [fitB, hq]
  have second : ∀ (G1 : Wd), Fs [130] [131, 132] G G1 → fitsAre G1 (L ++ fitA s p) → V κ MX4_findWith (rmD d 0 0) (fun v Ω' => v = none ∧ ∃ G', Ω' = Wm G' ∧ Fs [130] [131, 132] G G' ∧ fitsAre G' (L ++ fitA s p ++ fitB s p)) noX 0 0 μ 0 0 (Wm G1) 69 [some (VR 130), some (VL s), none, some (VL p), none, some (VL (P / 2 - s)), none] [] := fun G1 f1 a1 => by
    have hlen : (L ++ fitA s p).length < 4 := by have := fitA_len s p; rw [List.length_append]; omega
    refine V_ex sX4_findWith_69 (by rfl) (by rw [tm_nn hp.1]; exact ⟨⟨by unfold R64; omega, by unfold R64; omega, by decide⟩, by unfold R64; omega, by unfold R64; omega⟩) ?_
    rw [tm_nn hp.1]
    refine V_lifne dX4_findWith_76 (tgt := 96) (by decide) (fun q => ?_) (fun q => ?_)
    · refine V_vret dX4_findWith_96 rfl (by decide) ⟨rfl, G1, rfl, f1, by rw [eB, if_neg (fun h => q h.1), List.append_nil]; exact a1⟩
    · refine V_ex sX4_findWith_79 (by rfl) (by exact ⟨by unfold R64; omega, by unfold R64; omega⟩) ?_
      refine V_lifne dX4_findWith_83 (tgt := 96) (by decide) (fun q2 => ?_) (fun q2 => ?_)
      · refine V_vret dX4_findWith_96 rfl (by decide) ⟨rfl, G1, rfl, f1, by rw [eB, if_neg (fun h => q2 h.2), List.append_nil]; exact a1⟩
      · refine V_ex sX4_findWith_86 (by rfl) (by exact ⟨by unfold R64; omega, by unfold R64; omega, by decide⟩) ?_
        rw [td_nn hp.1]
        refine V_callV (M := MX4_findWith) (N := MX4_keep) (As := [VL p, VL (p / 2)]) (rest := []) dX4_findWith_93 lRX4_38 kX4_keep rfl (rfl) rfl (c_fiKeep (d := 0) hκ a1 hlen) rfl rfl (Nat.le_of_ble_eq_true rfl) (fit_rm (by omega)) (⟨Nat.le_refl _, Nat.le_refl _⟩) (fun v Ω' hp2 => ?_) (fun _ _ h => h.elim)
        obtain ⟨rfl, G2, rfl, f2, a2⟩ := hp2
        refine V_vret dX4_findWith_96 rfl (by decide) ⟨rfl, G2, rfl, f1.trans f2, by rw [eB, if_pos ⟨by omega, by omega⟩]; exact a2⟩
  have none1 : ¬ (3 ≤ P / 2 - s ∧ (P / 2 - s) % 4 = 3 ∧ (P / 2 - s - 3) / 4 < p / 2) → V κ MX4_findWith (rmD d 0 0) (fun v Ω' => v = none ∧ ∃ G', Ω' = Wm G' ∧ Fs [130] [131, 132] G G' ∧ fitsAre G' (L ++ fitA s p ++ fitB s p)) noX 0 0 μ 0 0 (Wm G) 69 [some (VR 130), some (VL s), none, some (VL p), none, some (VL (P / 2 - s)), none] [] := fun h => second G (Fs.refl _ _ _) (by rw [eA, if_neg h, List.append_nil]; exact hL)
  refine V_ex sX4_findWith_0 (by rfl) (by rw [hq, td_nn hpp.1]; exact ⟨⟨hR, by unfold R64; omega, by decide⟩, by unfold R64; omega, by unfold R64; omega⟩) ?_
  rw [hq, td_nn hpp.1]
  refine V_liflt dX4_findWith_19 (tgt := 69) (by decide) (fun q => ?_) (fun q => ?_)
  · exact none1 (by omega)
  · refine V_ex sX4_findWith_22 (by rfl) (by rw [tm_nn (by omega)]; exact ⟨⟨by unfold R64; omega, by unfold R64; omega, by decide⟩, by unfold R64; omega, by unfold R64; omega⟩) ?_
    rw [tm_nn (by omega)]
    refine V_lifne dX4_findWith_32 (tgt := 69) (by decide) (fun q2 => ?_) (fun q2 => ?_)
    · exact none1 (by omega)
    · refine V_ex sX4_findWith_35 (by rfl) (by rw [td_nn (by omega), td_nn hp.1]; exact ⟨⟨by unfold R64; omega, by unfold R64; omega, by decide⟩, ⟨by unfold R64; omega, by unfold R64; omega, by decide⟩, by unfold R64; omega, by unfold R64; omega⟩) ?_
      rw [td_nn (by omega), td_nn hp.1]
      refine V_lifge dX4_findWith_51 (tgt := 69) (by decide) (fun q3 => ?_) (fun q3 => ?_)
      · exact none1 (by omega)
      · refine V_ex sX4_findWith_54 (by rfl) (by exact ⟨by unfold R64; omega, by unfold R64; omega, by decide⟩) ?_
        rw [td_nn (by omega)]
        refine V_callV (M := MX4_findWith) (N := MX4_keep) (As := [VL p, VL ((P / 2 - s - 3) / 4)]) (rest := []) dX4_findWith_66 lRX4_38 kX4_keep rfl (rfl) rfl (c_fiKeep (d := 0) hκ hL (by omega)) rfl rfl (Nat.le_of_ble_eq_true rfl) (fit_rm (by omega)) (⟨Nat.le_refl _, Nat.le_refl _⟩) (fun v Ω' hp2 => ?_) (fun _ _ h => h.elim)
        obtain ⟨rfl, G2, rfl, f2, a2⟩ := hp2
        exact second G2 f2 (by rw [eA, if_pos ⟨by omega, by omega, by omega⟩]; exact a2)
/-- r pages are the most that stay within s -/
def isMost (s r : Int) : Prop := 0 ≤ r ∧ r < 2000000000 ∧ r * (r + 1) ≤ 2 * s ∧ 2 * s < (r + 1) * (r + 2)
set_option maxRecDepth 100000 in
set_option maxHeartbeats 4000000 in
theorem c_find {κ : Kx} (hκ : KOK κ) {d : Nat} {s : Int} {G : Wd} (hs : 1 ≤ s ∧ s ≤ 1000000000000000000) (hd : 2 ≤ d) : Ct κ MX4_find d 0 0 [VR 130, VL s] (Wm G) (fun v Ω' => v = none ∧ ∃ G' r, Ω' = Wm G' ∧ Fs [130] [131, 132] G G' ∧ isMost s r ∧ fitsAre G' (fitA s (r + 1) ++ fitB s (r + 1) ++ fitA s (r + 2) ++ fitB s (r + 2))) noX := by
  refine Ct_of hκ kX4_find.1 rfl (Nat.le_of_ble_eq_true rfl) (ls := [some (VR 130), some (VL s), none, none, none]) rfl (fun μ => ?_)
  refine V_ex sX4_find_0 (by simp only [Option.toList, List.cons_append, List.nil_append, exN, ex1, gI, gL, gR, pI, pL, pR, lget, lset1, lset2, kl, b2I, b2L, nob, ob32, ob64, xGet, xPut, xLen, xLd, xLdR, xSt, obA, true_and, and_true, and_self, eq_self, Nat.reduceEqDiff, Nat.zero_ne_one, reduceIte, Nat.reduceLeDiff, and_false, false_and, show skd 3 2 = 0 from rfl, show LF.1 130 = some (.inl 3) from rfl]; rfl) (by first | exact trivial | exact Or.inl trivial | exact Or.inr rfl | exact Or.inl rfl) ?_
  have f0 : Fs [130] [131, 132] G (uI G 130 2 0) := (Fs.refl _ _ _).updI (by decide)
  have a0 : fitsAre (uI G 130 2 0) [] := ⟨by simp [upd2_eq], by simp, fun j h => by simp at h⟩
  refine V_callS (M := MX4_find) (N := MX10_largest) (As := [VI 1, VI 1, VI 0, VL (2 * s)]) (rest := []) dX4_find_13 lRX4_24 kX10_largest rfl (c_largest (d := 1) hκ (a := 1) (b := 1) (c := 0) (s := 2 * s) (by unfold R32; omega) (by unfold R32; omega) (by unfold R32; omega) (by unfold R64; omega) (fun x h0 h1 => by have := mul_bd (x := 1 * x + 1) (y := x) (A := 2000000001) (B := 2000000000) (by omega) (by omega) h0 h1; unfold R64; omega) (by omega) (by omega)) rfl rfl (Nat.le_of_ble_eq_true rfl) (fit_rm (by omega)) (⟨Nat.le_refl _, Nat.le_refl _⟩) (fun v Ω' hp => ?_) (fun _ _ h => h.elim)
  obtain ⟨r, ⟨r0, r1, r2, r3⟩, rfl, rfl⟩ := hp
  have e1 : (1 * r + 1) * r = r * (r + 1) := by rw [Int.one_mul, Int.mul_comm]
  have e2 : (1 * (r + 1) + 1) * (r + 1) = (r + 1) * (r + 2) := by rw [Int.one_mul, Int.mul_comm, Int.add_assoc]; rfl
  have hr : isMost s r := ⟨r0, r1, by omega, by omega⟩
  have rb : r < 1500000000 := by
    rcases Int.lt_or_le r 1500000000 with h | h
    · exact h
    · have := Int.mul_le_mul h (show (1500000000 : Int) ≤ r + 1 by omega) (by decide) r0; omega
  refine V_ex sX4_find_16 (by rfl) (by first | exact trivial | exact Or.inl trivial | exact Or.inr rfl | exact Or.inl rfl) ?_
  refine V_callV (M := MX4_find) (N := MX4_findWith) (As := [VL s, VL (r + 1)]) (rest := []) dX4_find_22 lRX4_30 kX4_findWith rfl (rfl) rfl (c_findWith (d := 1) hκ a0 (by simp) ⟨by omega, hs.2⟩ (p := r + 1) (by omega) (by omega)) rfl rfl (Nat.le_of_ble_eq_true rfl) (fit_rm (by omega)) (⟨Nat.le_refl _, Nat.le_refl _⟩) (fun v Ω' hp2 => ?_) (fun _ _ h => h.elim)
  obtain ⟨rfl, G1, rfl, f1, a1⟩ := hp2
  refine V_ex sX4_find_25 (by rfl) (by first | exact trivial | exact Or.inl trivial | exact Or.inr rfl | exact Or.inl rfl) ?_
  refine V_callV (M := MX4_find) (N := MX4_findWith) (As := [VL s, VL (r + 2)]) (rest := []) dX4_find_32 lRX4_30 kX4_findWith rfl (rfl) rfl (c_findWith (d := 1) hκ a1 (by have := fitA_len s (r + 1); have := fitB_len s (r + 1); simp; omega) ⟨by omega, hs.2⟩ (p := r + 2) (by omega) (by omega)) rfl rfl (Nat.le_of_ble_eq_true rfl) (fit_rm (by omega)) (⟨Nat.le_refl _, Nat.le_refl _⟩) (fun v Ω' hp2 => ?_) (fun _ _ h => h.elim)
  obtain ⟨rfl, G2, rfl, f2, a2⟩ := hp2
  refine V_vret dX4_find_35 rfl (by decide) ⟨rfl, G2, r, rfl, (f0.trans f1).trans f2, hr, by simpa using a2⟩
/-- what figure f of the fit (p, l) is written; 11: its leaves -/
def sayF (f : Int) (q : Int × Int) : Int := if f = 11 then (q.1 + 1) / 2 else prC f q.1 18 1 - dgc f 19 (2 * q.2 + 1) - (if 2 * q.2 + 1 < q.1 then dgc f 19 (2 * q.2 + 1 + 1) else 0)
theorem pAt_R {f last pw : Int} (hf : 0 ≤ f) (hp : 1 ≤ pw) (hl : pw ≤ last) : 0 ≤ pAt f last pw ∧ pAt f last pw ≤ 2 * last + 1 := by
  have h1 := Int.mul_ediv_add_emod last pw
  have h2 := Int.emod_nonneg last (show pw ≠ 0 by omega)
  have h3 := Int.emod_lt_of_pos last (show 0 < pw by omega)
  have h4 : 1 ≤ last / pw := (Int.le_ediv_iff_mul_le (by omega)).mpr (by omega)
  unfold pAt
  generalize last / pw = a at *
  generalize last % pw = m at *
  have h5 : a = 10 * (a / 10) + a % 10 := by omega
  have h6 : 0 ≤ a / 10 := by omega
  have h7 : 0 ≤ a % 10 := by omega
  generalize a / 10 = h at *
  generalize a % 10 = dd at *
  have hX : 0 ≤ h * pw := Int.mul_nonneg h6 (by omega)
  have hY : 0 ≤ dd * pw := Int.mul_nonneg h7 (by omega)
  have e1 : pw * a = 10 * (h * pw) + dd * pw := by rw [h5, Int.mul_comm, Int.add_mul, Int.mul_assoc]
  have e2 : (h - 0 + 1) * pw = h * pw + pw := by rw [Int.sub_zero, Int.add_mul, Int.one_mul]
  have e3 : (h - 1 + 1) * pw = h * pw := by rw [Int.sub_add_cancel]
  have e4 : (h - 0) * pw = h * pw := by rw [Int.sub_zero]
  have e5 : (h - 1) * pw = h * pw - pw := by rw [Int.sub_mul, Int.one_mul]
  have e6 : 1 ≤ h → pw ≤ h * pw := fun hh => by have := Int.mul_le_mul_of_nonneg_right hh (show 0 ≤ pw by omega); omega
  by_cases f0 : f = 0
  · simp only [f0, if_true]
    split
    · rw [e3]; omega
    · split
      · rw [e5]; have := e6 (by omega); omega
      · omega
  · simp only [f0, if_false]
    split
    · rw [e2]; omega
    · rw [e4]; split <;> omega
theorem prC_R {f last : Int} (hf : 0 ≤ f) (hl : 0 ≤ last) : ∀ (k : Nat) (pw : Int), 1 ≤ pw → 0 ≤ prC f last k pw ∧ prC f last k pw ≤ k * (2 * last + 1) := by
  intro k
  induction k with
  | zero => intro pw _; simp [prC]
  | succ k ih =>
    intro pw hp
    have h1 := ih (pw * 10) (by omega)
    have h2 : ((k + 1 : Nat) : Int) * (2 * last + 1) = k * (2 * last + 1) + (2 * last + 1) := by rw [Int.natCast_add, Int.add_mul]; simp
    rw [prC]
    split
    · have : 0 ≤ (k : Int) * (2 * last + 1) := Int.mul_nonneg (by omega) (by omega)
      omega
    · unfold prT
      split
      · omega
      · have := pAt_R hf hp (show pw ≤ last by omega)
        omega
theorem sayF_R {f : Int} {q : Int × Int} (hf : 0 ≤ f ∧ f ≤ 11) (hp : 0 ≤ q.1 ∧ q.1 ≤ 2000000000) (hl : 0 ≤ q.2 ∧ q.2 ≤ 2000000000) : R64 (sayF f q) := by
  have hg := prC_R hf.1 hp.1 18 1 (by omega)
  have hd1 := dgc_nn f 19 (2 * q.2 + 1)
  have hd2 := dgc_nn f 19 (2 * q.2 + 1 + 1)
  unfold sayF R64
  split
  · omega
  · split <;> omega
set_option maxRecDepth 100000 in
set_option maxHeartbeats 4000000 in
theorem c_fiSaying {κ : Kx} (hκ : KOK κ) {d : Nat} {i : Nat} {f : Int} {L : List (Int × Int)} {G : Wd} (hL : fitsAre G L) (hi : i < L.length) (hf : 0 ≤ f ∧ f ≤ 11) (hp : 0 ≤ (L[i]'hi).1 ∧ (L[i]'hi).1 ≤ 2000000000) (hl : 0 ≤ (L[i]'hi).2 ∧ (L[i]'hi).2 ≤ 2000000000) (hd : 2 ≤ d) : Ct κ MX4_saying d 0 0 [VR 130, VI (i : Nat), VI f] (Wm G) (keepG G (VL (sayF f (L[i]'hi)))) noX := by
  refine Ct_of hκ kX4_saying.1 rfl (Nat.le_of_ble_eq_true rfl) (ls := [some (VR 130), some (VI (i : Nat)), some (VI f), none, none, none, none, none, none]) rfl (fun μ => ?_)
  refine V_ex sX4_saying_0 (by rfl) (by first | exact trivial | exact Or.inl trivial | exact Or.inr rfl | exact Or.inl rfl) ?_
  refine V_callV (M := MX4_saying) (N := MX4_pagesAt) (As := [VI (i : Nat)]) (rest := []) dX4_saying_2 lRX4_41 kX4_pagesAt rfl (rfl) rfl (c_fiPagesAt (d := 0) hκ hL hi) rfl rfl (Nat.le_of_ble_eq_true rfl) (fit_rm (by omega)) (⟨Nat.le_refl _, Nat.le_refl _⟩) (fun v Ω' hp2 => ?_) (fun _ _ h => h.elim)
  obtain ⟨rfl, rfl⟩ := hp2
  have hfR : R32 f := by unfold R32; omega
  generalize hq : L[i]'hi = q at *
  have hd1 := dgc_nn f 19 (2 * q.2 + 1)
  have hd2 := dgc_nn f 19 (2 * q.2 + 1 + 1)
  refine V_ex sX4_saying_5 (by rfl) (by first | exact trivial | exact Or.inl trivial | exact Or.inr rfl | exact Or.inl rfl) ?_
  refine V_icmpne dX4_saying_9 (tgt := 20) (by decide) (by exact ⟨hfR, by unfold R32; omega⟩) (fun q2 => ?_) (fun q2 => ?_)
  · refine V_ex sX4_saying_20 (by rfl) (by first | exact trivial | exact Or.inl trivial | exact Or.inr rfl | exact Or.inl rfl) ?_
    refine V_callV (M := MX4_saying) (N := MX4_leafAt) (As := [VI (i : Nat)]) (rest := [VL 2]) dX4_saying_25 lRX4_45 kX4_leafAt rfl (rfl) rfl (c_fiLeafAt (d := 0) hκ hL hi) rfl rfl (Nat.le_of_ble_eq_true rfl) (fit_rm (by omega)) (⟨Nat.le_refl _, Nat.le_refl _⟩) (fun v Ω' hp2 => ?_) (fun _ _ h => h.elim)
    obtain ⟨rfl, rfl⟩ := hp2
    rw [hq]
    refine V_ex sX4_saying_28 (by rfl) (by first | exact trivial | exact Or.inl trivial | exact Or.inr rfl | exact Or.inl rfl) ?_
    refine V_callS (M := MX4_saying) (N := MX3_printed) (As := [VI f, VL q.1]) (rest := []) dX4_saying_35 lRX4_48 kX3_printed rfl (c_printed (d := 1) hκ hfR hp.1 (by unfold R64; omega) (by omega)) rfl rfl (Nat.le_of_ble_eq_true rfl) (fit_rm (by omega)) (⟨Nat.le_refl _, Nat.le_refl _⟩) (fun v Ω' hp => ?_) (fun _ _ h => h.elim)
    obtain ⟨rfl, rfl⟩ := hp
    refine V_ex sX4_saying_38 (by rfl) (by first | exact trivial | exact Or.inl trivial | exact Or.inr rfl | exact Or.inl rfl) ?_
    refine V_callS (M := MX4_saying) (N := MX3_inNumber) (As := [VI f, VL (2 * q.2 + 1)]) (rest := [VL (prC f q.1 18 1)]) dX4_saying_41 lRX4_54 kX3_inNumber rfl (c_inNumber (d := 1) hκ hfR (n := 2 * q.2 + 1) (by unfold R64; omega)) rfl rfl (Nat.le_of_ble_eq_true rfl) (fit_rm (by omega)) (⟨Nat.le_refl _, Nat.le_refl _⟩) (fun v Ω' hp => ?_) (fun _ _ h => h.elim)
    obtain ⟨rfl, rfl⟩ := hp
    refine V_ex sX4_saying_44 (by rfl) (by exact ⟨by unfold R32; omega, by unfold R64; omega, by unfold R64; omega⟩) ?_
    refine V_lifge dX4_saying_52 (tgt := 70) (by decide) (fun q3 => ?_) (fun q3 => ?_)
    · refine V_ex sX4_saying_70 (by rfl) (by first | exact trivial | exact Or.inl trivial | exact Or.inr rfl | exact Or.inl rfl) ?_
      refine V_lret dX4_saying_72 rfl (by decide) ⟨by rw [sayF, if_neg q2, if_neg (by omega)]; simp, rfl⟩
    · refine V_ex sX4_saying_55 (by rfl) (by first | exact trivial | exact Or.inl trivial | exact Or.inr rfl | exact Or.inl rfl) ?_
      refine V_callS (M := MX4_saying) (N := MX3_inNumber) (As := [VI f, VL (2 * q.2 + 1 + 1)]) (rest := [VL (prC f q.1 18 1 - dgc f 19 (2 * q.2 + 1))]) dX4_saying_62 lRX4_54 kX3_inNumber rfl (c_inNumber (d := 1) hκ hfR (n := 2 * q.2 + 1 + 1) (by unfold R64; omega)) rfl rfl (Nat.le_of_ble_eq_true rfl) (fit_rm (by omega)) (⟨Nat.le_refl _, Nat.le_refl _⟩) (fun v Ω' hp => ?_) (fun _ _ h => h.elim)
      obtain ⟨rfl, rfl⟩ := hp
      refine V_ex sX4_saying_65 (by rfl) (by exact (show R32 (dgc f 19 (2 * q.2 + 1 + 1)) by unfold R32; omega)) ?_
      refine V_goto dX4_saying_67 (tgt := 72) (by decide) ?_
      refine V_lret dX4_saying_72 rfl (by decide) ⟨by rw [sayF, if_neg q2, if_pos (by omega)], rfl⟩
  · refine V_ex sX4_saying_12 (by rfl) (by exact ⟨by unfold R64; omega, by unfold R64; omega, by decide⟩) ?_
    rw [td_nn (by omega)]
    refine V_lret dX4_saying_19 rfl (by decide) ⟨by rw [sayF, if_pos q2], rfl⟩
/-- no two fits say the same of f -/
def unlike (f : Int) (L : List (Int × Int)) : Nat → Nat → Bool
  | 0, _ => true
  | k + 1, i => if (List.range i).any (fun j => decide (sayF f (L.getD i (0, 0)) = sayF f (L.getD j (0, 0)))) then false else unlike f L k (i + 1)
set_option maxRecDepth 100000 in
set_option maxHeartbeats 4000000 in
theorem c_areUnlike {κ : Kx} (hκ : KOK κ) {d : Nat} {f : Int} {L : List (Int × Int)} {G : Wd} (hL : fitsAre G L) (hf : 0 ≤ f ∧ f ≤ 11) (hp : ∀ q ∈ L, (0 ≤ q.1 ∧ q.1 ≤ 2000000000) ∧ 0 ≤ q.2 ∧ q.2 ≤ 2000000000) (hd : 3 ≤ d) : Ct κ MX4_areUnlike d 0 0 [VR 130, VI f] (Wm G) (keepG G (VI (b2i (unlike f L (L.length - 1) 1)))) noX := by
  refine Ct_of hκ kX4_areUnlike.1 rfl (Nat.le_of_ble_eq_true rfl) (ls := [some (VR 130), some (VI f), none, none]) rfl (fun μ => ?_)
  refine V_ex sX4_areUnlike_0 (by rfl) (by first | exact trivial | exact Or.inl trivial | exact Or.inr rfl | exact Or.inl rfl) ?_
  have hm : G.1 130 2 = (L.length : Nat) := hL.1
  have h4 := hL.2.1
  have inL : ∀ i, i < L.length → L.getD i (0, 0) ∈ L := fun i h => by rw [List.getD_eq_getElem?_getD, List.getElem?_eq_getElem h]; exact List.getElem_mem h
  suffices L1 : ∀ (k i : Nat) (ii : Int) (x : Option Vl), ii = (i : Int) → 1 ≤ i → i + k = max L.length 1 → unlike f L k i = unlike f L (L.length - 1) 1 → V κ MX4_areUnlike (rmD d 0 0) (keepG G (VI (b2i (unlike f L (L.length - 1) 1)))) noX 0 0 μ 0 0 (Wm G) 2 [some (VR 130), some (VI f), some (VI ii), x] [] from L1 (L.length - 1) 1 1 _ rfl (by omega) (by omega) rfl
  intro k
  induction k with
  | zero =>
    intro i ii x hi h1 hk he
    refine V_ex sX4_areUnlike_2 (by simp only [Option.toList, List.cons_append, List.nil_append, exN, ex1, gI, gL, gR, pI, pL, pR, lget, lset1, lset2, kl, b2I, b2L, nob, ob32, ob64, xGet, xPut, xLen, xLd, xLdR, xSt, obA, true_and, and_true, and_self, eq_self, Nat.reduceEqDiff, Nat.zero_ne_one, reduceIte, Nat.reduceLeDiff, and_false, false_and, show skd 3 2 = 0 from rfl, show LF.1 130 = some (.inl 3) from rfl, hm]; rfl) (by first | exact trivial | exact Or.inl trivial | exact Or.inr rfl | exact Or.inl rfl) ?_
    refine V_icmpge dX4_areUnlike_7 (tgt := 47) (by decide) (by unfold R32; constructor <;> omega) (fun q => ?_) (fun q => ?_)
    · refine V_ex sX4_areUnlike_47 (by rfl) (by first | exact trivial | exact Or.inl trivial | exact Or.inr rfl | exact Or.inl rfl) ?_
      refine V_zret dX4_areUnlike_48 rfl (by first | exact Or.inl rfl | exact Or.inr rfl | exact b2i_01 _) (by decide) ⟨by rw [← he]; rfl, rfl⟩
    · omega
  | succ k ih =>
    intro i ii x hi h1 hk he
    subst hi
    rw [unlike] at he
    refine V_ex sX4_areUnlike_2 (by simp only [Option.toList, List.cons_append, List.nil_append, exN, ex1, gI, gL, gR, pI, pL, pR, lget, lset1, lset2, kl, b2I, b2L, nob, ob32, ob64, xGet, xPut, xLen, xLd, xLdR, xSt, obA, true_and, and_true, and_self, eq_self, Nat.reduceEqDiff, Nat.zero_ne_one, reduceIte, Nat.reduceLeDiff, and_false, false_and, show skd 3 2 = 0 from rfl, show LF.1 130 = some (.inl 3) from rfl, hm]; rfl) (by first | exact trivial | exact Or.inl trivial | exact Or.inr rfl | exact Or.inl rfl) ?_
    refine V_icmpge dX4_areUnlike_7 (tgt := 47) (by decide) (by unfold R32; constructor <;> omega) (fun q => ?_) (fun q => ?_)
    · omega
    · refine V_ex sX4_areUnlike_10 (by rfl) (by first | exact trivial | exact Or.inl trivial | exact Or.inr rfl | exact Or.inl rfl) ?_
      have hiL : i < L.length := by omega
      suffices L2 : ∀ (n j : Nat) (jj : Int), jj = (j : Int) → j + n = i → (∀ m, m < j → ¬ sayF f (L.getD i (0, 0)) = sayF f (L.getD m (0, 0))) → V κ MX4_areUnlike (rmD d 0 0) (keepG G (VI (b2i (unlike f L (L.length - 1) 1)))) noX 0 0 μ 0 0 (Wm G) 12 [some (VR 130), some (VI f), some (VI (i : Nat)), some (VI jj)] [] from L2 i 0 0 rfl (by omega) (fun m h => by omega)
      intro n
      induction n with
      | zero =>
        intro j jj hj hn hne
        refine V_ex sX4_areUnlike_12 (by rfl) (by first | exact trivial | exact Or.inl trivial | exact Or.inr rfl | exact Or.inl rfl) ?_
        refine V_icmpge dX4_areUnlike_14 (tgt := 41) (by decide) (by unfold R32; constructor <;> omega) (fun q2 => ?_) (fun q2 => ?_)
        · refine V_ex sX4_areUnlike_41 (by rfl) (by first | exact trivial | exact Or.inl trivial | exact Or.inr rfl | exact Or.inl rfl) ?_
          refine V_goto dX4_areUnlike_44 (tgt := 2) (by decide) ?_
          refine ih (i + 1) _ _ (by omega) (by omega) (by omega) ?_
          rw [← he, if_neg]
          simp only [List.any_eq_true, List.mem_range, decide_eq_true_eq, not_exists, not_and]
          exact fun m hm => hne m (by omega)
        · omega
      | succ n ihn =>
        intro j jj hj hn hne
        subst hj
        have hjL : j < L.length := by omega
        have gi : L.getD i (0, 0) = L[i]'hiL := by rw [List.getD_eq_getElem?_getD, List.getElem?_eq_getElem hiL]; rfl
        have gj : L.getD j (0, 0) = L[j]'hjL := by rw [List.getD_eq_getElem?_getD, List.getElem?_eq_getElem hjL]; rfl
        have pi := hp _ (List.getElem_mem hiL)
        have pj := hp _ (List.getElem_mem hjL)
        refine V_ex sX4_areUnlike_12 (by rfl) (by first | exact trivial | exact Or.inl trivial | exact Or.inr rfl | exact Or.inl rfl) ?_
        refine V_icmpge dX4_areUnlike_14 (tgt := 41) (by decide) (by unfold R32; constructor <;> omega) (fun q2 => ?_) (fun q2 => ?_)
        · omega
        · refine V_ex sX4_areUnlike_17 (by rfl) (by first | exact trivial | exact Or.inl trivial | exact Or.inr rfl | exact Or.inl rfl) ?_
          refine V_callV (M := MX4_areUnlike) (N := MX4_saying) (As := [VI (i : Nat), VI f]) (rest := []) dX4_areUnlike_20 lRX4_58 kX4_saying rfl (rfl) rfl (c_fiSaying (d := 2) hκ hL hiL hf pi.1 pi.2 (by omega)) rfl rfl (Nat.le_of_ble_eq_true rfl) (fit_rm (by omega)) (⟨Nat.le_refl _, Nat.le_refl _⟩) (fun v Ω' hp2 => ?_) (fun _ _ h => h.elim)
          obtain ⟨rfl, rfl⟩ := hp2
          refine V_ex sX4_areUnlike_23 (by rfl) (by first | exact trivial | exact Or.inl trivial | exact Or.inr rfl | exact Or.inl rfl) ?_
          refine V_callV (M := MX4_areUnlike) (N := MX4_saying) (As := [VI (j : Nat), VI f]) (rest := [VL (sayF f (L[i]'hiL))]) dX4_areUnlike_26 lRX4_58 kX4_saying rfl (rfl) rfl (c_fiSaying (d := 2) hκ hL hjL hf pj.1 pj.2 (by omega)) rfl rfl (Nat.le_of_ble_eq_true rfl) (fit_rm (by omega)) (⟨Nat.le_refl _, Nat.le_refl _⟩) (fun v Ω' hp2 => ?_) (fun _ _ h => h.elim)
          obtain ⟨rfl, rfl⟩ := hp2
          refine V_ex sX4_areUnlike_29 (by rfl) (by exact ⟨sayF_R hf pi.1 pi.2, sayF_R hf pj.1 pj.2⟩) ?_
          refine V_lifne dX4_areUnlike_30 (tgt := 35) (by decide) (fun q3 => ?_) (fun q3 => ?_)
          · refine V_ex sX4_areUnlike_35 (by rfl) (by first | exact trivial | exact Or.inl trivial | exact Or.inr rfl | exact Or.inl rfl) ?_
            refine V_goto dX4_areUnlike_38 (tgt := 12) (by decide) ?_
            refine ihn (j + 1) _ (by omega) (by omega) (fun m hm => ?_)
            by_cases hmj : m = j
            · subst hmj; rw [gi, gj]; exact q3
            · exact hne m (by omega)
          · refine V_ex sX4_areUnlike_33 (by rfl) (by first | exact trivial | exact Or.inl trivial | exact Or.inr rfl | exact Or.inl rfl) ?_
            refine V_zret dX4_areUnlike_34 rfl (by first | exact Or.inl rfl | exact Or.inr rfl | exact b2i_01 _) (by decide) ⟨by rw [← he, if_pos]; rfl; exact List.any_eq_true.mpr ⟨j, List.mem_range.mpr (by omega), by rw [gi, gj]; exact decide_eq_true q3⟩, rfl⟩
