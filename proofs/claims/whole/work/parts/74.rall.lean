/-! ShelfReader: a line, all lines -/
set_option maxRecDepth 100000 in
set_option maxHeartbeats 4000000 in
theorem c_rLine {κ : Kx} (hκ : KOK κ) {d s N : Nat} {w v : Nat → Int} {S : Sh} (hE : eE s w v N) {G : Wd} {i : Nat} (h : lH s w v N G i S) (hd : 47 ≤ d) : Ct κ MX8_readLine d 0 0 [VR 3, VR s] (Wm G) (lP s G (pLine w v i S)) noX := by
  refine Ct_of hκ kX8_readLine.1 rfl (Nat.le_of_ble_eq_true rfl) (ls := [some (VR 3), some (VR s)]) rfl (fun μ => ?_)
  have hE0 := hE
  have h0 := h
  obtain ⟨hS, hT, hN, hw⟩ := hE
  obtain ⟨hr, hi, hiN, hC, hO⟩ := h
  have e5 := (hr i (by omega)).1
  have hwi := hw i (by omega)
  have z0 : w i = 264 → pGone w v i S = pLine w v i S := fun q => by rw [pLine, if_pos q]
  have z1 : w i = 265 → pCopy w v i S = pLine w v i S := fun q => by rw [pLine, if_neg (by omega), if_pos q]
  have z2 : w i = 266 → pLead w v i S = pLine w v i S := fun q => by rw [pLine, if_neg (by omega), if_neg (by omega), if_pos q]
  have z3 : ¬ (264 ≤ w i ∧ w i ≤ 266) → (if 256 ≤ w i ∧ w i ≤ 262 then pBook w v (w i - 256) i S else (i, 1, S)) = pLine w v i S := fun q => by simp only [pLine]; rw [if_neg (show ¬ w i = 264 by omega), if_neg (show ¬ w i = 265 by omega), if_neg (show ¬ w i = 266 by omega)]
  refine V_ex sX8_readLine_0 (by simp only [Option.toList, List.cons_append, List.nil_append, exN, ex1, gI, gL, gR, pI, pL, pR, lget, lset1, lset2, kl, b2I, b2L, nob, ob32, ob64, xGet, xPut, xLen, xLd, xLdR, xSt, obA, true_and, and_true, and_self, eq_self, Nat.reduceEqDiff, Nat.zero_ne_one, reduceIte, Nat.reduceLeDiff, and_false, false_and, show skd 7 0 = 2 from rfl, show LF.1 3 = some (.inl 7) from rfl, show LF.2 3 0 = some 4 from rfl, upd2_eq, Int.reduceToNat, Int.toNat_natCast]; rfl) (by first | exact trivial | exact Or.inr rfl | exact Or.inl rfl | (simp only [ob, obA, R32, R64] at *; omega) | (simp only [ob, obA, R32, R64] at *; and_intros <;> omega)) ?_
  refine V_callV (M := MX8_readLine) (N := MX9_what) dX8_readLine_4 lRX8_55 kX9_what rfl (rfl) rfl (c_tWhat (d := 0) hκ hi (by omega)) rfl rfl (Nat.le_of_ble_eq_true rfl) (fit_rm (by omega)) (⟨Nat.le_of_ble_eq_true rfl, Nat.le_of_ble_eq_true rfl⟩) (fun v Ω' hp => ?_) (fun _ _ h => h.elim)
  obtain ⟨rfl, rfl⟩ := hp
  rw [e5]
  refine V_tsw dX8_readLine_7 (dt := 50) (tg := [32, 38, 44]) (by simp only [R32, R64] at *; omega) (by decide) (by decide) (by decide) (fun q7 => ?_) ⟨fun q7 => ?_, fun q7 => ?_, fun q7 => ?_, trivial⟩
  · refine V_ex sX8_readLine_50 (by rfl) (by first | exact trivial | exact Or.inr rfl | exact Or.inl rfl | (simp only [ob, obA, R32, R64] at *; omega) | (simp only [ob, obA, R32, R64] at *; and_intros <;> omega)) ?_
    refine V_callV (M := MX8_readLine) (N := MX8_readBook) dX8_readLine_52 lRX8_67 kX8_readBook rfl (rfl) rfl (c_rBook (d := 46) hκ hE0 h0 (by omega)) rfl rfl (Nat.le_of_ble_eq_true rfl) (fit_rm (by omega)) (⟨Nat.le_of_ble_eq_true rfl, Nat.le_of_ble_eq_true rfl⟩) (fun v Ω' hp => ?_) (fun _ _ h => h.elim)
    rw [z3 (by omega)] at hp
    obtain ⟨rfl, G2, rfl, hq⟩ := hp
    refine V_zret dX8_readLine_55 rfl (by first | exact Or.inl rfl | exact Or.inr rfl | exact b2i_01 _) (by decide) ⟨rfl, G2, rfl, hq⟩
  · refine V_ex sX8_readLine_32 (by rfl) (by first | exact trivial | exact Or.inr rfl | exact Or.inl rfl | (simp only [ob, obA, R32, R64] at *; omega) | (simp only [ob, obA, R32, R64] at *; and_intros <;> omega)) ?_
    refine V_callV (M := MX8_readLine) (N := MX8_readGone) dX8_readLine_34 lRX8_58 kX8_readGone rfl (rfl) rfl (c_rGone (d := 46) hκ hE0 h0 (by omega)) rfl rfl (Nat.le_of_ble_eq_true rfl) (fit_rm (by omega)) (⟨Nat.le_of_ble_eq_true rfl, Nat.le_of_ble_eq_true rfl⟩) (fun v Ω' hp => ?_) (fun _ _ h => h.elim)
    rw [z0 (by omega)] at hp
    obtain ⟨rfl, G2, rfl, hq⟩ := hp
    refine V_zret dX8_readLine_37 rfl (by first | exact Or.inl rfl | exact Or.inr rfl | exact b2i_01 _) (by decide) ⟨rfl, G2, rfl, hq⟩
  · refine V_ex sX8_readLine_38 (by rfl) (by first | exact trivial | exact Or.inr rfl | exact Or.inl rfl | (simp only [ob, obA, R32, R64] at *; omega) | (simp only [ob, obA, R32, R64] at *; and_intros <;> omega)) ?_
    refine V_callV (M := MX8_readLine) (N := MX8_readCopy) dX8_readLine_40 lRX8_61 kX8_readCopy rfl (rfl) rfl (c_rCopy (d := 46) hκ hE0 h0 (by omega)) rfl rfl (Nat.le_of_ble_eq_true rfl) (fit_rm (by omega)) (⟨Nat.le_of_ble_eq_true rfl, Nat.le_of_ble_eq_true rfl⟩) (fun v Ω' hp => ?_) (fun _ _ h => h.elim)
    rw [z1 (by omega)] at hp
    obtain ⟨rfl, G2, rfl, hq⟩ := hp
    refine V_zret dX8_readLine_43 rfl (by first | exact Or.inl rfl | exact Or.inr rfl | exact b2i_01 _) (by decide) ⟨rfl, G2, rfl, hq⟩
  · refine V_ex sX8_readLine_44 (by rfl) (by first | exact trivial | exact Or.inr rfl | exact Or.inl rfl | (simp only [ob, obA, R32, R64] at *; omega) | (simp only [ob, obA, R32, R64] at *; and_intros <;> omega)) ?_
    refine V_callV (M := MX8_readLine) (N := MX8_readLead) dX8_readLine_46 lRX8_64 kX8_readLead rfl (rfl) rfl (c_rLead (d := 46) hκ hE0 h0 (by omega)) rfl rfl (Nat.le_of_ble_eq_true rfl) (fit_rm (by omega)) (⟨Nat.le_of_ble_eq_true rfl, Nat.le_of_ble_eq_true rfl⟩) (fun v Ω' hp => ?_) (fun _ _ h => h.elim)
    rw [z2 (by omega)] at hp
    obtain ⟨rfl, G2, rfl, hq⟩ := hp
    refine V_zret dX8_readLine_49 rfl (by first | exact Or.inl rfl | exact Or.inr rfl | exact b2i_01 _) (by decide) ⟨rfl, G2, rfl, hq⟩
theorem tk_wOk {f : Nat → Int} {n : Nat} (hf : ∀ j, j < n → 0 ≤ f j ∧ f j ≤ 255) : wOk (tkW (tk f n 0)) ((tk f n 0).length - 1) := by
  obtain ⟨l, e, hl⟩ := tk_ok hf n 0 (by omega)
  rw [e]
  have hlen : (l ++ [((-1 : Int), (0 : Int), n, n)]).length - 1 = l.length := by simp
  rw [hlen]
  intro j hj
  unfold tkW
  rw [List.getD_eq_getElem?_getD]
  rcases Nat.lt_or_ge j l.length with c | c
  · rw [List.getElem?_append_left c, List.getElem?_eq_getElem c]
    have h3 := (hl _ (List.getElem_mem c)).2.2.1
    simp only [Option.getD_some]
    omega
  · obtain rfl : j = l.length := by omega
    simp
/-- what a text of n bytes is -/
def pTxt (f : Nat → Int) (n : Nat) : PS := pLns (tkW (tk f n 0)) (tkV (tk f n 0)) 501 0 sh0
theorem TKs_rd {G : Wd} {L : List Tk} (h : TKs G L) (h1 : 1 ≤ L.length) : rdT G (tkW L) (tkV L) (L.length - 1) := fun j hj => by
  have hlt : j < L.length := by omega
  obtain ⟨a, b, c⟩ := h.2 j hlt
  unfold tkW tkV
  rw [List.getD_eq_getElem?_getD, List.getElem?_eq_getElem hlt]
  exact ⟨a, c⟩
theorem ShC_clear (G : Wd) (s : Nat) : ShC (shClear G s) s sh0 := by
  refine ⟨by simp [shClear, sh0, upd2_eq], fun j hj => absurd hj (by simp [sh0]), by simp [shClear, sh0, upd2_eq], fun j hj => absurd hj (by simp [sh0]), fun j hj => ?_, by simp [shClear, sh0, upd2_eq, b2i], ⟨by simp [shClear, sh0, upd2_eq], fun j hj => absurd hj (by simp [sh0])⟩⟩
  have hj' : j < 10 := by simpa [sh0] using hj
  simp only [sh0, List.getElem_replicate]
  simp [shClear, fillT, hj']
def rA (s : Nat) (G : Wd) (n : Nat) (r : PS) : Option Vl → Om → Prop := fun u Ω' => u = some (VI r.2.1) ∧ ∃ G', Ω' = Wm G' ∧ G'.2 = G.2 ∧ (∀ x, ¬ (3 ≤ x ∧ x ≤ 7) → ¬ (s ≤ x ∧ x ≤ s + 52) → G'.1 x = G.1 x) ∧ TKs G' (tk (G.1 2) n 0) ∧ G'.1 4 6 = (r.1 : Nat) ∧ (r.2.1 = 0 → ShC G' s r.2.2)
set_option maxRecDepth 100000 in
set_option maxHeartbeats 4000000 in
theorem c_rAll {κ : Kx} (hκ : KOK κ) (hKS : KS κ) {d s n : Nat} {G : Wd} (hS : SHa s) (hn5 : n ≤ 500) (hb : ∀ j, j < 500 → 0 ≤ G.1 2 j ∧ G.1 2 j ≤ 255) (hd : 48 ≤ d) : Ct κ MX8_readAll d 0 0 [VR 3, VI (n : Nat), VR s] (Wm G) (rA s G n (pTxt (G.1 2) n)) noX := by
  refine Ct_of hκ kX8_readAll.1 rfl (Nat.le_of_ble_eq_true rfl) (ls := [some (VR 3), some (VI (n : Nat)), some (VR s), none]) rfl (fun μ => ?_)
  have h8 := sh_8 hS
  have h1S := (sh_facts hS).1
  have hf : ∀ j, j < n → 0 ≤ G.1 2 j ∧ G.1 2 j ≤ 255 := fun j hj => hb j (by omega)
  have hT := tk_pTok hf
  have hw := tk_wOk hf
  have hln := tk_len (G.1 2) n n 0 (by omega)
  have hpT : pTxt (G.1 2) n = pLns (tkW (tk (G.1 2) n 0)) (tkV (tk (G.1 2) n 0)) 501 0 sh0 := rfl
  generalize pTxt (G.1 2) n = rr at *
  generalize htk : tk (G.1 2) n 0 = L0 at *
  generalize hww : tkW L0 = w at *
  generalize hvv : tkV L0 = v at *
  generalize hNN : L0.length - 1 = N at *
  have hN : N ≤ 500 := by omega
  have hE : eE s w v N := ⟨hS, hT, hN, hw⟩
  have e2 : ∀ z, (shClear (uI G 3 1 z) s).1 2 = G.1 2 := fun z => by
    unfold shClear; dsimp only; rw [if_neg (by omega)]; funext j; simp only [upd2_eq]; rw [if_neg (by omega), if_neg (by omega), if_neg (by omega), if_neg (by omega), if_neg (by omega)]
  -- once a fault is found, or none can be found any more
  have stop : ∀ (G0 : Wd), G0.2 = G.2 → (∀ x, ¬ (3 ≤ x ∧ x ≤ 7) → ¬ (s ≤ x ∧ x ≤ s + 52) → G0.1 x = G.1 x) → TKs G0 L0 → ∀ (ii : Int) (G1 : Wd), 0 ≤ ii ∧ ii ≤ 600 → FS s G0 G1 → G1.1 3 1 = rr.2.1 → rr.2.1 ≠ 0 → R32 rr.2.1 → G1.1 4 6 = (rr.1 : Nat) → V κ MX8_readAll (rmD d 0 0) (rA s G n rr) noX 0 0 μ 0 0 (Wm G1) 19 [some (VR 3), some (VI (n : Nat)), some (VR s), some (VI ii)] [] := by
    intro G0 g2 gx gt ii G1 hii f1 h31 hne hR hc
    have fin : rA s G n rr (some (VI rr.2.1)) (Wm G1) := by
      refine ⟨rfl, G1, rfl, f1.1.trans g2, fun x p q => ?_, ?_, hc, fun q => absurd q hne⟩
      · funext j; rw [f1.2 x j q (by omega) (by omega)]; exact congrFun (gx x p q) j
      · rw [htk]
        exact ⟨by rw [f1.2 _ _ (by omega) (by omega) (by omega)]; exact gt.1, fun j hj => by rw [f1.2 _ _ (by omega) (by omega) (by omega), f1.2 _ _ (by omega) (by omega) (by omega), f1.2 _ _ (by omega) (by omega) (by omega)]; exact gt.2 j hj⟩
    refine V_ex sX8_readAll_19 (by rfl) (by first | exact trivial | exact Or.inr rfl | exact Or.inl rfl | (simp only [ob, obA, R32, R64] at *; omega) | (simp only [ob, obA, R32, R64] at *; and_intros <;> omega)) ?_
    refine V_icmpgt dX8_readAll_23 (tgt := 65) (by decide) (by simp only [R32, R64] at *; omega) (fun q23 => ?_) (fun q23 => ?_)
    · refine V_ex sX8_readAll_65 (by simp only [Option.toList, List.cons_append, List.nil_append, exN, ex1, gI, gL, gR, pI, pL, pR, lget, lset1, lset2, kl, b2I, b2L, nob, ob32, ob64, xGet, xPut, xLen, xLd, xLdR, xSt, obA, true_and, and_true, and_self, eq_self, Nat.reduceEqDiff, Nat.zero_ne_one, reduceIte, Nat.reduceLeDiff, and_false, false_and, show skd 7 1 = 0 from rfl, show LF.1 3 = some (.inl 7) from rfl, h31, upd2_eq, Int.reduceToNat, Int.toNat_natCast]; rfl) (by first | exact trivial | exact Or.inr rfl | exact Or.inl rfl | (simp only [ob, obA, R32, R64] at *; omega) | (simp only [ob, obA, R32, R64] at *; and_intros <;> omega)) ?_
      refine V_iret dX8_readAll_69 rfl (by decide) (fin)
    · refine V_ex sX8_readAll_26 (by simp only [Option.toList, List.cons_append, List.nil_append, exN, ex1, gI, gL, gR, pI, pL, pR, lget, lset1, lset2, kl, b2I, b2L, nob, ob32, ob64, xGet, xPut, xLen, xLd, xLdR, xSt, obA, true_and, and_true, and_self, eq_self, Nat.reduceEqDiff, Nat.zero_ne_one, reduceIte, Nat.reduceLeDiff, and_false, false_and, show skd 7 1 = 0 from rfl, show LF.1 3 = some (.inl 7) from rfl, h31, upd2_eq, Int.reduceToNat, Int.toNat_natCast]; rfl) (by first | exact trivial | exact Or.inr rfl | exact Or.inl rfl | (simp only [ob, obA, R32, R64] at *; omega) | (simp only [ob, obA, R32, R64] at *; and_intros <;> omega)) ?_
      refine V_ifne dX8_readAll_30 (tgt := 65) (by decide) (by simp only [R32, R64] at *; omega) (fun q30 => ?_) (fun q30 => ?_)
      · refine V_ex sX8_readAll_65 (by simp only [Option.toList, List.cons_append, List.nil_append, exN, ex1, gI, gL, gR, pI, pL, pR, lget, lset1, lset2, kl, b2I, b2L, nob, ob32, ob64, xGet, xPut, xLen, xLd, xLdR, xSt, obA, true_and, and_true, and_self, eq_self, Nat.reduceEqDiff, Nat.zero_ne_one, reduceIte, Nat.reduceLeDiff, and_false, false_and, show skd 7 1 = 0 from rfl, show LF.1 3 = some (.inl 7) from rfl, h31, upd2_eq, Int.reduceToNat, Int.toNat_natCast]; rfl) (by first | exact trivial | exact Or.inr rfl | exact Or.inl rfl | (simp only [ob, obA, R32, R64] at *; omega) | (simp only [ob, obA, R32, R64] at *; and_intros <;> omega)) ?_
        refine V_iret dX8_readAll_69 rfl (by decide) (fin)
      · exact absurd q30 hne
  have Lp : ∀ (G0 : Wd), G0.2 = G.2 → (∀ x, ¬ (3 ≤ x ∧ x ≤ 7) → ¬ (s ≤ x ∧ x ≤ s + 52) → G0.1 x = G.1 x) → TKs G0 L0 → rdT G0 w v N → ∀ (k i : Nat) (S : Sh) (ii : Int) (G1 : Wd), ii = 501 - (k : Int) → k ≤ 501 → FS s G0 G1 → G1.1 3 1 = 0 → G1.1 4 6 = (i : Nat) → i ≤ N → ShC G1 s S → okSh i S → pLns w v k i S = rr → V κ MX8_readAll (rmD d 0 0) (rA s G n rr) noX 0 0 μ 0 0 (Wm G1) 19 [some (VR 3), some (VI (n : Nat)), some (VR s), some (VI ii)] [] := by
    intro G0 g2 gx gt gr k
    have fin : ∀ (i : Nat) (S : Sh) (G1 : Wd), FS s G0 G1 → G1.1 4 6 = (i : Nat) → ShC G1 s S → (i, 0, S) = rr → rA s G n rr (some (VI 0)) (Wm G1) := by
      intro i S G1 f1 hc hsc he
      rw [← he]
      refine ⟨rfl, G1, rfl, f1.1.trans g2, fun x p q => ?_, ?_, hc, fun _ => hsc⟩
      · funext j; rw [f1.2 x j q (by omega) (by omega)]; exact congrFun (gx x p q) j
      · rw [htk]
        exact ⟨by rw [f1.2 _ _ (by omega) (by omega) (by omega)]; exact gt.1, fun j hj => by rw [f1.2 _ _ (by omega) (by omega) (by omega), f1.2 _ _ (by omega) (by omega) (by omega), f1.2 _ _ (by omega) (by omega) (by omega)]; exact gt.2 j hj⟩
    induction k with
    | zero =>
      intro i S ii G1 hii hk f1 h31 hc hiN hsc hok he
      rw [pLns] at he
      refine V_ex sX8_readAll_19 (by rfl) (by first | exact trivial | exact Or.inr rfl | exact Or.inl rfl | (simp only [ob, obA, R32, R64] at *; omega) | (simp only [ob, obA, R32, R64] at *; and_intros <;> omega)) ?_
      refine V_icmpgt dX8_readAll_23 (tgt := 65) (by decide) (by simp only [R32, R64] at *; omega) (fun q23 => ?_) (fun q23 => ?_)
      · refine V_ex sX8_readAll_65 (by simp only [Option.toList, List.cons_append, List.nil_append, exN, ex1, gI, gL, gR, pI, pL, pR, lget, lset1, lset2, kl, b2I, b2L, nob, ob32, ob64, xGet, xPut, xLen, xLd, xLdR, xSt, obA, true_and, and_true, and_self, eq_self, Nat.reduceEqDiff, Nat.zero_ne_one, reduceIte, Nat.reduceLeDiff, and_false, false_and, show skd 7 1 = 0 from rfl, show LF.1 3 = some (.inl 7) from rfl, h31, upd2_eq, Int.reduceToNat, Int.toNat_natCast]; rfl) (by first | exact trivial | exact Or.inr rfl | exact Or.inl rfl | (simp only [ob, obA, R32, R64] at *; omega) | (simp only [ob, obA, R32, R64] at *; and_intros <;> omega)) ?_
        refine V_iret dX8_readAll_69 rfl (by decide) (fin i S G1 f1 hc hsc he)
      · omega
    | succ k ih =>
      intro i S ii G1 hii hk f1 h31 hc hiN hsc hok he
      have hr1 := f1.rd hS gr
      have e5 := (hr1 i hiN).1
      have hwi := hw i hiN
      rw [pLns] at he
      by_cases hend : w i = -1
      · rw [if_pos hend] at he
        refine V_ex sX8_readAll_19 (by rfl) (by first | exact trivial | exact Or.inr rfl | exact Or.inl rfl | (simp only [ob, obA, R32, R64] at *; omega) | (simp only [ob, obA, R32, R64] at *; and_intros <;> omega)) ?_
        refine V_icmpgt dX8_readAll_23 (tgt := 65) (by decide) (by simp only [R32, R64] at *; omega) (fun q23 => ?_) (fun q23 => ?_)
        · omega
        · refine V_ex sX8_readAll_26 (by simp only [Option.toList, List.cons_append, List.nil_append, exN, ex1, gI, gL, gR, pI, pL, pR, lget, lset1, lset2, kl, b2I, b2L, nob, ob32, ob64, xGet, xPut, xLen, xLd, xLdR, xSt, obA, true_and, and_true, and_self, eq_self, Nat.reduceEqDiff, Nat.zero_ne_one, reduceIte, Nat.reduceLeDiff, and_false, false_and, show skd 7 1 = 0 from rfl, show LF.1 3 = some (.inl 7) from rfl, h31, upd2_eq, Int.reduceToNat, Int.toNat_natCast]; rfl) (by first | exact trivial | exact Or.inr rfl | exact Or.inl rfl | (simp only [ob, obA, R32, R64] at *; omega) | (simp only [ob, obA, R32, R64] at *; and_intros <;> omega)) ?_
          refine V_ifne dX8_readAll_30 (tgt := 65) (by decide) (by simp only [R32, R64] at *; omega) (fun q30 => ?_) (fun q30 => ?_)
          · exact absurd rfl q30
          · refine V_ex sX8_readAll_33 (by simp only [Option.toList, List.cons_append, List.nil_append, exN, ex1, gI, gL, gR, pI, pL, pR, lget, lset1, lset2, kl, b2I, b2L, nob, ob32, ob64, xGet, xPut, xLen, xLd, xLdR, xSt, obA, true_and, and_true, and_self, eq_self, Nat.reduceEqDiff, Nat.zero_ne_one, reduceIte, Nat.reduceLeDiff, and_false, false_and, show skd 7 0 = 2 from rfl, show LF.1 3 = some (.inl 7) from rfl, show LF.2 3 0 = some 4 from rfl, h31, upd2_eq, Int.reduceToNat, Int.toNat_natCast]; rfl) (by first | exact trivial | exact Or.inr rfl | exact Or.inl rfl | (simp only [ob, obA, R32, R64] at *; omega) | (simp only [ob, obA, R32, R64] at *; and_intros <;> omega)) ?_
            refine V_callV (M := MX8_readAll) (N := MX9_is) dX8_readAll_38 lRX8_37 kX9_is rfl (rfl) rfl (c_tIs (d := 2) hκ hc (by omega) (by rw [e5]; unfold R32; omega) (by unfold R32; omega)) rfl rfl (Nat.le_of_ble_eq_true rfl) (fit_rm (by omega)) (⟨Nat.le_of_ble_eq_true rfl, Nat.le_of_ble_eq_true rfl⟩) (fun v Ω' hp => ?_) (fun _ _ h => h.elim)
            obtain ⟨rfl, rfl⟩ := hp
            rw [e5]
            refine V_ifneB dX8_readAll_41 (tgt := 65) (by decide) (fun q41 => ?_) (fun q41 => ?_)
            · refine V_ex sX8_readAll_65 (by simp only [Option.toList, List.cons_append, List.nil_append, exN, ex1, gI, gL, gR, pI, pL, pR, lget, lset1, lset2, kl, b2I, b2L, nob, ob32, ob64, xGet, xPut, xLen, xLd, xLdR, xSt, obA, true_and, and_true, and_self, eq_self, Nat.reduceEqDiff, Nat.zero_ne_one, reduceIte, Nat.reduceLeDiff, and_false, false_and, show skd 7 1 = 0 from rfl, show LF.1 3 = some (.inl 7) from rfl, h31, upd2_eq, Int.reduceToNat, Int.toNat_natCast]; rfl) (by first | exact trivial | exact Or.inr rfl | exact Or.inl rfl | (simp only [ob, obA, R32, R64] at *; omega) | (simp only [ob, obA, R32, R64] at *; and_intros <;> omega)) ?_
              refine V_iret dX8_readAll_69 rfl (by decide) (fin i S G1 f1 hc hsc he)
            · exact absurd hend (of_decide_eq_false q41)
      · rw [if_neg hend] at he
        have hlt := pTok_lt hT hiN hend
        have hpo := pLine_ok hT hlt hok
        have hLn := c_rLine (d := 47) hκ hE ⟨hr1, hc, hlt, hsc, hok⟩ (by omega)
        generalize pLine w v i S = r at *
        obtain ⟨o1, o2, o3, o4, o5⟩ := hpo
        by_cases hb0 : r.2.1 = 0
        · rw [if_neg (not_not_intro hb0)] at he
          obtain ⟨o6, o7⟩ := o5 hb0
          by_cases hsem : w r.1 = 59
          · rw [if_pos hsem] at he
            have hs1 := pTok_lt hT o2 (by omega)
            refine V_ex sX8_readAll_19 (by rfl) (by first | exact trivial | exact Or.inr rfl | exact Or.inl rfl | (simp only [ob, obA, R32, R64] at *; omega) | (simp only [ob, obA, R32, R64] at *; and_intros <;> omega)) ?_
            refine V_icmpgt dX8_readAll_23 (tgt := 65) (by decide) (by simp only [R32, R64] at *; omega) (fun q23 => ?_) (fun q23 => ?_)
            · omega
            · refine V_ex sX8_readAll_26 (by simp only [Option.toList, List.cons_append, List.nil_append, exN, ex1, gI, gL, gR, pI, pL, pR, lget, lset1, lset2, kl, b2I, b2L, nob, ob32, ob64, xGet, xPut, xLen, xLd, xLdR, xSt, obA, true_and, and_true, and_self, eq_self, Nat.reduceEqDiff, Nat.zero_ne_one, reduceIte, Nat.reduceLeDiff, and_false, false_and, show skd 7 1 = 0 from rfl, show LF.1 3 = some (.inl 7) from rfl, h31, upd2_eq, Int.reduceToNat, Int.toNat_natCast]; rfl) (by first | exact trivial | exact Or.inr rfl | exact Or.inl rfl | (simp only [ob, obA, R32, R64] at *; omega) | (simp only [ob, obA, R32, R64] at *; and_intros <;> omega)) ?_
              refine V_ifne dX8_readAll_30 (tgt := 65) (by decide) (by simp only [R32, R64] at *; omega) (fun q30 => ?_) (fun q30 => ?_)
              · exact absurd rfl q30
              · refine V_ex sX8_readAll_33 (by simp only [Option.toList, List.cons_append, List.nil_append, exN, ex1, gI, gL, gR, pI, pL, pR, lget, lset1, lset2, kl, b2I, b2L, nob, ob32, ob64, xGet, xPut, xLen, xLd, xLdR, xSt, obA, true_and, and_true, and_self, eq_self, Nat.reduceEqDiff, Nat.zero_ne_one, reduceIte, Nat.reduceLeDiff, and_false, false_and, show skd 7 0 = 2 from rfl, show LF.1 3 = some (.inl 7) from rfl, show LF.2 3 0 = some 4 from rfl, h31, upd2_eq, Int.reduceToNat, Int.toNat_natCast]; rfl) (by first | exact trivial | exact Or.inr rfl | exact Or.inl rfl | (simp only [ob, obA, R32, R64] at *; omega) | (simp only [ob, obA, R32, R64] at *; and_intros <;> omega)) ?_
                refine V_callV (M := MX8_readAll) (N := MX9_is) dX8_readAll_38 lRX8_37 kX9_is rfl (rfl) rfl (c_tIs (d := 2) hκ hc (by omega) (by rw [e5]; unfold R32; omega) (by unfold R32; omega)) rfl rfl (Nat.le_of_ble_eq_true rfl) (fit_rm (by omega)) (⟨Nat.le_of_ble_eq_true rfl, Nat.le_of_ble_eq_true rfl⟩) (fun v Ω' hp => ?_) (fun _ _ h => h.elim)
                obtain ⟨rfl, rfl⟩ := hp
                rw [e5]
                refine V_ifneB dX8_readAll_41 (tgt := 65) (by decide) (fun q41 => ?_) (fun q41 => ?_)
                · exact absurd (of_decide_eq_true q41) hend
                · refine V_ex sX8_readAll_44 (by rfl) (by first | exact trivial | exact Or.inr rfl | exact Or.inl rfl | (simp only [ob, obA, R32, R64] at *; omega) | (simp only [ob, obA, R32, R64] at *; and_intros <;> omega)) ?_
                  refine V_callV (M := MX8_readAll) (N := MX8_readLine) dX8_readAll_46 lRX8_41 kX8_readLine rfl (rfl) rfl (hLn) rfl rfl (Nat.le_of_ble_eq_true rfl) (fit_rm (by omega)) (⟨Nat.le_of_ble_eq_true rfl, Nat.le_of_ble_eq_true rfl⟩) (fun v Ω' hp => ?_) (fun _ _ h => h.elim)
                  obtain ⟨rfl, G2, rfl, f2, a2, b2, c2⟩ := hp
                  obtain ⟨x1, x2⟩ := b2 hb0
                  have f12 := f1.trans f2
                  have hr2 := f12.rd hS gr
                  refine V_ifeqB dX8_readAll_49 (tgt := 59) (by decide) (fun q49 => ?_) (fun q49 => ?_)
                  · exact absurd hb0 (of_decide_eq_false q49)
                  · refine V_ex sX8_readAll_52 (by rfl) (by first | exact trivial | exact Or.inr rfl | exact Or.inl rfl | (simp only [ob, obA, R32, R64] at *; omega) | (simp only [ob, obA, R32, R64] at *; and_intros <;> omega)) ?_
                    refine V_callV (M := MX8_readAll) (N := MX8_readSign) dX8_readAll_55 lRX8_45 kX8_readSign rfl (rfl) rfl (c_rSign (d := 2) (s := s) hκ hr2 a2 (by omega) hN hw (c := 59) (by omega) (by omega)) rfl rfl (Nat.le_of_ble_eq_true rfl) (fit_rm (by omega)) (⟨Nat.le_of_ble_eq_true rfl, Nat.le_of_ble_eq_true rfl⟩) (fun v Ω' hp => ?_) (fun _ _ h => h.elim)
                    obtain ⟨rfl, rfl⟩ := hp
                    rw [if_pos hsem]
                    refine V_ex sX8_readAll_58 (by rfl) (by first | exact trivial | exact Or.inr rfl | exact Or.inl rfl | (simp only [ob, obA, R32, R64] at *; omega) | (simp only [ob, obA, R32, R64] at *; and_intros <;> omega)) ?_
                    refine V_ex sX8_readAll_59 (by rfl) (by first | exact trivial | exact Or.inr rfl | exact Or.inl rfl | (simp only [ob, obA, R32, R64] at *; omega) | (simp only [ob, obA, R32, R64] at *; and_intros <;> omega)) ?_
                    refine V_goto dX8_readAll_62 (tgt := 19) (by decide) ?_
                    exact ih (r.1 + 1) r.2.2 _ (uI G2 4 6 ((r.1 : Int) + 1)) (by omega) (by omega) (f12.trans (FS.cur s _ _)) (by rw [at_cur (by omega), x1]; exact h31) (by rw [of_cur]; omega) (by omega) (ShC_same x2 (fun x j p q => at_cur (by omega)) o7.2.2.1 o7.1) (okSh_more o7 (by omega)) he
          · rw [if_neg hsem] at he
            refine V_ex sX8_readAll_19 (by rfl) (by first | exact trivial | exact Or.inr rfl | exact Or.inl rfl | (simp only [ob, obA, R32, R64] at *; omega) | (simp only [ob, obA, R32, R64] at *; and_intros <;> omega)) ?_
            refine V_icmpgt dX8_readAll_23 (tgt := 65) (by decide) (by simp only [R32, R64] at *; omega) (fun q23 => ?_) (fun q23 => ?_)
            · omega
            · refine V_ex sX8_readAll_26 (by simp only [Option.toList, List.cons_append, List.nil_append, exN, ex1, gI, gL, gR, pI, pL, pR, lget, lset1, lset2, kl, b2I, b2L, nob, ob32, ob64, xGet, xPut, xLen, xLd, xLdR, xSt, obA, true_and, and_true, and_self, eq_self, Nat.reduceEqDiff, Nat.zero_ne_one, reduceIte, Nat.reduceLeDiff, and_false, false_and, show skd 7 1 = 0 from rfl, show LF.1 3 = some (.inl 7) from rfl, h31, upd2_eq, Int.reduceToNat, Int.toNat_natCast]; rfl) (by first | exact trivial | exact Or.inr rfl | exact Or.inl rfl | (simp only [ob, obA, R32, R64] at *; omega) | (simp only [ob, obA, R32, R64] at *; and_intros <;> omega)) ?_
              refine V_ifne dX8_readAll_30 (tgt := 65) (by decide) (by simp only [R32, R64] at *; omega) (fun q30 => ?_) (fun q30 => ?_)
              · exact absurd rfl q30
              · refine V_ex sX8_readAll_33 (by simp only [Option.toList, List.cons_append, List.nil_append, exN, ex1, gI, gL, gR, pI, pL, pR, lget, lset1, lset2, kl, b2I, b2L, nob, ob32, ob64, xGet, xPut, xLen, xLd, xLdR, xSt, obA, true_and, and_true, and_self, eq_self, Nat.reduceEqDiff, Nat.zero_ne_one, reduceIte, Nat.reduceLeDiff, and_false, false_and, show skd 7 0 = 2 from rfl, show LF.1 3 = some (.inl 7) from rfl, show LF.2 3 0 = some 4 from rfl, h31, upd2_eq, Int.reduceToNat, Int.toNat_natCast]; rfl) (by first | exact trivial | exact Or.inr rfl | exact Or.inl rfl | (simp only [ob, obA, R32, R64] at *; omega) | (simp only [ob, obA, R32, R64] at *; and_intros <;> omega)) ?_
                refine V_callV (M := MX8_readAll) (N := MX9_is) dX8_readAll_38 lRX8_37 kX9_is rfl (rfl) rfl (c_tIs (d := 2) hκ hc (by omega) (by rw [e5]; unfold R32; omega) (by unfold R32; omega)) rfl rfl (Nat.le_of_ble_eq_true rfl) (fit_rm (by omega)) (⟨Nat.le_of_ble_eq_true rfl, Nat.le_of_ble_eq_true rfl⟩) (fun v Ω' hp => ?_) (fun _ _ h => h.elim)
                obtain ⟨rfl, rfl⟩ := hp
                rw [e5]
                refine V_ifneB dX8_readAll_41 (tgt := 65) (by decide) (fun q41 => ?_) (fun q41 => ?_)
                · exact absurd (of_decide_eq_true q41) hend
                · refine V_ex sX8_readAll_44 (by rfl) (by first | exact trivial | exact Or.inr rfl | exact Or.inl rfl | (simp only [ob, obA, R32, R64] at *; omega) | (simp only [ob, obA, R32, R64] at *; and_intros <;> omega)) ?_
                  refine V_callV (M := MX8_readAll) (N := MX8_readLine) dX8_readAll_46 lRX8_41 kX8_readLine rfl (rfl) rfl (hLn) rfl rfl (Nat.le_of_ble_eq_true rfl) (fit_rm (by omega)) (⟨Nat.le_of_ble_eq_true rfl, Nat.le_of_ble_eq_true rfl⟩) (fun v Ω' hp => ?_) (fun _ _ h => h.elim)
                  obtain ⟨rfl, G2, rfl, f2, a2, b2, c2⟩ := hp
                  obtain ⟨x1, x2⟩ := b2 hb0
                  have f12 := f1.trans f2
                  have hr2 := f12.rd hS gr
                  refine V_ifeqB dX8_readAll_49 (tgt := 59) (by decide) (fun q49 => ?_) (fun q49 => ?_)
                  · exact absurd hb0 (of_decide_eq_false q49)
                  · refine V_ex sX8_readAll_52 (by rfl) (by first | exact trivial | exact Or.inr rfl | exact Or.inl rfl | (simp only [ob, obA, R32, R64] at *; omega) | (simp only [ob, obA, R32, R64] at *; and_intros <;> omega)) ?_
                    refine V_callV (M := MX8_readAll) (N := MX8_readSign) dX8_readAll_55 lRX8_45 kX8_readSign rfl (rfl) rfl (c_rSign (d := 2) (s := s) hκ hr2 a2 (by omega) hN hw (c := 59) (by omega) (by omega)) rfl rfl (Nat.le_of_ble_eq_true rfl) (fit_rm (by omega)) (⟨Nat.le_of_ble_eq_true rfl, Nat.le_of_ble_eq_true rfl⟩) (fun v Ω' hp => ?_) (fun _ _ h => h.elim)
                    obtain ⟨rfl, rfl⟩ := hp
                    rw [if_neg hsem]
                    refine V_ex sX8_readAll_58 (by rfl) (by first | exact trivial | exact Or.inr rfl | exact Or.inl rfl | (simp only [ob, obA, R32, R64] at *; omega) | (simp only [ob, obA, R32, R64] at *; and_intros <;> omega)) ?_
                    refine V_ex sX8_readAll_59 (by rfl) (by first | exact trivial | exact Or.inr rfl | exact Or.inl rfl | (simp only [ob, obA, R32, R64] at *; omega) | (simp only [ob, obA, R32, R64] at *; and_intros <;> omega)) ?_
                    refine V_goto dX8_readAll_62 (tgt := 19) (by decide) ?_
                    exact stop G0 g2 gx gt _ (uI G2 3 1 1) (by omega) (f12.trans (FS.fnd s _ _)) (by rw [of_fnd, ← he]) (by rw [← he]; show (1 : Int) ≠ 0; decide) (by rw [← he]; show R32 1; unfold R32; omega) (by rw [at_fnd (by omega), ← he]; exact a2)
        · rw [if_pos hb0] at he
          refine V_ex sX8_readAll_19 (by rfl) (by first | exact trivial | exact Or.inr rfl | exact Or.inl rfl | (simp only [ob, obA, R32, R64] at *; omega) | (simp only [ob, obA, R32, R64] at *; and_intros <;> omega)) ?_
          refine V_icmpgt dX8_readAll_23 (tgt := 65) (by decide) (by simp only [R32, R64] at *; omega) (fun q23 => ?_) (fun q23 => ?_)
          · omega
          · refine V_ex sX8_readAll_26 (by simp only [Option.toList, List.cons_append, List.nil_append, exN, ex1, gI, gL, gR, pI, pL, pR, lget, lset1, lset2, kl, b2I, b2L, nob, ob32, ob64, xGet, xPut, xLen, xLd, xLdR, xSt, obA, true_and, and_true, and_self, eq_self, Nat.reduceEqDiff, Nat.zero_ne_one, reduceIte, Nat.reduceLeDiff, and_false, false_and, show skd 7 1 = 0 from rfl, show LF.1 3 = some (.inl 7) from rfl, h31, upd2_eq, Int.reduceToNat, Int.toNat_natCast]; rfl) (by first | exact trivial | exact Or.inr rfl | exact Or.inl rfl | (simp only [ob, obA, R32, R64] at *; omega) | (simp only [ob, obA, R32, R64] at *; and_intros <;> omega)) ?_
            refine V_ifne dX8_readAll_30 (tgt := 65) (by decide) (by simp only [R32, R64] at *; omega) (fun q30 => ?_) (fun q30 => ?_)
            · exact absurd rfl q30
            · refine V_ex sX8_readAll_33 (by simp only [Option.toList, List.cons_append, List.nil_append, exN, ex1, gI, gL, gR, pI, pL, pR, lget, lset1, lset2, kl, b2I, b2L, nob, ob32, ob64, xGet, xPut, xLen, xLd, xLdR, xSt, obA, true_and, and_true, and_self, eq_self, Nat.reduceEqDiff, Nat.zero_ne_one, reduceIte, Nat.reduceLeDiff, and_false, false_and, show skd 7 0 = 2 from rfl, show LF.1 3 = some (.inl 7) from rfl, show LF.2 3 0 = some 4 from rfl, h31, upd2_eq, Int.reduceToNat, Int.toNat_natCast]; rfl) (by first | exact trivial | exact Or.inr rfl | exact Or.inl rfl | (simp only [ob, obA, R32, R64] at *; omega) | (simp only [ob, obA, R32, R64] at *; and_intros <;> omega)) ?_
              refine V_callV (M := MX8_readAll) (N := MX9_is) dX8_readAll_38 lRX8_37 kX9_is rfl (rfl) rfl (c_tIs (d := 2) hκ hc (by omega) (by rw [e5]; unfold R32; omega) (by unfold R32; omega)) rfl rfl (Nat.le_of_ble_eq_true rfl) (fit_rm (by omega)) (⟨Nat.le_of_ble_eq_true rfl, Nat.le_of_ble_eq_true rfl⟩) (fun v Ω' hp => ?_) (fun _ _ h => h.elim)
              obtain ⟨rfl, rfl⟩ := hp
              rw [e5]
              refine V_ifneB dX8_readAll_41 (tgt := 65) (by decide) (fun q41 => ?_) (fun q41 => ?_)
              · exact absurd (of_decide_eq_true q41) hend
              · refine V_ex sX8_readAll_44 (by rfl) (by first | exact trivial | exact Or.inr rfl | exact Or.inl rfl | (simp only [ob, obA, R32, R64] at *; omega) | (simp only [ob, obA, R32, R64] at *; and_intros <;> omega)) ?_
                refine V_callV (M := MX8_readAll) (N := MX8_readLine) dX8_readAll_46 lRX8_41 kX8_readLine rfl (rfl) rfl (hLn) rfl rfl (Nat.le_of_ble_eq_true rfl) (fit_rm (by omega)) (⟨Nat.le_of_ble_eq_true rfl, Nat.le_of_ble_eq_true rfl⟩) (fun v Ω' hp => ?_) (fun _ _ h => h.elim)
                obtain ⟨rfl, G2, rfl, f2, a2, b2, c2⟩ := hp
                refine V_ifeqB dX8_readAll_49 (tgt := 59) (by decide) (fun q49 => ?_) (fun q49 => ?_)
                · refine V_ex sX8_readAll_59 (by rfl) (by first | exact trivial | exact Or.inr rfl | exact Or.inl rfl | (simp only [ob, obA, R32, R64] at *; omega) | (simp only [ob, obA, R32, R64] at *; and_intros <;> omega)) ?_
                  refine V_goto dX8_readAll_62 (tgt := 19) (by decide) ?_
                  exact stop G0 g2 gx gt _ G2 (by omega) (f1.trans f2) (by rw [← he]; exact c2 hb0) (by rw [← he]; exact hb0) (by rw [← he]; unfold R32; omega) (by rw [← he]; exact a2)
                · exact absurd (of_decide_eq_true q49) hb0
  refine V_ex sX8_readAll_0 (by simp only [Option.toList, List.cons_append, List.nil_append, exN, ex1, gI, gL, gR, pI, pL, pR, lget, lset1, lset2, kl, b2I, b2L, nob, ob32, ob64, xGet, xPut, xLen, xLd, xLdR, xSt, obA, true_and, and_true, and_self, eq_self, Nat.reduceEqDiff, Nat.zero_ne_one, reduceIte, Nat.reduceLeDiff, and_false, false_and, show skd 7 1 = 0 from rfl, show LF.1 3 = some (.inl 7) from rfl, upd2_eq, Int.reduceToNat, Int.toNat_natCast]; rfl) (by first | exact trivial | exact Or.inr rfl | exact Or.inl rfl | (simp only [ob, obA, R32, R64] at *; omega) | (simp only [ob, obA, R32, R64] at *; and_intros <;> omega)) ?_
  refine V_callV (M := MX8_readAll) (N := MX7_clear) dX8_readAll_6 lRX8_28 kX7_clear rfl (h1S) rfl (c_clear (d := 2) hκ hS) rfl rfl (Nat.le_of_ble_eq_true rfl) (fit_rm (by omega)) (⟨Nat.le_of_ble_eq_true rfl, Nat.le_of_ble_eq_true rfl⟩) (fun v Ω' hp => ?_) (fun _ _ h => h.elim)
  obtain ⟨rfl, rfl⟩ := hp
  refine V_ex sX8_readAll_9 (by simp only [Option.toList, List.cons_append, List.nil_append, exN, ex1, gI, gL, gR, pI, pL, pR, lget, lset1, lset2, kl, b2I, b2L, nob, ob32, ob64, xGet, xPut, xLen, xLd, xLdR, xSt, obA, true_and, and_true, and_self, eq_self, Nat.reduceEqDiff, Nat.zero_ne_one, reduceIte, Nat.reduceLeDiff, and_false, false_and, show skd 7 0 = 2 from rfl, show LF.1 3 = some (.inl 7) from rfl, show LF.2 3 0 = some 4 from rfl, upd2_eq, Int.reduceToNat, Int.toNat_natCast]; rfl) (by first | exact trivial | exact Or.inr rfl | exact Or.inl rfl | (simp only [ob, obA, R32, R64] at *; omega) | (simp only [ob, obA, R32, R64] at *; and_intros <;> omega)) ?_
  refine V_callV (M := MX8_readAll) (N := MX9_open) dX8_readAll_14 lRX8_33 kX9_open rfl (rfl) rfl (c_tOpen (d := 47) hκ hKS hn5 (fun j hj => by rw [e2]; exact hb j hj) (by omega)) rfl rfl (Nat.le_of_ble_eq_true rfl) (fit_rm (by omega)) (⟨Nat.le_of_ble_eq_true rfl, Nat.le_of_ble_eq_true rfl⟩) (fun v Ω' hp => ?_) (fun _ _ h => h.elim)
  obtain ⟨rfl, G0, rfl, f0, x0, c0, t0⟩ := hp
  rw [e2, htk] at t0
  refine V_ex sX8_readAll_17 (by rfl) (by first | exact trivial | exact Or.inr rfl | exact Or.inl rfl | (simp only [ob, obA, R32, R64] at *; omega) | (simp only [ob, obA, R32, R64] at *; and_intros <;> omega)) ?_
  refine Lp G0 ?_ ?_ t0 ?_ 501 0 sh0 0 G0 (by omega) (by omega) (FS.refl s G0) ?_ c0 (by omega) ?_ okSh0 hpT.symm
  · exact f0.1
  · intro x p q
    rw [f0.2 x (by simp; omega)]
    unfold shClear; dsimp only; rw [if_neg (by omega)]; funext j; simp only [upd2_eq]; rw [if_neg (by omega), if_neg (by omega), if_neg (by omega), if_neg (by omega), if_neg (by omega)]
  · rw [← hww, ← hvv, ← hNN]; exact TKs_rd t0 hln.1
  · rw [f0.2 3 (by simp)]
    unfold shClear; dsimp only; rw [if_neg (by omega)]; simp only [upd2_eq]; rw [if_neg (by omega), if_neg (by omega), if_neg (by omega), if_neg (by omega), if_pos ⟨trivial, trivial⟩]
  · exact ShC_same (ShC_clear _ s) (fun x j p q => by rw [f0.2 x (by simp; omega)]) (by simp [sh0]) (by simp [sh0])
