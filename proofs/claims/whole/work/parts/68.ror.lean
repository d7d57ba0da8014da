/-! ShelfReader: a whole rule; sets of leaves as lists -/
set_option maxRecDepth 100000 in
set_option maxHeartbeats 4000000 in
theorem c_rOr0 {κ : Kx} (hκ : KOK κ) {d s N : Nat} {w v : Nat → Int} (hE : eE s w v N) (hd2 : 3 ≤ d) {G : Wd} {i : Nat} {c : List Int} (h : eH s w v N G i c) : Ct κ MX8_readOr d 0 0 [VR 3, VR s, VI 6] (Wm G) (eP s G i (pOr w v 0 (i, 0, c))) noX := by
  refine Ct_of hκ kX8_readOr.1 rfl (Nat.le_of_ble_eq_true rfl) (ls := [some (VR 3), some (VR s), some (VI 6), none, none]) rfl (fun μ => ?_)
  obtain ⟨hS, hT, hN, hw⟩ := hE
  obtain ⟨hr, hi, hiN, hcd, hci⟩ := h
  have e5 := (hr i hiN).1
  have hwi := hw i hiN
  have hne := sh_ne hS
  have h8 := hcd.1
  have no : ∀ k : Int, k ≠ 0 → pOr w v 0 (i, 0, c) = (i, k, c) → eP s G i (pOr w v 0 (i, 0, c)) (some (VI 0)) (Wm (uI G 3 1 k)) := fun k hk e => by
    rw [e]
    exact eP_no hk (FE.fnd s G k) (by rw [at_fnd (by omega)]; exact hi) of_fnd (by rw [at_fnd (by omega)]; omega) (by rw [at_fnd (by omega)]; show _ ≤ G.1 s 8 + (i : Int) - (i : Int) + 1; omega)
  refine V_ex sX8_readOr_0 (by rfl) (by first | exact trivial | exact Or.inr rfl | exact Or.inl rfl | (simp only [ob, obA, R32, R64] at *; omega) | (simp only [ob, obA, R32, R64] at *; and_intros <;> omega)) ?_
  refine V_icmplt dX8_readOr_3 (tgt := 43) (by decide) (by simp only [R32, R64] at *; omega) (fun q3 => ?_) (fun q3 => ?_)
  · omega
  · refine V_ex sX8_readOr_6 (by simp only [Option.toList, List.cons_append, List.nil_append, exN, ex1, gI, gL, gR, pI, pL, pR, lget, lset1, lset2, kl, b2I, b2L, nob, ob32, ob64, xGet, xPut, xLen, xLd, xLdR, xSt, obA, true_and, and_true, and_self, eq_self, Nat.reduceEqDiff, Nat.zero_ne_one, reduceIte, Nat.reduceLeDiff, and_false, false_and, show skd 7 0 = 2 from rfl, show LF.1 3 = some (.inl 7) from rfl, show LF.2 3 0 = some 4 from rfl, upd2_eq, Int.reduceToNat, Int.toNat_natCast]; rfl) (by first | exact trivial | exact Or.inr rfl | exact Or.inl rfl | (simp only [ob, obA, R32, R64] at *; omega) | (simp only [ob, obA, R32, R64] at *; and_intros <;> omega)) ?_
    refine V_callV (M := MX8_readOr) (N := MX9_what) dX8_readOr_10 lRX8_55 kX9_what rfl (rfl) rfl (c_tWhat (d := 0) hκ hi (by omega)) rfl rfl (Nat.le_of_ble_eq_true rfl) (fit_rm (by omega)) (⟨Nat.le_of_ble_eq_true rfl, Nat.le_of_ble_eq_true rfl⟩) (fun v Ω' hp => ?_) (fun _ _ h => h.elim)
    obtain ⟨rfl, rfl⟩ := hp
    rw [e5]
    refine V_ex sX8_readOr_13 (by rfl) (by first | exact trivial | exact Or.inr rfl | exact Or.inl rfl | (simp only [ob, obA, R32, R64] at *; omega) | (simp only [ob, obA, R32, R64] at *; and_intros <;> omega)) ?_
    refine V_icmpeq dX8_readOr_18 (tgt := 34) (by decide) (by simp only [R32, R64] at *; omega) (fun q18 => ?_) (fun q18 => ?_)
    · refine V_ex sX8_readOr_34 (by rfl) (by first | exact trivial | exact Or.inr rfl | exact Or.inl rfl | (simp only [ob, obA, R32, R64] at *; omega) | (simp only [ob, obA, R32, R64] at *; and_intros <;> omega)) ?_
      refine V_goto dX8_readOr_35 (tgt := 39) (by decide) ?_
      refine V_callV (M := MX8_readOr) (N := MX8_refuse) dX8_readOr_39 lRX8_49 kX8_refuse rfl (rfl) rfl (c_rRefuse (d := 0) hκ) rfl rfl (Nat.le_of_ble_eq_true rfl) (fit_rm (by omega)) (⟨Nat.le_of_ble_eq_true rfl, Nat.le_of_ble_eq_true rfl⟩) (fun v Ω' hp => ?_) (fun _ _ h => h.elim)
      obtain ⟨rfl, rfl⟩ := hp
      refine V_zret dX8_readOr_42 rfl (by first | exact Or.inl rfl | exact Or.inr rfl | exact b2i_01 _) (by decide) (no 2 (by decide) (by rw [pOr]; dsimp only; rw [if_pos (by omega)]))
    · refine V_ex sX8_readOr_21 (by rfl) (by first | exact trivial | exact Or.inr rfl | exact Or.inl rfl | (simp only [ob, obA, R32, R64] at *; omega) | (simp only [ob, obA, R32, R64] at *; and_intros <;> omega)) ?_
      refine V_icmpeq dX8_readOr_24 (tgt := 34) (by decide) (by simp only [R32, R64] at *; omega) (fun q24 => ?_) (fun q24 => ?_)
      · refine V_ex sX8_readOr_34 (by rfl) (by first | exact trivial | exact Or.inr rfl | exact Or.inl rfl | (simp only [ob, obA, R32, R64] at *; omega) | (simp only [ob, obA, R32, R64] at *; and_intros <;> omega)) ?_
        refine V_goto dX8_readOr_35 (tgt := 39) (by decide) ?_
        refine V_callV (M := MX8_readOr) (N := MX8_refuse) dX8_readOr_39 lRX8_49 kX8_refuse rfl (rfl) rfl (c_rRefuse (d := 0) hκ) rfl rfl (Nat.le_of_ble_eq_true rfl) (fit_rm (by omega)) (⟨Nat.le_of_ble_eq_true rfl, Nat.le_of_ble_eq_true rfl⟩) (fun v Ω' hp => ?_) (fun _ _ h => h.elim)
        obtain ⟨rfl, rfl⟩ := hp
        refine V_zret dX8_readOr_42 rfl (by first | exact Or.inl rfl | exact Or.inr rfl | exact b2i_01 _) (by decide) (no 2 (by decide) (by rw [pOr]; dsimp only; rw [if_pos (by omega)]))
      · refine V_ex sX8_readOr_27 (by rfl) (by first | exact trivial | exact Or.inr rfl | exact Or.inl rfl | (simp only [ob, obA, R32, R64] at *; omega) | (simp only [ob, obA, R32, R64] at *; and_intros <;> omega)) ?_
        refine V_icmplt dX8_readOr_31 (tgt := 38) (by decide) (by simp only [R32, R64] at *; omega) (fun q31 => ?_) (fun q31 => ?_)
        · refine V_ex sX8_readOr_38 (by rfl) (by first | exact trivial | exact Or.inr rfl | exact Or.inl rfl | (simp only [ob, obA, R32, R64] at *; omega) | (simp only [ob, obA, R32, R64] at *; and_intros <;> omega)) ?_
          refine V_callV (M := MX8_readOr) (N := MX8_refuse) dX8_readOr_39 lRX8_49 kX8_refuse rfl (rfl) rfl (c_rRefuse (d := 0) hκ) rfl rfl (Nat.le_of_ble_eq_true rfl) (fit_rm (by omega)) (⟨Nat.le_of_ble_eq_true rfl, Nat.le_of_ble_eq_true rfl⟩) (fun v Ω' hp => ?_) (fun _ _ h => h.elim)
          obtain ⟨rfl, rfl⟩ := hp
          refine V_zret dX8_readOr_42 rfl (by first | exact Or.inl rfl | exact Or.inr rfl | exact b2i_01 _) (by decide) (no 1 (by decide) (by rw [pOr]; dsimp only; rw [if_neg (by omega)]))
        · refine V_ex sX8_readOr_34 (by rfl) (by first | exact trivial | exact Or.inr rfl | exact Or.inl rfl | (simp only [ob, obA, R32, R64] at *; omega) | (simp only [ob, obA, R32, R64] at *; and_intros <;> omega)) ?_
          refine V_goto dX8_readOr_35 (tgt := 39) (by decide) ?_
          refine V_callV (M := MX8_readOr) (N := MX8_refuse) dX8_readOr_39 lRX8_49 kX8_refuse rfl (rfl) rfl (c_rRefuse (d := 0) hκ) rfl rfl (Nat.le_of_ble_eq_true rfl) (fit_rm (by omega)) (⟨Nat.le_of_ble_eq_true rfl, Nat.le_of_ble_eq_true rfl⟩) (fun v Ω' hp => ?_) (fun _ _ h => h.elim)
          obtain ⟨rfl, rfl⟩ := hp
          refine V_zret dX8_readOr_42 rfl (by first | exact Or.inl rfl | exact Or.inr rfl | exact b2i_01 _) (by decide) (no 2 (by decide) (by rw [pOr]; dsimp only; rw [if_pos (by omega)]))
set_option maxRecDepth 100000 in
set_option maxHeartbeats 4000000 in
theorem c_readOr {κ : Kx} (hκ : KOK κ) {s N : Nat} {w v : Nat → Int} (hE : eE s w v N) : ∀ k, k ≤ 6 → eC κ MX8_readOr (3 + 7 * k) s (6 - (k : Int)) w v N (pOr w v k) := by
  intro k
  induction k with
  | zero => intro _ G i c h; exact c_rOr0 hκ hE (by omega) h
  | succ k ih =>
    intro hk G i c h
    have hrec := ih (by omega)
    have hG := pOr_res hE.2.1 k
    have e : (6 : Int) - ((k + 1 : Nat) : Int) + 1 = 6 - (k : Int) := by omega
    have h1 : eC κ MX8_readPart (4 + 7 * k) s (6 - ((k + 1 : Nat) : Int)) w v N (pPart w v (pOr w v k)) := fun G i c h => c_rPart hκ hE (by rw [e]; exact hrec) hG (by omega) (by omega) h
    have h2 : eC κ MX8_readProduct (5 + 7 * k) s (6 - ((k + 1 : Nat) : Int)) w v N (pProd w v (pOr w v k)) := fun G i c h => c_rProduct hκ hE h1 (pPart_res hE.2.1 hG (by omega)) (by omega) (by omega) h
    have h3 : eC κ MX8_readSum (6 + 7 * k) s (6 - ((k + 1 : Nat) : Int)) w v N (pSum w v (pOr w v k)) := fun G i c h => c_rSum hκ hE h2 (pProd_res hE.2.1 hG (by omega)) (by omega) (by omega) h
    have h4 : eC κ MX8_readTest (7 + 7 * k) s (6 - ((k + 1 : Nat) : Int)) w v N (pTst w v (pOr w v k)) := fun G i c h => c_rTest hκ hE h3 (pSum_res hE.2.1 hG (by omega)) (by omega) (by omega) h
    have h5 : eC κ MX8_readNot (8 + 7 * k) s (6 - ((k + 1 : Nat) : Int)) w v N (pNot w v (pOr w v k)) := fun G i c h => c_rNot hκ hE h4 (pTst_res hE.2.1 hG (by omega)) (by omega) (by omega) h
    have h6 : eC κ MX8_readAnd (9 + 7 * k) s (6 - ((k + 1 : Nat) : Int)) w v N (pAnd w v (pOr w v k)) := fun G i c h => c_rAnd hκ hE h5 (pNot_res hE.2.1 hG (by omega)) (by omega) (by omega) h
    exact c_rOr hκ hE (by omega) h6 (pAnd_res hE.2.1 hG (by omega)) (by omega) (by omega) h
/-- the set at a holds the leaves g -/
def lsIs (G : Wd) (a : Nat) (g : List Int) : Prop := G.1 a 1 = (g.length : Nat) ∧ ∀ z : Int, lsHas (G.1 (a + 1)) z = decide (z ∈ g)
theorem lsIs_congr {G G' : Wd} {a : Nat} {g : List Int} (h : lsIs G a g) (h1 : G'.1 a 1 = G.1 a 1) (h2 : G'.1 (a + 1) = G.1 (a + 1)) : lsIs G' a g := ⟨by rw [h1]; exact h.1, fun z => by rw [h2]; exact h.2 z⟩
theorem lsIs_range {G : Wd} {a : Nat} {g : List Int} (h : lsIs G a g) {z : Int} (hz : z ∈ g) : 0 ≤ z ∧ z < 2016 := by
  have h1 := h.2 z
  rw [decide_eq_true hz] at h1
  unfold lsHas at h1
  simp only [Bool.and_eq_true, decide_eq_true_eq] at h1
  exact h1.1
theorem lsTake_ne {G : Wd} {a x : Nat} {z : Int} (h1 : x ≠ a) (h2 : x ≠ a + 1) : (lsTake G a z).1 x = G.1 x := by
  unfold lsTake
  split
  · funext j; simp only [upd2_eq]; rw [if_neg (by omega), if_neg (by omega)]
  · rfl
theorem lsTake_0 {G : Wd} {a j : Nat} {z : Int} (h : j ≠ 1) : (lsTake G a z).1 a j = G.1 a j := by
  unfold lsTake
  split
  · simp only [upd2_eq]; rw [if_neg (by omega), if_neg (by omega)]
  · rfl
theorem lsTake_2 {G : Wd} {a : Nat} {z : Int} : (lsTake G a z).2 = G.2 := by unfold lsTake; split <;> rfl
theorem lsEmpty_ne {G : Wd} {a x : Nat} (h1 : x ≠ a) (h2 : x ≠ a + 1) : (lsEmpty G a).1 x = G.1 x := by
  unfold lsEmpty
  funext j; simp only [upd2_eq]; rw [if_neg (by omega), if_neg h2]
theorem lsIs_empty (G : Wd) (a : Nat) : lsIs (lsEmpty G a) a [] := by
  refine ⟨by simp [lsEmpty, upd2_eq], fun z => ?_⟩
  have e : (lsEmpty G a).1 (a + 1) = fillT 63 0 (G.1 (a + 1)) := by
    unfold lsEmpty
    funext j; simp only [upd2_eq]; rw [if_neg (by omega), if_true]
  rw [e]
  unfold lsHas
  by_cases c : 0 ≤ z ∧ z < 2016
  · have : fillT 63 0 (G.1 (a + 1)) (z / 32).toNat = 0 := by rw [fillT, if_pos (by omega)]
    rw [this, bt1_0]; simp
  · simp [c]
theorem lsIs_take {G : Wd} {a : Nat} {g : List Int} {z : Int} (h : lsIs G a g) (hz : 0 ≤ z ∧ z < 2016) (hn : z ∉ g) : lsIs (lsTake G a z) a (g ++ [z]) := by
  have h0 : lsHas (G.1 (a + 1)) z = false := by rw [h.2 z, decide_eq_false hn]
  have e : lsTake G a z = uI (uI G (a + 1) (z / 32).toNat (iOr (G.1 (a + 1) (z / 32).toNat) (iShl 1 (z % 32)))) a 1 (G.1 a 1 + 1) := by rw [lsTake, if_pos ⟨hz.1, hz.2, h0⟩]
  rw [e]
  refine ⟨by simp [upd2_eq, h.1], fun y => ?_⟩
  have hm := md32 z
  have hf : ∀ j, (uI (uI G (a + 1) (z / 32).toNat (iOr (G.1 (a + 1) (z / 32).toNat) (iShl 1 (z % 32)))) a 1 (G.1 a 1 + 1)).1 (a + 1) j = if j = (z / 32).toNat then iOr (G.1 (a + 1) (z / 32).toNat) (iShl 1 (z % 32)) else G.1 (a + 1) j := fun j => by
    simp only [upd2_eq]
    rw [if_neg (by omega)]
    by_cases c : j = (z / 32).toNat
    · rw [if_pos ⟨trivial, c⟩, if_pos c]
    · rw [if_neg (by omega), if_neg c]
  have hy := h.2 y
  unfold lsHas at hy ⊢
  rw [hf]
  by_cases c : 0 ≤ y ∧ y < 2016
  · simp only [c, and_self, decide_true, Bool.true_and] at hy ⊢
    by_cases c2 : (y / 32).toNat = (z / 32).toNat
    · rw [if_pos c2, hm.2, iOr_bit, iShl_bit hm.1 (md32 y).1, ← c2, hy]
      by_cases c3 : y = z
      · subst c3; simp
      · have : ¬ (y % 32).toNat = (z % 32).toNat := by omega
        simp [this, c3]
    · rw [if_neg c2, hy]
      have : y ≠ z := fun q => c2 (by rw [q])
      simp [this]
  · simp only [c, decide_false, Bool.false_and] at hy ⊢
    have h1 : ¬ y ∈ g := fun q => by rw [decide_eq_true q] at hy; cases hy
    have h2 : y ≠ z := fun q => c (by rw [q]; exact hz)
    simp [h1, h2]
