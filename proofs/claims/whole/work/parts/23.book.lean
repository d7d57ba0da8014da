/-! Book and Shelf: where they lie, and the small methods -/
def BKa (a : Nat) : Prop := LF.1 a = some (.inl 0) ∧ LF.2 a 5 = some (a + 1) ∧ LSa (a + 1) ∧ LF.2 a 6 = some (a + 3) ∧ LSa (a + 3)
def SHa (s : Nat) : Prop := s = 8 ∨ s = 61
theorem lsa_dec (a : Nat) (h : (decide (LF.1 a = some (.inl 4)) && (decide (LF.2 a 0 = some (a + 1)) && decide (LF.1 (a + 1) = some (.inr (0, 63))))) = true) : LSa a := by
  simp only [Bool.and_eq_true, decide_eq_true_eq] at h
  exact h
theorem bka_dec (a : Nat) (h : (decide (LF.1 a = some (.inl 0)) && (decide (LF.2 a 5 = some (a + 1)) && (decide (LF.2 a 6 = some (a + 3)) && ((decide (LF.1 (a + 1) = some (.inl 4)) && (decide (LF.2 (a + 1) 0 = some (a + 1 + 1)) && decide (LF.1 (a + 1 + 1) = some (.inr (0, 63))))) && (decide (LF.1 (a + 3) = some (.inl 4)) && (decide (LF.2 (a + 3) 0 = some (a + 3 + 1)) && decide (LF.1 (a + 3 + 1) = some (.inr (0, 63))))))))) = true) : BKa a := by
  simp only [Bool.and_eq_true, decide_eq_true_eq] at h
  exact ⟨h.1, h.2.1, h.2.2.2.1, h.2.2.1, h.2.2.2.2⟩
theorem sh_facts {s : Nat} (h : SHa s) : LF.1 s = some (.inl 6) ∧ LF.2 s 0 = some (s + 1) ∧ LF.1 (s + 1) = some (.inr (3, 6)) ∧ LF.2 s 2 = some (s + 2) ∧ LF.1 (s + 2) = some (.inr (0, 8)) ∧ LF.2 s 3 = some (s + 3) ∧ LF.1 (s + 3) = some (.inr (4, 8)) ∧ LF.2 s 5 = some (s + 4) ∧ LF.1 (s + 4) = some (.inr (0, 10)) ∧ LF.2 s 7 = some (s + 5) ∧ LF.1 (s + 5) = some (.inr (0, 500)) ∧ LF.2 s 9 = some (s + 6) ∧ LF.1 (s + 6) = some (.inr (0, 64)) := by
  rcases h with rfl | rfl <;> exact ⟨rfl, rfl, rfl, rfl, rfl, rfl, rfl, rfl, rfl, rfl, rfl, rfl, rfl⟩
theorem sh_books {s : Nat} (h : SHa s) : ∀ i, i < 6 → LF.2 (s + 1) i = some (s + 7 + 5 * i) ∧ BKa (s + 7 + 5 * i) := by
  intro i hi
  have e : ∀ i, i < 6 → (LF.2 (8 + 1) i = some (8 + 7 + 5 * i) ∧ LF.2 (61 + 1) i = some (61 + 7 + 5 * i)) := by decide +kernel
  rcases h with rfl | rfl
  · refine ⟨(e i hi).1, ?_⟩
    match i, hi with
    | 0, _ => exact bka_dec _ (by decide +kernel)
    | 1, _ => exact bka_dec _ (by decide +kernel)
    | 2, _ => exact bka_dec _ (by decide +kernel)
    | 3, _ => exact bka_dec _ (by decide +kernel)
    | 4, _ => exact bka_dec _ (by decide +kernel)
    | 5, _ => exact bka_dec _ (by decide +kernel)
    | n + 6, h => omega
  · refine ⟨(e i hi).2, ?_⟩
    match i, hi with
    | 0, _ => exact bka_dec _ (by decide +kernel)
    | 1, _ => exact bka_dec _ (by decide +kernel)
    | 2, _ => exact bka_dec _ (by decide +kernel)
    | 3, _ => exact bka_dec _ (by decide +kernel)
    | 4, _ => exact bka_dec _ (by decide +kernel)
    | 5, _ => exact bka_dec _ (by decide +kernel)
    | n + 6, h => omega
theorem sh_copies {s : Nat} (h : SHa s) : ∀ i, i < 8 → LF.2 (s + 3) i = some (s + 37 + 2 * i) ∧ LSa (s + 37 + 2 * i) := by
  intro i hi
  have e : ∀ i, i < 8 → (LF.2 (8 + 3) i = some (8 + 37 + 2 * i) ∧ LF.2 (61 + 3) i = some (61 + 37 + 2 * i)) := by decide +kernel
  rcases h with rfl | rfl
  · refine ⟨(e i hi).1, ?_⟩
    match i, hi with
    | 0, _ => exact lsa_dec _ (by decide +kernel)
    | 1, _ => exact lsa_dec _ (by decide +kernel)
    | 2, _ => exact lsa_dec _ (by decide +kernel)
    | 3, _ => exact lsa_dec _ (by decide +kernel)
    | 4, _ => exact lsa_dec _ (by decide +kernel)
    | 5, _ => exact lsa_dec _ (by decide +kernel)
    | 6, _ => exact lsa_dec _ (by decide +kernel)
    | 7, _ => exact lsa_dec _ (by decide +kernel)
    | n + 8, h => omega
  · refine ⟨(e i hi).2, ?_⟩
    match i, hi with
    | 0, _ => exact lsa_dec _ (by decide +kernel)
    | 1, _ => exact lsa_dec _ (by decide +kernel)
    | 2, _ => exact lsa_dec _ (by decide +kernel)
    | 3, _ => exact lsa_dec _ (by decide +kernel)
    | 4, _ => exact lsa_dec _ (by decide +kernel)
    | 5, _ => exact lsa_dec _ (by decide +kernel)
    | 6, _ => exact lsa_dec _ (by decide +kernel)
    | 7, _ => exact lsa_dec _ (by decide +kernel)
    | n + 8, h => omega
/-- an int is the same machine word as its remainder -/
def w32 (z : Int) : Int := (Int32.ofInt z).toInt
theorem w32_R (z : Int) : R32 (w32 z) := ⟨Int32.le_toInt _, by have := Int32.toInt_lt (Int32.ofInt z); unfold w32; omega⟩
theorem w32_of (z : Int) : Int32.ofInt (w32 z) = Int32.ofInt z := Int32.ofInt_toInt _
theorem w32_id {z : Int} (h : R32 z) : w32 z = z := i32_toInt h
section WW
variable {κ : Kx} {M : Ms} {rm : Room} {P : Option Vl → Om → Prop} {PX : String → Om → Prop} {mc ms : Nat} {μ : Mu} {cells slots : Nat} {Ω : Om} {pc : Nat} {ls : List (Option Vl)} {st : List Vl}
theorem V_w32 {z : Int} (k : V κ M rm P PX mc ms μ cells slots Ω pc ls (.inl (w32 z) :: st)) : V κ M rm P PX mc ms μ cells slots Ω pc ls (.inl z :: st) := by
  intro g H locs lsA hH hL hl
  have k1 := k g H locs lsA hH hL hl
  simp only [List.map_cons, tr, w32_of] at k1 ⊢
  exact k1
end WW
set_option maxRecDepth 100000 in
set_option maxHeartbeats 4000000 in
theorem c_leafOf {κ : Kx} (hκ : KOK κ) {d : Nat} {p : Int} {G : Wd} (hp : 1 ≤ p) (hp2 : R32 p) : Ct κ MX11_leafOf d 0 0 [VI p] (Wm G) (keepG G (VI ((p - 1) / 2))) noX := by
  refine Ct_of hκ kX11_leafOf.1 rfl (Nat.le_of_ble_eq_true rfl) (ls := [some (VI p)]) rfl (fun μ => ?_)
  refine V_ex sX11_leafOf_0 (by rfl) (by exact ⟨by unfold R32 at *; omega, by unfold R32; omega, by decide⟩) ?_
  rw [td_nn (by omega)]
  refine V_iret dX11_leafOf_5 rfl (by decide) ⟨rfl, rfl⟩
set_option maxRecDepth 100000 in
set_option maxHeartbeats 4000000 in
theorem c_hasLeaf {κ : Kx} (hκ : KOK κ) {d a : Nat} {i : Int} {G : Wd} (hS : BKa a) (hi : R32 i) (hl : R32 (G.1 a 1)) : Ct κ MX0_hasLeaf d 0 0 [VR a, VI i] (Wm G) (keepG G (VI (b2i (decide (0 ≤ i ∧ i < G.1 a 1))))) noX := by
  refine Ct_of hκ kX0_hasLeaf.1 rfl (Nat.le_of_ble_eq_true rfl) (ls := [some (VR a), some (VI i)]) rfl (fun μ => ?_)
  refine V_ex sX0_hasLeaf_0 (by rfl) (by exact trivial) ?_
  refine V_iflt dX0_hasLeaf_1 (tgt := 16) (by decide) (by exact hi) (fun q => ?_) (fun q => ?_)
  · refine V_ex sX0_hasLeaf_16 (by rfl) (by exact trivial) ?_
    refine V_zret dX0_hasLeaf_17 rfl (by first | exact Or.inl rfl | exact Or.inr rfl | exact b2i_01 _) (by decide) ⟨by rw [decide_eq_false (by omega)]; rfl, rfl⟩
  · refine V_ex sX0_hasLeaf_4 (by simp only [exN, ex1, gI, gL, gR, pI, pL, pR, lget, lset1, lset2, kl, b2I, b2L, nob, ob32, ob64, xGet, xPut, xLen, xLd, xLdR, xSt, obA, true_and, and_true, and_self, eq_self, Nat.reduceEqDiff, Nat.zero_ne_one, reduceIte, Nat.reduceLeDiff, and_false, false_and, show skd 0 1 = 0 from rfl, hS.1]; rfl) (by exact trivial) ?_
    refine V_icmpge dX0_hasLeaf_9 (tgt := 16) (by decide) (by exact ⟨hi, hl⟩) (fun q2 => ?_) (fun q2 => ?_)
    · refine V_ex sX0_hasLeaf_16 (by rfl) (by exact trivial) ?_
      refine V_zret dX0_hasLeaf_17 rfl (by first | exact Or.inl rfl | exact Or.inr rfl | exact b2i_01 _) (by decide) ⟨by rw [decide_eq_false (by omega)]; rfl, rfl⟩
    · refine V_ex sX0_hasLeaf_12 (by rfl) (by exact trivial) ?_
      refine V_goto dX0_hasLeaf_13 (tgt := 17) (by decide) ?_
      refine V_zret dX0_hasLeaf_17 rfl (by first | exact Or.inl rfl | exact Or.inr rfl | exact b2i_01 _) (by decide) ⟨by rw [decide_eq_true (by omega)]; rfl, rfl⟩
set_option maxRecDepth 100000 in
set_option maxHeartbeats 4000000 in
theorem c_hasPage {κ : Kx} (hκ : KOK κ) {d a : Nat} {i : Int} {G : Wd} (hS : BKa a) (hi : R32 i) (hl : 0 ≤ G.1 a 1 ∧ G.1 a 1 ≤ 100000) : Ct κ MX0_hasPage d 0 0 [VR a, VI i] (Wm G) (keepG G (VI (b2i (decide (1 ≤ i ∧ i ≤ 2 * G.1 a 1))))) noX := by
  refine Ct_of hκ kX0_hasPage.1 rfl (Nat.le_of_ble_eq_true rfl) (ls := [some (VR a), some (VI i)]) rfl (fun μ => ?_)
  refine V_ex sX0_hasPage_0 (by rfl) (by exact trivial) ?_
  refine V_icmplt dX0_hasPage_2 (tgt := 19) (by decide) (by exact ⟨hi, by unfold R32; omega⟩) (fun q => ?_) (fun q => ?_)
  · refine V_ex sX0_hasPage_19 (by rfl) (by exact trivial) ?_
    refine V_zret dX0_hasPage_20 rfl (by first | exact Or.inl rfl | exact Or.inr rfl | exact b2i_01 _) (by decide) ⟨by rw [decide_eq_false (by omega)]; rfl, rfl⟩
  · refine V_ex sX0_hasPage_5 (by simp only [exN, ex1, gI, gL, gR, pI, pL, pR, lget, lset1, lset2, kl, b2I, b2L, nob, ob32, ob64, xGet, xPut, xLen, xLd, xLdR, xSt, obA, true_and, and_true, and_self, eq_self, Nat.reduceEqDiff, Nat.zero_ne_one, reduceIte, Nat.reduceLeDiff, and_false, false_and, show skd 0 1 = 0 from rfl, hS.1]; rfl) (by exact trivial) ?_
    refine V_icmpgt dX0_hasPage_12 (tgt := 19) (by decide) (by exact ⟨hi, by unfold R32; omega⟩) (fun q2 => ?_) (fun q2 => ?_)
    · refine V_ex sX0_hasPage_19 (by rfl) (by exact trivial) ?_
      refine V_zret dX0_hasPage_20 rfl (by first | exact Or.inl rfl | exact Or.inr rfl | exact b2i_01 _) (by decide) ⟨by rw [decide_eq_false (by omega)]; rfl, rfl⟩
    · refine V_ex sX0_hasPage_15 (by rfl) (by exact trivial) ?_
      refine V_goto dX0_hasPage_16 (tgt := 20) (by decide) ?_
      refine V_zret dX0_hasPage_20 rfl (by first | exact Or.inl rfl | exact Or.inr rfl | exact b2i_01 _) (by decide) ⟨by rw [decide_eq_true (by omega)]; rfl, rfl⟩
set_option maxRecDepth 100000 in
set_option maxHeartbeats 4000000 in
theorem c_there {κ : Kx} (hκ : KOK κ) {d a : Nat} {G : Wd} (hS : BKa a) (hd : 1 ≤ d) : Ct κ MX0_there d 0 0 [VR a] (Wm G) (keepG G (VI (G.1 a 1 - G.1 (a + 1) 1))) noX := by
  refine Ct_of hκ kX0_there.1 rfl (Nat.le_of_ble_eq_true rfl) (ls := [some (VR a)]) rfl (fun μ => ?_)
  refine V_ex sX0_there_0 (by simp only [exN, ex1, gI, gL, gR, pI, pL, pR, lget, lset1, lset2, kl, b2I, b2L, nob, ob32, ob64, xGet, xPut, xLen, xLd, xLdR, xSt, obA, true_and, and_true, and_self, eq_self, Nat.reduceEqDiff, Nat.zero_ne_one, reduceIte, Nat.reduceLeDiff, and_false, false_and, show skd 0 1 = 0 from rfl, show skd 0 5 = 2 from rfl, hS.1, hS.2.1]; rfl) (by exact trivial) ?_
  refine V_callV (M := MX0_there) (N := MX5_size) (As := []) (rest := [VI (G.1 a 1)]) dX0_there_8 lRX0_40 kX5_size rfl (hS.2.2.1.1) rfl (c_size (d := 0) hκ hS.2.2.1) rfl rfl (Nat.le_of_ble_eq_true rfl) (fit_rm (by omega)) (⟨Nat.le_refl _, Nat.le_refl _⟩) (fun v Ω' hp => ?_) (fun _ _ h => h.elim)
  obtain ⟨rfl, rfl⟩ := hp
  refine V_ex sX0_there_11 (by rfl) (by exact trivial) ?_
  refine V_iret dX0_there_12 rfl (by decide) ⟨rfl, rfl⟩
/-- the number on a page of any kind but a told one -/
def ownN (kind mark page : Int) : Int := if kind = 2 then (if mark < page then page - mark else 0) else if kind = 3 then 2 * page - 1 else if kind = 4 then 2 * page else if kind = 5 then w32 (swC mark 18 page 1) else page
set_option maxRecDepth 100000 in
set_option maxHeartbeats 4000000 in
theorem c_ownNumber {κ : Kx} (hκ : KOK κ) {d a : Nat} {p : Int} {G : Wd} (hS : BKa a) (hp : R32 p) (hk : R32 (G.1 a 0)) (hm : R32 (G.1 a 2)) (hd : 1 ≤ d) : Ct κ MX0_ownNumber d 0 0 [VR a, VI p] (Wm G) (keepG G (VI (ownN (G.1 a 0) (G.1 a 2) p))) noX := by
  refine Ct_of hκ kX0_ownNumber.1 rfl (Nat.le_of_ble_eq_true rfl) (ls := [some (VR a), some (VI p)]) rfl (fun μ => ?_)
  refine V_ex sX0_ownNumber_0 (by simp only [exN, ex1, gI, gL, gR, pI, pL, pR, lget, lset1, lset2, kl, b2I, b2L, nob, ob32, ob64, xGet, xPut, xLen, xLd, xLdR, xSt, obA, true_and, and_true, and_self, eq_self, Nat.reduceEqDiff, Nat.zero_ne_one, reduceIte, Nat.reduceLeDiff, and_false, false_and, show skd 0 0 = 0 from rfl, hS.1]; rfl) (by exact trivial) ?_
  refine V_tsw dX0_ownNumber_4 (dt := 76) (tg := [36, 55, 61, 65]) hk (by decide) (by decide) (by decide) (fun q => ?_) ⟨fun q => ?_, fun q => ?_, fun q => ?_, fun q => ?_, trivial⟩
  · refine V_ex sX0_ownNumber_76 (by rfl) (by exact trivial) ?_
    refine V_iret dX0_ownNumber_77 rfl (by decide) ⟨by rw [ownN, if_neg (by omega), if_neg (by omega), if_neg (by omega), if_neg (by omega)], rfl⟩
  · refine V_ex sX0_ownNumber_36 (by simp only [exN, ex1, gI, gL, gR, pI, pL, pR, lget, lset1, lset2, kl, b2I, b2L, nob, ob32, ob64, xGet, xPut, xLen, xLd, xLdR, xSt, obA, true_and, and_true, and_self, eq_self, Nat.reduceEqDiff, Nat.zero_ne_one, reduceIte, Nat.reduceLeDiff, and_false, false_and, show skd 0 2 = 0 from rfl, hS.1]; rfl) (by exact trivial) ?_
    refine V_icmple dX0_ownNumber_41 (tgt := 53) (by decide) (by exact ⟨hp, hm⟩) (fun q2 => ?_) (fun q2 => ?_)
    · refine V_ex sX0_ownNumber_53 (by rfl) (by exact trivial) ?_
      refine V_iret dX0_ownNumber_54 rfl (by decide) ⟨by rw [ownN, if_pos q, if_neg (by omega)], rfl⟩
    · refine V_ex sX0_ownNumber_44 (by simp only [exN, ex1, gI, gL, gR, pI, pL, pR, lget, lset1, lset2, kl, b2I, b2L, nob, ob32, ob64, xGet, xPut, xLen, xLd, xLdR, xSt, obA, true_and, and_true, and_self, eq_self, Nat.reduceEqDiff, Nat.zero_ne_one, reduceIte, Nat.reduceLeDiff, and_false, false_and, show skd 0 2 = 0 from rfl, hS.1]; rfl) (by exact trivial) ?_
      refine V_goto dX0_ownNumber_50 (tgt := 54) (by decide) ?_
      refine V_iret dX0_ownNumber_54 rfl (by decide) ⟨by rw [ownN, if_pos q, if_pos q2], rfl⟩
  · refine V_ex sX0_ownNumber_55 (by rfl) (by exact trivial) ?_
    refine V_iret dX0_ownNumber_60 rfl (by decide) ⟨by rw [ownN, if_neg (by omega), if_pos (by omega)], rfl⟩
  · refine V_ex sX0_ownNumber_61 (by rfl) (by exact trivial) ?_
    refine V_iret dX0_ownNumber_64 rfl (by decide) ⟨by rw [ownN, if_neg (by omega), if_neg (by omega), if_pos (by omega)], rfl⟩
  · refine V_ex sX0_ownNumber_65 (by simp only [exN, ex1, gI, gL, gR, pI, pL, pR, lget, lset1, lset2, kl, b2I, b2L, nob, ob32, ob64, xGet, xPut, xLen, xLd, xLdR, xSt, obA, true_and, and_true, and_self, eq_self, Nat.reduceEqDiff, Nat.zero_ne_one, reduceIte, Nat.reduceLeDiff, and_false, false_and, show skd 0 2 = 0 from rfl, hS.1]; rfl) (by exact hp) ?_
    refine V_callS (M := MX0_ownNumber) (N := MX3_standsWithout) (As := [VI (G.1 a 2), VL p]) (rest := []) dX0_ownNumber_71 lRX0_48 kX3_standsWithout rfl (c_standsWithout (d := 0) hκ hm (r32_64 hp)) rfl rfl (Nat.le_of_ble_eq_true rfl) (fit_rm (by omega)) (⟨Nat.le_refl _, Nat.le_refl _⟩) (fun v Ω' hp => ?_) (fun _ _ h => h.elim)
    obtain ⟨rfl, rfl⟩ := hp
    refine V_ex sX0_ownNumber_74 (by rfl) (by exact trivial) ?_
    refine V_w32 ?_
    refine V_iret dX0_ownNumber_75 rfl (by decide) ⟨by rw [ownN, if_neg (by omega), if_neg (by omega), if_neg (by omega), if_pos (by omega)], rfl⟩
