/-! TornLeaves: seed -/
/-- a throw, either way -/
def cX2 (G : Wd) (A : Ab) (k : Int) : String → Om → Prop := fun E Ω' => ((k = 1 ∧ E = NSE) ∨ (k = 2 ∧ E = IAE)) ∧ ∃ G' s', Ω' = Wm G' ∧ RC G' s' A ∧ FrC G G'
theorem cX2_1 {G : Wd} {s : Nat} {A : Ab} {k : Int} (h : RC G s A) (e : k = 1) : cX2 G A k NSE (Wm G) := ⟨Or.inl ⟨e, rfl⟩, G, s, rfl, h, FrC.refl G⟩
theorem cX2_2 {G : Wd} {s : Nat} {A : Ab} {k : Int} (h : RC G s A) (e : k = 2) : cX2 G A k IAE (Wm G) := ⟨Or.inr ⟨e, rfl⟩, G, s, rfl, h, FrC.refl G⟩
theorem iUsh_32767 {x : Int} (hx : R32 x) : iAnd (iUsh x 16) 32767 = x / 65536 % 32768 := by
  rw [iAnd_32767]
  unfold iUsh
  have h1 := pk_ushr (Int32.ofInt x) (Int32.ofInt 16) 16 (by decide)
  have h3 := bv_toNat ((((Int32.ofInt x).toUInt32 >>> ((Int32.ofInt 16).toUInt32 &&& Int32.toUInt32 31)).toInt32).toInt)
  rw [← bv_i32, Int32.ofInt_toInt, h1] at h3
  have h4 : (((Int32.ofInt x).toBitVec.toNat : Nat) : Int) = x % 4294967296 := by rw [bv_i32]; exact bv_toNat x
  omega
/-- what a seed skips -/
def skV (v : Int) : Int := w32 v / 65536 % 32768
theorem skV_c (v : Int) : iAnd (iUsh v 16) 32767 = skV v := by
  have : iUsh v 16 = iUsh (w32 v) 16 := by unfold iUsh; rw [w32_of]
  rw [this]; exact iUsh_32767 (w32_R v)
theorem skV_R (v : Int) : 0 ≤ skV v ∧ skV v < 32768 := by unfold skV; omega
def seedZ (A : Ab) (j : Nat) (v : Int) : Int := thB (bkJ A.1 j) (skV v % ((bkJ A.1 j).2.2.1 - ((bkJ A.1 j).2.2.2.2.2.length : Nat)))
def seedL (j : Nat) : Nat → Int → Ab → Ab
  | 0, _, A => A
  | r + 1, v, A => seedL j r (v * 1103515245 + 12345) (tornA A j [seedZ A j (v * 1103515245 + 12345)] ((j : Int), seedZ A j (v * 1103515245 + 12345), -1))
def seedP (A : Ab) (i v k : Int) : Int × Int × Ab := if ¬ inB A.1 i then (1, 0, A) else if ¬ (0 ≤ k ∧ k ≤ 60) then (2, 0, A) else if 60 < ((bkA A i).2.2.2.2.2.length : Nat) + k ∨ (bkA A i).2.2.1 - ((bkA A i).2.2.2.2.2.length : Nat) < k then (0, -1, refA A 1) else (0, (((bkA A i).2.2.2.2.2.length + k.toNat : Nat) : Int), seedL i.toNat k.toNat v A)
theorem lsHas_f {G : Wd} {a : Nat} {g : List Int} (h : lsIs G a g) : lsHas (G.1 (a + 1)) = fun z => decide (z ∈ g) := funext h.2
set_option maxRecDepth 100000 in
set_option maxHeartbeats 4000000 in
theorem c_xSeed {κ : Kx} (hκ : KOK κ) {d s : Nat} {K i v k : Int} {A : Ab} {G : Wd} (hC : RC G s A) (hI : Inv K A) (hR : aR G) (hi : R32 i) (hk : R32 k) (hd : 20 ≤ d) : Ct κ MX11_seed d 16 128 [VR 1, VI i, VI v, VI k] (Wm G) (cP G (seedP A i v k).2.2 ((seedP A i v k).1 = 0) (some (VI (seedP A i v k).2.1))) (cX2 G A (seedP A i v k).1) := by
  refine Ct_of hκ kX11_seed.1 rfl (Nat.le_of_ble_eq_true rfl) (ls := [some (VR 1), some (VI i), some (VI v), some (VI k), none, none, none, none]) rfl (fun μ => ?_)
  have hN := RC_N hC hI.1 hR
  have hs8 : s = 8 ∨ s = 61 := hC.1.2.2
  by_cases hin : inB A.1 i
  · obtain ⟨j, hj⟩ : ∃ j : Nat, i = (j : Int) := ⟨i.toNat, by have := hin.1; omega⟩
    subst hj
    have hj : j < A.1.1.length := by have := hin.2; omega
    by_cases hk2 : 0 ≤ k ∧ k ≤ 60
    · obtain ⟨hB, hj6, hok, k0, k2, k1, -, kg⟩ := NC_b hN hj
      have hlv := hok.2.2.2.1
      have h60 := hok.2.2.2.2.2.2.2.1
      have hSz := c_size (κ := κ) hκ (d := 3) (G := G) hB.2.2.1
      rw [kg.1] at hSz
      have hTh := c_there (κ := κ) hκ (d := 3) (G := G) hB (by omega)
      rw [kg.1, k1] at hTh
      have rf : (60 < ((bkJ A.1 j).2.2.2.2.2.length : Nat) + k ∨ (bkJ A.1 j).2.2.1 - ((bkJ A.1 j).2.2.2.2.2.length : Nat) < k) → cP G (seedP A (j : Nat) v k).2.2 ((seedP A (j : Nat) v k).1 = 0) (some (VI (seedP A (j : Nat) v k).2.1)) (some (VI (-1))) (Wm (uI G 120 1 (G.1 120 1 + 1))) := fun q => by
        have e : seedP A (j : Nat) v k = (0, -1, refA A 1) := by unfold seedP; rw [if_neg (fun h => h hin), if_neg (fun h => h hk2)]; exact if_pos q
        rw [e]
        exact ⟨rfl, rfl, _, s, rfl, RC_ref hC hI (by omega), FrC.u G _ (by omega)⟩
      by_cases hq : 60 < ((bkJ A.1 j).2.2.2.2.2.length : Nat) + k ∨ (bkJ A.1 j).2.2.1 - ((bkJ A.1 j).2.2.2.2.2.length : Nat) < k
      · refine V_ex sX11_seed_0 (by rfl) (by first | exact trivial | exact Or.inr rfl | exact Or.inl rfl | (simp only [ob, obA, R32, R64] at *; omega) | (simp only [ob, obA, R32, R64] at *; and_intros <;> omega)) ?_
        refine V_callV (M := MX11_seed) (N := MX11_needBook) dX11_seed_2 lRX11_154 kX11_needBook rfl (rfl) rfl (c_nBook (d := 6) hκ hN hi (by omega)) rfl rfl (Nat.le_of_ble_eq_true rfl) (fit_rm (by omega)) (⟨Nat.le_of_ble_eq_true rfl, Nat.le_of_ble_eq_true rfl⟩) (fun v Ω' hp => ?_) (fun E Ω' h => absurd hin h.1)
        obtain ⟨-, rfl, rfl⟩ := hp
        rw [Int.toNat_natCast]
        refine V_ex sX11_seed_5 (by rfl) (by first | exact trivial | exact Or.inr rfl | exact Or.inl rfl | (simp only [ob, obA, R32, R64] at *; omega) | (simp only [ob, obA, R32, R64] at *; and_intros <;> omega)) ?_
        refine V_callS (M := MX11_seed) (N := MX11_needWithin) dX11_seed_13 lRX11_281 kX11_needWithin rfl (c_needWithin (d := 6) hκ (by unfold R64; omega) (by unfold R64; omega) (by unfold R64; omega) (by omega)) rfl rfl (Nat.le_of_ble_eq_true rfl) (fit_rm (by omega)) (⟨Nat.le_of_ble_eq_true rfl, Nat.le_of_ble_eq_true rfl⟩) (fun v Ω' hp => ?_) (fun E Ω' h => absurd hk2 h.1)
        obtain ⟨-, rfl, rfl⟩ := hp
        refine V_ex sX11_seed_16 (by simp only [Option.toList, List.cons_append, List.nil_append, exN, ex1, gI, gL, gR, pI, pL, pR, lget, lset1, lset2, kl, b2I, b2L, nob, ob32, ob64, xGet, xPut, xLen, xLd, xLdR, xSt, obA, true_and, and_true, and_self, eq_self, Nat.reduceEqDiff, Nat.zero_ne_one, reduceIte, Nat.reduceLeDiff, and_false, false_and, show skd 0 5 = 2 from rfl, hB.1, hB.2.1, upd2_eq, Int.reduceToNat, Int.toNat_natCast]; rfl) (by first | exact trivial | exact Or.inr rfl | exact Or.inl rfl | (simp only [ob, obA, R32, R64] at *; omega) | (simp only [ob, obA, R32, R64] at *; and_intros <;> omega)) ?_
        refine V_callV (M := MX11_seed) (N := MX5_size) dX11_seed_21 lRX11_188 kX5_size rfl (hB.2.2.1.1) rfl (hSz) rfl rfl (Nat.le_of_ble_eq_true rfl) (fit_rm (by omega)) (⟨Nat.le_of_ble_eq_true rfl, Nat.le_of_ble_eq_true rfl⟩) (fun v Ω' hp => ?_) (fun _ _ h => h.elim)
        obtain ⟨rfl, rfl⟩ := hp
        refine V_ex sX11_seed_24 (by rfl) (by first | exact trivial | exact Or.inr rfl | exact Or.inl rfl | (simp only [ob, obA, R32, R64] at *; omega) | (simp only [ob, obA, R32, R64] at *; and_intros <;> omega)) ?_
        refine V_icmpgt dX11_seed_28 (tgt := 40) (by decide) (by simp only [R32, R64] at *; omega) (fun q28 => ?_) (fun q28 => ?_)
        · refine V_ex sX11_seed_40 (by simp only [Option.toList, List.cons_append, List.nil_append, exN, ex1, gI, gL, gR, pI, pL, pR, lget, lset1, lset2, kl, b2I, b2L, nob, ob32, ob64, xGet, xPut, xLen, xLd, xLdR, xSt, obA, true_and, and_true, and_self, eq_self, Nat.reduceEqDiff, Nat.zero_ne_one, reduceIte, Nat.reduceLeDiff, and_false, false_and, show skd 10 6 = 2 from rfl, show LF.1 1 = some (.inl 10) from rfl, show LF.2 1 6 = some 114 from rfl, hB.1, hB.2.1, upd2_eq, Int.reduceToNat, Int.toNat_natCast]; rfl) (by first | exact trivial | exact Or.inr rfl | exact Or.inl rfl | (simp only [ob, obA, R32, R64] at *; omega) | (simp only [ob, obA, R32, R64] at *; and_intros <;> omega)) ?_
          refine V_callV (M := MX11_seed) (N := MX2_refuse) dX11_seed_45 lRX11_106 kX2_refuse rfl (rfl) rfl (c_refuse (d := 3) hκ (e := 114) (w := 1) (Or.inl rfl) (by omega) (by omega)) rfl rfl (Nat.le_of_ble_eq_true rfl) (fit_rm (by omega)) (⟨Nat.le_of_ble_eq_true rfl, Nat.le_of_ble_eq_true rfl⟩) (fun v Ω' hp => ?_) (fun _ _ h => h.elim)
          obtain ⟨rfl, rfl⟩ := hp
          refine V_iret dX11_seed_48 rfl (by decide) (rf hq)
        · refine V_ex sX11_seed_31 (by rfl) (by first | exact trivial | exact Or.inr rfl | exact Or.inl rfl | (simp only [ob, obA, R32, R64] at *; omega) | (simp only [ob, obA, R32, R64] at *; and_intros <;> omega)) ?_
          refine V_callV (M := MX11_seed) (N := MX0_there) dX11_seed_34 lRX11_285 kX0_there rfl (hB.1) rfl (hTh) rfl rfl (Nat.le_of_ble_eq_true rfl) (fit_rm (by omega)) (⟨Nat.le_of_ble_eq_true rfl, Nat.le_of_ble_eq_true rfl⟩) (fun v Ω' hp => ?_) (fun _ _ h => h.elim)
          obtain ⟨rfl, rfl⟩ := hp
          refine V_icmple dX11_seed_37 (tgt := 49) (by decide) (by simp only [R32, R64] at *; omega) (fun q37 => ?_) (fun q37 => ?_)
          · omega
          · refine V_ex sX11_seed_40 (by simp only [Option.toList, List.cons_append, List.nil_append, exN, ex1, gI, gL, gR, pI, pL, pR, lget, lset1, lset2, kl, b2I, b2L, nob, ob32, ob64, xGet, xPut, xLen, xLd, xLdR, xSt, obA, true_and, and_true, and_self, eq_self, Nat.reduceEqDiff, Nat.zero_ne_one, reduceIte, Nat.reduceLeDiff, and_false, false_and, show skd 10 6 = 2 from rfl, show LF.1 1 = some (.inl 10) from rfl, show LF.2 1 6 = some 114 from rfl, hB.1, hB.2.1, upd2_eq, Int.reduceToNat, Int.toNat_natCast]; rfl) (by first | exact trivial | exact Or.inr rfl | exact Or.inl rfl | (simp only [ob, obA, R32, R64] at *; omega) | (simp only [ob, obA, R32, R64] at *; and_intros <;> omega)) ?_
            refine V_callV (M := MX11_seed) (N := MX2_refuse) dX11_seed_45 lRX11_106 kX2_refuse rfl (rfl) rfl (c_refuse (d := 3) hκ (e := 114) (w := 1) (Or.inl rfl) (by omega) (by omega)) rfl rfl (Nat.le_of_ble_eq_true rfl) (fit_rm (by omega)) (⟨Nat.le_of_ble_eq_true rfl, Nat.le_of_ble_eq_true rfl⟩) (fun v Ω' hp => ?_) (fun _ _ h => h.elim)
            obtain ⟨rfl, rfl⟩ := hp
            refine V_iret dX11_seed_48 rfl (by decide) (rf hq)
      · have e : seedP A (j : Nat) v k = (0, (((bkJ A.1 j).2.2.2.2.2.length + k.toNat : Nat) : Int), seedL j k.toNat v A) := by unfold seedP; rw [if_neg (fun h => h hin), if_neg (fun h => h hk2)]; exact if_neg hq
        have L : ∀ (r : Nat) (ii v1 : Int) (A1 : Ab) (G1 : Wd) (x : Option Vl), ii + r = k → 0 ≤ ii → RC G1 s A1 → Inv K A1 → (∀ y, R32 (G1.1 (s + 5) y)) → FrC G G1 → A1.1.1.length = A.1.1.length → (bkJ A1.1 j).2.2.1 = (bkJ A.1 j).2.2.1 → (bkJ A1.1 j).2.2.2.2.2.length + r = (bkJ A.1 j).2.2.2.2.2.length + k.toNat → seedL j r v1 A1 = seedL j k.toNat v A → V κ MX11_seed (rmD d 16 128) (cP G (seedP A (j : Nat) v k).2.2 ((seedP A (j : Nat) v k).1 = 0) (some (VI (seedP A (j : Nat) v k).2.1))) (cX2 G A (seedP A (j : Nat) v k).1) 16 128 μ (0 + 1 + 1 + 0 + 0) (0 + 6 + 6 + 0 + 0) (Wm (G1)) 55 [some (VR 1), some (VI (j : Nat)), some (VI v), some (VI k), some (VR (s + 7 + 5 * j)), some (VI v1), some (VI ii), x] [] := by
          intro r
          induction r with
          | zero =>
            intro ii v1 A1 G1 x hir hi0 hC1 hI1 hcd fr hl1 hlv1 hgl he
            rw [seedL] at he
            have hj1 : j < A1.1.1.length := by omega
            obtain ⟨-, -, -, g0, g2, g1, -, gg⟩ := NC_b ⟨hC1.1.1, hC1.1.2.2, hC1.2.1, hI1.1, hcd, hC1.2.2.1⟩ hj1
            have hSz1 := c_size (κ := κ) hκ (d := 3) (G := G1) hB.2.2.1
            rw [gg.1] at hSz1
            refine V_ex sX11_seed_55 (by rfl) (by first | exact trivial | exact Or.inr rfl | exact Or.inl rfl | (simp only [ob, obA, R32, R64] at *; omega) | (simp only [ob, obA, R32, R64] at *; and_intros <;> omega)) ?_
            refine V_icmpge dX11_seed_58 (tgt := 116) (by decide) (by simp only [R32, R64] at *; omega) (fun q58 => ?_) (fun q58 => ?_)
            · refine V_ex sX11_seed_116 (by simp only [Option.toList, List.cons_append, List.nil_append, exN, ex1, gI, gL, gR, pI, pL, pR, lget, lset1, lset2, kl, b2I, b2L, nob, ob32, ob64, xGet, xPut, xLen, xLd, xLdR, xSt, obA, true_and, and_true, and_self, eq_self, Nat.reduceEqDiff, Nat.zero_ne_one, reduceIte, Nat.reduceLeDiff, and_false, false_and, show skd 0 5 = 2 from rfl, hB.1, hB.2.1, upd2_eq, Int.reduceToNat, Int.toNat_natCast]; rfl) (by first | exact trivial | exact Or.inr rfl | exact Or.inl rfl | (simp only [ob, obA, R32, R64] at *; omega) | (simp only [ob, obA, R32, R64] at *; and_intros <;> omega)) ?_
              refine V_callV (M := MX11_seed) (N := MX5_size) dX11_seed_121 lRX11_188 kX5_size rfl (hB.2.2.1.1) rfl (hSz1) rfl rfl (Nat.le_of_ble_eq_true rfl) (fit_rm (by omega)) (⟨Nat.le_of_ble_eq_true rfl, Nat.le_of_ble_eq_true rfl⟩) (fun v Ω' hp => ?_) (fun _ _ h => h.elim)
              obtain ⟨rfl, rfl⟩ := hp
              refine V_iret dX11_seed_124 rfl (by decide) ?_
              rw [e]
              refine ⟨rfl, viE ?_, G1, s, rfl, ?_, fr⟩
              · show ((bkJ A1.1 j).2.2.2.2.2.length : Int) = (((bkJ A.1 j).2.2.2.2.2.length + k.toNat : Nat) : Int); rw [← hgl, Nat.add_zero]
              · rw [← he]; exact hC1
            · omega
          | succ r ih =>
            intro ii v1 A1 G1 x hir hi0 hC1 hI1 hcd fr hl1 hlv1 hgl he
            rw [seedL] at he
            have hj1 : j < A1.1.1.length := by omega
            have hN1 : NC G1 s A1.1 := ⟨hC1.1.1, hC1.1.2.2, hC1.2.1, hI1.1, hcd, hC1.2.2.1⟩
            obtain ⟨-, -, hok1, g0, g2, g1, -, gg⟩ := NC_b hN1 hj1
            obtain ⟨w1, w2, w3, w4, w5⟩ := gone_ok hI1.1 hj1
            have hTh1 := c_there (κ := κ) hκ (d := 3) (G := G1) hB (by omega)
            rw [gg.1, g1] at hTh1
            have hsk := skV_R (v1 * 1103515245 + 12345)
            have ht0 : 0 < (bkJ A1.1 j).2.2.1 - ((bkJ A1.1 j).2.2.2.2.2.length : Nat) := by rw [hlv1]; omega
            have hmod : (skV (v1 * 1103515245 + 12345)).tmod ((bkJ A1.1 j).2.2.1 - ((bkJ A1.1 j).2.2.2.2.2.length : Nat)) = skV (v1 * 1103515245 + 12345) % ((bkJ A1.1 j).2.2.1 - ((bkJ A1.1 j).2.2.2.2.2.length : Nat)) := tm_nn (by omega)
            have hm0 := Int.emod_nonneg (skV (v1 * 1103515245 + 12345)) (show (bkJ A1.1 j).2.2.1 - ((bkJ A1.1 j).2.2.2.2.2.length : Nat) ≠ 0 by omega)
            have hm1 := Int.emod_lt_of_pos (skV (v1 * 1103515245 + 12345)) ht0
            have hAt := c_thereAt (κ := κ) hκ (d := 3) (a := s + 7 + 5 * j) (i := skV (v1 * 1103515245 + 12345) % ((bkJ A1.1 j).2.2.1 - ((bkJ A1.1 j).2.2.2.2.2.length : Nat))) (G := G1) hB hm0 (by unfold R32; omega) (by rw [g1]; omega) (by omega)
            rw [g1, show s + 7 + 5 * j + 2 = s + 7 + 5 * j + 1 + 1 by omega, lsHas_f gg] at hAt
            have hz := thB_ok (b := bkJ A1.1 j) w1 w3 (by omega) hm0 hm1
            have hzz : seedZ A1 j (v1 * 1103515245 + 12345) = thB (bkJ A1.1 j) (skV (v1 * 1103515245 + 12345) % ((bkJ A1.1 j).2.2.1 - ((bkJ A1.1 j).2.2.2.2.2.length : Nat))) := rfl
            rw [hzz] at he
            unfold thB at hz he
            have hsc := skV_c (v1 * 1103515245 + 12345)
            generalize thAt (fun z => decide (z ∈ (bkJ A1.1 j).2.2.2.2.2)) (bkJ A1.1 j).2.2.1.toNat 0 (skV (v1 * 1103515245 + 12345) % ((bkJ A1.1 j).2.2.1 - ((bkJ A1.1 j).2.2.2.2.2.length : Nat))) = z at *
            have hTl := (T_lt hI1 hj1).1
            have hC2 := RC_torn (i := (j : Int)) (z := z) (o := -1) hC1 hI1 hj1 (by omega) hz.2.2 (Or.inl rfl)
            have hI2 := Inv_torn (i := (j : Int)) (z := z) (o := -1) hI1 hj1 rfl ⟨hz.1, hz.2.1⟩ hz.2.2 (Or.inl rfl) (by rw [if_pos rfl]; omega)
            have hTo := c_tearO (κ := κ) hκ (d := 5) (s := s) (j := j) (i := (j : Int)) (z := z) (o := -1) (G := G1) hN1 hj1 (by unfold R32; omega) (by unfold R32; decide) (by rw [hC1.2.2.2.1.1]; omega) (by omega)
            rw [if_pos rfl] at hC2 hI2
            have hFr2 := fr.trans (FrC.ntw G1 hs8 hj6 (j : Int) z (-1))
            have hcd2 : ∀ y, R32 ((ntW (twW G1 (s + 7 + 5 * j + 1) z (-1)) (j : Int) z (-1)).1 (s + 5) y) := fun y => by
              unfold ntW
              rw [iv (by omega), iv (by omega), iv (by omega), iv (by omega), twW_ne (by omega) (by omega)]
              exact hcd y
            generalize ntW (twW G1 (s + 7 + 5 * j + 1) z (-1)) (j : Int) z (-1) = G2 at *
            generalize hA2 : tornA A1 j [z] ((j : Int), z, -1) = A2 at *
            have hb2 : bkJ A2.1 j = bkGo' (bkJ A1.1 j) ((bkJ A1.1 j).2.2.2.2.2 ++ [z]) := by
              rw [← hA2]; show bkJ (setGo _ _ _) j = _; rw [bkJ_go hj1, if_pos rfl]
            have hl2 : A2.1.1.length = A.1.1.length := by rw [← hA2, ← hl1]; exact setGo_len _ _ _
            refine V_ex sX11_seed_55 (by rfl) (by first | exact trivial | exact Or.inr rfl | exact Or.inl rfl | (simp only [ob, obA, R32, R64] at *; omega) | (simp only [ob, obA, R32, R64] at *; and_intros <;> omega)) ?_
            refine V_icmpge dX11_seed_58 (tgt := 116) (by decide) (by simp only [R32, R64] at *; omega) (fun q58 => ?_) (fun q58 => ?_)
            · omega
            · refine V_ex sX11_seed_61 (by rfl) (by first | exact trivial | exact Or.inr rfl | exact Or.inl rfl | (simp only [ob, obA, R32, R64] at *; omega) | (simp only [ob, obA, R32, R64] at *; and_intros <;> omega)) ?_
              refine V_callV (M := MX11_seed) (N := MX0_there) dX11_seed_75 lRX11_285 kX0_there rfl (hB.1) rfl (hTh1) rfl rfl (Nat.le_of_ble_eq_true rfl) (fit_rm (by omega)) (⟨Nat.le_of_ble_eq_true rfl, Nat.le_of_ble_eq_true rfl⟩) (fun v Ω' hp => ?_) (fun _ _ h => h.elim)
              obtain ⟨rfl, rfl⟩ := hp
              refine V_ex sX11_seed_78 (by rfl) (by first | exact trivial | exact Or.inr rfl | exact Or.inl rfl | (simp only [ob, obA, R32, R64] at *; omega) | (simp only [ob, obA, R32, R64] at *; and_intros <;> omega)) ?_
              refine V_ifle dX11_seed_82 (tgt := 110) (by decide) (by simp only [R32, R64] at *; omega) (fun q82 => ?_) (fun q82 => ?_)
              · omega
              · refine V_ex sX11_seed_85 (by simp only [Option.toList, List.cons_append, List.nil_append, exN, ex1, gI, gL, gR, pI, pL, pR, lget, lset1, lset2, kl, b2I, b2L, nob, ob32, ob64, xGet, xPut, xLen, xLd, xLdR, xSt, obA, true_and, and_true, and_self, eq_self, Nat.reduceEqDiff, Nat.zero_ne_one, reduceIte, Nat.reduceLeDiff, and_false, false_and, hB.1, hB.2.1, hsc, hmod, hB.1, hB.2.1, upd2_eq, Int.reduceToNat, Int.toNat_natCast]; rfl) (by (simp only [ob, obA]; refine ⟨?_, ?_, ?_⟩ <;> first | (unfold R32; omega) | omega)) ?_
                refine V_callV (M := MX11_seed) (N := MX0_thereAt) dX11_seed_103 lRX11_289 kX0_thereAt rfl (hB.1) rfl (hAt) rfl rfl (Nat.le_of_ble_eq_true rfl) (fit_rm (by omega)) (⟨Nat.le_of_ble_eq_true rfl, Nat.le_of_ble_eq_true rfl⟩) (fun v Ω' hp => ?_) (fun _ _ h => h.elim)
                obtain ⟨rfl, rfl⟩ := hp
                refine V_ex sX11_seed_106 (by rfl) (by first | exact trivial | exact Or.inr rfl | exact Or.inl rfl | (simp only [ob, obA, R32, R64] at *; omega) | (simp only [ob, obA, R32, R64] at *; and_intros <;> omega)) ?_
                refine V_callV (M := MX11_seed) (N := MX11_tearOut) dX11_seed_107 lRX11_254 kX11_tearOut rfl (rfl) rfl (hTo) rfl rfl (Nat.le_of_ble_eq_true rfl) (fit_rm (by omega)) (⟨Nat.le_of_ble_eq_true rfl, Nat.le_of_ble_eq_true rfl⟩) (fun v Ω' hp => ?_) (fun _ _ h => h.elim)
                obtain ⟨rfl, rfl⟩ := hp
                refine V_ex sX11_seed_110 (by rfl) (by first | exact trivial | exact Or.inr rfl | exact Or.inl rfl | (simp only [ob, obA, R32, R64] at *; omega) | (simp only [ob, obA, R32, R64] at *; and_intros <;> omega)) ?_
                refine V_goto dX11_seed_113 (tgt := 55) (by decide) ?_
                exact ih (ii + 1) (v1 * 1103515245 + 12345) A2 G2 _ (by omega) (by omega) hC2 hI2 hcd2 hFr2 hl2 (by rw [hb2]; exact hlv1) (by rw [hb2]; show ((bkJ A1.1 j).2.2.2.2.2 ++ [z]).length + r = _; rw [List.length_append]; simp only [List.length_singleton]; omega) he
        refine V_ex sX11_seed_0 (by rfl) (by first | exact trivial | exact Or.inr rfl | exact Or.inl rfl | (simp only [ob, obA, R32, R64] at *; omega) | (simp only [ob, obA, R32, R64] at *; and_intros <;> omega)) ?_
        refine V_callV (M := MX11_seed) (N := MX11_needBook) dX11_seed_2 lRX11_154 kX11_needBook rfl (rfl) rfl (c_nBook (d := 6) hκ hN hi (by omega)) rfl rfl (Nat.le_of_ble_eq_true rfl) (fit_rm (by omega)) (⟨Nat.le_of_ble_eq_true rfl, Nat.le_of_ble_eq_true rfl⟩) (fun v Ω' hp => ?_) (fun E Ω' h => absurd hin h.1)
        obtain ⟨-, rfl, rfl⟩ := hp
        rw [Int.toNat_natCast]
        refine V_ex sX11_seed_5 (by rfl) (by first | exact trivial | exact Or.inr rfl | exact Or.inl rfl | (simp only [ob, obA, R32, R64] at *; omega) | (simp only [ob, obA, R32, R64] at *; and_intros <;> omega)) ?_
        refine V_callS (M := MX11_seed) (N := MX11_needWithin) dX11_seed_13 lRX11_281 kX11_needWithin rfl (c_needWithin (d := 6) hκ (by unfold R64; omega) (by unfold R64; omega) (by unfold R64; omega) (by omega)) rfl rfl (Nat.le_of_ble_eq_true rfl) (fit_rm (by omega)) (⟨Nat.le_of_ble_eq_true rfl, Nat.le_of_ble_eq_true rfl⟩) (fun v Ω' hp => ?_) (fun E Ω' h => absurd hk2 h.1)
        obtain ⟨-, rfl, rfl⟩ := hp
        refine V_ex sX11_seed_16 (by simp only [Option.toList, List.cons_append, List.nil_append, exN, ex1, gI, gL, gR, pI, pL, pR, lget, lset1, lset2, kl, b2I, b2L, nob, ob32, ob64, xGet, xPut, xLen, xLd, xLdR, xSt, obA, true_and, and_true, and_self, eq_self, Nat.reduceEqDiff, Nat.zero_ne_one, reduceIte, Nat.reduceLeDiff, and_false, false_and, show skd 0 5 = 2 from rfl, hB.1, hB.2.1, upd2_eq, Int.reduceToNat, Int.toNat_natCast]; rfl) (by first | exact trivial | exact Or.inr rfl | exact Or.inl rfl | (simp only [ob, obA, R32, R64] at *; omega) | (simp only [ob, obA, R32, R64] at *; and_intros <;> omega)) ?_
        refine V_callV (M := MX11_seed) (N := MX5_size) dX11_seed_21 lRX11_188 kX5_size rfl (hB.2.2.1.1) rfl (hSz) rfl rfl (Nat.le_of_ble_eq_true rfl) (fit_rm (by omega)) (⟨Nat.le_of_ble_eq_true rfl, Nat.le_of_ble_eq_true rfl⟩) (fun v Ω' hp => ?_) (fun _ _ h => h.elim)
        obtain ⟨rfl, rfl⟩ := hp
        refine V_ex sX11_seed_24 (by rfl) (by first | exact trivial | exact Or.inr rfl | exact Or.inl rfl | (simp only [ob, obA, R32, R64] at *; omega) | (simp only [ob, obA, R32, R64] at *; and_intros <;> omega)) ?_
        refine V_icmpgt dX11_seed_28 (tgt := 40) (by decide) (by simp only [R32, R64] at *; omega) (fun q28 => ?_) (fun q28 => ?_)
        · omega
        · refine V_ex sX11_seed_31 (by rfl) (by first | exact trivial | exact Or.inr rfl | exact Or.inl rfl | (simp only [ob, obA, R32, R64] at *; omega) | (simp only [ob, obA, R32, R64] at *; and_intros <;> omega)) ?_
          refine V_callV (M := MX11_seed) (N := MX0_there) dX11_seed_34 lRX11_285 kX0_there rfl (hB.1) rfl (hTh) rfl rfl (Nat.le_of_ble_eq_true rfl) (fit_rm (by omega)) (⟨Nat.le_of_ble_eq_true rfl, Nat.le_of_ble_eq_true rfl⟩) (fun v Ω' hp => ?_) (fun _ _ h => h.elim)
          obtain ⟨rfl, rfl⟩ := hp
          refine V_icmple dX11_seed_37 (tgt := 49) (by decide) (by simp only [R32, R64] at *; omega) (fun q37 => ?_) (fun q37 => ?_)
          · refine V_ex sX11_seed_49 (by rfl) (by first | exact trivial | exact Or.inr rfl | exact Or.inl rfl | (simp only [ob, obA, R32, R64] at *; omega) | (simp only [ob, obA, R32, R64] at *; and_intros <;> omega)) ?_
            exact L k.toNat 0 v A G _ (by omega) (by omega) hC hI (fun y => hR _ _) (FrC.refl G) rfl rfl rfl rfl
          · omega
    · have e : seedP A (j : Nat) v k = (2, 0, A) := by unfold seedP; rw [if_neg (fun h => h hin), if_pos hk2]
      refine V_ex sX11_seed_0 (by rfl) (by first | exact trivial | exact Or.inr rfl | exact Or.inl rfl | (simp only [ob, obA, R32, R64] at *; omega) | (simp only [ob, obA, R32, R64] at *; and_intros <;> omega)) ?_
      refine V_callV (M := MX11_seed) (N := MX11_needBook) dX11_seed_2 lRX11_154 kX11_needBook rfl (rfl) rfl (c_nBook (d := 6) hκ hN hi (by omega)) rfl rfl (Nat.le_of_ble_eq_true rfl) (fit_rm (by omega)) (⟨Nat.le_of_ble_eq_true rfl, Nat.le_of_ble_eq_true rfl⟩) (fun v Ω' hp => ?_) (fun E Ω' h => absurd hin h.1)
      obtain ⟨-, rfl, rfl⟩ := hp
      rw [Int.toNat_natCast]
      refine V_ex sX11_seed_5 (by rfl) (by first | exact trivial | exact Or.inr rfl | exact Or.inl rfl | (simp only [ob, obA, R32, R64] at *; omega) | (simp only [ob, obA, R32, R64] at *; and_intros <;> omega)) ?_
      refine V_callS (M := MX11_seed) (N := MX11_needWithin) dX11_seed_13 lRX11_281 kX11_needWithin rfl (c_needWithin (d := 6) hκ (by unfold R32 at hk; unfold R64; omega) (by unfold R64; omega) (by unfold R64; omega) (by omega)) rfl rfl (Nat.le_of_ble_eq_true rfl) (fit_rm (by omega)) (⟨Nat.le_of_ble_eq_true rfl, Nat.le_of_ble_eq_true rfl⟩) (fun v Ω' hp => ?_) (fun E Ω' h => ⟨by rw [h.2.1, h.2.2]; exact cX2_2 hC (by rw [e]), rfl, Nat.le_of_ble_eq_true rfl, Nat.le_of_ble_eq_true rfl⟩)
      skip
      exact absurd hp.1 hk2
  · have e : seedP A i v k = (1, 0, A) := by unfold seedP; rw [if_pos hin]
    refine V_ex sX11_seed_0 (by rfl) (by first | exact trivial | exact Or.inr rfl | exact Or.inl rfl | (simp only [ob, obA, R32, R64] at *; omega) | (simp only [ob, obA, R32, R64] at *; and_intros <;> omega)) ?_
    refine V_callV (M := MX11_seed) (N := MX11_needBook) dX11_seed_2 lRX11_154 kX11_needBook rfl (rfl) rfl (c_nBook (d := 6) hκ hN hi (by omega)) rfl rfl (Nat.le_of_ble_eq_true rfl) (fit_rm (by omega)) (⟨Nat.le_of_ble_eq_true rfl, Nat.le_of_ble_eq_true rfl⟩) (fun v Ω' hp => ?_) (fun E Ω' h => ⟨by rw [h.2.1, h.2.2]; exact cX2_1 hC (by rw [e]), rfl, Nat.le_of_ble_eq_true rfl, Nat.le_of_ble_eq_true rfl⟩)
    skip
    exact absurd hp.1 hin
