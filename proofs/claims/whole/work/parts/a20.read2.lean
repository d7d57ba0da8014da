/-! TornLeaves: read asked for -/
set_option maxRecDepth 100000 in
set_option maxHeartbeats 4000000 in
theorem c_xRead {κ : Kx} (hκ : KOK κ) {d s : Nat} {K i fr to e bz : Int} {many : Bool} {A : Ab} {G : Wd} (hC : RC G s A) (hI : Inv K A) (hR : aR G) (hi : R32 i) (hfr : R32 fr) (hto : R32 to) (he : R32 e) (hbz : R32 bz) (hd : 20 ≤ d) : Ct κ MX11_read d 16 128 [VR 1, VI i, VI fr, VI to, VI e, VI bz, VI (b2i many)] (Wm G) (cP G A ((readP A i fr to e bz many).1 = 0) (some (VL (readP A i fr to e bz many).2))) (cX2 G A (readP A i fr to e bz many).1) := by
  refine Ct_of hκ kX11_read.1 rfl (Nat.le_of_ble_eq_true rfl) (ls := [some (VR 1), some (VI i), some (VI fr), some (VI to), some (VI e), some (VI bz), some (VI (b2i many)), none, none, none, none, none, none, none]) rfl (fun μ => ?_)
  have hN := RC_N hC hI.1 hR
  have hs8 : s = 8 ∨ s = 61 := hC.1.2.2
  have no1 : ¬ (inB A.1 i ∧ (1 ≤ fr ∧ fr ≤ 2 * (bkA A i).2.2.1) ∧ 1 ≤ to ∧ to ≤ 2 * (bkA A i).2.2.1) → cX2 G A (readP A i fr to e bz many).1 NSE (Wm G) := fun q => by
    have ee : readP A i fr to e bz many = (1, 0) := by unfold readP; rw [if_pos q]
    exact cX2_1 hC (by rw [ee])
  by_cases h1 : inB A.1 i ∧ 1 ≤ fr ∧ fr ≤ 2 * (bkA A i).2.2.1
  · by_cases h2 : inB A.1 i ∧ 1 ≤ to ∧ to ≤ 2 * (bkA A i).2.2.1
    · have hall : inB A.1 i ∧ (1 ≤ fr ∧ fr ≤ 2 * (bkA A i).2.2.1) ∧ 1 ≤ to ∧ to ≤ 2 * (bkA A i).2.2.1 := ⟨h1.1, h1.2, h2.2⟩
      have no2 : ¬ (fr ≤ to ∧ (1 ≤ e ∧ e ≤ 100) ∧ (bz = 0 ∨ 2 ≤ bz ∧ bz ≤ 9)) → cX2 G A (readP A i fr to e bz many).1 IAE (Wm G) := fun q => by
        have ee : readP A i fr to e bz many = (2, 0) := by unfold readP; rw [if_neg (fun h => h hall), if_pos q]
        exact cX2_2 hC (by rw [ee])
      obtain ⟨j, hj⟩ : ∃ j : Nat, i = (j : Int) := ⟨i.toNat, by have := h1.1.1; omega⟩
      subst hj
      have hj : j < A.1.1.length := by have := h1.1.2; omega
      obtain ⟨hB, hj6, hok, -⟩ := NC_b hN hj
      have hlv := hok.2.2.2.1
      have hfr2 : 1 ≤ fr ∧ fr ≤ 2 * (bkJ A.1 j).2.2.1 := h1.2
      have hto2 : 1 ≤ to ∧ to ≤ 2 * (bkJ A.1 j).2.2.1 := h2.2
      have hfr64 := r32_64 hfr
      have hto64 := r32_64 hto
      have he64 := r32_64 he
      have hbz64 := r32_64 hbz
      have R1 : R64 1 := by unfold R64; omega
      have R100 : R64 100 := by unfold R64; omega
      have R4000 : R64 4000 := by unfold R64; omega
      have R2 : R64 2 := by unfold R64; omega
      have R9 : R64 9 := by unfold R64; omega
      have main : ∀ (cells slots : Nat), cells ≤ 16 → slots ≤ 128 → fr ≤ to → 1 ≤ e ∧ e ≤ 100 → (bz = 0 ∨ 2 ≤ bz ∧ bz ≤ 9) → V κ MX11_read (rmD d 16 128) (cP G A ((readP A (j : Nat) fr to e bz many).1 = 0) (some (VL (readP A (j : Nat) fr to e bz many).2))) (cX2 G A (readP A (j : Nat) fr to e bz many).1) 16 128 μ cells slots (Wm (G)) 52 [some (VR 1), some (VI (j : Nat)), some (VI fr), some (VI to), some (VI e), some (VI bz), some (VI (b2i many)), some (VR (s + 7 + 5 * j)), none, none, none, none, none, none] [] := fun cells slots hcl hsl h3 h4 h5 => by
        obtain ⟨f0, rfl⟩ : ∃ f0 : Nat, fr = (f0 : Int) := ⟨fr.toNat, by omega⟩
        obtain ⟨t0, rfl⟩ : ∃ t0 : Nat, to = (t0 : Int) := ⟨to.toNat, by omega⟩
        obtain ⟨e0, rfl⟩ : ∃ e0 : Nat, e = (e0 : Int) := ⟨e.toNat, by omega⟩
        have ee : readP A (j : Nat) (f0 : Int) (t0 : Int) (e0 : Int) bz many = (0, readV A j f0 t0 e0 bz many) := by unfold readP; rw [if_neg (fun h => h hall), if_neg (fun h => h ⟨h3, h4, h5⟩)]; rfl
        have R : ∀ (n : Nat), f0 + n ≤ t0 + 1 → 0 ≤ rdF (rdNum A.1 A.2.1 j bz) f0 e0 n ∧ 0 ≤ rdF (fun p => if 0 < rdNum A.1 A.2.1 j bz p then 1 else 0) f0 e0 n ∧ rdF (fun p => if 0 < rdNum A.1 A.2.1 j bz p then 1 else 0) f0 e0 n ≤ n := by
          intro n
          induction n with
          | zero => intro h; exact ⟨Int.le_refl _, Int.le_refl _, Int.le_refl _⟩
          | succ n ih =>
            intro h
            obtain ⟨a1, a2, a3⟩ := ih (by omega)
            have hr := rdNum_R (v := A.2.1) (bz := bz) hok (p := ((f0 + n : Nat) : Int)) (by omega)
            rw [rdF, rdF]
            refine ⟨?_, ?_, ?_⟩
            · split <;> omega
            · split <;> (try split) <;> omega
            · split <;> (try split) <;> omega
        have L : ∀ (k n : Nat) (pp : Int) (G1 : Wd) (x : Option Vl), f0 + n + k = t0 + 1 → pp = ((f0 + n : Nat) : Int) → RC G1 s A → ScN s G G1 → NC G1 s A.1 → V κ MX11_read (rmD d 16 128) (cP G A ((readP A (j : Nat) (f0 : Nat) (t0 : Nat) (e0 : Nat) bz many).1 = 0) (some (VL (readP A (j : Nat) (f0 : Nat) (t0 : Nat) (e0 : Nat) bz many).2))) (cX2 G A (readP A (j : Nat) (f0 : Nat) (t0 : Nat) (e0 : Nat) bz many).1) 16 128 μ cells slots (Wm (G1)) 64 [some (VR 1), some (VI (j : Nat)), some (VI (f0 : Nat)), some (VI (t0 : Nat)), some (VI (e0 : Nat)), some (VI bz), some (VI (b2i many)), some (VR (s + 7 + 5 * j)), some (VL (rdF (rdNum A.1 A.2.1 j bz) f0 e0 n)), none, some (VI (rdF (fun p => if 0 < rdNum A.1 A.2.1 j bz p then 1 else 0) f0 e0 n)), some (VI (tpR e0 n : Nat)), some (VI pp), x] [] := by
          intro k
          induction k with
          | zero =>
            intro n pp G1 x hnk hpp hC1 f1 n1
            have en : n = t0 + 1 - f0 := by omega
            obtain ⟨a1, a2, a3⟩ := R n (by omega)
            have fin : ∀ z, z = readV A j f0 t0 e0 bz many → cP G A ((readP A (j : Nat) (f0 : Nat) (t0 : Nat) (e0 : Nat) bz many).1 = 0) (some (VL (readP A (j : Nat) (f0 : Nat) (t0 : Nat) (e0 : Nat) bz many).2)) (some (VL z)) (Wm G1) := fun z hz => cP_n hC hI.1 f1 n1 (by rw [ee]) (by rw [ee, hz])
            have hCS : cells ≤ 16 ∧ slots ≤ 128 := ⟨hcl, hsl⟩
            refine V_ex sX11_read_64 (by rfl) (by first | exact trivial | exact Or.inr rfl | exact Or.inl rfl | (simp only [ob, obA, R32, R64] at *; omega) | (simp only [ob, obA, R32, R64] at *; and_intros <;> omega) | (simp [ob, obA])) ?_
            refine V_icmpgt dX11_read_67 (tgt := 132) (by decide) (by simp only [R32, R64] at *; omega) (fun q67 => ?_) (fun q67 => ?_)
            · refine V_ex sX11_read_132 (by rfl) (by first | exact trivial | exact Or.inr rfl | exact Or.inl rfl | (simp only [ob, obA, R32, R64] at *; omega) | (simp only [ob, obA, R32, R64] at *; and_intros <;> omega) | (simp [ob, obA])) ?_
              refine V_ifeqB dX11_read_134 (tgt := 143) (by decide) (fun q134 => ?_) (fun q134 => ?_)
              · refine V_ex sX11_read_143 (by rfl) (by first | exact trivial | exact Or.inr rfl | exact Or.inl rfl | (simp only [ob, obA, R32, R64] at *; omega) | (simp only [ob, obA, R32, R64] at *; and_intros <;> omega) | (simp [ob, obA])) ?_
                refine V_lret dX11_read_145 rfl (hCS) (fin _ (by unfold readV; rw [if_neg (by rw [q134]; decide), en]))
              · refine V_ex sX11_read_137 (by rfl) (by first | exact trivial | exact Or.inr rfl | exact Or.inl rfl | (simp only [ob, obA, R32, R64] at *; omega) | (simp only [ob, obA, R32, R64] at *; and_intros <;> omega) | (simp [ob, obA])) ?_
                refine V_goto dX11_read_140 (tgt := 145) (by decide) ?_
                refine V_lret dX11_read_145 rfl (hCS) (fin _ (by unfold readV; rw [if_pos q134, en]))
            · omega
          | succ k ih =>
            intro n pp G1 x hnk hpp hC1 f1 n1
            subst hpp
            obtain ⟨a1, a2, a3⟩ := R n (by omega)
            have hr := rdNum_R (v := A.2.1) (bz := bz) hok (p := ((f0 + n : Nat) : Int)) (by omega)
            have htp := tpR_le e0 n
            have hs1 : rdF (rdNum A.1 A.2.1 j bz) f0 e0 (n + 1) = rdF (rdNum A.1 A.2.1 j bz) f0 e0 n + if tpR e0 n = 0 then rdNum A.1 A.2.1 j bz ((f0 + n : Nat) : Int) else 0 := rfl
            have hs2 : rdF (fun p => if 0 < rdNum A.1 A.2.1 j bz p then 1 else 0) f0 e0 (n + 1) = rdF (fun p => if 0 < rdNum A.1 A.2.1 j bz p then 1 else 0) f0 e0 n + if tpR e0 n = 0 then (if 0 < rdNum A.1 A.2.1 j bz ((f0 + n : Nat) : Int) then 1 else 0) else 0 := rfl
            have hs3 : tpR e0 (n + 1) = if tpR e0 n = 0 then e0 - 1 else tpR e0 n - 1 := rfl
            have hNr := c_numRd (κ := κ) hκ (d := 6) (p := f0 + n) (bz := bz) hC1 hI n1 (fun y => by rw [f1.2 _ _ (by omega) (by omega) (by omega)]; exact hR _ _) (fun y => by rw [f1.2 _ _ (by omega) (by omega) (by omega)]; exact hR _ _) hj (by omega) hbz (by omega)
            generalize rdNum A.1 A.2.1 j bz ((f0 + n : Nat) : Int) = z at *
            generalize hS1 : rdF (rdNum A.1 A.2.1 j bz) f0 e0 n = S1 at *
            generalize hS2 : rdF (fun p => if 0 < rdNum A.1 A.2.1 j bz p then 1 else 0) f0 e0 n = S2 at *
            by_cases ht0 : tpR e0 n = 0
            · have ht0' : ((tpR e0 n : Nat) : Int) = 0 := by omega
              rw [if_pos ht0] at hs1 hs2 hs3
              have ei : ((e0 : Nat) : Int) - 1 = ((tpR e0 (n + 1) : Nat) : Int) := by rw [hs3]; omega
              refine V_ex sX11_read_64 (by rfl) (by first | exact trivial | exact Or.inr rfl | exact Or.inl rfl | (simp only [ob, obA, R32, R64] at *; omega) | (simp only [ob, obA, R32, R64] at *; and_intros <;> omega) | (simp [ob, obA])) ?_
              refine V_icmpgt dX11_read_67 (tgt := 132) (by decide) (by simp only [R32, R64] at *; omega) (fun q67 => ?_) (fun q67 => ?_)
              · omega
              · refine V_ex sX11_read_70 (by rfl) (by first | exact trivial | exact Or.inr rfl | exact Or.inl rfl | (simp only [ob, obA, R32, R64] at *; omega) | (simp only [ob, obA, R32, R64] at *; and_intros <;> omega) | (simp [ob, obA])) ?_
                refine V_ifne dX11_read_72 (tgt := 89) (by decide) (by simp only [R32, R64] at *; omega) (fun q72 => ?_) (fun q72 => ?_)
                · omega
                · refine V_ex sX11_read_75 (by rfl) (by first | exact trivial | exact Or.inr rfl | exact Or.inl rfl | (simp only [ob, obA, R32, R64] at *; omega) | (simp only [ob, obA, R32, R64] at *; and_intros <;> omega) | (simp [ob, obA])) ?_
                  refine V_callV (M := MX11_read) (N := MX11_numberRead) dX11_read_83 lRX11_419 kX11_numberRead rfl (rfl) rfl (hNr) rfl rfl (Nat.le_of_ble_eq_true rfl) (fit_rm (by omega)) (⟨hcl, hsl⟩) (fun v Ω' hp => ?_) (fun _ _ h => h.elim)
                  obtain ⟨rfl, G2, rfl, f2, n2⟩ := hp
                  refine V_goto dX11_read_86 (tgt := 90) (by decide) ?_
                  refine V_ex sX11_read_90 (by rfl) (by first | exact trivial | exact Or.inr rfl | exact Or.inl rfl | (simp only [ob, obA, R32, R64] at *; omega) | (simp only [ob, obA, R32, R64] at *; and_intros <;> omega) | (simp [ob, obA])) ?_
                  refine V_ifle dX11_read_94 (tgt := 108) (by decide) (by simp only [R32, R64] at *; omega) (fun q94 => ?_) (fun q94 => ?_)
                  · refine V_ex sX11_read_108 (by rfl) (by first | exact trivial | exact Or.inr rfl | exact Or.inl rfl | (simp only [ob, obA, R32, R64] at *; omega) | (simp only [ob, obA, R32, R64] at *; and_intros <;> omega) | (simp [ob, obA])) ?_
                    refine V_ifne dX11_read_110 (tgt := 120) (by decide) (by simp only [R32, R64] at *; omega) (fun q110 => ?_) (fun q110 => ?_)
                    · omega
                    · refine V_ex sX11_read_113 (by rfl) (by first | exact trivial | exact Or.inr rfl | exact Or.inl rfl | (simp only [ob, obA, R32, R64] at *; omega) | (simp only [ob, obA, R32, R64] at *; and_intros <;> omega) | (simp [ob, obA])) ?_
                      refine V_goto dX11_read_117 (tgt := 124) (by decide) ?_
                      refine V_ex sX11_read_124 (by rfl) (by first | exact trivial | exact Or.inr rfl | exact Or.inl rfl | (simp only [ob, obA, R32, R64] at *; omega) | (simp only [ob, obA, R32, R64] at *; and_intros <;> omega) | (simp [ob, obA])) ?_
                      refine V_goto dX11_read_129 (tgt := 64) (by decide) ?_
                      have hz : z = 0 := by omega
                      have ih1 := ih (n + 1) (((f0 + n : Nat) : Int) + 1) G2 (some (VI z)) (by omega) (by omega) (RC_n hC1 hI.1 f2 n2) (f1.trans f2) n2
                      rw [hs1, hs2, hz, if_neg (by omega), Int.add_zero, Int.add_zero] at ih1
                      rw [ei, hz]
                      exact ih1
                  · refine V_ex sX11_read_97 (by rfl) (by first | exact trivial | exact Or.inr rfl | exact Or.inl rfl | (simp only [ob, obA, R32, R64] at *; omega) | (simp only [ob, obA, R32, R64] at *; and_intros <;> omega) | (simp [ob, obA])) ?_
                    refine V_ex sX11_read_108 (by rfl) (by first | exact trivial | exact Or.inr rfl | exact Or.inl rfl | (simp only [ob, obA, R32, R64] at *; omega) | (simp only [ob, obA, R32, R64] at *; and_intros <;> omega) | (simp [ob, obA])) ?_
                    refine V_ifne dX11_read_110 (tgt := 120) (by decide) (by simp only [R32, R64] at *; omega) (fun q110 => ?_) (fun q110 => ?_)
                    · omega
                    · refine V_ex sX11_read_113 (by rfl) (by first | exact trivial | exact Or.inr rfl | exact Or.inl rfl | (simp only [ob, obA, R32, R64] at *; omega) | (simp only [ob, obA, R32, R64] at *; and_intros <;> omega) | (simp [ob, obA])) ?_
                      refine V_goto dX11_read_117 (tgt := 124) (by decide) ?_
                      refine V_ex sX11_read_124 (by rfl) (by first | exact trivial | exact Or.inr rfl | exact Or.inl rfl | (simp only [ob, obA, R32, R64] at *; omega) | (simp only [ob, obA, R32, R64] at *; and_intros <;> omega) | (simp [ob, obA])) ?_
                      refine V_goto dX11_read_129 (tgt := 64) (by decide) ?_
                      have ih1 := ih (n + 1) (((f0 + n : Nat) : Int) + 1) G2 (some (VI z)) (by omega) (by omega) (RC_n hC1 hI.1 f2 n2) (f1.trans f2) n2
                      rw [hs1, hs2, if_pos (by omega)] at ih1
                      rw [ei]
                      exact ih1
            · have ht0' : ¬ ((tpR e0 n : Nat) : Int) = 0 := by omega
              rw [if_neg ht0] at hs1 hs2 hs3
              have ei : ((tpR e0 n : Nat) : Int) - 1 = ((tpR e0 (n + 1) : Nat) : Int) := by rw [hs3]; omega
              refine V_ex sX11_read_64 (by rfl) (by first | exact trivial | exact Or.inr rfl | exact Or.inl rfl | (simp only [ob, obA, R32, R64] at *; omega) | (simp only [ob, obA, R32, R64] at *; and_intros <;> omega) | (simp [ob, obA])) ?_
              refine V_icmpgt dX11_read_67 (tgt := 132) (by decide) (by simp only [R32, R64] at *; omega) (fun q67 => ?_) (fun q67 => ?_)
              · omega
              · refine V_ex sX11_read_70 (by rfl) (by first | exact trivial | exact Or.inr rfl | exact Or.inl rfl | (simp only [ob, obA, R32, R64] at *; omega) | (simp only [ob, obA, R32, R64] at *; and_intros <;> omega) | (simp [ob, obA])) ?_
                refine V_ifne dX11_read_72 (tgt := 89) (by decide) (by simp only [R32, R64] at *; omega) (fun q72 => ?_) (fun q72 => ?_)
                · refine V_ex sX11_read_89 (by rfl) (by first | exact trivial | exact Or.inr rfl | exact Or.inl rfl | (simp only [ob, obA, R32, R64] at *; omega) | (simp only [ob, obA, R32, R64] at *; and_intros <;> omega) | (simp [ob, obA])) ?_
                  refine V_ex sX11_read_90 (by rfl) (by first | exact trivial | exact Or.inr rfl | exact Or.inl rfl | (simp only [ob, obA, R32, R64] at *; omega) | (simp only [ob, obA, R32, R64] at *; and_intros <;> omega) | (simp [ob, obA])) ?_
                  refine V_ifle dX11_read_94 (tgt := 108) (by decide) (by simp only [R32, R64] at *; omega) (fun q94 => ?_) (fun q94 => ?_)
                  · refine V_ex sX11_read_108 (by rfl) (by first | exact trivial | exact Or.inr rfl | exact Or.inl rfl | (simp only [ob, obA, R32, R64] at *; omega) | (simp only [ob, obA, R32, R64] at *; and_intros <;> omega) | (simp [ob, obA])) ?_
                    refine V_ifne dX11_read_110 (tgt := 120) (by decide) (by simp only [R32, R64] at *; omega) (fun q110 => ?_) (fun q110 => ?_)
                    · refine V_ex sX11_read_120 (by rfl) (by first | exact trivial | exact Or.inr rfl | exact Or.inl rfl | (simp only [ob, obA, R32, R64] at *; omega) | (simp only [ob, obA, R32, R64] at *; and_intros <;> omega) | (simp [ob, obA])) ?_
                      refine V_ex sX11_read_124 (by rfl) (by first | exact trivial | exact Or.inr rfl | exact Or.inl rfl | (simp only [ob, obA, R32, R64] at *; omega) | (simp only [ob, obA, R32, R64] at *; and_intros <;> omega) | (simp [ob, obA])) ?_
                      refine V_goto dX11_read_129 (tgt := 64) (by decide) ?_
                      have ih1 := ih (n + 1) (((f0 + n : Nat) : Int) + 1) G1 (some (VI 0)) (by omega) (by omega) hC1 f1 n1
                      rw [hs1, hs2, Int.add_zero, Int.add_zero] at ih1
                      rw [ei]
                      exact ih1
                    · omega
                  · omega
                · omega
        refine V_ex sX11_read_52 (by rfl) (by first | exact trivial | exact Or.inr rfl | exact Or.inl rfl | (simp only [ob, obA, R32, R64] at *; omega) | (simp only [ob, obA, R32, R64] at *; and_intros <;> omega) | (simp [ob, obA])) ?_
        exact L (t0 + 1 - f0) 0 (f0 : Int) G none (by omega) (by omega) hC (ScN.refl s G) hN
      refine V_ex sX11_read_0 (by rfl) (by first | exact trivial | exact Or.inr rfl | exact Or.inl rfl | (simp only [ob, obA, R32, R64] at *; omega) | (simp only [ob, obA, R32, R64] at *; and_intros <;> omega) | (simp [ob, obA])) ?_
      refine V_callV (M := MX11_read) (N := MX11_needPage) dX11_read_3 lRX11_205 kX11_needPage rfl (rfl) rfl (c_nPage (d := 7) hκ hN hi hfr (by omega)) rfl rfl (Nat.le_of_ble_eq_true rfl) (fit_rm (by omega)) (⟨Nat.le_of_ble_eq_true rfl, Nat.le_of_ble_eq_true rfl⟩) (fun v Ω' hp => ?_) (fun E Ω' h => absurd h1 h.1)
      obtain ⟨-, rfl, rfl⟩ := hp
      rw [Int.toNat_natCast]
      refine V_ex sX11_read_6 (by rfl) (by first | exact trivial | exact Or.inr rfl | exact Or.inl rfl | (simp only [ob, obA, R32, R64] at *; omega) | (simp only [ob, obA, R32, R64] at *; and_intros <;> omega) | (simp [ob, obA])) ?_
      refine V_callV (M := MX11_read) (N := MX11_needPage) dX11_read_11 lRX11_205 kX11_needPage rfl (rfl) rfl (c_nPage (d := 7) hκ hN hi hto (by omega)) rfl rfl (Nat.le_of_ble_eq_true rfl) (fit_rm (by omega)) (⟨Nat.le_of_ble_eq_true rfl, Nat.le_of_ble_eq_true rfl⟩) (fun v Ω' hp => ?_) (fun E Ω' h => absurd h2 h.1)
      obtain ⟨-, rfl, rfl⟩ := hp
      refine V_ex sX11_read_14 (by rfl) (by first | exact trivial | exact Or.inr rfl | exact Or.inl rfl | (simp only [ob, obA, R32, R64] at *; omega) | (simp only [ob, obA, R32, R64] at *; and_intros <;> omega) | (simp [ob, obA])) ?_
      refine V_callS (M := MX11_read) (N := MX11_needWithin) dX11_read_22 lRX11_281 kX11_needWithin rfl (c_needWithin (d := 6) hκ hto64 hfr64 R4000 (by omega)) rfl rfl (Nat.le_of_ble_eq_true rfl) (fit_rm (by omega)) (⟨Nat.le_of_ble_eq_true rfl, Nat.le_of_ble_eq_true rfl⟩) (fun v Ω' hp => ?_) (fun E Ω' h => ⟨by rw [h.2.1, h.2.2]; exact no2 (fun q => h.1 ⟨q.1, by omega⟩), rfl, Nat.le_of_ble_eq_true rfl, Nat.le_of_ble_eq_true rfl⟩)
      obtain ⟨hc1, rfl, rfl⟩ := hp
      refine V_ex sX11_read_25 (by rfl) (by first | exact trivial | exact Or.inr rfl | exact Or.inl rfl | (simp only [ob, obA, R32, R64] at *; omega) | (simp only [ob, obA, R32, R64] at *; and_intros <;> omega) | (simp [ob, obA])) ?_
      refine V_callS (M := MX11_read) (N := MX11_needWithin) dX11_read_32 lRX11_281 kX11_needWithin rfl (c_needWithin (d := 6) hκ he64 R1 R100 (by omega)) rfl rfl (Nat.le_of_ble_eq_true rfl) (fit_rm (by omega)) (⟨Nat.le_of_ble_eq_true rfl, Nat.le_of_ble_eq_true rfl⟩) (fun v Ω' hp => ?_) (fun E Ω' h => ⟨by rw [h.2.1, h.2.2]; exact no2 (fun q => h.1 q.2.1), rfl, Nat.le_of_ble_eq_true rfl, Nat.le_of_ble_eq_true rfl⟩)
      obtain ⟨hc2, rfl, rfl⟩ := hp
      refine V_ex sX11_read_35 (by rfl) (by first | exact trivial | exact Or.inr rfl | exact Or.inl rfl | (simp only [ob, obA, R32, R64] at *; omega) | (simp only [ob, obA, R32, R64] at *; and_intros <;> omega) | (simp [ob, obA])) ?_
      refine V_ifeq dX11_read_37 (tgt := 52) (by decide) (by simp only [R32, R64] at *; omega) (fun q37 => ?_) (fun q37 => ?_)
      · exact main _ _ (Nat.le_of_ble_eq_true rfl) (Nat.le_of_ble_eq_true rfl) hc1.1 hc2 (Or.inl q37)
      · refine V_ex sX11_read_40 (by rfl) (by first | exact trivial | exact Or.inr rfl | exact Or.inl rfl | (simp only [ob, obA, R32, R64] at *; omega) | (simp only [ob, obA, R32, R64] at *; and_intros <;> omega) | (simp [ob, obA])) ?_
        refine V_callS (M := MX11_read) (N := MX11_needWithin) dX11_read_49 lRX11_281 kX11_needWithin rfl (c_needWithin (d := 6) hκ hbz64 R2 R9 (by omega)) rfl rfl (Nat.le_of_ble_eq_true rfl) (fit_rm (by omega)) (⟨Nat.le_of_ble_eq_true rfl, Nat.le_of_ble_eq_true rfl⟩) (fun v Ω' hp => ?_) (fun E Ω' h => ⟨by rw [h.2.1, h.2.2]; exact no2 (fun q => h.1 (q.2.2.resolve_left q37)), rfl, Nat.le_of_ble_eq_true rfl, Nat.le_of_ble_eq_true rfl⟩)
        obtain ⟨hc3, rfl, rfl⟩ := hp
        exact main _ _ (Nat.le_of_ble_eq_true rfl) (Nat.le_of_ble_eq_true rfl) hc1.1 hc2 (Or.inr hc3)
    · refine V_ex sX11_read_0 (by rfl) (by first | exact trivial | exact Or.inr rfl | exact Or.inl rfl | (simp only [ob, obA, R32, R64] at *; omega) | (simp only [ob, obA, R32, R64] at *; and_intros <;> omega) | (simp [ob, obA])) ?_
      refine V_callV (M := MX11_read) (N := MX11_needPage) dX11_read_3 lRX11_205 kX11_needPage rfl (rfl) rfl (c_nPage (d := 7) hκ hN hi hfr (by omega)) rfl rfl (Nat.le_of_ble_eq_true rfl) (fit_rm (by omega)) (⟨Nat.le_of_ble_eq_true rfl, Nat.le_of_ble_eq_true rfl⟩) (fun v Ω' hp => ?_) (fun E Ω' h => absurd h1 h.1)
      obtain ⟨-, rfl, rfl⟩ := hp
      refine V_ex sX11_read_6 (by rfl) (by first | exact trivial | exact Or.inr rfl | exact Or.inl rfl | (simp only [ob, obA, R32, R64] at *; omega) | (simp only [ob, obA, R32, R64] at *; and_intros <;> omega) | (simp [ob, obA])) ?_
      refine V_callV (M := MX11_read) (N := MX11_needPage) dX11_read_11 lRX11_205 kX11_needPage rfl (rfl) rfl (c_nPage (d := 7) hκ hN hi hto (by omega)) rfl rfl (Nat.le_of_ble_eq_true rfl) (fit_rm (by omega)) (⟨Nat.le_of_ble_eq_true rfl, Nat.le_of_ble_eq_true rfl⟩) (fun v Ω' hp => ?_) (fun E Ω' h => ⟨by rw [h.2.1, h.2.2]; exact no1 (fun q => h2 ⟨q.1, q.2.2⟩), rfl, Nat.le_of_ble_eq_true rfl, Nat.le_of_ble_eq_true rfl⟩)
      skip
      exact absurd hp.1 h2
  · refine V_ex sX11_read_0 (by rfl) (by first | exact trivial | exact Or.inr rfl | exact Or.inl rfl | (simp only [ob, obA, R32, R64] at *; omega) | (simp only [ob, obA, R32, R64] at *; and_intros <;> omega) | (simp [ob, obA])) ?_
    refine V_callV (M := MX11_read) (N := MX11_needPage) dX11_read_3 lRX11_205 kX11_needPage rfl (rfl) rfl (c_nPage (d := 7) hκ hN hi hfr (by omega)) rfl rfl (Nat.le_of_ble_eq_true rfl) (fit_rm (by omega)) (⟨Nat.le_of_ble_eq_true rfl, Nat.le_of_ble_eq_true rfl⟩) (fun v Ω' hp => ?_) (fun E Ω' h => ⟨by rw [h.2.1, h.2.2]; exact no1 (fun q => h1 ⟨q.1, q.2.1⟩), rfl, Nat.le_of_ble_eq_true rfl, Nat.le_of_ble_eq_true rfl⟩)
    skip
    exact absurd hp.1 h1
