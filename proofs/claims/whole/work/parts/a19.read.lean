/-! TornLeaves: read -/
def rdNum (S : Sh) (v : Ev) (j : Nat) (bz p : Int) : Int := if 0 < bz ∧ ((if (p - 1) / 2 ∈ (bkJ S j).2.2.2.2.2 ∨ sticksB v (j : Int) (p / 2 - 1) = true then 0 else numB (cdS S) (bkJ S j) p).tmod bz = 0 ∨ 0 < dgc bz 19 (if (p - 1) / 2 ∈ (bkJ S j).2.2.2.2.2 ∨ sticksB v (j : Int) (p / 2 - 1) = true then 0 else numB (cdS S) (bkJ S j) p)) then 0 else (if (p - 1) / 2 ∈ (bkJ S j).2.2.2.2.2 ∨ sticksB v (j : Int) (p / 2 - 1) = true then 0 else numB (cdS S) (bkJ S j) p)
/-- how many pages are still passed over -/
def tpR (e : Nat) : Nat → Nat
  | 0 => 0
  | n + 1 => if tpR e n = 0 then e - 1 else tpR e n - 1
theorem tpR_le (e : Nat) : ∀ n, tpR e n ≤ e := by
  intro n
  induction n with
  | zero => exact Nat.zero_le _
  | succ n ih => rw [tpR]; split <;> omega
/-- the first n pages read from fr on, every e-th -/
def rdF (g : Int → Int) (fr e : Nat) : Nat → Int
  | 0 => 0
  | n + 1 => rdF g fr e n + if tpR e n = 0 then g ((fr + n : Nat) : Int) else 0
def readV (A : Ab) (j fr to e : Nat) (bz : Int) (many : Bool) : Int := if many then rdF (fun p => if 0 < rdNum A.1 A.2.1 j bz p then 1 else 0) fr e (to + 1 - fr) else rdF (rdNum A.1 A.2.1 j bz) fr e (to + 1 - fr)
def readP (A : Ab) (i fr to e bz : Int) (many : Bool) : Int × Int := if ¬ (inB A.1 i ∧ (1 ≤ fr ∧ fr ≤ 2 * (bkA A i).2.2.1) ∧ 1 ≤ to ∧ to ≤ 2 * (bkA A i).2.2.1) then (1, 0) else if ¬ (fr ≤ to ∧ (1 ≤ e ∧ e ≤ 100) ∧ (bz = 0 ∨ 2 ≤ bz ∧ bz ≤ 9)) then (2, 0) else (0, readV A i.toNat fr.toNat to.toNat e.toNat bz many)
theorem rdNum_R {S : Sh} {v : Ev} {j : Nat} {bz p : Int} (hb : okBk (cdS S) (bkJ S j)) (hp : 1 ≤ p ∧ p ≤ 4000) : 0 ≤ rdNum S v j bz p ∧ rdNum S v j bz p ≤ 99999 := by
  have h := numB_R hb hp
  unfold rdNum
  generalize numB (cdS S) (bkJ S j) p = z at *
  split
  · omega
  · split <;> omega
set_option maxRecDepth 100000 in
set_option maxHeartbeats 4000000 in
theorem c_numRd {κ : Kx} (hκ : KOK κ) {d s j p : Nat} {bz K : Int} {A : Ab} {G : Wd} (hC : RC G s A) (hI : Inv K A) (hN : NC G s A.1) (h4 : ∀ y, R32 (G.1 118 y)) (h5 : ∀ y, R32 (G.1 119 y)) (hj : j < A.1.1.length) (hp : 1 ≤ p ∧ p ≤ 4000) (hbz : R32 bz) (hd : 6 ≤ d) : Ct κ MX11_numberRead d 0 0 [VR 1, VI (j : Nat), VR (s + 7 + 5 * j), VI (p : Nat), VI bz] (Wm G) (nP s A.1 G (VI (rdNum A.1 A.2.1 j bz (p : Int)))) noX := by
  refine Ct_of hκ kX11_numberRead.1 rfl (Nat.le_of_ble_eq_true rfl) (ls := [some (VR 1), some (VI (j : Nat)), some (VR (s + 7 + 5 * j)), some (VI (p : Nat)), some (VI bz), none]) rfl (fun μ => ?_)
  obtain ⟨hB, hj6, hok, k0, k2, k1, -, kg⟩ := NC_b hN hj
  obtain ⟨v1, v2, v3, v4, v5, v6, v7, v8⟩ := hC.2.2.2.1
  have h20 := hI.2.1.2.2.1.1
  have hR := numB_R hok (p := (p : Int)) (by omega)
  have hS := c_isSeen (κ := κ) hκ (d := 5) (a := s + 7 + 5 * j) (b := (j : Int)) (p := (p : Int)) (G := G) hB (by unfold R32; omega) (by omega) (by unfold R32; omega) h4 h5 (by rw [v6]; omega) (by omega)
  rw [v6, Int.toNat_natCast, stuckIn_v A.2.1.2.2.1 0 (fun x hx => by rw [Nat.zero_add]; exact v7 x hx), show s + 7 + 5 * j + 2 = s + 7 + 5 * j + 1 + 1 by omega, kg.2] at hS
  have hst : ∀ x, A.2.1.2.2.1.any (fun q => decide (q.1 = (j : Int) ∧ q.2 = x)) = sticksB A.2.1 (j : Int) x := fun x => rfl
  rw [hst] at hS
  unfold rdNum
  have fin : ∀ (z : Int) (G1 : Wd), 0 ≤ z ∧ z ≤ 99999 → z = (if ((p : Int) - 1) / 2 ∈ (bkJ A.1 j).2.2.2.2.2 ∨ sticksB A.2.1 (j : Int) ((p : Int) / 2 - 1) = true then 0 else numB (cdS A.1) (bkJ A.1 j) p) → ScN s G G1 → NC G1 s A.1 → V κ MX11_numberRead (rmD d 0 0) (nP s A.1 G (VI (if 0 < bz ∧ ((if ((p : Int) - 1) / 2 ∈ (bkJ A.1 j).2.2.2.2.2 ∨ sticksB A.2.1 (j : Int) ((p : Int) / 2 - 1) = true then 0 else numB (cdS A.1) (bkJ A.1 j) (p : Int)).tmod bz = 0 ∨ 0 < dgc bz 19 (if ((p : Int) - 1) / 2 ∈ (bkJ A.1 j).2.2.2.2.2 ∨ sticksB A.2.1 (j : Int) ((p : Int) / 2 - 1) = true then 0 else numB (cdS A.1) (bkJ A.1 j) (p : Int))) then 0 else (if ((p : Int) - 1) / 2 ∈ (bkJ A.1 j).2.2.2.2.2 ∨ sticksB A.2.1 (j : Int) ((p : Int) / 2 - 1) = true then 0 else numB (cdS A.1) (bkJ A.1 j) (p : Int))))) noX 0 0 μ 0 0 (Wm (G1)) 21 [some (VR 1), some (VI (j : Nat)), some (VR (s + 7 + 5 * j)), some (VI (p : Nat)), some (VI bz), none] [VI z] := fun z G1 hz hzz f1 n1 => by
    rw [← hzz]
    refine V_ex sX11_numberRead_21 (by rfl) (by first | exact trivial | exact Or.inr rfl | exact Or.inl rfl | (simp only [ob, obA, R32, R64] at *; omega) | (simp only [ob, obA, R32, R64] at *; and_intros <;> omega) | (simp [ob, obA])) ?_
    refine V_callS (M := MX11_numberRead) (N := MX3_isBuzz) dX11_numberRead_27 lRX11_427 kX3_isBuzz rfl (c_isBuzz (d := 3) hκ hbz (by unfold R32; omega) (by omega)) rfl rfl (Nat.le_of_ble_eq_true rfl) (fit_rm (by omega)) (⟨Nat.le_of_ble_eq_true rfl, Nat.le_of_ble_eq_true rfl⟩) (fun v Ω' hp => ?_) (fun _ _ h => h.elim)
    obtain ⟨rfl, rfl⟩ := hp
    refine V_ifeqB dX11_numberRead_30 (tgt := 37) (by decide) (fun q30 => ?_) (fun q30 => ?_)
    · refine V_ex sX11_numberRead_37 (by rfl) (by first | exact trivial | exact Or.inr rfl | exact Or.inl rfl | (simp only [ob, obA, R32, R64] at *; omega) | (simp only [ob, obA, R32, R64] at *; and_intros <;> omega) | (simp [ob, obA])) ?_
      refine V_iret dX11_numberRead_39 rfl (by decide) ⟨by rw [if_neg (of_decide_eq_false q30)], G1, rfl, f1, n1⟩
    · refine V_ex sX11_numberRead_33 (by rfl) (by first | exact trivial | exact Or.inr rfl | exact Or.inl rfl | (simp only [ob, obA, R32, R64] at *; omega) | (simp only [ob, obA, R32, R64] at *; and_intros <;> omega) | (simp [ob, obA])) ?_
      refine V_goto dX11_numberRead_34 (tgt := 39) (by decide) ?_
      refine V_iret dX11_numberRead_39 rfl (by decide) ⟨by rw [if_pos (of_decide_eq_true q30)], G1, rfl, f1, n1⟩
  refine V_ex sX11_numberRead_0 (by rfl) (by first | exact trivial | exact Or.inr rfl | exact Or.inl rfl | (simp only [ob, obA, R32, R64] at *; omega) | (simp only [ob, obA, R32, R64] at *; and_intros <;> omega) | (simp [ob, obA])) ?_
  refine V_callV (M := MX11_numberRead) (N := MX11_isSeen) dX11_numberRead_4 lRX11_423 kX11_isSeen rfl (rfl) rfl (hS) rfl rfl (Nat.le_of_ble_eq_true rfl) (fit_rm (by omega)) (⟨Nat.le_of_ble_eq_true rfl, Nat.le_of_ble_eq_true rfl⟩) (fun v Ω' hp => ?_) (fun _ _ h => h.elim)
  obtain ⟨rfl, rfl⟩ := hp
  refine V_ifeqB dX11_numberRead_7 (tgt := 20) (by decide) (fun q7 => ?_) (fun q7 => ?_)
  · refine V_ex sX11_numberRead_20 (by rfl) (by first | exact trivial | exact Or.inr rfl | exact Or.inl rfl | (simp only [ob, obA, R32, R64] at *; omega) | (simp only [ob, obA, R32, R64] at *; and_intros <;> omega) | (simp [ob, obA])) ?_
    exact fin 0 G (by omega) (by simp only [Bool.and_eq_false_iff, Bool.not_eq_false', decide_eq_true_eq] at q7; rw [if_pos q7]) (ScN.refl s G) hN
  · refine V_ex sX11_numberRead_10 (by rfl) (by first | exact trivial | exact Or.inr rfl | exact Or.inl rfl | (simp only [ob, obA, R32, R64] at *; omega) | (simp only [ob, obA, R32, R64] at *; and_intros <;> omega) | (simp [ob, obA])) ?_
    refine V_callV (M := MX11_numberRead) (N := MX11_numberOn) dX11_numberRead_14 lRX11_208 kX11_numberOn rfl (rfl) rfl (c_numOn (d := 5) hκ hN hj (p := p) (by omega) (by omega)) rfl rfl (Nat.le_of_ble_eq_true rfl) (fit_rm (by omega)) (⟨Nat.le_of_ble_eq_true rfl, Nat.le_of_ble_eq_true rfl⟩) (fun v Ω' hp => ?_) (fun _ _ h => h.elim)
    obtain ⟨rfl, G1, rfl, f1, n1⟩ := hp
    refine V_goto dX11_numberRead_17 (tgt := 21) (by decide) ?_
    exact fin _ G1 hR (by simp only [Bool.and_eq_true, Bool.not_eq_true', decide_eq_false_iff_not] at q7; rw [if_neg (fun q => by rcases q with q | q; exact q7.1 q; exact absurd (q.symm.trans q7.2) (by decide))]) f1 n1
