/-! THE MODEL: read -/
/-- the number on a page that is seen, or 0 -/
def seenV (S : Sh) (v : Ev) (j : Nat) (p : Int) : Int := if (p - 1) / 2 ∈ (bkJ S j).2.2.2.2.2 ∨ sticksB v (j : Int) (p / 2 - 1) = true then 0 else numB (cdS S) (bkJ S j) p
theorem rdNum_e {S : Sh} {v : Ev} {j : Nat} {bz p : Int} : rdNum S v j bz p = if 0 < bz ∧ ((seenV S v j p).tmod bz = 0 ∨ 0 < dgc bz 19 (seenV S v j p)) then 0 else seenV S v j p := rfl
set_option maxRecDepth 100000 in
set_option maxHeartbeats 4000000 in
theorem c_mIsHidden {κ : Kx} (hκ : KOK κ) {d j p : Nat} {K : Int} {A : Ab} {G : Wd} (hC : RM G A) (hI : Inv K A) (hj : j < A.1.1.length) (hp : 1 ≤ p ∧ p ≤ 4000) (hd : 1 ≤ d) : Ct κ MX12_isHidden d 0 0 [VR 145, VI (j : Nat), VI (p : Nat)] (Wm G) (keepG G (VI (b2i (sticksB A.2.1 (j : Int) ((p : Int) / 2 - 1))))) noX := by
  refine Ct_of hκ kX12_isHidden.1 rfl (Nat.le_of_ble_eq_true rfl) (ls := [some (VR 145), some (VI (j : Nat)), some (VI (p : Nat))]) rfl (fun μ => ?_)
  have h20 := hI.2.1.2.2.1
  have hb := hI.1.1
  refine V_ex sX12_isHidden_0 (by rfl) (by exact ⟨by unfold R32; omega, by unfold R32; omega, by decide⟩) ?_
  rw [td_nn (by omega)]
  refine V_callV (M := MX12_isHidden) (N := MX12_sticks) dX12_isHidden_7 lRX12_517 kX12_sticks rfl (rfl) rfl (c_mSticks (d := 0) hκ hC h20.1 h20.2 (by unfold R32; omega) (by unfold R32; omega)) rfl rfl (Nat.le_of_ble_eq_true rfl) (fit_rm (by omega)) (⟨Nat.le_of_ble_eq_true rfl, Nat.le_of_ble_eq_true rfl⟩) (fun v Ω' hp => ?_) (fun _ _ h => h.elim)
  obtain ⟨rfl, rfl⟩ := hp
  refine V_zret dX12_isHidden_10 rfl (by first | exact Or.inl rfl | exact Or.inr rfl | exact b2i_01 _) (by decide) ⟨rfl, rfl⟩
set_option maxRecDepth 100000 in
set_option maxHeartbeats 4000000 in
theorem c_mIsRead {κ : Kx} (hκ : KOK κ) {d j p : Nat} {bz K : Int} {A : Ab} {G : Wd} (hC : RM G A) (hI : Inv K A) (hj : j < A.1.1.length) (hp : 1 ≤ p ∧ p ≤ 4000) (hbz : 0 ≤ bz ∧ bz ≤ 9) (hd : 6 ≤ d) : Ct κ MX12_isRead d 0 0 [VR 145, VI (j : Nat), VI (p : Nat), VI bz] (Wm G) (fun u Ω' => u = some (VI (b2i (decide (0 < rdNum A.1 A.2.1 j bz (p : Int))))) ∧ ∃ G', Ω' = Wm G' ∧ FM [] [163, 164] [] G G') noX := by
  refine Ct_of hκ kX12_isRead.1 rfl (Nat.le_of_ble_eq_true rfl) (ls := [some (VR 145), some (VI (j : Nat)), some (VI (p : Nat)), some (VI bz), none]) rfl (fun μ => ?_)
  have hR := numB_Rc hI.1 hj (p := (p : Int)) (by omega)
  have h20 := hI.2.1.2.2.1
  have ep : (p : Int) - 1 = ((p - 1 : Nat) : Int) := by omega
  have zero : seenV A.1 A.2.1 j (p : Int) = 0 → decide (0 < rdNum A.1 A.2.1 j bz (p : Int)) = false := fun h => by
    rw [rdNum_e, h]; exact decide_eq_false (by split <;> omega)
  have seen : ¬ ((p : Int) - 1) / 2 ∈ (bkJ A.1 j).2.2.2.2.2 → sticksB A.2.1 (j : Int) ((p : Int) / 2 - 1) = false → seenV A.1 A.2.1 j (p : Int) = numB (cdS A.1) (bkJ A.1 j) (p : Int) := fun h1 h2 => by unfold seenV; rw [if_neg (fun q => by rcases q with q | q; exact h1 q; rw [h2] at q; cases q)]
  have hid : ∀ G1 : Wd, RM G1 A → Ct κ MX12_isHidden 3 0 0 [VR 145, VI (j : Nat), VI (p : Nat)] (Wm G1) (keepG G1 (VI (b2i (sticksB A.2.1 (j : Int) ((p : Int) / 2 - 1))))) noX := fun G1 h1 => c_mIsHidden (K := K) hκ h1 hI hj hp (by omega)
  refine V_ex sX12_isRead_0 (by rfl) (by first | exact trivial | exact Or.inr rfl | exact Or.inl rfl | (simp only [ob, obA, R32, R64] at *; omega) | (simp only [ob, obA, R32, R64] at *; and_intros <;> omega) | (simp [ob, obA])) ?_
  refine V_callV (M := MX12_isRead) (N := MX12_numberOn) dX12_isRead_3 lRX12_393 kX12_numberOn rfl (rfl) rfl (c_mNumOn (d := 5) hκ hC.1 hI.1 hj hp (by omega)) rfl rfl (Nat.le_of_ble_eq_true rfl) (fit_rm (by omega)) (⟨Nat.le_of_ble_eq_true rfl, Nat.le_of_ble_eq_true rfl⟩) (fun v Ω' hp => ?_) (fun _ _ h => h.elim)
  obtain ⟨rfl, G2, rfl, f2⟩ := hp
  have hC2 := (RM_f hC (FN.of f2)).1
  refine V_ex sX12_isRead_6 (by rfl) (by first | exact trivial | exact Or.inr rfl | exact Or.inl rfl | (simp only [ob, obA, R32, R64] at *; omega) | (simp only [ob, obA, R32, R64] at *; and_intros <;> omega) | (simp [ob, obA])) ?_
  refine V_ifeq dX12_isRead_10 (tgt := 35) (by decide) (by simp only [R32, R64] at *; omega) (fun q10 => ?_) (fun q10 => ?_)
  · refine V_ex sX12_isRead_35 (by rfl) (by first | exact trivial | exact Or.inr rfl | exact Or.inl rfl | (simp only [ob, obA, R32, R64] at *; omega) | (simp only [ob, obA, R32, R64] at *; and_intros <;> omega) | (simp [ob, obA])) ?_
    refine V_zret dX12_isRead_36 rfl (by first | exact Or.inl rfl | exact Or.inr rfl | exact b2i_01 _) (by decide) ⟨by rw [zero (by unfold seenV; split; rfl; exact q10)]; rfl, G2, rfl, f2⟩
  · refine V_ex sX12_isRead_13 (by rfl) (by (simp only [ob, obA, R32]; and_intros <;> omega)) ?_
    rw [td_nn (by omega)]
    refine V_callV (M := MX12_isRead) (N := MX12_isOut) dX12_isRead_20 lRX12_389 kX12_isOut rfl (rfl) rfl (c_mIsOut (d := 2) hκ hC2.1 hI.1 hj (by unfold R32; omega) (by omega)) rfl rfl (Nat.le_of_ble_eq_true rfl) (fit_rm (by omega)) (⟨Nat.le_of_ble_eq_true rfl, Nat.le_of_ble_eq_true rfl⟩) (fun v Ω' hp => ?_) (fun _ _ h => h.elim)
    obtain ⟨rfl, rfl⟩ := hp
    refine V_ifneB dX12_isRead_23 (tgt := 35) (by decide) (fun q23 => ?_) (fun q23 => ?_)
    · refine V_ex sX12_isRead_35 (by rfl) (by first | exact trivial | exact Or.inr rfl | exact Or.inl rfl | (simp only [ob, obA, R32, R64] at *; omega) | (simp only [ob, obA, R32, R64] at *; and_intros <;> omega) | (simp [ob, obA])) ?_
      refine V_zret dX12_isRead_36 rfl (by first | exact Or.inl rfl | exact Or.inr rfl | exact b2i_01 _) (by decide) ⟨by rw [zero (by unfold seenV; rw [if_pos (Or.inl (of_decide_eq_true q23))])]; rfl, G2, rfl, f2⟩
    · refine V_ex sX12_isRead_26 (by rfl) (by first | exact trivial | exact Or.inr rfl | exact Or.inl rfl | (simp only [ob, obA, R32, R64] at *; omega) | (simp only [ob, obA, R32, R64] at *; and_intros <;> omega) | (simp [ob, obA])) ?_
      refine V_callV (M := MX12_isRead) (N := MX12_isHidden) dX12_isRead_29 lRX12_520 kX12_isHidden rfl (rfl) rfl (hid G2 hC2) rfl rfl (Nat.le_of_ble_eq_true rfl) (fit_rm (by omega)) (⟨Nat.le_of_ble_eq_true rfl, Nat.le_of_ble_eq_true rfl⟩) (fun v Ω' hp => ?_) (fun _ _ h => h.elim)
      obtain ⟨rfl, rfl⟩ := hp
      refine V_ifeqB dX12_isRead_32 (tgt := 37) (by decide) (fun q32 => ?_) (fun q32 => ?_)
      · have hsn := seen (of_decide_eq_false q23) q32
        refine V_ex sX12_isRead_37 (by rfl) (by first | exact trivial | exact Or.inr rfl | exact Or.inl rfl | (simp only [ob, obA, R32, R64] at *; omega) | (simp only [ob, obA, R32, R64] at *; and_intros <;> omega) | (simp [ob, obA])) ?_
        refine V_ifeq dX12_isRead_38 (tgt := 58) (by decide) (by simp only [R32, R64] at *; omega) (fun q38 => ?_) (fun q38 => ?_)
        · refine V_ex sX12_isRead_58 (by rfl) (by first | exact trivial | exact Or.inr rfl | exact Or.inl rfl | (simp only [ob, obA, R32, R64] at *; omega) | (simp only [ob, obA, R32, R64] at *; and_intros <;> omega) | (simp [ob, obA])) ?_
          refine V_goto dX12_isRead_59 (tgt := 63) (by decide) ?_
          refine V_zret dX12_isRead_63 rfl (by first | exact Or.inl rfl | exact Or.inr rfl | exact b2i_01 _) (by decide) ⟨by rw [rdNum_e, hsn, if_neg (fun q => by omega), decide_eq_true (by omega)]; rfl, G2, rfl, f2⟩
        · refine V_ex sX12_isRead_41 (by rfl) (by exact ⟨by unfold R32; omega, by unfold R32; omega, by omega⟩) ?_
          rw [tm_nn (by omega)]
          refine V_ifeq dX12_isRead_45 (tgt := 62) (by decide) (by have h1 := Int.emod_nonneg (numB (cdS A.1) (bkJ A.1 j) (p : Int)) (show bz ≠ 0 by omega); have h2 := Int.emod_lt_of_pos (numB (cdS A.1) (bkJ A.1 j) (p : Int)) (show 0 < bz by omega); unfold R32; omega) (fun q45 => ?_) (fun q45 => ?_)
          · refine V_ex sX12_isRead_62 (by rfl) (by first | exact trivial | exact Or.inr rfl | exact Or.inl rfl | (simp only [ob, obA, R32, R64] at *; omega) | (simp only [ob, obA, R32, R64] at *; and_intros <;> omega) | (simp [ob, obA])) ?_
            refine V_zret dX12_isRead_63 rfl (by first | exact Or.inl rfl | exact Or.inr rfl | exact b2i_01 _) (by decide) ⟨by rw [rdNum_e, hsn, tm_nn (by omega), if_pos ⟨by omega, Or.inl q45⟩]; rfl, G2, rfl, f2⟩
          · refine V_ex sX12_isRead_48 (by rfl) (by first | exact trivial | exact Or.inr rfl | exact Or.inl rfl | (simp only [ob, obA, R32, R64] at *; omega) | (simp only [ob, obA, R32, R64] at *; and_intros <;> omega) | (simp [ob, obA])) ?_
            refine V_callS (M := MX12_isRead) (N := MX12_figuresIn) dX12_isRead_52 lRX12_400 kX12_figuresIn rfl (c_mfiguresIn (d := 0) hκ (by unfold R64; omega) (by unfold R32; omega)) rfl rfl (Nat.le_of_ble_eq_true rfl) (fit_rm (by omega)) (⟨Nat.le_of_ble_eq_true rfl, Nat.le_of_ble_eq_true rfl⟩) (fun v Ω' hp => ?_) (fun _ _ h => h.elim)
            obtain ⟨rfl, rfl⟩ := hp
            refine V_ifne dX12_isRead_55 (tgt := 62) (by decide) (by have h1 := dgc_nn bz 19 (numB (cdS A.1) (bkJ A.1 j) (p : Int)); unfold R32; omega) (fun q55 => ?_) (fun q55 => ?_)
            · refine V_ex sX12_isRead_62 (by rfl) (by first | exact trivial | exact Or.inr rfl | exact Or.inl rfl | (simp only [ob, obA, R32, R64] at *; omega) | (simp only [ob, obA, R32, R64] at *; and_intros <;> omega) | (simp [ob, obA])) ?_
              refine V_zret dX12_isRead_63 rfl (by first | exact Or.inl rfl | exact Or.inr rfl | exact b2i_01 _) (by decide) ⟨by have := dgc_nn bz 19 (numB (cdS A.1) (bkJ A.1 j) (p : Int)); rw [rdNum_e, hsn, if_pos ⟨by omega, Or.inr (by omega)⟩]; rfl, G2, rfl, f2⟩
            · refine V_ex sX12_isRead_58 (by rfl) (by first | exact trivial | exact Or.inr rfl | exact Or.inl rfl | (simp only [ob, obA, R32, R64] at *; omega) | (simp only [ob, obA, R32, R64] at *; and_intros <;> omega) | (simp [ob, obA])) ?_
              refine V_goto dX12_isRead_59 (tgt := 63) (by decide) ?_
              refine V_zret dX12_isRead_63 rfl (by first | exact Or.inl rfl | exact Or.inr rfl | exact b2i_01 _) (by decide) ⟨by rw [rdNum_e, hsn, tm_nn (by omega), if_neg (fun q => by rcases q.2 with q | q; exact q45 q; omega), decide_eq_true (by omega)]; rfl, G2, rfl, f2⟩
      · refine V_ex sX12_isRead_35 (by rfl) (by first | exact trivial | exact Or.inr rfl | exact Or.inl rfl | (simp only [ob, obA, R32, R64] at *; omega) | (simp only [ob, obA, R32, R64] at *; and_intros <;> omega) | (simp [ob, obA])) ?_
        refine V_zret dX12_isRead_36 rfl (by first | exact Or.inl rfl | exact Or.inr rfl | exact b2i_01 _) (by decide) ⟨by rw [zero (by unfold seenV; rw [if_pos (Or.inr q32)])]; rfl, G2, rfl, f2⟩
theorem rdNum_seen {S : Sh} {v : Ev} {j : Nat} {bz p : Int} (h : 0 < rdNum S v j bz p) : rdNum S v j bz p = numB (cdS S) (bkJ S j) p := by
  rw [rdNum_e] at h ⊢
  split at h
  · omega
  · rename_i c
    rw [if_neg c]
    unfold seenV at h ⊢
    split at h
    · omega
    · rename_i c2; rw [if_neg c2]
theorem rdF_R {g : Int → Int} {fr e : Nat} {B : Int} (hB : 0 ≤ B) : ∀ n : Nat, (∀ x : Nat, x < n → 0 ≤ g ((fr + x : Nat) : Int) ∧ g ((fr + x : Nat) : Int) ≤ B) → 0 ≤ rdF g fr e n ∧ rdF g fr e n ≤ B * (n : Int) := by
  intro n
  induction n with
  | zero => intro _; exact ⟨Int.le_refl _, by show (0 : Int) ≤ B * 0; omega⟩
  | succ n ih =>
    intro h
    have h1 := ih (fun x hx => h x (by omega))
    have h2 := h n (by omega)
    have e1 : B * ((n + 1 : Nat) : Int) = B * (n : Int) + B := by rw [show ((n + 1 : Nat) : Int) = (n : Int) + 1 by omega, Int.mul_add, Int.mul_one]
    rw [rdF, e1]
    split <;> omega
set_option maxRecDepth 100000 in
set_option maxHeartbeats 4000000 in
theorem c_mxRead {κ : Kx} (hκ : KOK κ) {d : Nat} {K i fr to e bz : Int} {many : Bool} {A : Ab} {G : Wd} (hC : RM G A) (hI : Inv K A) (hi : R32 i) (hfr : R32 fr) (hto : R32 to) (he : R32 e) (hbz : R32 bz) (hd : 20 ≤ d) : Ct κ MX12_read d 0 0 [VR 145, VI i, VI fr, VI to, VI e, VI bz, VI (b2i many)] (Wm G) (mdP G A (some (VL (readP A i fr to e bz many).2)) (readP A i fr to e bz many).1) noX := by
  refine Ct_of hκ kX12_read.1 rfl (Nat.le_of_ble_eq_true rfl) (ls := [some (VR 145), some (VI i), some (VI fr), some (VI to), some (VI e), some (VI bz), some (VI (b2i many)), none, none, none]) rfl (fun μ => ?_)
  have hC1 := RM_0 hC 0
  have hfr64 := r32_64 hfr
  have hto64 := r32_64 hto
  have he64 := r32_64 he
  have hbz64 := r32_64 hbz
  by_cases hin : inB A.1 i
  · obtain ⟨j, hj⟩ : ∃ j : Nat, i = (j : Int) := ⟨i.toNat, by have := hin.1; omega⟩
    subst hj
    have hj : j < A.1.1.length := by have := hin.2; omega
    obtain ⟨m1, m2, m3, m4, m5, m6⟩ := mS0_b hC.1 hj
    obtain ⟨g1, g2, g3, g4, g5⟩ := gone_ok hI.1 hj
    have hj6 : j < 6 := by have := hI.1.1; omega
    have hok := hI.1.2.1 _ (List.getElem_mem hj)
    rw [← bkJ_in hj] at hok
    have e1 : ¬ ((1 ≤ fr ∧ fr ≤ 2 * (bkJ A.1 j).2.2.1) ∧ 1 ≤ to ∧ to ≤ 2 * (bkJ A.1 j).2.2.1) → readP A (j : Nat) fr to e bz many = (1, 0) := fun h => by unfold readP; rw [if_pos (fun q => h q.2)]
    have e2 : ((1 ≤ fr ∧ fr ≤ 2 * (bkJ A.1 j).2.2.1) ∧ 1 ≤ to ∧ to ≤ 2 * (bkJ A.1 j).2.2.1) → ¬ (fr ≤ to ∧ (1 ≤ e ∧ e ≤ 100) ∧ (bz = 0 ∨ 2 ≤ bz ∧ bz ≤ 9)) → readP A (j : Nat) fr to e bz many = (2, 0) := fun h h2 => by unfold readP; rw [if_neg (fun q => q ⟨hin, h⟩), if_pos h2]
    have e3 : ((1 ≤ fr ∧ fr ≤ 2 * (bkJ A.1 j).2.2.1) ∧ 1 ≤ to ∧ to ≤ 2 * (bkJ A.1 j).2.2.1) → (fr ≤ to ∧ (1 ≤ e ∧ e ≤ 100) ∧ (bz = 0 ∨ 2 ≤ bz ∧ bz ≤ 9)) → readP A (j : Nat) fr to e bz many = (0, readV A j fr.toNat to.toNat e.toNat bz many) := fun h h2 => by unfold readP; rw [if_neg (fun q => q ⟨hin, h⟩), if_neg (fun q => q h2)]; rfl
    have main : ((1 ≤ fr ∧ fr ≤ 2 * (bkJ A.1 j).2.2.1) ∧ 1 ≤ to ∧ to ≤ 2 * (bkJ A.1 j).2.2.1) → (fr ≤ to ∧ (1 ≤ e ∧ e ≤ 100) ∧ (bz = 0 ∨ 2 ≤ bz ∧ bz ≤ 9)) → V κ MX12_read (rmD d 0 0) (mdP G A (some (VL (readP A (j : Nat) fr to e bz many).2)) (readP A (j : Nat) fr to e bz many).1) noX 0 0 μ 0 0 (Wm ((uI G 145 2 0))) 100 [some (VR 145), some (VI (j : Nat)), some (VI fr), some (VI to), some (VI e), some (VI bz), some (VI (b2i many)), none, none, none] [] := fun h1 h2 => by
      have ee := e3 h1 h2
      obtain ⟨g, hg⟩ : ∃ g : Int → Int, g = fun p => if many = true then (if 0 < rdNum A.1 A.2.1 j bz p then 1 else 0) else rdNum A.1 A.2.1 j bz p := ⟨_, rfl⟩
      have hV : readV A j fr.toNat to.toNat e.toNat bz many = rdF g fr.toNat e.toNat (to.toNat + 1 - fr.toNat) := by
        unfold readV
        cases many with
        | true => rw [if_pos rfl, hg]; rfl
        | false => rw [if_neg (by decide), hg]; rfl
      have hgR : ∀ x : Nat, (x : Int) < to - fr + 1 → 0 ≤ g ((fr.toNat + x : Nat) : Int) ∧ g ((fr.toNat + x : Nat) : Int) ≤ 99999 := fun x hx => by
        have := rdNum_R (S := A.1) (v := A.2.1) (j := j) (bz := bz) (p := ((fr.toNat + x : Nat) : Int)) hok (by omega)
        rw [hg]
        dsimp only
        split
        · split <;> omega
        · exact this
      have L : ∀ (k n : Nat) (pp : Int) (G1 : Wd), to.toNat + 1 - fr.toNat ≤ n + k → n ≤ to.toNat + 1 - fr.toNat + 100 → pp = fr + (n : Int) → tpR e.toNat n = 0 → FN G G1 → G1.1 145 2 = 0 → V κ MX12_read (rmD d 0 0) (mdP G A (some (VL (readP A (j : Nat) fr to e bz many).2)) (readP A (j : Nat) fr to e bz many).1) noX 0 0 μ 0 0 (Wm (G1)) 106 [some (VR 145), some (VI (j : Nat)), some (VI fr), some (VI to), some (VI e), some (VI bz), some (VI (b2i many)), some (VL (rdF g fr.toNat e.toNat (min n (to.toNat + 1 - fr.toNat)))), none, some (VI pp)] [] := by
        intro k
        induction k with
        | zero =>
          intro n pp G1 hnk hn9 hpp ht f1 c0
          have hmn : min n (to.toNat + 1 - fr.toNat) = to.toNat + 1 - fr.toNat := Nat.min_eq_right (by omega)
          refine V_ex sX12_read_106 (by rfl) (by first | exact trivial | exact Or.inr rfl | exact Or.inl rfl | (simp only [ob, obA, R32, R64] at *; omega) | (simp only [ob, obA, R32, R64] at *; and_intros <;> omega) | (simp [ob, obA])) ?_
          refine V_icmpgt dX12_read_109 (tgt := 156) (by decide) (by simp only [R32, R64] at *; omega) (fun q109 => ?_) (fun q109 => ?_)
          · refine V_ex sX12_read_156 (by rfl) (by first | exact trivial | exact Or.inr rfl | exact Or.inl rfl | (simp only [ob, obA, R32, R64] at *; omega) | (simp only [ob, obA, R32, R64] at *; and_intros <;> omega) | (simp [ob, obA])) ?_
            refine V_lret dX12_read_158 rfl (by decide) (by rw [ee, hmn, hV]; exact FN.s0 f1 c0 hC rfl rfl)
          · omega
        | succ k ih =>
          intro n pp G1 hnk hn9 hpp ht f1 c0
          by_cases hlast : to.toNat + 1 - fr.toNat ≤ n
          · have hmn : min n (to.toNat + 1 - fr.toNat) = to.toNat + 1 - fr.toNat := Nat.min_eq_right hlast
            refine V_ex sX12_read_106 (by rfl) (by first | exact trivial | exact Or.inr rfl | exact Or.inl rfl | (simp only [ob, obA, R32, R64] at *; omega) | (simp only [ob, obA, R32, R64] at *; and_intros <;> omega) | (simp [ob, obA])) ?_
            refine V_icmpgt dX12_read_109 (tgt := 156) (by decide) (by simp only [R32, R64] at *; omega) (fun q109 => ?_) (fun q109 => ?_)
            · refine V_ex sX12_read_156 (by rfl) (by first | exact trivial | exact Or.inr rfl | exact Or.inl rfl | (simp only [ob, obA, R32, R64] at *; omega) | (simp only [ob, obA, R32, R64] at *; and_intros <;> omega) | (simp [ob, obA])) ?_
              refine V_lret dX12_read_158 rfl (by decide) (by rw [ee, hmn, hV]; exact FN.s0 f1 c0 hC rfl rfl)
            · omega
          · obtain ⟨q, hq⟩ : ∃ q : Nat, q = fr.toNat + n := ⟨_, rfl⟩
            have hpq : pp = (q : Int) := by omega
            subst hpq
            have hM1 := (RM_f hC f1).1
            have hnx : rdF g fr.toNat e.toNat (min (n + e.toNat) (to.toNat + 1 - fr.toNat)) = rdF g fr.toNat e.toNat (min n (to.toNat + 1 - fr.toNat)) + g (q : Int) := by rw [hq]; exact rdF_min (by omega) ht (by omega)
            have htn := tpR_next (show 1 ≤ e.toNat by omega) ht
            have hgq := hgR n (by omega)
            rw [← hq] at hgq
            have hF := rdF_R (g := g) (fr := fr.toNat) (e := e.toNat) (B := 99999) (by decide) (min n (to.toNat + 1 - fr.toNat)) (fun x hx => hgR x (by omega))
            have hNR := numB_Rc hI.1 hj (p := (q : Int)) (by omega)
            have nx : ∀ G2, FN G G2 → G2.1 145 2 = 0 → ∀ z, z = rdF g fr.toNat e.toNat (min n (to.toNat + 1 - fr.toNat)) + g (q : Int) → V κ MX12_read (rmD d 0 0) (mdP G A (some (VL (readP A (j : Nat) fr to e bz many).2)) (readP A (j : Nat) fr to e bz many).1) noX 0 0 μ 0 0 (Wm (G2)) 106 [some (VR 145), some (VI (j : Nat)), some (VI fr), some (VI to), some (VI e), some (VI bz), some (VI (b2i many)), some (VL z), none, some (VI ((q : Int) + e))] [] := fun G2 f2 c2 z hz => by
              rw [hz, ← hnx]
              exact ih (n + e.toNat) _ G2 (by omega) (by omega) (by omega) htn f2 c2
            have gz : decide (0 < rdNum A.1 A.2.1 j bz (q : Int)) = false → g (q : Int) = 0 := fun h => by
              have h0 := of_decide_eq_false h
              have := rdNum_R (S := A.1) (v := A.2.1) (j := j) (bz := bz) (p := (q : Int)) hok (by omega)
              rw [hg]; dsimp only
              split
              · first | rfl | rw [if_neg h0]
              · omega
            cases many with
            | true =>
              have g1' : decide (0 < rdNum A.1 A.2.1 j bz (q : Int)) = true → g (q : Int) = 1 := fun h => by rw [hg]; dsimp only; rw [if_pos rfl, if_pos (of_decide_eq_true h)]
              refine V_ex sX12_read_106 (by rfl) (by first | exact trivial | exact Or.inr rfl | exact Or.inl rfl | (simp only [ob, obA, R32, R64] at *; omega) | (simp only [ob, obA, R32, R64] at *; and_intros <;> omega) | (simp [ob, obA])) ?_
              refine V_icmpgt dX12_read_109 (tgt := 156) (by decide) (by simp only [R32, R64] at *; omega) (fun q109 => ?_) (fun q109 => ?_)
              · omega
              · refine V_ex sX12_read_112 (by rfl) (by first | exact trivial | exact Or.inr rfl | exact Or.inl rfl | (simp only [ob, obA, R32, R64] at *; omega) | (simp only [ob, obA, R32, R64] at *; and_intros <;> omega) | (simp [ob, obA])) ?_
                refine V_callV (M := MX12_read) (N := MX12_isRead) dX12_read_118 lRX12_525 kX12_isRead rfl (rfl) rfl (c_mIsRead (d := 6) hκ hM1 hI hj (by omega) (by omega) (by omega)) rfl rfl (Nat.le_of_ble_eq_true rfl) (fit_rm (by omega)) (⟨Nat.le_of_ble_eq_true rfl, Nat.le_of_ble_eq_true rfl⟩) (fun v Ω' hp => ?_) (fun _ _ h => h.elim)
                obtain ⟨rfl, G2, rfl, f2⟩ := hp
                obtain ⟨f3, c3⟩ := fn_c f1 f2
                refine V_ifeqB dX12_read_121 (tgt := 146) (by decide) (fun q121 => ?_) (fun q121 => ?_)
                · refine V_ex sX12_read_146 (by rfl) (by first | exact trivial | exact Or.inr rfl | exact Or.inl rfl | (simp only [ob, obA, R32, R64] at *; omega) | (simp only [ob, obA, R32, R64] at *; and_intros <;> omega) | (simp [ob, obA])) ?_
                  refine V_goto dX12_read_153 (tgt := 106) (by decide) ?_
                  exact nx G2 f3 (c3.trans c0) _ (by rw [gz q121, Int.add_zero])
                · refine V_ex sX12_read_124 (by rfl) (by first | exact trivial | exact Or.inr rfl | exact Or.inl rfl | (simp only [ob, obA, R32, R64] at *; omega) | (simp only [ob, obA, R32, R64] at *; and_intros <;> omega) | (simp [ob, obA])) ?_
                  refine V_ifeq dX12_read_128 (tgt := 135) (by decide) (by exact ⟨by decide, by decide⟩) (fun q128 => ?_) (fun q128 => ?_)
                  · exact absurd q128 (by decide)
                  · refine V_ex sX12_read_131 (by rfl) (by first | exact trivial | exact Or.inr rfl | exact Or.inl rfl | (simp only [ob, obA, R32, R64] at *; omega) | (simp only [ob, obA, R32, R64] at *; and_intros <;> omega) | (simp [ob, obA])) ?_
                    refine V_goto dX12_read_132 (tgt := 143) (by decide) ?_
                    refine V_ex sX12_read_143 (by rfl) (by first | exact trivial | exact Or.inr rfl | exact Or.inl rfl | (simp only [ob, obA, R32, R64] at *; omega) | (simp only [ob, obA, R32, R64] at *; and_intros <;> omega) | (simp [ob, obA])) ?_
                    refine V_ex sX12_read_146 (by rfl) (by first | exact trivial | exact Or.inr rfl | exact Or.inl rfl | (simp only [ob, obA, R32, R64] at *; omega) | (simp only [ob, obA, R32, R64] at *; and_intros <;> omega) | (simp [ob, obA])) ?_
                    refine V_goto dX12_read_153 (tgt := 106) (by decide) ?_
                    exact nx G2 f3 (c3.trans c0) _ (by rw [g1' q121])
            | false =>
              have g1' : decide (0 < rdNum A.1 A.2.1 j bz (q : Int)) = true → g (q : Int) = numB (cdS A.1) (bkJ A.1 j) (q : Int) := fun h => by rw [hg]; dsimp only; rw [if_neg (by decide), rdNum_seen (of_decide_eq_true h)]
              refine V_ex sX12_read_106 (by rfl) (by first | exact trivial | exact Or.inr rfl | exact Or.inl rfl | (simp only [ob, obA, R32, R64] at *; omega) | (simp only [ob, obA, R32, R64] at *; and_intros <;> omega) | (simp [ob, obA])) ?_
              refine V_icmpgt dX12_read_109 (tgt := 156) (by decide) (by simp only [R32, R64] at *; omega) (fun q109 => ?_) (fun q109 => ?_)
              · omega
              · refine V_ex sX12_read_112 (by rfl) (by first | exact trivial | exact Or.inr rfl | exact Or.inl rfl | (simp only [ob, obA, R32, R64] at *; omega) | (simp only [ob, obA, R32, R64] at *; and_intros <;> omega) | (simp [ob, obA])) ?_
                refine V_callV (M := MX12_read) (N := MX12_isRead) dX12_read_118 lRX12_525 kX12_isRead rfl (rfl) rfl (c_mIsRead (d := 6) hκ hM1 hI hj (by omega) (by omega) (by omega)) rfl rfl (Nat.le_of_ble_eq_true rfl) (fit_rm (by omega)) (⟨Nat.le_of_ble_eq_true rfl, Nat.le_of_ble_eq_true rfl⟩) (fun v Ω' hp => ?_) (fun _ _ h => h.elim)
                obtain ⟨rfl, G2, rfl, f2⟩ := hp
                obtain ⟨f3, c3⟩ := fn_c f1 f2
                have hM2 := (RM_f hC f3).1
                refine V_ifeqB dX12_read_121 (tgt := 146) (by decide) (fun q121 => ?_) (fun q121 => ?_)
                · refine V_ex sX12_read_146 (by rfl) (by first | exact trivial | exact Or.inr rfl | exact Or.inl rfl | (simp only [ob, obA, R32, R64] at *; omega) | (simp only [ob, obA, R32, R64] at *; and_intros <;> omega) | (simp [ob, obA])) ?_
                  refine V_goto dX12_read_153 (tgt := 106) (by decide) ?_
                  exact nx G2 f3 (c3.trans c0) _ (by rw [gz q121, Int.add_zero])
                · refine V_ex sX12_read_124 (by rfl) (by first | exact trivial | exact Or.inr rfl | exact Or.inl rfl | (simp only [ob, obA, R32, R64] at *; omega) | (simp only [ob, obA, R32, R64] at *; and_intros <;> omega) | (simp [ob, obA])) ?_
                  refine V_ifeq dX12_read_128 (tgt := 135) (by decide) (by exact ⟨by decide, by decide⟩) (fun q128 => ?_) (fun q128 => ?_)
                  · refine V_ex sX12_read_135 (by rfl) (by first | exact trivial | exact Or.inr rfl | exact Or.inl rfl | (simp only [ob, obA, R32, R64] at *; omega) | (simp only [ob, obA, R32, R64] at *; and_intros <;> omega) | (simp [ob, obA])) ?_
                    refine V_callV (M := MX12_read) (N := MX12_numberOn) dX12_read_139 lRX12_393 kX12_numberOn rfl (rfl) rfl (c_mNumOn (d := 6) hκ (p := q) hM2.1 hI.1 hj (by omega) (by omega)) rfl rfl (Nat.le_of_ble_eq_true rfl) (fit_rm (by omega)) (⟨Nat.le_of_ble_eq_true rfl, Nat.le_of_ble_eq_true rfl⟩) (fun v Ω' hp => ?_) (fun _ _ h => h.elim)
                    obtain ⟨rfl, G3, rfl, f4⟩ := hp
                    obtain ⟨f5, c5⟩ := fn_c f3 f4
                    refine V_ex sX12_read_142 (by rfl) (by first | exact trivial | exact Or.inr rfl | exact Or.inl rfl | (simp only [ob, obA, R32, R64] at *; omega) | (simp only [ob, obA, R32, R64] at *; and_intros <;> omega) | (simp [ob, obA])) ?_
                    refine V_ex sX12_read_143 (by rfl) (by first | exact trivial | exact Or.inr rfl | exact Or.inl rfl | (simp only [ob, obA, R32, R64] at *; omega) | (simp only [ob, obA, R32, R64] at *; and_intros <;> omega) | (simp [ob, obA])) ?_
                    refine V_ex sX12_read_146 (by rfl) (by first | exact trivial | exact Or.inr rfl | exact Or.inl rfl | (simp only [ob, obA, R32, R64] at *; omega) | (simp only [ob, obA, R32, R64] at *; and_intros <;> omega) | (simp [ob, obA])) ?_
                    refine V_goto dX12_read_153 (tgt := 106) (by decide) ?_
                    exact nx G3 f5 (c5.trans (c3.trans c0)) _ (by rw [g1' q121])
                  · exact absurd rfl q128
      have st := L (to.toNat + 1 - fr.toNat) 0 fr (uI G 145 2 0) (by omega) (by omega) (by omega) rfl (fn0 G 0) iu
      rw [Nat.zero_min] at st
      refine V_ex sX12_read_100 (by rfl) (by first | exact trivial | exact Or.inr rfl | exact Or.inl rfl | (simp only [ob, obA, R32, R64] at *; omega) | (simp only [ob, obA, R32, R64] at *; and_intros <;> omega) | (simp [ob, obA])) ?_
      exact st
    refine V_ex sX12_read_0 (by simp only [Option.toList, List.cons_append, List.nil_append, exN, ex1, gI, gL, gR, pI, pL, pR, lget, lset1, lset2, kl, b2I, b2L, nob, ob32, ob64, xGet, xPut, xLen, xLd, xLdR, xSt, obA, true_and, and_true, and_self, eq_self, Nat.reduceEqDiff, Nat.zero_ne_one, reduceIte, Nat.reduceLeDiff, and_false, false_and, show skd 11 2 = 0 from rfl, show LF.1 145 = some (.inl 11) from rfl, upd2_eq, Int.reduceToNat, Int.toNat_natCast]; rfl) (by first | exact trivial | exact Or.inr rfl | exact Or.inl rfl | (simp only [ob, obA, R32, R64] at *; omega) | (simp only [ob, obA, R32, R64] at *; and_intros <;> omega) | (simp [ob, obA])) ?_
    refine V_callV (M := MX12_read) (N := MX12_isBook) dX12_read_7 lRX12_386 kX12_isBook rfl (rfl) rfl (c_mIsBook (d := 2) hκ hC1.1 hI.1 hi (by omega)) rfl rfl (Nat.le_of_ble_eq_true rfl) (fit_rm (by omega)) (⟨Nat.le_of_ble_eq_true rfl, Nat.le_of_ble_eq_true rfl⟩) (fun v Ω' hp => ?_) (fun _ _ h => h.elim)
    obtain ⟨rfl, rfl⟩ := hp
    refine V_ifeqB dX12_read_10 (tgt := 49) (by decide) (fun q10 => ?_) (fun q10 => ?_)
    · exact absurd hin (of_decide_eq_false q10)
    · refine V_ex sX12_read_13 (by simp only [Option.toList, List.cons_append, List.nil_append, exN, ex1, gI, gL, gR, pI, pL, pR, lget, lset1, lset2, kl, b2I, b2L, nob, ob32, ob64, xGet, xPut, xLen, xLd, xLdR, xSt, obA, true_and, and_true, and_self, eq_self, Nat.reduceEqDiff, Nat.zero_ne_one, reduceIte, Nat.reduceLeDiff, and_false, false_and, show skd 11 6 = 2 from rfl, show LF.1 145 = some (.inl 11) from rfl, show LF.2 145 6 = some 151 from rfl, show LF.1 151 = some (.inr (0, 12)) from rfl, asn (show 151 ≠ 145 by decide), m3, Int.toNat_natCast, upd2_eq, Int.reduceToNat, Int.toNat_natCast]; rfl) (by first | exact trivial | exact Or.inr rfl | exact Or.inl rfl | (simp only [ob, obA, R32, R64] at *; omega) | (simp only [ob, obA, R32, R64] at *; and_intros <;> omega) | (simp [ob, obA])) ?_
      refine V_callS (M := MX12_read) (N := MX12_isIn) dX12_read_25 lRX12_178 kX12_isIn rfl (c_misIn (d := 2) hκ hfr64 (by unfold R64; omega) (by unfold R64; omega)) rfl rfl (Nat.le_of_ble_eq_true rfl) (fit_rm (by omega)) (⟨Nat.le_of_ble_eq_true rfl, Nat.le_of_ble_eq_true rfl⟩) (fun v Ω' hp => ?_) (fun _ _ h => h.elim)
      obtain ⟨rfl, rfl⟩ := hp
      refine V_ifeqB dX12_read_28 (tgt := 49) (by decide) (fun q28 => ?_) (fun q28 => ?_)
      · refine V_ex sX12_read_49 (by rfl) (by first | exact trivial | exact Or.inr rfl | exact Or.inl rfl | (simp only [ob, obA, R32, R64] at *; omega) | (simp only [ob, obA, R32, R64] at *; and_intros <;> omega) | (simp [ob, obA])) ?_
        refine V_callV (M := MX12_read) (N := MX12_fail) dX12_read_51 lRX12_324 kX12_fail rfl (rfl) rfl (c_mfail (d := 2) hκ) rfl rfl (Nat.le_of_ble_eq_true rfl) (fit_rm (by omega)) (⟨Nat.le_of_ble_eq_true rfl, Nat.le_of_ble_eq_true rfl⟩) (fun v Ω' hp => ?_) (fun _ _ h => h.elim)
        obtain ⟨rfl, rfl⟩ := hp
        refine V_ex sX12_read_54 (by rfl) (by first | exact trivial | exact Or.inr rfl | exact Or.inl rfl | (simp only [ob, obA, R32, R64] at *; omega) | (simp only [ob, obA, R32, R64] at *; and_intros <;> omega) | (simp [ob, obA])) ?_
        refine V_lret dX12_read_55 rfl (by decide) (by rw [e1 (fun q => (of_decide_eq_false q28) q.1)]; exact md_1 hC rfl rfl)
      · refine V_ex sX12_read_31 (by simp only [Option.toList, List.cons_append, List.nil_append, exN, ex1, gI, gL, gR, pI, pL, pR, lget, lset1, lset2, kl, b2I, b2L, nob, ob32, ob64, xGet, xPut, xLen, xLd, xLdR, xSt, obA, true_and, and_true, and_self, eq_self, Nat.reduceEqDiff, Nat.zero_ne_one, reduceIte, Nat.reduceLeDiff, and_false, false_and, show skd 11 6 = 2 from rfl, show LF.1 145 = some (.inl 11) from rfl, show LF.2 145 6 = some 151 from rfl, show LF.1 151 = some (.inr (0, 12)) from rfl, asn (show 151 ≠ 145 by decide), m3, Int.toNat_natCast, upd2_eq, Int.reduceToNat, Int.toNat_natCast]; rfl) (by first | exact trivial | exact Or.inr rfl | exact Or.inl rfl | (simp only [ob, obA, R32, R64] at *; omega) | (simp only [ob, obA, R32, R64] at *; and_intros <;> omega) | (simp [ob, obA])) ?_
        refine V_callS (M := MX12_read) (N := MX12_isIn) dX12_read_43 lRX12_178 kX12_isIn rfl (c_misIn (d := 2) hκ hto64 (by unfold R64; omega) (by unfold R64; omega)) rfl rfl (Nat.le_of_ble_eq_true rfl) (fit_rm (by omega)) (⟨Nat.le_of_ble_eq_true rfl, Nat.le_of_ble_eq_true rfl⟩) (fun v Ω' hp => ?_) (fun _ _ h => h.elim)
        obtain ⟨rfl, rfl⟩ := hp
        refine V_ifneB dX12_read_46 (tgt := 56) (by decide) (fun q46 => ?_) (fun q46 => ?_)
        · have h1 : (1 ≤ fr ∧ fr ≤ 2 * (bkJ A.1 j).2.2.1) ∧ 1 ≤ to ∧ to ≤ 2 * (bkJ A.1 j).2.2.1 := ⟨of_decide_eq_true q28, of_decide_eq_true q46⟩
          refine V_ex sX12_read_56 (by rfl) (by first | exact trivial | exact Or.inr rfl | exact Or.inl rfl | (simp only [ob, obA, R32, R64] at *; omega) | (simp only [ob, obA, R32, R64] at *; and_intros <;> omega) | (simp [ob, obA])) ?_
          refine V_icmplt dX12_read_58 (tgt := 93) (by decide) (by simp only [R32, R64] at *; omega) (fun q58 => ?_) (fun q58 => ?_)
          · refine V_ex sX12_read_93 (by rfl) (by first | exact trivial | exact Or.inr rfl | exact Or.inl rfl | (simp only [ob, obA, R32, R64] at *; omega) | (simp only [ob, obA, R32, R64] at *; and_intros <;> omega) | (simp [ob, obA])) ?_
            refine V_callV (M := MX12_read) (N := MX12_fail) dX12_read_95 lRX12_324 kX12_fail rfl (rfl) rfl (c_mfail (d := 2) hκ) rfl rfl (Nat.le_of_ble_eq_true rfl) (fit_rm (by omega)) (⟨Nat.le_of_ble_eq_true rfl, Nat.le_of_ble_eq_true rfl⟩) (fun v Ω' hp => ?_) (fun _ _ h => h.elim)
            obtain ⟨rfl, rfl⟩ := hp
            refine V_ex sX12_read_98 (by rfl) (by first | exact trivial | exact Or.inr rfl | exact Or.inl rfl | (simp only [ob, obA, R32, R64] at *; omega) | (simp only [ob, obA, R32, R64] at *; and_intros <;> omega) | (simp [ob, obA])) ?_
            refine V_lret dX12_read_99 rfl (by decide) (by rw [e2 h1 (fun q => by have := q.1; omega)]; exact md_1 hC rfl rfl)
          · refine V_ex sX12_read_61 (by rfl) (by first | exact trivial | exact Or.inr rfl | exact Or.inl rfl | (simp only [ob, obA, R32, R64] at *; omega) | (simp only [ob, obA, R32, R64] at *; and_intros <;> omega) | (simp [ob, obA])) ?_
            refine V_callS (M := MX12_read) (N := MX12_isIn) dX12_read_68 lRX12_178 kX12_isIn rfl (c_misIn (d := 2) hκ he64 (by unfold R64; omega) (by unfold R64; omega)) rfl rfl (Nat.le_of_ble_eq_true rfl) (fit_rm (by omega)) (⟨Nat.le_of_ble_eq_true rfl, Nat.le_of_ble_eq_true rfl⟩) (fun v Ω' hp => ?_) (fun _ _ h => h.elim)
            obtain ⟨rfl, rfl⟩ := hp
            refine V_ifeqB dX12_read_71 (tgt := 93) (by decide) (fun q71 => ?_) (fun q71 => ?_)
            · refine V_ex sX12_read_93 (by rfl) (by first | exact trivial | exact Or.inr rfl | exact Or.inl rfl | (simp only [ob, obA, R32, R64] at *; omega) | (simp only [ob, obA, R32, R64] at *; and_intros <;> omega) | (simp [ob, obA])) ?_
              refine V_callV (M := MX12_read) (N := MX12_fail) dX12_read_95 lRX12_324 kX12_fail rfl (rfl) rfl (c_mfail (d := 2) hκ) rfl rfl (Nat.le_of_ble_eq_true rfl) (fit_rm (by omega)) (⟨Nat.le_of_ble_eq_true rfl, Nat.le_of_ble_eq_true rfl⟩) (fun v Ω' hp => ?_) (fun _ _ h => h.elim)
              obtain ⟨rfl, rfl⟩ := hp
              refine V_ex sX12_read_98 (by rfl) (by first | exact trivial | exact Or.inr rfl | exact Or.inl rfl | (simp only [ob, obA, R32, R64] at *; omega) | (simp only [ob, obA, R32, R64] at *; and_intros <;> omega) | (simp [ob, obA])) ?_
              refine V_lret dX12_read_99 rfl (by decide) (by rw [e2 h1 (fun q => (of_decide_eq_false q71) q.2.1)]; exact md_1 hC rfl rfl)
            · refine V_ex sX12_read_74 (by rfl) (by first | exact trivial | exact Or.inr rfl | exact Or.inl rfl | (simp only [ob, obA, R32, R64] at *; omega) | (simp only [ob, obA, R32, R64] at *; and_intros <;> omega) | (simp [ob, obA])) ?_
              refine V_callS (M := MX12_read) (N := MX12_isIn) dX12_read_81 lRX12_178 kX12_isIn rfl (c_misIn (d := 2) hκ hbz64 (by unfold R64; omega) (by unfold R64; omega)) rfl rfl (Nat.le_of_ble_eq_true rfl) (fit_rm (by omega)) (⟨Nat.le_of_ble_eq_true rfl, Nat.le_of_ble_eq_true rfl⟩) (fun v Ω' hp => ?_) (fun _ _ h => h.elim)
              obtain ⟨rfl, rfl⟩ := hp
              refine V_ifeqB dX12_read_84 (tgt := 93) (by decide) (fun q84 => ?_) (fun q84 => ?_)
              · refine V_ex sX12_read_93 (by rfl) (by first | exact trivial | exact Or.inr rfl | exact Or.inl rfl | (simp only [ob, obA, R32, R64] at *; omega) | (simp only [ob, obA, R32, R64] at *; and_intros <;> omega) | (simp [ob, obA])) ?_
                refine V_callV (M := MX12_read) (N := MX12_fail) dX12_read_95 lRX12_324 kX12_fail rfl (rfl) rfl (c_mfail (d := 2) hκ) rfl rfl (Nat.le_of_ble_eq_true rfl) (fit_rm (by omega)) (⟨Nat.le_of_ble_eq_true rfl, Nat.le_of_ble_eq_true rfl⟩) (fun v Ω' hp => ?_) (fun _ _ h => h.elim)
                obtain ⟨rfl, rfl⟩ := hp
                refine V_ex sX12_read_98 (by rfl) (by first | exact trivial | exact Or.inr rfl | exact Or.inl rfl | (simp only [ob, obA, R32, R64] at *; omega) | (simp only [ob, obA, R32, R64] at *; and_intros <;> omega) | (simp [ob, obA])) ?_
                refine V_lret dX12_read_99 rfl (by decide) (by rw [e2 h1 (fun q => (of_decide_eq_false q84) (by have := q.2.2; omega))]; exact md_1 hC rfl rfl)
              · refine V_ex sX12_read_87 (by rfl) (by first | exact trivial | exact Or.inr rfl | exact Or.inl rfl | (simp only [ob, obA, R32, R64] at *; omega) | (simp only [ob, obA, R32, R64] at *; and_intros <;> omega) | (simp [ob, obA])) ?_
                refine V_icmpne dX12_read_90 (tgt := 100) (by decide) (by simp only [R32, R64] at *; omega) (fun q90 => ?_) (fun q90 => ?_)
                · exact main h1 ⟨by omega, of_decide_eq_true q71, by have := of_decide_eq_true q84; omega⟩
                · refine V_ex sX12_read_93 (by rfl) (by first | exact trivial | exact Or.inr rfl | exact Or.inl rfl | (simp only [ob, obA, R32, R64] at *; omega) | (simp only [ob, obA, R32, R64] at *; and_intros <;> omega) | (simp [ob, obA])) ?_
                  refine V_callV (M := MX12_read) (N := MX12_fail) dX12_read_95 lRX12_324 kX12_fail rfl (rfl) rfl (c_mfail (d := 2) hκ) rfl rfl (Nat.le_of_ble_eq_true rfl) (fit_rm (by omega)) (⟨Nat.le_of_ble_eq_true rfl, Nat.le_of_ble_eq_true rfl⟩) (fun v Ω' hp => ?_) (fun _ _ h => h.elim)
                  obtain ⟨rfl, rfl⟩ := hp
                  refine V_ex sX12_read_98 (by rfl) (by first | exact trivial | exact Or.inr rfl | exact Or.inl rfl | (simp only [ob, obA, R32, R64] at *; omega) | (simp only [ob, obA, R32, R64] at *; and_intros <;> omega) | (simp [ob, obA])) ?_
                  refine V_lret dX12_read_99 rfl (by decide) (by rw [e2 h1 (fun q => by have := q.2.2; omega)]; exact md_1 hC rfl rfl)
        · refine V_ex sX12_read_49 (by rfl) (by first | exact trivial | exact Or.inr rfl | exact Or.inl rfl | (simp only [ob, obA, R32, R64] at *; omega) | (simp only [ob, obA, R32, R64] at *; and_intros <;> omega) | (simp [ob, obA])) ?_
          refine V_callV (M := MX12_read) (N := MX12_fail) dX12_read_51 lRX12_324 kX12_fail rfl (rfl) rfl (c_mfail (d := 2) hκ) rfl rfl (Nat.le_of_ble_eq_true rfl) (fit_rm (by omega)) (⟨Nat.le_of_ble_eq_true rfl, Nat.le_of_ble_eq_true rfl⟩) (fun v Ω' hp => ?_) (fun _ _ h => h.elim)
          obtain ⟨rfl, rfl⟩ := hp
          refine V_ex sX12_read_54 (by rfl) (by first | exact trivial | exact Or.inr rfl | exact Or.inl rfl | (simp only [ob, obA, R32, R64] at *; omega) | (simp only [ob, obA, R32, R64] at *; and_intros <;> omega) | (simp [ob, obA])) ?_
          refine V_lret dX12_read_55 rfl (by decide) (by rw [e1 (fun q => (of_decide_eq_false q46) q.2)]; exact md_1 hC rfl rfl)
  · have e1 : readP A i fr to e bz many = (1, 0) := by unfold readP; rw [if_pos (fun q => hin q.1)]
    refine V_ex sX12_read_0 (by simp only [Option.toList, List.cons_append, List.nil_append, exN, ex1, gI, gL, gR, pI, pL, pR, lget, lset1, lset2, kl, b2I, b2L, nob, ob32, ob64, xGet, xPut, xLen, xLd, xLdR, xSt, obA, true_and, and_true, and_self, eq_self, Nat.reduceEqDiff, Nat.zero_ne_one, reduceIte, Nat.reduceLeDiff, and_false, false_and, show skd 11 2 = 0 from rfl, show LF.1 145 = some (.inl 11) from rfl, upd2_eq, Int.reduceToNat, Int.toNat_natCast]; rfl) (by first | exact trivial | exact Or.inr rfl | exact Or.inl rfl | (simp only [ob, obA, R32, R64] at *; omega) | (simp only [ob, obA, R32, R64] at *; and_intros <;> omega) | (simp [ob, obA])) ?_
    refine V_callV (M := MX12_read) (N := MX12_isBook) dX12_read_7 lRX12_386 kX12_isBook rfl (rfl) rfl (c_mIsBook (d := 2) hκ hC1.1 hI.1 hi (by omega)) rfl rfl (Nat.le_of_ble_eq_true rfl) (fit_rm (by omega)) (⟨Nat.le_of_ble_eq_true rfl, Nat.le_of_ble_eq_true rfl⟩) (fun v Ω' hp => ?_) (fun _ _ h => h.elim)
    obtain ⟨rfl, rfl⟩ := hp
    refine V_ifeqB dX12_read_10 (tgt := 49) (by decide) (fun q10 => ?_) (fun q10 => ?_)
    · refine V_ex sX12_read_49 (by rfl) (by first | exact trivial | exact Or.inr rfl | exact Or.inl rfl | (simp only [ob, obA, R32, R64] at *; omega) | (simp only [ob, obA, R32, R64] at *; and_intros <;> omega) | (simp [ob, obA])) ?_
      refine V_callV (M := MX12_read) (N := MX12_fail) dX12_read_51 lRX12_324 kX12_fail rfl (rfl) rfl (c_mfail (d := 2) hκ) rfl rfl (Nat.le_of_ble_eq_true rfl) (fit_rm (by omega)) (⟨Nat.le_of_ble_eq_true rfl, Nat.le_of_ble_eq_true rfl⟩) (fun v Ω' hp => ?_) (fun _ _ h => h.elim)
      obtain ⟨rfl, rfl⟩ := hp
      refine V_ex sX12_read_54 (by rfl) (by first | exact trivial | exact Or.inr rfl | exact Or.inl rfl | (simp only [ob, obA, R32, R64] at *; omega) | (simp only [ob, obA, R32, R64] at *; and_intros <;> omega) | (simp [ob, obA])) ?_
      refine V_lret dX12_read_55 rfl (by decide) (by rw [e1]; exact md_1 hC rfl rfl)
    · exact absurd (of_decide_eq_true q10) hin
