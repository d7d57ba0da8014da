/-! THE MODEL: the number on a page; what a call leaves -/
theorem mS0_c {G G' : Wd} {S : Sh} (h : mS0 G S) (f : ∀ x, 148 ≤ x → x ≤ 160 → G'.1 x = G.1 x) : mS0 G' S := by
  obtain ⟨h1, h2, h3, h4, h5, h6⟩ := h
  refine ⟨by rw [f 148 (by decide) (by decide)]; exact h1, fun j hj => ?_, by rw [f 148 (by decide) (by decide)]; exact h3, fun j hj => ?_, fun k hk => by rw [f 157 (by decide) (by decide)]; exact h5 k hk, fun k hk => by rw [f 160 (by decide) (by decide)]; exact h6 k hk⟩
  · have := h2 j hj
    unfold mBk at *
    rw [f 149 (by decide) (by decide), f 150 (by decide) (by decide), f 151 (by decide) (by decide), f 152 (by decide) (by decide), f 153 (by decide) (by decide), f 158 (by decide) (by decide), f 159 (by decide) (by decide)]; exact this
  · have := h4 j hj
    unfold mCp at *
    rw [f 154 (by decide) (by decide), f 155 (by decide) (by decide), f 156 (by decide) (by decide)]; exact this
theorem evM_c {G G' : Wd} {m : Mc} {S : Sh} {v : Ev} (h : evM G m S v) (hm : m = mcN ∨ m = mcT) (f5 : ∀ j, (34 ≤ j ∧ j ≤ 39) ∨ j = 48 ∨ (61 ≤ j ∧ j ≤ 67) → G'.1 145 j = G.1 145 j) (fl : ∀ j, j = 39 ∨ j = 67 → G'.2.1 145 j = G.2.1 145 j) (fx : ∀ x, x = 161 ∨ (165 ≤ x ∧ x ≤ 167) ∨ x = 172 ∨ x = 173 ∨ (183 ≤ x ∧ x ≤ 188) → G'.1 x = G.1 x) : evM G' m S v := by
  unfold evM at *
  rcases hm with rfl | rfl
  · dsimp only [mcN] at *
    rw [f5 34 (by omega), f5 35 (by omega), f5 36 (by omega), f5 37 (by omega), f5 38 (by omega), f5 48 (by omega), fl 39 (by omega), fx 165 (by omega), fx 166 (by omega), fx 167 (by omega), fx 172 (by omega), fx 173 (by omega), fx 161 (by omega)]; exact h
  · dsimp only [mcT] at *
    rw [f5 62 (by omega), f5 63 (by omega), f5 64 (by omega), f5 65 (by omega), f5 66 (by omega), f5 61 (by omega), fl 67 (by omega), fx 183 (by omega), fx 184 (by omega), fx 188 (by omega), fx 185 (by omega), fx 186 (by omega), fx 187 (by omega)]; exact h
theorem imM_c {G G' : Wd} {S : Sh} {o : Option (List (List Int) × Ev)} (h : imM G S o) (f5 : ∀ j, (61 ≤ j ∧ j ≤ 67) → G'.1 145 j = G.1 145 j) (fl : G'.2.1 145 67 = G.2.1 145 67) (fx : ∀ x, (181 ≤ x ∧ x ≤ 188) → G'.1 x = G.1 x) : imM G' S o := by
  cases o with
  | none => trivial
  | some i =>
    obtain ⟨h1, h2⟩ := h
    refine ⟨?_, fun j hj => by rw [fx 181 (by omega), fx 182 (by omega)]; exact h2 j hj⟩
    unfold evM at *
    dsimp only [mcT] at *
    rw [f5 62 (by omega), f5 63 (by omega), f5 64 (by omega), f5 65 (by omega), f5 66 (by omega), f5 61 (by omega), fl, fx 183 (by omega), fx 184 (by omega), fx 188 (by omega), fx 185 (by omega), fx 186 (by omega), fx 187 (by omega)]; exact h1
/-- cells of the model that say nothing -/
abbrev FN (G G' : Wd) : Prop := FM [2, 42, 45, 56, 59] [163, 164, 171, 174, 175, 177] [168, 169, 170, 179, 180] G G'
theorem RM_f {G G' : Wd} {A : Ab} (h : RM G A) (f : FN G G') : RM G' A ∧ FrM G G' := by
  obtain ⟨r1, r2, r3, r4, r5, r6, r7, r8, r9⟩ := h
  have fi : ∀ x, x ≠ 145 → x ≠ 163 → x ≠ 164 → x ≠ 171 → x ≠ 174 → x ≠ 175 → x ≠ 177 → G'.1 x = G.1 x := fun x a b c d e g k => f.i (by simp; omega) a
  have f5 : ∀ j, j ≠ 2 → j ≠ 42 → j ≠ 45 → j ≠ 56 → j ≠ 59 → G'.1 145 j = G.1 145 j := fun j a b c d e => f.i5 (by decide) (by simp; omega)
  have fl5 : ∀ j, j ≠ 2 → j ≠ 42 → j ≠ 45 → j ≠ 56 → j ≠ 59 → G'.2.1 145 j = G.2.1 145 j := fun j a b c d e => f.l5 (by decide) (by simp; omega)
  refine ⟨⟨mS0_c r1 (fun x a b => fi x (by omega) (by omega) (by omega) (by omega) (by omega) (by omega) (by omega)), evM_c r2 (Or.inl rfl) (fun j hj => f5 j (by omega) (by omega) (by omega) (by omega) (by omega)) (fun j hj => fl5 j (by omega) (by omega) (by omega) (by omega) (by omega)) (fun x hx => fi x (by omega) (by omega) (by omega) (by omega) (by omega) (by omega) (by omega)), by rw [f5 60 (by decide) (by decide) (by decide) (by decide) (by decide)]; exact r3, imM_c r4 (fun j hj => f5 j (by omega) (by omega) (by omega) (by omega) (by omega)) (fl5 67 (by decide) (by decide) (by decide) (by decide) (by decide)) (fun x hx => fi x (by omega) (by omega) (by omega) (by omega) (by omega) (by omega) (by omega)), by rw [f5 28 (by decide) (by decide) (by decide) (by decide) (by decide)]; exact r5, by rw [f5 18 (by decide) (by decide) (by decide) (by decide) (by decide)]; exact r6, fun j hj => by rw [fi 162 (by decide) (by decide) (by decide) (by decide) (by decide) (by decide) (by decide)]; exact r7 j hj, ?_, ?_⟩, fun x a => fi x (by omega) (by omega) (by omega) (by omega) (by omega) (by omega) (by omega), fun x a => f.l (by simp; omega) (by omega), f.1⟩
  · rw [f5 57 (by decide) (by decide) (by decide) (by decide) (by decide)]; exact kpO_c r8 (fi 176 (by decide) (by decide) (by decide) (by decide) (by decide) (by decide) (by decide))
  · rw [f5 58 (by decide) (by decide) (by decide) (by decide) (by decide)]; exact kpO_c r9 (fi 178 (by decide) (by decide) (by decide) (by decide) (by decide) (by decide) (by decide))
/-- a call of the model -/
def mdP (G : Wd) (A : Ab) (v : Option Vl) (code : Int) : Option Vl → Om → Prop := fun u Ω' => u = v ∧ ∃ G', Ω' = Wm G' ∧ RM G' A ∧ FrM G G' ∧ G'.1 145 2 = code
theorem md_f {G G' : Wd} {A : Ab} {v u : Option Vl} {code : Int} (h : RM G A) (f : FN G G') (e : u = v) (c : G'.1 145 2 = code) : mdP G A v code u (Wm G') := ⟨e, G', rfl, (RM_f h f).1, (RM_f h f).2, c⟩
theorem FN.of {G G' : Wd} (h : FM [] [163, 164] [] G G') : FN G G' := h.mono (by simp) (by simp) (by simp)
set_option maxRecDepth 100000 in
set_option maxHeartbeats 4000000 in
theorem c_mIsBook {κ : Kx} (hκ : KOK κ) {d : Nat} {i : Int} {S : Sh} {G : Wd} (hM : mS0 G S) (hO : okSh 500 S) (hi : R32 i) (hd : 1 ≤ d) : Ct κ MX12_isBook d 0 0 [VR 145, VI i] (Wm G) (keepG G (VI (b2i (decide (inB S i))))) noX := by
  refine Ct_of hκ kX12_isBook.1 rfl (Nat.le_of_ble_eq_true rfl) (ls := [some (VR 145), some (VI i)]) rfl (fun μ => ?_)
  have m1 := hM.1
  have hl := hO.1
  have e : decide (inB S i) = decide (0 ≤ i ∧ i ≤ (S.1.length : Int) - 1) := decide_eq_decide.mpr ⟨fun q => ⟨q.1, by have := q.2; omega⟩, fun q => ⟨q.1, by have := q.2; omega⟩⟩
  rw [e]
  refine V_ex sX12_isBook_0 (by simp only [Option.toList, List.cons_append, List.nil_append, exN, ex1, gI, gL, gR, pI, pL, pR, lget, lset1, lset2, kl, b2I, b2L, nob, ob32, ob64, xGet, xPut, xLen, xLd, xLdR, xSt, obA, true_and, and_true, and_self, eq_self, Nat.reduceEqDiff, Nat.zero_ne_one, reduceIte, Nat.reduceLeDiff, and_false, false_and, show skd 11 3 = 2 from rfl, show LF.1 145 = some (.inl 11) from rfl, show LF.2 145 3 = some 148 from rfl, show LF.1 148 = some (.inr (0, 4)) from rfl, m1, upd2_eq, Int.reduceToNat, Int.toNat_natCast]; rfl) (by (unfold R32 at hi; simp only [ob, obA, R32]; and_intros <;> omega)) ?_
  refine V_callS (M := MX12_isBook) (N := MX12_isIn) dX12_isBook_12 lRX12_178 kX12_isIn rfl (c_misIn (d := 0) hκ (by simp only [R32, R64] at *; omega) (by unfold R64; omega) (by unfold R64; omega)) rfl rfl (Nat.le_of_ble_eq_true rfl) (fit_rm (by omega)) (⟨Nat.le_of_ble_eq_true rfl, Nat.le_of_ble_eq_true rfl⟩) (fun v Ω' hp => ?_) (fun _ _ h => h.elim)
  obtain ⟨rfl, rfl⟩ := hp
  refine V_zret dX12_isBook_15 rfl (by first | exact Or.inl rfl | exact Or.inr rfl | exact b2i_01 _) (by decide) ⟨rfl, rfl⟩
set_option maxRecDepth 100000 in
set_option maxHeartbeats 4000000 in
theorem c_mIsOut {κ : Kx} (hκ : KOK κ) {d j : Nat} {l : Int} {S : Sh} {G : Wd} (hM : mS0 G S) (hO : okSh 500 S) (hj : j < S.1.length) (hl : R32 l) (hd : 1 ≤ d) : Ct κ MX12_isOut d 0 0 [VR 145, VI (j : Nat), VI l] (Wm G) (keepG G (VI (b2i (decide (l ∈ (bkJ S j).2.2.2.2.2))))) noX := by
  refine Ct_of hκ kX12_isOut.1 rfl (Nat.le_of_ble_eq_true rfl) (ls := [some (VR 145), some (VI (j : Nat)), some (VI l)]) rfl (fun μ => ?_)
  obtain ⟨m1, m2, m3, m4, m5, m6⟩ := mS0_b hM hj
  obtain ⟨g1, g2, g3, g4, g5⟩ := gone_ok hO hj
  have hj6 : j < 6 := by have := hO.1; omega
  have e60 : (60 : Int) * (j : Int) = ((60 * j : Nat) : Int) := by omega
  have hA := c_mAmong (κ := κ) hκ (d := 0) (a := 153) (n := 720) (fr := 60 * j) (m := (bkJ S j).2.2.2.2.2.length) (v := l) (G := G) rfl (by omega) (by omega) hl (fun y hy => by rw [m6 y hy]; have := g3 _ (List.getElem_mem hy); unfold R32; omega)
  rw [amg_list m6] at hA
  refine V_ex sX12_isOut_0 (by simp only [Option.toList, List.cons_append, List.nil_append, exN, ex1, gI, gL, gR, pI, pL, pR, lget, lset1, lset2, kl, b2I, b2L, nob, ob32, ob64, xGet, xPut, xLen, xLd, xLdR, xSt, obA, true_and, and_true, and_self, eq_self, Nat.reduceEqDiff, Nat.zero_ne_one, reduceIte, Nat.reduceLeDiff, and_false, false_and, show skd 11 8 = 2 from rfl, show skd 11 7 = 2 from rfl, show LF.1 145 = some (.inl 11) from rfl, show LF.2 145 8 = some 153 from rfl, show LF.2 145 7 = some 152 from rfl, show LF.1 152 = some (.inr (0, 12)) from rfl, m5, e60, Int.toNat_natCast, upd2_eq, Int.reduceToNat, Int.toNat_natCast]; rfl) (by first | exact trivial | exact Or.inr rfl | exact Or.inl rfl | (simp only [ob, obA, R32, R64] at *; omega) | (simp only [ob, obA, R32, R64] at *; and_intros <;> omega) | (simp [ob, obA])) ?_
  refine V_callS (M := MX12_isOut) (N := MX12_isAmong) dX12_isOut_15 lRX12_295 kX12_isAmong rfl (hA) rfl rfl (Nat.le_of_ble_eq_true rfl) (fit_rm (by omega)) (⟨Nat.le_of_ble_eq_true rfl, Nat.le_of_ble_eq_true rfl⟩) (fun v Ω' hp => ?_) (fun _ _ h => h.elim)
  obtain ⟨rfl, rfl⟩ := hp
  refine V_zret dX12_isOut_18 rfl (by first | exact Or.inl rfl | exact Or.inr rfl | exact b2i_01 _) (by decide) ⟨rfl, rfl⟩
set_option maxRecDepth 100000 in
set_option maxHeartbeats 4000000 in
theorem c_mNumOn {κ : Kx} (hκ : KOK κ) {d j p : Nat} {S : Sh} {G : Wd} (hM : mS0 G S) (hO : okSh 500 S) (hj : j < S.1.length) (hp : 1 ≤ p ∧ p ≤ 4000) (hd : 2 ≤ d) : Ct κ MX12_numberOn d 0 0 [VR 145, VI (j : Nat), VI (p : Nat)] (Wm G) (fun u Ω' => u = some (VI (numB (cdS S) (bkJ S j) (p : Int))) ∧ ∃ G', Ω' = Wm G' ∧ FM [] [163, 164] [] G G') noX := by
  refine Ct_of hκ kX12_numberOn.1 rfl (Nat.le_of_ble_eq_true rfl) (ls := [some (VR 145), some (VI (j : Nat)), some (VI (p : Nat))]) rfl (fun μ => ?_)
  obtain ⟨m1, m2, m3, m4, m5, m6⟩ := mS0_b hM hj
  have hok := hO.2.1 _ (List.getElem_mem hj)
  rw [← bkJ_in hj] at hok
  have hj6 : j < 6 := by have := hO.1; omega
  obtain ⟨k1, k2, k3, k4, k5, k6, k7⟩ := hok
  have hkR : R32 (bkJ S j).1 := by unfold R32; omega
  have nb : (bkJ S j).1 ≠ 6 → numB (cdS S) (bkJ S j) (p : Int) = ownN (bkJ S j).1 (bkJ S j).2.1 (p : Int) := fun h => by unfold numB; rw [if_neg h]
  refine V_ex sX12_numberOn_0 (by simp only [Option.toList, List.cons_append, List.nil_append, exN, ex1, gI, gL, gR, pI, pL, pR, lget, lset1, lset2, kl, b2I, b2L, nob, ob32, ob64, xGet, xPut, xLen, xLd, xLdR, xSt, obA, true_and, and_true, and_self, eq_self, Nat.reduceEqDiff, Nat.zero_ne_one, reduceIte, Nat.reduceLeDiff, and_false, false_and, show skd 11 4 = 2 from rfl, show LF.1 145 = some (.inl 11) from rfl, show LF.2 145 4 = some 149 from rfl, show LF.1 149 = some (.inr (0, 12)) from rfl, m1, m2, Int.toNat_natCast, upd2_eq, Int.reduceToNat, Int.toNat_natCast]; rfl) (by first | exact trivial | exact Or.inr rfl | exact Or.inl rfl | (simp only [ob, obA, R32, R64] at *; omega) | (simp only [ob, obA, R32, R64] at *; and_intros <;> omega) | (simp [ob, obA])) ?_
  refine V_tsw dX12_numberOn_6 (dt := 83) (tg := [40, 53, 59, 63, 76]) (hkR) (by decide) (by decide) (by decide) (fun q6 => ?_) ⟨fun q6 => ?_, fun q6 => ?_, fun q6 => ?_, fun q6 => ?_, fun q6 => ?_, trivial⟩
  · refine V_ex sX12_numberOn_83 (by rfl) (by first | exact trivial | exact Or.inr rfl | exact Or.inl rfl | (simp only [ob, obA, R32, R64] at *; omega) | (simp only [ob, obA, R32, R64] at *; and_intros <;> omega) | (simp [ob, obA])) ?_
    refine V_iret dX12_numberOn_84 rfl (by decide) ⟨by rw [nb (by omega)]; unfold ownN; rw [if_neg (by omega), if_neg (by omega), if_neg (by omega), if_neg (by omega)], G, rfl, FM.refl _ _ _ _⟩
  · refine V_ex sX12_numberOn_40 (by simp only [Option.toList, List.cons_append, List.nil_append, exN, ex1, gI, gL, gR, pI, pL, pR, lget, lset1, lset2, kl, b2I, b2L, nob, ob32, ob64, xGet, xPut, xLen, xLd, xLdR, xSt, obA, true_and, and_true, and_self, eq_self, Nat.reduceEqDiff, Nat.zero_ne_one, reduceIte, Nat.reduceLeDiff, and_false, false_and, show skd 11 5 = 2 from rfl, show LF.1 145 = some (.inl 11) from rfl, show LF.2 145 5 = some 150 from rfl, show LF.1 150 = some (.inr (0, 12)) from rfl, m1, m2, Int.toNat_natCast, upd2_eq, Int.reduceToNat, Int.toNat_natCast]; rfl) (by first | exact trivial | exact Or.inr rfl | exact Or.inl rfl | (simp only [ob, obA, R32, R64] at *; omega) | (simp only [ob, obA, R32, R64] at *; and_intros <;> omega) | (simp [ob, obA])) ?_
    refine V_mmax (M := MX12_numberOn) dX12_numberOn_49 lRX12_366 (by exact ⟨by unfold R32; omega, by unfold R32; omega⟩) (Nat.le_of_ble_eq_true rfl) (fit_rm (by omega)) ⟨Nat.le_refl _, Nat.le_refl _⟩ ?_
    refine V_iret dX12_numberOn_52 rfl (by decide) ⟨by rw [nb (by omega)]; unfold ownN; rw [if_pos q6]; congr 2; split <;> split <;> omega, G, rfl, FM.refl _ _ _ _⟩
  · refine V_ex sX12_numberOn_53 (by rfl) (by first | exact trivial | exact Or.inr rfl | exact Or.inl rfl | (simp only [ob, obA, R32, R64] at *; omega) | (simp only [ob, obA, R32, R64] at *; and_intros <;> omega) | (simp [ob, obA])) ?_
    refine V_iret dX12_numberOn_58 rfl (by decide) ⟨by rw [nb (by omega)]; unfold ownN; rw [if_neg (by omega), if_pos (show (bkJ S j).1 = 3 by omega)], G, rfl, FM.refl _ _ _ _⟩
  · refine V_ex sX12_numberOn_59 (by rfl) (by first | exact trivial | exact Or.inr rfl | exact Or.inl rfl | (simp only [ob, obA, R32, R64] at *; omega) | (simp only [ob, obA, R32, R64] at *; and_intros <;> omega) | (simp [ob, obA])) ?_
    refine V_iret dX12_numberOn_62 rfl (by decide) ⟨by rw [nb (by omega)]; unfold ownN; rw [if_neg (by omega), if_neg (by omega), if_pos (show (bkJ S j).1 = 4 by omega)], G, rfl, FM.refl _ _ _ _⟩
  · refine V_ex sX12_numberOn_63 (by simp only [Option.toList, List.cons_append, List.nil_append, exN, ex1, gI, gL, gR, pI, pL, pR, lget, lset1, lset2, kl, b2I, b2L, nob, ob32, ob64, xGet, xPut, xLen, xLd, xLdR, xSt, obA, true_and, and_true, and_self, eq_self, Nat.reduceEqDiff, Nat.zero_ne_one, reduceIte, Nat.reduceLeDiff, and_false, false_and, show skd 11 5 = 2 from rfl, show LF.1 145 = some (.inl 11) from rfl, show LF.2 145 5 = some 150 from rfl, show LF.1 150 = some (.inr (0, 12)) from rfl, m1, m2, Int.toNat_natCast, upd2_eq, Int.reduceToNat, Int.toNat_natCast]; rfl) (by first | exact trivial | exact Or.inr rfl | exact Or.inl rfl | (simp only [ob, obA, R32, R64] at *; omega) | (simp only [ob, obA, R32, R64] at *; and_intros <;> omega) | (simp [ob, obA])) ?_
    refine V_callS (M := MX12_numberOn) (N := MX12_withoutFigure) dX12_numberOn_71 lRX12_369 kX12_withoutFigure rfl (c_mwithoutFigure (d := 1) hκ (by unfold R32; omega) (by unfold R64; omega) (by have e9 : (9 : Int) ^ 18 = 150094635296999121 := (by decide +kernel); omega)) rfl rfl (Nat.le_of_ble_eq_true rfl) (fit_rm (by omega)) (⟨Nat.le_of_ble_eq_true rfl, Nat.le_of_ble_eq_true rfl⟩) (fun v Ω' hp => ?_) (fun _ _ h => h.elim)
    obtain ⟨rfl, rfl⟩ := hp
    refine V_ex sX12_numberOn_74 (by rfl) (by first | exact trivial | exact Or.inr rfl | exact Or.inl rfl | (simp only [ob, obA, R32, R64] at *; omega) | (simp only [ob, obA, R32, R64] at *; and_intros <;> omega) | (simp [ob, obA])) ?_
    refine V_w32 ?_
    refine V_iret dX12_numberOn_75 rfl (by decide) ⟨by rw [nb (by omega)]; unfold ownN; rw [if_neg (by omega), if_neg (by omega), if_neg (by omega), if_pos (show (bkJ S j).1 = 5 by omega)], G, rfl, FM.refl _ _ _ _⟩
  · refine V_ex sX12_numberOn_76 (by rfl) (by first | exact trivial | exact Or.inr rfl | exact Or.inl rfl | (simp only [ob, obA, R32, R64] at *; omega) | (simp only [ob, obA, R32, R64] at *; and_intros <;> omega) | (simp [ob, obA])) ?_
    refine V_callV (M := MX12_numberOn) (N := MX12_ruleOf) dX12_numberOn_79 lRX12_373 kX12_ruleOf rfl (rfl) rfl (c_mRuleOf (d := 1) hκ hM hO hj (by omega) hp (by omega)) rfl rfl (Nat.le_of_ble_eq_true rfl) (fit_rm (by omega)) (⟨Nat.le_of_ble_eq_true rfl, Nat.le_of_ble_eq_true rfl⟩) (fun v Ω' hp => ?_) (fun _ _ h => h.elim)
    obtain ⟨rfl, G2, rfl, f2⟩ := hp
    refine V_iret dX12_numberOn_82 rfl (by decide) ⟨by unfold numB; rw [if_pos (show (bkJ S j).1 = 6 by omega)], G2, rfl, f2⟩
