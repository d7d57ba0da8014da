/-! THE MODEL: image and restore -/
def bnW (G : Wd) (a b n : Nat) : Wd := uA G a (beF n (G.1 a) (fun j => iAnd (G.1 b j) 1))
theorem bn_a {G : Wd} {a b n j : Nat} : (bnW G a b n).1 a j = if j < n then iAnd (G.1 b j) 1 else G.1 a j := by unfold bnW beF; simp
theorem bn_n {G : Wd} {a b n x j : Nat} (h : x ≠ a) : (bnW G a b n).1 x j = G.1 x j := by unfold bnW; simp [h]
theorem iAnd_b (b : Bool) : iAnd (b2i b) 1 = b2i b := by cases b <;> decide
theorem sA_beAs : dsOk (MN MX12_beAs).cls (MB MX12_beAs) 8 [(.aload_n 0, 0, 0, 0), (.iload_n 2, 0, 0, 0), (.aload_n 1, 0, 0, 0), (.iload_n 2, 0, 0, 0), (.baload, 0, 0, 0)] 13 = true := by decide +kernel
theorem dA_beAs : decode (MB MX12_beAs) 13 = .ok (.bastore, 1) := by decide +kernel
theorem sB_beAs : dsOk (MN MX12_beAs).cls (MB MX12_beAs) 14 [(.iinc 2 1, 0, 0, 0)] 17 = true := by decide +kernel
section BN
variable {κ : Kx} {M : Ms} {rm : Room} {P : Option Vl → Om → Prop} {PX : String → Om → Prop} {mc ms : Nat} {μ : Mu} {cells slots : Nat} {Λ : Ly} {sz : Option Nat} {G : Wd} {pc : Nat} {ls : List (Option Vl)} {st : List Vl}
/-- a boolean cell takes the last bit -/
theorem R_bastN {a : Nat} {j z : Int} {q : Nat × Nat} (hd : decode (MB M) pc = .ok (.bastore, 1)) (ha : Λ.1 a = some (.inr q)) (hq : q.1 = 2) (hj : 0 ≤ j ∧ j < (q.2 : Nat)) (kk : V κ M rm P PX mc ms μ cells slots (Λ, sz, (upd2 G.1 a j.toNat (iAnd z 1), G.2)) (pc + 1) ls st) : V κ M rm P PX mc ms μ cells slots (Λ, sz, G) pc ls (.inl z :: .inl j :: .inr (.inr a) :: st) := by
  intro g H locs lsA hH hL hl2
  obtain ⟨ha0, ha1, hn, cA, e1, e2⟩ := hH.2.2.2 a _ ha
  obtain ⟨n, m⟩ := q
  cases hq
  obtain ⟨i1, i2, i3⟩ := ix_in hj hn
  simp only [List.map_cons]
  rw [show tr κ (.inr (.inr a)) = .ref (kB κ + (a - 1)) from ad_at κ ha0 ha1]
  refine W.zast g.2.1 g.2.2.1 e1 (arr_at g e2 _ _) (fun q => by cases q) (by rw [arrV_size]; exact i1) rfl rfl hd fun H1 f1 f2 f3 => ?_
  refine kk g H1 _ lsA (hH.upd ha f2 f3 (fun b hb => ⟨fun k => by simp [upd2, hb], fun _ => rfl, fun _ => rfl⟩) ⟨hn, cA, ?_, e2⟩) ?_ hl2
  · have hnz : narrow .boolean (.int (Int32.ofInt z)) = .int (Int32.ofInt (iAnd z 1)) := by
      show Value.int (Int32.ofInt z &&& 1) = .int (Int32.ofInt (iAnd z 1))
      unfold iAnd
      rw [Int32.ofInt_toInt]
      rfl
    rw [f1]
    show some ((arrV cA m (ev κ (Λ, sz, G) a 2)).setSlot _ (narrow .boolean (.int (Int32.ofInt z)))) = _
    rw [hnz, arrV_store, i2]
    congr 2
    funext k
    simp only [updV, ev, upd2]
    by_cases hk : k = j.toNat <;> simp [hk]
  · intro q hq
    rcases List.mem_append.mp hq with h | h
    · exact hL q h
    · rw [List.mem_singleton.mp h]; exact Nat.le_add_right _ _
end BN
set_option maxRecDepth 100000 in
set_option maxHeartbeats 4000000 in
theorem c_mBeAn {κ : Kx} (hκ : KOK κ) {d a b n : Nat} {G : Wd} (ha : LF.1 a = some (.inr (2, n))) (hb : LF.1 b = some (.inr (2, n))) (hab : a ≠ b) (hn : n ≤ 10000) : Ct κ MX12_beAs d 0 0 [VR a, VR b] (Wm G) (voidG (bnW G a b n)) noX := by
  refine Ct_of hκ kX12_beAs.1 rfl (Nat.le_of_ble_eq_true rfl) (ls := [some (VR a), some (VR b), none]) rfl (fun μ => ?_)
  have L : ∀ (k j : Nat) (jj : Int) (G1 : Wd), j + k = n → jj = (j : Int) → G1.2 = G.2 → (∀ x y, x ≠ a → G1.1 x y = G.1 x y) → (∀ y, G1.1 a y = if y < j then iAnd (G.1 b y) 1 else G.1 a y) → V κ MX12_beAs (rmD d 0 0) (voidG (bnW G a b n)) noX 0 0 μ 0 0 (Wm (G1)) 2 [some (VR a), some (VR b), some (VI jj)] [] := by
    intro k
    induction k with
    | zero =>
      intro j jj G1 hj hjj g2 gx ga
      obtain rfl : j = n := by omega
      refine V_ex sX12_beAs_2 (by simp only [Option.toList, List.cons_append, List.nil_append, exN, ex1, gI, gL, gR, pI, pL, pR, lget, lset1, lset2, kl, b2I, b2L, nob, ob32, ob64, xGet, xPut, xLen, xLd, xLdR, xSt, obA, true_and, and_true, and_self, eq_self, Nat.reduceEqDiff, Nat.zero_ne_one, reduceIte, Nat.reduceLeDiff, and_false, false_and, ha, upd2_eq, Int.reduceToNat, Int.toNat_natCast]; rfl) (by first | exact trivial | exact Or.inr rfl | exact Or.inl rfl | (simp only [ob, obA, R32, R64] at *; omega) | (simp only [ob, obA, R32, R64] at *; and_intros <;> omega) | (simp [ob, obA])) ?_
      refine V_icmpge dX12_beAs_5 (tgt := 20) (by decide) (by simp only [R32, R64] at *; omega) (fun q5 => ?_) (fun q5 => ?_)
      · refine V_vret dX12_beAs_20 rfl (by decide) ⟨rfl, congrArg Wm (uI_ext (fun x y => by by_cases c : x = a; subst c; rw [bn_a]; exact ga y; rw [bn_n c]; exact gx x y c) g2)⟩
      · omega
    | succ k ih =>
      intro j jj G1 hj hjj g2 gx ga
      subst hjj
      have e2 : G1.1 b j = G.1 b j := gx b j (fun q => hab q.symm)
      refine V_ex sX12_beAs_2 (by simp only [Option.toList, List.cons_append, List.nil_append, exN, ex1, gI, gL, gR, pI, pL, pR, lget, lset1, lset2, kl, b2I, b2L, nob, ob32, ob64, xGet, xPut, xLen, xLd, xLdR, xSt, obA, true_and, and_true, and_self, eq_self, Nat.reduceEqDiff, Nat.zero_ne_one, reduceIte, Nat.reduceLeDiff, and_false, false_and, ha, upd2_eq, Int.reduceToNat, Int.toNat_natCast]; rfl) (by first | exact trivial | exact Or.inr rfl | exact Or.inl rfl | (simp only [ob, obA, R32, R64] at *; omega) | (simp only [ob, obA, R32, R64] at *; and_intros <;> omega) | (simp [ob, obA])) ?_
      refine V_icmpge dX12_beAs_5 (tgt := 20) (by decide) (by simp only [R32, R64] at *; omega) (fun q5 => ?_) (fun q5 => ?_)
      · omega
      · refine V_ex sA_beAs (by simp only [Option.toList, List.cons_append, List.nil_append, exN, ex1, gI, gL, gR, pI, pL, pR, lget, lset1, lset2, kl, b2I, b2L, nob, ob32, ob64, xGet, xPut, xLen, xLd, xLdR, xSt, obA, true_and, and_true, and_self, eq_self, Nat.reduceEqDiff, Nat.zero_ne_one, reduceIte, Nat.reduceLeDiff, and_false, false_and, ha, hb, e2, Int.toNat_natCast]; rfl) (by simp only [ob, obA, R32]; and_intros <;> omega) ?_
        refine R_bastN dA_beAs ha rfl ⟨by omega, by show (j : Int) < (n : Nat); omega⟩ ?_
        refine V_ex sB_beAs (by rfl) (by exact trivial) ?_
        refine V_goto dX12_beAs_17 (tgt := 2) (by decide) ?_
        rw [Int.toNat_natCast]
        exact ih (j + 1) _ _ (by omega) (by omega) g2 (fun x y p => by rw [iv (by intro q; exact p q.1)]; exact gx x y p) (fun y => by by_cases c : y = j; subst c; rw [iu, if_pos (by omega)]; rw [iv (by intro q; exact c q.2), ga]; by_cases c2 : y < j; rw [if_pos c2, if_pos (by omega)]; rw [if_neg c2, if_neg (by omega)])
  refine V_ex sX12_beAs_0 (by rfl) (by first | exact trivial | exact Or.inr rfl | exact Or.inl rfl | (simp only [ob, obA, R32, R64] at *; omega) | (simp only [ob, obA, R32, R64] at *; and_intros <;> omega) | (simp [ob, obA])) ?_
  exact L n 0 0 G (by omega) rfl rfl (fun _ _ _ => rfl) (fun y => by rw [if_neg (by omega)])
def im1 (G : Wd) : Wd := uI (uI (uI (uI G 145 2 0) 145 60 1) 145 62 (G.1 145 34)) 145 61 (G.1 145 48)
def im2 (G : Wd) : Wd := beW (beW G 185 172 20) 186 173 20
def im3 (G : Wd) : Wd := uL (uI (uI (uI (uI G 145 63 (G.1 145 35)) 145 64 (G.1 145 36)) 145 65 (G.1 145 37)) 145 66 (G.1 145 38)) 145 67 (G.2.1 145 39)
def im4 (G : Wd) : Wd := beW (bnW (beW (beW (beW (beW G 181 153 720) 182 152 12) 183 165 720) 184 166 720) 188 167 720) 187 161 4
def imgW (G : Wd) : Wd := im4 (im3 (im2 (im1 G)))
theorem img_x {G : Wd} {x j : Nat} (h : x ≠ 145) (h2 : x < 181 ∨ 188 < x) : (imgW G).1 x j = G.1 x j := by
  unfold imgW im4
  rw [be_n (by omega), bn_n (by omega), be_n (by omega), be_n (by omega), be_n (by omega), be_n (by omega)]
  unfold im3
  show (uI (uI (uI (uI (im2 (im1 G)) 145 63 _) 145 64 _) 145 65 _) 145 66 _).1 x j = _
  rw [iv (by omega), iv (by omega), iv (by omega), iv (by omega)]
  unfold im2
  rw [be_n (by omega), be_n (by omega)]
  unfold im1
  rw [iv (by omega), iv (by omega), iv (by omega), iv (by omega)]
theorem img_5 {G : Wd} (j : Nat) : (imgW G).1 145 j = if j = 66 then G.1 145 38 else if j = 65 then G.1 145 37 else if j = 64 then G.1 145 36 else if j = 63 then G.1 145 35 else if j = 61 then G.1 145 48 else if j = 62 then G.1 145 34 else if j = 60 then 1 else if j = 2 then 0 else G.1 145 j := by
  simp [imgW, im4, im3, im2, im1, be_n, bn_n, upd2_eq]
theorem img_l {G : Wd} (x j : Nat) : (imgW G).2.1 x j = if x = 145 ∧ j = 67 then G.2.1 145 39 else G.2.1 x j := rfl
theorem img_r {G : Wd} : (imgW G).2.2 = G.2.2 := rfl
theorem img_185 {G : Wd} (j : Nat) : (imgW G).1 185 j = if j < 20 then G.1 172 j else G.1 185 j := by simp [imgW, im4, im3, im2, im1, be_a, be_n, bn_n, upd2_eq]
theorem img_186 {G : Wd} (j : Nat) : (imgW G).1 186 j = if j < 20 then G.1 173 j else G.1 186 j := by simp [imgW, im4, im3, im2, im1, be_a, be_n, bn_n, upd2_eq]
theorem img_181 {G : Wd} (j : Nat) : (imgW G).1 181 j = if j < 720 then G.1 153 j else G.1 181 j := by simp [imgW, im4, im3, im2, im1, be_a, be_n, bn_n, upd2_eq]
theorem img_182 {G : Wd} (j : Nat) : (imgW G).1 182 j = if j < 12 then G.1 152 j else G.1 182 j := by simp [imgW, im4, im3, im2, im1, be_a, be_n, bn_n, upd2_eq]
theorem img_183 {G : Wd} (j : Nat) : (imgW G).1 183 j = if j < 720 then G.1 165 j else G.1 183 j := by simp [imgW, im4, im3, im2, im1, be_a, be_n, bn_n, upd2_eq]
theorem img_184 {G : Wd} (j : Nat) : (imgW G).1 184 j = if j < 720 then G.1 166 j else G.1 184 j := by simp [imgW, im4, im3, im2, im1, be_a, be_n, bn_n, upd2_eq]
theorem img_188 {G : Wd} (j : Nat) : (imgW G).1 188 j = if j < 720 then iAnd (G.1 167 j) 1 else G.1 188 j := by simp [imgW, im4, im3, im2, im1, bn_a, be_n, bn_n, upd2_eq]
theorem img_187 {G : Wd} (j : Nat) : (imgW G).1 187 j = if j < 4 then G.1 161 j else G.1 187 j := by simp [imgW, im4, im3, im2, im1, be_a, be_n, bn_n, upd2_eq]
def rs0 (G : Wd) : Wd := uI G 145 2 0
def rs1 (G : Wd) : Wd := uI (uI G 145 34 (G.1 145 62)) 145 48 (G.1 145 61)
def rs2 (G : Wd) : Wd := beW (beW G 172 185 20) 173 186 20
def rs3 (G : Wd) : Wd := uL (uI (uI (uI (uI G 145 35 (G.1 145 63)) 145 36 (G.1 145 64)) 145 37 (G.1 145 65)) 145 38 (G.1 145 66)) 145 39 (G.2.1 145 67)
def rs4 (G : Wd) : Wd := beW (bnW (beW (beW (beW (beW G 153 181 720) 152 182 12) 165 183 720) 166 184 720) 167 188 720) 161 187 4
def resW (G : Wd) : Wd := rs4 (rs3 (rs2 (rs1 (rs0 G))))
theorem res_x {G : Wd} {x j : Nat} (h : x ≠ 145) (h2 : x ≠ 152 ∧ x ≠ 153 ∧ x ≠ 161 ∧ x ≠ 172 ∧ x ≠ 173) (h3 : x < 165 ∨ 167 < x) : (resW G).1 x j = G.1 x j := by
  unfold resW rs4
  rw [be_n (by omega), bn_n (by omega), be_n (by omega), be_n (by omega), be_n (by omega), be_n (by omega)]
  unfold rs3
  show (uI (uI (uI (uI (rs2 (rs1 (rs0 G))) 145 35 _) 145 36 _) 145 37 _) 145 38 _).1 x j = _
  rw [iv (by omega), iv (by omega), iv (by omega), iv (by omega)]
  unfold rs2
  rw [be_n (by omega), be_n (by omega)]
  unfold rs1 rs0
  rw [iv (by omega), iv (by omega), iv (by omega)]
theorem res_5 {G : Wd} (j : Nat) : (resW G).1 145 j = if j = 38 then G.1 145 66 else if j = 37 then G.1 145 65 else if j = 36 then G.1 145 64 else if j = 35 then G.1 145 63 else if j = 48 then G.1 145 61 else if j = 34 then G.1 145 62 else if j = 2 then 0 else G.1 145 j := by
  simp [resW, rs4, rs3, rs2, rs1, rs0, be_n, bn_n, upd2_eq]
theorem res_l {G : Wd} (x j : Nat) : (resW G).2.1 x j = if x = 145 ∧ j = 39 then G.2.1 145 67 else G.2.1 x j := rfl
theorem res_r {G : Wd} : (resW G).2.2 = G.2.2 := rfl
theorem res_172 {G : Wd} (j : Nat) : (resW G).1 172 j = if j < 20 then G.1 185 j else G.1 172 j := by simp [resW, rs4, rs3, rs2, rs1, rs0, be_a, be_n, bn_n, upd2_eq]
theorem res_173 {G : Wd} (j : Nat) : (resW G).1 173 j = if j < 20 then G.1 186 j else G.1 173 j := by simp [resW, rs4, rs3, rs2, rs1, rs0, be_a, be_n, bn_n, upd2_eq]
theorem res_153 {G : Wd} (j : Nat) : (resW G).1 153 j = if j < 720 then G.1 181 j else G.1 153 j := by simp [resW, rs4, rs3, rs2, rs1, rs0, be_a, be_n, bn_n, upd2_eq]
theorem res_152 {G : Wd} (j : Nat) : (resW G).1 152 j = if j < 12 then G.1 182 j else G.1 152 j := by simp [resW, rs4, rs3, rs2, rs1, rs0, be_a, be_n, bn_n, upd2_eq]
theorem res_165 {G : Wd} (j : Nat) : (resW G).1 165 j = if j < 720 then G.1 183 j else G.1 165 j := by simp [resW, rs4, rs3, rs2, rs1, rs0, be_a, be_n, bn_n, upd2_eq]
theorem res_166 {G : Wd} (j : Nat) : (resW G).1 166 j = if j < 720 then G.1 184 j else G.1 166 j := by simp [resW, rs4, rs3, rs2, rs1, rs0, be_a, be_n, bn_n, upd2_eq]
theorem res_167 {G : Wd} (j : Nat) : (resW G).1 167 j = if j < 720 then iAnd (G.1 188 j) 1 else G.1 167 j := by simp [resW, rs4, rs3, rs2, rs1, rs0, bn_a, be_n, bn_n, upd2_eq]
theorem res_161 {G : Wd} (j : Nat) : (resW G).1 161 j = if j < 4 then G.1 187 j else G.1 161 j := by simp [resW, rs4, rs3, rs2, rs1, rs0, be_a, be_n, bn_n, upd2_eq]
