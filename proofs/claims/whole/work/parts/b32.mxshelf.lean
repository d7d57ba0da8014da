/-! THE MODEL: shelf as a call -/
theorem mS0_u {G G' : Wd} {S : Sh} (h : mS0 G S) (hO : okSh 500 S) (f : ∀ x j, 148 ≤ x → x ≤ 160 → ¬ up x j → G'.1 x j = G.1 x j) : mS0 G' S := by
  obtain ⟨h1, h2, h3, h4, h5, h6⟩ := h
  have o1 := hO.1
  have o3 := hO.2.2.1
  have o5 := hO.2.2.2.2.1
  have o7 := hO.2.2.2.2.2.2.1
  refine ⟨(f 148 0 (by omega) (by omega) (by unfold up; omega)).trans h1, fun j hj => ?_, (f 148 1 (by omega) (by omega) (by unfold up; omega)).trans h3, fun j hj => ?_, fun k hk => (f 157 k (by omega) (by omega) (by unfold up; omega)).trans (h5 k hk), fun k hk => (f 160 k (by omega) (by omega) (by unfold up; omega)).trans (h6 k hk)⟩
  · obtain ⟨m1, m2, m3, m4, m5, m6⟩ := h2 j hj
    have g := (gone_ok hO hj).2.1
    rw [bkJ_in hj] at g
    exact ⟨(f 149 j (by omega) (by omega) (by unfold up; omega)).trans m1, (f 150 j (by omega) (by omega) (by unfold up; omega)).trans m2, (f 151 j (by omega) (by omega) (by unfold up; omega)).trans m3, fun q => ⟨(f 158 j (by omega) (by omega) (by unfold up; omega)).trans (m4 q).1, (f 159 j (by omega) (by omega) (by unfold up; omega)).trans (m4 q).2⟩, (f 152 j (by omega) (by omega) (by unfold up; omega)).trans m5, fun k hk => (f 153 (60 * j + k) (by omega) (by omega) (by unfold up; omega)).trans (m6 k hk)⟩
  · obtain ⟨m1, m2, m3⟩ := h4 j hj
    have hc := (hO.2.2.2.1 _ (List.getElem_mem hj)).2.2.1
    exact ⟨(f 154 j (by omega) (by omega) (by unfold up; omega)).trans m1, (f 155 j (by omega) (by omega) (by unfold up; omega)).trans m2, fun k hk => (f 156 (30 * j + k) (by omega) (by omega) (by unfold up; omega)).trans (m3 k hk)⟩
theorem RM_shBad {G G' : Wd} {A : Ab} {K : Int} {r : PS} {n : Nat} (h : RM G A) (hI : Inv K A) (f2 : G'.2 = G.2) (f : ∀ x j, ¬ up x j → ¬ (x = 145 ∧ (j = 2 ∨ j = 18 ∨ j = 20 ∨ j = 28)) → ¬ (x = 161 ∧ j = 0) → G'.1 x j = G.1 x j) (h18 : G'.1 145 18 = 0) (h28 : G'.1 145 28 = (tkB (tk A.2.2.2.1.2.2 n 0) r.1 : Nat)) (h161 : G'.1 161 0 = G.1 161 0 + 1) : RM G' (shBad A r n) ∧ FrM G G' := by
  obtain ⟨r1, r2, r3, r4, r5, r6, r7, r8, r9⟩ := h
  have e4 : A.2.1.2.2.2.length = 4 := hI.2.1.2.2.2.1
  have fx : ∀ x, (162 ≤ x ∨ x < 145) → G'.1 x = G.1 x := fun x a => funext fun j => f x j (by unfold up; omega) (by omega) (by omega)
  have f5 : ∀ j, 29 ≤ j → G'.1 145 j = G.1 145 j := fun j a => f 145 j (by unfold up; omega) (by omega) (by omega)
  obtain ⟨v1, v2, v3, v4, v5, v6, v7, v8⟩ := r2
  dsimp only [mcN] at v1 v2 v3 v4 v5 v6 v7 v8
  refine ⟨⟨mS0_u r1 hI.1 (fun x j a b c => f x j c (by omega) (by omega)), ⟨(f5 34 (by omega)).trans v1, fun i hi => ?_, (f5 35 (by omega)).trans v3, (f5 36 (by omega)).trans v4, fun q => ?_, (f5 48 (by omega)).trans v6, fun i hi => ?_, fun i hi => ?_⟩, (f5 60 (by omega)).trans r3, imM_c r4 (fun j hj => f5 j (by omega)) (by rw [f2]) (fun x hx => fx x (by omega)), h28, h18, fun j hj => by rw [fx 162 (by omega)]; exact r7 j hj, by rw [f5 57 (by omega)]; exact kpO_c r8 (fx 176 (by omega)), by rw [f5 58 (by omega)]; exact kpO_c r9 (fx 178 (by omega))⟩, fun x a => fx x (by omega), fun x a => by rw [f2], by rw [f2]⟩
  · dsimp only [mcN]; rw [fx 165 (by omega), fx 166 (by omega), fx 167 (by omega)]; exact v2 i hi
  · dsimp only [mcN]; rw [f5 37 (by omega), f5 38 (by omega), f2]; exact v5 q
  · dsimp only [mcN]; rw [fx 172 (by omega), fx 173 (by omega)]; exact v7 i hi
  · show G'.1 161 i = (A.2.1.2.2.2.set 0 (A.2.1.2.2.2.getD 0 0 + 1)).getD i 0
    rw [getD_set (by omega)]
    by_cases c : i = 0
    · subst c; rw [if_pos rfl, h161, v8 0 hi]
    · rw [if_neg c, f 161 i (by unfold up; omega) (by omega) (by omega)]; exact v8 i hi
theorem RM_shNew {G G' : Wd} {A : Ab} {S : Sh} (h : RM G A) (f2 : G'.2 = G.2) (f : ∀ x j, ¬ (148 ≤ x ∧ x ≤ 160) → ¬ (x = 145 ∧ (j = 2 ∨ (18 ≤ j ∧ j ≤ 28) ∨ tkS j)) → G'.1 x j = G.1 x j) (h18 : G'.1 145 18 = 0) (h28 : G'.1 145 28 = -1) (h48 : G'.1 145 48 = 0) (h57 : G'.1 145 57 = -1) (h58 : G'.1 145 58 = -1) (h34 : G'.1 145 34 = 0) (h35 : G'.1 145 35 = 0) (h36 : G'.1 145 36 = 0) (h60 : G'.1 145 60 = 0) (hS : mS0 G' S) : RM G' (shNew A S) ∧ FrM G G' := by
  obtain ⟨r1, r2, r3, r4, r5, r6, r7, r8, r9⟩ := h
  have fx : ∀ x, (161 ≤ x ∨ x < 145) → G'.1 x = G.1 x := fun x a => funext fun j => f x j (by omega) (by omega)
  refine ⟨⟨hS, ⟨h34, fun i hi => absurd hi (Nat.not_lt_zero _), h35, h36, fun q => absurd rfl q, h48, fun i hi => absurd hi (Nat.not_lt_zero _), fun i hi => ?_⟩, h60, trivial, h28, h18, fun j hj => by rw [fx 162 (by omega)]; exact r7 j hj, h57, h58⟩, fun x a => fx x (by omega), fun x a => by rw [f2], by rw [f2]⟩
  show G'.1 161 i = A.2.1.2.2.2.getD i 0
  rw [fx 161 (by omega)]; exact r2.2.2.2.2.2.2.2 i hi
set_option maxRecDepth 100000 in
set_option maxHeartbeats 4000000 in
theorem c_mxShelf {κ : Kx} (hκ : KOK κ) (hKS : KS κ) {d : Nat} {K n : Int} {A : Ab} {G : Wd} (hC : RM G A) (hI : Inv K A) (hn : R32 n) (hd : 60 ≤ d) : Ct κ MX12_shelf d 0 0 [VR 145, VI n] (Wm G) (mdP G (shelfP A n).2.2 (some (VI (shelfP A n).2.1)) (shelfP A n).1) noX := by
  have h18 := hC.2.2.2.2.2.1
  have ht := hI.2.2.2.2.1
  by_cases hnn : 0 ≤ n ∧ n ≤ A.2.2.2.1.2.1
  · obtain ⟨m, hm⟩ : ∃ m : Nat, n = (m : Int) := ⟨n.toNat, by omega⟩
    subst hm
    have hcg : ∀ j, j < m → G.1 162 j = A.2.2.2.1.2.2 j := fun j hj => hC.2.2.2.2.2.2.1 j (by omega)
    have eP : shelfP A (m : Int) = if (pTxt A.2.2.2.1.2.2 m).2.1 ≠ 0 then (0, (pTxt A.2.2.2.1.2.2 m).2.1, shBad A (pTxt A.2.2.2.1.2.2 m) m) else (0, 0, shNew A (pTxt A.2.2.2.1.2.2 m).2.2) := by unfold shelfP; rw [if_neg (fun h => h hnn)]; rfl
    refine (c_mShelf hκ hKS (n := m) (tp := A.2.2.2.1.2.1) (G := G) h18 ht.2 hnn.2 (fun j hj => by rw [hC.2.2.2.2.2.2.1 j hj]; exact hI.2.2.2.2.2.1 j hj) (by omega)).mono (fun u Ω' h => ?_) (fun E Ω' h => h)
    unfold shM at h
    rw [pTxt_c hcg, tk_c hcg] at h
    obtain ⟨hu, G', rfl, f2, hb, hg⟩ := h
    rw [eP]
    by_cases hz : (pTxt A.2.2.2.1.2.2 m).2.1 = 0
    · rw [if_neg (fun q => q hz)]
      obtain ⟨f, c2, c18, c28, c48, c57, c58, c34, c35, c36, c60, hS⟩ := hg hz
      obtain ⟨z1, z2⟩ := RM_shNew hC f2 f c18 c28 c48 c57 c58 c34 c35 c36 c60 hS
      exact ⟨by rw [hu, hz], G', rfl, z1, z2, c2⟩
    · rw [if_pos hz]
      obtain ⟨f, c2, c18, c28, c161⟩ := hb hz
      obtain ⟨z1, z2⟩ := RM_shBad hC hI f2 f c18 c28 c161
      exact ⟨hu, G', rfl, z1, z2, c2⟩
  · have e : shelfP A n = (1, 0, A) := by unfold shelfP; rw [if_pos hnn]
    refine (c_mShelfNo hκ (tp := A.2.2.2.1.2.1) (G := G) h18 ht hn hnn (by omega)).mono (fun u Ω' h => ?_) (fun E Ω' h => h)
    obtain ⟨hu, rfl⟩ := h
    rw [e]
    exact md_1 hC hu rfl
