/-! THE MODEL: tearing -/
/-- cells of the model that acts change -/
def FZm (G G' : Wd) : Prop := G'.2.2 = G.2.2 ∧ (∀ x j, x ≠ 152 → x ≠ 153 → x ≠ 161 → ¬ (165 ≤ x ∧ x ≤ 167) → ¬ (x = 172 ∨ x = 163 ∨ x = 164) → x ≠ 173 → ¬ (x = 145 ∧ (j = 2 ∨ (34 ≤ j ∧ j ≤ 38) ∨ j = 48)) → G'.1 x j = G.1 x j) ∧ ∀ x j, ¬ (x = 145 ∧ j = 39) → G'.2.1 x j = G.2.1 x j
theorem FZm.refl (G : Wd) : FZm G G := ⟨rfl, fun _ _ _ _ _ _ _ _ _ => rfl, fun _ _ _ => rfl⟩
theorem FZm.trans {G G' G'' : Wd} (h : FZm G G') (h' : FZm G' G'') : FZm G G'' := ⟨h'.1.trans h.1, fun x j a b c d e f g => (h'.2.1 x j a b c d e f g).trans (h.2.1 x j a b c d e f g), fun x j a => (h'.2.2 x j a).trans (h.2.2 x j a)⟩
theorem FZm.u {G G' : Wd} (h : FZm G G') {a k : Nat} {z : Int} (ha : a = 152 ∨ a = 153 ∨ a = 161 ∨ (165 ≤ a ∧ a ≤ 167) ∨ a = 172 ∨ a = 173 ∨ (a = 145 ∧ (k = 2 ∨ (34 ≤ k ∧ k ≤ 38) ∨ k = 48))) : FZm G (uI G' a k z) := ⟨h.1, fun x j q1 q2 q3 q4 q5 q6 q7 => by rw [iv (by omega)]; exact h.2.1 x j q1 q2 q3 q4 q5 q6 q7, h.2.2⟩
theorem FZm.l {G G' : Wd} (h : FZm G G') {z : Int} : FZm G (uL G' 145 39 z) := ⟨h.1, h.2.1, fun x j a => by
  show upd2 G'.2.1 145 39 z x j = _
  rw [upd2_eq, if_neg a]; exact h.2.2 x j a⟩
theorem FZm.of {G G' : Wd} (h : FM [] [163, 164] [] G G') : FZm G G' := ⟨h.1, fun x j _ _ _ _ q _ _ => h.2.1 x j (by simp; omega) (by simp), fun x j _ => h.2.2 x j (by simp) (by simp)⟩
theorem FZm.f {G G' : Wd} (h : FZm G G') : FrM G G' := ⟨fun x a => funext fun j => h.2.1 x j (by omega) (by omega) (by omega) (by omega) (by omega) (by omega) (by omega), fun x a => funext fun j => h.2.2 x j (by omega), h.1⟩
theorem RM_E {G G' : Wd} {A : Ab} {S' : Sh} {v' : Ev} (h : RM G A) (f : FZm G G') (hS : mS0 G' S') (hv : evM G' mcN S' v') (hi : imM G S' A.2.2.1) : RM G' (S', v', A.2.2) := by
  obtain ⟨r1, r2, r3, r4, r5, r6, r7, r8, r9⟩ := h
  have fi : ∀ x, x ≠ 152 → x ≠ 153 → x ≠ 161 → ¬ (165 ≤ x ∧ x ≤ 167) → ¬ (x = 172 ∨ x = 163 ∨ x = 164) → x ≠ 173 → x ≠ 145 → G'.1 x = G.1 x := fun x a b c d e g k => funext fun j => f.2.1 x j a b c d e g (fun q => k q.1)
  have f5 : ∀ j, ¬ (j = 2 ∨ (34 ≤ j ∧ j ≤ 38) ∨ j = 48) → G'.1 145 j = G.1 145 j := fun j a => f.2.1 145 j (by omega) (by omega) (by omega) (by omega) (by omega) (by omega) (fun q => a q.2)
  refine ⟨hS, hv, by rw [f5 60 (by omega)]; exact r3, imM_c hi (fun j hj => f5 j (by omega)) (f.2.2 145 67 (by omega)) (fun x hx => fi x (by omega) (by omega) (by omega) (by omega) (by omega) (by omega) (by omega)), by rw [f5 28 (by omega)]; exact r5, by rw [f5 18 (by omega)]; exact r6, fun j hj => by rw [fi 162 (by omega) (by omega) (by omega) (by omega) (by omega) (by omega) (by omega)]; exact r7 j hj, ?_, ?_⟩
  · rw [f5 57 (by omega)]; exact kpO_c r8 (fi 176 (by omega) (by omega) (by omega) (by omega) (by omega) (by omega) (by omega))
  · rw [f5 58 (by omega)]; exact kpO_c r9 (fi 178 (by omega) (by omega) (by omega) (by omega) (by omega) (by omega) (by omega))
theorem mS0_z {G G' : Wd} {S : Sh} (h : mS0 G S) (f : FZm G G') (h2 : G'.1 152 = G.1 152) (h3 : G'.1 153 = G.1 153) : mS0 G' S := mS0_c h (fun x a b => by
  by_cases c2 : x = 152
  · subst c2; exact h2
  · by_cases c3 : x = 153
    · subst c3; exact h3
    · exact funext fun j => f.2.1 x j c2 c3 (by omega) (by omega) (by omega) (by omega) (by omega))
theorem sumF_gb {c : List Int} {b : Bk} {g : List Int} : ∀ n, sumF c (bkGo' b g) n = sumF c b n := by
  intro n
  induction n with
  | zero => rfl
  | succ n ih => rw [sumF, sumF, ih]; rfl
theorem sumF_S {S : Sh} {j k : Nat} {g : List Int} (n : Nat) : sumF (cdS (setGo S j g)) (bkJ (setGo S j g) k) n = sumF (cdS S) (bkJ S k) n := by
  rcases Nat.lt_or_ge k S.1.length with c | c
  · rw [bkJ_go c]
    split
    · exact sumF_gb n
    · rfl
  · have e : bkJ (setGo S j g) k = bkJ S k := by
      unfold bkJ
      rw [List.getD_eq_getElem?_getD, List.getD_eq_getElem?_getD, List.getElem?_eq_none (by rw [setGo_len]; exact c), List.getElem?_eq_none c]
    rw [e]; rfl
theorem evM_S {G : Wd} {m : Mc} {S : Sh} {v : Ev} {j : Nat} {g : List Int} (h : evM G m S v) : evM G m (setGo S j g) v := by
  obtain ⟨h1, h2, h3, h4, h5, h6⟩ := h
  exact ⟨h1, h2, h3, h4, fun q => by rw [sumF_S]; exact h5 q, h6⟩
theorem imM_S {G : Wd} {S : Sh} {o : Option (List (List Int) × Ev)} {j : Nat} {g : List Int} (h : imM G S o) : imM G (setGo S j g) o := by
  cases o with
  | none => trivial
  | some i => exact ⟨evM_S h.1, fun k hk => h.2 k (by rw [setGo_len] at hk; exact hk)⟩
theorem RM_ref {G : Wd} {k : Nat} {A : Ab} {K : Int} (h : RM G A) (hI : Inv K A) (hk : k < 4) : RM (uI G 161 k (G.1 161 k + 1)) (refA A k) := by
  have hf : FZm G (uI G 161 k (G.1 161 k + 1)) := (FZm.refl G).u (by omega)
  have e4 : A.2.1.2.2.2.length = 4 := hI.2.1.2.2.2.1
  obtain ⟨v1, v2, v3, v4, v5, v6, v7, v8⟩ := h.2.1
  refine RM_E h hf (mS0_z h.1 hf (funext fun j => iv (by omega)) (funext fun j => iv (by omega))) ⟨(iv (fun q => absurd q.1 (by decide))).trans v1, fun i hi => ?_, (iv (fun q => absurd q.1 (by decide))).trans v3, (iv (fun q => absurd q.1 (by decide))).trans v4, fun q => ?_, (iv (fun q => absurd q.1 (by decide))).trans v6, fun i hi => ?_, fun i hi => ?_⟩ h.2.2.2.1
  · have := v2 i hi
    dsimp only [mcN] at *
    rw [uv (by omega), uv (by omega), uv (by omega)]; exact this
  · have := v5 q
    dsimp only [mcN] at *
    rw [uv (by omega), uv (by omega)]; exact this
  · have := v7 i hi
    dsimp only [mcN] at *
    rw [uv (by omega), uv (by omega)]; exact this
  · show (uI G 161 k (G.1 161 k + 1)).1 161 i = (A.2.1.2.2.2.set k (A.2.1.2.2.2.getD k 0 + 1)).getD i 0
    have v8' : ∀ i, i < 4 → G.1 161 i = A.2.1.2.2.2.getD i 0 := v8
    rw [getD_set (by omega)]
    by_cases c : i = k
    · subst c; rw [if_pos rfl, iu, v8' i hi]
    · rw [if_neg c, iv (by omega), v8' i hi]
set_option maxRecDepth 100000 in
set_option maxHeartbeats 4000000 in
theorem c_mRefuse {κ : Kx} (hκ : KOK κ) {d k : Nat} {G : Wd} (hk : k < 4) : Ct κ MX12_refuse d 0 0 [VR 145, VI (k : Nat)] (Wm G) (fun u Ω' => u = some (VI (-1)) ∧ Ω' = Wm (uI G 161 k (G.1 161 k + 1))) noX := by
  refine Ct_of hκ kX12_refuse.1 rfl (Nat.le_of_ble_eq_true rfl) (ls := [some (VR 145), some (VI (k : Nat))]) rfl (fun μ => ?_)
  refine V_ex sX12_refuse_0 (by simp only [Option.toList, List.cons_append, List.nil_append, exN, ex1, gI, gL, gR, pI, pL, pR, lget, lset1, lset2, kl, b2I, b2L, nob, ob32, ob64, xGet, xPut, xLen, xLd, xLdR, xSt, obA, true_and, and_true, and_self, eq_self, Nat.reduceEqDiff, Nat.zero_ne_one, reduceIte, Nat.reduceLeDiff, and_false, false_and, show skd 11 16 = 2 from rfl, show LF.1 145 = some (.inl 11) from rfl, show LF.2 145 16 = some 161 from rfl, show LF.1 161 = some (.inr (0, 4)) from rfl, Int.toNat_natCast, upd2_eq, Int.reduceToNat, Int.toNat_natCast]; rfl) (by first | exact trivial | exact Or.inr rfl | exact Or.inl rfl | (simp only [ob, obA, R32, R64] at *; omega) | (simp only [ob, obA, R32, R64] at *; and_intros <;> omega) | (simp [ob, obA])) ?_
  refine V_iret dX12_refuse_11 rfl (by decide) ⟨rfl, rfl⟩
/-- one leaf more torn out -/
def toW (G : Wd) (j n t : Nat) (l : Int) (sec : Bool) : Wd := uI (uI (uI (uI (uI (uI (uI G 153 (60 * j + n) l) 152 j ((n : Int) + 1)) 165 t (j : Int)) 166 t l) 167 t (b2i sec)) 145 34 ((t : Int) + 1)) 145 35 (G.1 145 35 + b2i (!sec))
set_option maxRecDepth 100000 in
set_option maxHeartbeats 4000000 in
theorem c_mTearOut {κ : Kx} (hκ : KOK κ) {d j n t : Nat} {l : Int} {sec : Bool} {G : Wd} (hj : j < 6) (hn : G.1 152 j = (n : Nat)) (hn60 : n < 60) (ht : G.1 145 34 = (t : Nat)) (ht2 : t < 720) : Ct κ MX12_tearOut d 0 0 [VR 145, VI (j : Nat), VI l, VI (b2i sec)] (Wm G) (voidG (toW G j n t l sec)) noX := by
  refine Ct_of hκ kX12_tearOut.1 rfl (Nat.le_of_ble_eq_true rfl) (ls := [some (VR 145), some (VI (j : Nat)), some (VI l), some (VI (b2i sec))]) rfl (fun μ => ?_)
  have e60 : (60 : Int) * (j : Int) + (n : Int) = ((60 * j + n : Nat) : Int) := by omega
  have a1 : upd2 G.1 153 (60 * j + n) l 152 j = (n : Nat) := by rw [asn (by decide)]; exact hn
  have a2 : ∀ z, upd2 (upd2 G.1 153 (60 * j + n) l) 152 j z 145 34 = (t : Nat) := fun z => by rw [asn (by decide), asn (by decide)]; exact ht
  have a3 : ∀ z, upd2 (upd2 (upd2 G.1 153 (60 * j + n) l) 152 j z) 165 t (j : Int) 145 34 = (t : Nat) := fun z => by rw [asn (by decide)]; exact a2 z
  have a4 : ∀ z, upd2 (upd2 (upd2 (upd2 G.1 153 (60 * j + n) l) 152 j z) 165 t (j : Int)) 166 t l 145 34 = (t : Nat) := fun z => by rw [asn (by decide)]; exact a3 z
  have a5 : ∀ z y, upd2 (upd2 (upd2 (upd2 (upd2 G.1 153 (60 * j + n) l) 152 j z) 165 t (j : Int)) 166 t l) 167 t y 145 34 = (t : Nat) := fun z y => by rw [asn (by decide)]; exact a4 z
  have a6 : ∀ z y w, upd2 (upd2 (upd2 (upd2 (upd2 (upd2 G.1 153 (60 * j + n) l) 152 j z) 165 t (j : Int)) 166 t l) 167 t y) 145 34 w 145 35 = G.1 145 35 := fun z y w => by rw [as5 (by decide), asn (by decide), asn (by decide), asn (by decide), asn (by decide), asn (by decide)]
  cases sec with
  | false =>
    refine V_ex sX12_tearOut_0 (by simp only [Option.toList, List.cons_append, List.nil_append, exN, ex1, gI, gL, gR, pI, pL, pR, lget, lset1, lset2, kl, b2I, b2L, nob, ob32, ob64, xGet, xPut, xLen, xLd, xLdR, xSt, obA, true_and, and_true, and_self, eq_self, Nat.reduceEqDiff, Nat.zero_ne_one, reduceIte, Nat.reduceLeDiff, and_false, false_and, show skd 11 8 = 2 from rfl, show skd 11 7 = 2 from rfl, show skd 11 31 = 2 from rfl, show skd 11 34 = 0 from rfl, show skd 11 32 = 2 from rfl, show skd 11 33 = 2 from rfl, show skd 11 35 = 0 from rfl, show LF.1 145 = some (.inl 11) from rfl, show LF.2 145 8 = some 153 from rfl, show LF.2 145 7 = some 152 from rfl, show LF.1 152 = some (.inr (0, 12)) from rfl, show LF.1 153 = some (.inr (0, 720)) from rfl, show LF.2 145 31 = some 165 from rfl, show LF.1 165 = some (.inr (0, 720)) from rfl, show LF.2 145 32 = some 166 from rfl, show LF.1 166 = some (.inr (0, 720)) from rfl, show LF.2 145 33 = some 167 from rfl, show LF.1 167 = some (.inr (2, 720)) from rfl, Int.toNat_natCast, hn, e60, a1, a2, a3, a4, a5, a6, upd2_eq, Int.reduceToNat, Int.toNat_natCast]; rfl) (by (refine ⟨?_, ?_, ?_, ?_, ?_, ?_, ?_, b2i_01 _⟩ <;> omega)) ?_
    refine V_ifeqB dX12_tearOut_73 (tgt := 80) (by decide) (fun q73 => ?_) (fun q73 => ?_)
    · refine V_ex sX12_tearOut_80 (by rfl) (by first | exact trivial | exact Or.inr rfl | exact Or.inl rfl | (simp only [ob, obA, R32, R64] at *; omega) | (simp only [ob, obA, R32, R64] at *; and_intros <;> omega) | (simp [ob, obA])) ?_
      refine V_ex sX12_tearOut_81 (by simp only [Option.toList, List.cons_append, List.nil_append, exN, ex1, gI, gL, gR, pI, pL, pR, lget, lset1, lset2, kl, b2I, b2L, nob, ob32, ob64, xGet, xPut, xLen, xLd, xLdR, xSt, obA, true_and, and_true, and_self, eq_self, Nat.reduceEqDiff, Nat.zero_ne_one, reduceIte, Nat.reduceLeDiff, and_false, false_and, show skd 11 35 = 0 from rfl, show LF.1 145 = some (.inl 11) from rfl, Int.toNat_natCast, hn, e60, a1, a2, a3, a4, a5, a6, upd2_eq, Int.reduceToNat, Int.toNat_natCast]; rfl) (by first | exact trivial | exact Or.inr rfl | exact Or.inl rfl | (simp only [ob, obA, R32, R64] at *; omega) | (simp only [ob, obA, R32, R64] at *; and_intros <;> omega) | (simp [ob, obA])) ?_
      refine V_vret dX12_tearOut_85 rfl (by decide) ⟨rfl, rfl⟩
    · cases q73
  | true =>
    refine V_ex sX12_tearOut_0 (by simp only [Option.toList, List.cons_append, List.nil_append, exN, ex1, gI, gL, gR, pI, pL, pR, lget, lset1, lset2, kl, b2I, b2L, nob, ob32, ob64, xGet, xPut, xLen, xLd, xLdR, xSt, obA, true_and, and_true, and_self, eq_self, Nat.reduceEqDiff, Nat.zero_ne_one, reduceIte, Nat.reduceLeDiff, and_false, false_and, show skd 11 8 = 2 from rfl, show skd 11 7 = 2 from rfl, show skd 11 31 = 2 from rfl, show skd 11 34 = 0 from rfl, show skd 11 32 = 2 from rfl, show skd 11 33 = 2 from rfl, show skd 11 35 = 0 from rfl, show LF.1 145 = some (.inl 11) from rfl, show LF.2 145 8 = some 153 from rfl, show LF.2 145 7 = some 152 from rfl, show LF.1 152 = some (.inr (0, 12)) from rfl, show LF.1 153 = some (.inr (0, 720)) from rfl, show LF.2 145 31 = some 165 from rfl, show LF.1 165 = some (.inr (0, 720)) from rfl, show LF.2 145 32 = some 166 from rfl, show LF.1 166 = some (.inr (0, 720)) from rfl, show LF.2 145 33 = some 167 from rfl, show LF.1 167 = some (.inr (2, 720)) from rfl, Int.toNat_natCast, hn, e60, a1, a2, a3, a4, a5, a6, upd2_eq, Int.reduceToNat, Int.toNat_natCast]; rfl) (by (refine ⟨?_, ?_, ?_, ?_, ?_, ?_, ?_, b2i_01 _⟩ <;> omega)) ?_
    refine V_ifeqB dX12_tearOut_73 (tgt := 80) (by decide) (fun q73 => ?_) (fun q73 => ?_)
    · cases q73
    · refine V_ex sX12_tearOut_76 (by rfl) (by first | exact trivial | exact Or.inr rfl | exact Or.inl rfl | (simp only [ob, obA, R32, R64] at *; omega) | (simp only [ob, obA, R32, R64] at *; and_intros <;> omega) | (simp [ob, obA])) ?_
      refine V_goto dX12_tearOut_77 (tgt := 81) (by decide) ?_
      refine V_ex sX12_tearOut_81 (by simp only [Option.toList, List.cons_append, List.nil_append, exN, ex1, gI, gL, gR, pI, pL, pR, lget, lset1, lset2, kl, b2I, b2L, nob, ob32, ob64, xGet, xPut, xLen, xLd, xLdR, xSt, obA, true_and, and_true, and_self, eq_self, Nat.reduceEqDiff, Nat.zero_ne_one, reduceIte, Nat.reduceLeDiff, and_false, false_and, show skd 11 35 = 0 from rfl, show LF.1 145 = some (.inl 11) from rfl, Int.toNat_natCast, hn, e60, a1, a2, a3, a4, a5, a6, upd2_eq, Int.reduceToNat, Int.toNat_natCast]; rfl) (by first | exact trivial | exact Or.inr rfl | exact Or.inl rfl | (simp only [ob, obA, R32, R64] at *; omega) | (simp only [ob, obA, R32, R64] at *; and_intros <;> omega) | (simp [ob, obA])) ?_
      refine V_vret dX12_tearOut_85 rfl (by decide) ⟨rfl, rfl⟩
