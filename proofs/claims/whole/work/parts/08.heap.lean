/-! THE EVALUATOR IS RIGHT: fields and rows of the heap -/
theorem kK_at {κ : Kx} {M : Ms} {μ : Mu} (g : Gd κ M μ) : va_K (kD κ) vwCl [] (mS μ) := va_K.moved g.2.2.2.2.2.2.2.2.1.alike g.1.2.2.1
theorem arr_at {κ : Kx} {M : Ms} {μ : Mu} (g : Gd κ M μ) {cA : ClassId} {ty : FieldType} (h : va_K (kD κ) vwCl [(cA, ty)] (kS κ)) : ArrOfT (mS μ) cA ty := arrOfT_moved g.2.2.2.2.2.2.2.2.1.alike (h.2 0 _ rfl).1
theorem CO.keep {κ : Kx} {Ω Ω' : Om} {a : Nat} {t : Tg} {H H1 : Heap} (h : CO κ Ω a t H) (hq : H1[kB κ + (a - 1)]? = H[kB κ + (a - 1)]?) (h2 : ∀ k, Ω'.2.2.1 a k = Ω.2.2.1 a k) (h3 : ∀ k, Ω'.2.2.2.1 a k = Ω.2.2.2.1 a k) (h4 : ∀ k, Ω'.2.2.2.2 a k = Ω.2.2.2.2 a k) (h5 : ∀ k, Ω'.1.2 a k = Ω.1.2 a k) : CO κ Ω' a t H1 := by
  cases t with
  | inl ci =>
    obtain ⟨r, e1, e2⟩ := h
    refine ⟨r, e1, t_OB.to (e2.kept hq) (fun k _ => ?_)⟩
    unfold fv
    rw [h2, h3, h4, h5]
  | inr q =>
    obtain ⟨e0, cA, e1, e2⟩ := h
    refine ⟨e0, cA, ?_, e2⟩
    rw [hq, e1]
    congr 2
    funext j
    unfold ev
    rw [h2, h3, h5]
theorem HO.upd {κ : Kx} {Λ : Ly} {sz : Option Nat} {G G' : Wd} {H H1 : Heap} {a : Nat} {t : Tg} (h : HO κ (Λ, sz, G) H) (ht : Λ.1 a = some t) (hz : H1.size = H.size) (hq : ∀ q : Nat, q ≠ kB κ + (a - 1) → H1[q]? = H[q]?) (hG : ∀ b, b ≠ a → (∀ k, G'.1 b k = G.1 b k) ∧ (∀ k, G'.2.1 b k = G.2.1 b k) ∧ (∀ k, G'.2.2 b k = G.2.2 b k)) (hc : CO κ (Λ, sz, G') a t H1) : HO κ (Λ, sz, G') H1 := by
  obtain ⟨h1, h2, h3, h4⟩ := h
  have ha := h4 a t ht
  refine ⟨by rw [hz]; exact h1, fun q hq1 => ?_, fun n hn => by rw [hz]; exact h3 n hn, fun b u hb => ?_⟩
  · rw [hq q (by omega)]; exact h2 q hq1
  · have hbb := h4 b u hb
    refine ⟨hbb.1, hbb.2.1, ?_⟩
    by_cases hba : b = a
    · subst hba
      rw [ht] at hb
      cases hb
      exact hc
    · obtain ⟨g1, g2, g3⟩ := hG b hba
      have hb0 : 0 < b := hbb.1
      have ha0 : 0 < a := ha.1
      exact hbb.2.2.keep (hq _ (by omega)) g1 g2 g3 (fun _ => rfl)
section EXH
variable {κ : Kx} {M : Ms} {rm : Room} {P : Option Vl → Om → Prop} {PX : String → Om → Prop} {mc ms : Nat} {μ : Mu} {cells slots : Nat} {Λ : Ly} {sz : Option Nat} {G G' : Wd} {pc : Nat} {ls ls' : List (Option Vl)} {st st' : List Vl} {o : Option Prop}
theorem R_getfield {j a ci k : Nat} {v : Vl} (hd : decode (MB M) pc = .ok (.getfield j, 3)) (hl : lnk (MN M).cls (.getfield j) (ci, k, 0) = true) (ha : Λ.1 a = some (.inl ci)) (hv : fv κ (Λ, sz, G) a ci k = tr κ v) (kk : V κ M rm P PX mc ms μ cells slots (Λ, sz, G) (pc + 3) ls (v :: st)) : V κ M rm P PX mc ms μ cells slots (Λ, sz, G) pc ls (.inr (.inr a) :: st) := by
  intro g H locs lsA hH hL hl2
  have hK := kK_at g
  obtain ⟨ha0, ha1, r, hc, cell, q1, q2, q3, q4⟩ := hH.2.2.2 a _ ha
  unfold lnk at hl
  rw [show vwCl[((ci, k, 0) : X3).1]? = some r from hc] at hl
  simp only [Bool.and_eq_true, decide_eq_true_eq] at hl
  obtain ⟨hk, hl⟩ := hl
  obtain ⟨hS, hfc, kC, hkC, hkind⟩ := hK.1 ci _ hc
  obtain ⟨cf, kf, fi, f, hi, hsl⟩ := hS k hk
  have k1 := kk g H locs lsA hH hL hl2
  simp only [List.map_cons] at k1 ⊢
  rw [show tr κ (.inr (.inr a)) = .ref (kB κ + (a - 1)) from ad_at κ ha0 ha1]
  refine W.getf g.2.1 g.2.2.1 g.2.2.2.2.2.2.1 (g.2.2.2.2.2.2.2.1 _ (has_of wF_in hl isFL_ok rfl)) hi (u_facts hfc hkC (u_lays g.2.2.2.2.2.2.2.1 (cl_rows hc).1 hk) hi).1 q1 (by rw [q3]; exact fun h => by cases h) (v := tr κ v) ?_ rfl rfl hd k1
  rw [hsl, q4 k hk, hv]
theorem R_putfield {j a ci k : Nat} {v : Vl} {ty : FieldType} (hd : decode (MB M) pc = .ok (.putfield j, 3)) (hl : lnk (MN M).cls (.putfield j) (ci, k, 0) = true) (ha : Λ.1 a = some (.inl ci)) (hty : ctyp ci k = ty) (hn : narrow ty (tr κ v) = tr κ v) (hf : fits ty (tr κ v) = true)
    (hv : ∀ k', fv κ (Λ, sz, G') a ci k' = if k' = k then tr κ v else fv κ (Λ, sz, G) a ci k') (hG : ∀ b, b ≠ a → (∀ k, G'.1 b k = G.1 b k) ∧ (∀ k, G'.2.1 b k = G.2.1 b k) ∧ (∀ k, G'.2.2 b k = G.2.2 b k))
    (kk : V κ M rm P PX mc ms μ cells slots (Λ, sz, G') (pc + 3) ls st) : V κ M rm P PX mc ms μ cells slots (Λ, sz, G) pc ls (v :: .inr (.inr a) :: st) := by
  intro g H locs lsA hH hL hl2
  have hK := kK_at g
  obtain ⟨ha0, ha1, r, hc, cell, q1, q2, q3, q4⟩ := hH.2.2.2 a _ ha
  unfold lnk at hl
  rw [show vwCl[((ci, k, 0) : X3).1]? = some r from hc] at hl
  simp only [Bool.and_eq_true, decide_eq_true_eq, Bool.not_eq_true'] at hl
  obtain ⟨hk, hfin, hl⟩ := hl
  obtain ⟨r1, r2, r3⟩ := cl_rows hc
  have hap := va_apart (own := "") g.2.2.2.2.2.2.2.1 r1 (ctyp ci) r2 r3 hK hc
  obtain ⟨hS, hfc, kC, hkC, hkind⟩ := hK.1 ci _ hc
  obtain ⟨cf, kf, fi, f, hi, hsl⟩ := hS k hk
  have hlay := g.2.2.2.2.2.2.2.1 _ (r1 _ (u_in_lay hk))
  unfold u_lay at hlay
  rw [if_neg (by rw [hfin]; decide)] at hlay
  have hst := (u_facts hfc hkC (u_lays g.2.2.2.2.2.2.2.1 r1 hk) hi).1
  have h6 := u_store hfc hkC hkind hlay hi (r2 k hk) (by rw [hty]; exact hn) (by rw [hty]; exact hf)
  simp only [List.map_cons]
  rw [show tr κ (.inr (.inr a)) = .ref (kB κ + (a - 1)) from ad_at κ ha0 ha1]
  refine W.putK g.2.1 g.2.2.1 (f := f) ⟨g.2.2.2.2.2.2.1, g.2.2.2.2.2.2.2.1 _ (has_of wF_in hl isFL_ok rfl), ⟨_, _, _, hi⟩, hst⟩ (by rw [q2]; exact h6) q1 q3 (by rw [hsl]; exact k2_hasslot (q4 k hk)) rfl rfl hd fun H' e1 e2 e3 => ?_
  rw [hsl] at e1 ⊢
  refine kk g H' _ lsA (hH.upd ha e2 e3 hG ⟨r, hc, t_OB.to (V := updV (fv κ (Λ, sz, G) a ci) k (tr κ v)) ⟨_, e1, q2, q3, t_set q4 hap hk _⟩ (fun k' _ => ?_)⟩) ?_ hl2
  · rw [hv]; rfl
  · intro q hq
    rcases List.mem_append.mp hq with h | h
    · exact hL q h
    · rw [List.mem_singleton.mp h]; exact Nat.le_add_right _ _
theorem R_len {a : Nat} {q : Nat × Nat} (hd : decode (MB M) pc = .ok (.arraylength, 1)) (ha : Λ.1 a = some (.inr q)) (kk : V κ M rm P PX mc ms μ cells slots (Λ, sz, G) (pc + 1) ls (.inl (q.2 : Nat) :: st)) : V κ M rm P PX mc ms μ cells slots (Λ, sz, G) pc ls (.inr (.inr a) :: st) := by
  intro g H locs lsA hH hL hl2
  obtain ⟨ha0, ha1, hn, cA, e1, e2⟩ := hH.2.2.2 a _ ha
  have k1 := kk g H locs lsA hH hL hl2
  simp only [List.map_cons] at k1 ⊢
  rw [show tr κ (.inr (.inr a)) = .ref (kB κ + (a - 1)) from ad_at κ ha0 ha1]
  exact W.alen g.2.1 g.2.2.1 e1 (arr_at g e2 _ _) (n := Int32.ofInt (q.2 : Nat)) (by rw [arrV_size]; rfl) rfl rfl hd k1
theorem ix_in {j : Int} {n : Nat} (h : 0 ≤ j ∧ j < (n : Nat)) (hn : n < 2147483648) : ¬ (Int32.ofInt j < 0 ∨ n ≤ (Int32.ofInt j).toNatClampNeg) ∧ (Int32.ofInt j).toNatClampNeg = j.toNat ∧ j.toNat < n := by
  have hr : R32 j := ⟨by omega, by omega⟩
  have hc := i32_clamp h.1 hr
  refine ⟨fun q => ?_, hc, by omega⟩
  rcases q with q | q
  · have := (i32_lt hr r32_0).mp q; omega
  · rw [hc] at q; omega
theorem R_iaload {a : Nat} {j : Int} {q : Nat × Nat} (hd : decode (MB M) pc = .ok (.iaload, 1)) (ha : Λ.1 a = some (.inr q)) (hq : q.1 = 0) (hj : 0 ≤ j ∧ j < (q.2 : Nat)) (kk : V κ M rm P PX mc ms μ cells slots (Λ, sz, G) (pc + 1) ls (.inl (G.1 a j.toNat) :: st)) : V κ M rm P PX mc ms μ cells slots (Λ, sz, G) pc ls (.inl j :: .inr (.inr a) :: st) := by
  intro g H locs lsA hH hL hl2
  obtain ⟨ha0, ha1, hn, cA, e1, e2⟩ := hH.2.2.2 a _ ha
  obtain ⟨n, m⟩ := q
  cases hq
  obtain ⟨i1, i2, i3⟩ := ix_in hj hn
  have k1 := kk g H locs lsA hH hL hl2
  simp only [List.map_cons] at k1 ⊢
  rw [show tr κ (.inr (.inr a)) = .ref (kB κ + (a - 1)) from ad_at κ ha0 ha1]
  exact W.iald g.2.1 g.2.2.1 e1 (arr_at g e2 _ _) (fun q => by cases q) (by rw [arrV_size]; exact i1) (by rw [i2, arrV_read _ _ i3]; rfl) rfl rfl hd k1
theorem R_laload {a : Nat} {j : Int} {q : Nat × Nat} (hd : decode (MB M) pc = .ok (.laload, 1)) (ha : Λ.1 a = some (.inr q)) (hq : q.1 = 1) (hj : 0 ≤ j ∧ j < (q.2 : Nat)) (kk : V κ M rm P PX mc ms μ cells slots (Λ, sz, G) (pc + 1) ls (.inr (.inl (G.2.1 a j.toNat)) :: st)) : V κ M rm P PX mc ms μ cells slots (Λ, sz, G) pc ls (.inl j :: .inr (.inr a) :: st) := by
  intro g H locs lsA hH hL hl2
  obtain ⟨ha0, ha1, hn, cA, e1, e2⟩ := hH.2.2.2 a _ ha
  obtain ⟨n, m⟩ := q
  cases hq
  obtain ⟨i1, i2, i3⟩ := ix_in hj hn
  have k1 := kk g H locs lsA hH hL hl2
  simp only [List.map_cons] at k1 ⊢
  rw [show tr κ (.inr (.inr a)) = .ref (kB κ + (a - 1)) from ad_at κ ha0 ha1]
  exact W.lald g.2.1 g.2.2.1 e1 (arr_at g e2 _ _) (fun q => by cases q) (by rw [arrV_size]; exact i1) (by rw [i2, arrV_read _ _ i3]; rfl) rfl rfl hd k1
theorem R_baload {a : Nat} {j : Int} {q : Nat × Nat} (hd : decode (MB M) pc = .ok (.baload, 1)) (ha : Λ.1 a = some (.inr q)) (hq : q.1 = 2) (hj : 0 ≤ j ∧ j < (q.2 : Nat)) (kk : V κ M rm P PX mc ms μ cells slots (Λ, sz, G) (pc + 1) ls (.inl (G.1 a j.toNat) :: st)) : V κ M rm P PX mc ms μ cells slots (Λ, sz, G) pc ls (.inl j :: .inr (.inr a) :: st) := by
  intro g H locs lsA hH hL hl2
  obtain ⟨ha0, ha1, hn, cA, e1, e2⟩ := hH.2.2.2 a _ ha
  obtain ⟨n, m⟩ := q
  cases hq
  obtain ⟨i1, i2, i3⟩ := ix_in hj hn
  have k1 := kk g H locs lsA hH hL hl2
  simp only [List.map_cons] at k1 ⊢
  rw [show tr κ (.inr (.inr a)) = .ref (kB κ + (a - 1)) from ad_at κ ha0 ha1]
  exact W.zald g.2.1 g.2.2.1 e1 (arr_at g e2 _ _) (fun q => by cases q) (by rw [arrV_size]; exact i1) (by rw [i2, arrV_read _ _ i3]; rfl) rfl rfl hd k1
theorem aty_ref {n : Nat} (h : 3 ≤ n) : (aty n).isReference = true := by
  unfold aty
  split <;> first | omega | rfl
theorem R_aaload {a : Nat} {j : Int} {q : Nat × Nat} (hd : decode (MB M) pc = .ok (.aaload, 1)) (ha : Λ.1 a = some (.inr q)) (hq : 3 ≤ q.1) (hj : 0 ≤ j ∧ j < (q.2 : Nat)) (kk : V κ M rm P PX mc ms μ cells slots (Λ, sz, G) (pc + 1) ls (.inr (.inr ((Λ.2 a j.toNat).getD 0)) :: st)) : V κ M rm P PX mc ms μ cells slots (Λ, sz, G) pc ls (.inl j :: .inr (.inr a) :: st) := by
  intro g H locs lsA hH hL hl2
  obtain ⟨ha0, ha1, hn, cA, e1, e2⟩ := hH.2.2.2 a _ ha
  obtain ⟨n, m⟩ := q
  obtain ⟨i1, i2, i3⟩ := ix_in hj hn
  have k1 := kk g H locs lsA hH hL hl2
  simp only [List.map_cons] at k1 ⊢
  rw [show tr κ (.inr (.inr a)) = .ref (kB κ + (a - 1)) from ad_at κ ha0 ha1]
  refine W.aald g.2.1 g.2.2.1 e1 (arr_at g e2 _ _) (aty_ref hq) (fun q => by cases q) (by rw [arrV_size]; exact i1) (by rw [i2, arrV_read _ _ i3]) rfl rfl hd ?_
  have e : ev κ (Λ, sz, G) a n j.toNat = ad κ ((Λ.2 a j.toNat).getD 0) := by
    unfold ev
    rw [if_neg (by have := hq; simp only at this; omega), if_pos hq]
  simp only at e k1 ⊢
  rw [e]
  exact k1
theorem R_iastore {a : Nat} {j z : Int} {q : Nat × Nat} (hd : decode (MB M) pc = .ok (.iastore, 1)) (ha : Λ.1 a = some (.inr q)) (hq : q.1 = 0) (hj : 0 ≤ j ∧ j < (q.2 : Nat)) (kk : V κ M rm P PX mc ms μ cells slots (Λ, sz, (upd2 G.1 a j.toNat z, G.2)) (pc + 1) ls st) : V κ M rm P PX mc ms μ cells slots (Λ, sz, G) pc ls (.inl z :: .inl j :: .inr (.inr a) :: st) := by
  intro g H locs lsA hH hL hl2
  obtain ⟨ha0, ha1, hn, cA, e1, e2⟩ := hH.2.2.2 a _ ha
  obtain ⟨n, m⟩ := q
  cases hq
  obtain ⟨i1, i2, i3⟩ := ix_in hj hn
  simp only [List.map_cons]
  rw [show tr κ (.inr (.inr a)) = .ref (kB κ + (a - 1)) from ad_at κ ha0 ha1]
  refine W.iast g.2.1 g.2.2.1 e1 (arr_at g e2 _ _) (fun q => by cases q) (by rw [arrV_size]; exact i1) rfl rfl hd fun H1 f1 f2 f3 => ?_
  refine kk g H1 _ lsA (hH.upd ha f2 f3 (fun b hb => ⟨fun k => by simp [upd2, hb], fun _ => rfl, fun _ => rfl⟩) ⟨hn, cA, ?_, e2⟩) ?_ hl2
  · rw [f1, arrV_store, i2]
    congr 2
    funext k
    simp only [updV, ev, upd2]
    by_cases hk : k = j.toNat <;> simp [hk]
  · intro q hq
    rcases List.mem_append.mp hq with h | h
    · exact hL q h
    · rw [List.mem_singleton.mp h]; exact Nat.le_add_right _ _
theorem R_lastore {a : Nat} {j z : Int} {q : Nat × Nat} (hd : decode (MB M) pc = .ok (.lastore, 1)) (ha : Λ.1 a = some (.inr q)) (hq : q.1 = 1) (hj : 0 ≤ j ∧ j < (q.2 : Nat)) (kk : V κ M rm P PX mc ms μ cells slots (Λ, sz, (G.1, upd2 G.2.1 a j.toNat z, G.2.2)) (pc + 1) ls st) : V κ M rm P PX mc ms μ cells slots (Λ, sz, G) pc ls (.inr (.inl z) :: .inl j :: .inr (.inr a) :: st) := by
  intro g H locs lsA hH hL hl2
  obtain ⟨ha0, ha1, hn, cA, e1, e2⟩ := hH.2.2.2 a _ ha
  obtain ⟨n, m⟩ := q
  cases hq
  obtain ⟨i1, i2, i3⟩ := ix_in hj hn
  simp only [List.map_cons]
  rw [show tr κ (.inr (.inr a)) = .ref (kB κ + (a - 1)) from ad_at κ ha0 ha1]
  refine W.last g.2.1 g.2.2.1 e1 (arr_at g e2 _ _) (fun q => by cases q) (by rw [arrV_size]; exact i1) rfl rfl hd fun H1 f1 f2 f3 => ?_
  refine kk g H1 _ lsA (hH.upd ha f2 f3 (fun b hb => ⟨fun _ => rfl, fun k => by simp [upd2, hb], fun _ => rfl⟩) ⟨hn, cA, ?_, e2⟩) ?_ hl2
  · rw [f1, arrV_store, i2]
    congr 2
    funext k
    simp only [updV, ev, upd2]
    by_cases hk : k = j.toNat <;> simp [hk]
  · intro q hq
    rcases List.mem_append.mp hq with h | h
    · exact hL q h
    · rw [List.mem_singleton.mp h]; exact Nat.le_add_right _ _
theorem R_bastore {a : Nat} {j z : Int} {q : Nat × Nat} (hd : decode (MB M) pc = .ok (.bastore, 1)) (ha : Λ.1 a = some (.inr q)) (hq : q.1 = 2) (hj : 0 ≤ j ∧ j < (q.2 : Nat)) (hz : z = 0 ∨ z = 1) (kk : V κ M rm P PX mc ms μ cells slots (Λ, sz, (upd2 G.1 a j.toNat z, G.2)) (pc + 1) ls st) : V κ M rm P PX mc ms μ cells slots (Λ, sz, G) pc ls (.inl z :: .inl j :: .inr (.inr a) :: st) := by
  intro g H locs lsA hH hL hl2
  obtain ⟨ha0, ha1, hn, cA, e1, e2⟩ := hH.2.2.2 a _ ha
  obtain ⟨n, m⟩ := q
  cases hq
  obtain ⟨i1, i2, i3⟩ := ix_in hj hn
  simp only [List.map_cons]
  rw [show tr κ (.inr (.inr a)) = .ref (kB κ + (a - 1)) from ad_at κ ha0 ha1]
  refine W.zast g.2.1 g.2.2.1 e1 (arr_at g e2 _ _) (fun q => by cases q) (by rw [arrV_size]; exact i1) rfl rfl hd fun H1 f1 f2 f3 => ?_
  refine kk g H1 _ lsA (hH.upd ha f2 f3 (fun b hb => ⟨fun k => by simp [upd2, hb], fun _ => rfl, fun _ => rfl⟩) ⟨hn, cA, ?_, e2⟩) ?_ hl2
  · have hnz : narrow .boolean (.int (Int32.ofInt z)) = .int (Int32.ofInt z) := by rcases hz with rfl | rfl <;> decide
    rw [f1, hnz, arrV_store, i2]
    congr 2
    funext k
    simp only [updV, ev, upd2]
    by_cases hk : k = j.toNat <;> simp [hk]
  · intro q hq
    rcases List.mem_append.mp hq with h | h
    · exact hL q h
    · rw [List.mem_singleton.mp h]; exact Nat.le_add_right _ _
end EXH
