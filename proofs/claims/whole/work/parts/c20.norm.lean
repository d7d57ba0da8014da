/-! NUMBERS MADE SMALL: the same heap, all ints in range -/
def nrm (G : Wd) : Wd := (fun a k => w32 (G.1 a k), G.2)
theorem aR_nrm (G : Wd) : aR (nrm G) := fun _ _ => w32_R _
theorem HO_nrm {κ : Kx} {Λ : Ly} {sz : Option Nat} {G : Wd} {H : Heap} (h : HO κ (Λ, sz, G) H) : HO κ (Λ, sz, nrm G) H := by
  obtain ⟨h1, h2, h3, h4⟩ := h
  refine ⟨h1, h2, h3, fun a t ha => ?_⟩
  obtain ⟨q1, q2, q3⟩ := h4 a t ha
  refine ⟨q1, q2, ?_⟩
  cases t with
  | inl ci =>
    obtain ⟨r, e1, e2⟩ := q3
    refine ⟨r, e1, e2.to (fun k _ => ?_)⟩
    show (if skd ci k = 1 then Value.long (Int64.ofInt (G.2.1 a k)) else if skd ci k = 2 then ad κ ((Λ.2 a k).getD 0) else if skd ci k = 3 then ad κ (G.2.2 a k) else .int (Int32.ofInt (G.1 a k))) = (if skd ci k = 1 then Value.long (Int64.ofInt (G.2.1 a k)) else if skd ci k = 2 then ad κ ((Λ.2 a k).getD 0) else if skd ci k = 3 then ad κ (G.2.2 a k) else .int (Int32.ofInt (w32 (G.1 a k))))
    rw [w32_of]
  | inr q =>
    obtain ⟨e0, cA, e1, e2⟩ := q3
    refine ⟨e0, cA, ?_, e2⟩
    rw [e1]
    congr 2
    funext j
    show (if q.1 = 1 then Value.long (Int64.ofInt (G.2.1 a j)) else if 3 ≤ q.1 then ad κ ((Λ.2 a j).getD 0) else .int (Int32.ofInt (G.1 a j))) = (if q.1 = 1 then Value.long (Int64.ofInt (G.2.1 a j)) else if 3 ≤ q.1 then ad κ ((Λ.2 a j).getD 0) else .int (Int32.ofInt (w32 (G.1 a j))))
    rw [w32_of]
theorem nv {G : Wd} {x j : Nat} {v : Int} (h : G.1 x j = v) (r : R32 v) : (nrm G).1 x j = v := by
  show w32 (G.1 x j) = v
  rw [h, w32_id r]
theorem bt1_w (f : Int) (j : Nat) : bt1 (w32 f) j = bt1 f j := by
  unfold bt1
  rw [← bv_i32, ← bv_i32, w32_of]
theorem lsIs_nrm {G : Wd} {a : Nat} {g : List Int} (h : lsIs G a g) (hl : g.length ≤ 1000) : lsIs (nrm G) a g := by
  refine ⟨nv h.1 ⟨by omega, by omega⟩, fun z => ?_⟩
  rw [← h.2 z]
  unfold lsHas
  show (decide (0 ≤ z ∧ z < 2016) && bt1 (w32 (G.1 (a + 1) (z / 32).toNat)) (z % 32).toNat) = _
  rw [bt1_w]
theorem b2i_r (b : Bool) : R32 (b2i b) := by cases b <;> exact ⟨by decide, by decide⟩
theorem ShC_nrm {G : Wd} {s : Nat} {S : Sh} (h : ShC G s S) (hO : okSh 500 S) : ShC (nrm G) s S := by
  obtain ⟨h1, h2, h3, h4, h5, h6, h7, h8⟩ := h
  obtain ⟨o1, o2, o3, o4, o5, o6, o7, o8⟩ := hO
  refine ⟨nv h1 ⟨by omega, by omega⟩, fun j hj => ?_, nv h3 ⟨by omega, by omega⟩, fun j hj => ?_, fun j hj => nv (h5 j hj) ?_, nv h6 (b2i_r _), nv h7 ⟨by omega, by omega⟩, fun j hj => nv (h8 j hj) ?_⟩
  · obtain ⟨b1, b2, b3, b4, b5⟩ := h2 j hj
    obtain ⟨k1, k2, k3, k4, k5, k6, k7, k8, k9⟩ := o2 _ (List.getElem_mem hj)
    exact ⟨nv b1 ⟨by omega, by omega⟩, nv b2 ⟨by omega, by omega⟩, nv b3 ⟨by omega, by omega⟩, fun q => ⟨nv (b4 q).1 ⟨by omega, by omega⟩, nv (b4 q).2 ⟨by omega, by omega⟩⟩, lsIs_nrm b5 (by omega)⟩
  · obtain ⟨b1, b2⟩ := h4 j hj
    obtain ⟨k1, k2, k3, k4⟩ := o4 _ (List.getElem_mem hj)
    exact ⟨nv b1 ⟨by omega, by omega⟩, lsIs_nrm b2 (by omega)⟩
  · have := o6 _ (List.getElem_mem hj); exact ⟨by omega, by omega⟩
  · have := o8 _ (List.getElem_mem hj); exact ⟨by omega, by omega⟩
theorem tn_b {K : Int} {S : Sh} {v : Ev} (hv : evI K S v) (hO : okSh 500 S) : (∀ t ∈ flT v.1, R32 t.1 ∧ R32 t.2.1) ∧ ∀ t ∈ v.1, R32 t.1 ∧ R32 t.2.1 ∧ R32 t.2.2 := by
  obtain ⟨⟨-, h2, h3⟩, -⟩ := hv
  have hb := hO.1
  have hA : ∀ t ∈ flT v.1, R32 t.1 ∧ R32 t.2.1 := fun t ht => by
    obtain ⟨a, b, c⟩ := h2 t ht
    have hj : t.1.toNat < S.1.length := by omega
    have g := gone_ok hO hj
    have g3 := g.2.2.1 _ c
    have g5 := g.2.2.2.2
    exact ⟨⟨by omega, by omega⟩, ⟨by omega, by omega⟩⟩
  refine ⟨hA, fun t ht => ?_⟩
  obtain ⟨m1, m2⟩ := flT_mem ht
  obtain ⟨a, b⟩ := hA _ m1
  refine ⟨a, b, ?_⟩
  by_cases c : t.2.2 = -1
  · rw [c]; exact ⟨by decide, by decide⟩
  · exact (hA _ (m2 c)).2
theorem evC_nrm {G : Wd} {e : Nat} {v : Ev} {K : Int} {S : Sh} (h : evC G e v) (hv : evI K S v) (hO : okSh 500 S) (hK : K ≤ 1000000) (hT : v.1.length ≤ 1000) : evC (nrm G) e v := by
  obtain ⟨h1, h2, h3, h4, h5, h6, h7, h8⟩ := h
  obtain ⟨-, hb⟩ := tn_b hv hO
  have hb6 := hO.1
  obtain ⟨-, ⟨m1, m2, m3, m4⟩, ⟨s1, s2⟩, r1, r2⟩ := hv
  refine ⟨nv h1 ⟨by omega, by omega⟩, fun i hi => ?_, nv h3 ⟨by omega, by omega⟩, nv h4 ⟨by omega, by omega⟩, fun q => nv (h5 q) ⟨by have := (m4 q).1; omega, by have := (m4 q).1; omega⟩, nv h6 ⟨by omega, by omega⟩, fun i hi => ?_, fun i hi => nv (h8 i hi) ?_⟩
  · obtain ⟨a, b, c⟩ := hb _ (List.getElem_mem hi)
    obtain ⟨x, y, z⟩ := h2 i hi
    exact ⟨nv x a, nv y b, nv z c⟩
  · obtain ⟨a, b⟩ := s2 _ (List.getElem_mem hi)
    obtain ⟨x, y⟩ := h7 i hi
    exact ⟨nv x ⟨by omega, by omega⟩, nv y ⟨by omega, by omega⟩⟩
  · have hil : i < v.2.2.2.length := by omega
    have e : v.2.2.2.getD i 0 = v.2.2.2[i]'hil := by rw [List.getD_eq_getElem?_getD, List.getElem?_eq_getElem hil]; rfl
    have := r2 _ (List.getElem_mem hil)
    rw [e]
    exact ⟨by omega, by omega⟩
theorem kpO_nrm {G : Wd} {x j : Nat} {a : Nat} {o : Option (List Int)} (h : kpO G (G.1 x j) a o) (hb : ∀ l, o = some l → l.length ≤ 1000 ∧ ∀ z ∈ l, 0 ≤ z ∧ z < 2000) : kpO (nrm G) ((nrm G).1 x j) a o := by
  cases o with
  | none => exact nv h ⟨by decide, by decide⟩
  | some l =>
    obtain ⟨b1, b2⟩ := hb l rfl
    exact ⟨nv h.1 ⟨by omega, by omega⟩, fun i hi => nv (h.2 i hi) (by have := b2 _ (List.getElem_mem hi); exact ⟨by omega, by omega⟩)⟩
theorem Inv_i {K : Int} {A : Ab} {i : List (List Int) × Ev} (hI : Inv K A) (ho : A.2.2.1 = some i) : i.2.1.length ≤ 1000 ∧ (flT i.2.1).length ≤ 1000 := by
  have h := Inv_restore hI
  have e : restoreA A = (setGs A.1 i.1, i.2, A.2.2) := by unfold restoreA; rw [ho]
  rw [e] at h
  have h1 := T_360 h
  have h2 := fl_360 h
  exact ⟨Nat.le_trans h1 (by decide), Nat.le_trans h2 (by decide)⟩
theorem RC_nrm {G : Wd} {s : Nat} {A : Ab} {K : Int} (h : RC G s A) (hI : Inv K A) (hK : K ≤ 1000000) : RC (nrm G) s A := by
  have h360 := T_360 hI
  have hIi := fun i (ho : A.2.2.1 = some i) => Inv_i hI ho
  obtain ⟨r1, r4, r5, r6, r7, r8, r9, r10, r11, r12, r13, r14, r15, r16⟩ := h
  obtain ⟨i1, i2, i3, i4, i5, i6, i7, i8⟩ := hI
  refine ⟨r1, ShC_nrm r4 i1, fun j hj h6 p hp1 hp2 => ?_, evC_nrm r6 i2 i1 hK (by omega), nv r7 (b2i_r _), ?_, nv r9 ⟨by omega, by omega⟩, nv r10 ⟨by omega, by omega⟩, fun j hj => nv (r11 j hj) ?_, kpO_nrm r12 (fun l hl => ⟨by have := (i7 l hl).1; omega, fun z hz => by have := (i7 l hl).2 z hz; omega⟩), kpO_nrm r13 (fun l hl => ⟨by have := (i8 l hl).1; omega, fun z hz => by have := (i8 l hl).2 z hz; omega⟩), fun j => ?_, fun j => ?_, fun j => ?_⟩
  · have hb := numB_Rc i1 hj (p := (p : Int)) (by omega)
    rcases r5 j hj h6 p hp1 hp2 with q | q
    · exact Or.inl (nv q ⟨by decide, by decide⟩)
    · exact Or.inr (nv q ⟨by omega, by omega⟩)
  · cases ho : A.2.2.1 with
    | none => trivial
    | some i =>
      rw [ho] at r8
      obtain ⟨b1, b2, b3⟩ := i3 i ho
      refine ⟨evC_nrm r8.1 b3 b2 hK (hIi i ho).1, fun j hj => lsIs_nrm (r8.2 j hj) ?_⟩
      have hj2 : j < (setGs A.1 i.1).1.length := by rw [setGs_len b1]; exact hj
      have g := (gone_ok b2 hj2).2.1
      rw [(bkJ_gs b1 hj).2] at g
      have g' : (i.1.getD j []).length ≤ 60 := g
      omega
  · have := i6 j hj; exact ⟨by omega, by omega⟩
  · have := r14 j
    have e : (nrm G).1 136 j = G.1 136 j := nv rfl ⟨by omega, by omega⟩
    rw [e]; exact this
  · have := r15 j
    have e : (nrm G).1 142 j = G.1 142 j := nv rfl ⟨by omega, by omega⟩
    rw [e]; exact this
  · have := r16 j
    have e : (nrm G).1 141 j = G.1 141 j := nv rfl ⟨by omega, by omega⟩
    rw [e]; exact this
