/-! NUMBERS MADE SMALL: the model's side; frames between the two sides -/
theorem sm_R {z : Int} (h : -13 ≤ z ∧ z ≤ 9999) : R32 (sm z) := by
  unfold sm
  (repeat' split) <;> exact ⟨by omega, by omega⟩
theorem mS0_nrm {G : Wd} {S : Sh} (h : mS0 G S) (hO : okSh 500 S) : mS0 (nrm G) S := by
  obtain ⟨h1, h2, h3, h4, h5, h6⟩ := h
  obtain ⟨o1, o2, o3, o4, o5, o6, o7, o8⟩ := hO
  refine ⟨nv h1 ⟨by omega, by omega⟩, fun j hj => ?_, nv h3 ⟨by omega, by omega⟩, fun j hj => ?_, fun j hj => nv (h5 j hj) ?_, fun j hj => nv (h6 j hj) (sm_R (o8 _ (List.getElem_mem hj)))⟩
  · obtain ⟨b1, b2, b3, b4, b5, b6⟩ := h2 j hj
    obtain ⟨k1, k2, k3, k4, k5, k6, k7, k8, k9⟩ := o2 _ (List.getElem_mem hj)
    exact ⟨nv b1 ⟨by omega, by omega⟩, nv b2 ⟨by omega, by omega⟩, nv b3 ⟨by omega, by omega⟩, fun q => ⟨nv (b4 q).1 ⟨by omega, by omega⟩, nv (b4 q).2 ⟨by omega, by omega⟩⟩, nv b5 ⟨by omega, by omega⟩, fun k hk => nv (b6 k hk) (by have := k9 _ (List.getElem_mem hk); exact ⟨by omega, by omega⟩)⟩
  · obtain ⟨b1, b2, b3⟩ := h4 j hj
    obtain ⟨k1, k2, k3, k4⟩ := o4 _ (List.getElem_mem hj)
    exact ⟨nv b1 ⟨by omega, by omega⟩, nv b2 ⟨by omega, by omega⟩, fun k hk => nv (b3 k hk) (by have := k4 _ (List.getElem_mem hk); exact ⟨by omega, by omega⟩)⟩
  · have := o6 _ (List.getElem_mem hj); exact ⟨by omega, by omega⟩
theorem evM_nrm {G : Wd} {m : Mc} {v : Ev} {K : Int} {S S' : Sh} (h : evM G m S v) (hv : evI K S' v) (hO : okSh 500 S') (hK : K ≤ 1000000) (hT : v.1.length ≤ 1000 ∧ (flT v.1).length ≤ 1000) : evM (nrm G) m S v := by
  obtain ⟨h1, h2, h3, h4, h5, h6, h7, h8⟩ := h
  obtain ⟨hb, -⟩ := tn_b hv hO
  have hb6 := hO.1
  obtain ⟨-, ⟨m1, m2, m3, m4⟩, ⟨s1, s2⟩, r1, r2⟩ := hv
  refine ⟨nv h1 ⟨by omega, by omega⟩, fun i hi => ?_, nv h3 ⟨by omega, by omega⟩, nv h4 ⟨by omega, by omega⟩, fun q => ⟨nv (h5 q).1 ⟨by have := (m4 q).1; omega, by have := (m4 q).1; omega⟩, nv (h5 q).2.1 ⟨by omega, by omega⟩, (h5 q).2.2⟩, nv h6 ⟨by omega, by omega⟩, fun i hi => ?_, fun i hi => nv (h8 i hi) ?_⟩
  · obtain ⟨a, b⟩ := hb _ (List.getElem_mem hi)
    obtain ⟨x, y, z⟩ := h2 i hi
    exact ⟨nv x a, nv y b, nv z (b2i_r _)⟩
  · obtain ⟨a, b⟩ := s2 _ (List.getElem_mem hi)
    obtain ⟨x, y⟩ := h7 i hi
    exact ⟨nv x ⟨by omega, by omega⟩, nv y ⟨by omega, by omega⟩⟩
  · have hil : i < v.2.2.2.length := by omega
    have e : v.2.2.2.getD i 0 = v.2.2.2[i]'hil := by rw [List.getD_eq_getElem?_getD, List.getElem?_eq_getElem hil]; rfl
    have := r2 _ (List.getElem_mem hil)
    rw [e]
    exact ⟨by omega, by omega⟩
theorem RM_nrm {G : Wd} {A : Ab} {K : Int} (h : RM G A) (hI : Inv K A) (hK : K ≤ 1000000) : RM (nrm G) A := by
  have h360 := T_360 hI
  have hf360 := fl_360 hI
  have hIi := fun i (ho : A.2.2.1 = some i) => Inv_i hI ho
  obtain ⟨r1, r2, r3, r4, r5, r6, r7, r8, r9⟩ := h
  obtain ⟨i1, i2, i3, i4, i5, i6, i7, i8⟩ := hI
  refine ⟨mS0_nrm r1 i1, evM_nrm r2 i2 i1 hK ⟨by omega, by omega⟩, nv r3 (b2i_r _), ?_, nv r5 ⟨by omega, by omega⟩, nv r6 ⟨by omega, by omega⟩, fun j hj => nv (r7 j hj) ?_, kpO_nrm r8 (fun l hl => ⟨by have := (i7 l hl).1; omega, fun z hz => by have := (i7 l hl).2 z hz; omega⟩), kpO_nrm r9 (fun l hl => ⟨by have := (i8 l hl).1; omega, fun z hz => by have := (i8 l hl).2 z hz; omega⟩)⟩
  · cases ho : A.2.2.1 with
    | none => trivial
    | some i =>
      rw [ho] at r4
      obtain ⟨b1, b2, b3⟩ := i3 i ho
      refine ⟨evM_nrm r4.1 b3 b2 hK (hIi i ho), fun j hj => ?_⟩
      have hj2 : j < (setGs A.1 i.1).1.length := by rw [setGs_len b1]; exact hj
      have g := gone_ok b2 hj2
      rw [(bkJ_gs b1 hj).2] at g
      have g1 : (i.1.getD j []).length ≤ 60 := g.2.1
      have g2 : ∀ z ∈ i.1.getD j [], 0 ≤ z ∧ z < (bkJ A.1 j).2.2.1 := g.2.2.1
      have g3 : (bkJ A.1 j).2.2.1 ≤ 2000 := g.2.2.2.2
      exact ⟨nv (r4.2 j hj).1 ⟨by omega, by omega⟩, fun k hk => nv ((r4.2 j hj).2 k hk) (by have := g2 _ (List.getElem_mem hk); exact ⟨by omega, by omega⟩)⟩
  · have := i6 j hj; exact ⟨by omega, by omega⟩
/-- the model's state is the same after the class's call -/
theorem RM_W {G G' : Wd} {A : Ab} (h : RM G A) (f : FrW G G') : RM G' A := by
  obtain ⟨r1, r2, r3, r4, r5, r6, r7, r8, r9⟩ := h
  have fi : ∀ x, 145 ≤ x → G'.1 x = G.1 x := f.1
  have fl : G'.2.1 145 = G.2.1 145 := f.2 145 (by omega) (by omega)
  refine ⟨mS0_c r1 (fun x a b => fi x (by omega)), evM_c r2 (Or.inl rfl) (fun j hj => by rw [fi 145 (by omega)]) (fun j _ => by rw [fl]) (fun x hx => fi x (by omega)), by rw [fi 145 (by omega)]; exact r3, imM_c r4 (fun j hj => by rw [fi 145 (by omega)]) (by rw [fl]) (fun x hx => fi x (by omega)), by rw [fi 145 (by omega)]; exact r5, by rw [fi 145 (by omega)]; exact r6, fun j hj => by rw [fi 162 (by omega)]; exact r7 j hj, ?_, ?_⟩
  · rw [fi 145 (by omega)]; exact kpO_c r8 (fi 176 (by omega))
  · rw [fi 145 (by omega)]; exact kpO_c r9 (fi 178 (by omega))
/-- the class's state is the same after the model's call -/
theorem RC_M {G G' : Wd} {s : Nat} {A : Ab} {K : Int} (h : RC G s A) (hI : Inv K A) (f : FrM G G') : RC G' s A := by
  have e : ∀ x, x < 145 → G'.1 x = G.1 x := f.1
  exact RC_c h hI.1.1 hI.1.2.2.1 f.2.2 (fun x j a _ => by rw [e x a]) (cacheC_c h.2.2.1 (e 128 (by omega))) (fun j => by rw [e 136 (by omega)]; exact h.2.2.2.2.2.2.2.2.2.2.2.1 j) (fun j => by rw [e 142 (by omega)]; exact h.2.2.2.2.2.2.2.2.2.2.2.2.1 j) (fun j => by rw [e 141 (by omega)]; exact h.2.2.2.2.2.2.2.2.2.2.2.2.2 j)
