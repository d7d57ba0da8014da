/-! the invariant is kept: wrong, loosen, stick, add, feed, shares, least -/
theorem evI_acts {K : Int} {S : Sh} {v : Ev} (h : evI K S v) {x : Int × Int × Int} {st : List (Int × Int)} (hx : (0 ≤ x.2.1 ∧ x.2.1 ≤ 60) ∧ (x.2.1 = 0 → x.2.2 = -1) ∧ (-1 ≤ x.2.2 ∧ x.2.2 ≤ 60) ∧ (x.2.1 ≠ 0 → (0 ≤ x.1 ∧ x.1 < (S.1.length : Nat)) ∧ x.2.1 ≤ 2 * (bkJ S x.1.toNat).2.2.1)) (hst : st.length ≤ 20 ∧ ∀ q ∈ st, (0 ≤ q.1 ∧ q.1 < 6) ∧ 0 ≤ q.2 ∧ q.2 < 2000) : evI K S (v.1, x, st, v.2.2.2) := ⟨h.1, hx, hst, h.2.2.2.1, h.2.2.2.2⟩
theorem Inv_acts {K : Int} {A : Ab} {v' : Ev} (h : Inv K A) (hv : evI K A.1 v') : Inv K (A.1, v', A.2.2) := ⟨h.1, hv, h.2.2⟩
theorem Inv_wrong {K : Int} {A : Ab} (h : Inv K A) : Inv K (wrongP A).2.2 :=
  Inv_acts h (evI_acts (x := (A.2.1.2.1.1, 0, -1)) (st := A.2.1.2.2.1) h.2.1 ⟨⟨Int.le_refl _, by show (0 : Int) ≤ 60; decide⟩, fun _ => rfl, ⟨Int.le_refl _, by show (-1 : Int) ≤ 60; decide⟩, fun q => absurd rfl q⟩ h.2.1.2.2.1)
theorem Inv_loosen {K : Int} {A : Ab} (h : Inv K A) : Inv K (loosenP A).2.2 := by
  unfold loosenP
  split
  · exact h
  · exact Inv_acts h (evI_acts (x := A.2.1.2.1) (st := A.2.1.2.2.1.take (A.2.1.2.2.1.length - 1)) h.2.1 h.2.1.2.1 ⟨by have := h.2.1.2.2.1.1; rw [List.length_take]; omega, fun q hq => h.2.1.2.2.1.2 q (List.mem_of_mem_take hq)⟩)
theorem Inv_stick {K i l : Int} {A : Ab} (h : Inv K A) : Inv (K + 1) (stickP A i l).2.2 := by
  unfold stickP
  split
  · exact Inv_mono h (by omega)
  · split
    · exact Inv_ref h (by decide)
    · rename_i h1 h2
      have h1 : inB A.1 i ∧ 0 ≤ l ∧ l < (bkA A i).2.2.1 := Classical.not_not.mp h1
      have h0 := Inv_mono h (K' := K + 1) (by omega)
      have hj : i.toNat < A.1.1.length := by have := h1.1.1; have := h1.1.2; omega
      have g := gone_ok h.1 hj
      have h6 := h.1.1
      have hl : l < (bkJ A.1 i.toNat).2.2.1 := h1.2.2
      refine Inv_acts h0 (evI_acts (x := A.2.1.2.1) (st := A.2.1.2.2.1 ++ [(i, l)]) h0.2.1 h0.2.1.2.1 ⟨by rw [List.length_append, List.length_singleton]; omega, fun q hq => ?_⟩)
      rcases List.mem_append.mp hq with z | z
      · exact h.2.1.2.2.1.2 q z
      · rw [List.mem_singleton.mp z]
        have := h1.1.1; have := h1.1.2
        exact ⟨⟨by omega, by show i < 6; omega⟩, h1.2.1, by show l < 2000; omega⟩
theorem Inv_add {K i z : Int} {A : Ab} (h : Inv K A) : Inv (K + 1) (addP A i z).2.2 := by
  unfold addP
  split
  · exact Inv_mono h (by omega)
  · split
    · exact Inv_ref h (by decide)
    · rename_i h1 h2
      have h1 : inB A.1 i := Classical.not_not.mp h1
      have h0 := Inv_mono h (K' := K + 1) (by omega)
      obtain ⟨⟨i0, i1⟩, i2, i3, i4⟩ := h0.2.1.2.1
      have hb : ¬ 2 * (bkJ A.1 i.toNat).2.2.1 ≤ A.2.1.2.1.2.1 := fun q => h2 (Or.inr (Or.inl q))
      have h60 : ¬ 60 ≤ A.2.1.2.1.2.1 := fun q => h2 (Or.inl q)
      have key : ∀ r : Bool, Inv (K + 1) (addA A i r) := fun r => by
        refine Inv_acts h0 (evI_acts (x := (i, A.2.1.2.1.2.1 + 1, if r = false ∧ A.2.1.2.1.2.2 = -1 then A.2.1.2.1.2.1 else A.2.1.2.1.2.2)) (st := A.2.1.2.2.1) h0.2.1 ⟨⟨by show 0 ≤ A.2.1.2.1.2.1 + 1; omega, by show A.2.1.2.1.2.1 + 1 ≤ 60; omega⟩, fun q => ?_, ?_, fun _ => ⟨⟨h1.1, h1.2⟩, by show A.2.1.2.1.2.1 + 1 ≤ 2 * (bkJ A.1 i.toNat).2.2.1; omega⟩⟩ h0.2.1.2.2.1)
        · have q' : A.2.1.2.1.2.1 + 1 = 0 := q; omega
        · show -1 ≤ (if r = false ∧ A.2.1.2.1.2.2 = -1 then A.2.1.2.1.2.1 else A.2.1.2.1.2.2) ∧ (if r = false ∧ A.2.1.2.1.2.2 = -1 then A.2.1.2.1.2.1 else A.2.1.2.1.2.2) ≤ 60
          split <;> omega
      exact key _
theorem Inv_feed {K a b c e g : Int} {A : Ab} (h : Inv K A) : Inv K (feedP A a b c e g).2.2 := by
  unfold feedP
  split
  · exact h
  · rename_i h5
    obtain ⟨a1, a2, a3, a4, a5, a6, a7, a8⟩ := h
    refine ⟨a1, a2, a3, a4, ⟨by show 0 ≤ A.2.2.2.1.2.1 + 20; omega, by show A.2.2.2.1.2.1 + 20 ≤ 500; omega⟩, fun j hj => ?_, a7, a8⟩
    show 0 ≤ tpF A.2.2.2.1.2.2 A.2.2.2.1.2.1.toNat a b c e g j ∧ tpF A.2.2.2.1.2.2 A.2.2.2.1.2.1.toNat a b c e g j ≤ 255
    unfold tpF
    split
    · exact fdB_R _ _
    · exact a6 j hj
theorem Inv_shares {K i ch : Int} {A : Ab} (h : Inv K A) : Inv K (sharesP A i ch).2.2 := by
  unfold sharesP
  split
  · exact h
  · split
    · exact h
    · split
      · exact h
      · rename_i h1 h2 h3
        have h1 : inB A.1 i := Classical.not_not.mp h1
        have h2 : 2 ≤ ch ∧ ch ≤ 4 := Classical.not_not.mp h2
        have hj : i.toNat < A.1.1.length := by have := h1.1; have := h1.2; omega
        obtain ⟨g1, g2, g3, g4, g5⟩ := gone_ok h.1 hj
        have h3' : ¬ 10 < (bkJ A.1 i.toNat).2.2.1 - ((bkJ A.1 i.toNat).2.2.2.2.2.length : Nat) := h3
        have hlen := thL_len (g := (bkJ A.1 i.toNat).2.2.2.2.2) (n := (bkJ A.1 i.toNat).2.2.1.toNat) g1 (fun z hz => by have := g3 z hz; omega)
        have hWR := wsL_R (S := A.1) (j := i.toNat) (n := (bkJ A.1 i.toNat).2.2.1.toNat) h.1 hj (by omega)
        have hm10 : (wsL A.1 i.toNat (bkJ A.1 i.toNat).2.2.1.toNat).length ≤ 10 := by rw [wsL_len]; omega
        have hok := bestS_ok (ch := ch.toNat) hWR hm10 (by omega)
        obtain ⟨a1, a2, a3, a4, a5, a6, a7, a8⟩ := h
        refine ⟨a1, a2, a3, a4, a5, a6, fun l hl => ?_, a8⟩
        have hl2 : some ((bestS (wsL A.1 i.toNat (bkJ A.1 i.toNat).2.2.1.toNat) ch.toNat).2.map (fun c : Nat => (c : Int))) = some l := hl
        cases hl2
        refine ⟨by rw [List.length_map, hok.1]; exact hm10, fun z hz => ?_⟩
        obtain ⟨c, hc, e⟩ := List.mem_map.mp hz
        have := hok.2.1 c hc
        omega
theorem Inv_least {K i s : Int} {A : Ab} (h : Inv K A) : Inv K (leastP A i s).2.2 := by
  unfold leastP
  split
  · exact h
  · split
    · exact h
    · split
      · exact h
      · rename_i h1 h2 h3
        have h1 : inB A.1 i := Classical.not_not.mp h1
        have hj : i.toNat < A.1.1.length := by have := h1.1; have := h1.2; omega
        obtain ⟨g1, g2, g3, g4, g5⟩ := gone_ok h.1 hj
        split
        · rename_i l hl
          obtain ⟨a1, a2, a3, a4, a5, a6, a7, a8⟩ := h
          have hll := leastS_len 5 0 l hl
          refine ⟨a1, a2, a3, a4, a5, a6, a7, fun l2 hl2 => ?_⟩
          have hl3 : some (lstL A.1 i.toNat l) = some l2 := hl2
          cases hl3
          refine ⟨by unfold lstL; rw [List.length_map]; omega, fun z hz => ?_⟩
          obtain ⟨x, hx, e⟩ := List.mem_map.mp hz
          have hxl := hll.2 x hx
          rw [wsL_len] at hxl
          rw [List.getD_eq_getElem?_getD, List.getElem?_eq_getElem hxl] at e
          have hm := thL_mem _ _ (List.getElem_mem hxl)
          have e' : (thL (bkJ A.1 i.toNat).2.2.2.2.2 (bkJ A.1 i.toNat).2.2.1.toNat)[x]'hxl = z := e
          rw [e'] at hm
          omega
        · exact h
