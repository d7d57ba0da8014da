/-! the invariant is kept: put -/
theorem bkPut_mem {g : List Int} {t : Tn} (hn : g.Nodup) (h1 : t.2.1 ∈ g) (h2 : t.2.2 ≠ -1 → t.2.2 ∈ g ∧ t.2.2 ≠ t.2.1) : (bkPut g t).Nodup ∧ (bkPut g t).length ≤ g.length ∧ ∀ x, x ∈ bkPut g t ↔ x ∈ g ∧ x ≠ t.2.1 ∧ (t.2.2 ≠ -1 → x ≠ t.2.2) := by
  unfold bkPut
  by_cases c : t.2.2 = -1
  · rw [if_pos c]
    exact ⟨rmS_nd hn h1, by rw [rmS_len]; omega, fun x => by rw [rmS_mem hn h1]; exact ⟨fun q => ⟨q.1, q.2, fun z => absurd c z⟩, fun q => ⟨q.1, q.2.1⟩⟩⟩
  · rw [if_neg c]
    obtain ⟨a, b⟩ := h2 c
    have h3 : t.2.1 ∈ rmS g t.2.2 := (rmS_mem hn a _).mpr ⟨h1, fun q => b q.symm⟩
    have hn2 := rmS_nd hn a
    exact ⟨rmS_nd hn2 h3, by rw [rmS_len, rmS_len]; omega, fun x => by rw [rmS_mem hn2 h3, rmS_mem hn a]; exact ⟨fun q => ⟨q.1.1, q.2, fun _ => q.1.2⟩, fun q => ⟨⟨q.1, q.2.2 c⟩, q.2.1⟩⟩⟩
theorem Inv_put {K : Int} {A : Ab} (h : Inv K A) : Inv K (putP A).2.2 := by
  unfold putP
  split
  · exact h
  · rename_i hn
    obtain ⟨⟨t1, t2⟩, t3, t4, t5⟩ := lastT_ok h hn
    have happ := lastT_app hn
    obtain ⟨j, hj0⟩ : ∃ j : Nat, j = (lastT A).1.toNat := ⟨_, rfl⟩
    have hjI : (lastT A).1 = (j : Int) := by omega
    have hj : j < A.1.1.length := by omega
    rw [← hj0] at t3 t5
    obtain ⟨g1, g2, g3, g4, g5⟩ := gone_ok h.1 hj
    obtain ⟨p1, p2, p3⟩ := bkPut_mem (t := lastT A) g1 t3 t5
    obtain ⟨n1, n2, n3⟩ := h.2.1.1
    show Inv K (putA A)
    unfold putA
    rw [← hj0]
    have hmemT : ∀ t ∈ A.2.1.1.take (A.2.1.1.length - 1), t ∈ A.2.1.1 := fun t ht => List.mem_of_mem_take ht
    obtain ⟨T0, hT0⟩ : ∃ T0, T0 = A.2.1.1.take (A.2.1.1.length - 1) := ⟨_, rfl⟩
    rw [← hT0] at happ hmemT ⊢
    have hfl : flT A.2.1.1 = flT T0 ++ flT [lastT A] := by rw [← flT_app, ← happ]
    rw [hfl, List.map_append] at n1
    obtain ⟨d1, d2, d3⟩ := List.nodup_append.mp n1
    have hl1 : ((lastT A).1, (lastT A).2.1, false) ∈ flT [lastT A] := (flT_mem (T := [lastT A]) (List.mem_singleton.mpr rfl)).1
    have hl2 : (lastT A).2.2 ≠ -1 → ((lastT A).1, (lastT A).2.2, true) ∈ flT [lastT A] := (flT_mem (T := [lastT A]) (List.mem_singleton.mpr rfl)).2
    refine Inv_go h hj p1 (by omega) (fun z hz => g3 z ((p3 z).mp hz).1) ⟨d1, fun t ht => ?_, fun t ht => n3 t (hmemT t ht)⟩
    obtain ⟨b1, b2, b3⟩ := n2 t (by rw [hfl]; exact List.mem_append_left _ ht)
    refine ⟨b1, by rw [setGo_len]; exact b2, ?_⟩
    rw [bkJ_go (by omega)]
    by_cases c : j = t.1.toNat
    · rw [if_pos c]
      show t.2.1 ∈ bkPut (bkJ A.1 j).2.2.2.2.2 (lastT A)
      have hm : (t.1, t.2.1) ∈ (flT T0).map (fun t => (t.1, t.2.1)) := List.mem_map.mpr ⟨t, ht, rfl⟩
      have ht1 : t.1 = (lastT A).1 := by omega
      refine (p3 _).mpr ⟨by rw [c]; exact b3, fun q => ?_, fun q1 q => ?_⟩
      · exact d3 _ hm _ (List.mem_map.mpr ⟨_, hl1, rfl⟩) (by show (t.1, t.2.1) = ((lastT A).1, (lastT A).2.1); rw [ht1, q])
      · exact d3 _ hm _ (List.mem_map.mpr ⟨_, hl2 q1, rfl⟩) (by show (t.1, t.2.1) = ((lastT A).1, (lastT A).2.2); rw [ht1, q])
    · rw [if_neg c]; exact b3
