/-! TornLeaves: shares, child -/
/-- the leaves there below n, rising; what they are worth -/
def thL (g : List Int) : Nat → List Int
  | 0 => []
  | n + 1 => thL g n ++ if (n : Int) ∈ g then [] else [(n : Int)]
theorem thL_mem {g : List Int} : ∀ (n : Nat) (z : Int), z ∈ thL g n → z ∉ g ∧ 0 ≤ z ∧ z < n := by
  intro n
  induction n with
  | zero => intro z h; cases h
  | succ n ih =>
    intro z h
    rw [thL] at h
    rcases List.mem_append.mp h with q | q
    · have := ih z q; exact ⟨this.1, this.2.1, by omega⟩
    · split at q
      · cases q
      · rename_i c; rw [List.mem_singleton] at q; subst q; exact ⟨c, by omega, by omega⟩
theorem thL_gl (g : List Int) : ∀ n, (thL g n).length + (glL g n).length = n := by
  intro n
  induction n with
  | zero => rfl
  | succ n ih =>
    rw [thL, glL, List.length_append, List.length_append]
    split <;> simp <;> omega
theorem thL_len {g : List Int} {n : Nat} (hn : g.Nodup) (hr : ∀ z ∈ g, 0 ≤ z ∧ z < (n : Int)) : (thL g n).length + g.length = n := by
  have h1 := thL_gl g n
  have h2 := glL_len (g := g) n
  have h3 : g.length ≤ (glL g n).length := nodup_le hn (fun x hx => (glL_mem n x).mpr ⟨hx, (hr x hx).1, (hr x hx).2⟩)
  omega
def wsL (S : Sh) (j n : Nat) : List Int := (thL (bkJ S j).2.2.2.2.2 n).map (fun z => lfB (cdS S) (bkJ S j) z)
theorem wsL_R {S : Sh} {j n : Nat} (hO : okSh 500 S) (hj : j < S.1.length) (hn : (n : Int) ≤ (bkJ S j).2.2.1) : ∀ z ∈ wsL S j n, 0 ≤ z ∧ z ≤ 199998 := fun z hz => by
  obtain ⟨y, hy, e⟩ := List.mem_map.mp hz
  have h1 := thL_mem n y hy
  have hok := hO.2.1 _ (List.getElem_mem hj)
  rw [← bkJ_in hj] at hok
  rw [← e]
  exact lfB_R hok ⟨h1.2.1, by omega⟩
def lw (L : List Int) (j : Nat) : Int := L.getD j 0
theorem allL_c {w w' : Nat → Int} {ch : Nat} : ∀ (r p : Nat) (h : Nat → Int) (pre : List Nat), (∀ j, p ≤ j → j < p + r → w j = w' j) → allL w ch r p h pre = allL w' ch r p h pre := by
  intro r
  induction r with
  | zero => intro p h pre _; rfl
  | succ r ih =>
    intro p h pre hh
    rw [allL, allL, hh p (by omega) (by omega)]
    congr 1
    funext c
    exact ih (p + 1) _ _ (fun j a b => hh j (by omega) (by omega))
theorem allL_rows {w : Nat → Int} {ch : Nat} (hw : ∀ j, 0 ≤ w j) (hch : 1 ≤ ch) : ∀ (r p : Nat) (h : Nat → Int) (pre : List Nat), (∀ j, 0 ≤ h j) → (∀ c ∈ pre, c < ch) → allL w ch r p h pre ≠ [] ∧ ∀ q ∈ allL w ch r p h pre, q.2.length = pre.length + r ∧ (∀ c ∈ q.2, c < ch) ∧ q.1 ≤ smH h ch + smW w p r := by
  intro r
  induction r with
  | zero =>
    intro p h pre hh hp
    refine ⟨by simp [allL], fun q hq => ?_⟩
    have hq := List.mem_singleton.mp hq
    rw [hq]
    refine ⟨rfl, hp, ?_⟩
    obtain ⟨a1, i, hi, a2⟩ := mxH_is h (ch - 1)
    obtain ⟨b1, k, hk, b2⟩ := mnH_is h (ch - 1)
    have h3 := smH_but (h := h) (m := 0) (c := i) (n := ch) (by omega) (fun j _ => hh j)
    have := hh k
    rw [smW]
    show mxH h (ch - 1) - mnH h (ch - 1) ≤ _
    omega
  | succ r ih =>
    intro p h pre hh hp
    have hup : ∀ c, ∀ j, 0 ≤ upd1 h c (h c + w p) j := fun c j => by unfold upd1; have := hw p; have := hh j; have := hh c; split <;> omega
    have hpp : ∀ c, c < ch → ∀ y ∈ pre ++ [c], y < ch := fun c hc y hy => by
      rcases List.mem_append.mp hy with q | q
      · exact hp y q
      · rw [List.mem_singleton.mp q]; exact hc
    refine ⟨?_, fun q hq => ?_⟩
    · rw [allL]
      intro e
      have h0 := (ih (p + 1) (upd1 h 0 (h 0 + w p)) (pre ++ [0]) (hup 0) (hpp 0 (by omega))).1
      obtain ⟨q, hq⟩ := List.exists_mem_of_ne_nil _ h0
      have : q ∈ (List.range ch).flatMap (fun c => allL w ch r (p + 1) (upd1 h c (h c + w p)) (pre ++ [c])) := List.mem_flatMap.mpr ⟨0, List.mem_range.mpr (by omega), hq⟩
      rw [e] at this
      cases this
    · rw [allL] at hq
      obtain ⟨c, hcm, hq2⟩ := List.mem_flatMap.mp hq
      have hcl := List.mem_range.mp hcm
      obtain ⟨h1, h2, h3⟩ := (ih (p + 1) _ _ (hup c) (hpp c hcl)).2 q hq2
      rw [smH_upd, if_pos hcl] at h3
      refine ⟨by rw [h1, List.length_append]; simp; omega, h2, ?_⟩
      rw [smW]; omega
theorem keep_in : ∀ (l : List SB) (b : SB), l.foldl keepB b = b ∨ l.foldl keepB b ∈ l := by
  intro l
  induction l with
  | nil => intro b; exact Or.inl rfl
  | cons a r ih =>
    intro b
    rw [List.foldl_cons]
    rcases ih (keepB b a) with h | h
    · rw [h]; unfold keepB; split
      · exact Or.inr List.mem_cons_self
      · exact Or.inl rfl
    · exact Or.inr (List.mem_cons_of_mem _ h)
/-- the best shares: the spread, the row -/
def bestS (W : List Int) (ch : Nat) : SB := (allL (lw W) ch W.length 0 (fun _ => 0) []).foldl keepB (1000000000, [])
theorem lw_nn {W : List Int} (h : ∀ z ∈ W, 0 ≤ z ∧ z ≤ 199998) (j : Nat) : 0 ≤ lw W j ∧ lw W j ≤ 199998 := by
  unfold lw
  rcases Nat.lt_or_ge j W.length with c | c
  · rw [List.getD_eq_getElem?_getD, List.getElem?_eq_getElem c]; exact h _ (List.getElem_mem c)
  · rw [List.getD_eq_getElem?_getD, List.getElem?_eq_none c]; decide
theorem smW_R {w : Nat → Int} (h : ∀ j, 0 ≤ w j ∧ w j ≤ 199998) : ∀ r p, 0 ≤ smW w p r ∧ smW w p r ≤ 199998 * (r : Int) := by
  intro r
  induction r with
  | zero => intro p; exact ⟨Int.le_refl _, Int.le_refl _⟩
  | succ r ih => intro p; have := ih (p + 1); have := h p; rw [smW]; omega
theorem smH_0 : ∀ n, smH (fun _ => 0) n = 0 := by
  intro n
  induction n with
  | zero => rfl
  | succ n ih => rw [smH, ih]; rfl
theorem bestS_ok {W : List Int} {ch : Nat} (hW : ∀ z ∈ W, 0 ≤ z ∧ z ≤ 199998) (hl : W.length ≤ 10) (hch : 1 ≤ ch) : (bestS W ch).2.length = W.length ∧ (∀ c ∈ (bestS W ch).2, c < ch) ∧ (bestS W ch).1 ≤ 1000000000 := by
  have hw := lw_nn hW
  obtain ⟨h1, h2⟩ := allL_rows (w := lw W) (fun j => (hw j).1) hch W.length 0 (fun _ => 0) [] (fun _ => Int.le_refl _) (fun c hc => by cases hc)
  have hs := smW_R hw W.length 0
  obtain ⟨q, hq⟩ := List.exists_mem_of_ne_nil _ h1
  have h3 := (h2 q hq).2.2
  rw [smH_0] at h3
  obtain ⟨k1, k2⟩ := keep_le (allL (lw W) ch W.length 0 (fun _ => 0) []) (1000000000, [])
  have k3 := k2 q hq
  have hin : bestS W ch ∈ allL (lw W) ch W.length 0 (fun _ => 0) [] := by
    rcases keep_in (allL (lw W) ch W.length 0 (fun _ => 0) []) (1000000000, []) with e | e
    · rw [e] at k3
      have k3' : (1000000000 : Int) ≤ q.1 := k3
      omega
    · exact e
  obtain ⟨a1, a2, a3⟩ := h2 _ hin
  exact ⟨by simpa using a1, a2, k1⟩
theorem share_best {w : Nat → Int} {W : List Int} {ch : Nat} {total : Int} (hw : ∀ j, 0 ≤ w j) (hch : 2 ≤ ch) (hW : ∀ j (h : j < W.length), w j = W[j]'h) (ht : total = smW w 0 W.length) : shareS w ch W.length total = bestS W ch := by
  unfold shareS bestS
  rw [deal_all hw hch W.length 0 (fun _ => 0) 0 [] (1000000000, []) (fun _ => Int.le_refl _) (fun _ _ => rfl) (by rw [smH_0, Int.zero_add]; exact ht)]
  rw [allL_c (w' := lw W) W.length 0 _ _ (fun j _ hj => by unfold lw; rw [hW j (by omega), List.getD_eq_getElem?_getD, List.getElem?_eq_getElem (by omega)]; rfl)]
theorem smW_app {w : Nat → Int} : ∀ (r p : Nat), smW w p (r + 1) = smW w p r + w (p + r) := by
  intro r
  induction r with
  | zero => intro p; rw [smW, smW, smW]; simp
  | succ r ih => intro p; rw [smW, ih (p + 1), smW, show p + 1 + r = p + (r + 1) by omega]; omega
theorem smW_c {w w' : Nat → Int} : ∀ (r p : Nat), (∀ j, p ≤ j → j < p + r → w j = w' j) → smW w p r = smW w' p r := by
  intro r
  induction r with
  | zero => intro p _; rfl
  | succ r ih => intro p h; rw [smW, smW, h p (by omega) (by omega), ih (p + 1) (fun j a b => h j (by omega) (by omega))]
theorem RC_k {G G' : Wd} {s : Nat} {A : Ab} {o1 o2 : Option (List Int)} (h : RC G s A) (hO : okSh 500 A.1) (f2 : G'.2.2 = G.2.2) (f : ∀ x j, x < 145 → ¬ sc s x j → ¬ (x = 135 ∧ j = 8) → x ≠ 139 → ¬ (x = 140 ∧ j = 5) → x ≠ 144 → G'.1 x j = G.1 x j) (hc : cacheC G' A.1) (h6 : ∀ j, 0 ≤ G'.1 136 j ∧ G'.1 136 j ≤ 1000000) (h2 : ∀ j, 0 ≤ G'.1 142 j ∧ G'.1 142 j ≤ 1000000) (h1 : ∀ j, 0 ≤ G'.1 141 j ∧ G'.1 141 j ≤ 1000000) (hk1 : kpO G' (G'.1 135 8) 139 o1) (hk2 : kpO G' (G'.1 140 5) 144 o2) : RC G' s (A.1, A.2.1, A.2.2.1, A.2.2.2.1, o1, o2) := by
  obtain ⟨⟨r1, r2, r3⟩, r4, r5, r6, r7, r8, r9, r10, r11, r12, r13, r14, r15, r16⟩ := h
  have hs : s = 8 ∨ s = 61 := r3
  have fx : ∀ x, x < 135 → (∀ j, ¬ sc s x j) → G'.1 x = G.1 x := fun x a b => by funext j; exact f x j (by omega) (b j) (by omega) (by omega) (by omega) (by omega)
  have fj : ∀ x j, x < 135 → ¬ sc s x j → G'.1 x j = G.1 x j := fun x j a b => f x j (by omega) b (by omega) (by omega) (by omega) (by omega)
  exact ⟨⟨by rw [f2]; exact r1, by rw [f2]; exact r2, r3⟩, ShC_N r3 r4 hO.2.2.1 hO.1 (fun x j a b c d => fj x j (by omega) (by unfold sc; omega)), hc, evC_c r6 (fun x a b => fx x (by omega) (fun j => by unfold sc; omega)), by rw [fj _ _ (by omega) (by unfold sc; omega)]; exact r7, imC_c r8 hO.1 (fun x a b => fx x (by omega) (fun j => by unfold sc; omega)) (fun x a b => fx x (by omega) (fun j => by unfold sc; omega)), by rw [fj _ _ (by omega) (by unfold sc; omega)]; exact r9, by rw [fj _ _ (by omega) (by unfold sc; omega)]; exact r10, fun j hj => by rw [fj _ _ (by omega) (by unfold sc; omega)]; exact r11 j hj, hk1, hk2, h6, h2, h1⟩
theorem rowIs_kp {f : Nat → Int} {l : List Nat} (h : rowIs f 0 l) : ∀ i (hi : i < (l.map (fun c : Nat => (c : Int))).length), f i = (l.map (fun c : Nat => (c : Int)))[i]'hi := fun i hi => by
  have hi2 : i < l.length := by simpa using hi
  have := rowIs_at h i hi2
  rw [Nat.zero_add] at this
  rw [this, List.getElem_map]
def sharesA (A : Ab) (l : List Int) : Ab := (A.1, A.2.1, A.2.2.1, A.2.2.2.1, some l, A.2.2.2.2.2)
def sharesP (A : Ab) (i ch : Int) : Int × Int × Ab := if ¬ inB A.1 i then (1, 0, A) else if ¬ (2 ≤ ch ∧ ch ≤ 4) then (2, 0, A) else if 10 < (bkA A i).2.2.1 - ((bkA A i).2.2.2.2.2.length : Nat) then (0, -2, A) else (0, (bestS (wsL A.1 i.toNat (bkA A i).2.2.1.toNat) ch.toNat).1, sharesA A ((bestS (wsL A.1 i.toNat (bkA A i).2.2.1.toNat) ch.toNat).2.map (fun c : Nat => (c : Int))))
