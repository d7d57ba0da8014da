/-! TornLeaves: what a call leaves; books, leaves, pages asked for -/
/-- the model's cells are as they were -/
def FrC (G G' : Wd) : Prop := (∀ x, 145 ≤ x → G'.1 x = G.1 x) ∧ ∀ x, 145 ≤ x → G'.2.1 x = G.2.1 x
theorem FrC.refl (G : Wd) : FrC G G := ⟨fun _ _ => rfl, fun _ _ => rfl⟩
theorem FrC.trans {G G' G'' : Wd} (h : FrC G G') (h' : FrC G' G'') : FrC G G'' := ⟨fun x a => (h'.1 x a).trans (h.1 x a), fun x a => (h'.2 x a).trans (h.2 x a)⟩
theorem FrC.n {s : Nat} {G G' : Wd} (hS : SHa s) (h : ScN s G G') : FrC G G' := ⟨fun x a => by
  have : s + 6 < 145 := by rcases hS with rfl | rfl <;> decide
  funext j; exact h.2 x j (by omega) (by omega) (by omega), fun x _ => by rw [h.1]⟩
/-- the class's cells are as they were -/
def FrM (G G' : Wd) : Prop := (∀ x, x < 145 → G'.1 x = G.1 x) ∧ (∀ x, x < 145 ∨ x = 189 → G'.2.1 x = G.2.1 x) ∧ G'.2.2 = G.2.2
theorem FrM.refl (G : Wd) : FrM G G := ⟨fun _ _ => rfl, fun _ _ => rfl, rfl⟩
theorem FrM.trans {G G' G'' : Wd} (h : FrM G G') (h' : FrM G' G'') : FrM G G'' := ⟨fun x a => (h'.1 x a).trans (h.1 x a), fun x a => (h'.2.1 x a).trans (h.2.1 x a), h'.2.2.trans h.2.2⟩
theorem kpO_c {G G' : Wd} {m : Int} {a : Nat} {o : Option (List Int)} (h : kpO G m a o) (e : G'.1 a = G.1 a) : kpO G' m a o := by
  cases o with
  | none => exact h
  | some l => exact ⟨h.1, fun i hi => by rw [e]; exact h.2 i hi⟩
theorem evC_c {G G' : Wd} {e : Nat} {v : Ev} (h : evC G e v) (f : ∀ x, e ≤ x → x ≤ e + 6 → G'.1 x = G.1 x) : evC G' e v := by
  obtain ⟨h1, h2, h3, h4, h5, h6, h7, h8⟩ := h
  have f0 := f e (by omega) (by omega)
  have f1 := f (e + 1) (by omega) (by omega)
  have f2 := f (e + 2) (by omega) (by omega)
  have f3 := f (e + 3) (by omega) (by omega)
  have f4 := f (e + 4) (by omega) (by omega)
  have f5 := f (e + 5) (by omega) (by omega)
  have f6 := f (e + 6) (by omega) (by omega)
  exact ⟨by rw [f0]; exact h1, fun i hi => by rw [f1, f2, f3]; exact h2 i hi, by rw [f0]; exact h3, by rw [f0]; exact h4, fun q => by rw [f0]; exact h5 q, by rw [f0]; exact h6, fun i hi => by rw [f4, f5]; exact h7 i hi, fun i hi => by rw [f6]; exact h8 i hi⟩
theorem imC_c {G G' : Wd} {s : Nat} {S : Sh} {o : Option (List (List Int) × Ev)} (h : imC G s S o) (hb : S.1.length ≤ 6) (f : ∀ x, 121 ≤ x → x ≤ 127 → G'.1 x = G.1 x) (f2 : ∀ x, s + 10 ≤ x → x ≤ s + 36 → G'.1 x = G.1 x) : imC G' s S o := by
  cases o with
  | none => trivial
  | some i =>
    refine ⟨evC_c h.1 (fun x a b => f x a (by omega)), fun j hj => ?_⟩
    exact lsIs_congr (h.2 j hj) (by rw [f2 _ (by omega) (by omega)]) (f2 _ (by omega) (by omega))
/-- cells of the class that say nothing: the rule's stack, kept numbers, havers, fits, the reader, shares and choice under way -/
def sc (s x j : Nat) : Prop := x = s + 6 ∨ (x = s ∧ j = 10) ∨ x = 128 ∨ x = 129 ∨ x = 130 ∨ (3 ≤ x ∧ x ≤ 7) ∨ (x = 135 ∧ j ≠ 8) ∨ x = 136 ∨ x = 137 ∨ x = 138 ∨ (x = 140 ∧ j ≠ 5) ∨ x = 141 ∨ x = 142 ∨ x = 143
theorem RC_c {G G' : Wd} {s : Nat} {A : Ab} (h : RC G s A) (hb : A.1.1.length ≤ 6) (hc8 : A.1.2.1.length ≤ 8) (f2 : G'.2.2 = G.2.2) (f : ∀ x j, x < 145 → ¬ sc s x j → G'.1 x j = G.1 x j) (hc : cacheC G' A.1) (h6 : ∀ j, 0 ≤ G'.1 136 j ∧ G'.1 136 j ≤ 1000000) (h2 : ∀ j, 0 ≤ G'.1 142 j ∧ G'.1 142 j ≤ 1000000) (h1 : ∀ j, 0 ≤ G'.1 141 j ∧ G'.1 141 j ≤ 1000000) : RC G' s A := by
  obtain ⟨⟨r1, r2, r3⟩, r4, r5, r6, r7, r8, r9, r10, r11, r12, r13, r14, r15, r16⟩ := h
  have hs : s = 8 ∨ s = 61 := r3
  have hs52 : s + 52 < 114 ∧ 8 ≤ s := by omega
  have fx : ∀ x, x < 145 → (∀ j, ¬ sc s x j) → G'.1 x = G.1 x := fun x a b => by funext j; exact f x j a (b j)
  refine ⟨⟨by rw [f2]; exact r1, by rw [f2]; exact r2, r3⟩, ShC_N r3 r4 hc8 hb (fun x j a b c d => f x j (by omega) (by unfold sc; omega)), hc, evC_c r6 (fun x a b => fx x (by omega) (fun j => by unfold sc; omega)), by rw [f _ _ (by omega) (by unfold sc; omega)]; exact r7, imC_c r8 hb (fun x a b => fx x (by omega) (fun j => by unfold sc; omega)) (fun x a b => fx x (by omega) (fun j => by unfold sc; omega)), by rw [f _ _ (by omega) (by unfold sc; omega)]; exact r9, by rw [f _ _ (by omega) (by unfold sc; omega)]; exact r10, fun j hj => by rw [f _ _ (by omega) (by unfold sc; omega)]; exact r11 j hj, ?_, ?_, h6, h2, h1⟩
  · rw [f 135 8 (by omega) (by unfold sc; omega)]
    exact kpO_c r12 (fx _ (by omega) (fun j => by unfold sc; omega))
  · rw [f 140 5 (by omega) (by unfold sc; omega)]
    exact kpO_c r13 (fx _ (by omega) (fun j => by unfold sc; omega))
theorem RC_n {G G' : Wd} {s : Nat} {A : Ab} (h : RC G s A) (hO : okSh 500 A.1) (f : ScN s G G') (hN : NC G' s A.1) : RC G' s A := by
  have hs : s = 8 ∨ s = 61 := h.1.2.2
  refine RC_c h hO.1 hO.2.2.1 (by rw [f.1]) (fun x j a b => f.2 x j (by unfold sc at b; omega) (by unfold sc at b; omega) (by unfold sc at b; omega)) hN.2.2.2.2.2 ?_ ?_ ?_
  · intro j; rw [f.2 _ _ (by omega) (by omega) (by omega)]; exact h.2.2.2.2.2.2.2.2.2.2.2.1 j
  · intro j; rw [f.2 _ _ (by omega) (by omega) (by omega)]; exact h.2.2.2.2.2.2.2.2.2.2.2.2.1 j
  · intro j; rw [f.2 _ _ (by omega) (by omega) (by omega)]; exact h.2.2.2.2.2.2.2.2.2.2.2.2.2 j
theorem RC_N {G : Wd} {s : Nat} {A : Ab} (h : RC G s A) (hO : okSh 500 A.1) (hR : aR G) : NC G s A.1 := ⟨h.1.1, h.1.2.2, h.2.1, hO, fun j => hR _ _, h.2.2.1⟩
/-- a call's answer, a call's throw -/
def cP (G : Wd) (A : Ab) (ok : Prop) (r : Option Vl) : Option Vl → Om → Prop := fun u Ω' => ok ∧ u = r ∧ ∃ G' s', Ω' = Wm G' ∧ RC G' s' A ∧ FrC G G'
def cX (G : Wd) (A : Ab) (ok : Prop) (cls : String) : String → Om → Prop := fun E Ω' => ok ∧ E = cls ∧ ∃ G' s', Ω' = Wm G' ∧ RC G' s' A ∧ FrC G G'
theorem cX_0 {G : Wd} {s : Nat} {A : Ab} {ok : Prop} {cls : String} (h : RC G s A) (k : ok) : cX G A ok cls cls (Wm G) := ⟨k, rfl, G, s, rfl, h, FrC.refl G⟩
theorem cP_0 {G : Wd} {s : Nat} {A : Ab} {ok : Prop} {r r' : Option Vl} (h : RC G s A) (k : ok) (e : r' = r) : cP G A ok r r' (Wm G) := ⟨k, e, G, s, rfl, h, FrC.refl G⟩
theorem cP_n {G G' : Wd} {s : Nat} {A : Ab} {ok : Prop} {r r' : Option Vl} (h : RC G s A) (hO : okSh 500 A.1) (f : ScN s G G') (hN : NC G' s A.1) (k : ok) (e : r' = r) : cP G A ok r r' (Wm G') := ⟨k, e, G', s, rfl, RC_n h hO f hN, FrC.n h.1.2.2 f⟩
theorem cX_n {G G' : Wd} {s : Nat} {A : Ab} {ok : Prop} {cls : String} (h : RC G s A) (hO : okSh 500 A.1) (f : ScN s G G') (hN : NC G' s A.1) (k : ok) : cX G A ok cls cls (Wm G') := ⟨k, rfl, G', s, rfl, RC_n h hO f hN, FrC.n h.1.2.2 f⟩
abbrev inB (S : Sh) (i : Int) : Prop := 0 ≤ i ∧ i < (S.1.length : Nat)
theorem bkAt_S {G : Wd} {s : Nat} {S : Sh} {i : Int} (hN : NC G s S) : (bkAt G s i ≠ 0 ↔ inB S i) ∧ (inB S i → bkAt G s i = s + 7 + 5 * i.toNat) := by
  have h1 := hN.2.2.1.1
  have h6 := hN.2.2.2.1.1
  unfold bkAt inB
  rw [h1]
  by_cases c : 0 ≤ i ∧ i < (S.1.length : Nat)
  · rw [if_pos ⟨c.1, c.2, by omega⟩]; exact ⟨⟨fun _ => c, fun _ => by omega⟩, fun _ => rfl⟩
  · rw [if_neg (fun q => c ⟨q.1, q.2.1⟩)]; exact ⟨⟨fun q => absurd rfl q, fun q => absurd q c⟩, fun q => absurd q c⟩
set_option maxRecDepth 100000 in
set_option maxHeartbeats 4000000 in
theorem c_nBook {κ : Kx} (hκ : KOK κ) {d s : Nat} {i : Int} {S : Sh} {G : Wd} (hN : NC G s S) (hi : R32 i) (hd : 6 ≤ d) : Ct κ MX11_needBook d 1 6 [VR 1, VI i] (Wm G) (fun v Ω' => inB S i ∧ keepG G (VR (s + 7 + 5 * i.toNat)) v Ω') (exE (¬ inB S i) NSE G) := by
  have h6 := hN.2.2.2.1.1
  obtain ⟨e1, e2⟩ := bkAt_S (i := i) hN
  refine (c_needBook hκ hN.1 hN.2.1 hi (by rw [hN.2.2.1.1]; unfold R32; omega) hd).mono (fun v Ω' h => ?_) (fun E Ω' h => ?_)
  · have c := e1.mp h.1
    rw [e2 c] at h
    exact ⟨c, h.2⟩
  · exact ⟨fun q => absurd h.1 (e1.mpr q), h.2⟩
set_option maxRecDepth 100000 in
set_option maxHeartbeats 4000000 in
theorem c_nLeaf {κ : Kx} (hκ : KOK κ) {d s : Nat} {i l : Int} {S : Sh} {G : Wd} (hN : NC G s S) (hi : R32 i) (hl : R32 l) (hd : 7 ≤ d) : Ct κ MX11_needLeaf d 2 12 [VR 1, VI i, VI l] (Wm G) (fun v Ω' => (inB S i ∧ 0 ≤ l ∧ l < (bkJ S i.toNat).2.2.1) ∧ keepG G (VR (s + 7 + 5 * i.toNat)) v Ω') (exE (¬ (inB S i ∧ 0 ≤ l ∧ l < (bkJ S i.toNat).2.2.1)) NSE G) := by
  refine Ct_of hκ kX11_needLeaf.1 rfl (Nat.le_of_ble_eq_true rfl) (ls := [some (VR 1), some (VI i), some (VI l), none]) rfl (fun μ => ?_)
  refine V_ex sX11_needLeaf_0 (by rfl) (by first | exact trivial | exact Or.inr rfl | exact Or.inl rfl | (simp only [ob, obA, R32, R64] at *; omega) | (simp only [ob, obA, R32, R64] at *; and_intros <;> omega)) ?_
  refine V_callV (M := MX11_needLeaf) (N := MX11_needBook) dX11_needLeaf_2 lRX11_154 kX11_needBook rfl (rfl) rfl (c_nBook (d := 6) hκ hN hi (by omega)) rfl rfl (Nat.le_of_ble_eq_true rfl) (fit_rm (by omega)) (⟨Nat.le_of_ble_eq_true rfl, Nat.le_of_ble_eq_true rfl⟩) (fun v Ω' hp => ?_) (fun E Ω' h => ⟨⟨fun q => h.1 q.1, h.2⟩, rfl, Nat.le_of_ble_eq_true rfl, Nat.le_of_ble_eq_true rfl⟩)
  obtain ⟨hin, rfl, rfl⟩ := hp
  obtain ⟨hB, hj6, hok, k0, k2, k1, -⟩ := NC_b (j := i.toNat) hN (by have := hin.1; have := hin.2; omega)
  have hlv := hok.2.2.2.1
  have hC := c_hasLeaf (κ := κ) hκ (d := 0) (i := l) hB hl (by rw [k1]; unfold R32; omega)
  rw [k1] at hC
  refine V_ex sX11_needLeaf_5 (by rfl) (by first | exact trivial | exact Or.inr rfl | exact Or.inl rfl | (simp only [ob, obA, R32, R64] at *; omega) | (simp only [ob, obA, R32, R64] at *; and_intros <;> omega)) ?_
  refine V_callV (M := MX11_needLeaf) (N := MX0_hasLeaf) dX11_needLeaf_8 lRX11_157 kX0_hasLeaf rfl (hB.1) rfl (hC) rfl rfl (Nat.le_of_ble_eq_true rfl) (fit_rm (by omega)) (⟨Nat.le_of_ble_eq_true rfl, Nat.le_of_ble_eq_true rfl⟩) (fun v Ω' hp => ?_) (fun _ _ h => h.elim)
  obtain ⟨rfl, rfl⟩ := hp
  refine V_ifneB dX11_needLeaf_11 (tgt := 24) (by decide) (fun q11 => ?_) (fun q11 => ?_)
  · refine V_ex sX11_needLeaf_24 (by rfl) (by first | exact trivial | exact Or.inr rfl | exact Or.inl rfl | (simp only [ob, obA, R32, R64] at *; omega) | (simp only [ob, obA, R32, R64] at *; and_intros <;> omega)) ?_
    refine V_aret dX11_needLeaf_25 rfl (by first | exact Or.inl ⟨_, rfl⟩ | exact Or.inr ⟨_, rfl⟩) (by decide) ⟨⟨hin, of_decide_eq_true q11⟩, rfl, rfl⟩
  · refine V_throw (M := MX11_needLeaf) (is := 163) (text := "no such leaf") tC_nse (by decide +kernel) dX11_needLeaf_14 (by decide +kernel) dX11_needLeaf_18 dX11_needLeaf_20 dX11_needLeaf_23 rfl (Nat.le_of_ble_eq_true rfl) ⟨by show 6 ≤ d; omega, by show 100 ≤ 100 + 40 * d; omega⟩ ⟨Nat.le_of_ble_eq_true rfl, Nat.le_of_ble_eq_true rfl⟩ ⟨Nat.le_of_ble_eq_true rfl, Nat.le_of_ble_eq_true rfl⟩ (⟨fun q => absurd q.2 (of_decide_eq_false q11), rfl, rfl⟩)
set_option maxRecDepth 100000 in
set_option maxHeartbeats 4000000 in
theorem c_nPage {κ : Kx} (hκ : KOK κ) {d s : Nat} {i l : Int} {S : Sh} {G : Wd} (hN : NC G s S) (hi : R32 i) (hl : R32 l) (hd : 7 ≤ d) : Ct κ MX11_needPage d 2 12 [VR 1, VI i, VI l] (Wm G) (fun v Ω' => (inB S i ∧ 1 ≤ l ∧ l ≤ 2 * (bkJ S i.toNat).2.2.1) ∧ keepG G (VR (s + 7 + 5 * i.toNat)) v Ω') (exE (¬ (inB S i ∧ 1 ≤ l ∧ l ≤ 2 * (bkJ S i.toNat).2.2.1)) NSE G) := by
  refine Ct_of hκ kX11_needPage.1 rfl (Nat.le_of_ble_eq_true rfl) (ls := [some (VR 1), some (VI i), some (VI l), none]) rfl (fun μ => ?_)
  refine V_ex sX11_needPage_0 (by rfl) (by first | exact trivial | exact Or.inr rfl | exact Or.inl rfl | (simp only [ob, obA, R32, R64] at *; omega) | (simp only [ob, obA, R32, R64] at *; and_intros <;> omega)) ?_
  refine V_callV (M := MX11_needPage) (N := MX11_needBook) dX11_needPage_2 lRX11_154 kX11_needBook rfl (rfl) rfl (c_nBook (d := 6) hκ hN hi (by omega)) rfl rfl (Nat.le_of_ble_eq_true rfl) (fit_rm (by omega)) (⟨Nat.le_of_ble_eq_true rfl, Nat.le_of_ble_eq_true rfl⟩) (fun v Ω' hp => ?_) (fun E Ω' h => ⟨⟨fun q => h.1 q.1, h.2⟩, rfl, Nat.le_of_ble_eq_true rfl, Nat.le_of_ble_eq_true rfl⟩)
  obtain ⟨hin, rfl, rfl⟩ := hp
  obtain ⟨hB, hj6, hok, k0, k2, k1, -⟩ := NC_b (j := i.toNat) hN (by have := hin.1; have := hin.2; omega)
  have hlv := hok.2.2.2.1
  have hC := c_hasPage (κ := κ) hκ (d := 0) (i := l) hB hl (by rw [k1]; omega)
  rw [k1] at hC
  refine V_ex sX11_needPage_5 (by rfl) (by first | exact trivial | exact Or.inr rfl | exact Or.inl rfl | (simp only [ob, obA, R32, R64] at *; omega) | (simp only [ob, obA, R32, R64] at *; and_intros <;> omega)) ?_
  refine V_callV (M := MX11_needPage) (N := MX0_hasPage) dX11_needPage_8 lRX11_165 kX0_hasPage rfl (hB.1) rfl (hC) rfl rfl (Nat.le_of_ble_eq_true rfl) (fit_rm (by omega)) (⟨Nat.le_of_ble_eq_true rfl, Nat.le_of_ble_eq_true rfl⟩) (fun v Ω' hp => ?_) (fun _ _ h => h.elim)
  obtain ⟨rfl, rfl⟩ := hp
  refine V_ifneB dX11_needPage_11 (tgt := 24) (by decide) (fun q11 => ?_) (fun q11 => ?_)
  · refine V_ex sX11_needPage_24 (by rfl) (by first | exact trivial | exact Or.inr rfl | exact Or.inl rfl | (simp only [ob, obA, R32, R64] at *; omega) | (simp only [ob, obA, R32, R64] at *; and_intros <;> omega)) ?_
    refine V_aret dX11_needPage_25 rfl (by first | exact Or.inl ⟨_, rfl⟩ | exact Or.inr ⟨_, rfl⟩) (by decide) ⟨⟨hin, of_decide_eq_true q11⟩, rfl, rfl⟩
  · refine V_throw (M := MX11_needPage) (is := 168) (text := "no such page") tC_nse (by decide +kernel) dX11_needPage_14 (by decide +kernel) dX11_needPage_18 dX11_needPage_20 dX11_needPage_23 rfl (Nat.le_of_ble_eq_true rfl) ⟨by show 6 ≤ d; omega, by show 100 ≤ 100 + 40 * d; omega⟩ ⟨Nat.le_of_ble_eq_true rfl, Nat.le_of_ble_eq_true rfl⟩ ⟨Nat.le_of_ble_eq_true rfl, Nat.le_of_ble_eq_true rfl⟩ (⟨fun q => absurd q.2 (of_decide_eq_false q11), rfl, rfl⟩)
