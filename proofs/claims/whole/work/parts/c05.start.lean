/-! WHAT THE CONSTRUCTORS MADE: the layout LF, the abstract state at the start -/
theorem HO.relay {κ : Kx} {Λ Λ' : Ly} {sz : Option Nat} {G : Wd} {H : Heap} (h : HO κ (Λ, sz, G) H) (h1 : ∀ a t, Λ'.1 a = some t → Λ.1 a = some t) (h2 : ∀ a ci (r : vw_C) k, Λ'.1 a = some (.inl ci) → vwCl[ci]? = some r → k < r.2.2 → (Λ'.2 a k).getD 0 = (Λ.2 a k).getD 0) (h3 : ∀ a (q : Nat × Nat) j, Λ'.1 a = some (.inr q) → 3 ≤ q.1 → j < q.2 → (Λ'.2 a j).getD 0 = (Λ.2 a j).getD 0) : HO κ (Λ', none, G) H := by
  obtain ⟨g1, g2, g3, g4⟩ := h
  refine ⟨g1, g2, fun n hn => (by cases hn), fun a t ha => ?_⟩
  obtain ⟨q1, q2, q3⟩ := g4 a t (h1 a t ha)
  refine ⟨q1, q2, ?_⟩
  cases t with
  | inl ci =>
    obtain ⟨r, e1, e2⟩ := q3
    refine ⟨r, e1, e2.to (fun k hk => ?_)⟩
    show (if skd ci k = 1 then Value.long (Int64.ofInt (G.2.1 a k)) else if skd ci k = 2 then ad κ ((Λ.2 a k).getD 0) else if skd ci k = 3 then ad κ (G.2.2 a k) else .int (Int32.ofInt (G.1 a k))) = (if skd ci k = 1 then Value.long (Int64.ofInt (G.2.1 a k)) else if skd ci k = 2 then ad κ ((Λ'.2 a k).getD 0) else if skd ci k = 3 then ad κ (G.2.2 a k) else .int (Int32.ofInt (G.1 a k)))
    rw [h2 a ci r k ha e1 hk]
  | inr q =>
    obtain ⟨e0, cA, e1, e2⟩ := q3
    refine ⟨e0, cA, ?_, e2⟩
    rw [e1]
    unfold arrV
    congr 3
    funext j
    show (if q.1 = 1 then Value.long (Int64.ofInt (G.2.1 a j.val)) else if 3 ≤ q.1 then ad κ ((Λ.2 a j.val).getD 0) else .int (Int32.ofInt (G.1 a j.val))) = (if q.1 = 1 then Value.long (Int64.ofInt (G.2.1 a j.val)) else if 3 ≤ q.1 then ad κ ((Λ'.2 a j.val).getD 0) else .int (Int32.ofInt (G.1 a j.val)))
    by_cases c : 3 ≤ q.1
    · rw [h3 a q j.val ha c j.isLt]
    · rw [if_neg c, if_neg c]
def L0 : Ly := (fun _ => none, fun _ _ => none)
def LZ : Ly := newL (p12L (newL (lX11 (newL L0 1 (.inl 10)) 1 1) 145 (.inl 11)) 145 145) 189 (.inr (1, 1))
def lzK (a : Nat) : Bool := match LF.1 a with
  | none => true
  | some t => decide (LZ.1 a = some t) && (match t with
    | .inl ci => (List.range ((vwCl[ci]?).map (fun r => r.2.2) |>.getD 0)).all (fun k => decide ((LF.2 a k).getD 0 = (LZ.2 a k).getD 0))
    | .inr q => decide (q.1 < 3) || (List.range q.2).all (fun k => decide ((LF.2 a k).getD 0 = (LZ.2 a k).getD 0)))
set_option maxRecDepth 100000 in
theorem lzK_all : (List.range 190).all lzK = true := by decide +kernel
theorem LT_len : LT.length ≤ 190 := by decide +kernel
theorem LF_lt {a : Nat} {t : Tg} (h : LF.1 a = some t) : a < 190 := by
  have h : LT.getD a none = some t := h
  by_cases c : a < LT.length
  · exact Nat.lt_of_lt_of_le c LT_len
  · rw [List.getD_eq_getElem?_getD, List.getElem?_eq_none (by omega)] at h
    cases h
theorem HO_LZ {κ : Kx} {sz : Option Nat} {G : Wd} {H : Heap} (h : HO κ (LZ, sz, G) H) : HO κ (Wm G) H := by
  have hk : ∀ a t, LF.1 a = some t → lzK a = true := fun a t ha => List.all_eq_true.mp lzK_all a (List.mem_range.mpr (LF_lt ha))
  refine h.relay (fun a t ha => ?_) (fun a ci r k ha hr hkr => ?_) (fun a q j ha h3 hj => ?_)
  · have := hk a t ha
    unfold lzK at this
    rw [ha] at this
    simp only [Bool.and_eq_true, decide_eq_true_eq] at this
    exact this.1
  · have := hk a _ ha
    unfold lzK at this
    rw [ha] at this
    simp only [Bool.and_eq_true, decide_eq_true_eq, hr, Option.map_some, Option.getD_some] at this
    exact of_decide_eq_true (List.all_eq_true.mp this.2 k (List.mem_range.mpr hkr))
  · have := hk a _ ha
    unfold lzK at this
    rw [ha] at this
    simp only [Bool.and_eq_true, decide_eq_true_eq, Bool.or_eq_true] at this
    rcases this.2 with q9 | q9
    · omega
    · exact of_decide_eq_true (List.all_eq_true.mp q9 j (List.mem_range.mpr hj))
def G0 : Wd := (fun _ _ => 0, fun _ _ => 0, fun _ _ => 0)
theorem zF_0 (n : Nat) : zF G0 n := fun _ _ _ => ⟨rfl, rfl, rfl⟩
def GZ : Wd := gF (p12G (gX11 G0 1 1) 145 145) (145 + 12) 10
def S0 : Sh := ([], [], List.replicate 10 100, false, [])
def A0 : Ab := (S0, ([], (0, 0, -1), [], [0, 0, 0, 0]), none, (-1, 0, fun _ => 0), none, none)
theorem GZ_1 (x j : Nat) : GZ.1 x j = if x = 157 ∧ j < 10 then 100 else if x = 145 ∧ (j = 28 ∨ j = 57 ∨ j = 58) then -1 else if x = 140 ∧ j = 5 then -1 else if x = 135 ∧ j = 8 then -1 else if x = 121 ∧ j = 6 then -1 else if x = 114 ∧ j = 6 then -1 else if x = 1 ∧ j = 5 then -1 else if x = 65 ∧ j < 10 then 100 else if x = 12 ∧ j < 10 then 100 else 0 := by
  unfold GZ p12G gX11 gX1 gX6 gX2 gX7 gF
  simp only [upd2_eq, G0, Nat.reduceAdd]
  by_cases c1 : x = 157 ∧ j < 10
  · rw [if_pos c1, if_pos c1]
  · rw [if_neg c1, if_neg c1]
    by_cases c2 : x = 145
    · subst c2
      by_cases e1 : j = 58
      · subst e1; rfl
      · by_cases e2 : j = 57
        · subst e2; rfl
        · by_cases e3 : j = 28
          · subst e3; rfl
          · simp [e1, e2, e3]
    · simp [c2]
theorem GZ_2 : GZ.2.1 = fun _ _ => 0 := rfl
theorem GZ_r : GZ.2.2 1 3 = 8 ∧ GZ.2.2 1 4 = 61 := ⟨rfl, rfl⟩
theorem RC_A0 : RC GZ 8 A0 := by
  refine ⟨⟨rfl, rfl, Or.inl rfl⟩, ⟨rfl, fun j h => absurd h (Nat.not_lt_zero _), rfl, fun j h => absurd h (Nat.not_lt_zero _), fun j h => ?_, rfl, rfl, fun j h => absurd h (Nat.not_lt_zero _)⟩, fun j h => absurd h (Nat.not_lt_zero _), ⟨rfl, fun j h => absurd h (Nat.not_lt_zero _), rfl, rfl, fun q => absurd rfl q, rfl, fun j h => absurd h (Nat.not_lt_zero _), fun i hi => ?_⟩, rfl, trivial, rfl, rfl, fun j hj => ?_, rfl, rfl, fun j => ?_, fun j => ?_, fun j => ?_⟩
  · have h10 : j < 10 := by have h : j < (List.replicate 10 (100 : Int)).length := h; rw [List.length_replicate] at h; exact h
    have e : GZ.1 12 j = 100 := by rw [GZ_1]; simp [h10]
    exact e.trans (List.getElem_replicate (n := 10) (a := (100 : Int)) (i := j) _).symm
  · show GZ.1 120 i = ([0, 0, 0, 0] : List Int).getD i 0
    rw [GZ_1]
    rcases (show i = 0 ∨ i = 1 ∨ i = 2 ∨ i = 3 by omega) with rfl | rfl | rfl | rfl <;> rfl
  · show GZ.1 2 j = 0
    rw [GZ_1]; simp
  · rw [GZ_1]; simp
  · rw [GZ_1]; simp
  · rw [GZ_1]; simp
theorem RM_A0 : RM GZ A0 := by
  refine ⟨⟨rfl, fun j h => absurd h (Nat.not_lt_zero _), rfl, fun j h => absurd h (Nat.not_lt_zero _), fun j h => ?_, fun j h => absurd h (Nat.not_lt_zero _)⟩, ⟨rfl, fun j h => absurd h (Nat.not_lt_zero _), rfl, rfl, fun q => absurd rfl q, rfl, fun j h => absurd h (Nat.not_lt_zero _), fun i hi => ?_⟩, rfl, trivial, rfl, rfl, fun j hj => ?_, rfl, rfl⟩
  · have h10 : j < 10 := by have h : j < (List.replicate 10 (100 : Int)).length := h; rw [List.length_replicate] at h; exact h
    have e : GZ.1 157 j = 100 := by rw [GZ_1]; simp [h10]
    exact e.trans (List.getElem_replicate (n := 10) (a := (100 : Int)) (i := j) _).symm
  · show GZ.1 161 i = ([0, 0, 0, 0] : List Int).getD i 0
    rw [GZ_1]
    rcases (show i = 0 ∨ i = 1 ∨ i = 2 ∨ i = 3 by omega) with rfl | rfl | rfl | rfl <;> rfl
  · show GZ.1 162 j = 0
    rw [GZ_1]; simp
theorem Inv_A0 : Inv 0 A0 := by
  refine ⟨⟨by decide, fun b hb => (by cases hb), by decide, fun b hb => (by cases hb), by decide, by decide, by decide, fun z hz => (by cases hz)⟩, ⟨⟨by decide, fun t ht => (by cases ht), fun t ht => (by cases ht)⟩, ⟨by decide, fun _ => rfl, by decide, fun q => absurd rfl q⟩, ⟨by decide, fun q hq => (by cases hq)⟩, rfl, by decide⟩, fun i hi => (by cases hi), by decide, by decide, fun j _ => ⟨Int.le_refl _, by show (0 : Int) ≤ 255; decide⟩, fun l hl => (by cases hl), fun l hl => (by cases hl)⟩
