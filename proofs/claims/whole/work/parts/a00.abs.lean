/-! THE ABSTRACT STATE of both sides -/
/-- the number on a page of a told book or another -/
def numB (c : List Int) (b : Bk) (p : Int) : Int := if b.1 = 6 then clT ((runL b.2.2.1 p (segC c b.2.2.2.1 b.2.2.2.2.1) []).headD 0) else ownN b.1 b.2.1 p
/-- what the first n pages add up to -/
def sumF (c : List Int) (b : Bk) : Nat → Int
  | 0 => 0
  | n + 1 => sumF c b n + numB c b ((n : Int) + 1)
/-- leaf i's two pages -/
def lfB (c : List Int) (b : Bk) (i : Int) : Int := numB c b (2 * i + 1) + numB c b (2 * i + 2)
/-- torn: book, leaf, the sheet's other leaf or -1 -/
abbrev Tn : Type := Int × Int × Int
/-- torn, added (book, how many, first wrong), stuck, refused -/
abbrev Ev : Type := List Tn × (Int × Int × Int) × List (Int × Int) × List Int
/-- shelf, events, image, (fault, tape's length, tape), shares kept, least kept -/
abbrev Ab : Type := Sh × Ev × Option (List (List Int) × Ev) × (Int × Int × (Nat → Int)) × Option (List Int) × Option (List Int)
def bk0 : Bk := (0, 0, 0, 0, 0, [])
def bkJ (S : Sh) (j : Nat) : Bk := S.1.getD j bk0
theorem bkJ_in {S : Sh} {j : Nat} (h : j < S.1.length) : bkJ S j = S.1[j]'h := by unfold bkJ; rw [List.getD_eq_getElem?_getD, List.getElem?_eq_getElem h]; rfl
abbrev cdS (S : Sh) : List Int := S.2.2.2.2
def evC (G : Wd) (e : Nat) (v : Ev) : Prop := G.1 e 3 = (v.1.length : Nat) ∧ (∀ i (h : i < v.1.length), G.1 (e + 1) i = (v.1[i]'h).1 ∧ G.1 (e + 2) i = (v.1[i]'h).2.1 ∧ G.1 (e + 3) i = (v.1[i]'h).2.2) ∧ G.1 e 5 = v.2.1.2.1 ∧ G.1 e 6 = v.2.1.2.2 ∧ (v.2.1.2.1 ≠ 0 → G.1 e 4 = v.2.1.1) ∧ G.1 e 9 = (v.2.2.1.length : Nat) ∧ (∀ i (h : i < v.2.2.1.length), G.1 (e + 4) i = (v.2.2.1[i]'h).1 ∧ G.1 (e + 5) i = (v.2.2.1[i]'h).2) ∧ ∀ i, i < 4 → G.1 (e + 6) i = v.2.2.2.getD i 0
/-- the leaves torn, one by one; true: the second of a sheet -/
def flT : List Tn → List (Int × Int × Bool)
  | [] => []
  | t :: r => (if t.2.2 = -1 then [(t.1, t.2.1, false)] else [(t.1, t.2.1, false), (t.1, t.2.2, true)]) ++ flT r
/-- where the model keeps events: slots of 145, arrays -/
abbrev Mc : Type := (Nat × Nat × Nat × Nat × Nat × Nat × Nat) × (Nat × Nat × Nat × Nat × Nat × Nat)
def mcN : Mc := ((34, 35, 36, 37, 38, 39, 48), (165, 166, 167, 172, 173, 161))
def mcT : Mc := ((62, 63, 64, 65, 66, 67, 61), (183, 184, 188, 185, 186, 187))
def evM (G : Wd) (m : Mc) (S : Sh) (v : Ev) : Prop := G.1 145 m.1.1 = ((flT v.1).length : Nat) ∧ (∀ i (h : i < (flT v.1).length), G.1 m.2.1 i = ((flT v.1)[i]'h).1 ∧ G.1 m.2.2.1 i = ((flT v.1)[i]'h).2.1 ∧ G.1 m.2.2.2.1 i = b2i ((flT v.1)[i]'h).2.2) ∧ G.1 145 m.1.2.1 = (v.1.length : Nat) ∧ G.1 145 m.1.2.2.1 = v.2.1.2.1 ∧ (v.2.1.2.1 ≠ 0 → G.1 145 m.1.2.2.2.1 = v.2.1.1 ∧ G.1 145 m.1.2.2.2.2.1 = v.2.1.2.2 ∧ G.2.1 145 m.1.2.2.2.2.2.1 = sumF (cdS S) (bkJ S v.2.1.1.toNat) v.2.1.2.1.toNat) ∧ G.1 145 m.1.2.2.2.2.2.2 = (v.2.2.1.length : Nat) ∧ (∀ i (h : i < v.2.2.1.length), G.1 m.2.2.2.2.1 i = (v.2.2.1[i]'h).1 ∧ G.1 m.2.2.2.2.2.1 i = (v.2.2.1[i]'h).2) ∧ ∀ i, i < 4 → G.1 m.2.2.2.2.2.2 i = v.2.2.2.getD i 0
/-- a kept row -/
def kpO (G : Wd) (m : Int) (a : Nat) : Option (List Int) → Prop
  | none => m = -1
  | some l => m = (l.length : Nat) ∧ ∀ i (h : i < l.length), G.1 a i = l[i]'h
def imC (G : Wd) (s : Nat) (S : Sh) : Option (List (List Int) × Ev) → Prop
  | none => True
  | some i => evC G 121 i.2 ∧ ∀ j, j < S.1.length → lsIs G (s + 10 + 5 * j) (i.1.getD j [])
def imM (G : Wd) (S : Sh) : Option (List (List Int) × Ev) → Prop
  | none => True
  | some i => evM G mcT S i.2 ∧ ∀ j, j < S.1.length → G.1 182 j = ((i.1.getD j []).length : Nat) ∧ ∀ k (h : k < (i.1.getD j []).length), G.1 181 (60 * j + k) = (i.1.getD j [])[k]'h
/-- a kept number is the told one -/
def cacheC (G : Wd) (S : Sh) : Prop := ∀ j, j < S.1.length → (bkJ S j).1 = 6 → ∀ p : Nat, 1 ≤ p → p ≤ 4000 → G.1 128 (j * 4000 + p - 1) = 0 ∨ G.1 128 (j * 4000 + p - 1) = numB (cdS S) (bkJ S j) (p : Int) + 1
def RC (G : Wd) (s : Nat) (A : Ab) : Prop := (G.2.2 1 3 = s ∧ G.2.2 1 4 = 69 - s ∧ SHa s) ∧ ShC G s A.1 ∧ cacheC G A.1 ∧ evC G 114 A.2.1 ∧ G.1 1 8 = b2i A.2.2.1.isSome ∧ imC G s A.1 A.2.2.1 ∧ G.1 1 5 = A.2.2.2.1.1 ∧ G.1 1 1 = A.2.2.2.1.2.1 ∧ (∀ j, j < 500 → G.1 2 j = A.2.2.2.1.2.2 j) ∧ kpO G (G.1 135 8) 139 A.2.2.2.2.1 ∧ kpO G (G.1 140 5) 144 A.2.2.2.2.2 ∧ (∀ j, 0 ≤ G.1 136 j ∧ G.1 136 j ≤ 1000000) ∧ (∀ j, 0 ≤ G.1 142 j ∧ G.1 142 j ≤ 1000000) ∧ ∀ j, 0 ≤ G.1 141 j ∧ G.1 141 j ≤ 1000000
def RM (G : Wd) (A : Ab) : Prop := mS0 G A.1 ∧ evM G mcN A.1 A.2.1 ∧ G.1 145 60 = b2i A.2.2.1.isSome ∧ imM G A.1 A.2.2.1 ∧ G.1 145 28 = A.2.2.2.1.1 ∧ G.1 145 18 = A.2.2.2.1.2.1 ∧ (∀ j, j < 500 → G.1 162 j = A.2.2.2.1.2.2 j) ∧ kpO G (G.1 145 57) 176 A.2.2.2.2.1 ∧ kpO G (G.1 145 58) 178 A.2.2.2.2.2
/-- what is torn lies among what is gone, once each -/
def tnI (S : Sh) (T : List Tn) : Prop := ((flT T).map (fun t => (t.1, t.2.1))).Nodup ∧ (∀ t ∈ flT T, 0 ≤ t.1 ∧ t.1 < (S.1.length : Nat) ∧ t.2.1 ∈ (bkJ S t.1.toNat).2.2.2.2.2) ∧ ∀ t ∈ T, -1 ≤ t.2.2
def evI (K : Int) (S : Sh) (v : Ev) : Prop := tnI S v.1 ∧ ((0 ≤ v.2.1.2.1 ∧ v.2.1.2.1 ≤ 60) ∧ (v.2.1.2.1 = 0 → v.2.1.2.2 = -1) ∧ (-1 ≤ v.2.1.2.2 ∧ v.2.1.2.2 ≤ 60) ∧ (v.2.1.2.1 ≠ 0 → (0 ≤ v.2.1.1 ∧ v.2.1.1 < (S.1.length : Nat)) ∧ v.2.1.2.1 ≤ 2 * (bkJ S v.2.1.1.toNat).2.2.1)) ∧ (v.2.2.1.length ≤ 20 ∧ ∀ q ∈ v.2.2.1, (0 ≤ q.1 ∧ q.1 < 6) ∧ 0 ≤ q.2 ∧ q.2 < 2000) ∧ v.2.2.2.length = 4 ∧ ∀ z ∈ v.2.2.2, 0 ≤ z ∧ z ≤ K
/-- the shelf with other leaves gone -/
def setGs (S : Sh) (gs : List (List Int)) : Sh := (S.1.zipWith (fun b g => (b.1, b.2.1, b.2.2.1, b.2.2.2.1, b.2.2.2.2.1, g)) gs, S.2)
def Inv (K : Int) (A : Ab) : Prop := okSh 500 A.1 ∧ evI K A.1 A.2.1 ∧ (∀ i, A.2.2.1 = some i → i.1.length = A.1.1.length ∧ okSh 500 (setGs A.1 i.1) ∧ evI K (setGs A.1 i.1) i.2) ∧ (-1 ≤ A.2.2.2.1.1 ∧ A.2.2.2.1.1 ≤ 500) ∧ (0 ≤ A.2.2.2.1.2.1 ∧ A.2.2.2.1.2.1 ≤ 500) ∧ (∀ j, j < 500 → 0 ≤ A.2.2.2.1.2.2 j ∧ A.2.2.2.1.2.2 j ≤ 255) ∧ (∀ l, A.2.2.2.2.1 = some l → l.length ≤ 10 ∧ ∀ z ∈ l, 0 ≤ z ∧ z < 4) ∧ ∀ l, A.2.2.2.2.2 = some l → l.length ≤ 4 ∧ ∀ z ∈ l, 0 ≤ z ∧ z < 2000
/-- all ints of the world are ints -/
def aR (G : Wd) : Prop := ∀ x j, R32 (G.1 x j)
/-! numbers are small -/
theorem pow10_1 : ∀ m : Nat, (1 : Int) ≤ 10 ^ m := by
  intro m
  induction m with
  | zero => decide
  | succ m ih => rw [Int.pow_succ]; omega
theorem swC_R {f : Int} (hf : 0 ≤ f ∧ f ≤ 100) : ∀ (k m : Nat) (n pw : Int), 0 ≤ n → n < 9 ^ m → 0 ≤ pw → 0 ≤ swC f k n pw ∧ swC f k n pw ≤ pw * (10 ^ m - 1) := by
  intro k
  induction k with
  | zero =>
    intro m n pw hn hm hp
    have h1 : (1 : Int) ≤ 10 ^ m := pow10_1 m
    exact ⟨Int.le_refl _, Int.mul_nonneg hp (by omega)⟩
  | succ k ih =>
    intro m n pw hn hm hp
    have h1 : (1 : Int) ≤ 10 ^ m := pow10_1 m
    rw [swC]
    split
    · exact ⟨Int.le_refl _, Int.mul_nonneg hp (by omega)⟩
    · rename_i hn0
      cases m with
      | zero => simp at hm; omega
      | succ m =>
        have hm' : n / 9 < 9 ^ m := by rw [Int.pow_succ] at hm; omega
        have h2 := ih m (n / 9) (pw * 10) (by omega) hm' (by omega)
        have h3 : (0 : Int) ≤ (if n % 9 < f then n % 9 else n % 9 + 1) ∧ (if n % 9 < f then n % 9 else n % 9 + 1) ≤ 9 := by split <;> omega
        generalize (if n % 9 < f then n % 9 else n % 9 + 1) = dg at *
        have h4 : 0 ≤ dg * pw ∧ dg * pw ≤ 9 * pw := ⟨Int.mul_nonneg h3.1 hp, Int.mul_le_mul_of_nonneg_right h3.2 hp⟩
        rw [Int.pow_succ]
        have e : pw * 10 * (10 ^ m - 1) + 9 * pw = pw * (10 ^ m * 10 - 1) := by grind
        omega
theorem numB_R {c : List Int} {b : Bk} (hb : okBk c b) {p : Int} (hp : 1 ≤ p ∧ p ≤ 4000) : 0 ≤ numB c b p ∧ numB c b p ≤ 99999 := by
  unfold numB
  split
  · exact ⟨by unfold clT; split <;> omega, by unfold clT; split <;> omega⟩
  · obtain ⟨h1, h2, h3, h4, h5, h6, h7, h8, h9⟩ := hb
    unfold ownN
    split
    · split <;> omega
    · split
      · omega
      · split
        · omega
        · split
          · have := swC_R (f := b.2.1) (by omega) 18 4 p 1 (by omega) (by omega) (by omega)
            rw [w32_id (by unfold R32; omega)]
            omega
          · omega
theorem opsL_take {f : Nat → Int} {c : List Int} (h : ∀ j (hj : j < c.length), f j = c[j]'hj) : ∀ (k i : Nat), i + k ≤ c.length → opsL f k i = (c.drop i).take k := by
  intro k
  induction k with
  | zero => intro i hi; simp [opsL]
  | succ k ih =>
    intro i hi
    rw [opsL, ih (i + 1) (by omega), List.drop_eq_getElem_cons (by omega : i < c.length), List.take_succ_cons, h i (by omega)]
theorem opsL_seg {G : Wd} {s : Nat} {c : List Int} (h : codeIs G s c) {a b : Int} (h0 : 0 ≤ a) (hab : a ≤ b) (hb : b ≤ (c.length : Nat)) : opsL (G.1 (s + 5)) (b - a).toNat a.toNat = segC c a b := opsL_take h.2 _ _ (by omega)
