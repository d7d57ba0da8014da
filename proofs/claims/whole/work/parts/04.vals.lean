/-! VALUES: numbers are Ints (their machine words are ofInt of them), references are names (0 is null, k is the k-th cell made by the law, a million and more are cells that were there before) -/
abbrev Vl : Type := Int ⊕ (Int ⊕ Nat)
abbrev VI (z : Int) : Vl := .inl z
abbrev VL (z : Int) : Vl := .inr (.inl z)
abbrev VR (n : Nat) : Vl := .inr (.inr n)
/-- int slots, long slots, reference slots that change -/
abbrev Wd : Type := (Nat → Nat → Int) × (Nat → Nat → Int) × (Nat → Nat → Nat)
/-- an object of a class (its place in vwCl), or an array of a kind and length -/
abbrev Tg : Type := Nat ⊕ (Nat × Nat)
/-- what each name is; references that stay -/
abbrev Ly : Type := (Nat → Option Tg) × (Nat → Nat → Option Nat)
abbrev Om : Type := Ly × Option Nat × Wd
abbrev Kx : Type := Launch × State × va_G × (Nat → Nat) × Nat × (Nat → Int32)
/-- name, bytes, locals, return type, handlers -/
abbrev Ms : Type := MethodName × ByteArray × Nat × Option FieldType × List (Nat × Nat × Nat × Nat)
abbrev Mu : Type := Program × Env × State × MethodId × Array Value × List Frame × Method × Code
abbrev kS (κ : Kx) : State := κ.2.1
abbrev kD (κ : Kx) : va_G := κ.2.2.1
abbrev kB (κ : Kx) : Nat := κ.2.1.heap.size
abbrev kSp (κ : Kx) : Nat → Nat := κ.2.2.2.1
def R32 (z : Int) : Prop := -2147483648 ≤ z ∧ z ≤ 2147483647
def R64 (z : Int) : Prop := -9223372036854775808 ≤ z ∧ z ≤ 9223372036854775807
def ad (κ : Kx) (n : Nat) : Value := if n = 0 then .null else if n < 1000000 then .ref (kB κ + (n - 1)) else if n < 2000000 then .ref (kSp κ (n - 1000000)) else .ref (n - 2000000)
def tr (κ : Kx) : Vl → Value
  | .inl z => .int (Int32.ofInt z)
  | .inr (.inl z) => .long (Int64.ofInt z)
  | .inr (.inr n) => ad κ n
theorem ad_rf (κ : Kx) (n : Nat) : ad κ n = .null ∨ ∃ a, ad κ n = .ref a := by
  unfold ad
  split
  · exact Or.inl rfl
  · split
    · exact Or.inr ⟨_, rfl⟩
    · split <;> exact Or.inr ⟨_, rfl⟩
theorem ad_cat (κ : Kx) (n : Nat) : (ad κ n).category = 1 := by
  rcases ad_rf κ n with h | ⟨a, h⟩ <;> rw [h] <;> rfl
theorem ad_at (κ : Kx) {a : Nat} (h0 : 0 < a) (h1 : a < 1000000) : ad κ a = .ref (kB κ + (a - 1)) := by
  unfold ad
  rw [if_neg (by omega), if_pos h1]
theorem r32_lo {z : Int} (h : R32 z) : Int32.minValue.toInt ≤ z := h.1
theorem r32_hi {z : Int} (h : R32 z) : z ≤ Int32.maxValue.toInt := h.2
theorem r64_lo {z : Int} (h : R64 z) : Int64.minValue.toInt ≤ z := h.1
theorem r64_hi {z : Int} (h : R64 z) : z ≤ Int64.maxValue.toInt := h.2
theorem i32_toInt {z : Int} (h : R32 z) : (Int32.ofInt z).toInt = z := Int32.toInt_ofInt_of_le (by have := h.1; omega) (by have := h.2; omega)
theorem i64_toInt {z : Int} (h : R64 z) : (Int64.ofInt z).toInt = z := Int64.toInt_ofInt_of_le (by have := h.1; omega) (by have := h.2; omega)
theorem i32_lt {x y : Int} (hx : R32 x) (hy : R32 y) : Int32.ofInt x < Int32.ofInt y ↔ x < y := Int32.ofInt_lt_iff_lt (r32_lo hx) (r32_hi hx) (r32_lo hy) (r32_hi hy)
theorem i32_le {x y : Int} (hx : R32 x) (hy : R32 y) : Int32.ofInt x ≤ Int32.ofInt y ↔ x ≤ y := Int32.ofInt_le_iff_le (r32_lo hx) (r32_hi hx) (r32_lo hy) (r32_hi hy)
theorem i32_eq {x y : Int} (hx : R32 x) (hy : R32 y) : Int32.ofInt x = Int32.ofInt y ↔ x = y := by
  rw [← Int32.toInt_inj, i32_toInt hx, i32_toInt hy]
theorem i64_lt {x y : Int} (hx : R64 x) (hy : R64 y) : Int64.ofInt x < Int64.ofInt y ↔ x < y := Int64.ofInt_lt_iff_lt (r64_lo hx) (r64_hi hx) (r64_lo hy) (r64_hi hy)
theorem i64_eq {x y : Int} (hx : R64 x) (hy : R64 y) : Int64.ofInt x = Int64.ofInt y ↔ x = y := by
  rw [← Int64.toInt_inj, i64_toInt hx, i64_toInt hy]
theorem i32_0 : Int32.ofInt 0 = 0 := rfl
theorem i64_0 : Int64.ofInt 0 = 0 := rfl
theorem r32_0 : R32 0 := ⟨by decide, by decide⟩
theorem r64_0 : R64 0 := ⟨by decide, by decide⟩
theorem i32_div {x y : Int} (hx : R32 x) (hy : R32 y) : Int32.ofInt (x.tdiv y) = Int32.ofInt x / Int32.ofInt y := Int32.ofInt_tdiv (r32_lo hx) (r32_hi hx) (r32_lo hy) (r32_hi hy)
theorem i64_div {x y : Int} (hx : R64 x) (hy : R64 y) : Int64.ofInt (x.tdiv y) = Int64.ofInt x / Int64.ofInt y := Int64.ofInt_tdiv (r64_lo hx) (r64_hi hx) (r64_lo hy) (r64_hi hy)
theorem i32_rem {x y : Int} (hx : R32 x) (hy : R32 y) : Int32.ofInt x - Int32.ofInt x / Int32.ofInt y * Int32.ofInt y = Int32.ofInt (x.tmod y) := by
  rw [← i32_div hx hy, ← Int32.ofInt_mul, ← Int32.ofInt_sub, Int.tmod_def, Int.mul_comm]
theorem i64_rem {x y : Int} (hx : R64 x) (hy : R64 y) : Int64.ofInt x - Int64.ofInt x / Int64.ofInt y * Int64.ofInt y = Int64.ofInt (x.tmod y) := by
  rw [← i64_div hx hy, ← Int64.ofInt_mul, ← Int64.ofInt_sub, Int.tmod_def, Int.mul_comm]
theorem i32_to64 {x : Int} (hx : R32 x) : (Int32.ofInt x).toInt64 = Int64.ofInt x := Int32.toInt64_ofInt (r32_lo hx) (r32_hi hx)
theorem i64_to32 (x : Int) : (Int64.ofInt x).toInt32 = Int32.ofInt x := Int64.toInt32_ofInt
theorem i32_clamp {z : Int} (h0 : 0 ≤ z) (h : R32 z) : (Int32.ofInt z).toNatClampNeg = z.toNat := Int32.toNatClampNeg_ofInt_of_le (by omega) (by have := h.2; omega)
/-- -1, 0, 1 -/
def lc3 (x y : Int) : Int := if x < y then -1 else if x = y then 0 else 1
theorem lc3_ok {x y : Int} (hx : R64 x) (hy : R64 y) : lg_cmp (Int64.ofInt x) (Int64.ofInt y) = Int32.ofInt (lc3 x y) := by
  unfold lg_cmp lc3
  simp only [gt_iff_lt, i64_lt hy hx, i64_eq hx hy]
  by_cases h1 : x < y
  · rw [if_neg (by omega), if_neg (by omega), if_pos h1]; rfl
  · by_cases h2 : x = y
    · rw [if_neg (by omega), if_pos h2, if_neg h1, if_pos h2]; rfl
    · rw [if_pos (by omega), if_neg h1, if_neg h2]; rfl
theorem lc3_r (x y : Int) : R32 (lc3 x y) := by
  unfold lc3 R32
  split
  · decide
  · split <;> decide
theorem lc3_lt {x y : Int} : lc3 x y < 0 ↔ x < y := by unfold lc3; split <;> (try split) <;> omega
theorem lc3_le {x y : Int} : lc3 x y ≤ 0 ↔ x ≤ y := by unfold lc3; split <;> (try split) <;> omega
theorem lc3_gt {x y : Int} : 0 < lc3 x y ↔ y < x := by unfold lc3; split <;> (try split) <;> omega
theorem lc3_ge {x y : Int} : 0 ≤ lc3 x y ↔ y ≤ x := by unfold lc3; split <;> (try split) <;> omega
theorem lc3_eq {x y : Int} : lc3 x y = 0 ↔ x = y := by unfold lc3; split <;> (try split) <;> omega
def iAnd (x y : Int) : Int := (Int32.ofInt x &&& Int32.ofInt y).toInt
def iOr (x y : Int) : Int := (Int32.ofInt x ||| Int32.ofInt y).toInt
def iXor (x y : Int) : Int := (Int32.ofInt x ^^^ Int32.ofInt y).toInt
def iShl (x y : Int) : Int := (Int32.ofInt x <<< (Int32.ofInt y &&& 31)).toInt
def iShr (x y : Int) : Int := (Int32.ofInt x >>> (Int32.ofInt y &&& 31)).toInt
def iUsh (x y : Int) : Int := ((Int32.ofInt x).toUInt32 >>> ((Int32.ofInt y).toUInt32 &&& Int32.toUInt32 31)).toInt32.toInt
def lAnd (x y : Int) : Int := (Int64.ofInt x &&& Int64.ofInt y).toInt
def lOr (x y : Int) : Int := (Int64.ofInt x ||| Int64.ofInt y).toInt
def lShl (x y : Int) : Int := (Int64.ofInt x <<< ((Int32.ofInt y).toInt64 &&& 63)).toInt
def iChr (x : Int) : Int := ((Int32.ofInt x).toUInt32 % 65536).toInt32.toInt
/-! LOCALS -/
def kl : Option Vl → Option Vl
  | some (.inr (.inl _)) => none
  | o => o
def lget : List (Option Vl) → Nat → Option Vl
  | [], _ => none
  | a :: _, 0 => a
  | _ :: t, n + 1 => lget t n
def lset1 : List (Option Vl) → Nat → Vl → Option (List (Option Vl))
  | [], _, _ => none
  | _ :: t, 0, v => some (some v :: t)
  | a :: t, n + 1, v => match lset1 t n v with
    | none => none
    | some t' => some ((match n with | 0 => kl a | _ => a) :: t')
def lset2 : List (Option Vl) → Nat → Vl → Option (List (Option Vl))
  | [], _, _ => none
  | [_], _, _ => none
  | _ :: _ :: t, 0, v => some (some v :: none :: t)
  | a :: b :: t, n + 1, v => match lset2 (b :: t) n v with
    | none => none
    | some t' => some ((match n with | 0 => kl a | _ => a) :: t')
def LO (κ : Kx) (lsA : Array Slot) (n : Nat) (ls : List (Option Vl)) : Prop := lsA.size = n ∧ ls.length = n ∧ lv_wf lsA ∧ ∀ (i : Nat) (v : Vl), lget ls i = some v → lsA[i]? = some (.val (tr κ v))
def fl : List Vl → List (Option Vl)
  | [] => []
  | .inr (.inl z) :: r => some (.inr (.inl z)) :: none :: fl r
  | v :: r => some v :: fl r
theorem lget_lt {ls : List (Option Vl)} : ∀ {i : Nat} {v : Vl}, lget ls i = some v → i < ls.length := by
  induction ls with
  | nil => intro i v h; cases h
  | cons a t ih =>
    intro i v h
    cases i with
    | zero => simp
    | succ n => have := ih (show lget t n = some v from h); simp; omega
theorem lset1_spec : ∀ {ls : List (Option Vl)} {i : Nat} {v : Vl} {ls' : List (Option Vl)}, lset1 ls i v = some ls' → i < ls.length ∧ ls'.length = ls.length ∧ ∀ (j : Nat) (w : Vl), lget ls' j = some w → (j = i ∧ w = v) ∨ (j ≠ i ∧ lget ls j = some w ∧ ¬ (j + 1 = i ∧ ∃ z, w = .inr (.inl z))) := by
  intro ls
  induction ls with
  | nil => intro i v ls' h; cases h
  | cons a t ih =>
    intro i v ls' h
    cases i with
    | zero =>
      cases h
      refine ⟨by simp, by simp, fun j w hj => ?_⟩
      cases j with
      | zero => exact Or.inl ⟨rfl, (Option.some.inj hj).symm⟩
      | succ j => exact Or.inr ⟨by omega, hj, fun q => by omega⟩
    | succ n =>
      unfold lset1 at h
      cases h1 : lset1 t n v with
      | none => rw [h1] at h; cases h
      | some t' =>
        rw [h1] at h
        obtain ⟨q1, q2, q3⟩ := ih h1
        have h := Option.some.inj h
        subst h
        refine ⟨by simp; omega, by simp; omega, fun j w hj => ?_⟩
        cases j with
        | zero =>
          cases n with
          | zero =>
            have hj : kl a = some w := hj
            refine Or.inr ⟨by omega, ?_, ?_⟩
            · show a = some w
              unfold kl at hj
              split at hj
              · cases hj
              · exact hj
            · rintro ⟨-, z, rfl⟩
              unfold kl at hj
              split at hj
              · cases hj
              · rename_i h8
                exact h8 z hj
          | succ n => exact Or.inr ⟨by omega, hj, fun q => by omega⟩
        | succ j =>
          rcases q3 j w hj with ⟨e1, e2⟩ | ⟨e1, e2, e3⟩
          · exact Or.inl ⟨by omega, e2⟩
          · exact Or.inr ⟨by omega, e2, fun q => e3 ⟨by omega, q.2⟩⟩
theorem lset2_spec : ∀ {ls : List (Option Vl)} {i : Nat} {v : Vl} {ls' : List (Option Vl)}, lset2 ls i v = some ls' → i + 1 < ls.length ∧ ls'.length = ls.length ∧ ∀ (j : Nat) (w : Vl), lget ls' j = some w → (j = i ∧ w = v) ∨ (j ≠ i ∧ j ≠ i + 1 ∧ lget ls j = some w ∧ ¬ (j + 1 = i ∧ ∃ z, w = .inr (.inl z))) := by
  intro ls
  induction ls with
  | nil => intro i v ls' h; cases h
  | cons a t ih =>
    intro i v ls' h
    cases t with
    | nil => cases h
    | cons b t =>
    cases i with
    | zero =>
      cases h
      refine ⟨by simp, by simp, fun j w hj => ?_⟩
      cases j with
      | zero => exact Or.inl ⟨rfl, (Option.some.inj hj).symm⟩
      | succ j =>
        cases j with
        | zero => cases hj
        | succ j => exact Or.inr ⟨by omega, by omega, hj, fun q => by omega⟩
    | succ n =>
      unfold lset2 at h
      cases h1 : lset2 (b :: t) n v with
      | none => rw [h1] at h; cases h
      | some t' =>
        rw [h1] at h
        obtain ⟨q1, q2, q3⟩ := ih h1
        have h := Option.some.inj h
        subst h
        simp only [List.length_cons] at q1 q2
        refine ⟨by simp; omega, by simp; omega, fun j w hj => ?_⟩
        cases j with
        | zero =>
          cases n with
          | zero =>
            have hj : kl a = some w := hj
            refine Or.inr ⟨by omega, by omega, ?_, ?_⟩
            · show a = some w
              unfold kl at hj
              split at hj
              · cases hj
              · exact hj
            · rintro ⟨-, z, rfl⟩
              unfold kl at hj
              split at hj
              · cases hj
              · rename_i h8
                exact h8 z hj
          | succ n => exact Or.inr ⟨by omega, by omega, hj, fun q => by omega⟩
        | succ j =>
          rcases q3 j w hj with ⟨e1, e2⟩ | ⟨e1, e0, e2, e3⟩
          · exact Or.inl ⟨by omega, e2⟩
          · exact Or.inr ⟨by omega, by omega, e2, fun q => e3 ⟨by omega, q.2⟩⟩
theorem tr_cat1 (κ : Kx) {v : Vl} (h : ∀ z, v ≠ .inr (.inl z)) : (tr κ v).category = 1 := by
  match v, h with
  | .inl z, _ => rfl
  | .inr (.inl z), h => exact absurd rfl (h z)
  | .inr (.inr n), _ => exact ad_cat κ n
/-- the list of what is known -/
def lkn (κ : Kx) (ls : List (Option Vl)) : List (Nat × Value) := (List.range ls.length).filterMap fun i => (lget ls i).map fun v => (i, tr κ v)
theorem lkn_mem (κ : Kx) {ls : List (Option Vl)} {i : Nat} {v : Vl} (h : lget ls i = some v) : (i, tr κ v) ∈ lkn κ ls := List.mem_filterMap.mpr ⟨i, List.mem_range.mpr (lget_lt h), by rw [h]; rfl⟩
theorem lkn_of (κ : Kx) {ls : List (Option Vl)} {q : Nat × Value} (h : q ∈ lkn κ ls) : ∃ v, lget ls q.1 = some v ∧ q.2 = tr κ v := by
  obtain ⟨i, -, hi⟩ := List.mem_filterMap.mp h
  cases hv : lget ls i with
  | none => rw [hv] at hi; cases hi
  | some v =>
    rw [hv] at hi
    have hi := Option.some.inj hi
    subst hi
    exact ⟨v, hv, rfl⟩
theorem LO.has {κ : Kx} {lsA : Array Slot} {n : Nat} {ls : List (Option Vl)} (h : LO κ lsA n ls) : lv_has lsA n (lkn κ ls) := ⟨h.1, h.2.2.1, fun q hq => by
  obtain ⟨v, h1, h2⟩ := lkn_of κ hq
  rw [h2]; exact h.2.2.2 _ _ h1⟩
theorem LO.set1 {κ : Kx} {lsA lsB : Array Slot} {n i : Nat} {ls ls' : List (Option Vl)} {v : Vl} (h : LO κ lsA n ls) (hs : lset1 ls i v = some ls') (hB : lv_has lsB n ((i, tr κ v) :: (lkn κ ls).filter (fun q => !(q.1 == i) && !(q.1 + 1 == i && q.2.category == 2)))) : LO κ lsB n ls' := by
  obtain ⟨q1, q2, q3⟩ := lset1_spec hs
  refine ⟨hB.1, q2.trans h.2.1, hB.2.1, fun j w hj => ?_⟩
  rcases q3 j w hj with ⟨rfl, rfl⟩ | ⟨e1, e2, e3⟩
  · exact hB.2.2 _ List.mem_cons_self
  · refine hB.2.2 (j, tr κ w) (List.mem_cons_of_mem _ (List.mem_filter.mpr ⟨lkn_mem κ e2, ?_⟩))
    have h1 : (j == i) = false := by simpa using e1
    show (!(j == i) && !(j + 1 == i && (tr κ w).category == 2)) = true
    rw [h1]
    by_cases hji : j + 1 = i
    · rw [tr_cat1 κ (fun z hz => e3 ⟨hji, z, hz⟩)]
      simp
    · have : (j + 1 == i) = false := by simpa using hji
      rw [this]; rfl
theorem LO.set2 {κ : Kx} {lsA lsB : Array Slot} {n i : Nat} {ls ls' : List (Option Vl)} {v : Vl} (h : LO κ lsA n ls) (hs : lset2 ls i v = some ls') (hB : lv_has lsB n ((i, tr κ v) :: (lkn κ ls).filter (fun q => !(q.1 == i) && (!(q.1 == i + 1) && !(q.1 + 1 == i && q.2.category == 2))))) : LO κ lsB n ls' := by
  obtain ⟨q1, q2, q3⟩ := lset2_spec hs
  refine ⟨hB.1, q2.trans h.2.1, hB.2.1, fun j w hj => ?_⟩
  rcases q3 j w hj with ⟨rfl, rfl⟩ | ⟨e1, e0, e2, e3⟩
  · exact hB.2.2 _ List.mem_cons_self
  · refine hB.2.2 (j, tr κ w) (List.mem_cons_of_mem _ (List.mem_filter.mpr ⟨lkn_mem κ e2, ?_⟩))
    have h1 : (j == i) = false := by simpa using e1
    have h2 : (j == i + 1) = false := by simpa using e0
    show (!(j == i) && (!(j == i + 1) && !(j + 1 == i && (tr κ w).category == 2))) = true
    rw [h1, h2]
    by_cases hji : j + 1 = i
    · rw [tr_cat1 κ (fun z hz => e3 ⟨hji, z, hz⟩)]
      simp
    · have : (j + 1 == i) = false := by simpa using hji
      rw [this]; rfl
