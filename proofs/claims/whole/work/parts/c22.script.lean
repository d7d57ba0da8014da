/-! THE LAW: the script's ints, rows for it -/
abbrev scv (κ : Kx) (j : Nat) : Int := (κ.2.2.2.2.2 j).toInt
theorem scv_R (κ : Kx) (j : Nat) : R32 (scv κ j) := ⟨Int32.le_toInt _, by have := Int32.toInt_lt (κ.2.2.2.2.2 j); show (κ.2.2.2.2.2 j).toInt ≤ _; omega⟩
abbrev lgv (κ : Kx) (a b : Nat) : Int := lOr (lShl (scv κ a) 32) (lAnd (scv κ b) 4294967295)
theorem lgv_R (κ : Kx) (a b : Nat) : R64 (lgv κ a b) := ⟨Int64.le_toInt _, by have := Int64.toInt_lt (Int64.ofInt (lShl (scv κ a) 32) ||| Int64.ofInt (lAnd (scv κ b) 4294967295)); unfold lgv lOr; omega⟩
section SCR
variable {κ : Kx} {M : Ms} {rm : Room} {P : Option Vl → Om → Prop} {PX : String → Om → Prop} {mc ms : Nat} {μ : Mu} {cells slots : Nat} {Ω : Om} {pc : Nat} {ls : List (Option Vl)} {st : List Vl} {a : Vl}
theorem X_at (g : Gd κ M μ) : va_X (kSp κ 0) κ.2.2.2.2.1 κ.2.2.2.2.2 (mS μ) (mS μ).heap ∧ kSp κ 0 < (mS μ).heap.size ∧ ¬ aA κ (kSp κ 0) := by
  have h := g.1.2.2.2.2.2
  have hlt : kSp κ 0 < (kS κ).heap.size := by obtain ⟨scr, h1, -⟩ := h; exact (Array.getElem?_eq_some_iff.mp h1).1
  have hA : ¬ aA κ (kSp κ 0) := fun q => Nat.lt_irrefl _ (Nat.lt_of_lt_of_le hlt (show kB κ ≤ kSp κ 0 from q))
  exact ⟨(va_X.moved g.2.2.2.2.2.2.2.2.1.alike h).kept (hs_at g _ hlt hA), Nat.lt_of_lt_of_le hlt g.2.2.2.2.2.2.2.2.2.1, hA⟩
theorem V_slen (hd : decode (MB M) pc = .ok (.arraylength, 1)) (k : V κ M rm P PX mc ms μ cells slots Ω (pc + 1) ls (.inl (κ.2.2.2.2.1 : Nat) :: st)) : V κ M rm P PX mc ms μ cells slots Ω pc ls (.inr (.inr 1000000) :: st) := by
  intro g H locs lsA hH hL hl2 T hT X
  have k1 := k g H locs lsA hH hL hl2
  simp only [List.map_cons] at k1 ⊢
  have hS := S_at g hH hL (by rw [← hT]; exact X.same.2.1)
  obtain ⟨x1, x2, x3⟩ := X_at g
  rw [show tr κ (.inr (.inr 1000000)) = .ref (kSp κ 0) from ad_str κ (n := 1000000) ⟨by decide, by decide⟩]
  refine va_slen (rest := st.map (tr κ)) g.2.1 g.2.2.1 x1 x2 x3 hS hd ?_ T hT X
  rw [ofNat_ofInt]
  exact k1
theorem V_sld {j : Int} (n : Nat) (hd : decode (MB M) pc = .ok (.iaload, 1)) (hj : j = (n : Nat)) (hn : n < κ.2.2.2.2.1) (hL0 : κ.2.2.2.2.1 ≤ 3584) (k : V κ M rm P PX mc ms μ cells slots Ω (pc + 1) ls (.inl (scv κ n) :: st)) : V κ M rm P PX mc ms μ cells slots Ω pc ls (.inl j :: .inr (.inr 1000000) :: st) := by
  subst hj
  intro g H locs lsA hH hL hl2 T hT X
  have k1 := k g H locs lsA hH hL hl2
  simp only [List.map_cons] at k1 ⊢
  have hS := S_at g hH hL (by rw [← hT]; exact X.same.2.1)
  obtain ⟨x1, x2, x3⟩ := X_at g
  obtain ⟨c1, c2⟩ := N_clamp (N := n) (by omega)
  rw [show tr κ (.inr (.inr 1000000)) = .ref (kSp κ 0) from ad_str κ (n := 1000000) ⟨by decide, by decide⟩]
  refine va_sld (rest := st.map (tr κ)) g.2.1 g.2.2.1 x1 x2 x3 hS (i := Int32.ofInt (n : Nat)) (by
    unfold vp_in
    rw [c2]
    intro q
    rcases q with q | q
    · exact c1 q
    · omega) hd ?_ T hT X
  rw [c2]
  rw [show tr κ (.inl (scv κ n)) = .int (κ.2.2.2.2.2 n) from congrArg Value.int (Int32.ofInt_toInt _)] at k1
  exact k1
theorem V_w32b {z : Int} (k : V κ M rm P PX mc ms μ cells slots Ω pc ls (a :: .inl (w32 z) :: st)) : V κ M rm P PX mc ms μ cells slots Ω pc ls (a :: .inl z :: st) := by
  intro g H locs lsA hH hL hl
  have k1 := k g H locs lsA hH hL hl
  simp only [List.map_cons] at k1 ⊢
  rw [show tr κ (.inl (w32 z)) = tr κ (.inl z) from congrArg Value.int (w32_of z)] at k1
  exact k1
end SCR
abbrev PL : Option Vl → Om → Prop := fun v _ => v = some (.inl 1)
abbrev LV (κ : Kx) (μ : Mu) (c t : Nat) (G : Wd) (pc : Nat) (ls : List (Option Vl)) (st : List Vl) : Prop := V κ ML_law room_1 PL noX 601024 7293034 μ c t (Wm G) pc ls st
/-- what a call leaves, and goes on behind it -/
abbrev LG (κ : Kx) (μ : Mu) (c t : Nat) (K : Int) (ii : Int) : Prop := ∀ (G' : Wd) (s' : Nat) (A' : Ab) (y5 y6 y7 : Option Vl) (c' t' : Nat), RC G' s' A' → RM G' A' → Inv (K + 1) A' → c' ≤ c + 16 → t' ≤ t + 128 → LV κ μ c' t' G' 3271 [some (VR 1000000), some (VR 1), some (VR 145), some (VR 189), some (VI ii), y5, y6, y7] []
theorem fit_law : fitR room_1 90 := ⟨by decide, by decide⟩
theorem cd_R {z : Int} (h : z = 0 ∨ z = 1 ∨ z = 2) : R32 z := by rcases h with h | h | h <;> rw [h] <;> exact ⟨by decide, by decide⟩
theorem r64w (z : Int) : R64 (w32 z) := r32_64 (w32_R z)
