/-! THE WORLD: what a heap holds -/
/-- the kinds of a class's slots: 0 int, 1 long, 2 a reference that stays, 3 a reference that changes, 4 boolean -/
def skT : List (List Nat) := [[0,0,0,0,0,2,2], [2,2,0,2,2,0], [2,2,2,0,0,0,0,2,2,0,2], [2,2,0], [2,0], [2,0,0,0,2,2,0,2,0], [2,0,2,2,0,2,4,2,0,2,0], [2,0], [2,0,2,2,2,0,0], [2], [2,0,2,3,3,0,2,2,4,2,2,2,2,2,2]]
def atk (C : String) (ty : FieldType) : Nat := match ty with | .int => 0 | .long => 1 | .boolean => 4 | _ => if C = "" then 3 else 2
/-- the last class: its kinds are read off its types -/
def skd (ci k : Nat) : Nat := if ci = 11 then atk "x" (tyX12 k) else (skT.getD ci []).getD k 0
def aty : Nat → FieldType
  | 0 => .int
  | 1 => .long
  | 2 => .boolean
  | 3 => .object "TornLeaves$Book"
  | 4 => .object "TornLeaves$LeafSet"
  | _ => .object "java/lang/String"
def fv (κ : Kx) (Ω : Om) (a ci k : Nat) : Value :=
  if skd ci k = 1 then .long (Int64.ofInt (Ω.2.2.2.1 a k)) else if skd ci k = 2 then ad κ ((Ω.1.2 a k).getD 0) else if skd ci k = 3 then ad κ (Ω.2.2.2.2 a k) else .int (Int32.ofInt (Ω.2.2.1 a k))
def ev (κ : Kx) (Ω : Om) (a ty j : Nat) : Value :=
  if ty = 1 then .long (Int64.ofInt (Ω.2.2.2.1 a j)) else if 3 ≤ ty then ad κ ((Ω.1.2 a j).getD 0) else .int (Int32.ofInt (Ω.2.2.1 a j))
def CO (κ : Kx) (Ω : Om) (a : Nat) (t : Tg) (H : Heap) : Prop := match t with
  | .inl ci => ∃ r : vw_C, vwCl[ci]? = some r ∧ t_OB (kB κ + (a - 1)) ((kD κ).1 ci) r.2.2 ((kD κ).2 ci) H (fv κ Ω a ci)
  | .inr q => q.2 < 2147483648 ∧ ∃ cA : ClassId, H[kB κ + (a - 1)]? = some (arrV cA q.2 (ev κ Ω a q.1)) ∧ va_K (kD κ) vwCl [(cA, aty q.1)] (kS κ)
/-- the heap: what was there before is as it was; every name's cell holds what the world says -/
def HO (κ : Kx) (Ω : Om) (H : Heap) : Prop :=
  kB κ ≤ H.size ∧ (∀ q : Nat, q < kB κ → H[q]? = (kS κ).heap[q]?) ∧ (∀ n : Nat, Ω.2.1 = some n → H.size = kB κ + n) ∧ ∀ (a : Nat) (t : Tg), Ω.1.1 a = some t → 0 < a ∧ a < 1000000 ∧ CO κ Ω a t H
/-- what is known of a run's start -/
def KOK (κ : Kx) : Prop :=
  κ.1.stackTraces = false ∧ (∃ a0 : Array Value, ∀ w ∈ lw_tbl, w.before a0 (kS κ) = true) ∧ va_K (kD κ) vwCl [] (kS κ) ∧
  vx_Zq Bundle.tN "UNASSIGNED_STACK" Bundle.steD (fun q => kB κ ≤ q) (kS κ) (kS κ).heap ∧ vx_Zq Bundle.tN "SUPPRESSED_SENTINEL" Bundle.listD (fun q => kB κ ≤ q) (kS κ) (kS κ).heap ∧
  va_X (kSp κ 0) κ.2.2.2.2.1 κ.2.2.2.2.2 (kS κ) (kS κ).heap
def WU : List Cond := lw_tbl.filter goodWord
theorem WU_good : ∀ w ∈ WU, goodWord w = true := fun _ h => (List.mem_filter.mp h).2
theorem WU_GoodIn : GoodIn WU WU := fun w h => ⟨h, good_of_word (WU_good w h)⟩
theorem u_ws_WU {C : String} {T : u_T} {N : Nat} (h : (u_ws C T N).all (fun w => decide (w ∈ lw_tbl) && goodWord w) = true) : ∀ w ∈ u_ws C T N, w ∈ WU := fun w hw => by
  have h1 := List.all_eq_true.mp h w hw
  simp only [Bool.and_eq_true, decide_eq_true_eq] at h1
  exact List.mem_filter.mpr h1
theorem iw_0 : ∀ w ∈ u_ws RX0 TX0 7, w ∈ WU := u_ws_WU (by decide +kernel)
theorem iw_1 : ∀ w ∈ u_ws RX1 TX1 6, w ∈ WU := u_ws_WU (by decide +kernel)
theorem iw_2 : ∀ w ∈ u_ws RX2 TX2 11, w ∈ WU := u_ws_WU (by decide +kernel)
theorem iw_3 : ∀ w ∈ u_ws RX4 TX4 3, w ∈ WU := u_ws_WU (by decide +kernel)
theorem iw_4 : ∀ w ∈ u_ws RX5 TX5 2, w ∈ WU := u_ws_WU (by decide +kernel)
theorem iw_5 : ∀ w ∈ u_ws RX6 TX6 9, w ∈ WU := u_ws_WU (by decide +kernel)
theorem iw_6 : ∀ w ∈ u_ws RX7 TX7 11, w ∈ WU := u_ws_WU (by decide +kernel)
theorem iw_7 : ∀ w ∈ u_ws RX8 TX8 2, w ∈ WU := u_ws_WU (by decide +kernel)
theorem iw_8 : ∀ w ∈ u_ws RX9 TX9 7, w ∈ WU := u_ws_WU (by decide +kernel)
theorem iw_9 : ∀ w ∈ u_ws RX10 TX10 1, w ∈ WU := u_ws_WU (by decide +kernel)
theorem iw_10 : ∀ w ∈ u_ws RX11 TX11 15, w ∈ WU := u_ws_WU (by decide +kernel)
theorem iw_11 : ∀ w ∈ u_ws RX12 TX12 76, w ∈ WU := u_ws_WU (by decide +kernel)
/-- a class's rows, by its place: words in WU, types, names apart -/
def ctyp (ci : Nat) : Nat → FieldType := match ci with
  | 0 => tyX0 | 1 => tyX1 | 2 => tyX2 | 3 => tyX4 | 4 => tyX5 | 5 => tyX6 | 6 => tyX7 | 7 => tyX8 | 8 => tyX9 | 9 => tyX10 | 10 => tyX11 | _ => tyX12
theorem cl_rows {ci : Nat} {r : vw_C} (h : vwCl[ci]? = some r) : (∀ w ∈ u_ws r.1 r.2.1 r.2.2, w ∈ WU) ∧ (∀ k, k < r.2.2 → parseFieldDescriptor (r.2.1 k).2.2.1 = some (ctyp ci k)) ∧ (∀ a, a < r.2.2 → ∀ b, b < r.2.2 → a ≠ b → (r.2.1 a).2.1 ≠ (r.2.1 b).2.1) := by
  match ci, h with
  | 0, h => cases h; exact ⟨iw_0, tyX0_ok, nmX0⟩
  | 1, h => cases h; exact ⟨iw_1, tyX1_ok, nmX1⟩
  | 2, h => cases h; exact ⟨iw_2, tyX2_ok, nmX2⟩
  | 3, h => cases h; exact ⟨iw_3, tyX4_ok, nmX4⟩
  | 4, h => cases h; exact ⟨iw_4, tyX5_ok, nmX5⟩
  | 5, h => cases h; exact ⟨iw_5, tyX6_ok, nmX6⟩
  | 6, h => cases h; exact ⟨iw_6, tyX7_ok, nmX7⟩
  | 7, h => cases h; exact ⟨iw_7, tyX8_ok, nmX8⟩
  | 8, h => cases h; exact ⟨iw_8, tyX9_ok, nmX9⟩
  | 9, h => cases h; exact ⟨iw_9, tyX10_ok, nmX10⟩
  | 10, h => cases h; exact ⟨iw_10, tyX11_ok, nmX11⟩
  | 11, h => cases h; exact ⟨iw_11, tyX12_ok, nmX12⟩
  | n + 12, h => simp [vwCl] at h
/-- the kind says the type -/
def skM (ci k : Nat) : Bool := match skd ci k with
  | 0 => decide (ctyp ci k = .int)
  | 1 => decide (ctyp ci k = .long)
  | 4 => decide (ctyp ci k = .boolean)
  | 2 => (match ctyp ci k with | .object _ => true | .array _ => true | _ => false)
  | 3 => (match ctyp ci k with | .object _ => true | .array _ => true | _ => false)
  | _ => false
def skOK : Bool := (List.range 12).all fun ci => (List.range 76).all fun k => decide ((vwCl.getD ci ("", fun _ => ("", "", "", false), 0)).2.2 ≤ k) || skM ci k
theorem skOK_t : skOK = true := by decide +kernel
theorem sk_all {ci k : Nat} {r : vw_C} (hc : vwCl[ci]? = some r) (hk : k < r.2.2) : skM ci k = true := by
  have h1 : ci < 12 := (List.getElem?_eq_some_iff.mp hc).1
  have h3 : (vwCl.getD ci ("", fun _ => ("", "", "", false), 0)) = r := by rw [List.getD_eq_getElem?_getD, hc]; rfl
  have h2 : r.2.2 ≤ 76 := by
    match ci, hc with
    | 0, h => cases h; decide
    | 1, h => cases h; decide
    | 2, h => cases h; decide
    | 3, h => cases h; decide
    | 4, h => cases h; decide
    | 5, h => cases h; decide
    | 6, h => cases h; decide
    | 7, h => cases h; decide
    | 8, h => cases h; decide
    | 9, h => cases h; decide
    | 10, h => cases h; decide
    | 11, h => cases h; decide
    | n + 12, h => simp [vwCl] at h
  have h := List.all_eq_true.mp (List.all_eq_true.mp skOK_t ci (List.mem_range.mpr h1)) k (List.mem_range.mpr (by omega))
  rw [h3] at h
  simp only [Bool.or_eq_true, decide_eq_true_eq] at h
  rcases h with h | h
  · omega
  · exact h
