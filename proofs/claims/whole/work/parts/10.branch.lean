/-! BRANCHES, RETURNS, CALLS, CONTRACTS -/
def b2i (b : Bool) : Int := if b then 1 else 0
theorem b2i_01 (b : Bool) : b2i b = 0 ∨ b2i b = 1 := by cases b <;> simp [b2i]
theorem b2i_0 {b : Bool} : b2i b = 0 ↔ b = false := by cases b <;> simp [b2i]
theorem b2i_1 {b : Bool} : b2i b = 1 ↔ b = true := by cases b <;> simp [b2i]
def TS (W : Nat → Prop) (x : Int) : Int → List Nat → Prop
  | _, [] => True
  | lo, t :: r => (x = lo → W t) ∧ TS W x (lo + 1) r
theorem TS_at {W : Nat → Prop} {x : Int} : ∀ {l : List Nat} {lo : Int} {i t : Nat}, TS W x lo l → l[i]? = some t → x = lo + i → W t := by
  intro l
  induction l with
  | nil => intro lo i t _ h; simp at h
  | cons a r ih =>
    intro lo i t h hi hx
    cases i with
    | zero => simp at hi; subst hi; exact h.1 (by omega)
    | succ i => exact ih (lo := lo + 1) (i := i) h.2 (by simpa using hi) (by omega)
section BR
variable {κ : Kx} {M : Ms} {rm : Room} {P : Option Vl → Om → Prop} {PX : String → Om → Prop} {mc ms : Nat} {μ : Mu} {cells slots : Nat} {Ω : Om} {pc tgt : Nat} {off : Int} {ls : List (Option Vl)} {st : List Vl}
theorem V_goto (hd : decode (MB M) pc = .ok (.goto off, 3)) (ht : (pc : Int) + off = (tgt : Int)) (k : V κ M rm P PX mc ms μ cells slots Ω tgt ls st) : V κ M rm P PX mc ms μ cells slots Ω pc ls st := by
  intro g H locs lsA hH hL hl
  exact lv_goto g.2.1 g.2.2.1 hd ht (k g H locs lsA hH hL hl)

theorem V_icmpeq {x y : Int} (hd : decode (MB M) pc = .ok (.if_icmp .eq off, 3)) (ht : (pc : Int) + off = (tgt : Int)) (hr : R32 x ∧ R32 y) (kt : x = y → V κ M rm P PX mc ms μ cells slots Ω tgt ls st) (kf : ¬ x = y → V κ M rm P PX mc ms μ cells slots Ω (pc + 3) ls st) : V κ M rm P PX mc ms μ cells slots Ω pc ls (.inl y :: .inl x :: st) := by
  intro g H locs lsA hH hL hl
  obtain ⟨hx, hy⟩ := hr
  have kt := fun q => kt q g H locs lsA hH hL hl
  have kf := fun q => kf q g H locs lsA hH hL hl
  exact lv_icmp_eq g.2.1 g.2.2.1 hd ht (fun q => kt ((i32_eq hx hy).mp q)) (fun q => kf (by have q2 : ¬ (x = y) := fun z => q ((i32_eq hx hy).mpr z); omega))

theorem V_ifeq {x : Int} (hd : decode (MB M) pc = .ok (.ifCond .eq off, 3)) (ht : (pc : Int) + off = (tgt : Int)) (hx : R32 x) (kt : x = 0 → V κ M rm P PX mc ms μ cells slots Ω tgt ls st) (kf : ¬ x = 0 → V κ M rm P PX mc ms μ cells slots Ω (pc + 3) ls st) : V κ M rm P PX mc ms μ cells slots Ω pc ls (.inl x :: st) := by
  intro g H locs lsA hH hL hl
  have kt := fun q => kt q g H locs lsA hH hL hl
  have kf := fun q => kf q g H locs lsA hH hL hl
  exact lv_if_eq g.2.1 g.2.2.1 hd ht (fun q => kt ((i32_eq hx r32_0).mp q)) (fun q => kf (by have q2 : ¬ (x = 0) := fun z => q ((i32_eq hx r32_0).mpr z); omega))

theorem V_lifeq {x y : Int} (hd : decode (MB M) pc = .ok (.ifCond .eq off, 3)) (ht : (pc : Int) + off = (tgt : Int)) (kt : x = y → V κ M rm P PX mc ms μ cells slots Ω tgt ls st) (kf : ¬ x = y → V κ M rm P PX mc ms μ cells slots Ω (pc + 3) ls st) : V κ M rm P PX mc ms μ cells slots Ω pc ls (.inl (lc3 x y) :: st) :=
  V_ifeq hd ht (lc3_r x y) (fun q => kt (lc3_eq.mp q)) (fun q => kf (by have q3 : ¬ ((lc3 x y) = 0) := (by omega); have q2 : ¬ (x = y) := fun z => q3 (lc3_eq.mpr z); omega))

theorem V_icmpne {x y : Int} (hd : decode (MB M) pc = .ok (.if_icmp .ne off, 3)) (ht : (pc : Int) + off = (tgt : Int)) (hr : R32 x ∧ R32 y) (kt : ¬ x = y → V κ M rm P PX mc ms μ cells slots Ω tgt ls st) (kf : x = y → V κ M rm P PX mc ms μ cells slots Ω (pc + 3) ls st) : V κ M rm P PX mc ms μ cells slots Ω pc ls (.inl y :: .inl x :: st) := by
  intro g H locs lsA hH hL hl
  obtain ⟨hx, hy⟩ := hr
  have kt := fun q => kt q g H locs lsA hH hL hl
  have kf := fun q => kf q g H locs lsA hH hL hl
  exact lv_icmp_ne g.2.1 g.2.2.1 hd ht (fun q => kt (fun z => q ((i32_eq hx hy).mpr z))) (fun q => kf ((i32_eq hx hy).mp q))

theorem V_ifne {x : Int} (hd : decode (MB M) pc = .ok (.ifCond .ne off, 3)) (ht : (pc : Int) + off = (tgt : Int)) (hx : R32 x) (kt : ¬ x = 0 → V κ M rm P PX mc ms μ cells slots Ω tgt ls st) (kf : x = 0 → V κ M rm P PX mc ms μ cells slots Ω (pc + 3) ls st) : V κ M rm P PX mc ms μ cells slots Ω pc ls (.inl x :: st) := by
  intro g H locs lsA hH hL hl
  have kt := fun q => kt q g H locs lsA hH hL hl
  have kf := fun q => kf q g H locs lsA hH hL hl
  exact lv_if_ne g.2.1 g.2.2.1 hd ht (fun q => kt (fun z => q ((i32_eq hx r32_0).mpr z))) (fun q => kf ((i32_eq hx r32_0).mp q))

theorem V_lifne {x y : Int} (hd : decode (MB M) pc = .ok (.ifCond .ne off, 3)) (ht : (pc : Int) + off = (tgt : Int)) (kt : ¬ x = y → V κ M rm P PX mc ms μ cells slots Ω tgt ls st) (kf : x = y → V κ M rm P PX mc ms μ cells slots Ω (pc + 3) ls st) : V κ M rm P PX mc ms μ cells slots Ω pc ls (.inl (lc3 x y) :: st) :=
  V_ifne hd ht (lc3_r x y) (fun q => kt (fun z => q (lc3_eq.mpr z))) (fun q => kf (lc3_eq.mp q))

theorem V_icmplt {x y : Int} (hd : decode (MB M) pc = .ok (.if_icmp .lt off, 3)) (ht : (pc : Int) + off = (tgt : Int)) (hr : R32 x ∧ R32 y) (kt : x < y → V κ M rm P PX mc ms μ cells slots Ω tgt ls st) (kf : y ≤ x → V κ M rm P PX mc ms μ cells slots Ω (pc + 3) ls st) : V κ M rm P PX mc ms μ cells slots Ω pc ls (.inl y :: .inl x :: st) := by
  intro g H locs lsA hH hL hl
  obtain ⟨hx, hy⟩ := hr
  have kt := fun q => kt q g H locs lsA hH hL hl
  have kf := fun q => kf q g H locs lsA hH hL hl
  exact lv_icmp_lt g.2.1 g.2.2.1 hd ht (fun q => kt ((i32_lt hx hy).mp q)) (fun q => kf (by have q2 : ¬ (x < y) := fun z => q ((i32_lt hx hy).mpr z); omega))

theorem V_iflt {x : Int} (hd : decode (MB M) pc = .ok (.ifCond .lt off, 3)) (ht : (pc : Int) + off = (tgt : Int)) (hx : R32 x) (kt : x < 0 → V κ M rm P PX mc ms μ cells slots Ω tgt ls st) (kf : 0 ≤ x → V κ M rm P PX mc ms μ cells slots Ω (pc + 3) ls st) : V κ M rm P PX mc ms μ cells slots Ω pc ls (.inl x :: st) := by
  intro g H locs lsA hH hL hl
  have kt := fun q => kt q g H locs lsA hH hL hl
  have kf := fun q => kf q g H locs lsA hH hL hl
  exact lv_if_lt g.2.1 g.2.2.1 hd ht (fun q => kt ((i32_lt hx r32_0).mp q)) (fun q => kf (by have q2 : ¬ (x < 0) := fun z => q ((i32_lt hx r32_0).mpr z); omega))

theorem V_liflt {x y : Int} (hd : decode (MB M) pc = .ok (.ifCond .lt off, 3)) (ht : (pc : Int) + off = (tgt : Int)) (kt : x < y → V κ M rm P PX mc ms μ cells slots Ω tgt ls st) (kf : y ≤ x → V κ M rm P PX mc ms μ cells slots Ω (pc + 3) ls st) : V κ M rm P PX mc ms μ cells slots Ω pc ls (.inl (lc3 x y) :: st) :=
  V_iflt hd ht (lc3_r x y) (fun q => kt (lc3_lt.mp q)) (fun q => kf (by have q3 : ¬ ((lc3 x y) < 0) := (by omega); have q2 : ¬ (x < y) := fun z => q3 (lc3_lt.mpr z); omega))

theorem V_icmpge {x y : Int} (hd : decode (MB M) pc = .ok (.if_icmp .ge off, 3)) (ht : (pc : Int) + off = (tgt : Int)) (hr : R32 x ∧ R32 y) (kt : y ≤ x → V κ M rm P PX mc ms μ cells slots Ω tgt ls st) (kf : x < y → V κ M rm P PX mc ms μ cells slots Ω (pc + 3) ls st) : V κ M rm P PX mc ms μ cells slots Ω pc ls (.inl y :: .inl x :: st) := by
  intro g H locs lsA hH hL hl
  obtain ⟨hx, hy⟩ := hr
  have kt := fun q => kt q g H locs lsA hH hL hl
  have kf := fun q => kf q g H locs lsA hH hL hl
  exact lv_icmp_ge g.2.1 g.2.2.1 hd ht (fun q => kt ((i32_le hy hx).mp q)) (fun q => kf (by have q2 : ¬ (y ≤ x) := fun z => q ((i32_le hy hx).mpr z); omega))

theorem V_ifge {x : Int} (hd : decode (MB M) pc = .ok (.ifCond .ge off, 3)) (ht : (pc : Int) + off = (tgt : Int)) (hx : R32 x) (kt : 0 ≤ x → V κ M rm P PX mc ms μ cells slots Ω tgt ls st) (kf : x < 0 → V κ M rm P PX mc ms μ cells slots Ω (pc + 3) ls st) : V κ M rm P PX mc ms μ cells slots Ω pc ls (.inl x :: st) := by
  intro g H locs lsA hH hL hl
  have kt := fun q => kt q g H locs lsA hH hL hl
  have kf := fun q => kf q g H locs lsA hH hL hl
  exact lv_if_ge g.2.1 g.2.2.1 hd ht (fun q => kt ((i32_le r32_0 hx).mp q)) (fun q => kf (by have q2 : ¬ (0 ≤ x) := fun z => q ((i32_le r32_0 hx).mpr z); omega))

theorem V_lifge {x y : Int} (hd : decode (MB M) pc = .ok (.ifCond .ge off, 3)) (ht : (pc : Int) + off = (tgt : Int)) (kt : y ≤ x → V κ M rm P PX mc ms μ cells slots Ω tgt ls st) (kf : x < y → V κ M rm P PX mc ms μ cells slots Ω (pc + 3) ls st) : V κ M rm P PX mc ms μ cells slots Ω pc ls (.inl (lc3 x y) :: st) :=
  V_ifge hd ht (lc3_r x y) (fun q => kt (lc3_ge.mp q)) (fun q => kf (by have q3 : ¬ (0 ≤ (lc3 x y)) := (by omega); have q2 : ¬ (y ≤ x) := fun z => q3 (lc3_ge.mpr z); omega))

theorem V_icmpgt {x y : Int} (hd : decode (MB M) pc = .ok (.if_icmp .gt off, 3)) (ht : (pc : Int) + off = (tgt : Int)) (hr : R32 x ∧ R32 y) (kt : y < x → V κ M rm P PX mc ms μ cells slots Ω tgt ls st) (kf : x ≤ y → V κ M rm P PX mc ms μ cells slots Ω (pc + 3) ls st) : V κ M rm P PX mc ms μ cells slots Ω pc ls (.inl y :: .inl x :: st) := by
  intro g H locs lsA hH hL hl
  obtain ⟨hx, hy⟩ := hr
  have kt := fun q => kt q g H locs lsA hH hL hl
  have kf := fun q => kf q g H locs lsA hH hL hl
  exact lv_icmp_gt g.2.1 g.2.2.1 hd ht (fun q => kt ((i32_lt hy hx).mp q)) (fun q => kf (by have q2 : ¬ (y < x) := fun z => q ((i32_lt hy hx).mpr z); omega))

theorem V_ifgt {x : Int} (hd : decode (MB M) pc = .ok (.ifCond .gt off, 3)) (ht : (pc : Int) + off = (tgt : Int)) (hx : R32 x) (kt : 0 < x → V κ M rm P PX mc ms μ cells slots Ω tgt ls st) (kf : x ≤ 0 → V κ M rm P PX mc ms μ cells slots Ω (pc + 3) ls st) : V κ M rm P PX mc ms μ cells slots Ω pc ls (.inl x :: st) := by
  intro g H locs lsA hH hL hl
  have kt := fun q => kt q g H locs lsA hH hL hl
  have kf := fun q => kf q g H locs lsA hH hL hl
  exact lv_if_gt g.2.1 g.2.2.1 hd ht (fun q => kt ((i32_lt r32_0 hx).mp q)) (fun q => kf (by have q2 : ¬ (0 < x) := fun z => q ((i32_lt r32_0 hx).mpr z); omega))

theorem V_lifgt {x y : Int} (hd : decode (MB M) pc = .ok (.ifCond .gt off, 3)) (ht : (pc : Int) + off = (tgt : Int)) (kt : y < x → V κ M rm P PX mc ms μ cells slots Ω tgt ls st) (kf : x ≤ y → V κ M rm P PX mc ms μ cells slots Ω (pc + 3) ls st) : V κ M rm P PX mc ms μ cells slots Ω pc ls (.inl (lc3 x y) :: st) :=
  V_ifgt hd ht (lc3_r x y) (fun q => kt (lc3_gt.mp q)) (fun q => kf (by have q3 : ¬ (0 < (lc3 x y)) := (by omega); have q2 : ¬ (y < x) := fun z => q3 (lc3_gt.mpr z); omega))

theorem V_icmple {x y : Int} (hd : decode (MB M) pc = .ok (.if_icmp .le off, 3)) (ht : (pc : Int) + off = (tgt : Int)) (hr : R32 x ∧ R32 y) (kt : x ≤ y → V κ M rm P PX mc ms μ cells slots Ω tgt ls st) (kf : y < x → V κ M rm P PX mc ms μ cells slots Ω (pc + 3) ls st) : V κ M rm P PX mc ms μ cells slots Ω pc ls (.inl y :: .inl x :: st) := by
  intro g H locs lsA hH hL hl
  obtain ⟨hx, hy⟩ := hr
  have kt := fun q => kt q g H locs lsA hH hL hl
  have kf := fun q => kf q g H locs lsA hH hL hl
  exact lv_icmp_le g.2.1 g.2.2.1 hd ht (fun q => kt ((i32_le hx hy).mp q)) (fun q => kf (by have q2 : ¬ (x ≤ y) := fun z => q ((i32_le hx hy).mpr z); omega))

theorem V_ifle {x : Int} (hd : decode (MB M) pc = .ok (.ifCond .le off, 3)) (ht : (pc : Int) + off = (tgt : Int)) (hx : R32 x) (kt : x ≤ 0 → V κ M rm P PX mc ms μ cells slots Ω tgt ls st) (kf : 0 < x → V κ M rm P PX mc ms μ cells slots Ω (pc + 3) ls st) : V κ M rm P PX mc ms μ cells slots Ω pc ls (.inl x :: st) := by
  intro g H locs lsA hH hL hl
  have kt := fun q => kt q g H locs lsA hH hL hl
  have kf := fun q => kf q g H locs lsA hH hL hl
  exact lv_if_le g.2.1 g.2.2.1 hd ht (fun q => kt ((i32_le hx r32_0).mp q)) (fun q => kf (by have q2 : ¬ (x ≤ 0) := fun z => q ((i32_le hx r32_0).mpr z); omega))

theorem V_lifle {x y : Int} (hd : decode (MB M) pc = .ok (.ifCond .le off, 3)) (ht : (pc : Int) + off = (tgt : Int)) (kt : x ≤ y → V κ M rm P PX mc ms μ cells slots Ω tgt ls st) (kf : y < x → V κ M rm P PX mc ms μ cells slots Ω (pc + 3) ls st) : V κ M rm P PX mc ms μ cells slots Ω pc ls (.inl (lc3 x y) :: st) :=
  V_ifle hd ht (lc3_r x y) (fun q => kt (lc3_le.mp q)) (fun q => kf (by have q3 : ¬ ((lc3 x y) ≤ 0) := (by omega); have q2 : ¬ (x ≤ y) := fun z => q3 (lc3_le.mpr z); omega))

theorem V_ifeqB {b : Bool} (hd : decode (MB M) pc = .ok (.ifCond .eq off, 3)) (ht : (pc : Int) + off = (tgt : Int)) (kt : b = false → V κ M rm P PX mc ms μ cells slots Ω tgt ls st) (kf : b = true → V κ M rm P PX mc ms μ cells slots Ω (pc + 3) ls st) : V κ M rm P PX mc ms μ cells slots Ω pc ls (.inl (b2i b) :: st) := by
  refine V_ifeq hd ht ?_ (fun q => kt (b2i_0.mp q)) (fun q => kf ?_)
  · rcases b2i_01 b with h | h <;> rw [h] <;> exact ⟨by decide, by decide⟩
  · cases b
    · exact absurd rfl q
    · rfl
theorem V_ifneB {b : Bool} (hd : decode (MB M) pc = .ok (.ifCond .ne off, 3)) (ht : (pc : Int) + off = (tgt : Int)) (kt : b = true → V κ M rm P PX mc ms μ cells slots Ω tgt ls st) (kf : b = false → V κ M rm P PX mc ms μ cells slots Ω (pc + 3) ls st) : V κ M rm P PX mc ms μ cells slots Ω pc ls (.inl (b2i b) :: st) := by
  refine V_ifne hd ht ?_ (fun q => kt ?_) (fun q => kf (b2i_0.mp q))
  · rcases b2i_01 b with h | h <;> rw [h] <;> exact ⟨by decide, by decide⟩
  · cases b
    · exact absurd rfl q
    · rfl
theorem ad_null {κ : Kx} {n : Nat} : ad κ n = .null ↔ n = 0 := by
  unfold ad
  split
  · simp [*]
  · split
    · simp [*]
    · split <;> simp [*]
theorem V_ifnull {n : Nat} (hd : decode (MB M) pc = .ok (.ifnull off, 3)) (ht : (pc : Int) + off = (tgt : Int)) (kt : n = 0 → V κ M rm P PX mc ms μ cells slots Ω tgt ls st) (kf : n ≠ 0 → V κ M rm P PX mc ms μ cells slots Ω (pc + 3) ls st) : V κ M rm P PX mc ms μ cells slots Ω pc ls (.inr (.inr n) :: st) := by
  intro g H locs lsA hH hL hl
  have kt := fun q => kt q g H locs lsA hH hL hl
  have kf := fun q => kf q g H locs lsA hH hL hl
  simp only [List.map_cons, tr]
  rcases ad_rf κ n with e | ⟨a, e⟩
  · rw [e]
    exact lv_ifnullN g.2.1 g.2.2.1 hd ht (kt (ad_null.mp e))
  · rw [e]
    exact lv_ifnull g.2.1 g.2.2.1 hd (kf (fun q => by rw [ad_null.mpr q] at e; cases e))
theorem V_ifnonnull {n : Nat} (hd : decode (MB M) pc = .ok (.ifnonnull off, 3)) (ht : (pc : Int) + off = (tgt : Int)) (kt : n ≠ 0 → V κ M rm P PX mc ms μ cells slots Ω tgt ls st) (kf : n = 0 → V κ M rm P PX mc ms μ cells slots Ω (pc + 3) ls st) : V κ M rm P PX mc ms μ cells slots Ω pc ls (.inr (.inr n) :: st) := by
  intro g H locs lsA hH hL hl
  have kt := fun q => kt q g H locs lsA hH hL hl
  have kf := fun q => kf q g H locs lsA hH hL hl
  simp only [List.map_cons, tr]
  rcases ad_rf κ n with e | ⟨a, e⟩
  · rw [e]
    exact lv_ifnonnullN g.2.1 g.2.2.1 hd (kf (ad_null.mp e))
  · rw [e]
    exact lv_ifnonnull g.2.1 g.2.2.1 hd ht (kt (fun q => by rw [ad_null.mpr q] at e; cases e))
/-- a table switch: tg are the targets in order -/
theorem V_tsw {x dflt lo hi : Int} {offs : Array Int} {len dt : Nat} {tg : List Nat} (hd : decode (MB M) pc = .ok (.tableswitch dflt lo hi offs, len)) (hx : R32 x) (hdt : (pc : Int) + dflt = (dt : Int)) (htg : offs.toList.map (fun z => (pc : Int) + z) = tg.map (fun n : Nat => (n : Int))) (hlen : hi + 1 - lo = (tg.length : Nat))
    (ko : x < lo ∨ hi < x → V κ M rm P PX mc ms μ cells slots Ω dt ls st) (ki : TS (fun t => V κ M rm P PX mc ms μ cells slots Ω t ls st) x lo tg) : V κ M rm P PX mc ms μ cells slots Ω pc ls (.inl x :: st) := by
  intro g H locs lsA hH hL hl
  have e := i32_toInt hx
  by_cases h : x < lo ∨ hi < x
  · exact lv_tableOut g.2.1 g.2.2.1 hd (by rw [e]; exact h) hdt (ko h g H locs lsA hH hL hl)
  · have h1 : lo ≤ x := by omega
    have h2 : x ≤ hi := by omega
    have hsz : offs.size = tg.length := by
      have := congrArg List.length htg
      simpa using this
    have hi1 : (x - lo).toNat < offs.size := by omega
    have hi2 : (x - lo).toNat < tg.length := by omega
    have e3 : (offs.toList.map (fun z => (pc : Int) + z))[(x - lo).toNat]? = some ((pc : Int) + offs[(x - lo).toNat]) := by
      rw [List.getElem?_map, Array.getElem?_toList, Array.getElem?_eq_getElem hi1]; rfl
    rw [htg, List.getElem?_map, List.getElem?_eq_getElem hi2] at e3
    have e3 := Option.some.inj e3
    refine lv_tableIn (off := offs[(x - lo).toNat]) (tgt := tg[(x - lo).toNat]) g.2.1 g.2.2.1 hd (by rw [e]; omega) (by rw [e]; omega) (by rw [e, Array.getElem?_eq_getElem hi1]) e3.symm ?_
    exact TS_at ki (List.getElem?_eq_getElem hi2) (by omega) g H locs lsA hH hL hl
/-! returns -/
theorem V_widen {k n : Nat} (h1 : cells ≤ k) (h2 : slots ≤ n) (kk : V κ M rm P PX mc ms μ k n Ω pc ls st) : V κ M rm P PX mc ms μ cells slots Ω pc ls st := fun g H locs lsA hH hL hl => W.widen h1 h2 (kk g H locs lsA hH hL hl)
theorem V_iret {z : Int} (hd : decode (MB M) pc = .ok (.ireturn, 1)) (hr : MR M = some .int) (hc : cells ≤ mc ∧ slots ≤ ms) (hp : P (some (.inl z)) Ω) : V κ M rm P PX mc ms μ cells slots Ω pc ls [.inl z] := by
  intro g H locs lsA hH hL hl
  refine W.widen hc.1 hc.2 (vx_ret ?_)
  exact W.iret g.2.1 g.2.2.1 (g.2.2.2.2.1.trans hr) (fun t ht _ => ⟨some (.inl z), Ω, rfl, hp, by rw [ht]; exact hH⟩) hL hd g.2.2.2.2.2.1
theorem V_zret {z : Int} (hd : decode (MB M) pc = .ok (.ireturn, 1)) (hr : MR M = some .boolean) (hz : z = 0 ∨ z = 1) (hc : cells ≤ mc ∧ slots ≤ ms) (hp : P (some (.inl z)) Ω) : V κ M rm P PX mc ms μ cells slots Ω pc ls [.inl z] := by
  intro g H locs lsA hH hL hl
  refine W.widen hc.1 hc.2 (vx_ret ?_)
  exact W.zret g.2.1 g.2.2.1 (g.2.2.2.2.1.trans hr) (by rcases hz with rfl | rfl <;> rfl) (fun t ht _ => ⟨some (.inl z), Ω, rfl, hp, by rw [ht]; exact hH⟩) hL hd g.2.2.2.2.2.1
theorem V_lret {z : Int} (hd : decode (MB M) pc = .ok (.lreturn, 1)) (hr : MR M = some .long) (hc : cells ≤ mc ∧ slots ≤ ms) (hp : P (some (.inr (.inl z))) Ω) : V κ M rm P PX mc ms μ cells slots Ω pc ls [.inr (.inl z)] := by
  intro g H locs lsA hH hL hl
  refine W.widen hc.1 hc.2 (vx_ret ?_)
  exact W.lret g.2.1 g.2.2.1 (g.2.2.2.2.1.trans hr) (fun t ht _ => ⟨some (.inr (.inl z)), Ω, rfl, hp, by rw [ht]; exact hH⟩) hL hd g.2.2.2.2.2.1
theorem V_aret {n : Nat} {rt : FieldType} (hd : decode (MB M) pc = .ok (.areturn, 1)) (hr : MR M = some rt) (hrt : (∃ n, rt = .object n) ∨ ∃ t, rt = .array t) (hc : cells ≤ mc ∧ slots ≤ ms) (hp : P (some (.inr (.inr n))) Ω) : V κ M rm P PX mc ms μ cells slots Ω pc ls [.inr (.inr n)] := by
  intro g H locs lsA hH hL hl
  refine W.widen hc.1 hc.2 (vx_ret ?_)
  exact W.aret g.2.1 g.2.2.1 (g.2.2.2.2.1.trans hr) hrt (ad_rf κ n) (fun t ht _ => ⟨some (.inr (.inr n)), Ω, rfl, hp, by rw [ht]; exact hH⟩) hL hd g.2.2.2.2.2.1
theorem V_vret (hd : decode (MB M) pc = .ok (.return_, 1)) (hr : MR M = none) (hc : cells ≤ mc ∧ slots ≤ ms) (hp : P none Ω) : V κ M rm P PX mc ms μ cells slots Ω pc ls [] := by
  intro g H locs lsA hH hL hl
  refine W.widen hc.1 hc.2 (vx_ret ?_)
  exact W.vret g.2.1 g.2.2.1 (g.2.2.2.2.1.trans hr) (fun t ht _ => ⟨none, Ω, rfl, hp, by rw [ht]; exact hH⟩) hL hd g.2.2.2.2.2.1
end BR
/-! CONTRACTS -/
def rmD (d mc ms : Nat) : Room := { frames := d, cells := mc, slots := ms, locals := 100 + 40 * d }
def fitR (rm : Room) (d : Nat) : Prop := d + 1 ≤ rm.frames ∧ 140 + 40 * d ≤ rm.locals
theorem fit_rm {d d' mc ms : Nat} (h : d' + 1 ≤ d) : fitR (rmD d mc ms) d' := ⟨h, by show 140 + 40 * d' ≤ 100 + 40 * d; omega⟩
def cwd (N : Ms) : Cond := match MH N with
  | [] => .code (MN N) (MB N) (ML N) (MR N)
  | h => .codeWith (MN N) (MB N) (ML N) (MR N) h
def Ct (κ : Kx) (N : Ms) (d mc ms : Nat) (As : List Vl) (Ω : Om) (P : Option Vl → Om → Prop) (PX : String → Om → Prop) : Prop :=
  vx_Met κ.1 (MN N) (cwd N :: WU) (rmD d mc ms) (fun v U => v = (As.map (tr κ)).toArray ∧ (kS κ).WarmedH U.vm ∧ HO κ Ω U.heap) (Qc κ P) (XCo κ PX) mc ms (fun q => kB κ ≤ q)
def noX : String → Om → Prop := fun _ _ => False
def mkB (N : Ms) (n : Nat) : Prop := cwd N ∈ tables_1 ∧
  (wI.any (isIni (MN N).cls) && (decide ((MN N).cls ≠ "java/lang/invoke/MethodHandle") && (decide ((MN N).cls ≠ "java/lang/invoke/VarHandle") &&
    (decide ((parseMethodDescriptor (MN N).desc).map (fun d => d.parameters.length) = some n) && (decide (ML N ≤ 21) && plainName (MN N).cls))))) = true
def mkV (N : Ms) (n : Nat) : Prop := mkB N n ∧ (wI.any (isIM (MN N)) && wS.any (isSel (MN N))) = true
def mkS (N : Ms) (n : Nat) : Prop := mkB N n ∧ wI.any (isSM (MN N)) = true
def mkI (N : Ms) (n : Nat) : Prop := mkB N n ∧ (decide ((MN N).name = "<init>") && wI.any (isIM (MN N))) = true
theorem cwd_good (N : Ms) : goodWord (cwd N) = true := by
  unfold cwd
  split <;> rfl
theorem mkB_of {N : Ms} {n : Nat} (h : mkB N n) : cwd N ∈ WU ∧ Cond.initialized (MN N).cls ∈ WU ∧ ((MN N).cls ≠ "java/lang/invoke/MethodHandle" ∧ (MN N).cls ≠ "java/lang/invoke/VarHandle" ∧ (parseMethodDescriptor (MN N).desc).map (fun d => d.parameters.length) = some n) ∧ ML N ≤ 21 ∧ plainName (MN N).cls = true := by
  unfold mkB at h
  simp only [Bool.and_eq_true, decide_eq_true_eq] at h
  obtain ⟨h1, h2, h3, h4, h5, h6, h7⟩ := h
  exact ⟨List.mem_filter.mpr ⟨List.mem_append_right _ h1, cwd_good N⟩, has_of wI_in h2 isIni_ok rfl, ⟨h3, h4, h5⟩, h6, h7⟩
theorem cwd_GoodIn {N : Ms} (h : cwd N ∈ WU) : GoodIn WU (cwd N :: WU) := by
  intro w hw
  rcases List.mem_cons.mp hw with rfl | hw
  · exact WU_GoodIn _ h
  · exact WU_GoodIn _ hw
def ini (As : List Vl) (n : Nat) : List (Option Vl) := fl As ++ List.replicate (n - (fl As).length) none
theorem Ct.mono {κ : Kx} {N : Ms} {d mc ms : Nat} {As : List Vl} {Ω : Om} {P P' : Option Vl → Om → Prop} {PX PX' : String → Om → Prop} (h : Ct κ N d mc ms As Ω P PX) (hP : ∀ v Ω', P v Ω' → P' v Ω') (hX : ∀ E Ω', PX E Ω' → PX' E Ω') : Ct κ N d mc ms As Ω P' PX' := by
  intro p e ha hc hk s m args below hf happ hpre hK
  obtain ⟨n, o, h1, h2, h3, h4⟩ := h p e ha hc hk s m args below hf happ hpre hK
  refine ⟨n, o, h1, h2, h3, ?_⟩
  rcases h4 with ⟨⟨v, Ω', e1, e2, e3⟩, L⟩ | ⟨q, e1, E, ce, L, ⟨Ω', e2, e3⟩, r⟩
  · exact Or.inl ⟨⟨v, Ω', e1, hP _ _ e2, e3⟩, L⟩
  · exact Or.inr ⟨q, e1, E, ce, L, ⟨Ω', hX _ _ e2, e3⟩, r⟩
