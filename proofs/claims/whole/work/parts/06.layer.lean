/-! THE JUDGEMENT V: at a place of a method's bytes, with these locals, this stack, this world, the method goes on to an end that P (a return) or PX (a throw) allows -/
abbrev mP (μ : Mu) : Program := μ.1
abbrev mE (μ : Mu) : Env := μ.2.1
abbrev mS (μ : Mu) : State := μ.2.2.1
abbrev mM (μ : Mu) : MethodId := μ.2.2.2.1
abbrev mA (μ : Mu) : Array Value := μ.2.2.2.2.1
abbrev mBl (μ : Mu) : List Frame := μ.2.2.2.2.2.1
abbrev mMe (μ : Mu) : Method := μ.2.2.2.2.2.2.1
abbrev mC (μ : Mu) : Code := μ.2.2.2.2.2.2.2
abbrev MN (M : Ms) : MethodName := M.1
abbrev MB (M : Ms) : ByteArray := M.2.1
abbrev ML (M : Ms) : Nat := M.2.2.1
abbrev MR (M : Ms) : Option FieldType := M.2.2.2.1
abbrev MH (M : Ms) : List (Nat × Nat × Nat × Nat) := M.2.2.2.2
def Gd (κ : Kx) (M : Ms) (μ : Mu) : Prop :=
  KOK κ ∧ (mP μ).tables.exec = Jvm.exec ∧ (mC μ).code = MB M ∧ (mC μ).maxLocals = ML M ∧ (mMe μ).sig.returnType = MR M ∧ (mMe μ).locks = false ∧ (mS μ).vm.findClass (MN M).cls = some (mM μ).cls ∧
  (∀ w ∈ WU, w.before (mA μ) (mS μ) = true) ∧ (kS κ).WarmedH (mS μ).vm ∧ kB κ ≤ (mS μ).heap.size ∧ (∀ q : Nat, q < kB κ → (mS μ).heap[q]? = (kS κ).heap[q]?) ∧ ((MN M).name = "<init>" → (mMe μ).name = "<init>") ∧ (mC μ).exceptionTable.toList = tableOf (MH M)
def Qc (κ : Kx) (P : Option Vl → Om → Prop) : Array Value → State → Outcome → State → Prop := fun _ _ o t => ∃ (v : Option Vl) (Ω : Om), o = .returned (v.map (tr κ)) ∧ P v Ω ∧ HO κ Ω t.heap
def XCo (κ : Kx) (PX : String → Om → Prop) : String → State → State → Prop := fun E _ t => ∃ Ω : Om, PX E Ω ∧ HO κ Ω t.heap
abbrev Wv (κ : Kx) (rm : Room) (P : Option Vl → Om → Prop) (PX : String → Om → Prop) (mc ms : Nat) (μ : Mu) (cells slots : Nat) (H : Heap) (locs : List Loc) (g : JFrame) : Prop :=
  W (mP μ) κ.1 (mE μ) rm (mS μ) (mM μ) (mA μ) (mBl μ) (mMe μ) (mC μ) H locs cells slots (vx_MQ (mBl μ) (Qc κ P) (XCo κ PX) (mA μ) (mS μ) mc ms (fun q => kB κ ≤ q)) g
def V (κ : Kx) (M : Ms) (rm : Room) (P : Option Vl → Om → Prop) (PX : String → Om → Prop) (mc ms : Nat) (μ : Mu) (cells slots : Nat) (Ω : Om) (pc : Nat) (ls : List (Option Vl)) (st : List Vl) : Prop :=
  Gd κ M μ → ∀ (H : Heap) (locs : List Loc) (lsA : Array Slot), HO κ Ω H → (∀ q ∈ locs, kB κ ≤ q.base) → LO κ lsA (ML M) ls → Wv κ rm P PX mc ms μ cells slots H locs (F0 (mM μ) pc lsA (st.map (tr κ)))
/-! words -/
theorem has_of {T : List Cond} (hT : ∀ w ∈ T, w ∈ lw_tbl) {f : Cond → Bool} {w : Cond} (h : T.any f = true) (hf : ∀ w', f w' = true → w' = w) (hg : goodWord w = true) : w ∈ WU := by
  obtain ⟨w', h1, h2⟩ := List.any_eq_true.mp h
  have := hf w' h2
  subst this
  exact List.mem_filter.mpr ⟨hT _ h1, hg⟩
theorem tbl_of {T : List Cond} (hT : ∀ w ∈ T, w ∈ lw_tbl) {f : Cond → Bool} {w : Cond} (h : T.any f = true) (hf : ∀ w', f w' = true → w' = w) : w ∈ lw_tbl := by
  obtain ⟨w', h1, h2⟩ := List.any_eq_true.mp h
  have := hf w' h2
  subst this
  exact hT _ h1
def mnE (y z : MethodName) : Bool := z.name == y.name && (z.desc == y.desc && z.cls == y.cls)
theorem mnE_ok {y z : MethodName} (h : mnE y z = true) : z = y := by
  simp only [mnE, Bool.and_eq_true, beq_iff_eq] at h
  cases y; cases z; simp_all
def isML (o : String) (i : Nat) (y : MethodName) : Cond → Bool
  | .methodLink a j z => j == i && (mnE y z && a == o)
  | _ => false
theorem isML_ok {o : String} {i : Nat} {y : MethodName} : ∀ w, isML o i y w = true → w = .methodLink o i y := by
  intro w h
  unfold isML at h
  split at h
  · simp only [Bool.and_eq_true, beq_iff_eq] at h
    obtain ⟨rfl, h2, rfl⟩ := h
    rw [mnE_ok h2]
  · cases h
def isMN (o : String) (i : Nat) (y : MethodName) (ho : String) : Cond → Bool
  | .methodLinkNest a j z b => j == i && (mnE y z && (a == o && b == ho))
  | _ => false
theorem isMN_ok {o : String} {i : Nat} {y : MethodName} {ho : String} : ∀ w, isMN o i y ho w = true → w = .methodLinkNest o i y ho := by
  intro w h
  unfold isMN at h
  split at h
  · simp only [Bool.and_eq_true, beq_iff_eq] at h
    obtain ⟨rfl, h2, rfl, rfl⟩ := h
    rw [mnE_ok h2]
  · cases h
def isIM (y : MethodName) : Cond → Bool
  | .instanceMethod z => mnE y z
  | _ => false
theorem isIM_ok {y : MethodName} : ∀ w, isIM y w = true → w = .instanceMethod y := by
  intro w h
  unfold isIM at h
  split at h
  · rw [mnE_ok h]
  · cases h
def isSM (y : MethodName) : Cond → Bool
  | .static z => mnE y z
  | _ => false
theorem isSM_ok {y : MethodName} : ∀ w, isSM y w = true → w = .static y := by
  intro w h
  unfold isSM at h
  split at h
  · rw [mnE_ok h]
  · cases h
def isSel (y : MethodName) : Cond → Bool
  | .selects C z z' => mnE y z && (mnE y z' && C == y.cls)
  | _ => false
theorem isSel_ok {y : MethodName} : ∀ w, isSel y w = true → w = .selects y.cls y y := by
  intro w h
  unfold isSel at h
  split at h
  · simp only [Bool.and_eq_true, beq_iff_eq] at h
    obtain ⟨h1, h2, rfl⟩ := h
    rw [mnE_ok h1, mnE_ok h2]
  · cases h
def isIni (C : String) : Cond → Bool
  | .initialized D => D == C
  | _ => false
theorem isIni_ok {C : String} : ∀ w, isIni C w = true → w = .initialized C := by
  intro w h
  unfold isIni at h
  split at h
  · simp only [beq_iff_eq] at h
    rw [h]
  · cases h
def isCode (y : MethodName) (b : ByteArray) (n : Nat) (r : Option FieldType) : Cond → Bool
  | .code z b' n' r' => mnE y z && (n' == n && (decide (r' = r) && decide (b' = b)))
  | _ => false
theorem isCode_ok {y : MethodName} {b : ByteArray} {n : Nat} {r : Option FieldType} : ∀ w, isCode y b n r w = true → w = .code y b n r := by
  intro w h
  unfold isCode at h
  split at h
  · simp only [Bool.and_eq_true, beq_iff_eq, decide_eq_true_eq] at h
    obtain ⟨h1, rfl, rfl, rfl⟩ := h
    rw [mnE_ok h1]
  · cases h
def isCodeW (y : MethodName) (b : ByteArray) (n : Nat) (r : Option FieldType) (hh : List (Nat × Nat × Nat × Nat)) : Cond → Bool
  | .codeWith z b' n' r' h' => mnE y z && (n' == n && (decide (r' = r) && (decide (h' = hh) && decide (b' = b))))
  | _ => false
theorem isCodeW_ok {y : MethodName} {b : ByteArray} {n : Nat} {r : Option FieldType} {hh : List (Nat × Nat × Nat × Nat)} : ∀ w, isCodeW y b n r hh w = true → w = .codeWith y b n r hh := by
  intro w h
  unfold isCodeW at h
  split at h
  · simp only [Bool.and_eq_true, beq_iff_eq, decide_eq_true_eq] at h
    obtain ⟨h1, rfl, rfl, rfl, rfl⟩ := h
    rw [mnE_ok h1]
  · cases h
def isFL (o : String) (i : Nat) (r n d : String) : Cond → Bool
  | .fieldLink a j r' n' d' => j == i && (a == o && (n' == n && (d' == d && r' == r)))
  | _ => false
theorem isFL_ok {o : String} {i : Nat} {r n d : String} : ∀ w, isFL o i r n d w = true → w = .fieldLink o i r n d := by
  intro w h
  unfold isFL at h
  split at h
  · simp only [Bool.and_eq_true, beq_iff_eq] at h
    obtain ⟨rfl, rfl, rfl, rfl, rfl⟩ := h
    rfl
  · cases h
def isCst (o : String) (i : Nat) (v : Int32) : Cond → Bool
  | .constant a j x => j == i && (a == o && decide (x = v))
  | _ => false
theorem isCst_ok {o : String} {i : Nat} {v : Int32} : ∀ w, isCst o i v w = true → w = .constant o i v := by
  intro w h
  unfold isCst at h
  split at h
  · simp only [Bool.and_eq_true, beq_iff_eq, decide_eq_true_eq] at h
    obtain ⟨rfl, rfl, rfl⟩ := h
    rfl
  · cases h
def isCsl (o : String) (i : Nat) (v : Int64) : Cond → Bool
  | .constantLong a j x => j == i && (a == o && decide (x = v))
  | _ => false
theorem isCsl_ok {o : String} {i : Nat} {v : Int64} : ∀ w, isCsl o i v w = true → w = .constantLong o i v := by
  intro w h
  unfold isCsl at h
  split at h
  · simp only [Bool.and_eq_true, beq_iff_eq, decide_eq_true_eq] at h
    obtain ⟨rfl, rfl, rfl⟩ := h
    rfl
  · cases h
def isCL (o : String) (i : Nat) (C : String) : Cond → Bool
  | .classLink a j x => j == i && (a == o && x == C)
  | _ => false
theorem isCL_ok {o : String} {i : Nat} {C : String} : ∀ w, isCL o i C w = true → w = .classLink o i C := by
  intro w h
  unfold isCL at h
  split at h
  · simp only [Bool.and_eq_true, beq_iff_eq] at h
    obtain ⟨rfl, rfl, rfl⟩ := h
    rfl
  · cases h
/-! THE EVALUATOR of straight stretches -/
abbrev X3 : Type := Nat × Nat × Int
abbrev ER : Type := Option (List (Option Vl) × List Vl × Wd × Option Prop)
def upd2 (f : Nat → Nat → Int) (a k : Nat) (z : Int) : Nat → Nat → Int := fun b j => if b = a ∧ j = k then z else f b j
def upd2n (f : Nat → Nat → Nat) (a k : Nat) (z : Nat) : Nat → Nat → Nat := fun b j => if b = a ∧ j = k then z else f b j
def gI (ls : List (Option Vl)) (i : Nat) (st : List Vl) (G : Wd) : ER := match lget ls i with
  | some (.inl z) => some (ls, .inl z :: st, G, none)
  | _ => none
def gL (ls : List (Option Vl)) (i : Nat) (st : List Vl) (G : Wd) : ER := match lget ls i with
  | some (.inr (.inl z)) => some (ls, .inr (.inl z) :: st, G, none)
  | _ => none
def gR (ls : List (Option Vl)) (i : Nat) (st : List Vl) (G : Wd) : ER := match lget ls i with
  | some (.inr (.inr z)) => some (ls, .inr (.inr z) :: st, G, none)
  | _ => none
def pI (ls : List (Option Vl)) (i : Nat) (st : List Vl) (G : Wd) : ER := match st with
  | .inl z :: r => (match lset1 ls i (.inl z) with
    | some ls' => some (ls', r, G, none)
    | none => none)
  | _ => none
def pL (ls : List (Option Vl)) (i : Nat) (st : List Vl) (G : Wd) : ER := match st with
  | .inr (.inl z) :: r => (match lset2 ls i (.inr (.inl z)) with
    | some ls' => some (ls', r, G, none)
    | none => none)
  | _ => none
def pR (ls : List (Option Vl)) (i : Nat) (st : List Vl) (G : Wd) : ER := match st with
  | .inr (.inr z) :: r => (match lset1 ls i (.inr (.inr z)) with
    | some ls' => some (ls', r, G, none)
    | none => none)
  | _ => none
def b2I (f : Int → Int → Int) (o : Int → Int → Option Prop) (ls : List (Option Vl)) (st : List Vl) (G : Wd) : ER := match st with
  | .inl y :: .inl x :: r => some (ls, .inl (f x y) :: r, G, o x y)
  | _ => none
def b2L (f : Int → Int → Int) (o : Int → Int → Option Prop) (ls : List (Option Vl)) (st : List Vl) (G : Wd) : ER := match st with
  | .inr (.inl y) :: .inr (.inl x) :: r => some (ls, .inr (.inl (f x y)) :: r, G, o x y)
  | _ => none
def nob : Int → Int → Option Prop := fun _ _ => none
def ob32 : Int → Int → Option Prop := fun x y => some (R32 x ∧ R32 y ∧ y ≠ 0)
def ob64 : Int → Int → Option Prop := fun x y => some (R64 x ∧ R64 y ∧ y ≠ 0)
def xGet (Λ : Ly) (ci kf : Nat) (ls : List (Option Vl)) (st : List Vl) (G : Wd) : ER := match st with
  | .inr (.inr a) :: r => (match skd ci kf with
    | 1 => some (ls, .inr (.inl (G.2.1 a kf)) :: r, G, some (Λ.1 a = some (.inl ci)))
    | 2 => (match Λ.2 a kf with
      | some b => some (ls, .inr (.inr b) :: r, G, some (Λ.1 a = some (.inl ci)))
      | none => none)
    | 3 => some (ls, .inr (.inr (G.2.2 a kf)) :: r, G, some (Λ.1 a = some (.inl ci)))
    | _ => some (ls, .inl (G.1 a kf) :: r, G, some (Λ.1 a = some (.inl ci))))
  | _ => none
def xPut (Λ : Ly) (ci kf : Nat) (ls : List (Option Vl)) (st : List Vl) (G : Wd) : ER := match st with
  | .inl z :: .inr (.inr a) :: r => (match skd ci kf with
    | 0 => some (ls, r, (upd2 G.1 a kf z, G.2), some (Λ.1 a = some (.inl ci)))
    | 4 => some (ls, r, (upd2 G.1 a kf z, G.2), some (Λ.1 a = some (.inl ci) ∧ (z = 0 ∨ z = 1)))
    | _ => none)
  | .inr (.inl z) :: .inr (.inr a) :: r => (match skd ci kf with
    | 1 => some (ls, r, (G.1, upd2 G.2.1 a kf z, G.2.2), some (Λ.1 a = some (.inl ci)))
    | _ => none)
  | .inr (.inr z) :: .inr (.inr a) :: r => (match skd ci kf with
    | 3 => some (ls, r, (G.1, G.2.1, upd2n G.2.2 a kf z), some (Λ.1 a = some (.inl ci)))
    | _ => none)
  | _ => none
def xLen (Λ : Ly) (ls : List (Option Vl)) (st : List Vl) (G : Wd) : ER := match st with
  | .inr (.inr a) :: r => (match Λ.1 a with
    | some (.inr q) => some (ls, .inl (q.2 : Nat) :: r, G, none)
    | _ => none)
  | _ => none
def xLd (Λ : Ly) (ty : Nat) (ls : List (Option Vl)) (st : List Vl) (G : Wd) : ER := match st with
  | .inl j :: .inr (.inr a) :: r => (match Λ.1 a with
    | some (.inr q) => if q.1 = ty then some (ls, (if ty = 1 then .inr (.inl (G.2.1 a j.toNat)) else .inl (G.1 a j.toNat)) :: r, G, some (0 ≤ j ∧ j < (q.2 : Nat))) else none
    | _ => none)
  | _ => none
def xLdR (Λ : Ly) (ls : List (Option Vl)) (st : List Vl) (G : Wd) : ER := match st with
  | .inl j :: .inr (.inr a) :: r => (match Λ.1 a with
    | some (.inr q) => if 3 ≤ q.1 then some (ls, .inr (.inr ((Λ.2 a j.toNat).getD 0)) :: r, G, some (0 ≤ j ∧ j < (q.2 : Nat))) else none
    | _ => none)
  | _ => none
def xSt (Λ : Ly) (ty : Nat) (ls : List (Option Vl)) (st : List Vl) (G : Wd) : ER := match st with
  | .inl z :: .inl j :: .inr (.inr a) :: r => (match Λ.1 a with
    | some (.inr q) => if q.1 = ty ∧ ty = 0 then some (ls, r, (upd2 G.1 a j.toNat z, G.2), some (0 ≤ j ∧ j < (q.2 : Nat))) else if q.1 = ty ∧ ty = 2 then some (ls, r, (upd2 G.1 a j.toNat z, G.2), some ((0 ≤ j ∧ j < (q.2 : Nat)) ∧ (z = 0 ∨ z = 1))) else none
    | _ => none)
  | .inr (.inl z) :: .inl j :: .inr (.inr a) :: r => (match Λ.1 a with
    | some (.inr q) => if q.1 = 1 ∧ ty = 1 then some (ls, r, (G.1, upd2 G.2.1 a j.toNat z, G.2.2), some (0 ≤ j ∧ j < (q.2 : Nat))) else none
    | _ => none)
  | _ => none
def ex1 (Λ : Ly) (i : Instr) (x : X3) (ls : List (Option Vl)) (st : List Vl) (G : Wd) : ER := match x with
  | (ci, kf, z0) => (match i with
  | .iconst n => some (ls, .inl n :: st, G, none)
  | .bipush _ => some (ls, .inl z0 :: st, G, none)
  | .sipush _ => some (ls, .inl z0 :: st, G, none)
  | .ldc _ => some (ls, .inl z0 :: st, G, none)
  | .ldc_w _ => some (ls, .inl z0 :: st, G, none)
  | .lconst _ => some (ls, .inr (.inl z0) :: st, G, none)
  | .ldc2_w _ => some (ls, .inr (.inl z0) :: st, G, none)
  | .aconst_null => some (ls, .inr (.inr 0) :: st, G, none)
  | .iload j => gI ls j st G
  | .iload_n j => gI ls j st G
  | .lload j => gL ls j st G
  | .lload_n j => gL ls j st G
  | .aload j => gR ls j st G
  | .aload_n j => gR ls j st G
  | .istore j => pI ls j st G
  | .istore_n j => pI ls j st G
  | .lstore j => pL ls j st G
  | .lstore_n j => pL ls j st G
  | .astore j => pR ls j st G
  | .astore_n j => pR ls j st G
  | .iinc j n => (match lget ls j with
    | some (.inl z) => (match lset1 ls j (.inl (z + n)) with
      | some ls' => some (ls', st, G, none)
      | none => none)
    | _ => none)
  | .iadd => b2I HAdd.hAdd nob ls st G
  | .isub => b2I HSub.hSub nob ls st G
  | .imul => b2I HMul.hMul nob ls st G
  | .idiv => b2I Int.tdiv ob32 ls st G
  | .irem => b2I Int.tmod ob32 ls st G
  | .iand => b2I iAnd nob ls st G
  | .ior => b2I iOr nob ls st G
  | .ixor => b2I iXor nob ls st G
  | .ishl => b2I iShl nob ls st G
  | .ishr => b2I iShr nob ls st G
  | .iushr => b2I iUsh nob ls st G
  | .ladd => b2L HAdd.hAdd nob ls st G
  | .lsub => b2L HSub.hSub nob ls st G
  | .lmul => b2L HMul.hMul nob ls st G
  | .ldiv => b2L Int.tdiv ob64 ls st G
  | .lrem => b2L Int.tmod ob64 ls st G
  | .land => b2L lAnd nob ls st G
  | .lor => b2L lOr nob ls st G
  | .lshl => (match st with
    | .inl y :: .inr (.inl z) :: r => some (ls, .inr (.inl (lShl z y)) :: r, G, none)
    | _ => none)
  | .lcmp => (match st with
    | .inr (.inl y) :: .inr (.inl z) :: r => some (ls, .inl (lc3 z y) :: r, G, some (R64 z ∧ R64 y))
    | _ => none)
  | .i2l => (match st with
    | .inl z :: r => some (ls, .inr (.inl z) :: r, G, some (R32 z))
    | _ => none)
  | .l2i => (match st with
    | .inr (.inl z) :: r => some (ls, .inl z :: r, G, none)
    | _ => none)
  | .i2c => (match st with
    | .inl z :: r => some (ls, .inl (iChr z) :: r, G, none)
    | _ => none)
  | .ineg => (match st with
    | .inl z :: r => some (ls, .inl (-z) :: r, G, none)
    | _ => none)
  | .dup => (match st with
    | .inl z :: r => some (ls, .inl z :: .inl z :: r, G, none)
    | .inr (.inr z) :: r => some (ls, .inr (.inr z) :: .inr (.inr z) :: r, G, none)
    | _ => none)
  | .dup2 => (match st with
    | .inr (.inl z) :: r => some (ls, .inr (.inl z) :: .inr (.inl z) :: r, G, none)
    | .inl z :: .inr (.inr y) :: r => some (ls, .inl z :: .inr (.inr y) :: .inl z :: .inr (.inr y) :: r, G, none)
    | _ => none)
  | .pop => (match st with
    | .inl _ :: r => some (ls, r, G, none)
    | .inr (.inr _) :: r => some (ls, r, G, none)
    | _ => none)
  | .getfield _ => xGet Λ ci kf ls st G
  | .putfield _ => xPut Λ ci kf ls st G
  | .arraylength => xLen Λ ls st G
  | .iaload => xLd Λ 0 ls st G
  | .laload => xLd Λ 1 ls st G
  | .baload => xLd Λ 2 ls st G
  | .aaload => xLdR Λ ls st G
  | .iastore => xSt Λ 0 ls st G
  | .lastore => xSt Λ 1 ls st G
  | .bastore => xSt Λ 2 ls st G
  | _ => none)
/-- what the tables must say of an instruction -/
def lnk (own : String) (i : Instr) (x : X3) : Bool := match i with
  | .bipush n => decide ((Int8.ofInt n).toInt32 = Int32.ofInt x.2.2)
  | .sipush n => decide ((Int16.ofInt n).toInt32 = Int32.ofInt x.2.2)
  | .lconst n => decide (Int64.ofNat (n : Nat) = Int64.ofInt x.2.2)
  | .ldc j => wK.any (isCst own j (Int32.ofInt x.2.2))
  | .ldc_w j => wK.any (isCst own j (Int32.ofInt x.2.2))
  | .ldc2_w j => wK.any (isCsl own j (Int64.ofInt x.2.2))
  | .getfield j => (match vwCl[x.1]? with
    | some r => decide (x.2.1 < r.2.2) && wF.any (isFL own j (r.2.1 x.2.1).1 (r.2.1 x.2.1).2.1 (r.2.1 x.2.1).2.2.1)
    | none => false)
  | .putfield j => (match vwCl[x.1]? with
    | some r => decide (x.2.1 < r.2.2) && (!(r.2.1 x.2.1).2.2.2 && wF.any (isFL own j (r.2.1 x.2.1).1 (r.2.1 x.2.1).2.1 (r.2.1 x.2.1).2.2.1))
    | none => false)
  | _ => true
def ob (o : Option Prop) : Prop := match o with
  | none => True
  | some p => p
def obA : Option Prop → Option Prop → Option Prop
  | none, o => o
  | some p, none => some p
  | some p, some q => some (p ∧ q)
def exN (Λ : Ly) : List (Instr × X3) → List (Option Vl) → List Vl → Wd → ER
  | [], ls, st, G => some (ls, st, G, none)
  | i :: r, ls, st, G => match ex1 Λ i.1 i.2 ls st G with
    | none => none
    | some (ls1, st1, G1, o1) => match exN Λ r ls1 st1 G1 with
      | none => none
      | some (ls2, st2, G2, o2) => some (ls2, st2, G2, obA o1 o2)
def ilen : Instr → Nat
  | .bipush _ => 2
  | .sipush _ => 3
  | .ldc _ => 2
  | .ldc_w _ => 3
  | .ldc2_w _ => 3
  | .iload _ => 2
  | .lload _ => 2
  | .aload _ => 2
  | .istore _ => 2
  | .lstore _ => 2
  | .astore _ => 2
  | .iinc _ _ => 3
  | .getfield _ => 3
  | .putfield _ => 3
  | _ => 1
def dsOk (own : String) (cc : ByteArray) : Nat → List (Instr × X3) → Nat → Bool
  | pc, [], e => pc == e
  | pc, i :: r, e => match decode cc pc with
    | .ok (j, n) => decide (j = i.1) && (decide (n = ilen i.1) && (lnk own i.1 i.2 && dsOk own cc (pc + ilen i.1) r e))
    | .error _ => false
