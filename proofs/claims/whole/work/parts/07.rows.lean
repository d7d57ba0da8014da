/-! THE EVALUATOR IS RIGHT, an instruction a row -/
section EXS
variable {κ : Kx} {M : Ms} {rm : Room} {P : Option Vl → Om → Prop} {PX : String → Om → Prop} {mc ms : Nat} {μ : Mu} {cells slots : Nat} {Λ : Ly} {sz : Option Nat} {G G' : Wd} {pc : Nat} {ls ls' : List (Option Vl)} {st st' : List Vl} {o : Option Prop}
theorem LO.len {κ : Kx} {lsA : Array Slot} {n i : Nat} {ls : List (Option Vl)} (h : LO κ lsA n ls) (hi : i < ls.length) : i < n := by rw [← h.2.1]; exact hi

theorem R_iload {j : Nat} (hd : decode (MB M) pc = .ok (.iload j, 2)) (he : gI ls j st G = some (ls', st', G', o)) (k : V κ M rm P PX mc ms μ cells slots (Λ, sz, G') (pc + 2) ls' st') : V κ M rm P PX mc ms μ cells slots (Λ, sz, G) pc ls st := by
  unfold gI at he
  split at he
  · rename_i z hz
    cases he
    intro g H locs lsA hH hL hl
    exact lv_iload g.2.1 g.2.2.1 hd (hl.2.2.2 _ _ hz) (k g H locs lsA hH hL hl)
  · cases he

theorem R_iload_n {j : Fin 4} (hd : decode (MB M) pc = .ok (.iload_n j, 1)) (he : gI ls (j : Nat) st G = some (ls', st', G', o)) (k : V κ M rm P PX mc ms μ cells slots (Λ, sz, G') (pc + 1) ls' st') : V κ M rm P PX mc ms μ cells slots (Λ, sz, G) pc ls st := by
  unfold gI at he
  split at he
  · rename_i z hz
    cases he
    intro g H locs lsA hH hL hl
    exact lv_iload_n g.2.1 g.2.2.1 hd rfl (hl.2.2.2 _ _ hz) (k g H locs lsA hH hL hl)
  · cases he

theorem R_lload {j : Nat} (hd : decode (MB M) pc = .ok (.lload j, 2)) (he : gL ls j st G = some (ls', st', G', o)) (k : V κ M rm P PX mc ms μ cells slots (Λ, sz, G') (pc + 2) ls' st') : V κ M rm P PX mc ms μ cells slots (Λ, sz, G) pc ls st := by
  unfold gL at he
  split at he
  · rename_i z hz
    cases he
    intro g H locs lsA hH hL hl
    exact lv_lload g.2.1 g.2.2.1 hd (hl.2.2.2 _ _ hz) (k g H locs lsA hH hL hl)
  · cases he

theorem R_lload_n {j : Fin 4} (hd : decode (MB M) pc = .ok (.lload_n j, 1)) (he : gL ls (j : Nat) st G = some (ls', st', G', o)) (k : V κ M rm P PX mc ms μ cells slots (Λ, sz, G') (pc + 1) ls' st') : V κ M rm P PX mc ms μ cells slots (Λ, sz, G) pc ls st := by
  unfold gL at he
  split at he
  · rename_i z hz
    cases he
    intro g H locs lsA hH hL hl
    exact lv_lload_n g.2.1 g.2.2.1 hd rfl (hl.2.2.2 _ _ hz) (k g H locs lsA hH hL hl)
  · cases he

theorem R_aload {j : Nat} (hd : decode (MB M) pc = .ok (.aload j, 2)) (he : gR ls j st G = some (ls', st', G', o)) (k : V κ M rm P PX mc ms μ cells slots (Λ, sz, G') (pc + 2) ls' st') : V κ M rm P PX mc ms μ cells slots (Λ, sz, G) pc ls st := by
  unfold gR at he
  split at he
  · rename_i z hz
    cases he
    intro g H locs lsA hH hL hl
    have h1 := hl.2.2.2 _ _ hz
    have k1 := k g H locs lsA hH hL hl
    simp only [List.map_cons, tr] at h1 k1
    rcases ad_rf κ z with e | ⟨a, e⟩
    · rw [e] at h1 k1
      exact lv_aloadN g.2.1 g.2.2.1 hd h1 k1
    · rw [e] at h1 k1
      exact lv_aload g.2.1 g.2.2.1 hd h1 k1
  · cases he

theorem R_aload_n {j : Fin 4} (hd : decode (MB M) pc = .ok (.aload_n j, 1)) (he : gR ls (j : Nat) st G = some (ls', st', G', o)) (k : V κ M rm P PX mc ms μ cells slots (Λ, sz, G') (pc + 1) ls' st') : V κ M rm P PX mc ms μ cells slots (Λ, sz, G) pc ls st := by
  unfold gR at he
  split at he
  · rename_i z hz
    cases he
    intro g H locs lsA hH hL hl
    have h1 := hl.2.2.2 _ _ hz
    have k1 := k g H locs lsA hH hL hl
    simp only [List.map_cons, tr] at h1 k1
    rcases ad_rf κ z with e | ⟨a, e⟩
    · rw [e] at h1 k1
      exact lv_aload_nN g.2.1 g.2.2.1 hd rfl h1 k1
    · rw [e] at h1 k1
      exact lv_aload_n g.2.1 g.2.2.1 hd rfl h1 k1
  · cases he

theorem R_istore {j : Nat} (hd : decode (MB M) pc = .ok (.istore j, 2)) (he : pI ls j st G = some (ls', st', G', o)) (k : V κ M rm P PX mc ms μ cells slots (Λ, sz, G') (pc + 2) ls' st') : V κ M rm P PX mc ms μ cells slots (Λ, sz, G) pc ls st := by
  unfold pI at he
  split at he
  · split at he
    · rename_i ls1 hs
      cases he
      intro g H locs lsA hH hL hl
      exact lv_istore g.2.1 g.2.2.1 hd hl.has (hl.len (lset1_spec hs).1) rfl (fun lsB hB => k g H locs lsB hH hL (hl.set1 hs hB))
    · cases he
  · cases he

theorem R_istore_n {j : Fin 4} (hd : decode (MB M) pc = .ok (.istore_n j, 1)) (he : pI ls (j : Nat) st G = some (ls', st', G', o)) (k : V κ M rm P PX mc ms μ cells slots (Λ, sz, G') (pc + 1) ls' st') : V κ M rm P PX mc ms μ cells slots (Λ, sz, G) pc ls st := by
  unfold pI at he
  split at he
  · split at he
    · rename_i ls1 hs
      cases he
      intro g H locs lsA hH hL hl
      exact lv_istore_n g.2.1 g.2.2.1 hd rfl hl.has (hl.len (lset1_spec hs).1) rfl (fun lsB hB => k g H locs lsB hH hL (hl.set1 hs hB))
    · cases he
  · cases he

theorem R_lstore {j : Nat} (hd : decode (MB M) pc = .ok (.lstore j, 2)) (he : pL ls j st G = some (ls', st', G', o)) (k : V κ M rm P PX mc ms μ cells slots (Λ, sz, G') (pc + 2) ls' st') : V κ M rm P PX mc ms μ cells slots (Λ, sz, G) pc ls st := by
  unfold pL at he
  split at he
  · split at he
    · rename_i ls1 hs
      cases he
      intro g H locs lsA hH hL hl
      exact lv_lstore g.2.1 g.2.2.1 hd hl.has (hl.len (lset2_spec hs).1) rfl (fun lsB hB => k g H locs lsB hH hL (hl.set2 hs hB))
    · cases he
  · cases he

theorem R_lstore_n {j : Fin 4} (hd : decode (MB M) pc = .ok (.lstore_n j, 1)) (he : pL ls (j : Nat) st G = some (ls', st', G', o)) (k : V κ M rm P PX mc ms μ cells slots (Λ, sz, G') (pc + 1) ls' st') : V κ M rm P PX mc ms μ cells slots (Λ, sz, G) pc ls st := by
  unfold pL at he
  split at he
  · split at he
    · rename_i ls1 hs
      cases he
      intro g H locs lsA hH hL hl
      exact lv_lstore_n g.2.1 g.2.2.1 hd rfl hl.has (hl.len (lset2_spec hs).1) rfl (fun lsB hB => k g H locs lsB hH hL (hl.set2 hs hB))
    · cases he
  · cases he

theorem R_astore {j : Nat} (hd : decode (MB M) pc = .ok (.astore j, 2)) (he : pR ls j st G = some (ls', st', G', o)) (k : V κ M rm P PX mc ms μ cells slots (Λ, sz, G') (pc + 2) ls' st') : V κ M rm P PX mc ms μ cells slots (Λ, sz, G) pc ls st := by
  unfold pR at he
  split at he
  · rename_i z r
    split at he
    · rename_i ls1 hs
      cases he
      intro g H locs lsA hH hL hl
      have k1 := fun lsB hB => k g H locs lsB hH hL (hl.set1 hs hB)
      simp only [List.map_cons, tr] at k1 ⊢
      rcases ad_rf κ z with e | ⟨a, e⟩
      · rw [e] at k1 ⊢
        exact lv_astoreN g.2.1 g.2.2.1 hd hl.has (hl.len (lset1_spec hs).1) rfl k1
      · rw [e] at k1 ⊢
        exact lv_astore g.2.1 g.2.2.1 hd hl.has (hl.len (lset1_spec hs).1) rfl k1
    · cases he
  · cases he

theorem R_astore_n {j : Fin 4} (hd : decode (MB M) pc = .ok (.astore_n j, 1)) (he : pR ls (j : Nat) st G = some (ls', st', G', o)) (k : V κ M rm P PX mc ms μ cells slots (Λ, sz, G') (pc + 1) ls' st') : V κ M rm P PX mc ms μ cells slots (Λ, sz, G) pc ls st := by
  unfold pR at he
  split at he
  · rename_i z r
    split at he
    · rename_i ls1 hs
      cases he
      intro g H locs lsA hH hL hl
      have k1 := fun lsB hB => k g H locs lsB hH hL (hl.set1 hs hB)
      simp only [List.map_cons, tr] at k1 ⊢
      rcases ad_rf κ z with e | ⟨a, e⟩
      · rw [e] at k1 ⊢
        exact lv_astore_nN g.2.1 g.2.2.1 hd rfl hl.has (hl.len (lset1_spec hs).1) rfl k1
      · rw [e] at k1 ⊢
        exact lv_astore_n g.2.1 g.2.2.1 hd rfl hl.has (hl.len (lset1_spec hs).1) rfl k1
    · cases he
  · cases he

theorem R_iconst {n : Int} (hd : decode (MB M) pc = .ok (.iconst n, 1)) (k : V κ M rm P PX mc ms μ cells slots (Λ, sz, G) (pc + 1) ls (.inl n :: st)) : V κ M rm P PX mc ms μ cells slots (Λ, sz, G) pc ls st := by
  intro g H locs lsA hH hL hl
  exact lv_iconst g.2.1 g.2.2.1 hd rfl (k g H locs lsA hH hL hl)

theorem R_bipush {n z : Int} (hd : decode (MB M) pc = .ok (.bipush n, 2)) (hk : decide ((Int8.ofInt n).toInt32 = Int32.ofInt z) = true) (k : V κ M rm P PX mc ms μ cells slots (Λ, sz, G) (pc + 2) ls (.inl z :: st)) : V κ M rm P PX mc ms μ cells slots (Λ, sz, G) pc ls st := by
  intro g H locs lsA hH hL hl
  exact lv_bipush g.2.1 g.2.2.1 hd (of_decide_eq_true hk) (k g H locs lsA hH hL hl)

theorem R_sipush {n z : Int} (hd : decode (MB M) pc = .ok (.sipush n, 3)) (hk : decide ((Int16.ofInt n).toInt32 = Int32.ofInt z) = true) (k : V κ M rm P PX mc ms μ cells slots (Λ, sz, G) (pc + 3) ls (.inl z :: st)) : V κ M rm P PX mc ms μ cells slots (Λ, sz, G) pc ls st := by
  intro g H locs lsA hH hL hl
  exact lv_sipush g.2.1 g.2.2.1 hd (of_decide_eq_true hk) (k g H locs lsA hH hL hl)

theorem R_lconst {n : Fin 2} {z : Int} (hd : decode (MB M) pc = .ok (.lconst n, 1)) (hk : decide (Int64.ofNat (n : Nat) = Int64.ofInt z) = true) (k : V κ M rm P PX mc ms μ cells slots (Λ, sz, G) (pc + 1) ls (.inr (.inl z) :: st)) : V κ M rm P PX mc ms μ cells slots (Λ, sz, G) pc ls st := by
  intro g H locs lsA hH hL hl
  exact lv_lconst g.2.1 g.2.2.1 hd (of_decide_eq_true hk) (k g H locs lsA hH hL hl)

theorem R_ldc {j : Nat} {z : Int} (hd : decode (MB M) pc = .ok (.ldc j, 2)) (hk : wK.any (isCst (MN M).cls j (Int32.ofInt z)) = true) (k : V κ M rm P PX mc ms μ cells slots (Λ, sz, G) (pc + 2) ls (.inl z :: st)) : V κ M rm P PX mc ms μ cells slots (Λ, sz, G) pc ls st := by
  intro g H locs lsA hH hL hl
  exact lv_ldc g.2.1 g.2.2.1 g.2.2.2.2.2.2.1 (g.2.2.2.2.2.2.2.1 _ (has_of wK_in hk isCst_ok rfl)) hd (k g H locs lsA hH hL hl)

theorem R_ldc_w {j : Nat} {z : Int} (hd : decode (MB M) pc = .ok (.ldc_w j, 3)) (hk : wK.any (isCst (MN M).cls j (Int32.ofInt z)) = true) (k : V κ M rm P PX mc ms μ cells slots (Λ, sz, G) (pc + 3) ls (.inl z :: st)) : V κ M rm P PX mc ms μ cells slots (Λ, sz, G) pc ls st := by
  intro g H locs lsA hH hL hl
  exact lv_ldcw g.2.1 g.2.2.1 g.2.2.2.2.2.2.1 (g.2.2.2.2.2.2.2.1 _ (has_of wK_in hk isCst_ok rfl)) hd (k g H locs lsA hH hL hl)

theorem R_ldc2_w {j : Nat} {z : Int} (hd : decode (MB M) pc = .ok (.ldc2_w j, 3)) (hk : wK.any (isCsl (MN M).cls j (Int64.ofInt z)) = true) (k : V κ M rm P PX mc ms μ cells slots (Λ, sz, G) (pc + 3) ls (.inr (.inl z) :: st)) : V κ M rm P PX mc ms μ cells slots (Λ, sz, G) pc ls st := by
  intro g H locs lsA hH hL hl
  exact lv_ldc2 g.2.1 g.2.2.1 g.2.2.2.2.2.2.1 (g.2.2.2.2.2.2.2.1 _ (has_of wK_in hk isCsl_ok rfl)) hd (k g H locs lsA hH hL hl)

theorem R_aconst_null (hd : decode (MB M) pc = .ok (.aconst_null, 1)) (k : V κ M rm P PX mc ms μ cells slots (Λ, sz, G) (pc + 1) ls (.inr (.inr 0) :: st)) : V κ M rm P PX mc ms μ cells slots (Λ, sz, G) pc ls st := by
  intro g H locs lsA hH hL hl
  exact lv_null g.2.1 g.2.2.1 hd (k g H locs lsA hH hL hl)

theorem R_iinc {j : Nat} {n z : Int} {ls1 : List (Option Vl)} (hd : decode (MB M) pc = .ok (.iinc j n, 3)) (hz : lget ls j = some (.inl z)) (hs : lset1 ls j (.inl (z + n)) = some ls1) (k : V κ M rm P PX mc ms μ cells slots (Λ, sz, G) (pc + 3) ls1 st) : V κ M rm P PX mc ms μ cells slots (Λ, sz, G) pc ls st := by
  intro g H locs lsA hH hL hl
  obtain ⟨q, hq⟩ := List.getElem?_of_mem (lkn_mem κ hz)
  exact lv_iinc g.2.1 g.2.2.1 hd hl.has hq (by rw [← Int32.ofInt_add]) (hl.len (lset1_spec hs).1) rfl (fun lsB hB => k g H locs lsB hH hL (hl.set1 hs hB))

theorem R_iadd {x y : Int} (hd : decode (MB M) pc = .ok (.iadd, 1)) (k : V κ M rm P PX mc ms μ cells slots (Λ, sz, G) (pc + 1) ls ((.inl (HAdd.hAdd x y)) :: st)) : V κ M rm P PX mc ms μ cells slots (Λ, sz, G) pc ls ((.inl y) :: (.inl x) :: st) := by
  intro g H locs lsA hH hL hl
  have k1 := k g H locs lsA hH hL hl
  simp only [List.map_cons, tr] at k1 ⊢
  rw [show Int32.ofInt (x + y) = Int32.ofInt x + Int32.ofInt y from Int32.ofInt_add x y] at k1
  exact lv_iadd g.2.1 g.2.2.1 hd k1

theorem R_isub {x y : Int} (hd : decode (MB M) pc = .ok (.isub, 1)) (k : V κ M rm P PX mc ms μ cells slots (Λ, sz, G) (pc + 1) ls ((.inl (HSub.hSub x y)) :: st)) : V κ M rm P PX mc ms μ cells slots (Λ, sz, G) pc ls ((.inl y) :: (.inl x) :: st) := by
  intro g H locs lsA hH hL hl
  have k1 := k g H locs lsA hH hL hl
  simp only [List.map_cons, tr] at k1 ⊢
  rw [show Int32.ofInt (x - y) = Int32.ofInt x - Int32.ofInt y from Int32.ofInt_sub x y] at k1
  exact lv_isub g.2.1 g.2.2.1 hd k1

theorem R_imul {x y : Int} (hd : decode (MB M) pc = .ok (.imul, 1)) (k : V κ M rm P PX mc ms μ cells slots (Λ, sz, G) (pc + 1) ls ((.inl (HMul.hMul x y)) :: st)) : V κ M rm P PX mc ms μ cells slots (Λ, sz, G) pc ls ((.inl y) :: (.inl x) :: st) := by
  intro g H locs lsA hH hL hl
  have k1 := k g H locs lsA hH hL hl
  simp only [List.map_cons, tr] at k1 ⊢
  rw [show Int32.ofInt (x * y) = Int32.ofInt x * Int32.ofInt y from Int32.ofInt_mul x y] at k1
  exact lv_imul g.2.1 g.2.2.1 hd k1

theorem R_ladd {x y : Int} (hd : decode (MB M) pc = .ok (.ladd, 1)) (k : V κ M rm P PX mc ms μ cells slots (Λ, sz, G) (pc + 1) ls ((.inr (.inl (HAdd.hAdd x y))) :: st)) : V κ M rm P PX mc ms μ cells slots (Λ, sz, G) pc ls ((.inr (.inl y)) :: (.inr (.inl x)) :: st) := by
  intro g H locs lsA hH hL hl
  have k1 := k g H locs lsA hH hL hl
  simp only [List.map_cons, tr] at k1 ⊢
  rw [show Int64.ofInt (x + y) = Int64.ofInt x + Int64.ofInt y from Int64.ofInt_add x y] at k1
  exact lv_ladd g.2.1 g.2.2.1 hd k1

theorem R_lsub {x y : Int} (hd : decode (MB M) pc = .ok (.lsub, 1)) (k : V κ M rm P PX mc ms μ cells slots (Λ, sz, G) (pc + 1) ls ((.inr (.inl (HSub.hSub x y))) :: st)) : V κ M rm P PX mc ms μ cells slots (Λ, sz, G) pc ls ((.inr (.inl y)) :: (.inr (.inl x)) :: st) := by
  intro g H locs lsA hH hL hl
  have k1 := k g H locs lsA hH hL hl
  simp only [List.map_cons, tr] at k1 ⊢
  rw [show Int64.ofInt (x - y) = Int64.ofInt x - Int64.ofInt y from Int64.ofInt_sub x y] at k1
  exact lv_lsub g.2.1 g.2.2.1 hd k1

theorem R_lmul {x y : Int} (hd : decode (MB M) pc = .ok (.lmul, 1)) (k : V κ M rm P PX mc ms μ cells slots (Λ, sz, G) (pc + 1) ls ((.inr (.inl (HMul.hMul x y))) :: st)) : V κ M rm P PX mc ms μ cells slots (Λ, sz, G) pc ls ((.inr (.inl y)) :: (.inr (.inl x)) :: st) := by
  intro g H locs lsA hH hL hl
  have k1 := k g H locs lsA hH hL hl
  simp only [List.map_cons, tr] at k1 ⊢
  rw [show Int64.ofInt (x * y) = Int64.ofInt x * Int64.ofInt y from Int64.ofInt_mul x y] at k1
  exact lv_lmul g.2.1 g.2.2.1 hd k1

theorem R_idiv {x y : Int} (hd : decode (MB M) pc = .ok (.idiv, 1)) (ho : ob (ob32 x y)) (k : V κ M rm P PX mc ms μ cells slots (Λ, sz, G) (pc + 1) ls ((.inl (Int.tdiv x y)) :: st)) : V κ M rm P PX mc ms μ cells slots (Λ, sz, G) pc ls ((.inl y) :: (.inl x) :: st) := by
  intro g H locs lsA hH hL hl
  have k1 := k g H locs lsA hH hL hl
  simp only [List.map_cons, tr] at k1 ⊢
  rw [i32_div ho.1 ho.2.1] at k1
  exact lv_idiv g.2.1 g.2.2.1 hd (fun q => ho.2.2 ((i32_eq ho.2.1 r32_0).mp q)) k1

theorem R_ldiv {x y : Int} (hd : decode (MB M) pc = .ok (.ldiv, 1)) (ho : ob (ob64 x y)) (k : V κ M rm P PX mc ms μ cells slots (Λ, sz, G) (pc + 1) ls ((.inr (.inl (Int.tdiv x y))) :: st)) : V κ M rm P PX mc ms μ cells slots (Λ, sz, G) pc ls ((.inr (.inl y)) :: (.inr (.inl x)) :: st) := by
  intro g H locs lsA hH hL hl
  have k1 := k g H locs lsA hH hL hl
  simp only [List.map_cons, tr] at k1 ⊢
  rw [i64_div ho.1 ho.2.1] at k1
  exact lv_ldiv g.2.1 g.2.2.1 hd (fun q => ho.2.2 ((i64_eq ho.2.1 r64_0).mp q)) k1

theorem R_irem {x y : Int} (hd : decode (MB M) pc = .ok (.irem, 1)) (ho : ob (ob32 x y)) (k : V κ M rm P PX mc ms μ cells slots (Λ, sz, G) (pc + 1) ls ((.inl (Int.tmod x y)) :: st)) : V κ M rm P PX mc ms μ cells slots (Λ, sz, G) pc ls ((.inl y) :: (.inl x) :: st) := by
  intro g H locs lsA hH hL hl
  have k1 := k g H locs lsA hH hL hl
  simp only [List.map_cons, tr] at k1 ⊢
  rw [← i32_rem ho.1 ho.2.1] at k1
  exact lv_irem g.2.1 g.2.2.1 hd (fun q => ho.2.2 ((i32_eq ho.2.1 r32_0).mp q)) k1

theorem R_lrem {x y : Int} (hd : decode (MB M) pc = .ok (.lrem, 1)) (ho : ob (ob64 x y)) (k : V κ M rm P PX mc ms μ cells slots (Λ, sz, G) (pc + 1) ls ((.inr (.inl (Int.tmod x y))) :: st)) : V κ M rm P PX mc ms μ cells slots (Λ, sz, G) pc ls ((.inr (.inl y)) :: (.inr (.inl x)) :: st) := by
  intro g H locs lsA hH hL hl
  have k1 := k g H locs lsA hH hL hl
  simp only [List.map_cons, tr] at k1 ⊢
  rw [← i64_rem ho.1 ho.2.1] at k1
  exact lv_lrem g.2.1 g.2.2.1 hd (fun q => ho.2.2 ((i64_eq ho.2.1 r64_0).mp q)) k1

theorem R_iand {x y : Int} (hd : decode (MB M) pc = .ok (.iand, 1)) (k : V κ M rm P PX mc ms μ cells slots (Λ, sz, G) (pc + 1) ls ((.inl (iAnd x y)) :: st)) : V κ M rm P PX mc ms μ cells slots (Λ, sz, G) pc ls ((.inl y) :: (.inl x) :: st) := by
  intro g H locs lsA hH hL hl
  have k1 := k g H locs lsA hH hL hl
  simp only [List.map_cons, tr] at k1 ⊢
  rw [show Int32.ofInt (iAnd x y) = _ from Int32.ofInt_toInt _] at k1
  exact lv_iand g.2.1 g.2.2.1 hd k1

theorem R_ior {x y : Int} (hd : decode (MB M) pc = .ok (.ior, 1)) (k : V κ M rm P PX mc ms μ cells slots (Λ, sz, G) (pc + 1) ls ((.inl (iOr x y)) :: st)) : V κ M rm P PX mc ms μ cells slots (Λ, sz, G) pc ls ((.inl y) :: (.inl x) :: st) := by
  intro g H locs lsA hH hL hl
  have k1 := k g H locs lsA hH hL hl
  simp only [List.map_cons, tr] at k1 ⊢
  rw [show Int32.ofInt (iOr x y) = _ from Int32.ofInt_toInt _] at k1
  exact lv_ior g.2.1 g.2.2.1 hd k1

theorem R_ixor {x y : Int} (hd : decode (MB M) pc = .ok (.ixor, 1)) (k : V κ M rm P PX mc ms μ cells slots (Λ, sz, G) (pc + 1) ls ((.inl (iXor x y)) :: st)) : V κ M rm P PX mc ms μ cells slots (Λ, sz, G) pc ls ((.inl y) :: (.inl x) :: st) := by
  intro g H locs lsA hH hL hl
  have k1 := k g H locs lsA hH hL hl
  simp only [List.map_cons, tr] at k1 ⊢
  rw [show Int32.ofInt (iXor x y) = _ from Int32.ofInt_toInt _] at k1
  exact lv_ixor g.2.1 g.2.2.1 hd k1

theorem R_ishl {x y : Int} (hd : decode (MB M) pc = .ok (.ishl, 1)) (k : V κ M rm P PX mc ms μ cells slots (Λ, sz, G) (pc + 1) ls ((.inl (iShl x y)) :: st)) : V κ M rm P PX mc ms μ cells slots (Λ, sz, G) pc ls ((.inl y) :: (.inl x) :: st) := by
  intro g H locs lsA hH hL hl
  have k1 := k g H locs lsA hH hL hl
  simp only [List.map_cons, tr] at k1 ⊢
  rw [show Int32.ofInt (iShl x y) = _ from Int32.ofInt_toInt _] at k1
  exact lv_ishl g.2.1 g.2.2.1 hd k1

theorem R_ishr {x y : Int} (hd : decode (MB M) pc = .ok (.ishr, 1)) (k : V κ M rm P PX mc ms μ cells slots (Λ, sz, G) (pc + 1) ls ((.inl (iShr x y)) :: st)) : V κ M rm P PX mc ms μ cells slots (Λ, sz, G) pc ls ((.inl y) :: (.inl x) :: st) := by
  intro g H locs lsA hH hL hl
  have k1 := k g H locs lsA hH hL hl
  simp only [List.map_cons, tr] at k1 ⊢
  rw [show Int32.ofInt (iShr x y) = _ from Int32.ofInt_toInt _] at k1
  exact lv_ishr g.2.1 g.2.2.1 hd k1

theorem R_iushr {x y : Int} (hd : decode (MB M) pc = .ok (.iushr, 1)) (k : V κ M rm P PX mc ms μ cells slots (Λ, sz, G) (pc + 1) ls ((.inl (iUsh x y)) :: st)) : V κ M rm P PX mc ms μ cells slots (Λ, sz, G) pc ls ((.inl y) :: (.inl x) :: st) := by
  intro g H locs lsA hH hL hl
  have k1 := k g H locs lsA hH hL hl
  simp only [List.map_cons, tr] at k1 ⊢
  rw [show Int32.ofInt (iUsh x y) = _ from Int32.ofInt_toInt _] at k1
  exact lv_iushr g.2.1 g.2.2.1 hd rfl k1

theorem R_land {x y : Int} (hd : decode (MB M) pc = .ok (.land, 1)) (k : V κ M rm P PX mc ms μ cells slots (Λ, sz, G) (pc + 1) ls ((.inr (.inl (lAnd x y))) :: st)) : V κ M rm P PX mc ms μ cells slots (Λ, sz, G) pc ls ((.inr (.inl y)) :: (.inr (.inl x)) :: st) := by
  intro g H locs lsA hH hL hl
  have k1 := k g H locs lsA hH hL hl
  simp only [List.map_cons, tr] at k1 ⊢
  rw [show Int64.ofInt (lAnd x y) = _ from Int64.ofInt_toInt _] at k1
  exact lv_land g.2.1 g.2.2.1 hd k1

theorem R_lor {x y : Int} (hd : decode (MB M) pc = .ok (.lor, 1)) (k : V κ M rm P PX mc ms μ cells slots (Λ, sz, G) (pc + 1) ls ((.inr (.inl (lOr x y))) :: st)) : V κ M rm P PX mc ms μ cells slots (Λ, sz, G) pc ls ((.inr (.inl y)) :: (.inr (.inl x)) :: st) := by
  intro g H locs lsA hH hL hl
  have k1 := k g H locs lsA hH hL hl
  simp only [List.map_cons, tr] at k1 ⊢
  rw [show Int64.ofInt (lOr x y) = _ from Int64.ofInt_toInt _] at k1
  exact lv_lor g.2.1 g.2.2.1 hd k1

theorem R_lshl {x y : Int} (hd : decode (MB M) pc = .ok (.lshl, 1)) (k : V κ M rm P PX mc ms μ cells slots (Λ, sz, G) (pc + 1) ls (.inr (.inl (lShl x y)) :: st)) : V κ M rm P PX mc ms μ cells slots (Λ, sz, G) pc ls (.inl y :: .inr (.inl x) :: st) := by
  intro g H locs lsA hH hL hl
  have k1 := k g H locs lsA hH hL hl
  simp only [List.map_cons, tr] at k1 ⊢
  rw [show Int64.ofInt (lShl x y) = _ from Int64.ofInt_toInt _] at k1
  exact lv_lshl g.2.1 g.2.2.1 hd rfl k1
theorem R_lcmp {x y : Int} (hd : decode (MB M) pc = .ok (.lcmp, 1)) (ho : R64 x ∧ R64 y) (k : V κ M rm P PX mc ms μ cells slots (Λ, sz, G) (pc + 1) ls (.inl (lc3 x y) :: st)) : V κ M rm P PX mc ms μ cells slots (Λ, sz, G) pc ls (.inr (.inl y) :: .inr (.inl x) :: st) := by
  intro g H locs lsA hH hL hl
  have k1 := k g H locs lsA hH hL hl
  simp only [List.map_cons, tr] at k1 ⊢
  rw [← lc3_ok ho.1 ho.2] at k1
  exact W.lcmp g.2.1 g.2.2.1 hd k1
theorem R_i2l {x : Int} (hd : decode (MB M) pc = .ok (.i2l, 1)) (ho : R32 x) (k : V κ M rm P PX mc ms μ cells slots (Λ, sz, G) (pc + 1) ls (.inr (.inl x) :: st)) : V κ M rm P PX mc ms μ cells slots (Λ, sz, G) pc ls (.inl x :: st) := by
  intro g H locs lsA hH hL hl
  exact lv_i2l g.2.1 g.2.2.1 hd (i32_to64 ho) (k g H locs lsA hH hL hl)
theorem R_l2i {x : Int} (hd : decode (MB M) pc = .ok (.l2i, 1)) (k : V κ M rm P PX mc ms μ cells slots (Λ, sz, G) (pc + 1) ls (.inl x :: st)) : V κ M rm P PX mc ms μ cells slots (Λ, sz, G) pc ls (.inr (.inl x) :: st) := by
  intro g H locs lsA hH hL hl
  exact lv_l2i g.2.1 g.2.2.1 hd (i64_to32 x) (k g H locs lsA hH hL hl)
theorem R_i2c {x : Int} (hd : decode (MB M) pc = .ok (.i2c, 1)) (k : V κ M rm P PX mc ms μ cells slots (Λ, sz, G) (pc + 1) ls (.inl (iChr x) :: st)) : V κ M rm P PX mc ms μ cells slots (Λ, sz, G) pc ls (.inl x :: st) := by
  intro g H locs lsA hH hL hl
  have k1 := k g H locs lsA hH hL hl
  simp only [List.map_cons, tr] at k1 ⊢
  rw [show Int32.ofInt (iChr x) = _ from Int32.ofInt_toInt _] at k1
  exact lv_i2c g.2.1 g.2.2.1 hd rfl k1
theorem R_ineg {x : Int} (hd : decode (MB M) pc = .ok (.ineg, 1)) (k : V κ M rm P PX mc ms μ cells slots (Λ, sz, G) (pc + 1) ls (.inl (-x) :: st)) : V κ M rm P PX mc ms μ cells slots (Λ, sz, G) pc ls (.inl x :: st) := by
  intro g H locs lsA hH hL hl
  have k1 := k g H locs lsA hH hL hl
  simp only [List.map_cons, tr] at k1 ⊢
  rw [Int32.ofInt_neg] at k1
  exact lv_ineg g.2.1 g.2.2.1 hd k1
theorem R_dup {v : Vl} (hv : ∀ z, v ≠ .inr (.inl z)) (hd : decode (MB M) pc = .ok (.dup, 1)) (k : V κ M rm P PX mc ms μ cells slots (Λ, sz, G) (pc + 1) ls (v :: v :: st)) : V κ M rm P PX mc ms μ cells slots (Λ, sz, G) pc ls (v :: st) := by
  intro g H locs lsA hH hL hl
  exact lv_dup g.2.1 g.2.2.1 hd (tr_cat1 κ hv) (k g H locs lsA hH hL hl)
theorem R_dup2a {z : Int} (hd : decode (MB M) pc = .ok (.dup2, 1)) (k : V κ M rm P PX mc ms μ cells slots (Λ, sz, G) (pc + 1) ls (.inr (.inl z) :: .inr (.inl z) :: st)) : V κ M rm P PX mc ms μ cells slots (Λ, sz, G) pc ls (.inr (.inl z) :: st) := by
  intro g H locs lsA hH hL hl
  exact lv_dup2_2 g.2.1 g.2.2.1 hd rfl (k g H locs lsA hH hL hl)
theorem R_dup2b {v u : Vl} (hv : ∀ z, v ≠ .inr (.inl z)) (hu : ∀ z, u ≠ .inr (.inl z)) (hd : decode (MB M) pc = .ok (.dup2, 1)) (k : V κ M rm P PX mc ms μ cells slots (Λ, sz, G) (pc + 1) ls (v :: u :: v :: u :: st)) : V κ M rm P PX mc ms μ cells slots (Λ, sz, G) pc ls (v :: u :: st) := by
  intro g H locs lsA hH hL hl
  exact lv_dup2_11 g.2.1 g.2.2.1 hd (tr_cat1 κ hv) (tr_cat1 κ hu) (k g H locs lsA hH hL hl)
theorem R_pop {v : Vl} (hv : ∀ z, v ≠ .inr (.inl z)) (hd : decode (MB M) pc = .ok (.pop, 1)) (k : V κ M rm P PX mc ms μ cells slots (Λ, sz, G) (pc + 1) ls st) : V κ M rm P PX mc ms μ cells slots (Λ, sz, G) pc ls (v :: st) := by
  intro g H locs lsA hH hL hl
  exact lv_pop g.2.1 g.2.2.1 hd (tr_cat1 κ hv) (k g H locs lsA hH hL hl)
end EXS
