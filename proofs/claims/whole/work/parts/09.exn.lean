/-! THE EVALUATOR IS RIGHT: put together; branches; returns -/
section EXN
variable {κ : Kx} {M : Ms} {rm : Room} {P : Option Vl → Om → Prop} {PX : String → Om → Prop} {mc ms : Nat} {μ : Mu} {cells slots : Nat} {Λ : Ly} {sz : Option Nat} {G G' : Wd} {pc : Nat} {ls ls' : List (Option Vl)} {st st' : List Vl} {o : Option Prop}
theorem R_xGet {j ci kf : Nat} {zz : Int} (hd : decode (MB M) pc = .ok (.getfield j, 3)) (hl : lnk (MN M).cls (.getfield j) (ci, kf, zz) = true) (he : xGet Λ ci kf ls st G = some (ls', st', G', o)) (ho : ob o) (k : V κ M rm P PX mc ms μ cells slots (Λ, sz, G') (pc + 3) ls' st') : V κ M rm P PX mc ms μ cells slots (Λ, sz, G) pc ls st := by
  unfold xGet at he
  split at he
  · rename_i a r
    split at he
    · rename_i hs
      cases he
      exact R_getfield (k := kf) hd hl ho (v := .inr (.inl (G.2.1 a kf))) (by unfold fv; rw [if_pos hs]; rfl) k
    · rename_i hs
      split at he
      · rename_i b hb
        cases he
        exact R_getfield (k := kf) hd hl ho (v := .inr (.inr b)) (by unfold fv; rw [if_neg (by rw [hs]; decide), if_pos hs]; simp only at hb ⊢; rw [hb]; rfl) k
      · cases he
    · rename_i hs
      cases he
      exact R_getfield (k := kf) hd hl ho (v := .inr (.inr (G.2.2 a kf))) (by unfold fv; rw [if_neg (by rw [hs]; decide), if_neg (by rw [hs]; decide), if_pos hs]; rfl) k
    · rename_i h1 h2 h3
      cases he
      exact R_getfield (k := kf) hd hl ho (v := .inl (G.1 a kf)) (by unfold fv; rw [if_neg (fun q => h1 q), if_neg (fun q => h2 q), if_neg (fun q => h3 q)]; rfl) k
  · cases he
theorem lnk_cl {j : Nat} {x : X3} {own : String} (hl : lnk own (.putfield j) x = true) : ∃ r, vwCl[x.1]? = some r ∧ x.2.1 < r.2.2 := by
  unfold lnk at hl
  split at hl <;> (try (rename_i e; cases e; done))
  all_goals first
    | (split at hl
       · rename_i r hr
         simp only [Bool.and_eq_true, decide_eq_true_eq] at hl
         exact ⟨r, hr, hl.1⟩
       · cases hl)
    | (rename_i hh; exact absurd rfl (hh _))
theorem R_xPut {j ci kf : Nat} {zz : Int} (hd : decode (MB M) pc = .ok (.putfield j, 3)) (hl : lnk (MN M).cls (.putfield j) (ci, kf, zz) = true) (he : xPut Λ ci kf ls st G = some (ls', st', G', o)) (ho : ob o) (k : V κ M rm P PX mc ms μ cells slots (Λ, sz, G') (pc + 3) ls' st') : V κ M rm P PX mc ms μ cells slots (Λ, sz, G) pc ls st := by
  obtain ⟨r0, hc, hk⟩ := lnk_cl hl
  have hm := sk_all hc hk
  simp only at hc hk hm
  unfold xPut at he
  unfold skM at hm
  split at he
  · rename_i z a r
    split at he
    · rename_i hs
      rw [show skd ci kf = 0 from hs] at hm
      simp only [decide_eq_true_eq] at hm
      cases he
      refine R_putfield (k := kf) (G' := (upd2 G.1 a kf z, G.2)) hd hl ho hm rfl rfl (fun k' => ?_) (fun b hb => ⟨fun k => by simp [upd2, hb], fun _ => rfl, fun _ => rfl⟩) k
      by_cases hk' : k' = kf
      · subst hk'
        rw [if_pos rfl]
        unfold fv
        rw [if_neg (by rw [show skd ci k' = 0 from hs]; decide), if_neg (by rw [show skd ci k' = 0 from hs]; decide), if_neg (by rw [show skd ci k' = 0 from hs]; decide)]
        simp [upd2, tr]
      · rw [if_neg hk']
        unfold fv
        simp [upd2, hk']
    · rename_i hs
      rw [show skd ci kf = 4 from hs] at hm
      simp only [decide_eq_true_eq] at hm
      cases he
      obtain ⟨ho, hz⟩ := ho
      refine R_putfield (k := kf) (G' := (upd2 G.1 a kf z, G.2)) hd hl ho hm (by rcases hz with rfl | rfl <;> rfl) (by rcases hz with rfl | rfl <;> rfl) (fun k' => ?_) (fun b hb => ⟨fun k => by simp [upd2, hb], fun _ => rfl, fun _ => rfl⟩) k
      by_cases hk' : k' = kf
      · subst hk'
        rw [if_pos rfl]
        unfold fv
        rw [if_neg (by rw [show skd ci k' = 4 from hs]; decide), if_neg (by rw [show skd ci k' = 4 from hs]; decide), if_neg (by rw [show skd ci k' = 4 from hs]; decide)]
        simp [upd2, tr]
      · rw [if_neg hk']
        unfold fv
        simp [upd2, hk']
    · cases he
  · rename_i z a r
    split at he
    · rename_i hs
      rw [show skd ci kf = 1 from hs] at hm
      simp only [decide_eq_true_eq] at hm
      cases he
      refine R_putfield (k := kf) (G' := (G.1, upd2 G.2.1 a kf z, G.2.2)) hd hl ho hm rfl rfl (fun k' => ?_) (fun b hb => ⟨fun _ => rfl, fun k => by simp [upd2, hb], fun _ => rfl⟩) k
      by_cases hk' : k' = kf
      · subst hk'
        rw [if_pos rfl]
        unfold fv
        rw [if_pos (by rw [show skd ci k' = 1 from hs])]
        simp [upd2, tr]
      · rw [if_neg hk']
        unfold fv
        simp [upd2, hk']
    · cases he
  · rename_i z a r
    split at he
    · rename_i hs
      rw [show skd ci kf = 3 from hs] at hm
      simp only at hm
      cases he
      have hrt : ∃ ty, ctyp ci kf = ty ∧ ((∃ C, ty = .object C) ∨ ∃ t, ty = .array t) := by
        split at hm
        · rename_i C hC; exact ⟨_, rfl, Or.inl ⟨C, hC⟩⟩
        · rename_i C hC; exact ⟨_, rfl, Or.inr ⟨C, hC⟩⟩
        · cases hm
      obtain ⟨ty, hty, hrt⟩ := hrt
      have hnf : narrow ty (ad κ z) = ad κ z ∧ fits ty (ad κ z) = true := by
        rcases ad_rf κ z with e | ⟨q, e⟩ <;> rw [e] <;> rcases hrt with ⟨C, rfl⟩ | ⟨t, rfl⟩ <;> exact ⟨rfl, rfl⟩
      refine R_putfield (k := kf) (G' := (G.1, G.2.1, upd2n G.2.2 a kf z)) hd hl ho hty hnf.1 hnf.2 (fun k' => ?_) (fun b hb => ⟨fun _ => rfl, fun _ => rfl, fun k => by simp [upd2n, hb]⟩) k
      by_cases hk' : k' = kf
      · subst hk'
        rw [if_pos rfl]
        unfold fv
        rw [if_neg (by rw [show skd ci k' = 3 from hs]; decide), if_neg (by rw [show skd ci k' = 3 from hs]; decide), if_pos (by rw [show skd ci k' = 3 from hs])]
        simp [upd2n, tr]
      · rw [if_neg hk']
        unfold fv
        simp [upd2n, hk']
    · cases he
  · cases he
theorem R_xLen (hd : decode (MB M) pc = .ok (.arraylength, 1)) (he : xLen Λ ls st G = some (ls', st', G', o)) (k : V κ M rm P PX mc ms μ cells slots (Λ, sz, G') (pc + 1) ls' st') : V κ M rm P PX mc ms μ cells slots (Λ, sz, G) pc ls st := by
  unfold xLen at he
  split at he
  · split at he
    · rename_i q hq
      cases he
      exact R_len hd hq k
    · cases he
  · cases he

theorem R_xiaload (hd : decode (MB M) pc = .ok (.iaload, 1)) (he : xLd Λ 0 ls st G = some (ls', st', G', o)) (ho : ob o) (k : V κ M rm P PX mc ms μ cells slots (Λ, sz, G') (pc + 1) ls' st') : V κ M rm P PX mc ms μ cells slots (Λ, sz, G) pc ls st := by
  unfold xLd at he
  split at he
  · split at he
    · rename_i q hq
      split at he
      · rename_i h9
        cases he
        exact R_iaload hd hq h9 ho k
      · cases he
    · cases he
  · cases he

theorem R_xlaload (hd : decode (MB M) pc = .ok (.laload, 1)) (he : xLd Λ 1 ls st G = some (ls', st', G', o)) (ho : ob o) (k : V κ M rm P PX mc ms μ cells slots (Λ, sz, G') (pc + 1) ls' st') : V κ M rm P PX mc ms μ cells slots (Λ, sz, G) pc ls st := by
  unfold xLd at he
  split at he
  · split at he
    · rename_i q hq
      split at he
      · rename_i h9
        cases he
        exact R_laload hd hq h9 ho k
      · cases he
    · cases he
  · cases he

theorem R_xbaload (hd : decode (MB M) pc = .ok (.baload, 1)) (he : xLd Λ 2 ls st G = some (ls', st', G', o)) (ho : ob o) (k : V κ M rm P PX mc ms μ cells slots (Λ, sz, G') (pc + 1) ls' st') : V κ M rm P PX mc ms μ cells slots (Λ, sz, G) pc ls st := by
  unfold xLd at he
  split at he
  · split at he
    · rename_i q hq
      split at he
      · rename_i h9
        cases he
        exact R_baload hd hq h9 ho k
      · cases he
    · cases he
  · cases he

theorem R_xaaload (hd : decode (MB M) pc = .ok (.aaload, 1)) (he : xLdR Λ ls st G = some (ls', st', G', o)) (ho : ob o) (k : V κ M rm P PX mc ms μ cells slots (Λ, sz, G') (pc + 1) ls' st') : V κ M rm P PX mc ms μ cells slots (Λ, sz, G) pc ls st := by
  unfold xLdR at he
  split at he
  · split at he
    · rename_i q hq
      split at he
      · rename_i h9
        cases he
        exact R_aaload hd hq h9 ho k
      · cases he
    · cases he
  · cases he

theorem R_xiastore (hd : decode (MB M) pc = .ok (.iastore, 1)) (he : xSt Λ 0 ls st G = some (ls', st', G', o)) (ho : ob o) (k : V κ M rm P PX mc ms μ cells slots (Λ, sz, G') (pc + 1) ls' st') : V κ M rm P PX mc ms μ cells slots (Λ, sz, G) pc ls st := by
  unfold xSt at he
  split at he
  · split at he
    · rename_i q hq
      split at he
      · rename_i h9
        cases he; exact R_iastore hd hq h9.1 ho k
      · split at he
        · rename_i h9
          exact absurd h9.2 (by decide)
        · cases he
    · cases he
  · split at he
    · rename_i q hq
      split at he
      · rename_i h9
        exact absurd h9.2 (by decide)
      · cases he
    · cases he
  · cases he

theorem R_xlastore (hd : decode (MB M) pc = .ok (.lastore, 1)) (he : xSt Λ 1 ls st G = some (ls', st', G', o)) (ho : ob o) (k : V κ M rm P PX mc ms μ cells slots (Λ, sz, G') (pc + 1) ls' st') : V κ M rm P PX mc ms μ cells slots (Λ, sz, G) pc ls st := by
  unfold xSt at he
  split at he
  · split at he
    · rename_i q hq
      split at he
      · rename_i h9
        exact absurd h9.2 (by decide)
      · split at he
        · rename_i h9
          exact absurd h9.2 (by decide)
        · cases he
    · cases he
  · split at he
    · rename_i q hq
      split at he
      · rename_i h9
        cases he; exact R_lastore hd hq h9.1 ho k
      · cases he
    · cases he
  · cases he

theorem R_xbastore (hd : decode (MB M) pc = .ok (.bastore, 1)) (he : xSt Λ 2 ls st G = some (ls', st', G', o)) (ho : ob o) (k : V κ M rm P PX mc ms μ cells slots (Λ, sz, G') (pc + 1) ls' st') : V κ M rm P PX mc ms μ cells slots (Λ, sz, G) pc ls st := by
  unfold xSt at he
  split at he
  · split at he
    · rename_i q hq
      split at he
      · rename_i h9
        exact absurd h9.2 (by decide)
      · split at he
        · rename_i h9
          cases he; exact R_bastore hd hq h9.1 ho.1 ho.2 k
        · cases he
    · cases he
  · split at he
    · rename_i q hq
      split at he
      · rename_i h9
        exact absurd h9.2 (by decide)
      · cases he
    · cases he
  · cases he

theorem V_ex1 {i : Instr} {x : X3} (hd : decode (MB M) pc = .ok (i, ilen i)) (hl : lnk (MN M).cls i x = true) (he : ex1 Λ i x ls st G = some (ls', st', G', o)) (ho : ob o) (k : V κ M rm P PX mc ms μ cells slots (Λ, sz, G') (pc + ilen i) ls' st') : V κ M rm P PX mc ms μ cells slots (Λ, sz, G) pc ls st := by
  obtain ⟨ci, kf, z0⟩ := x
  unfold ex1 at he
  simp only at he
  split at he

  · cases he; exact R_iconst hd k
  · cases he; exact R_bipush hd hl k
  · cases he; exact R_sipush hd hl k
  · cases he; exact R_ldc hd hl k
  · cases he; exact R_ldc_w hd hl k
  · cases he; exact R_lconst hd hl k
  · cases he; exact R_ldc2_w hd hl k
  · cases he; exact R_aconst_null hd k
  · exact R_iload hd he k
  · exact R_iload_n hd he k
  · exact R_lload hd he k
  · exact R_lload_n hd he k
  · exact R_aload hd he k
  · exact R_aload_n hd he k
  · exact R_istore hd he k
  · exact R_istore_n hd he k
  · exact R_lstore hd he k
  · exact R_lstore_n hd he k
  · exact R_astore hd he k
  · exact R_astore_n hd he k
  · split at he
    · rename_i z hz
      split at he
      · rename_i ls1 hs
        cases he
        exact R_iinc hd hz hs k
      · cases he
    · cases he
  · unfold b2I at he
    split at he
    · cases he
      exact R_iadd hd k
    · cases he
  · unfold b2I at he
    split at he
    · cases he
      exact R_isub hd k
    · cases he
  · unfold b2I at he
    split at he
    · cases he
      exact R_imul hd k
    · cases he
  · unfold b2I at he
    split at he
    · cases he
      exact R_idiv hd ho k
    · cases he
  · unfold b2I at he
    split at he
    · cases he
      exact R_irem hd ho k
    · cases he
  · unfold b2I at he
    split at he
    · cases he
      exact R_iand hd k
    · cases he
  · unfold b2I at he
    split at he
    · cases he
      exact R_ior hd k
    · cases he
  · unfold b2I at he
    split at he
    · cases he
      exact R_ixor hd k
    · cases he
  · unfold b2I at he
    split at he
    · cases he
      exact R_ishl hd k
    · cases he
  · unfold b2I at he
    split at he
    · cases he
      exact R_ishr hd k
    · cases he
  · unfold b2I at he
    split at he
    · cases he
      exact R_iushr hd k
    · cases he
  · unfold b2L at he
    split at he
    · cases he
      exact R_ladd hd k
    · cases he
  · unfold b2L at he
    split at he
    · cases he
      exact R_lsub hd k
    · cases he
  · unfold b2L at he
    split at he
    · cases he
      exact R_lmul hd k
    · cases he
  · unfold b2L at he
    split at he
    · cases he
      exact R_ldiv hd ho k
    · cases he
  · unfold b2L at he
    split at he
    · cases he
      exact R_lrem hd ho k
    · cases he
  · unfold b2L at he
    split at he
    · cases he
      exact R_land hd k
    · cases he
  · unfold b2L at he
    split at he
    · cases he
      exact R_lor hd k
    · cases he
  · split at he
    · cases he
      exact R_lshl hd k
    · cases he
  · split at he
    · cases he
      exact R_lcmp hd ho k
    · cases he
  · split at he
    · cases he
      exact R_i2l hd ho k
    · cases he
  · split at he
    · cases he
      exact R_l2i hd k
    · cases he
  · split at he
    · cases he
      exact R_i2c hd k
    · cases he
  · split at he
    · cases he
      exact R_ineg hd k
    · cases he
  · split at he
    · cases he
      exact R_dup (fun z => by simp) hd k
    · cases he
      exact R_dup (fun z => by simp) hd k
    · cases he
  · split at he
    · cases he
      exact R_dup2a hd k
    · cases he
      exact R_dup2b (fun z => by simp) (fun z => by simp) hd k
    · cases he
  · split at he
    · cases he
      exact R_pop (fun z => by simp) hd k
    · cases he
      exact R_pop (fun z => by simp) hd k
    · cases he
  · exact R_xGet hd hl he ho k
  · exact R_xPut hd hl he ho k
  · exact R_xLen hd he k
  · exact R_xiaload hd he ho k
  · exact R_xlaload hd he ho k
  · exact R_xbaload hd he ho k
  · exact R_xaaload hd he ho k
  · exact R_xiastore hd he ho k
  · exact R_xlastore hd he ho k
  · exact R_xbastore hd he ho k
  · cases he
theorem ob_A {o1 o2 : Option Prop} (h : ob (obA o1 o2)) : ob o1 ∧ ob o2 := by
  cases o1 with
  | none => exact ⟨trivial, h⟩
  | some p =>
    cases o2 with
    | none => exact ⟨h, trivial⟩
    | some q => exact h
/-- a straight stretch -/
theorem V_ex {is : List (Instr × X3)} {pc' : Nat} (hs : dsOk (MN M).cls (MB M) pc is pc' = true) (he : exN Λ is ls st G = some (ls', st', G', o)) (ho : ob o) (k : V κ M rm P PX mc ms μ cells slots (Λ, sz, G') pc' ls' st') : V κ M rm P PX mc ms μ cells slots (Λ, sz, G) pc ls st := by
  induction is generalizing pc ls st G o with
  | nil =>
    cases he
    have : pc = pc' := by simpa [dsOk] using hs
    rw [this]; exact k
  | cons i r ih =>
    unfold exN at he
    unfold dsOk at hs
    split at hs
    · rename_i j n hd
      simp only [Bool.and_eq_true, decide_eq_true_eq] at hs
      obtain ⟨rfl, rfl, h3, h4⟩ := hs
      split at he
      · cases he
      · rename_i ls1 st1 G1 o1 h1
        split at he
        · cases he
        · rename_i ls2 st2 G2 o2 h2
          cases he
          obtain ⟨ho1, ho2⟩ := ob_A ho
          exact V_ex1 hd h3 h1 ho1 (ih h4 h2 ho2)
    · cases hs
end EXN
