/-! CALLS, and a contract out of a walk -/
theorem fl_lg (κ : Kx) : ∀ (As : List Vl), (lg_sl (As.map (tr κ))).length = (fl As).length ∧ ∀ (i : Nat) (v : Vl), lget (fl As) i = some v → (lg_sl (As.map (tr κ)))[i]? = some (.val (tr κ v)) := by
  intro As
  induction As with
  | nil => exact ⟨rfl, fun i v h => by cases h⟩
  | cons a r ih =>
    match a with
    | .inl z =>
      refine ⟨by show (Slot.val (.int (Int32.ofInt z)) :: lg_sl (r.map (tr κ))).length = _; simp [fl, ih.1], fun i v h => ?_⟩
      cases i with
      | zero => cases h; rfl
      | succ i => exact ih.2 i v h
    | .inr (.inr n) =>
      have e : lg_sl (List.map (tr κ) (.inr (.inr n) :: r)) = .val (ad κ n) :: lg_sl (r.map (tr κ)) := by
        show lg_sl (ad κ n :: r.map (tr κ)) = _
        rcases ad_rf κ n with h | ⟨x, h⟩ <;> rw [h] <;> rfl
      rw [e]
      refine ⟨by simp [fl, ih.1], fun i v h => ?_⟩
      cases i with
      | zero => cases h; rfl
      | succ i => exact ih.2 i v h
    | .inr (.inl z) =>
      refine ⟨by show (Slot.val (.long (Int64.ofInt z)) :: Slot.second :: lg_sl (r.map (tr κ))).length = _; simp [fl, ih.1], fun i v h => ?_⟩
      cases i with
      | zero => cases h; rfl
      | succ i =>
        cases i with
        | zero => cases h
        | succ i => exact ih.2 i v h
theorem lget_app {l : List (Option Vl)} : ∀ {k i : Nat} {v : Vl}, lget (l ++ List.replicate k none) i = some v → lget l i = some v := by
  induction l with
  | nil =>
    intro k
    induction k with
    | zero => intro i v h; cases h
    | succ k ih =>
      intro i v h
      cases i with
      | zero => cases h
      | succ i => have := ih (i := i) h; cases this
  | cons a t ih =>
    intro k i v h
    cases i with
    | zero => exact h
    | succ i => exact ih (i := i) h
theorem LO_ini (κ : Kx) (As : List Vl) {n : Nat} (h : (fl As).length ≤ n) : LO κ ((lg_sl (As.map (tr κ)) ++ List.replicate (n - (lg_sl (As.map (tr κ))).length) Slot.unset).toArray) n (ini As n) := by
  obtain ⟨h1, h2⟩ := fl_lg κ As
  obtain ⟨e1, e2, -⟩ := lv_entry (As.map (tr κ)) (n := n) (by rw [h1]; exact h)
  refine ⟨e1, by simp [ini]; omega, e2, fun i v hv => ?_⟩
  have hv2 := lget_app hv
  have h3 := h2 i v hv2
  have hlt : i < (lg_sl (As.map (tr κ))).length := (List.getElem?_eq_some_iff.mp h3).1
  simp only [List.getElem?_toArray]
  rw [List.getElem?_append_left hlt]
  exact h3
/-- a contract out of a walk -/
theorem Ct_of {κ : Kx} {N : Ms} {d mc ms n : Nat} {As : List Vl} {Ω : Om} {P : Option Vl → Om → Prop} {PX : String → Om → Prop} (hκ : KOK κ) (hm : mkB N n) (hh : MH N = []) (hl : (fl As).length ≤ ML N) {ls : List (Option Vl)} (hls : ini As (ML N) = ls)
    (body : ∀ μ : Mu, V κ N (rmD d mc ms) P PX mc ms μ 0 0 Ω 0 ls []) : Ct κ N d mc ms As Ω P PX := by
  obtain ⟨hm1, hm2, hm3, hm4, hm5⟩ := mkB_of hm
  have hcw : cwd N = .code (MN N) (MB N) (ML N) (MR N) := by unfold cwd; rw [hh]
  refine vx_ofW (cc := MB N) (maxL := ML N) (ret := MR N) (ws' := WU) hm5 (by rw [hcw]) ?_
  intro p e s m args below meth c s₁ B hml hnx hv
  obtain ⟨rfl, hW, hH⟩ := hv
  have hts := atoms_spec (ws := cwd N :: WU) B.pre
  have h := body (p, e, s, m, (As.map (tr κ)).toArray, below, meth, c) ⟨hκ, B.exec, B.bytes, hml, B.returns, B.notSynchronized, findClass_of_methodNamed B.named, fun w hw => hts w (List.mem_cons_of_mem _ hw), hW, hH.1, hH.2.1, fun hn => (name_of_methodNamed B.named B.method).1.trans hn, by
    rw [show MH N = [] from hh]
    cases hx : c.exceptionTable.toList with
    | nil => rfl
    | cons a l => exact (hnx a (by rw [hx]; exact List.mem_cons_self)).elim⟩ s.heap [] _ hH (fun _ h => by cases h) (by rw [← hls]; exact LO_ini κ As hl)
  rw [lg_entry_eq]
  exact h
section CALL
variable {κ : Kx} {M N : Ms} {rm : Room} {P P' : Option Vl → Om → Prop} {PX PX' : String → Om → Prop} {mc ms mc' ms' d n : Nat} {μ : Mu} {cells slots : Nat} {Ω : Om} {pc j : Nat} {ls : List (Option Vl)} {stk rest : List Vl} {As : List Vl}
theorem V_run {av : Array Value} (hr : Gd κ M μ → ∀ (H : Heap) (locs : List Loc) (lsA : Array Slot), HO κ Ω H → (∀ q ∈ locs, kB κ ≤ q.base) → LO κ lsA (ML M) ls →
      vx_Run (mP μ) κ.1 (mE μ) rm (mS μ) (mM μ) (mA μ) (mBl μ) (mMe μ) (mC μ) H locs cells slots mc' ms' (F0 (mM μ) pc lsA (stk.map (tr κ))) (rest.map (tr κ)) (Qc κ P' av) (XCo κ PX') (fun q => kB κ ≤ q))
    (kk : ∀ (v : Option Vl) (Ω' : Om), P' v Ω' → V κ M rm P PX mc ms μ (cells + mc') (slots + ms') Ω' (pc + 3) ls (v.toList ++ rest))
    (kx : ∀ (E : String) (Ω' : Om), PX' E Ω' → PX E Ω' ∧ MH M = [] ∧ cells + mc' ≤ mc ∧ slots + ms' ≤ ms) : V κ M rm P PX mc ms μ cells slots Ω pc ls stk := by
  intro g H locs lsA hH hL hl T hT X
  have hLL : ∀ (L : List Loc), (∀ q ∈ L, kB κ ≤ q.base) → ∀ q ∈ locs ++ L, kB κ ≤ q.base := fun L h q hq => by
    rcases List.mem_append.mp hq with h1 | h1
    · exact hL q h1
    · exact h q h1
  rcases hr g H locs lsA hH hL hl T hT X with ⟨v, st₀, t, T', L, h0, X', hL', e1, e2, ⟨v', Ω', ev, hp, hO⟩, st⟩ | ⟨q, st₀, t, T', L, E, ce, h0, X', hL', e1, e2, ⟨Ω', hp, hO⟩, hce, hcv, hcl, st⟩
  · cases ev
    obtain ⟨t2, a1, b1⟩ := kk v' Ω' hp g T'.heap (locs ++ L) lsA (by rw [e1]; exact hO) (hLL L hL') hl T' rfl X'
    refine ⟨t2, st t2 ?_, b1⟩
    have e : (v'.map (tr κ)).toList ++ rest.map (tr κ) = (v'.toList ++ rest).map (tr κ) := by cases v' <;> rfl
    rw [e]
    exact a1
  · obtain ⟨k1, k2, k3, k4⟩ := kx E Ω' hp
    have hout : ∀ x ∈ (mC μ).exceptionTable.toList, covers x pc = false := by
      rw [g.2.2.2.2.2.2.2.2.2.2.2.2, k2]
      intro x hx
      cases hx
    obtain ⟨t2, a1, b1⟩ := vx_out (p := mP μ) (l := κ.1) (e := mE μ) (R := rm) (s := mS μ) (m := mM μ) (args := mA μ) (below := mBl μ) (meth := mMe μ) (c := mC μ) (H := T'.heap) (locs := locs ++ L) (cells := cells + mc') (slots := slots + ms') (ls := lsA) (rest := rest.map (tr κ)) (pc := pc) (E := E) (ce := ce) (q := q) (mc := mc) (ms := ms) (Qc := Qc κ P) (XC := XCo κ PX) (free := fun q => kB κ ≤ q) hout g.2.2.2.2.2.1 (by rw [e1]; exact hce) hcv hcl (fun t' ht' _ => ⟨Ω', k1, by rw [ht', e1]; exact hO⟩) (hLL L hL') k3 k4 T' rfl X'
    exact ⟨t2, st.trans a1, b1⟩
theorem As_rev (κ : Kx) (As rest : List Vl) : (As.reverse ++ rest).map (tr κ) = (As.map (tr κ)).reverse ++ rest.map (tr κ) := by simp
theorem Ct_blind {As : List Vl} : FrameBlind (fun v U => v = (As.map (tr κ)).toArray ∧ (kS κ).WarmedH U.vm ∧ HO κ Ω U.heap) := fun _ _ _ _ h => h
theorem Ct_pre (g : Gd κ M μ) {H : Heap} (hH : HO κ Ω H) {As : List Vl} : PreS (mS μ) H (fun v U => v = (As.map (tr κ)).toArray ∧ (kS κ).WarmedH U.vm ∧ HO κ Ω U.heap) (As.map (tr κ)) :=
  ⟨Ct_blind, fun U hU hW => ⟨rfl, g.2.2.2.2.2.2.2.2.1.trans hW, by rw [hU]; exact hH⟩⟩
theorem recvCell {Λ : Ly} {sz : Option Nat} {G : Wd} {a ci : Nat} {C : String} (g : Gd κ M μ) {H : Heap} (hH : HO κ (Λ, sz, G) H) (ha : Λ.1 a = some (.inl ci)) (hC : (vwCl[ci]?).map (fun r => r.1) = some C) : tr κ (.inr (.inr a)) = .ref (kB κ + (a - 1)) ∧ ∃ cellB : Cell, H[kB κ + (a - 1)]? = some cellB ∧ cellB.vm.isStatics = false ∧ (mS μ).vm.findClass C = some cellB.cls := by
  obtain ⟨ha0, ha1, r, hc, cell, q1, q2, q3, q4⟩ := hH.2.2.2 a _ ha
  rw [hc] at hC
  have hC := Option.some.inj hC
  subst hC
  obtain ⟨hS, hfc, kC, hkC, hkind⟩ := (kK_at g).1 ci _ hc
  exact ⟨ad_at κ ha0 ha1, cell, q1, by rw [q3]; rfl, by rw [q2]; exact hfc⟩
theorem cat_sum {rest : List Vl} {k : Nat} (h : ((rest.map (fun v => match v with | .inr (.inl _) => 2 | _ => 1)).sum : Nat) ≤ k) : ((rest.map (tr κ)).map (fun v => v.category)).sum ≤ k := by
  have : (rest.map (tr κ)).map (fun v => v.category) = rest.map (fun v => match v with | .inr (.inl _) => 2 | _ => 1) := by
    rw [List.map_map]
    apply List.map_congr_left
    intro v _
    match v with
    | .inl z => rfl
    | .inr (.inl z) => rfl
    | .inr (.inr n) => exact ad_cat κ n
  rw [this]; exact h
def csm (rest : List Vl) : Nat := (rest.map (fun v => match v with | .inr (.inl _) => 2 | _ => 1)).sum
theorem CallB_of (g : Gd κ M μ) (hm : mkB N n) (hh : MH N = []) (hlk : wM.any (isML (MN M).cls j (MN N)) = true) (hf : fitR rm d) : CallB rm (mS μ) (mA μ) (MN M).cls j (MN N) (MB N) (ML N) (MR N) (cwd N :: WU) (rmD d mc' ms') mc' ms' n := by
  obtain ⟨hm1, hm2, hm3, hm4, hm5⟩ := mkB_of hm
  have hcw : cwd N = .code (MN N) (MB N) (ML N) (MR N) := by unfold cwd; rw [hh]
  refine callB_of (ws' := WU) n g.2.2.2.2.2.2.2.1 (cwd_GoodIn hm1) (by rw [hcw]) rfl rfl (g.2.2.2.2.2.2.2.1 _ hm2) (g.2.2.2.2.2.2.2.1 _ (has_of wM_in hlk isML_ok rfl)) hm3 ⟨hf.1, ?_⟩
  have := hf.2
  show 8 + (ML N + 11) + (100 + 40 * d) ≤ rm.locals
  omega
theorem V_callS (hd : decode (MB M) pc = .ok (.invokestatic j, 3)) (hlk : wM.any (isML (MN M).cls j (MN N)) = true) (hm : mkS N n) (hh : MH N = []) (hct : Ct κ N d mc' ms' As Ω P' PX') (hst : stk = As.reverse ++ rest) (hn : As.length = n) (hcat : csm rest ≤ 8) (hf : fitR rm d) (hcs : cells + mc' ≤ rm.cells ∧ slots + ms' ≤ rm.slots)
    (kk : ∀ (v : Option Vl) (Ω' : Om), P' v Ω' → V κ M rm P PX mc ms μ (cells + mc') (slots + ms') Ω' (pc + 3) ls (v.toList ++ rest))
    (kx : ∀ (E : String) (Ω' : Om), PX' E Ω' → PX E Ω' ∧ MH M = [] ∧ cells + mc' ≤ mc ∧ slots + ms' ≤ ms) : V κ M rm P PX mc ms μ cells slots Ω pc ls stk := by
  unfold mkS at hm
  subst hst
  refine V_run (av := (As.map (tr κ)).toArray) (fun g H locs lsA hH hL hl => ?_) kk kx
  exact vx_runS (Ts := WU) (own := (MN M).cls) (nL := ML M) ⟨g.2.1, g.2.2.1, g.2.2.2.1, g.2.2.2.2.2.2.1, g.2.2.2.2.2.2.2.1⟩ hct ⟨CallB_of g hm.1 hh hlk hf, g.2.2.2.2.2.2.2.1 _ (has_of wI_in hm.2 isSM_ok rfl)⟩ (Ct_pre g hH) rfl (by simpa using hn) hl.1 (As_rev κ As rest) (by show 2 * 0 + _ ≤ 8; have := cat_sum (κ := κ) hcat; omega) hd hcs
theorem V_callV {Λ : Ly} {sz : Option Nat} {G : Wd} {a ci : Nat} (hd : decode (MB M) pc = .ok (.invokevirtual j, 3)) (hlk : wM.any (isML (MN M).cls j (MN N)) = true) (hm : mkV N n) (hh : MH N = []) (ha : Λ.1 a = some (.inl ci)) (hC : (vwCl[ci]?).map (fun r => r.1) = some (MN N).cls) (hct : Ct κ N d mc' ms' (.inr (.inr a) :: As) (Λ, sz, G) P' PX') (hst : stk = As.reverse ++ .inr (.inr a) :: rest) (hn : As.length = n) (hcat : csm rest ≤ 8) (hf : fitR rm d) (hcs : cells + mc' ≤ rm.cells ∧ slots + ms' ≤ rm.slots)
    (kk : ∀ (v : Option Vl) (Ω' : Om), P' v Ω' → V κ M rm P PX mc ms μ (cells + mc') (slots + ms') Ω' (pc + 3) ls (v.toList ++ rest))
    (kx : ∀ (E : String) (Ω' : Om), PX' E Ω' → PX E Ω' ∧ MH M = [] ∧ cells + mc' ≤ mc ∧ slots + ms' ≤ ms) : V κ M rm P PX mc ms μ cells slots (Λ, sz, G) pc ls stk := by
  unfold mkV at hm
  simp only [Bool.and_eq_true] at hm
  subst hst
  refine V_run (av := (Value.ref (kB κ + (a - 1)) :: As.map (tr κ)).toArray) (fun g H locs lsA hH hL hl => ?_) kk kx
  obtain ⟨er, cr⟩ := recvCell g hH ha hC
  have hp := (Ct_pre g hH (As := .inr (.inr a) :: As)).2
  simp only [List.map_cons, er] at hp
  have hct2 := hct
  unfold Ct at hct2
  refine vx_runV (Ts := WU) (own := (MN M).cls) (C := (MN N).cls) (b := kB κ + (a - 1)) (nL := ML M) (As := As.map (tr κ)) ⟨g.2.1, g.2.2.1, g.2.2.2.1, g.2.2.2.2.2.2.1, g.2.2.2.2.2.2.2.1⟩ hct2 ⟨CallB_of g hm.1 hh hlk hf, g.2.2.2.2.2.2.2.1 _ (has_of wI_in hm.2.1 isIM_ok rfl), g.2.2.2.2.2.2.2.1 _ (has_of wS_in hm.2.2 isSel_ok rfl)⟩ ⟨Ct_blind, cr, ?_⟩ rfl (by simpa using hn) hl.1 ?_ (by show 2 * 0 + _ ≤ 8; have := cat_sum (κ := κ) hcat; omega) hd hcs
  · simp only [List.map_cons, er]; exact hp
  · rw [As_rev]; simp only [List.map_cons, er]
theorem V_callI {Λ : Ly} {sz : Option Nat} {G : Wd} {a : Nat} (hd : decode (MB M) pc = .ok (.invokespecial j, 3)) (hlk : wM.any (isML (MN M).cls j (MN N)) = true) (hm : mkI N n) (hh : MH N = []) (hr : MR N = none) (ha : 0 < a ∧ a < 1000000) (hct : Ct κ N d mc' ms' (.inr (.inr a) :: As) (Λ, sz, G) P' PX') (hst : stk = As.reverse ++ .inr (.inr a) :: rest) (hn : As.length = n) (hcat : csm rest ≤ 8) (hf : fitR rm d) (hcs : cells + mc' ≤ rm.cells ∧ slots + ms' ≤ rm.slots)
    (kk : ∀ (v : Option Vl) (Ω' : Om), P' v Ω' → V κ M rm P PX mc ms μ (cells + mc') (slots + ms') Ω' (pc + 3) ls (v.toList ++ rest))
    (kx : ∀ (E : String) (Ω' : Om), PX' E Ω' → PX E Ω' ∧ MH M = [] ∧ cells + mc' ≤ mc ∧ slots + ms' ≤ ms) : V κ M rm P PX mc ms μ cells slots (Λ, sz, G) pc ls stk := by
  unfold mkI at hm
  simp only [Bool.and_eq_true, decide_eq_true_eq] at hm
  subst hst
  refine V_run (av := (Value.ref (kB κ + (a - 1)) :: As.map (tr κ)).toArray) (fun g H locs lsA hH hL hl => ?_) kk kx
  have er : tr κ (.inr (.inr a)) = .ref (kB κ + (a - 1)) := ad_at κ ha.1 ha.2
  have hp := (Ct_pre g hH (As := .inr (.inr a) :: As)).2
  simp only [List.map_cons, er] at hp
  have hct2 := hct
  unfold Ct at hct2
  have cb := CallB_of (d := d) (mc' := mc') (ms' := ms') g hm.1 hh hlk hf
  rw [hr] at cb
  refine vx_runI (Ts := WU) (own := (MN M).cls) (b := kB κ + (a - 1)) (nL := ML M) (As := As.map (tr κ)) ⟨g.2.1, g.2.2.1, g.2.2.2.1, g.2.2.2.2.2.2.1, g.2.2.2.2.2.2.2.1⟩ hct2 ⟨cb, hm.2.1, g.2.2.2.2.2.2.2.1 _ (has_of wI_in hm.2.2 isIM_ok rfl)⟩ ⟨Ct_blind, ?_⟩ rfl (by simpa using hn) hl.1 ?_ (by show 2 * 0 + _ ≤ 8; have := cat_sum (κ := κ) hcat; omega) hd hcs
  · simp only [List.map_cons, er]; exact hp
  · rw [As_rev]; simp only [List.map_cons, er]
/-! private members of a nest mate -/
theorem nest_of (g : Gd κ M μ) {ho : String} (h : wN.any (isMN (MN M).cls j (MN N) ho) = true) : va_Nw (.methodLinkNest (MN M).cls j (MN N) ho) (mS μ) := by
  obtain ⟨a0, h0⟩ := g.1.2.1
  exact va_Nw.warmM g.2.2.2.2.2.2.2.2.1 (va_Nw.of rfl (h0 _ (tbl_of wN_in h isMN_ok)))
theorem CN_of {ho : String} (g : Gd κ M μ) (hm : mkB N n) (hh : MH N = []) (hlk : wN.any (isMN (MN M).cls j (MN N) ho) = true) (hf : fitR rm d) : va_CN rm (mS μ) (mA μ) (MN M).cls j (MN N) ho (MB N) (ML N) (MR N) (cwd N :: WU) (rmD d mc' ms') mc' ms' n := by
  obtain ⟨hm1, hm2, hm3, hm4, hm5⟩ := mkB_of hm
  have hcw : cwd N = .code (MN N) (MB N) (ML N) (MR N) := by unfold cwd; rw [hh]
  refine va_cnB (ws' := WU) n g.2.2.2.2.2.2.2.1 (cwd_GoodIn hm1) (by rw [hcw]) rfl rfl (nest_of g hlk) (g.2.2.2.2.2.2.2.1 _ hm2) hm3 ⟨hf.1, ?_⟩
  have := hf.2
  show 8 + (ML N + 11) + (100 + 40 * d) ≤ rm.locals
  omega
theorem V_callSN {ho : String} (hd : decode (MB M) pc = .ok (.invokestatic j, 3)) (hlk : wN.any (isMN (MN M).cls j (MN N) ho) = true) (hm : mkS N n) (hh : MH N = []) (hct : Ct κ N d mc' ms' As Ω P' PX') (hst : stk = As.reverse ++ rest) (hn : As.length = n) (hcat : csm rest ≤ 8) (hf : fitR rm d) (hcs : cells + mc' ≤ rm.cells ∧ slots + ms' ≤ rm.slots)
    (kk : ∀ (v : Option Vl) (Ω' : Om), P' v Ω' → V κ M rm P PX mc ms μ (cells + mc') (slots + ms') Ω' (pc + 3) ls (v.toList ++ rest))
    (kx : ∀ (E : String) (Ω' : Om), PX' E Ω' → PX E Ω' ∧ MH M = [] ∧ cells + mc' ≤ mc ∧ slots + ms' ≤ ms) : V κ M rm P PX mc ms μ cells slots Ω pc ls stk := by
  unfold mkS at hm
  subst hst
  refine V_run (av := (As.map (tr κ)).toArray) (fun g H locs lsA hH hL hl => ?_) kk kx
  exact vx_runSN (Ts := WU) (own := (MN M).cls) (nL := ML M) ⟨g.2.1, g.2.2.1, g.2.2.2.1, g.2.2.2.2.2.2.1, g.2.2.2.2.2.2.2.1⟩ hct ⟨CN_of g hm.1 hh hlk hf, g.2.2.2.2.2.2.2.1 _ (has_of wI_in hm.2 isSM_ok rfl), trivial⟩ (Ct_pre g hH) rfl (by simpa using hn) hl.1 (As_rev κ As rest) (by show 2 * 0 + _ ≤ 8; have := cat_sum (κ := κ) hcat; omega) hd hcs
theorem V_callIN {ho : String} {Λ : Ly} {sz : Option Nat} {G : Wd} {a : Nat} (hd : decode (MB M) pc = .ok (.invokespecial j, 3)) (hlk : wN.any (isMN (MN M).cls j (MN N) ho) = true) (hm : mkI N n) (hh : MH N = []) (hr : MR N = none) (ha : 0 < a ∧ a < 1000000) (hct : Ct κ N d mc' ms' (.inr (.inr a) :: As) (Λ, sz, G) P' PX') (hst : stk = As.reverse ++ .inr (.inr a) :: rest) (hn : As.length = n) (hcat : csm rest ≤ 8) (hf : fitR rm d) (hcs : cells + mc' ≤ rm.cells ∧ slots + ms' ≤ rm.slots)
    (kk : ∀ (v : Option Vl) (Ω' : Om), P' v Ω' → V κ M rm P PX mc ms μ (cells + mc') (slots + ms') Ω' (pc + 3) ls (v.toList ++ rest))
    (kx : ∀ (E : String) (Ω' : Om), PX' E Ω' → PX E Ω' ∧ MH M = [] ∧ cells + mc' ≤ mc ∧ slots + ms' ≤ ms) : V κ M rm P PX mc ms μ cells slots (Λ, sz, G) pc ls stk := by
  unfold mkI at hm
  simp only [Bool.and_eq_true, decide_eq_true_eq] at hm
  subst hst
  refine V_run (av := (Value.ref (kB κ + (a - 1)) :: As.map (tr κ)).toArray) (fun g H locs lsA hH hL hl => ?_) kk kx
  have er : tr κ (.inr (.inr a)) = .ref (kB κ + (a - 1)) := ad_at κ ha.1 ha.2
  have hp := (Ct_pre g hH (As := .inr (.inr a) :: As)).2
  simp only [List.map_cons, er] at hp
  have hct2 := hct
  unfold Ct at hct2
  have cb := CN_of (d := d) (mc' := mc') (ms' := ms') g hm.1 hh hlk hf
  rw [hr] at cb
  refine vx_runIN (Ts := WU) (own := (MN M).cls) (b := kB κ + (a - 1)) (nL := ML M) (As := As.map (tr κ)) ⟨g.2.1, g.2.2.1, g.2.2.2.1, g.2.2.2.2.2.2.1, g.2.2.2.2.2.2.2.1⟩ hct2 ⟨cb, hm.2.1, g.2.2.2.2.2.2.2.1 _ (has_of wI_in hm.2.2 isIM_ok rfl)⟩ ⟨Ct_blind, ?_⟩ rfl (by simpa using hn) hl.1 ?_ (by show 2 * 0 + _ ≤ 8; have := cat_sum (κ := κ) hcat; omega) hd hcs
  · simp only [List.map_cons, er]; exact hp
  · rw [As_rev]; simp only [List.map_cons, er]
end CALL
