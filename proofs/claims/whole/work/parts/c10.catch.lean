/-! CATCHING: a call in a method with an exception table; its contract; numbers made small -/
def HB (κ : Kx) : Prop := va_Nc "java/lang/IllegalArgumentException" "java/util/NoSuchElementException" (kS κ)
/-- the handler that takes E thrown at pc -/
def hdl (κ : Kx) (own : String) (T : List ExceptionTableEntry) (pc : Nat) (E : String) (h : Nat) : Prop :=
  ∃ (pre : List ExceptionTableEntry) (x : ExceptionTableEntry) (suf : List ExceptionTableEntry) (name : String), T = pre ++ x :: suf ∧ covers x pc = true ∧ x.handlerPc = h ∧ x.catchType ≠ 0 ∧ wK.any (isCL own x.catchType name) = true ∧ decide (Cond.castable E name ∈ lw_tbl) = true ∧ ∀ z ∈ pre, covers z pc = false ∨ (z.catchType ≠ 0 ∧ ∃ nm : String, wK.any (isCL own z.catchType nm) = true ∧ va_Nc E nm (kS κ))
def w64 (z : Int) : Int := (Int64.ofInt z).toInt
theorem w64_R (z : Int) : R64 (w64 z) := ⟨Int64.le_toInt _, by have := Int64.toInt_lt (Int64.ofInt z); unfold w64; omega⟩
theorem w64_of (z : Int) : Int64.ofInt (w64 z) = Int64.ofInt z := Int64.ofInt_toInt _
theorem w32_w (z : Int) : w32 (w32 z) = w32 z := w32_id (w32_R z)
section CATCH
variable {κ : Kx} {M N : Ms} {rm : Room} {P P' : Option Vl → Om → Prop} {PX PX' : String → Om → Prop} {mc ms mc' ms' d n : Nat} {μ : Mu} {cells slots : Nat} {Ω : Om} {pc j : Nat} {ls : List (Option Vl)} {stk rest st : List Vl} {As : List Vl}
theorem V_w64 {z : Int} (k : V κ M rm P PX mc ms μ cells slots Ω pc ls (.inr (.inl (w64 z)) :: st)) : V κ M rm P PX mc ms μ cells slots Ω pc ls (.inr (.inl z) :: st) := by
  intro g H locs lsA hH hL hl
  have k1 := k g H locs lsA hH hL hl
  simp only [List.map_cons] at k1 ⊢
  rw [show tr κ (.inr (.inl (w64 z))) = tr κ (.inr (.inl z)) from congrArg Value.long (w64_of z)] at k1
  exact k1
theorem V_runH {av : Array Value} (hr : Gd κ M μ → ∀ (H : Heap) (locs : List Loc) (lsA : Array Slot), HO κ Ω H → (∀ q ∈ locs, kB κ ≤ q.base) → LO κ lsA (ML M) ls →
      vx_Run (mP μ) κ.1 (mE μ) rm (mS μ) (mM μ) (mA μ) (mBl μ) (mMe μ) (mC μ) H locs cells slots mc' ms' (F0 (mM μ) pc lsA (stk.map (tr κ))) (rest.map (tr κ)) (Qc κ P' av) (XCo κ PX') (fun q => kB κ ≤ q))
    (kk : ∀ (v : Option Vl) (Ω' : Om), P' v Ω' → V κ M rm P PX mc ms μ (cells + mc') (slots + ms') Ω' (pc + 3) ls (v.toList ++ rest))
    (kx : ∀ (E : String) (Ω' : Om), PX' E Ω' → ∃ h : Nat, hdl κ (MN M).cls (tableOf (MH M)) pc E h ∧ ∀ q : Nat, V κ M rm P PX mc ms μ (cells + mc') (slots + ms') Ω' h ls [.inr (.inr (2000000 + q))]) : V κ M rm P PX mc ms μ cells slots Ω pc ls stk := by
  intro g H locs lsA hH hL hl T hT X
  have hLL : ∀ (L : List Loc), (∀ q ∈ L, kB κ ≤ q.base) → ∀ q ∈ locs ++ L, kB κ ≤ q.base := fun L h q hq => by
    rcases List.mem_append.mp hq with h1 | h1
    · exact hL q h1
    · exact h q h1
  rcases hr g H locs lsA hH hL hl T hT X with ⟨v, st₀, t, T', L, h0, X', hL', e1, e2, ⟨v', Ω', ev, hp, hO⟩, st⟩ | ⟨q, st₀, t, T', L, E, ce, h0, X', hL', e1, e2, ⟨Ω', hp, hO⟩, hce, hcv, hcl, st⟩
  · cases ev
    obtain ⟨t2, a1, b1⟩ := kk v' Ω' hp g T'.heap (locs ++ L) lsA (by rw [e1]; exact hO) (hLL L hL') hl T' rfl X'
    refine ⟨t2, st t2 ?_, b1⟩
    have e : (v'.map (tr κ)).toList ++ rest.map (tr κ) = (v'.toList ++ rest).map (tr κ) := by cases v' <;> rfl
    rw [e]
    exact a1
  · obtain ⟨h, ⟨pre, x, suf, name, hsplit, hcov, hpc, hct, hlk, hcast, hpass⟩, kV⟩ := kx E Ω' hp
    obtain ⟨a0, h0w⟩ := g.1.2.1
    have hW := g.2.2.2.2.2.2.2.2.1
    have k1 := kV q g T'.heap (locs ++ L) lsA (by rw [e1]; exact hO) (hLL L hL') hl
    simp only [List.map_cons, List.map_nil, ad_raw] at k1
    subst hpc
    obtain ⟨t2, a1, b1⟩ := vx_catch (p := mP μ) (l := κ.1) (e := mE μ) (R := rm) (s := mS μ) (m := mM μ) (args := mA μ) (below := mBl μ) (meth := mMe μ) (c := mC μ) (H := T'.heap) (locs := locs ++ L) (cells := cells + mc') (slots := slots + ms') (ls := lsA) (rest := rest.map (tr κ)) (pc := pc) (own := (MN M).cls) (name := name) (E := E) (ce := ce) (q := q) g.2.2.2.2.2.2.1 pre x suf (g.2.2.2.2.2.2.2.2.2.2.2.2.trans hsplit)
      (fun z hz => (hpass z hz).imp id (fun ⟨c1, nm, c2, c3⟩ => ⟨c1, nm, tf_warm hW rfl (h0w _ (tbl_of wK_in c2 isCL_ok)), va_Nc.moved hW.alike c3⟩)) hcov hct (tf_warm hW rfl (h0w _ (tbl_of wK_in hlk isCL_ok))) (tf_warm hW rfl (h0w _ (of_decide_eq_true hcast))) (by rw [e1]; exact hce) hcv hcl k1 T' rfl X'
    exact ⟨t2, st.trans a1, b1⟩
theorem V_callVH {Λ : Ly} {sz : Option Nat} {G : Wd} {a ci : Nat} (hd : decode (MB M) pc = .ok (.invokevirtual j, 3)) (hlk : wM.any (isML (MN M).cls j (MN N)) = true) (hm : mkV N n) (hh : MH N = []) (ha : Λ.1 a = some (.inl ci)) (hC : (vwCl[ci]?).map (fun r => r.1) = some (MN N).cls) (hct : Ct κ N d mc' ms' (.inr (.inr a) :: As) (Λ, sz, G) P' PX') (hst : stk = As.reverse ++ .inr (.inr a) :: rest) (hn : As.length = n) (hcat : csm rest ≤ 8) (hf : fitR rm d) (hcs : cells + mc' ≤ rm.cells ∧ slots + ms' ≤ rm.slots)
    (kk : ∀ (v : Option Vl) (Ω' : Om), P' v Ω' → V κ M rm P PX mc ms μ (cells + mc') (slots + ms') Ω' (pc + 3) ls (v.toList ++ rest))
    (kx : ∀ (E : String) (Ω' : Om), PX' E Ω' → ∃ h : Nat, hdl κ (MN M).cls (tableOf (MH M)) pc E h ∧ ∀ q : Nat, V κ M rm P PX mc ms μ (cells + mc') (slots + ms') Ω' h ls [.inr (.inr (2000000 + q))]) : V κ M rm P PX mc ms μ cells slots (Λ, sz, G) pc ls stk := by
  unfold mkV at hm
  simp only [Bool.and_eq_true] at hm
  subst hst
  refine V_runH (av := (Value.ref (kB κ + (a - 1)) :: As.map (tr κ)).toArray) (fun g H locs lsA hH hL hl => ?_) kk kx
  obtain ⟨er, cr⟩ := recvCell g hH ha hC
  have hp := (Ct_pre g hH (As := .inr (.inr a) :: As)).2
  simp only [List.map_cons, er] at hp
  have hct2 := hct
  unfold Ct at hct2
  refine vx_runV (Ts := WU) (own := (MN M).cls) (C := (MN N).cls) (b := kB κ + (a - 1)) (nL := ML M) (As := As.map (tr κ)) ⟨g.2.1, g.2.2.1, g.2.2.2.1, g.2.2.2.2.2.2.1, g.2.2.2.2.2.2.2.1⟩ hct2 ⟨CallB_of g hm.1 hh hlk hf, g.2.2.2.2.2.2.2.1 _ (has_of wI_in hm.2.1 isIM_ok rfl), g.2.2.2.2.2.2.2.1 _ (has_of wS_in hm.2.2 isSel_ok rfl)⟩ ⟨Ct_blind, cr, ?_⟩ rfl (by simpa using hn) hl.1 ?_ (by show 2 * 0 + _ ≤ 8; have := cat_sum (κ := κ) hcat; omega) hd hcs
  · simp only [List.map_cons, er]; exact hp
  · rw [As_rev]; simp only [List.map_cons, er]
theorem cwd_H {N : Ms} (hh : MH N ≠ []) : cwd N = .codeWith (MN N) (MB N) (ML N) (MR N) (MH N) := by
  unfold cwd
  split
  · rename_i e; exact absurd e hh
  · rfl
/-- a static method with an exception table, called -/
theorem V_callSH (hd : decode (MB M) pc = .ok (.invokestatic j, 3)) (hlk : wM.any (isML (MN M).cls j (MN N)) = true) (hm : mkS N n) (hh : MH N ≠ []) (hct : Ct κ N d mc' ms' As Ω P' PX') (hst : stk = As.reverse ++ rest) (hn : As.length = n) (hcat : csm rest ≤ 8) (hf : fitR rm d) (hcs : cells + mc' ≤ rm.cells ∧ slots + ms' ≤ rm.slots)
    (kk : ∀ (v : Option Vl) (Ω' : Om), P' v Ω' → V κ M rm P PX mc ms μ (cells + mc') (slots + ms') Ω' (pc + 3) ls (v.toList ++ rest))
    (kx : ∀ (E : String) (Ω' : Om), PX' E Ω' → PX E Ω' ∧ MH M = [] ∧ cells + mc' ≤ mc ∧ slots + ms' ≤ ms) : V κ M rm P PX mc ms μ cells slots Ω pc ls stk := by
  unfold mkS at hm
  subst hst
  obtain ⟨hm1, hm2, hm3, hm4, hm5⟩ := mkB_of hm.1
  refine V_run (av := (As.map (tr κ)).toArray) (fun g H locs lsA hH hL hl => ?_) kk kx
  have hcw : Cond.codeWith (MN N) (MB N) (ML N) (MR N) (MH N) ∈ cwd N :: WU := by rw [cwd_H hh]; exact List.mem_cons_self
  refine vx_runSX (Ts := WU) (own := (MN M).cls) (nL := ML M) (hh := MH N) ⟨g.2.1, g.2.2.1, g.2.2.2.1, g.2.2.2.2.2.2.1, g.2.2.2.2.2.2.2.1⟩ hct ⟨⟨rfl, rfl, hf.1, ?_, pay_in g.2.2.2.2.2.2.2.1 (cwd_GoodIn hm1), hcw⟩, g.2.2.2.2.2.2.2.1 _ (by rw [← cwd_H hh]; exact hm1), g.2.2.2.2.2.2.2.1 _ hm2, ⟨hm3.1, hm3.2.1⟩, fun sig h => ?_, g.2.2.2.2.2.2.2.1 _ (has_of wM_in hlk isML_ok rfl), g.2.2.2.2.2.2.2.1 _ (has_of wI_in hm.2 isSM_ok rfl)⟩ (Ct_pre g hH) rfl (by simpa using hn) hl.1 (As_rev κ As rest) (by show 2 * 0 + _ ≤ 8; have := cat_sum (κ := κ) hcat; omega) hd hcs
  · have := hf.2
    show 8 + (ML N + 11) + (100 + 40 * d) ≤ rm.locals
    omega
  · have h2 := hm3.2.2
    rw [h] at h2
    exact (Option.some.inj h2).symm
end CATCH
/-- a contract out of a walk, with an exception table -/
theorem Ct_ofH {κ : Kx} {N : Ms} {d mc ms n : Nat} {As : List Vl} {Ω : Om} {P : Option Vl → Om → Prop} {PX : String → Om → Prop} (hκ : KOK κ) (hm : mkB N n) (hh : MH N ≠ []) (hl : (fl As).length ≤ ML N) {ls : List (Option Vl)} (hls : ini As (ML N) = ls)
    (body : ∀ μ : Mu, V κ N (rmD d mc ms) P PX mc ms μ 0 0 Ω 0 ls []) : Ct κ N d mc ms As Ω P PX := by
  obtain ⟨hm1, hm2, hm3, hm4, hm5⟩ := mkB_of hm
  refine vx_ofWH (cc := MB N) (maxL := ML N) (ret := MR N) (hh := MH N) (ws' := WU) hm5 (by rw [cwd_H hh]) ?_
  intro p e s m args below meth c s₁ B hml hv
  obtain ⟨rfl, hW, hH⟩ := hv
  have hts := atoms_spec (ws := cwd N :: WU) B.pre
  have h := body (p, e, s, m, (As.map (tr κ)).toArray, below, meth, c) ⟨hκ, B.exec, B.bytes, hml, B.returns, B.notSynchronized, findClass_of_methodNamed B.named, fun w hw => hts w (List.mem_cons_of_mem _ hw), hW, hH.1, hH.2.1, fun hn => (name_of_methodNamed B.named B.method).1.trans hn, vx_table (x := MN N) B (hts _ (by rw [cwd_H hh]; exact List.mem_cons_self))⟩ s.heap [] _ hH (fun _ h => by cases h) (by rw [← hls]; exact LO_ini κ As hl)
  rw [lg_entry_eq]
  exact h
