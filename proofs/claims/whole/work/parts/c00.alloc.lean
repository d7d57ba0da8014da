/-! ROOM IS MADE: new objects, new rows, references that stay; the layout grows -/
def newL (Λ : Ly) (a : Nat) (t : Tg) : Ly := (fun b => if b = a then some t else Λ.1 b, fun b k => if b = a then none else Λ.2 b k)
def refL (Λ : Ly) (a k b : Nat) : Ly := (Λ.1, fun c j => if c = a ∧ j = k then some b else Λ.2 c j)
/-- nothing is written yet behind name n -/
def zF (G : Wd) (n : Nat) : Prop := ∀ a, n < a → ∀ k, G.1 a k = 0 ∧ G.2.1 a k = 0 ∧ G.2.2 a k = 0
theorem zF.mono {G : Wd} {n m : Nat} (h : zF G n) (hm : n ≤ m) : zF G m := fun a ha => h a (by omega)
theorem CO.lt {κ : Kx} {Ω : Om} {a : Nat} {t : Tg} {H : Heap} (h : CO κ Ω a t H) : kB κ + (a - 1) < H.size := by
  cases t with
  | inl ci => obtain ⟨r, -, cell, e, -⟩ := h; exact (Array.getElem?_eq_some_iff.mp e).1
  | inr q => obtain ⟨-, cA, e, -⟩ := h; exact (Array.getElem?_eq_some_iff.mp e).1
theorem HO.born {κ : Kx} {Λ : Ly} {n : Nat} {G : Wd} {H H1 : Heap} {t : Tg} (h : HO κ (Λ, some n, G) H) (hz : H1.size = H.size + 1) (hq : ∀ q : Nat, q < H.size → H1[q]? = H[q]?) (hn : n + 1 < 1000000) (hc : CO κ (newL Λ (n + 1) t, some (n + 1), G) (n + 1) t H1) : HO κ (newL Λ (n + 1) t, some (n + 1), G) H1 := by
  obtain ⟨h1, h2, h3, h4⟩ := h
  have hs : H.size = kB κ + n := h3 n rfl
  refine ⟨by omega, fun q hq1 => (hq q (by omega)).trans (h2 q hq1), fun m hm => ?_, fun a u ha => ?_⟩
  · have hm : some (n + 1) = some m := hm
    have := Option.some.inj hm
    omega
  · have ha : (if a = n + 1 then some t else Λ.1 a) = some u := ha
    by_cases e : a = n + 1
    · subst e
      rw [if_pos rfl] at ha
      cases ha
      exact ⟨by omega, hn, hc⟩
    · rw [if_neg e] at ha
      obtain ⟨q1, q2, q3⟩ := h4 a u ha
      refine ⟨q1, q2, q3.keep (hq _ q3.lt) (fun _ => rfl) (fun _ => rfl) (fun _ => rfl) (fun k => ?_)⟩
      show (if a = n + 1 then none else Λ.2 a k) = Λ.2 a k
      rw [if_neg e]
theorem HO.updR {κ : Kx} {Λ Λ' : Ly} {sz : Option Nat} {G : Wd} {H H1 : Heap} {a : Nat} {t : Tg} (h : HO κ (Λ, sz, G) H) (hL : Λ'.1 = Λ.1) (ht : Λ.1 a = some t) (hz : H1.size = H.size) (hq : ∀ q : Nat, q ≠ kB κ + (a - 1) → H1[q]? = H[q]?) (hΛ : ∀ c, c ≠ a → ∀ k, Λ'.2 c k = Λ.2 c k) (hc : CO κ (Λ', sz, G) a t H1) : HO κ (Λ', sz, G) H1 := by
  obtain ⟨h1, h2, h3, h4⟩ := h
  have ha := h4 a t ht
  refine ⟨by rw [hz]; exact h1, fun q hq1 => ?_, fun n hn => by rw [hz]; exact h3 n hn, fun b u hb => ?_⟩
  · rw [hq q (by omega)]; exact h2 q hq1
  · have hb : Λ'.1 b = some u := hb
    rw [hL] at hb
    have hbb := h4 b u hb
    refine ⟨hbb.1, hbb.2.1, ?_⟩
    by_cases hba : b = a
    · subst hba
      rw [ht] at hb
      cases hb
      exact hc
    · have hb0 : 0 < b := hbb.1
      have ha0 : 0 < a := ha.1
      exact hbb.2.2.keep (hq _ (by omega)) (fun _ => rfl) (fun _ => rfl) (fun _ => rfl) (fun k => hΛ b hba k)
theorem fv_new {κ : Kx} {Λ : Ly} {sz : Option Nat} {G : Wd} {a ci k : Nat} {r : vw_C} (hc : vwCl[ci]? = some r) (hk : k < r.2.2) (h0 : G.1 a k = 0 ∧ G.2.1 a k = 0 ∧ G.2.2 a k = 0) (hΛ : Λ.2 a k = none) : defaultValue (ctyp ci k) = fv κ (Λ, sz, G) a ci k := by
  have h := sk_all hc hk
  show _ = (if skd ci k = 1 then Value.long (Int64.ofInt (G.2.1 a k)) else if skd ci k = 2 then ad κ ((Λ.2 a k).getD 0) else if skd ci k = 3 then ad κ (G.2.2 a k) else .int (Int32.ofInt (G.1 a k)))
  rw [h0.1, h0.2.1, h0.2.2, hΛ]
  unfold skM at h
  split at h
  · rename_i e; rw [e, of_decide_eq_true h]; rfl
  · rename_i e; rw [e, of_decide_eq_true h]; rfl
  · rename_i e; rw [e, of_decide_eq_true h]; rfl
  · rename_i e
    rw [e]
    split at h
    · rename_i hh; rw [hh]; rfl
    · rename_i hh; rw [hh]; rfl
    · cases h
  · rename_i e
    rw [e]
    split at h
    · rename_i hh; rw [hh]; rfl
    · rename_i hh; rw [hh]; rfl
    · cases h
  · cases h
theorem ev_new {κ : Kx} {Λ : Ly} {sz : Option Nat} {G : Wd} {a k j : Nat} (h3 : k < 3) (h0 : G.1 a j = 0 ∧ G.2.1 a j = 0 ∧ G.2.2 a j = 0) : defaultValue (aty k) = ev κ (Λ, sz, G) a k j := by
  show _ = (if k = 1 then Value.long (Int64.ofInt (G.2.1 a j)) else if 3 ≤ k then ad κ ((Λ.2 a j).getD 0) else .int (Int32.ofInt (G.1 a j)))
  rw [h0.1, h0.2.1]
  match k, h3 with
  | 0, _ => rfl
  | 1, _ => rfl
  | 2, _ => rfl
theorem RA_prim {U : State} {cA : ClassId} {k : Nat} (h : k < 3) (hf : U.vm.findClass ("[" ++ (aty k).toString) = some cA) : va_RA U cA (aty k) := by
  match k, h with
  | 0, _ => exact hf
  | 1, _ => exact hf
  | 2, _ => exact hf
theorem N_clamp {N : Nat} (h : N < 2147483648) : ¬ Int32.ofInt (N : Int) < 0 ∧ (Int32.ofInt (N : Int)).toNatClampNeg = N := by
  have hR : R32 (N : Int) := ⟨by omega, by omega⟩
  exact ⟨fun q => by have := (i32_lt hR r32_0).mp q; omega, by rw [i32_clamp (by omega) hR]; simp⟩
abbrev yObj : MethodName := ⟨"java/lang/Object", "<init>", "()V"⟩
theorem objW : Cond.code yObj ⟨#[0xb1]⟩ 1 none ∈ WU := List.mem_filter.mpr ⟨by decide +kernel, rfl⟩
theorem objI : wI.any (isIM yObj) = true := by decide +kernel
theorem asg_refl (vm : Vm) (c : ClassId) : vm.assignable c c = true := by
  show Vm.assignableAux vm (255 + 1) c c = true
  unfold Vm.assignableAux
  simp
def lnkF (own : String) (j ci k : Nat) : Bool := match vwCl[ci]? with
  | some r => decide (k < r.2.2) && ((r.2.1 k).2.2.2 && (decide ((r.2.1 k).1 = own) && wF.any (isFL own j (r.2.1 k).1 (r.2.1 k).2.1 (r.2.1 k).2.2.1)))
  | none => false
section AL
variable {κ : Kx} {M : Ms} {rm : Room} {P : Option Vl → Om → Prop} {PX : String → Om → Prop} {mc ms : Nat} {μ : Mu} {cells slots : Nat} {Λ : Ly} {sz : Option Nat} {n : Nat} {G : Wd} {pc : Nat} {ls : List (Option Vl)} {st : List Vl}
theorem V_new {ci ik : Nat} {r : vw_C} (hd : decode (MB M) pc = .ok (.new ik, 3)) (hc : vwCl[ci]? = some r) (hlk : wK.any (isCL (MN M).cls ik r.1) = true) (hin : decide (Cond.instantiable r.1 r.2.2 ∈ lw_tbl) = true) (hini : wI.any (isIni r.1) = true) (h0 : zF G n) (hn : n + 1 < 1000000) (hcs : cells + 1 ≤ rm.cells ∧ slots + r.2.2 ≤ rm.slots)
    (kk : V κ M rm P PX mc ms μ (cells + 1) (slots + r.2.2) (newL Λ (n + 1) (.inl ci), some (n + 1), G) (pc + 3) ls (.inr (.inr (n + 1)) :: st)) : V κ M rm P PX mc ms μ cells slots (Λ, some n, G) pc ls st := by
  intro g H locs lsA hH hL hl
  have hK := kK_at g
  obtain ⟨a0, h0w⟩ := g.1.2.1
  have hW := g.2.2.2.2.2.2.2.2.1
  obtain ⟨r1, r2, r3⟩ := cl_rows hc
  have hKn := hK.1 ci _ hc
  have hz : H.size = kB κ + n := hH.2.2.1 n rfl
  refine W.newcK g.2.1 g.2.2.1 g.2.2.2.2.2.2.1 (tf_warm hW rfl (h0w _ (tbl_of wK_in hlk isCL_ok))) (tf_warm hW rfl (h0w _ (of_decide_eq_true hin))) (g.2.2.2.2.2.2.2.1 _ (has_of wI_in hini isIni_ok rfl)) rfl hd hcs.1 hcs.2 hKn.2.1 hz fun H1 kC hkC e1 z1 o1 => ?_
  have hb := u_born (ctyp ci) g.2.2.2.2.2.2.2.1 r1 hKn hkC e1 r2
  have k1 := kk g H1 locs lsA (hH.born (t := .inl ci) (by rw [hz]; exact z1) (fun q hq => o1 q (by omega)) hn ⟨r, hc, by
    rw [Nat.add_sub_cancel]
    exact hb.to (fun k hk => fv_new hc hk (h0 (n + 1) (by omega) k) (by show (if n + 1 = n + 1 then none else Λ.2 (n + 1) k) = none; rw [if_pos rfl]))⟩) hL hl
  simp only [List.map_cons] at k1
  rw [show tr κ (.inr (.inr (n + 1))) = .ref (kB κ + (n + 1 - 1)) from ad_at κ (by omega) hn, Nat.add_sub_cancel] at k1
  exact k1
theorem V_newa {N k : Nat} {t : ArrayType} (hd : decode (MB M) pc = .ok (.newarray t, 2)) (hk : newarray.typeOf t = aty k) (h3 : k < 3) (hin : decide (Cond.arrayClass (newarray.typeOf t) ∈ lw_tbl) = true) (h0 : zF G n) (hn : n + 1 < 1000000) (hN : N ≤ 60000) (hcs : cells + 1 ≤ rm.cells ∧ slots + N ≤ rm.slots)
    (kk : V κ M rm P PX mc ms μ (cells + 1) (slots + N) (newL Λ (n + 1) (.inr (k, N)), some (n + 1), G) (pc + 2) ls (.inr (.inr (n + 1)) :: st)) : V κ M rm P PX mc ms μ cells slots (Λ, some n, G) pc ls (.inl (N : Nat) :: st) := by
  intro g H locs lsA hH hL hl
  have hW := g.2.2.2.2.2.2.2.2.1
  have hz : H.size = kB κ + n := hH.2.2.1 n rfl
  obtain ⟨c1, c2⟩ := N_clamp (N := N) (by omega)
  refine va_newaK g.2.1 g.2.2.1 (g.2.2.2.2.2.2.2.1 _ (List.mem_filter.mpr ⟨of_decide_eq_true hin, rfl⟩)) rfl hd (n := Int32.ofInt (N : Nat)) (rest := st.map (tr κ)) rfl c1 c2 ?_ hcs.1 hcs.2 hz fun H1 cA e1 z1 o1 hA hf => ?_
  · have h8 : componentBytes (newarray.typeOf t) ≤ 8 := by cases t <;> decide
    exact Nat.le_trans (Nat.mul_le_mul hN h8) (by decide)
  · rw [hk] at e1 hA hf
    have hK1 : va_K (kD κ) vwCl [(cA, aty k)] (mS μ) := ⟨(kK_at g).1, fun i x hx => by
      cases i with
      | zero => cases hx; exact ⟨hA, RA_prim h3 hf⟩
      | succ i => cases hx⟩
    have k1 := kk g H1 locs lsA (hH.born (t := .inr (k, N)) (by rw [hz]; exact z1) (fun q hq => o1 q (by omega)) hn ⟨by show N < 2147483648; omega, cA, by
      rw [Nat.add_sub_cancel, e1]
      congr 2
      funext j
      exact ev_new h3 (h0 (n + 1) (by omega) j), va_K.moved hW.alike.symm hK1⟩) hL hl
    simp only [List.map_cons] at k1
    rw [show tr κ (.inr (.inr (n + 1))) = .ref (kB κ + (n + 1 - 1)) from ad_at κ (by omega) hn, Nat.add_sub_cancel] at k1
    exact k1
theorem V_anew {N k j : Nat} {C : String} (hd : decode (MB M) pc = .ok (.anewarray j, 3)) (hk : aty k = .object C) (h3 : 3 ≤ k) (hlk : wK.any (isCL (MN M).cls j C) = true) (hin : decide (Cond.arrayOver (.object C) ∈ lw_tbl) = true) (hn : n + 1 < 1000000) (hN : N ≤ 60000) (hcs : cells + 1 ≤ rm.cells ∧ slots + N ≤ rm.slots)
    (kk : V κ M rm P PX mc ms μ (cells + 1) (slots + N) (newL Λ (n + 1) (.inr (k, N)), some (n + 1), G) (pc + 3) ls (.inr (.inr (n + 1)) :: st)) : V κ M rm P PX mc ms μ cells slots (Λ, some n, G) pc ls (.inl (N : Nat) :: st) := by
  intro g H locs lsA hH hL hl
  have hW := g.2.2.2.2.2.2.2.2.1
  obtain ⟨a0, h0w⟩ := g.1.2.1
  have hz : H.size = kB κ + n := hH.2.2.1 n rfl
  obtain ⟨c1, c2⟩ := N_clamp (N := N) (by omega)
  refine W.anew g.2.1 g.2.2.1 g.2.2.2.2.2.2.1 (tf_warm hW rfl (h0w _ (tbl_of wK_in hlk isCL_ok))) (va_AO.use (va_AO.moved hW.alike (va_AO.of (h0w _ (of_decide_eq_true hin))))) rfl hd (n := Int32.ofInt (N : Nat)) (rest := st.map (tr κ)) rfl c1 (by rw [c2]; omega) hcs.1 (by rw [c2]; exact hcs.2) fun cA kA comp f1 f2 f3 f4 => ?_
  rw [c2]
  generalize hH1 : H.push ({ cls := cA, slots := Array.replicate N .null, vm := .none } : Cell) = H1
  have z1 : H1.size = H.size + 1 := by rw [← hH1, Array.size_push]
  have e1 : H1[H.size]? = some (arrV cA N (fun _ => .null)) := by rw [← hH1, Array.getElem?_push_size, ← arrV_new]
  have o1 : ∀ q : Nat, q < H.size → H1[q]? = H[q]? := fun q hq => by rw [← hH1, Array.getElem?_push, if_neg (Nat.ne_of_lt hq)]
  have hK1 : va_K (kD κ) vwCl [(cA, aty k)] (mS μ) := ⟨(kK_at g).1, fun i x hx => by
    cases i with
    | zero => cases hx; rw [hk]; exact ⟨fun N z => ⟨(fun k h => by cases h), kA, f2, comp, f3⟩, kA, comp, f2, f3, f4, f1⟩
    | succ i => cases hx⟩
  have k1 := kk g H1 locs lsA (hH.born (t := .inr (k, N)) z1 o1 hn ⟨by show N < 2147483648; omega, cA, by
    rw [Nat.add_sub_cancel, ← hz, e1]
    congr 2
    funext j
    show Value.null = (if k = 1 then Value.long (Int64.ofInt (G.2.1 (n + 1) j)) else if 3 ≤ k then ad κ ((if n + 1 = n + 1 then none else Λ.2 (n + 1) j).getD 0) else .int (Int32.ofInt (G.1 (n + 1) j)))
    rw [if_neg (by omega), if_pos h3, if_pos rfl]
    rfl, va_K.moved hW.alike.symm hK1⟩) hL hl
  simp only [List.map_cons] at k1
  rw [show tr κ (.inr (.inr (n + 1))) = .ref (kB κ + (n + 1 - 1)) from ad_at κ (by omega) hn, Nat.add_sub_cancel, ← hz] at k1
  exact k1
theorem V_aast0 {a b k N j : Nat} {C : String} (hd : decode (MB M) pc = .ok (.aastore, 1)) (ha : Λ.1 a = some (.inr (k, N))) (h3 : 3 ≤ k) (hk : aty k = .object C) (hj : j < N)
    (hv : Gd κ M μ → ∀ H, HO κ (Λ, sz, G) H → ∃ w, tr κ (.inr (.inr b)) = .ref w ∧ ∃ cv : Cell, H[w]? = some cv ∧ cv.vm.isStatics = false ∧ (mS μ).vm.findClass C = some cv.cls)
    (kk : V κ M rm P PX mc ms μ cells slots (refL Λ a j b, sz, G) (pc + 1) ls st) : V κ M rm P PX mc ms μ cells slots (Λ, sz, G) pc ls (.inr (.inr b) :: .inl (j : Nat) :: .inr (.inr a) :: st) := by
  intro g H locs lsA hH hL hl2
  have hW := g.2.2.2.2.2.2.2.2.1
  obtain ⟨w, ew, cv, v1, v2, v3⟩ := hv g H hH
  obtain ⟨ha0, ha1, hn, cA, e1, e2⟩ := hH.2.2.2 a _ ha
  have hN : N < 2147483648 := hn
  have e2' := (va_K.moved hW.alike e2).2 0 _ rfl
  obtain ⟨kA, comp, k1, k2, k3, -⟩ := (show va_RA (mS μ) cA (.object C) by rw [← hk]; exact e2'.2)
  have hcomp : comp = cv.cls := Option.some.inj (k3.symm.trans v3)
  subst hcomp
  obtain ⟨kC, hkC, -⟩ := Vm.findClass_spec v3
  obtain ⟨c1, c2⟩ := N_clamp (N := j) (by omega)
  simp only [List.map_cons]
  rw [ew, show tr κ (.inr (.inr a)) = .ref (kB κ + (a - 1)) from ad_at κ ha0 ha1]
  refine W.aast g.2.1 g.2.2.1 e1 (fun q h => by cases h) (fun h => by cases h) k1 k2 rfl hkC (j := Int32.ofInt (j : Nat)) ⟨c1, by rw [c2, arrV_size]; exact hj⟩ v1 (fun q h => by rw [h] at v2; cases v2) hkC (asg_refl _ _) rfl rfl hd fun H1 f1 f2 f3 => ?_
  rw [c2] at f1 ⊢
  refine kk g H1 _ lsA (hH.updR rfl ha f2 f3 (fun c hc q => ?_) ⟨hn, cA, ?_, e2⟩) ?_ hl2
  · show (if c = a ∧ q = j then some b else Λ.2 c q) = Λ.2 c q
    rw [if_neg (fun h => hc h.1)]
  · rw [f1, arrV_store]
    congr 2
    funext q
    show updV _ j (Value.ref w) q = (if k = 1 then Value.long (Int64.ofInt (G.2.1 a q)) else if 3 ≤ k then ad κ ((if a = a ∧ q = j then some b else Λ.2 a q).getD 0) else .int (Int32.ofInt (G.1 a q)))
    rw [if_neg (by omega), if_pos h3]
    unfold updV
    by_cases hq : q = j
    · rw [if_pos hq, if_pos ⟨rfl, hq⟩, ← ew]; rfl
    · rw [if_neg hq, if_neg (fun h => hq h.2)]
      show (if k = 1 then Value.long (Int64.ofInt (G.2.1 a q)) else if 3 ≤ k then ad κ ((Λ.2 a q).getD 0) else .int (Int32.ofInt (G.1 a q))) = _
      rw [if_neg (by omega), if_pos h3]
  · intro q hq
    rcases List.mem_append.mp hq with h | h
    · exact hL q h
    · rw [List.mem_singleton.mp h]; exact Nat.le_add_right _ _
theorem V_aastR {a b k N j ci : Nat} {C : String} (hd : decode (MB M) pc = .ok (.aastore, 1)) (ha : Λ.1 a = some (.inr (k, N))) (h3 : 3 ≤ k) (hk : aty k = .object C) (hj : j < N) (hb : Λ.1 b = some (.inl ci)) (hC : (vwCl[ci]?).map (fun r => r.1) = some C)
    (kk : V κ M rm P PX mc ms μ cells slots (refL Λ a j b, sz, G) (pc + 1) ls st) : V κ M rm P PX mc ms μ cells slots (Λ, sz, G) pc ls (.inr (.inr b) :: .inl (j : Nat) :: .inr (.inr a) :: st) :=
  V_aast0 hd ha h3 hk hj (fun g H hH => ⟨_, recvCell g hH hb hC⟩) kk
theorem V_aastS {a b k N j : Nat} (hd : decode (MB M) pc = .ok (.aastore, 1)) (ha : Λ.1 a = some (.inr (k, N))) (h3 : 3 ≤ k) (hk : aty k = .object "java/lang/String") (hj : j < N) (hb : 1000000 ≤ b ∧ b < 2000000) (hO : va_O "java/lang/String" (kSp κ (b - 1000000)) (aA κ) (kS κ) (kS κ).heap)
    (kk : V κ M rm P PX mc ms μ cells slots (refL Λ a j b, sz, G) (pc + 1) ls st) : V κ M rm P PX mc ms μ cells slots (Λ, sz, G) pc ls (.inr (.inr b) :: .inl (j : Nat) :: .inr (.inr a) :: st) :=
  V_aast0 hd ha h3 hk hj (fun g H hH => ⟨_, ad_str κ hb, recvStr g hH hO⟩) kk
theorem V_putF {j a ci k b : Nat} (hd : decode (MB M) pc = .ok (.putfield j, 3)) (hl : lnkF (MN M).cls j ci k = true) (hi : (MN M).name = "<init>") (ha : Λ.1 a = some (.inl ci)) (hs : skd ci k = 2)
    (kk : V κ M rm P PX mc ms μ cells slots (refL Λ a k b, sz, G) (pc + 3) ls st) : V κ M rm P PX mc ms μ cells slots (Λ, sz, G) pc ls (.inr (.inr b) :: .inr (.inr a) :: st) := by
  intro g H locs lsA hH hL hl2
  have hK := kK_at g
  obtain ⟨ha0, ha1, r, hc, cell, q1, q2, q3, q4⟩ := hH.2.2.2 a _ ha
  unfold lnkF at hl
  rw [hc] at hl
  simp only [Bool.and_eq_true, decide_eq_true_eq] at hl
  obtain ⟨hk, hfin, hdecl, hl⟩ := hl
  obtain ⟨r1, r2, r3⟩ := cl_rows hc
  have hm := sk_all hc hk
  have hap := va_apart (own := "") g.2.2.2.2.2.2.2.1 r1 (ctyp ci) r2 r3 hK hc
  obtain ⟨hS, hfc, kC, hkC, hkind⟩ := hK.1 ci _ hc
  obtain ⟨cf, kf, fi, f, hfi, hsl⟩ := hS k hk
  have hlay := g.2.2.2.2.2.2.2.1 _ (r1 _ (u_in_lay hk))
  unfold u_lay at hlay
  rw [if_pos hfin] at hlay
  have hst := (u_facts hfc hkC (u_lays g.2.2.2.2.2.2.2.1 r1 hk) hfi).1
  have hcf : (mM μ).cls = cf := by
    obtain ⟨_, _, c', _, _, _, -, -, hf', -, -, -, hown2, -⟩ := Cond.laysFinal_spec hlay
    have e1 : c' = cf := by have := hfi.symm.trans hf'; simp at this; exact this.1.symm
    rw [hdecl] at hown2
    rw [← e1]; exact Option.some.inj (g.2.2.2.2.2.2.1.symm.trans hown2)
  have hrt : ∃ ty, ctyp ci k = ty ∧ ((∃ C, ty = .object C) ∨ ∃ t, ty = .array t) := by
    unfold skM at hm
    rw [hs] at hm
    simp only at hm
    split at hm
    · rename_i C hC; exact ⟨_, rfl, Or.inl ⟨C, hC⟩⟩
    · rename_i C hC; exact ⟨_, rfl, Or.inr ⟨C, hC⟩⟩
    · cases hm
  obtain ⟨ty, hty, hrt⟩ := hrt
  have hnf : narrow ty (ad κ b) = ad κ b ∧ fits ty (ad κ b) = true := by
    rcases ad_rf κ b with e | ⟨q, e⟩ <;> rw [e] <;> rcases hrt with ⟨C, rfl⟩ | ⟨t, rfl⟩ <;> exact ⟨rfl, rfl⟩
  have h6 := u_fits hfc hkC hkind (Or.inr hlay) hfi (r2 k hk) (by rw [hty]; exact hnf.1) (by rw [hty]; exact hnf.2)
  simp only [List.map_cons]
  rw [show tr κ (.inr (.inr a)) = .ref (kB κ + (a - 1)) from ad_at κ ha0 ha1]
  refine W.putFinK g.2.1 g.2.2.1 g.2.2.2.2.2.2.1 (g.2.2.2.2.2.2.2.1 _ (has_of wF_in hl isFL_ok rfl)) hfi hst hcf (g.2.2.2.2.2.2.2.2.2.2.2.1 hi) (by rw [q2]; exact h6) q1 q3 (by rw [hsl]; exact k2_hasslot (q4 k hk)) rfl rfl hd fun H' e1 e2 e3 => ?_
  rw [hsl] at e1 ⊢
  refine kk g H' _ lsA (hH.updR rfl ha e2 e3 (fun c hc q => ?_) ⟨r, hc, t_OB.to (V := updV (fv κ (Λ, sz, G) a ci) k (ad κ b)) ⟨_, e1, q2, q3, t_set q4 hap hk _⟩ (fun k' _ => ?_)⟩) ?_ hl2
  · show (if c = a ∧ q = k then some b else Λ.2 c q) = Λ.2 c q
    rw [if_neg (fun h => hc h.1)]
  · unfold updV
    show _ = (if skd ci k' = 1 then Value.long (Int64.ofInt (G.2.1 a k')) else if skd ci k' = 2 then ad κ ((if a = a ∧ k' = k then some b else Λ.2 a k').getD 0) else if skd ci k' = 3 then ad κ (G.2.2 a k') else .int (Int32.ofInt (G.1 a k')))
    by_cases hq : k' = k
    · subst hq
      rw [if_pos rfl, hs, if_neg (by decide), if_pos rfl, if_pos ⟨rfl, rfl⟩]
      rfl
    · have e : (if a = a ∧ k' = k then some b else Λ.2 a k') = Λ.2 a k' := if_neg (fun h => hq h.2)
      rw [if_neg hq, e]
      rfl
  · intro q hq
    rcases List.mem_append.mp hq with h | h
    · exact hL q h
    · rw [List.mem_singleton.mp h]; exact Nat.le_add_right _ _
theorem V_objI {Ω : Om} {j a : Nat} (hd : decode (MB M) pc = .ok (.invokespecial j, 3)) (hlk : wM.any (isML (MN M).cls j yObj) = true) (ha : 0 < a ∧ a < 1000000) (hcat : csm st ≤ 8) (hf : 1 ≤ rm.frames ∧ 30 ≤ rm.locals)
    (kk : V κ M rm P PX mc ms μ cells slots Ω (pc + 3) ls st) : V κ M rm P PX mc ms μ cells slots Ω pc ls (.inr (.inr a) :: st) := by
  intro g H locs lsA hH hL hl
  have hcs := cat_sum (κ := κ) hcat
  simp only [List.map_cons]
  rw [show tr κ (.inr (.inr a)) = .ref (kB κ + (a - 1)) from ad_at κ ha.1 ha.2]
  exact W.objInit g.2.1 g.2.2.1 g.2.2.2.2.2.2.1 (g.2.2.2.2.2.2.2.1 _ (has_of wM_in hlk isML_ok rfl)) (g.2.2.2.2.2.2.2.1 _ (has_of wI_in objI isIM_ok rfl)) (g.2.2.2.2.2.2.2.1 _ objW) rfl (hl.1.trans g.2.2.2.1.symm) rfl hd hf.1 (by show 2 * 0 + _ + 12 ≤ _; omega) (kk g H locs lsA hH hL hl)
end AL
