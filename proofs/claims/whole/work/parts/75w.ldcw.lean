/-! STRING CONSTANTS of the wide instruction -/
theorem wl_ldcS {p : Program} {l : Launch} {e : Env} {R : Room} {s : State} {m : MethodId} {args : Array Value} {below : List Frame} {meth : Method} {c : Code} {H : Heap} {locs : List Loc} {cells slots : Nat} {Q : State → Prop} {cc : ByteArray} {pc : Nat} {ls : Array Slot} {rest : List Value} (hexec : p.tables.exec = Jvm.exec) (hb : c.code = cc) {own tx : String} {index q : Nat} (hown : s.vm.findClass own = some m.cls) (hZ : vk_R own index tx q s) (hdg : decode cc pc = .ok (.ldc_w index, 3))
    (k : W p l e R s m args below meth c H locs cells slots Q (F0 m (pc + 3) ls (.ref q :: rest))) : W p l e R s m args below meth c H locs cells slots Q (F0 m pc ls rest) := by
  intro T hT X
  obtain ⟨t, h1, h2⟩ := k T hT X
  refine ⟨t, ?_, h2⟩
  obtain ⟨kl, cf, i, b, k1, k2, k3, -, k4, k5⟩ := Cond.stringRef_spec hown (hZ.1 : (Jvm.Cond.stringRef own index tx).before #[] s = true)
  have eb := k5.symm.trans hZ.2
  injection eb with eb
  injection eb with eb
  subst eb
  obtain ⟨kl2, k6, k7⟩ := X.warmed.alike.2.2 _ _ k1
  have k8 : kl2.resolved[index]? = some (some (.string b)) := (X.warmed.entry k1 k6 index).elim (fun h => h.trans k4) (fun h => by have h3 := h.1; rw [k4] at h3; cases h3)
  jvm_step X.here [hexec, (show decode c.code (F0 m pc ls rest).pc = .ok (.ldc_w index, 3) by rw [hb]; exact hdg), ldc_w.wp_string (e := e) (s := T) (f := F0 m pc ls rest) X.here.top k6 (by rw [k7]; exact k2) k3 k8]
  exact h1
section ST3
variable {κ : Kx} {M : Ms} {rm : Room} {P : Option Vl → Om → Prop} {PX : String → Om → Prop} {mc ms : Nat} {μ : Mu} {cells slots : Nat} {Ω : Om} {pc j : Nat} {ls : List (Option Vl)} {st : List Vl}
theorem V_ldcSw {n : Nat} {own tx : String} (hR : vk_R own j tx (kSp κ (n - 1000000)) (kS κ)) (hd : decode (MB M) pc = .ok (.ldc_w j, 3)) (k : V κ M rm P PX mc ms μ cells slots Ω (pc + 3) ls (.inr (.inr n) :: st)) (hn : 1000000 ≤ n ∧ n < 2000000 := by decide) (ho : (MN M).cls = own := by rfl) : V κ M rm P PX mc ms μ cells slots Ω pc ls st := by
  intro g H locs lsA hH hL hl
  have k1 := k g H locs lsA hH hL hl
  simp only [List.map_cons] at k1
  rw [ad_str κ hn] at k1
  exact wl_ldcS g.2.1 g.2.2.1 (by rw [← ho]; exact g.2.2.2.2.2.2.1) (vk_R.warm g.2.2.2.2.2.2.2.2.1 hR) hd k1
end ST3
/-- which word the i-th constant of the model is -/
def mWd : List Nat := [0, 1, 2, 3, 4, 5, 6, 11, 12, 13, 14, 15, 16, 17, 7, 10, 8, 9]
theorem ks_mwords : ∀ j, j < 18 → (SCT[18 + j]?).map (fun q => q.2.2.toList.map (fun c => (c.toNat : Int))) = some (wordT.getD (mWd.getD j 0) []) := by decide +kernel
theorem ks_M {κ : Kx} (h : KS κ) {j : Nat} (hj : j < 18) : SF κ (1000019 + j) (wordT.getD (mWd.getD j 0) []) := by
  have h1 := ks_mwords j hj
  cases hq : SCT[18 + j]? with
  | none => rw [hq] at h1; cases h1
  | some q =>
    rw [hq] at h1
    have h2 := Option.some.inj h1
    rw [← h2, show 1000019 + j = 1000001 + (18 + j) by omega]
    exact (h.2 (18 + j) q hq).2
