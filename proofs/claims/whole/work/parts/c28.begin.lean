/-! THE LAW: from its entry to its loop -/
theorem V_LZ {κ : Kx} {M : Ms} {rm : Room} {P : Option Vl → Om → Prop} {PX : String → Om → Prop} {mc ms : Nat} {μ : Mu} {cells slots : Nat} {sz : Option Nat} {G : Wd} {pc : Nat} {ls : List (Option Vl)} {st : List Vl} (k : V κ M rm P PX mc ms μ cells slots (Wm G) pc ls st) : V κ M rm P PX mc ms μ cells slots (LZ, sz, G) pc ls st := fun g H locs lsA hH hL hl => k g H locs lsA (HO_LZ hH) hL hl
theorem zF_12 {G : Wd} {a n m : Nat} (h : zF G m) (ha : a ≤ m) : zF (p12G G a n) m := zF_u (zF_u (zF_u h ha) ha) ha
theorem lRL_obj : True := trivial
set_option maxRecDepth 100000 in
set_option maxHeartbeats 8000000 in
theorem lw_begin {κ : Kx} (hκ : KOK κ) (hB : HB κ) (hKS : KS κ) {μ : Mu} (hL : κ.2.2.2.2.1 ≤ 3584) : V κ ML_law room_1 PL noX 601024 7293034 μ 0 0 (L0, some 0, G0) 0 [some (VR 1000000), none, none, none, none, none, none, none] [] := by
  refine V_new (M := ML_law) (ci := 10) (r := (RX11, TX11, 15)) dL_law_0 rfl (by decide +kernel) (by decide +kernel) (by decide +kernel) (zF_0 _) (by decide) ⟨Nat.le_of_ble_eq_true rfl, Nat.le_of_ble_eq_true rfl⟩ ?_
  refine V_ex sL_law_3 (by rfl) (by exact trivial) ?_
  refine V_callI (M := ML_law) (N := MX11_init) dL_law_4 lRL_133 kX11_init rfl rfl ⟨by decide, by decide⟩ (i_X11 (d := 90) hκ ⟨by decide, by decide⟩ (by decide) (by simp only [newL_at]) (zF_0 _) (by decide)) rfl rfl (Nat.le_of_ble_eq_true rfl) fit_law ⟨Nat.le_of_ble_eq_true rfl, Nat.le_of_ble_eq_true rfl⟩ (fun v Ω' hp => ?_) (fun _ _ h => h.elim)
  obtain ⟨rfl, rfl⟩ := hp
  refine V_ex sL_law_7 (by rfl) (by exact trivial) ?_
  have hz1 : zF (gX11 G0 1 1) 144 := zX11 (zF_0 _) (by decide) (by decide)
  refine V_new (M := ML_law) (ci := 11) (r := (RX12, TX12, 76)) dL_law_8 rfl (by decide +kernel) (by decide +kernel) (by decide +kernel) hz1 (by decide) ⟨Nat.le_of_ble_eq_true rfl, Nat.le_of_ble_eq_true rfl⟩ ?_
  refine V_ex sL_law_11 (by rfl) (by exact trivial) ?_
  refine V_callI (M := ML_law) (N := MX12_init) dL_law_12 lRL_136 kX12_init rfl rfl ⟨by decide, by decide⟩ (i_X12 (d := 90) hκ hKS ⟨by decide, by decide⟩ (by decide) (by simp only [newL_at]) (zF.mono hz1 (by decide)) (by decide)) rfl rfl (Nat.le_of_ble_eq_true rfl) fit_law ⟨Nat.le_of_ble_eq_true rfl, Nat.le_of_ble_eq_true rfl⟩ (fun v Ω' hp => ?_) (fun _ _ h => h.elim)
  obtain ⟨rfl, rfl⟩ := hp
  refine V_ex sL_law_15 (by rfl) (by exact trivial) ?_
  have hz2 : zF (gF (p12G (gX11 G0 1 1) 145 145) (145 + 12) 10) 188 := zF_f (zF_12 (zF.mono hz1 (by decide)) (by decide)) (by decide)
  refine V_newa (M := ML_law) (N := 1) (k := 1) dL_law_17 rfl (by decide) (by decide +kernel) hz2 (by decide) (by decide) ⟨Nat.le_of_ble_eq_true rfl, Nat.le_of_ble_eq_true rfl⟩ ?_
  refine V_ex sL_law_19 (by rfl) (by exact trivial) ?_
  refine V_LZ (sz := some 189) (G := GZ) ?_
  exact lw_loop hκ hB hKS hL 512 0 0 _ _ 0 GZ A0 8 none none none (by omega) rfl rfl (Nat.le_of_ble_eq_true rfl) (Nat.le_of_ble_eq_true rfl) (by decide) RC_A0 RM_A0 Inv_A0
