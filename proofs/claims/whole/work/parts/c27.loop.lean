/-! THE LAW: its loop, by program -/
theorem V_nrm {κ : Kx} {M : Ms} {rm : Room} {P : Option Vl → Om → Prop} {PX : String → Om → Prop} {mc ms : Nat} {μ : Mu} {cells slots : Nat} {Λ : Ly} {sz : Option Nat} {G : Wd} {pc : Nat} {ls : List (Option Vl)} {st : List Vl} (k : V κ M rm P PX mc ms μ cells slots (Λ, sz, nrm G) pc ls st) : V κ M rm P PX mc ms μ cells slots (Λ, sz, G) pc ls st := fun g H locs lsA hH hL hl => k g H locs lsA (HO_nrm hH) hL hl
set_option maxRecDepth 100000 in
set_option maxHeartbeats 8000000 in
theorem lw_loop {κ : Kx} (hκ : KOK κ) (hB : HB κ) (hKS : KS κ) {μ : Mu} (hL : κ.2.2.2.2.1 ≤ 3584) : ∀ (r i k c t : Nat) (z : Int) (G : Wd) (A : Ab) (s0 : Nat) (x5 x6 x7 : Option Vl), κ.2.2.2.2.1 ≤ i + 7 * r + 6 → i = 7 * k → z = (i : Int) → c ≤ 200 + 16 * k → t ≤ 100000 + 128 * k → k ≤ 600 → RC G s0 A → RM G A → Inv (k : Int) A → LV κ μ c t G 23 [some (VR 1000000), some (VR 1), some (VR 145), some (VR 189), some (VI z), x5, x6, x7] [] := by
  intro r
  induction r with
  | zero =>
      intro i k c t z G A s0 x5 x6 x7 hr hik hz hc ht hk hC hM hI
      subst hz
      refine V_ex sL_law_23 (by rfl) (by exact trivial) ?_
      refine V_slen dL_law_26 ?_
      refine V_ex sL_law_27 (by rfl) (by exact trivial) ?_
      refine V_icmpgt dL_law_30 (tgt := 3277) (by decide) (by simp only [R32]; omega) (fun q => ?_) (fun q => ?_)
      · refine V_ex sL_law_3277 (by rfl) (by exact trivial) ?_
        exact V_zret dL_law_3278 rfl (Or.inr rfl) ⟨by omega, by omega⟩ rfl
      · omega
  | succ r ih =>
      intro i k c t z G A s0 x5 x6 x7 hr hik hz hc ht hk hC hM hI
      subst hz
      refine V_ex sL_law_23 (by rfl) (by exact trivial) ?_
      refine V_slen dL_law_26 ?_
      refine V_ex sL_law_27 (by rfl) (by exact trivial) ?_
      refine V_icmpgt dL_law_30 (tgt := 3277) (by decide) (by simp only [R32]; omega) (fun q => ?_) (fun q => ?_)
      · refine V_ex sL_law_3277 (by rfl) (by exact trivial) ?_
        exact V_zret dL_law_3278 rfl (Or.inr rfl) ⟨by omega, by omega⟩ rfl
      · refine V_nrm ?_
        have hCn := RC_nrm hC hI (by omega)
        have hMn := RM_nrm hM hI (by omega)
        have hRn := aR_nrm G
        have hi7 : i + 7 ≤ κ.2.2.2.2.1 := by omega
        have go : LG κ μ c t (k : Int) (i : Nat) := fun G' s' A' y5 y6 y7 c' t' h1 h2 h3 h4 h5 => by
          refine V_ex sL_law_3271 (by rfl) (by exact trivial) ?_
          refine V_goto dL_law_3274 (tgt := 23) (by decide) ?_
          exact ih (i + 7) (k + 1) c' t' ((i : Int) + 7) G' A' s' y5 y6 y7 (by omega) (by omega) (by omega) (by omega) (by omega) (by omega) h1 h2 (by rw [show ((k + 1 : Nat) : Int) = (k : Int) + 1 by omega]; exact h3)
        refine V_ex sL_law_33 (by rfl) (by exact trivial) ?_
        refine V_sld i dL_law_36 rfl (by omega) hL ?_
        refine V_ex sL_law_37 (by rfl) (by exact trivial) ?_
        rw [iAnd_63]
        refine V_tsw dL_law_40 (dt := 3271) (tg := [220, 293, 349, 362, 418, 486, 561, 629, 697, 752, 820, 888, 956, 969, 1076, 1089, 1188, 1287, 1398, 1509, 1596, 1723, 1867, 1955, 2011, 2067, 2194, 2250, 2306, 2374, 2454, 2611, 2754, 2822, 2835, 2968, 3035, 3091, 3191, 3247, 3258]) (by simp only [R32]; omega) (by decide) (by decide) (by decide) (fun q => ?_) ⟨fun q => ?_, fun q => ?_, fun q => ?_, fun q => ?_, fun q => ?_, fun q => ?_, fun q => ?_, fun q => ?_, fun q => ?_, fun q => ?_, fun q => ?_, fun q => ?_, fun q => ?_, fun q => ?_, fun q => ?_, fun q => ?_, fun q => ?_, fun q => ?_, fun q => ?_, fun q => ?_, fun q => ?_, fun q => ?_, fun q => ?_, fun q => ?_, fun q => ?_, fun q => ?_, fun q => ?_, fun q => ?_, fun q => ?_, fun q => ?_, fun q => ?_, fun q => ?_, fun q => ?_, fun q => ?_, fun q => ?_, fun q => ?_, fun q => ?_, fun q => ?_, fun q => ?_, fun q => ?_, fun q => ?_, trivial⟩
        · exact go _ _ _ _ _ _ _ _ hCn hMn (Inv_mono hI (by omega)) (by omega) (by omega)
        · exact lw_feed hκ hB hKS hCn hMn hI hRn hi7 hL (by omega) (by omega) go
        · exact lw_shelf hκ hB hKS hCn hMn hI hRn hi7 hL (by omega) (by omega) go
        · exact lw_fault hκ hB hKS hCn hMn hI hRn hi7 hL (by omega) (by omega) go
        · exact lw_count hκ hB hKS hCn hMn hI hRn hi7 hL (by omega) (by omega) go
        · exact lw_book hκ hB hKS hCn hMn hI hRn hi7 hL (by omega) (by omega) go
        · exact lw_isThere hκ hB hKS hCn hMn hI hRn hi7 hL (by omega) (by omega) go
        · exact lw_number hκ hB hKS hCn hMn hI hRn hi7 hL (by omega) (by omega) go
        · exact lw_page hκ hB hKS hCn hMn hI hRn hi7 hL (by omega) (by omega) go
        · exact lw_sum hκ hB hKS hCn hMn hI hRn hi7 hL (by omega) (by omega) go
        · exact lw_figures hκ hB hKS hCn hMn hI hRn hi7 hL (by omega) (by omega) go
        · exact lw_tear hκ hB hKS hCn hMn hI hRn hi7 hL (by omega) (by omega) go
        · exact lw_sheet hκ hB hKS hCn hMn hI hRn hi7 hL (by omega) (by omega) go
        · exact lw_put hκ hB hKS hCn hMn hI hRn hi7 hL (by omega) (by omega) go
        · exact lw_add hκ hB hKS hCn hMn hI hRn hi7 hL (by omega) (by omega) go
        · exact lw_wrong hκ hB hKS hCn hMn hI hRn hi7 hL (by omega) (by omega) go
        · exact lw_fits hκ hB hKS hCn hMn hI hRn hi7 hL (by omega) (by omega) go
        · exact lw_leaf hκ hB hKS hCn hMn hI hRn hi7 hL (by omega) (by omega) go
        · exact lw_several hκ hB hKS hCn hMn hI hRn hi7 hL (by omega) (by omega) go
        · exact lw_ways hκ hB hKS hCn hMn hI hRn hi7 hL (by omega) (by omega) go
        · exact lw_sewn hκ hB hKS hCn hMn hI hRn hi7 hL (by omega) (by omega) go
        · exact lw_street hκ hB hKS hCn hMn hI hRn hi7 hL (by omega) (by omega) go
        · exact lw_said hκ hB hKS hCn hMn hI hRn hi7 hL (by omega) (by omega) go
        · exact lw_tells hκ hB hKS hCn hMn hI hRn hi7 hL (by omega) (by omega) go
        · exact lw_far hκ hB hKS hCn hMn hI hRn hi7 hL (by omega) (by omega) go
        · exact lw_lacks hκ hB hKS hCn hMn hI hRn hi7 hL (by omega) (by omega) go
        · exact lw_skip hκ hB hKS hCn hMn hI hRn hi7 hL (by omega) (by omega) go
        · exact lw_whole hκ hB hKS hCn hMn hI hRn hi7 hL (by omega) (by omega) go
        · exact lw_bought hκ hB hKS hCn hMn hI hRn hi7 hL (by omega) (by omega) go
        · exact lw_index hκ hB hKS hCn hMn hI hRn hi7 hL (by omega) (by omega) go
        · exact lw_seed hκ hB hKS hCn hMn hI hRn hi7 hL (by omega) (by omega) go
        · exact lw_way hκ hB hKS hCn hMn hI hRn hi7 hL (by omega) (by omega) go
        · exact lw_between hκ hB hKS hCn hMn hI hRn hi7 hL (by omega) (by omega) go
        · exact lw_stick hκ hB hKS hCn hMn hI hRn hi7 hL (by omega) (by omega) go
        · exact lw_loosen hκ hB hKS hCn hMn hI hRn hi7 hL (by omega) (by omega) go
        · exact lw_read hκ hB hKS hCn hMn hI hRn hi7 hL (by omega) (by omega) go
        · exact lw_shares hκ hB hKS hCn hMn hI hRn hi7 hL (by omega) (by omega) go
        · exact lw_child hκ hB hKS hCn hMn hI hRn hi7 hL (by omega) (by omega) go
        · exact lw_least hκ hB hKS hCn hMn hI hRn hi7 hL (by omega) (by omega) go
        · exact lw_torn hκ hB hKS hCn hMn hI hRn hi7 hL (by omega) (by omega) go
        · exact lw_image hκ hB hKS hCn hMn hI hRn hi7 hL (by omega) (by omega) go
        · exact lw_restore hκ hB hKS hCn hMn hI hRn hi7 hL (by omega) (by omega) go
