/-! THE MODEL: feed; the calls that ask for no state -/
theorem mpL_md {G : Wd} {S A' B : List Nat} {r : Int × Int} {A : Ab} (hC : RM G A) (hS : ∀ x ∈ S, x ∈ [2, 42, 45, 56, 59]) (hA : ∀ x ∈ A', x ∈ [163, 164, 171, 174, 175, 177]) (hB : ∀ x ∈ B, x ∈ [168, 169, 170, 179, 180]) {v : Option Vl} {Ω' : Om} (h : mpL G S A' B r v Ω') : mdP G A (some (VL r.2)) r.1 v Ω' := by
  obtain ⟨rfl, G', rfl, f, c⟩ := h
  exact md_f hC (f.mono hS hA hB) rfl c
theorem mpI_md {G : Wd} {S A' B : List Nat} {r : Int × Int} {A : Ab} (hC : RM G A) (hS : ∀ x ∈ S, x ∈ [2, 42, 45, 56, 59]) (hA : ∀ x ∈ A', x ∈ [163, 164, 171, 174, 175, 177]) (hB : ∀ x ∈ B, x ∈ [168, 169, 170, 179, 180]) {v : Option Vl} {Ω' : Om} (h : mpI G S A' B r v Ω') : mdP G A (some (VI r.2)) r.1 v Ω' := by
  obtain ⟨rfl, G', rfl, f, c⟩ := h
  exact md_f hC (f.mono hS hA hB) rfl c
theorem RM_lead {G : Wd} {A : Ab} (hC : RM G A) (hO : okSh 500 A.1) : (∀ f : Nat, f < 10 → G.1 157 f = leadL A.1 f) ∧ ∀ f : Nat, f < 10 → 0 ≤ leadL A.1 f ∧ leadL A.1 f ≤ 9999 := by
  have e10 : A.1.2.2.1.length = 10 := hO.2.2.2.2.1
  have hl := hC.1.2.2.2.2.1
  have e : ∀ f : Nat, (h : f < 10) → leadL A.1 f = A.1.2.2.1[f]'(by omega) := fun f h => by unfold leadL; rw [List.getD_eq_getElem?_getD, List.getElem?_eq_getElem (by omega)]; rfl
  exact ⟨fun f hf => by rw [e f hf]; exact hl f (by omega), fun f hf => by rw [e f hf]; exact hO.2.2.2.2.2.1 _ (List.getElem_mem _)⟩
section
variable {κ : Kx} {d : Nat} {K : Int} {A : Ab} {G : Wd}
set_option maxRecDepth 100000 in
set_option maxHeartbeats 4000000 in
theorem c_mxFits (hκ : KOK κ) (hC : RM G A) {s i : Int} (hs : R64 s) (hi : R32 i) (hd : 20 ≤ d) : Ct κ MX12_fits d 0 0 [VR 145, VL s, VI i] (Wm G) (mdP G A (some (VL (fitsP s i).2)) (fitsP s i).1) noX := (c_mfits hκ hs hi (by omega)).mono (fun _ _ h => mpL_md hC (by decide) (by decide) (by decide) h) (fun _ _ h => h)
set_option maxRecDepth 100000 in
set_option maxHeartbeats 4000000 in
theorem c_mxLeaf (hκ : KOK κ) (hC : RM G A) {s i : Int} (hs : R64 s) (hi : R32 i) (hd : 20 ≤ d) : Ct κ MX12_leaf d 0 0 [VR 145, VL s, VI i] (Wm G) (mdP G A (some (VL (leafP s i).2)) (leafP s i).1) noX := (c_mleaf hκ hs hi (by omega)).mono (fun _ _ h => mpL_md hC (by decide) (by decide) (by decide) h) (fun _ _ h => h)
set_option maxRecDepth 100000 in
set_option maxHeartbeats 4000000 in
theorem c_mxSaid (hκ : KOK κ) (hC : RM G A) {s f m : Int} (hs : R64 s) (hf : R32 f) (hm : R64 m) (hd : 20 ≤ d) : Ct κ MX12_said d 0 0 [VR 145, VL s, VI f, VL m] (Wm G) (mdP G A (some (VI (saidP s f m).2)) (saidP s f m).1) noX := (c_msaid hκ hs hf hm (by omega)).mono (fun _ _ h => mpI_md hC (by decide) (by decide) (by decide) h) (fun _ _ h => h)
set_option maxRecDepth 100000 in
set_option maxHeartbeats 4000000 in
theorem c_mxBetween (hκ : KOK κ) (hC : RM G A) {a b f : Int} (ha : R64 a) (hb : R64 b) (hf : R32 f) (hd : 20 ≤ d) : Ct κ MX12_between d 0 0 [VR 145, VL a, VL b, VI f] (Wm G) (mdP G A (some (VL (betweenP a b f).2)) (betweenP a b f).1) noX := (c_mbetween hκ ha hb hf (by omega)).mono (fun _ _ h => mpL_md hC (by decide) (by decide) (by decide) h) (fun _ _ h => h)
set_option maxRecDepth 100000 in
set_option maxHeartbeats 4000000 in
theorem c_mxSkip (hκ : KOK κ) (hC : RM G A) {f n w : Int} (hf : R32 f) (hn : R64 n) (hw : R32 w) (hd : 20 ≤ d) : Ct κ MX12_skip d 0 0 [VR 145, VI f, VL n, VI w] (Wm G) (mdP G A (some (VL (skipP f n w).2)) (skipP f n w).1) noX := (c_mskip hκ hf hn hw (by omega)).mono (fun _ _ h => mpL_md hC (by decide) (by decide) (by decide) h) (fun _ _ h => h)
set_option maxRecDepth 100000 in
set_option maxHeartbeats 4000000 in
theorem c_mxSewn (hκ : KOK κ) (hC : RM G A) {s : Int} (hs : R64 s) (hd : 20 ≤ d) : Ct κ MX12_sewn d 0 0 [VR 145, VL s] (Wm G) (mdP G A (some (VL (sewnP s).2)) (sewnP s).1) noX := (c_msewn hκ hs (by omega)).mono (fun _ _ h => mpL_md hC (by decide) (by decide) (by decide) h) (fun _ _ h => h)
set_option maxRecDepth 100000 in
set_option maxHeartbeats 4000000 in
theorem c_mxStreet (hκ : KOK κ) (hC : RM G A) {s e w : Int} (hs : R64 s) (he : R32 e) (hw : R32 w) (hd : 20 ≤ d) : Ct κ MX12_street d 0 0 [VR 145, VL s, VI e, VI w] (Wm G) (mdP G A (some (VL (streetP s e w).2)) (streetP s e w).1) noX := (c_mstreet hκ hs he hw (by omega)).mono (fun _ _ h => mpL_md hC (by decide) (by decide) (by decide) h) (fun _ _ h => h)
set_option maxRecDepth 100000 in
set_option maxHeartbeats 4000000 in
theorem c_mxSeveral (hκ : KOK κ) (hC : RM G A) {s k i : Int} (hs : R64 s) (hk : R32 k) (hi : R32 i) (hd : 20 ≤ d) : Ct κ MX12_several d 0 0 [VR 145, VL s, VI k, VI i] (Wm G) (mdP G A (some (VL (sevP s k i).2)) (sevP s k i).1) noX := (c_mseveral hκ hs hk hi (by omega)).mono (fun _ _ h => mpL_md hC (by decide) (by decide) (by decide) h) (fun _ _ h => h)
set_option maxRecDepth 100000 in
set_option maxHeartbeats 4000000 in
theorem c_mxWays (hκ : KOK κ) (hC : RM G A) {s k n : Int} (hs : R64 s) (hk : R32 k) (hn : R32 n) (hd : 20 ≤ d) : Ct κ MX12_ways d 0 0 [VR 145, VL s, VI k, VI n] (Wm G) (mdP G A (some (VL (waysP s k n).2)) (waysP s k n).1) noX := (c_mways hκ hs hk hn (by omega)).mono (fun _ _ h => mpL_md hC (by decide) (by decide) (by decide) h) (fun _ _ h => h)
set_option maxRecDepth 100000 in
set_option maxHeartbeats 4000000 in
theorem c_mxWay (hκ : KOK κ) (hC : RM G A) {s k n i : Int} (hs : R64 s) (hk : R32 k) (hn : R32 n) (hi : R64 i) (hd : 20 ≤ d) : Ct κ MX12_way d 0 0 [VR 145, VL s, VI k, VI n, VL i] (Wm G) (mdP G A (some (VL (wayP s k n i).2)) (wayP s k n i).1) noX := (c_mway hκ hs hk hn hi (by omega)).mono (fun _ _ h => mpL_md hC (by decide) (by decide) (by decide) h) (fun _ _ h => h)
set_option maxRecDepth 100000 in
set_option maxHeartbeats 4000000 in
theorem c_mxFar (hκ : KOK κ) (hC : RM G A) (hI : Inv K A) {n : Int} (hn : R32 n) (hd : 20 ≤ d) : Ct κ MX12_far d 0 0 [VR 145, VI n] (Wm G) (mdP G A (some (VI (farP (leadL A.1) n).2)) (farP (leadL A.1) n).1) noX := (c_mfar hκ (RM_lead hC hI.1).1 (RM_lead hC hI.1).2 hn (by omega)).mono (fun _ _ h => mpI_md hC (by decide) (by decide) (by decide) h) (fun _ _ h => h)
set_option maxRecDepth 100000 in
set_option maxHeartbeats 4000000 in
theorem c_mxLacks (hκ : KOK κ) (hC : RM G A) (hI : Inv K A) {n : Int} (hn : R32 n) (hd : 20 ≤ d) : Ct κ MX12_lacks d 0 0 [VR 145, VI n] (Wm G) (mdP G A (some (VI (lacksP (leadL A.1) n).2)) (lacksP (leadL A.1) n).1) noX := (c_mlacks hκ (RM_lead hC hI.1).1 (RM_lead hC hI.1).2 hn (by omega)).mono (fun _ _ h => mpI_md hC (by decide) (by decide) (by decide) h) (fun _ _ h => h)
end
