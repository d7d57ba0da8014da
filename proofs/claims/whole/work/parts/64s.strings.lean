/-! STRING CONSTANTS over the machine: their length, their signs -/
abbrev aA (κ : Kx) : Nat → Prop := fun q => kB κ ≤ q
/-- the String of name n has the signs t -/
def SF (κ : Kx) (n : Nat) (t : List Int) : Prop := (1000000 ≤ n ∧ n < 2000000) ∧ t.length < 2147483648 ∧ (∀ z ∈ t, 0 ≤ z ∧ z ≤ 127) ∧ ∃ b : Nat, va_O "java/lang/String" (kSp κ (n - 1000000)) (aA κ) (kS κ) (kS κ).heap ∧ va_OF "java/lang/String" "coder" "B" (.int 0) (kSp κ (n - 1000000)) (aA κ) (kS κ) (kS κ).heap ∧ va_OF "java/lang/String" "value" "[B" (.ref b) (kSp κ (n - 1000000)) (aA κ) (kS κ) (kS κ).heap ∧ va_T .byte b t.length (fun j => .int (Int32.ofInt (t.getD j 0))) (aA κ) (kS κ) (kS κ).heap
def KC (κ : Kx) : Prop := va_Z "java/lang/String" "COMPACT_STRINGS" "Z" (.int 1) (aA κ) (kS κ) (kS κ).heap ∧ va_Zq "jdk/internal/util/Preconditions" "SIOOBE_FORMATTER" "Ljava/util/function/BiFunction;" (aA κ) (kS κ) (kS κ).heap
section ST
variable {κ : Kx} {M N : Ms} {rm : Room} {P P' : Option Vl → Om → Prop} {PX PX' : String → Om → Prop} {mc ms mc' ms' d : Nat} {μ : Mu} {cells slots : Nat} {Ω : Om} {pc j : Nat} {ls : List (Option Vl)} {stk rest st : List Vl} {As : List Vl}
theorem ad_str (κ : Kx) {n : Nat} (h : 1000000 ≤ n ∧ n < 2000000) : tr κ (.inr (.inr n)) = .ref (kSp κ (n - 1000000)) := by
  show ad κ n = _
  unfold ad
  rw [if_neg (by omega), if_neg (by omega), if_pos h.2]
theorem ad_raw (κ : Kx) (b : Nat) : tr κ (.inr (.inr (2000000 + b))) = .ref b := by
  show ad κ (2000000 + b) = _
  unfold ad
  rw [if_neg (by omega), if_neg (by omega), if_neg (by omega), Nat.add_sub_cancel_left]
theorem hs_at (g : Gd κ M μ) : ∀ a : Nat, a < (kS κ).heap.size → ¬ aA κ a → (mS μ).heap[a]? = (kS κ).heap[a]? := fun a _ hA => g.2.2.2.2.2.2.2.2.2.2.1 a (Nat.lt_of_not_le hA)
theorem O_at (g : Gd κ M μ) {E : String} {a : Nat} (h : va_O E a (aA κ) (kS κ) (kS κ).heap) : va_O E a (aA κ) (mS μ) (mS μ).heap := (va_O.moved g.2.2.2.2.2.2.2.2.1.alike h).kept (hs_at g)
theorem OF_at (g : Gd κ M μ) {o n d : String} {v : Value} {a : Nat} (h : va_OF o n d v a (aA κ) (kS κ) (kS κ).heap) : va_OF o n d v a (aA κ) (mS μ) (mS μ).heap := (va_OF.moved g.2.2.2.2.2.2.2.2.1.alike h).kept (hs_at g)
theorem T_at (g : Gd κ M μ) {ty : FieldType} {b n : Nat} {f : Nat → Value} (h : va_T ty b n f (aA κ) (kS κ) (kS κ).heap) : va_T ty b n f (aA κ) (mS μ) (mS μ).heap := (va_T.moved g.2.2.2.2.2.2.2.2.1.alike h).kept (hs_at g)
theorem Z_at (g : Gd κ M μ) {C n d : String} {v : Value} (h : va_Z C n d v (aA κ) (kS κ) (kS κ).heap) : va_Z C n d v (aA κ) (mS μ) (mS μ).heap := (va_Z.moved g.2.2.2.2.2.2.2.2.1.alike h).kept (hs_at g)
theorem S_at (g : Gd κ M μ) {H : Heap} {locs : List Loc} (hH : HO κ Ω H) (hL : ∀ q ∈ locs, kB κ ≤ q.base) (hz : (mS μ).heap.size ≤ H.size) : va_S (aA κ) (mS μ).heap H locs := ⟨hz, fun q _ hA => (hH.2.1 q (Nat.lt_of_not_le hA)).trans (g.2.2.2.2.2.2.2.2.2.2.1 q (Nat.lt_of_not_le hA)).symm, hL⟩
theorem V_getS {n : Nat} {fn fd : String} {v : Vl} (hn : 1000000 ≤ n ∧ n < 2000000) (hE : va_OF "java/lang/String" fn fd (tr κ v) (kSp κ (n - 1000000)) (aA κ) (kS κ) (kS κ).heap) (hl : wF.any (isFL (MN M).cls j "java/lang/String" fn fd) = true) (hd : decode (MB M) pc = .ok (.getfield j, 3))
    (k : V κ M rm P PX mc ms μ cells slots Ω (pc + 3) ls (v :: st)) : V κ M rm P PX mc ms μ cells slots Ω pc ls (.inr (.inr n) :: st) := by
  intro g H locs lsA hH hL hl2 T hT X
  have k1 := k g H locs lsA hH hL hl2
  simp only [List.map_cons] at k1 ⊢
  have hS := S_at g hH hL (by rw [← hT]; exact X.same.2.1)
  have h := vk_getf (rest := st.map (tr κ)) g.2.1 g.2.2.1 (OF_at g hE) hS g.2.2.2.2.2.2.1 (g.2.2.2.2.2.2.2.1 _ (has_of wF_in hl isFL_ok rfl)) (fun x h => h) hd k1
  rw [← ad_str κ hn] at h
  exact h T hT X
theorem V_gets {C fn fd : String} {v : Vl} (hE : va_Z C fn fd (tr κ v) (aA κ) (kS κ) (kS κ).heap) (hl : wF.any (isFL (MN M).cls j C fn fd) = true) (hd : decode (MB M) pc = .ok (.getstatic j, 3))
    (k : V κ M rm P PX mc ms μ cells slots Ω (pc + 3) ls (v :: st)) : V κ M rm P PX mc ms μ cells slots Ω pc ls st := by
  intro g H locs lsA hH hL hl2 T hT X
  have k1 := k g H locs lsA hH hL hl2
  simp only [List.map_cons] at k1 ⊢
  have hS := S_at g hH hL (by rw [← hT]; exact X.same.2.1)
  exact va_gets (rest := st.map (tr κ)) g.2.1 g.2.2.1 (Z_at g hE) hS g.2.2.2.2.2.2.1 (g.2.2.2.2.2.2.2.1 _ (has_of wF_in hl isFL_ok rfl)) (fun x h => h) hd k1 T hT X
theorem ofNat_ofInt (n : Nat) : Int32.ofNat n = Int32.ofInt (n : Int) := by
  apply Int32.toBitVec_inj.mp
  show BitVec.ofNat 32 n = BitVec.ofInt 32 (n : Int)
  rw [BitVec.ofInt_natCast]
theorem V_rawLen {b n : Nat} {f : Nat → Value} {ty : FieldType} (hE : va_T ty b n f (aA κ) (kS κ) (kS κ).heap) (hd : decode (MB M) pc = .ok (.arraylength, 1))
    (k : V κ M rm P PX mc ms μ cells slots Ω (pc + 1) ls (.inl (n : Nat) :: st)) : V κ M rm P PX mc ms μ cells slots Ω pc ls (.inr (.inr (2000000 + b)) :: st) := by
  intro g H locs lsA hH hL hl2 T hT X
  have k1 := k g H locs lsA hH hL hl2
  simp only [List.map_cons] at k1 ⊢
  have hS := S_at g hH hL (by rw [← hT]; exact X.same.2.1)
  have h := va_tlen (rest := st.map (tr κ)) g.2.1 g.2.2.1 (T_at g hE) hS (v := Int32.ofInt (n : Nat)) (ofNat_ofInt n) hd k1
  rw [← ad_raw κ b] at h
  exact h T hT X
theorem V_rawB {b n i : Nat} {f : Nat → Int} (hE : va_T .byte b n (fun j => .int (Int32.ofInt (f j))) (aA κ) (kS κ) (kS κ).heap) (hi : i < n) (hn : n < 2147483648) (hd : decode (MB M) pc = .ok (.baload, 1))
    (k : V κ M rm P PX mc ms μ cells slots Ω (pc + 1) ls (.inl (f i) :: st)) : V κ M rm P PX mc ms μ cells slots Ω pc ls (.inl (i : Nat) :: .inr (.inr (2000000 + b)) :: st) := by
  intro g H locs lsA hH hL hl2 T hT X
  have k1 := k g H locs lsA hH hL hl2
  simp only [List.map_cons] at k1 ⊢
  have hS := S_at g hH hL (by rw [← hT]; exact X.same.2.1)
  have hR : R32 (i : Nat) := by unfold R32; omega
  have hc : (Int32.ofInt (i : Nat)).toNatClampNeg = i := by rw [i32_clamp (by omega) hR]; simp
  have h := va_tb (rest := st.map (tr κ)) g.2.1 g.2.2.1 (T_at g hE) hS (i := Int32.ofInt (i : Nat)) (by
    unfold vp_in
    rw [hc]
    have h0 : ¬ (Int32.ofInt (i : Nat) < 0) := fun q => by have := (i32_lt hR r32_0).mp q; omega
    intro q
    rcases q with q | q
    · exact h0 q
    · omega) (v := tr κ (.inl (f i))) (by rw [hc]; rfl) hd k1
  rw [← ad_raw κ b] at h
  exact h T hT X
/-- a return of a small type -/
theorem V_xret {z : Int} {ty : FieldType} (hd : decode (MB M) pc = .ok (.ireturn, 1)) (hr : MR M = some ty) (hz : narrow ty (.int (Int32.ofInt z)) = .int (Int32.ofInt z)) (hc : cells ≤ mc ∧ slots ≤ ms) (hp : P (some (.inl z)) Ω) : V κ M rm P PX mc ms μ cells slots Ω pc ls [.inl z] := by
  intro g H locs lsA hH hL hl
  refine W.widen hc.1 hc.2 (vx_ret ?_)
  exact W.zret g.2.1 g.2.2.1 (g.2.2.2.2.1.trans hr) hz (fun t ht _ => ⟨some (.inl z), Ω, rfl, hp, by rw [ht]; exact hH⟩) hL hd g.2.2.2.2.2.1
theorem recvStr (g : Gd κ M μ) {n : Nat} {H : Heap} (hH : HO κ Ω H) (hO : va_O "java/lang/String" (kSp κ (n - 1000000)) (aA κ) (kS κ) (kS κ).heap) : ∃ cellB : Cell, H[kSp κ (n - 1000000)]? = some cellB ∧ cellB.vm.isStatics = false ∧ (mS μ).vm.findClass "java/lang/String" = some cellB.cls := by
  obtain ⟨cell, h1, h2, h3, h4⟩ := O_at g hO
  exact ⟨cell, ((hH.2.1 _ (Nat.lt_of_not_le h4)).trans (g.2.2.2.2.2.2.2.2.2.2.1 _ (Nat.lt_of_not_le h4)).symm).trans h1, h2, h3⟩
theorem V_callVs {k n : Nat} (hn : 1000000 ≤ n ∧ n < 2000000) (hO : va_O "java/lang/String" (kSp κ (n - 1000000)) (aA κ) (kS κ) (kS κ).heap) (hd : decode (MB M) pc = .ok (.invokevirtual j, 3)) (hlk : wM.any (isML (MN M).cls j (MN N)) = true) (hm : mkV N k) (hh : MH N = []) (hC : (MN N).cls = "java/lang/String") (hct : Ct κ N d mc' ms' (.inr (.inr n) :: As) Ω P' PX') (hst : stk = As.reverse ++ .inr (.inr n) :: rest) (hk : As.length = k) (hcat : csm rest ≤ 8) (hf : fitR rm d) (hcs : cells + mc' ≤ rm.cells ∧ slots + ms' ≤ rm.slots)
    (kk : ∀ (v : Option Vl) (Ω' : Om), P' v Ω' → V κ M rm P PX mc ms μ (cells + mc') (slots + ms') Ω' (pc + 3) ls (v.toList ++ rest))
    (kx : ∀ (E : String) (Ω' : Om), PX' E Ω' → PX E Ω' ∧ MH M = [] ∧ cells + mc' ≤ mc ∧ slots + ms' ≤ ms) : V κ M rm P PX mc ms μ cells slots Ω pc ls stk := by
  unfold mkV at hm
  simp only [Bool.and_eq_true] at hm
  subst hst
  refine V_run (av := (Value.ref (kSp κ (n - 1000000)) :: As.map (tr κ)).toArray) (fun g H locs lsA hH hL hl => ?_) kk kx
  have er := ad_str κ hn
  have cr := recvStr g hH hO
  rw [← hC] at cr
  have hp := (Ct_pre g hH (As := .inr (.inr n) :: As)).2
  simp only [List.map_cons, er] at hp
  have hct2 := hct
  unfold Ct at hct2
  refine vx_runV (Ts := WU) (own := (MN M).cls) (C := (MN N).cls) (b := kSp κ (n - 1000000)) (nL := ML M) (As := As.map (tr κ)) ⟨g.2.1, g.2.2.1, g.2.2.2.1, g.2.2.2.2.2.2.1, g.2.2.2.2.2.2.2.1⟩ hct2 ⟨CallB_of g hm.1 hh hlk hf, g.2.2.2.2.2.2.2.1 _ (has_of wI_in hm.2.1 isIM_ok rfl), g.2.2.2.2.2.2.2.1 _ (has_of wS_in hm.2.2 isSel_ok rfl)⟩ ⟨Ct_blind, cr, ?_⟩ rfl (by simpa using hk) hl.1 ?_ (by show 2 * 0 + _ ≤ 8; have := cat_sum (κ := κ) hcat; omega) hd hcs
  · simp only [List.map_cons, er]; exact hp
  · rw [As_rev]; simp only [List.map_cons, er]
end ST
theorem dS_len4 : decode (MB MJ0_length_8abf5) 4 = .ok (.arraylength, 1) := by decide +kernel
theorem dS_len5 : dsOk (MN MJ0_length_8abf5).cls (MB MJ0_length_8abf5) 5 [(.aload_n 0, 0, 0, 0)] 6 = true := by decide +kernel
theorem dS_ca2 : dsOk (MN MJ1_charAt_3b067).cls (MB MJ1_charAt_3b067) 0 [(.iload_n 1, 0, 0, 0), (.aload_n 0, 0, 0, 0)] 2 = true := by decide +kernel
theorem dS_ca3 : decode (MB MJ1_charAt_3b067) 2 = .ok (.arraylength, 1) := by decide +kernel
theorem dS_ca6 : dsOk (MN MJ1_charAt_3b067).cls (MB MJ1_charAt_3b067) 6 [(.aload_n 0, 0, 0, 0), (.iload_n 1, 0, 0, 0)] 8 = true := by decide +kernel
theorem dS_ca8 : decode (MB MJ1_charAt_3b067) 8 = .ok (.baload, 1) := by decide +kernel
theorem dS_ca9 : dsOk (MN MJ1_charAt_3b067).cls (MB MJ1_charAt_3b067) 9 [(.sipush 255, 0, 0, 255), (.iand, 0, 0, 0), (.i2c, 0, 0, 0)] 14 = true := by decide +kernel
theorem fS_9 : wF.any (isFL "java/lang/String" 9 "java/lang/String" "value" "[B") = true := by decide +kernel
theorem fS_15 : wF.any (isFL "java/lang/String" 15 "java/lang/String" "coder" "B") = true := by decide +kernel
theorem fS_38 : wF.any (isFL "java/lang/String" 38 "java/lang/String" "COMPACT_STRINGS" "Z") = true := by decide +kernel
theorem fS_1053 : wF.any (isFL "java/lang/String" 1053 "jdk/internal/util/Preconditions" "SIOOBE_FORMATTER" "Ljava/util/function/BiFunction;") = true := by decide +kernel
set_option maxRecDepth 100000 in
set_option maxHeartbeats 4000000 in
set_option maxRecDepth 100000 in
set_option maxHeartbeats 4000000 in
theorem c_sCoder {κ : Kx} (hκ : KOK κ) (hC : KC κ) {d n : Nat} {t : List Int} {G : Wd} (hs : SF κ n t) : Ct κ MJ0_coder_7d493 d 0 0 [VR n] (Wm G) (keepG G (VI 0)) noX := by
  obtain ⟨hn, hl, hb, b, h1, h2, h3, h4⟩ := hs
  refine Ct_of hκ kJ0_coder_7d493.1 rfl (Nat.le_of_ble_eq_true rfl) (ls := [some (VR n)]) rfl (fun μ => ?_)
  refine V_gets (v := VI 1) hC.1 fS_38 dJ0_coder_7d493_0 ?_
  refine V_ifeq dJ0_coder_7d493_3 (tgt := 13) (by decide) (by unfold R32; omega) (fun q => ?_) (fun q => ?_)
  · omega
  · refine V_ex sJ0_coder_7d493_6 (by rfl) (by first | exact trivial | exact Or.inl trivial | exact Or.inr rfl | exact Or.inl rfl) ?_
    refine V_getS (v := VI 0) hn h2 fS_15 dJ0_coder_7d493_7 ?_
    refine V_goto dJ0_coder_7d493_10 (tgt := 14) (by decide) ?_
    exact V_xret dJ0_coder_7d493_14 rfl rfl (by decide) ⟨rfl, rfl⟩
set_option maxRecDepth 100000 in
set_option maxHeartbeats 4000000 in
set_option maxRecDepth 100000 in
set_option maxHeartbeats 4000000 in
theorem c_sIsLatin1 {κ : Kx} (hκ : KOK κ) (hC : KC κ) {d n : Nat} {t : List Int} {G : Wd} (hs : SF κ n t) : Ct κ MJ0_isLatin1_aae02 d 0 0 [VR n] (Wm G) (keepG G (VI 1)) noX := by
  obtain ⟨hn, hl, hb, b, h1, h2, h3, h4⟩ := hs
  refine Ct_of hκ kJ0_isLatin1_aae02.1 rfl (Nat.le_of_ble_eq_true rfl) (ls := [some (VR n)]) rfl (fun μ => ?_)
  refine V_gets (v := VI 1) hC.1 fS_38 dJ0_isLatin1_aae02_0 ?_
  refine V_ifeq dJ0_isLatin1_aae02_3 (tgt := 17) (by decide) (by unfold R32; omega) (fun q => ?_) (fun q => ?_)
  · omega
  · refine V_ex sJ0_isLatin1_aae02_6 (by rfl) (by first | exact trivial | exact Or.inl trivial | exact Or.inr rfl | exact Or.inl rfl) ?_
    refine V_getS (v := VI 0) hn h2 fS_15 dJ0_isLatin1_aae02_7 ?_
    refine V_ifne dJ0_isLatin1_aae02_10 (tgt := 17) (by decide) (by unfold R32; omega) (fun q => ?_) (fun q => ?_)
    · omega
    · refine V_ex sJ0_isLatin1_aae02_13 (by rfl) (by first | exact trivial | exact Or.inl trivial | exact Or.inr rfl | exact Or.inl rfl) ?_
      refine V_goto dJ0_isLatin1_aae02_14 (tgt := 18) (by decide) ?_
      refine V_zret dJ0_isLatin1_aae02_18 rfl (by first | exact Or.inl rfl | exact Or.inr rfl | exact b2i_01 _) (by decide) ⟨rfl, rfl⟩
set_option maxRecDepth 100000 in
set_option maxHeartbeats 4000000 in
set_option maxRecDepth 100000 in
set_option maxHeartbeats 4000000 in
theorem c_sLength {κ : Kx} (hκ : KOK κ) (hC : KC κ) {d n : Nat} {t : List Int} {G : Wd} (hs : SF κ n t) (hd : 1 ≤ d) : Ct κ MJ0_length_8abf5 d 0 0 [VR n] (Wm G) (keepG G (VI (t.length : Nat))) noX := by
  have hs0 := hs
  obtain ⟨hn, hl, hb, b, h1, h2, h3, h4⟩ := hs
  refine Ct_of hκ kJ0_length_8abf5.1 rfl (Nat.le_of_ble_eq_true rfl) (ls := [some (VR n)]) rfl (fun μ => ?_)
  refine V_ex sJ0_length_8abf5_0 (by rfl) (by first | exact trivial | exact Or.inl trivial | exact Or.inr rfl | exact Or.inl rfl) ?_
  refine V_getS (v := VR (2000000 + b)) hn (by rw [show tr κ (VR (2000000 + b)) = .ref b from ad_raw κ b]; exact h3) fS_9 dJ0_length_8abf5_1 ?_
  refine V_rawLen h4 dS_len4 ?_
  refine V_ex dS_len5 (by rfl) (by exact trivial) ?_
  refine V_callVs (M := MJ0_length_8abf5) (N := MJ0_coder_7d493) hn h1 dJ0_length_8abf5_6 lRJ0_335 kJ0_coder_7d493 rfl rfl (c_sCoder (d := 0) hκ hC hs0) rfl rfl (Nat.le_of_ble_eq_true rfl) (fit_rm (by omega)) ⟨Nat.le_of_ble_eq_true rfl, Nat.le_of_ble_eq_true rfl⟩ (fun v Ω' hp => ?_) (fun _ _ h => h.elim)
  obtain ⟨rfl, rfl⟩ := hp
  refine V_ex sJ0_length_8abf5_9 (by rfl) (by first | exact trivial | exact Or.inl trivial | exact Or.inr rfl | exact Or.inl rfl) ?_
  have e : iShr (t.length : Nat) 0 = (t.length : Nat) := by
    rw [iShr_k (by unfold R32; omega) 0 0 (by decide)]; simp
  rw [e]
  refine V_iret dJ0_length_8abf5_10 rfl (by decide) ⟨rfl, rfl⟩
set_option maxRecDepth 100000 in
set_option maxHeartbeats 4000000 in
set_option maxRecDepth 100000 in
set_option maxHeartbeats 4000000 in
theorem c_pCheckIndex {κ : Kx} (hκ : KOK κ) {d n : Nat} {i l : Int} {G : Wd} (hi : 0 ≤ i ∧ i < l) (hl : l < 2147483648) : Ct κ MJ3_checkIndex_8e157 d 0 0 [VI i, VI l, VR n] (Wm G) (keepG G (VI i)) noX := by
  refine Ct_of hκ kJ3_checkIndex_8e157.1 rfl (Nat.le_of_ble_eq_true rfl) (ls := [some (VI i), some (VI l), some (VR n)]) rfl (fun μ => ?_)
  refine V_ex sJ3_checkIndex_8e157_0 (by rfl) (by first | exact trivial | exact Or.inl trivial | exact Or.inr rfl | exact Or.inl rfl) ?_
  refine V_iflt dJ3_checkIndex_8e157_1 (tgt := 9) (by decide) (by unfold R32; omega) (fun q => ?_) (fun q => ?_)
  · omega
  · refine V_ex sJ3_checkIndex_8e157_4 (by rfl) (by first | exact trivial | exact Or.inl trivial | exact Or.inr rfl | exact Or.inl rfl) ?_
    refine V_icmplt dJ3_checkIndex_8e157_6 (tgt := 16) (by decide) (by unfold R32; omega) (fun q2 => ?_) (fun q2 => ?_)
    · refine V_ex sJ3_checkIndex_8e157_16 (by rfl) (by first | exact trivial | exact Or.inl trivial | exact Or.inr rfl | exact Or.inl rfl) ?_
      refine V_iret dJ3_checkIndex_8e157_17 rfl (by decide) ⟨rfl, rfl⟩
    · omega
set_option maxRecDepth 100000 in
set_option maxHeartbeats 4000000 in
set_option maxRecDepth 100000 in
set_option maxHeartbeats 4000000 in
theorem c_sCheckIndex {κ : Kx} (hκ : KOK κ) (hC : KC κ) {d : Nat} {i l : Int} {G : Wd} (hi : 0 ≤ i ∧ i < l) (hl : l < 2147483648) (hd : 1 ≤ d) : Ct κ MJ0_checkIndex_df160 d 0 0 [VI i, VI l] (Wm G) (voidG G) noX := by
  refine Ct_of hκ kJ0_checkIndex_df160.1 rfl (Nat.le_of_ble_eq_true rfl) (ls := [some (VI i), some (VI l)]) rfl (fun μ => ?_)
  refine V_ex sJ0_checkIndex_df160_0 (by rfl) (by first | exact trivial | exact Or.inl trivial | exact Or.inr rfl | exact Or.inl rfl) ?_
  have go : ∀ n : Nat, V κ MJ0_checkIndex_df160 (rmD d 0 0) (voidG G) noX 0 0 μ 0 0 (Wm G) 5 [some (VI i), some (VI l)] [VR n, VI l, VI i] := fun n => by
    refine V_callS (M := MJ0_checkIndex_df160) (N := MJ3_checkIndex_8e157) dJ0_checkIndex_df160_5 lRJ0_1059 kJ3_checkIndex_8e157 rfl (c_pCheckIndex (d := 0) hκ hi hl) rfl rfl (Nat.le_of_ble_eq_true rfl) (fit_rm (by omega)) ⟨Nat.le_of_ble_eq_true rfl, Nat.le_of_ble_eq_true rfl⟩ (fun v Ω' hp => ?_) (fun _ _ h => h.elim)
    obtain ⟨rfl, rfl⟩ := hp
    refine V_ex sJ0_checkIndex_df160_8 (by rfl) (by first | exact trivial | exact Or.inl trivial | exact Or.inr rfl | exact Or.inl rfl) ?_
    refine V_vret dJ0_checkIndex_df160_9 rfl (by decide) ⟨rfl, rfl⟩
  rcases hC.2 with h | ⟨t, h⟩
  · exact V_gets (v := VR 0) h fS_1053 dJ0_checkIndex_df160_2 (go 0)
  · exact V_gets (v := VR (2000000 + t)) (by rw [show tr κ (VR (2000000 + t)) = .ref t from ad_raw κ t]; exact h) fS_1053 dJ0_checkIndex_df160_2 (go _)
theorem nar_char : ∀ n : Fin 128, narrow .char (.int (Int32.ofInt (n.val : Int))) = .int (Int32.ofInt (n.val : Int)) := by decide +kernel
theorem chr_mask : ∀ n : Fin 128, iChr (iAnd (n.val : Int) 255) = (n.val : Int) := by decide +kernel
theorem nar_ch {z : Int} (h : 0 ≤ z ∧ z ≤ 127) : narrow .char (.int (Int32.ofInt z)) = .int (Int32.ofInt z) := by
  have := nar_char ⟨z.toNat, by omega⟩
  simpa [show ((z.toNat : Nat) : Int) = z by omega] using this
theorem chr_ma {z : Int} (h : 0 ≤ z ∧ z ≤ 127) : iChr (iAnd z 255) = z := by
  have := chr_mask ⟨z.toNat, by omega⟩
  simpa [show ((z.toNat : Nat) : Int) = z by omega] using this
theorem getD_in {t : List Int} {k : Nat} (hk : k < t.length) (hb : ∀ z ∈ t, 0 ≤ z ∧ z ≤ 127) : 0 ≤ t.getD k 0 ∧ t.getD k 0 ≤ 127 := by
  rw [List.getD_eq_getElem?_getD, List.getElem?_eq_getElem hk]
  exact hb _ (List.getElem_mem hk)
set_option maxRecDepth 100000 in
set_option maxHeartbeats 4000000 in
set_option maxRecDepth 100000 in
set_option maxHeartbeats 4000000 in
theorem c_lCharAt {κ : Kx} (hκ : KOK κ) (hC : KC κ) {d b k : Nat} {t : List Int} {G : Wd} (hb : ∀ z ∈ t, 0 ≤ z ∧ z ≤ 127) (hl : t.length < 2147483648) (hE : va_T .byte b t.length (fun j => .int (Int32.ofInt (t.getD j 0))) (aA κ) (kS κ) (kS κ).heap) (hk : k < t.length) (hd : 2 ≤ d) : Ct κ MJ1_charAt_3b067 d 0 0 [VR (2000000 + b), VI (k : Nat)] (Wm G) (keepG G (VI (t.getD k 0))) noX := by
  refine Ct_of hκ kJ1_charAt_3b067.1 rfl (Nat.le_of_ble_eq_true rfl) (ls := [some (VR (2000000 + b)), some (VI (k : Nat))]) rfl (fun μ => ?_)
  refine V_ex dS_ca2 (by rfl) (by exact trivial) ?_
  refine V_rawLen hE dS_ca3 ?_
  refine V_callS (M := MJ1_charAt_3b067) (N := MJ0_checkIndex_df160) dJ1_charAt_3b067_3 lRJ1_9 kJ0_checkIndex_df160 rfl (c_sCheckIndex (d := 1) hκ hC (i := (k : Nat)) (l := (t.length : Nat)) (by omega) (by omega) (by omega)) rfl rfl (Nat.le_of_ble_eq_true rfl) (fit_rm (by omega)) ⟨Nat.le_of_ble_eq_true rfl, Nat.le_of_ble_eq_true rfl⟩ (fun v Ω' hp => ?_) (fun _ _ h => h.elim)
  obtain ⟨rfl, rfl⟩ := hp
  refine V_ex dS_ca6 (by rfl) (by exact trivial) ?_
  refine V_rawB (f := fun j => t.getD j 0) hE hk hl dS_ca8 ?_
  have hg := getD_in hk hb
  refine V_ex dS_ca9 (by rfl) (by exact trivial) ?_
  show V κ MJ1_charAt_3b067 (rmD d 0 0) _ noX 0 0 μ _ _ _ 14 _ [VI (iChr (iAnd (t.getD k 0) 255))]
  rw [chr_ma hg]
  exact V_xret dJ1_charAt_3b067_14 rfl (nar_ch hg) (by decide) ⟨rfl, rfl⟩
set_option maxRecDepth 100000 in
set_option maxHeartbeats 4000000 in
set_option maxRecDepth 100000 in
set_option maxHeartbeats 4000000 in
theorem c_sCharAt {κ : Kx} (hκ : KOK κ) (hC : KC κ) {d n k : Nat} {t : List Int} {G : Wd} (hs : SF κ n t) (hk : k < t.length) (hd : 3 ≤ d) : Ct κ MJ0_charAt_5068e d 0 0 [VR n, VI (k : Nat)] (Wm G) (keepG G (VI (t.getD k 0))) noX := by
  have hs0 := hs
  obtain ⟨hn, hl, hb, b, h1, h2, h3, h4⟩ := hs
  have hg := getD_in hk hb
  refine Ct_of hκ kJ0_charAt_5068e.1 rfl (Nat.le_of_ble_eq_true rfl) (ls := [some (VR n), some (VI (k : Nat))]) rfl (fun μ => ?_)
  refine V_ex sJ0_charAt_5068e_0 (by rfl) (by first | exact trivial | exact Or.inl trivial | exact Or.inr rfl | exact Or.inl rfl) ?_
  refine V_callVs (M := MJ0_charAt_5068e) (N := MJ0_isLatin1_aae02) hn h1 dJ0_charAt_5068e_1 lRJ0_492 kJ0_isLatin1_aae02 rfl rfl (c_sIsLatin1 (d := 0) hκ hC hs0) rfl rfl (Nat.le_of_ble_eq_true rfl) (fit_rm (by omega)) ⟨Nat.le_of_ble_eq_true rfl, Nat.le_of_ble_eq_true rfl⟩ (fun v Ω' hp => ?_) (fun _ _ h => h.elim)
  obtain ⟨rfl, rfl⟩ := hp
  refine V_ifeq dJ0_charAt_5068e_4 (tgt := 16) (by decide) (by unfold R32; omega) (fun q => ?_) (fun q => ?_)
  · omega
  · refine V_ex sJ0_charAt_5068e_7 (by rfl) (by first | exact trivial | exact Or.inl trivial | exact Or.inr rfl | exact Or.inl rfl) ?_
    refine V_getS (v := VR (2000000 + b)) hn (by rw [show tr κ (VR (2000000 + b)) = .ref b from ad_raw κ b]; exact h3) fS_9 dJ0_charAt_5068e_8 ?_
    refine V_ex sJ0_charAt_5068e_11 (by rfl) (by first | exact trivial | exact Or.inl trivial | exact Or.inr rfl | exact Or.inl rfl) ?_
    refine V_callS (M := MJ0_charAt_5068e) (N := MJ1_charAt_3b067) dJ0_charAt_5068e_12 lRJ0_495 kJ1_charAt_3b067 rfl (c_lCharAt (d := 2) hκ hC hb hl h4 hk (by omega)) rfl rfl (Nat.le_of_ble_eq_true rfl) (fit_rm (by omega)) ⟨Nat.le_of_ble_eq_true rfl, Nat.le_of_ble_eq_true rfl⟩ (fun v Ω' hp => ?_) (fun _ _ h => h.elim)
    obtain ⟨rfl, rfl⟩ := hp
    exact V_xret dJ0_charAt_5068e_15 rfl (nar_ch hg) (by decide) ⟨rfl, rfl⟩
/-- the constants of both classes -/
def KS (κ : Kx) : Prop := KC κ ∧ ∀ (i : Nat) (q : String × Nat × String), SCT[i]? = some q → vk_R q.1 q.2.1 q.2.2 (kSp κ (i + 1)) (kS κ) ∧ SF κ (1000001 + i) (q.2.2.toList.map (fun c => (c.toNat : Int)))
theorem ks_R {κ : Kx} (h : KS κ) {i : Nat} {q : String × Nat × String} (hq : SCT[i]? = some q) : vk_R q.1 q.2.1 q.2.2 (kSp κ (1000001 + i - 1000000)) (kS κ) := by
  rw [show 1000001 + i - 1000000 = i + 1 by omega]; exact (h.2 i q hq).1
section ST2
variable {κ : Kx} {M : Ms} {rm : Room} {P : Option Vl → Om → Prop} {PX : String → Om → Prop} {mc ms : Nat} {μ : Mu} {cells slots : Nat} {Ω : Om} {pc j : Nat} {ls : List (Option Vl)} {st : List Vl}
theorem V_ldcS {n : Nat} {own tx : String} (hR : vk_R own j tx (kSp κ (n - 1000000)) (kS κ)) (hd : decode (MB M) pc = .ok (.ldc j, 2)) (k : V κ M rm P PX mc ms μ cells slots Ω (pc + 2) ls (.inr (.inr n) :: st)) (hn : 1000000 ≤ n ∧ n < 2000000 := by decide) (ho : (MN M).cls = own := by rfl) : V κ M rm P PX mc ms μ cells slots Ω pc ls st := by
  intro g H locs lsA hH hL hl
  have k1 := k g H locs lsA hH hL hl
  simp only [List.map_cons] at k1
  rw [ad_str κ hn] at k1
  exact va_ldcS g.2.1 g.2.2.1 (by rw [← ho]; exact g.2.2.2.2.2.2.1) (vk_R.warm g.2.2.2.2.2.2.2.2.1 hR) hd k1
end ST2
theorem ks_words : ∀ j, j < 18 → (SCT[j]?).map (fun q => q.2.2.toList.map (fun c => (c.toNat : Int))) = some (wordT.getD j []) := by decide +kernel
theorem ks_W {κ : Kx} (h : KS κ) {j : Nat} (hj : j < 18) : SF κ (1000001 + j) (wordT.getD j []) := by
  have h1 := ks_words j hj
  cases hq : SCT[j]? with
  | none => rw [hq] at h1; cases h1
  | some q =>
    rw [hq] at h1
    have h2 := Option.some.inj h1
    rw [← h2]
    exact (h.2 j q hq).2
