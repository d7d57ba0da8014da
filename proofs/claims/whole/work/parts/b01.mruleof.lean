/-! THE MODEL: a told rule worked out -/
theorem seg_ops {c : List Int} {a b : Int} (h0 : 0 ≤ a) (hab : a ≤ b) (hb : b ≤ (c.length : Nat)) : opsL (fun i => c.getD i 0) (b - a).toNat a.toNat = segC c a b := opsL_take (fun j hj => by rw [List.getD_eq_getElem?_getD, List.getElem?_eq_getElem hj]; rfl) _ _ (by omega)
theorem asn {f : Nat → Nat → Int} {a k x j : Nat} {z : Int} (h : x ≠ a) : upd2 f a k z x j = f x j := by rw [upd2_eq, if_neg (fun q => h q.1)]
set_option maxRecDepth 100000 in
set_option maxHeartbeats 4000000 in
theorem c_mRuleOf {κ : Kx} (hκ : KOK κ) {d j p : Nat} {S : Sh} {G : Wd} (hM : mS0 G S) (hO : okSh 500 S) (hj : j < S.1.length) (h6 : (bkJ S j).1 = 6) (hp : 1 ≤ p ∧ p ≤ 4000) (hd : 1 ≤ d) : Ct κ MX12_ruleOf d 0 0 [VR 145, VI (j : Nat), VI (p : Nat)] (Wm G) (fun u Ω' => u = some (VI (clT ((runL (bkJ S j).2.2.1 (p : Int) (segC (cdS S) (bkJ S j).2.2.2.1 (bkJ S j).2.2.2.2.1) []).headD 0))) ∧ ∃ G', Ω' = Wm G' ∧ FM [] [163, 164] [] G G') noX := by
  refine Ct_of hκ kX12_ruleOf.1 rfl (Nat.le_of_ble_eq_true rfl) (ls := [some (VR 145), some (VI (j : Nat)), some (VI (p : Nat)), none, none, none]) rfl (fun μ => ?_)
  obtain ⟨m1, m2, m3, m4, m5, m6⟩ := mS0_b hM hj
  obtain ⟨m4, m4'⟩ := m4 h6
  have hok := hO.2.1 _ (List.getElem_mem hj)
  rw [← bkJ_in hj] at hok
  have hj6 : j < 6 := by have := hO.1; omega
  have hcl : (cdS S).length ≤ 500 := hO.2.2.2.2.2.2.1
  have hcR := hO.2.2.2.2.2.2.2
  have hsg := hM.2.2.2.2.2
  obtain ⟨k1, k2, k3, k4, k5, k6, k7⟩ := hok
  have hdep := k6 h6
  have k5x : (bkJ S j).2.2.2.2.1 ≤ ((cdS S).length : Nat) := k5.2.2
  have hse := seg_ops (c := cdS S) k5.1 k5.2.1 k5.2.2
  rw [← hse] at hdep ⊢
  generalize hb : bkJ S j = b at *
  generalize hres : runL b.2.2.1 (p : Int) (opsL (fun i => (cdS S).getD i 0) (b.2.2.2.2.1 - b.2.2.2.1).toNat b.2.2.2.1.toNat) [] = res
  have L : ∀ (k c : Nat) (kk dd : Int) (st : List Int) (G1 : Wd) (x : Option Vl), kk = (c : Int) → (c : Int) + k = b.2.2.2.2.1 → dd = (st.length : Int) → st.length ≤ 64 → FM [] [163, 164] [] G G1 → (∀ o : Int, -4 ≤ o ∧ o < 0 → G1.1 163 (-1 - o).toNat = valOf o b.2.2.1 (p : Int)) → stk (G1.1 164) st → (∀ z ∈ st, R32 z) → depL (opsL (fun i => (cdS S).getD i 0) k c) st.length → runL b.2.2.1 (p : Int) (opsL (fun i => (cdS S).getD i 0) k c) st = res → V κ MX12_ruleOf (rmD d 0 0) (fun u Ω' => u = some (VI (clT (res.headD 0))) ∧ ∃ G', Ω' = Wm G' ∧ FM [] [163, 164] [] G G') noX 0 0 μ 0 0 (Wm (G1)) 58 [some (VR 145), some (VI (j : Nat)), some (VI (p : Nat)), some (VI dd), some (VI kk), x] [] := by
    intro k
    induction k with
    | zero =>
      intro c kk dd st G1 x hkk hck hdd h64 f1 ha hs hR hdp he
      have e9 : G1.1 159 j = b.2.2.2.2.1 := by rw [f1.i (by decide) (by decide)]; exact m4'
      simp only [opsL, depL, runL] at hdp he
      obtain ⟨z, rfl⟩ : ∃ z, st = [z] := by
        match st, hdp with
        | [z], _ => exact ⟨z, rfl⟩
      have hz := hR z (by simp)
      have hz0 : G1.1 164 0 = z := hs.1
      have hcl : clT (res.headD 0) = if 1 ≤ z ∧ z ≤ 99999 then z else 0 := by rw [← he]; rfl
      refine V_ex sX12_ruleOf_58 (by simp only [Option.toList, List.cons_append, List.nil_append, exN, ex1, gI, gL, gR, pI, pL, pR, lget, lset1, lset2, kl, b2I, b2L, nob, ob32, ob64, xGet, xPut, xLen, xLd, xLdR, xSt, obA, true_and, and_true, and_self, eq_self, Nat.reduceEqDiff, Nat.zero_ne_one, reduceIte, Nat.reduceLeDiff, and_false, false_and, show skd 11 14 = 2 from rfl, show LF.1 145 = some (.inl 11) from rfl, show LF.2 145 14 = some 159 from rfl, show LF.1 159 = some (.inr (0, 12)) from rfl, e9, Int.toNat_natCast, upd2_eq, Int.reduceToNat, Int.toNat_natCast]; rfl) (by first | exact trivial | exact Or.inr rfl | exact Or.inl rfl | (simp only [ob, obA, R32, R64] at *; omega) | (simp only [ob, obA, R32, R64] at *; and_intros <;> omega) | (simp [ob, obA])) ?_
      refine V_icmpge dX12_ruleOf_66 (tgt := 186) (by decide) (by simp only [R32, R64] at *; omega) (fun q66 => ?_) (fun q66 => ?_)
      · refine V_ex sX12_ruleOf_186 (by simp only [Option.toList, List.cons_append, List.nil_append, exN, ex1, gI, gL, gR, pI, pL, pR, lget, lset1, lset2, kl, b2I, b2L, nob, ob32, ob64, xGet, xPut, xLen, xLd, xLdR, xSt, obA, true_and, and_true, and_self, eq_self, Nat.reduceEqDiff, Nat.zero_ne_one, reduceIte, Nat.reduceLeDiff, and_false, false_and, show skd 11 30 = 2 from rfl, show LF.1 145 = some (.inl 11) from rfl, show LF.2 145 30 = some 164 from rfl, show LF.1 164 = some (.inr (0, 64)) from rfl, hz0, upd2_eq, Int.reduceToNat, Int.toNat_natCast]; rfl) (by first | exact trivial | exact Or.inr rfl | exact Or.inl rfl | (simp only [ob, obA, R32, R64] at *; omega) | (simp only [ob, obA, R32, R64] at *; and_intros <;> omega) | (simp [ob, obA])) ?_
        refine V_callS (M := MX12_ruleOf) (N := MX12_isIn) dX12_ruleOf_197 lRX12_178 kX12_isIn rfl (c_misIn (d := 0) hκ (by simp only [R32, R64] at *; omega) (by unfold R64; omega) (by unfold R64; omega)) rfl rfl (Nat.le_of_ble_eq_true rfl) (fit_rm (by omega)) (⟨Nat.le_of_ble_eq_true rfl, Nat.le_of_ble_eq_true rfl⟩) (fun v Ω' hp => ?_) (fun _ _ h => h.elim)
        obtain ⟨rfl, rfl⟩ := hp
        refine V_ifeqB dX12_ruleOf_200 (tgt := 212) (by decide) (fun q200 => ?_) (fun q200 => ?_)
        · refine V_ex sX12_ruleOf_212 (by rfl) (by first | exact trivial | exact Or.inr rfl | exact Or.inl rfl | (simp only [ob, obA, R32, R64] at *; omega) | (simp only [ob, obA, R32, R64] at *; and_intros <;> omega) | (simp [ob, obA])) ?_
          refine V_iret dX12_ruleOf_213 rfl (by decide) ⟨by rw [hcl, if_neg (of_decide_eq_false q200)], G1, rfl, f1⟩
        · refine V_ex sX12_ruleOf_203 (by simp only [Option.toList, List.cons_append, List.nil_append, exN, ex1, gI, gL, gR, pI, pL, pR, lget, lset1, lset2, kl, b2I, b2L, nob, ob32, ob64, xGet, xPut, xLen, xLd, xLdR, xSt, obA, true_and, and_true, and_self, eq_self, Nat.reduceEqDiff, Nat.zero_ne_one, reduceIte, Nat.reduceLeDiff, and_false, false_and, show skd 11 30 = 2 from rfl, show LF.1 145 = some (.inl 11) from rfl, show LF.2 145 30 = some 164 from rfl, show LF.1 164 = some (.inr (0, 64)) from rfl, hz0, upd2_eq, Int.reduceToNat, Int.toNat_natCast]; rfl) (by first | exact trivial | exact Or.inr rfl | exact Or.inl rfl | (simp only [ob, obA, R32, R64] at *; omega) | (simp only [ob, obA, R32, R64] at *; and_intros <;> omega) | (simp [ob, obA])) ?_
          refine V_goto dX12_ruleOf_209 (tgt := 213) (by decide) ?_
          refine V_iret dX12_ruleOf_213 rfl (by decide) ⟨by rw [hcl, if_pos (of_decide_eq_true q200)], G1, rfl, f1⟩
      · omega
    | succ k ih =>
      intro c kk dd st G1 x hkk hck hdd h64 f1 ha hs hR hdp he
      subst hkk hdd
      have hcn : c < (cdS S).length := by omega
      have e9 : G1.1 159 j = b.2.2.2.2.1 := by rw [f1.i (by decide) (by decide)]; exact m4'
      obtain ⟨op, hop⟩ : ∃ op, op = (cdS S).getD c 0 := ⟨_, rfl⟩
      have hop2 : op = (cdS S)[c]'hcn := by rw [hop, List.getD_eq_getElem?_getD, List.getElem?_eq_getElem hcn]; rfl
      have hoR := hcR _ (List.getElem_mem hcn)
      rw [← hop2] at hoR
      have es : G1.1 160 c = sm op := by rw [f1.i (by decide) (by decide), hop2]; exact hsg c hcn
      simp only [opsL, depL, runL] at hdp he
      rw [← hop] at hdp he
      have psh : ∀ (st2 : List Int) (z : Int) (x : Option Vl), st2.length < 64 → stk (G1.1 164) st2 → (∀ w ∈ st2, R32 w) → R32 z → depL (opsL (fun i => (cdS S).getD i 0) k (c + 1)) (st2.length + 1) → runL b.2.2.1 (p : Int) (opsL (fun i => (cdS S).getD i 0) k (c + 1)) (z :: st2) = res → V κ MX12_ruleOf (rmD d 0 0) (fun u Ω' => u = some (VI (clT (res.headD 0))) ∧ ∃ G', Ω' = Wm G' ∧ FM [] [163, 164] [] G G') noX 0 0 μ 0 0 (Wm ((uI G1 164 st2.length z))) 58 [some (VR 145), some (VI (j : Nat)), some (VI (p : Nat)), some (VI (((z :: st2).length : Nat) : Int)), some (VI ((c : Int) + 1)), x] [] := fun st2 z x b1 b2 b3 b4 b5 b6 => by
        refine ih (c + 1) _ _ (z :: st2) _ x (by omega) (by omega) rfl (by simp; omega) (f1.a (by decide)) (fun o ho => by rw [iv (by omega)]; exact ha o ho) ⟨iu, stk_upd (fun y hy => iv (by omega)) b2⟩ (fun w hw => ?_) b5 b6
        rcases List.mem_cons.mp hw with h | h
        · rw [h]; exact b4
        · exact b3 w h
      by_cases o4 : -4 ≤ op
      · have esm : sm op = op := by unfold sm; rw [if_pos o4]
        rw [esm] at es
        rw [if_pos o4] at hdp
        rw [stepL.eq_def, if_pos o4] at he
        have hl64 := hdp.1
        have ln : ∀ z : Int, (((z :: st).length : Nat) : Int) = (st.length : Int) + 1 := fun z => by simp
        by_cases o0 : 0 ≤ op
        · rw [if_pos o0] at he
          have hq := psh st op (some (VI op)) hl64 hs hR (by unfold R32; omega) hdp.2 he
          rw [ln] at hq
          refine V_ex sX12_ruleOf_58 (by simp only [Option.toList, List.cons_append, List.nil_append, exN, ex1, gI, gL, gR, pI, pL, pR, lget, lset1, lset2, kl, b2I, b2L, nob, ob32, ob64, xGet, xPut, xLen, xLd, xLdR, xSt, obA, true_and, and_true, and_self, eq_self, Nat.reduceEqDiff, Nat.zero_ne_one, reduceIte, Nat.reduceLeDiff, and_false, false_and, show skd 11 14 = 2 from rfl, show LF.1 145 = some (.inl 11) from rfl, show LF.2 145 14 = some 159 from rfl, show LF.1 159 = some (.inr (0, 12)) from rfl, e9, Int.toNat_natCast, upd2_eq, Int.reduceToNat, Int.toNat_natCast]; rfl) (by first | exact trivial | exact Or.inr rfl | exact Or.inl rfl | (simp only [ob, obA, R32, R64] at *; omega) | (simp only [ob, obA, R32, R64] at *; and_intros <;> omega) | (simp [ob, obA])) ?_
          refine V_icmpge dX12_ruleOf_66 (tgt := 186) (by decide) (by simp only [R32, R64] at *; omega) (fun q66 => ?_) (fun q66 => ?_)
          · omega
          · refine V_ex sX12_ruleOf_69 (by simp only [Option.toList, List.cons_append, List.nil_append, exN, ex1, gI, gL, gR, pI, pL, pR, lget, lset1, lset2, kl, b2I, b2L, nob, ob32, ob64, xGet, xPut, xLen, xLd, xLdR, xSt, obA, true_and, and_true, and_self, eq_self, Nat.reduceEqDiff, Nat.zero_ne_one, reduceIte, Nat.reduceLeDiff, and_false, false_and, show skd 11 15 = 2 from rfl, show LF.1 145 = some (.inl 11) from rfl, show LF.2 145 15 = some 160 from rfl, show LF.1 160 = some (.inr (0, 1000)) from rfl, es, Int.toNat_natCast, upd2_eq, Int.reduceToNat, Int.toNat_natCast]; rfl) (by first | exact trivial | exact Or.inr rfl | exact Or.inl rfl | (simp only [ob, obA, R32, R64] at *; omega) | (simp only [ob, obA, R32, R64] at *; and_intros <;> omega) | (simp [ob, obA])) ?_
            refine V_icmple dX12_ruleOf_82 (tgt := 116) (by decide) (by simp only [R32, R64] at *; omega) (fun q82 => ?_) (fun q82 => ?_)
            · omega
            · refine V_ex sX12_ruleOf_85 (by simp only [Option.toList, List.cons_append, List.nil_append, exN, ex1, gI, gL, gR, pI, pL, pR, lget, lset1, lset2, kl, b2I, b2L, nob, ob32, ob64, xGet, xPut, xLen, xLd, xLdR, xSt, obA, true_and, and_true, and_self, eq_self, Nat.reduceEqDiff, Nat.zero_ne_one, reduceIte, Nat.reduceLeDiff, and_false, false_and, show skd 11 30 = 2 from rfl, show LF.1 145 = some (.inl 11) from rfl, show LF.2 145 30 = some 164 from rfl, upd2_eq, Int.reduceToNat, Int.toNat_natCast]; rfl) (by first | exact trivial | exact Or.inr rfl | exact Or.inl rfl | (simp only [ob, obA, R32, R64] at *; omega) | (simp only [ob, obA, R32, R64] at *; and_intros <;> omega) | (simp [ob, obA])) ?_
              refine V_iflt dX12_ruleOf_92 (tgt := 100) (by decide) (by simp only [R32, R64] at *; omega) (fun q92 => ?_) (fun q92 => ?_)
              · omega
              · refine V_ex sX12_ruleOf_95 (by rfl) (by first | exact trivial | exact Or.inr rfl | exact Or.inl rfl | (simp only [ob, obA, R32, R64] at *; omega) | (simp only [ob, obA, R32, R64] at *; and_intros <;> omega) | (simp [ob, obA])) ?_
                refine V_goto dX12_ruleOf_97 (tgt := 109) (by decide) ?_
                refine V_ex sX12_ruleOf_109 (by simp only [Option.toList, List.cons_append, List.nil_append, exN, ex1, gI, gL, gR, pI, pL, pR, lget, lset1, lset2, kl, b2I, b2L, nob, ob32, ob64, xGet, xPut, xLen, xLd, xLdR, xSt, obA, true_and, and_true, and_self, eq_self, Nat.reduceEqDiff, Nat.zero_ne_one, reduceIte, Nat.reduceLeDiff, and_false, false_and, show LF.1 164 = some (.inr (0, 64)) from rfl, Int.toNat_natCast, upd2_eq, Int.reduceToNat, Int.toNat_natCast]; rfl) (by first | exact trivial | exact Or.inr rfl | exact Or.inl rfl | (simp only [ob, obA, R32, R64] at *; omega) | (simp only [ob, obA, R32, R64] at *; and_intros <;> omega) | (simp [ob, obA])) ?_
                refine V_goto dX12_ruleOf_113 (tgt := 180) (by decide) ?_
                refine V_ex sX12_ruleOf_180 (by rfl) (by first | exact trivial | exact Or.inr rfl | exact Or.inl rfl | (simp only [ob, obA, R32, R64] at *; omega) | (simp only [ob, obA, R32, R64] at *; and_intros <;> omega) | (simp [ob, obA])) ?_
                refine V_goto dX12_ruleOf_183 (tgt := 58) (by decide) ?_
                exact hq
        · rw [if_neg o0] at he
          have hva := ha op (by omega)
          have hq := psh st (valOf op b.2.2.1 (p : Int)) (some (VI op)) hl64 hs hR (valOf_R (by unfold R32; omega) (by omega) (by unfold R32; omega)) hdp.2 he
          rw [ln] at hq
          refine V_ex sX12_ruleOf_58 (by simp only [Option.toList, List.cons_append, List.nil_append, exN, ex1, gI, gL, gR, pI, pL, pR, lget, lset1, lset2, kl, b2I, b2L, nob, ob32, ob64, xGet, xPut, xLen, xLd, xLdR, xSt, obA, true_and, and_true, and_self, eq_self, Nat.reduceEqDiff, Nat.zero_ne_one, reduceIte, Nat.reduceLeDiff, and_false, false_and, show skd 11 14 = 2 from rfl, show LF.1 145 = some (.inl 11) from rfl, show LF.2 145 14 = some 159 from rfl, show LF.1 159 = some (.inr (0, 12)) from rfl, e9, Int.toNat_natCast, upd2_eq, Int.reduceToNat, Int.toNat_natCast]; rfl) (by first | exact trivial | exact Or.inr rfl | exact Or.inl rfl | (simp only [ob, obA, R32, R64] at *; omega) | (simp only [ob, obA, R32, R64] at *; and_intros <;> omega) | (simp [ob, obA])) ?_
          refine V_icmpge dX12_ruleOf_66 (tgt := 186) (by decide) (by simp only [R32, R64] at *; omega) (fun q66 => ?_) (fun q66 => ?_)
          · omega
          · refine V_ex sX12_ruleOf_69 (by simp only [Option.toList, List.cons_append, List.nil_append, exN, ex1, gI, gL, gR, pI, pL, pR, lget, lset1, lset2, kl, b2I, b2L, nob, ob32, ob64, xGet, xPut, xLen, xLd, xLdR, xSt, obA, true_and, and_true, and_self, eq_self, Nat.reduceEqDiff, Nat.zero_ne_one, reduceIte, Nat.reduceLeDiff, and_false, false_and, show skd 11 15 = 2 from rfl, show LF.1 145 = some (.inl 11) from rfl, show LF.2 145 15 = some 160 from rfl, show LF.1 160 = some (.inr (0, 1000)) from rfl, es, Int.toNat_natCast, upd2_eq, Int.reduceToNat, Int.toNat_natCast]; rfl) (by first | exact trivial | exact Or.inr rfl | exact Or.inl rfl | (simp only [ob, obA, R32, R64] at *; omega) | (simp only [ob, obA, R32, R64] at *; and_intros <;> omega) | (simp [ob, obA])) ?_
            refine V_icmple dX12_ruleOf_82 (tgt := 116) (by decide) (by simp only [R32, R64] at *; omega) (fun q82 => ?_) (fun q82 => ?_)
            · omega
            · refine V_ex sX12_ruleOf_85 (by simp only [Option.toList, List.cons_append, List.nil_append, exN, ex1, gI, gL, gR, pI, pL, pR, lget, lset1, lset2, kl, b2I, b2L, nob, ob32, ob64, xGet, xPut, xLen, xLd, xLdR, xSt, obA, true_and, and_true, and_self, eq_self, Nat.reduceEqDiff, Nat.zero_ne_one, reduceIte, Nat.reduceLeDiff, and_false, false_and, show skd 11 30 = 2 from rfl, show LF.1 145 = some (.inl 11) from rfl, show LF.2 145 30 = some 164 from rfl, upd2_eq, Int.reduceToNat, Int.toNat_natCast]; rfl) (by first | exact trivial | exact Or.inr rfl | exact Or.inl rfl | (simp only [ob, obA, R32, R64] at *; omega) | (simp only [ob, obA, R32, R64] at *; and_intros <;> omega) | (simp [ob, obA])) ?_
              refine V_iflt dX12_ruleOf_92 (tgt := 100) (by decide) (by simp only [R32, R64] at *; omega) (fun q92 => ?_) (fun q92 => ?_)
              · refine V_ex sX12_ruleOf_100 (by simp only [Option.toList, List.cons_append, List.nil_append, exN, ex1, gI, gL, gR, pI, pL, pR, lget, lset1, lset2, kl, b2I, b2L, nob, ob32, ob64, xGet, xPut, xLen, xLd, xLdR, xSt, obA, true_and, and_true, and_self, eq_self, Nat.reduceEqDiff, Nat.zero_ne_one, reduceIte, Nat.reduceLeDiff, and_false, false_and, show skd 11 29 = 2 from rfl, show LF.1 145 = some (.inl 11) from rfl, show LF.2 145 29 = some 163 from rfl, show LF.1 163 = some (.inr (0, 4)) from rfl, hva, upd2_eq, Int.reduceToNat, Int.toNat_natCast]; rfl) (by first | exact trivial | exact Or.inr rfl | exact Or.inl rfl | (simp only [ob, obA, R32, R64] at *; omega) | (simp only [ob, obA, R32, R64] at *; and_intros <;> omega) | (simp [ob, obA])) ?_
                refine V_ex sX12_ruleOf_109 (by simp only [Option.toList, List.cons_append, List.nil_append, exN, ex1, gI, gL, gR, pI, pL, pR, lget, lset1, lset2, kl, b2I, b2L, nob, ob32, ob64, xGet, xPut, xLen, xLd, xLdR, xSt, obA, true_and, and_true, and_self, eq_self, Nat.reduceEqDiff, Nat.zero_ne_one, reduceIte, Nat.reduceLeDiff, and_false, false_and, show LF.1 164 = some (.inr (0, 64)) from rfl, Int.toNat_natCast, upd2_eq, Int.reduceToNat, Int.toNat_natCast]; rfl) (by first | exact trivial | exact Or.inr rfl | exact Or.inl rfl | (simp only [ob, obA, R32, R64] at *; omega) | (simp only [ob, obA, R32, R64] at *; and_intros <;> omega) | (simp [ob, obA])) ?_
                refine V_goto dX12_ruleOf_113 (tgt := 180) (by decide) ?_
                refine V_ex sX12_ruleOf_180 (by rfl) (by first | exact trivial | exact Or.inr rfl | exact Or.inl rfl | (simp only [ob, obA, R32, R64] at *; omega) | (simp only [ob, obA, R32, R64] at *; and_intros <;> omega) | (simp [ob, obA])) ?_
                refine V_goto dX12_ruleOf_183 (tgt := 58) (by decide) ?_
                exact hq
              · omega
      · rw [if_neg o4] at hdp
        by_cases o5 : op = -5
        · rw [if_pos o5] at hdp
          have esm : sm op = -28 := by rw [o5]; rfl
          rw [esm] at es
          obtain ⟨z, r, rfl⟩ : ∃ z r, st = z :: r := by
            match st, hdp.1 with
            | z :: r, _ => exact ⟨z, r, rfl⟩
          rw [stepL.eq_def, if_neg o4, if_pos o5] at he
          have hz := hR z (by simp)
          have hz0 : G1.1 164 r.length = z := hs.1
          have el : (((z :: r).length : Nat) : Int) - 1 = (r.length : Int) := by simp
          have hl : r.length < 64 := by simp at h64; omega
          have hq : ∀ w : Int, w = (if z = 0 then 1 else 0) → V κ MX12_ruleOf (rmD d 0 0) (fun u Ω' => u = some (VI (clT (res.headD 0))) ∧ ∃ G', Ω' = Wm G' ∧ FM [] [163, 164] [] G G') noX 0 0 μ 0 0 (Wm ((uI G1 164 r.length w))) 58 [some (VR 145), some (VI (j : Nat)), some (VI (p : Nat)), some (VI (((z :: r).length : Nat) : Int)), some (VI ((c : Int) + 1)), some (VI (-28))] [] := fun w hw => by
            refine psh r w _ hl hs.2 (fun y hy => hR y (by simp [hy])) (by rw [hw]; split <;> exact ⟨by decide, by decide⟩) hdp.2 (by rw [hw]; exact he)
          refine V_ex sX12_ruleOf_58 (by simp only [Option.toList, List.cons_append, List.nil_append, exN, ex1, gI, gL, gR, pI, pL, pR, lget, lset1, lset2, kl, b2I, b2L, nob, ob32, ob64, xGet, xPut, xLen, xLd, xLdR, xSt, obA, true_and, and_true, and_self, eq_self, Nat.reduceEqDiff, Nat.zero_ne_one, reduceIte, Nat.reduceLeDiff, and_false, false_and, show skd 11 14 = 2 from rfl, show LF.1 145 = some (.inl 11) from rfl, show LF.2 145 14 = some 159 from rfl, show LF.1 159 = some (.inr (0, 12)) from rfl, e9, Int.toNat_natCast, upd2_eq, Int.reduceToNat, Int.toNat_natCast]; rfl) (by first | exact trivial | exact Or.inr rfl | exact Or.inl rfl | (simp only [ob, obA, R32, R64] at *; omega) | (simp only [ob, obA, R32, R64] at *; and_intros <;> omega) | (simp [ob, obA])) ?_
          refine V_icmpge dX12_ruleOf_66 (tgt := 186) (by decide) (by simp only [R32, R64] at *; omega) (fun q66 => ?_) (fun q66 => ?_)
          · omega
          · refine V_ex sX12_ruleOf_69 (by simp only [Option.toList, List.cons_append, List.nil_append, exN, ex1, gI, gL, gR, pI, pL, pR, lget, lset1, lset2, kl, b2I, b2L, nob, ob32, ob64, xGet, xPut, xLen, xLd, xLdR, xSt, obA, true_and, and_true, and_self, eq_self, Nat.reduceEqDiff, Nat.zero_ne_one, reduceIte, Nat.reduceLeDiff, and_false, false_and, show skd 11 15 = 2 from rfl, show LF.1 145 = some (.inl 11) from rfl, show LF.2 145 15 = some 160 from rfl, show LF.1 160 = some (.inr (0, 1000)) from rfl, es, Int.toNat_natCast, upd2_eq, Int.reduceToNat, Int.toNat_natCast]; rfl) (by first | exact trivial | exact Or.inr rfl | exact Or.inl rfl | (simp only [ob, obA, R32, R64] at *; omega) | (simp only [ob, obA, R32, R64] at *; and_intros <;> omega) | (simp [ob, obA])) ?_
            refine V_icmple dX12_ruleOf_82 (tgt := 116) (by decide) (by simp only [R32, R64] at *; omega) (fun q82 => ?_) (fun q82 => ?_)
            · refine V_ex sX12_ruleOf_116 (by rfl) (by first | exact trivial | exact Or.inr rfl | exact Or.inl rfl | (simp only [ob, obA, R32, R64] at *; omega) | (simp only [ob, obA, R32, R64] at *; and_intros <;> omega) | (simp [ob, obA])) ?_
              refine V_icmpne dX12_ruleOf_120 (tgt := 150) (by decide) (by simp only [R32, R64] at *; omega) (fun q120 => ?_) (fun q120 => ?_)
              · omega
              · refine V_ex sX12_ruleOf_123 (by simp only [Option.toList, List.cons_append, List.nil_append, exN, ex1, gI, gL, gR, pI, pL, pR, lget, lset1, lset2, kl, b2I, b2L, nob, ob32, ob64, xGet, xPut, xLen, xLd, xLdR, xSt, obA, true_and, and_true, and_self, eq_self, Nat.reduceEqDiff, Nat.zero_ne_one, reduceIte, Nat.reduceLeDiff, and_false, false_and, show skd 11 30 = 2 from rfl, show LF.1 145 = some (.inl 11) from rfl, show LF.2 145 30 = some 164 from rfl, show LF.1 164 = some (.inr (0, 64)) from rfl, el, Int.toNat_natCast, hz0, upd2_eq, Int.reduceToNat, Int.toNat_natCast]; rfl) (by first | exact trivial | exact Or.inr rfl | exact Or.inl rfl | (simp only [ob, obA, R32, R64] at *; omega) | (simp only [ob, obA, R32, R64] at *; and_intros <;> omega) | (simp [ob, obA])) ?_
                refine V_ifeq dX12_ruleOf_138 (tgt := 145) (by decide) (by exact hz) (fun q138 => ?_) (fun q138 => ?_)
                · refine V_ex sX12_ruleOf_145 (by rfl) (by first | exact trivial | exact Or.inr rfl | exact Or.inl rfl | (simp only [ob, obA, R32, R64] at *; omega) | (simp only [ob, obA, R32, R64] at *; and_intros <;> omega) | (simp [ob, obA])) ?_
                  refine V_ex sX12_ruleOf_146 (by simp only [Option.toList, List.cons_append, List.nil_append, exN, ex1, gI, gL, gR, pI, pL, pR, lget, lset1, lset2, kl, b2I, b2L, nob, ob32, ob64, xGet, xPut, xLen, xLd, xLdR, xSt, obA, true_and, and_true, and_self, eq_self, Nat.reduceEqDiff, Nat.zero_ne_one, reduceIte, Nat.reduceLeDiff, and_false, false_and, show LF.1 164 = some (.inr (0, 64)) from rfl, Int.toNat_natCast, upd2_eq, Int.reduceToNat, Int.toNat_natCast]; rfl) (by first | exact trivial | exact Or.inr rfl | exact Or.inl rfl | (simp only [ob, obA, R32, R64] at *; omega) | (simp only [ob, obA, R32, R64] at *; and_intros <;> omega) | (simp [ob, obA])) ?_
                  refine V_goto dX12_ruleOf_147 (tgt := 180) (by decide) ?_
                  refine V_ex sX12_ruleOf_180 (by rfl) (by first | exact trivial | exact Or.inr rfl | exact Or.inl rfl | (simp only [ob, obA, R32, R64] at *; omega) | (simp only [ob, obA, R32, R64] at *; and_intros <;> omega) | (simp [ob, obA])) ?_
                  refine V_goto dX12_ruleOf_183 (tgt := 58) (by decide) ?_
                  exact hq _ (by first | rw [if_pos q138] | rw [if_neg q138])
                · refine V_ex sX12_ruleOf_141 (by rfl) (by first | exact trivial | exact Or.inr rfl | exact Or.inl rfl | (simp only [ob, obA, R32, R64] at *; omega) | (simp only [ob, obA, R32, R64] at *; and_intros <;> omega) | (simp [ob, obA])) ?_
                  refine V_goto dX12_ruleOf_142 (tgt := 146) (by decide) ?_
                  refine V_ex sX12_ruleOf_146 (by simp only [Option.toList, List.cons_append, List.nil_append, exN, ex1, gI, gL, gR, pI, pL, pR, lget, lset1, lset2, kl, b2I, b2L, nob, ob32, ob64, xGet, xPut, xLen, xLd, xLdR, xSt, obA, true_and, and_true, and_self, eq_self, Nat.reduceEqDiff, Nat.zero_ne_one, reduceIte, Nat.reduceLeDiff, and_false, false_and, show LF.1 164 = some (.inr (0, 64)) from rfl, Int.toNat_natCast, upd2_eq, Int.reduceToNat, Int.toNat_natCast]; rfl) (by first | exact trivial | exact Or.inr rfl | exact Or.inl rfl | (simp only [ob, obA, R32, R64] at *; omega) | (simp only [ob, obA, R32, R64] at *; and_intros <;> omega) | (simp [ob, obA])) ?_
                  refine V_goto dX12_ruleOf_147 (tgt := 180) (by decide) ?_
                  refine V_ex sX12_ruleOf_180 (by rfl) (by first | exact trivial | exact Or.inr rfl | exact Or.inl rfl | (simp only [ob, obA, R32, R64] at *; omega) | (simp only [ob, obA, R32, R64] at *; and_intros <;> omega) | (simp [ob, obA])) ?_
                  refine V_goto dX12_ruleOf_183 (tgt := 58) (by decide) ?_
                  exact hq _ (by first | rw [if_pos q138] | rw [if_neg q138])
            · omega
        · rw [if_neg o5] at hdp
          have hsb := sm_bin (op := op) (by omega)
          obtain ⟨z2, z1, r, rfl⟩ : ∃ z2 z1 r, st = z2 :: z1 :: r := by
            match st, hdp.1 with
            | z2 :: z1 :: r, _ => exact ⟨z2, z1, r, rfl⟩
          rw [stepL.eq_def, if_neg o4, if_neg o5] at he
          have hy2 : G1.1 164 (r.length + 1) = z2 := hs.1
          have hy1 : G1.1 164 r.length = z1 := hs.2.1
          have el : (((z2 :: z1 :: r).length : Nat) : Int) + -1 = ((r.length + 1 : Nat) : Int) := by simp; omega
          have el2 : ((r.length + 1 : Nat) : Int) - 1 = (r.length : Int) := by omega
          have hl : r.length + 2 ≤ 64 := by simpa using h64
          have hRc := c_mReckon (κ := κ) hκ (d := d - 1) (op := op) (x := z1) (y := z2) (G := G1) (by omega) (hR z1 (by simp)) (hR z2 (by simp))
          have hq := psh r (comb op z1 z2) (some (VI (sm op))) (by omega) hs.2.2 (fun y hy => hR y (by simp [hy])) (comb_R _ _ _) (by simpa using hdp.2) he
          have ln : (((comb op z1 z2 :: r).length : Nat) : Int) = ((r.length + 1 : Nat) : Int) := by simp
          rw [ln] at hq
          refine V_ex sX12_ruleOf_58 (by simp only [Option.toList, List.cons_append, List.nil_append, exN, ex1, gI, gL, gR, pI, pL, pR, lget, lset1, lset2, kl, b2I, b2L, nob, ob32, ob64, xGet, xPut, xLen, xLd, xLdR, xSt, obA, true_and, and_true, and_self, eq_self, Nat.reduceEqDiff, Nat.zero_ne_one, reduceIte, Nat.reduceLeDiff, and_false, false_and, show skd 11 14 = 2 from rfl, show LF.1 145 = some (.inl 11) from rfl, show LF.2 145 14 = some 159 from rfl, show LF.1 159 = some (.inr (0, 12)) from rfl, e9, Int.toNat_natCast, upd2_eq, Int.reduceToNat, Int.toNat_natCast]; rfl) (by first | exact trivial | exact Or.inr rfl | exact Or.inl rfl | (simp only [ob, obA, R32, R64] at *; omega) | (simp only [ob, obA, R32, R64] at *; and_intros <;> omega) | (simp [ob, obA])) ?_
          refine V_icmpge dX12_ruleOf_66 (tgt := 186) (by decide) (by simp only [R32, R64] at *; omega) (fun q66 => ?_) (fun q66 => ?_)
          · omega
          · refine V_ex sX12_ruleOf_69 (by simp only [Option.toList, List.cons_append, List.nil_append, exN, ex1, gI, gL, gR, pI, pL, pR, lget, lset1, lset2, kl, b2I, b2L, nob, ob32, ob64, xGet, xPut, xLen, xLd, xLdR, xSt, obA, true_and, and_true, and_self, eq_self, Nat.reduceEqDiff, Nat.zero_ne_one, reduceIte, Nat.reduceLeDiff, and_false, false_and, show skd 11 15 = 2 from rfl, show LF.1 145 = some (.inl 11) from rfl, show LF.2 145 15 = some 160 from rfl, show LF.1 160 = some (.inr (0, 1000)) from rfl, es, Int.toNat_natCast, upd2_eq, Int.reduceToNat, Int.toNat_natCast]; rfl) (by first | exact trivial | exact Or.inr rfl | exact Or.inl rfl | (simp only [ob, obA, R32, R64] at *; omega) | (simp only [ob, obA, R32, R64] at *; and_intros <;> omega) | (simp [ob, obA])) ?_
            refine V_icmple dX12_ruleOf_82 (tgt := 116) (by decide) (by simp only [R32, R64] at *; omega) (fun q82 => ?_) (fun q82 => ?_)
            · refine V_ex sX12_ruleOf_116 (by rfl) (by first | exact trivial | exact Or.inr rfl | exact Or.inl rfl | (simp only [ob, obA, R32, R64] at *; omega) | (simp only [ob, obA, R32, R64] at *; and_intros <;> omega) | (simp [ob, obA])) ?_
              refine V_icmpne dX12_ruleOf_120 (tgt := 150) (by decide) (by simp only [R32, R64] at *; omega) (fun q120 => ?_) (fun q120 => ?_)
              · refine V_ex sX12_ruleOf_150 (by simp only [Option.toList, List.cons_append, List.nil_append, exN, ex1, gI, gL, gR, pI, pL, pR, lget, lset1, lset2, kl, b2I, b2L, nob, ob32, ob64, xGet, xPut, xLen, xLd, xLdR, xSt, obA, true_and, and_true, and_self, eq_self, Nat.reduceEqDiff, Nat.zero_ne_one, reduceIte, Nat.reduceLeDiff, and_false, false_and, show skd 11 30 = 2 from rfl, show LF.1 145 = some (.inl 11) from rfl, show LF.2 145 30 = some 164 from rfl, show LF.1 164 = some (.inr (0, 64)) from rfl, el, el2, Int.toNat_natCast, hy1, hy2, upd2_eq, Int.reduceToNat, Int.toNat_natCast]; rfl) (by first | exact trivial | exact Or.inr rfl | exact Or.inl rfl | (simp only [ob, obA, R32, R64] at *; omega) | (simp only [ob, obA, R32, R64] at *; and_intros <;> omega) | (simp [ob, obA])) ?_
                refine V_callS (M := MX12_ruleOf) (N := MX12_reckon) dX12_ruleOf_176 lRX12_360 kX12_reckon rfl (hRc) rfl rfl (Nat.le_of_ble_eq_true rfl) (fit_rm (by omega)) (⟨Nat.le_of_ble_eq_true rfl, Nat.le_of_ble_eq_true rfl⟩) (fun v Ω' hp => ?_) (fun _ _ h => h.elim)
                obtain ⟨rfl, rfl⟩ := hp
                refine V_ex sX12_ruleOf_179 (by simp only [Option.toList, List.cons_append, List.nil_append, exN, ex1, gI, gL, gR, pI, pL, pR, lget, lset1, lset2, kl, b2I, b2L, nob, ob32, ob64, xGet, xPut, xLen, xLd, xLdR, xSt, obA, true_and, and_true, and_self, eq_self, Nat.reduceEqDiff, Nat.zero_ne_one, reduceIte, Nat.reduceLeDiff, and_false, false_and, show LF.1 164 = some (.inr (0, 64)) from rfl, Int.toNat_natCast, upd2_eq, Int.reduceToNat, Int.toNat_natCast]; rfl) (by first | exact trivial | exact Or.inr rfl | exact Or.inl rfl | (simp only [ob, obA, R32, R64] at *; omega) | (simp only [ob, obA, R32, R64] at *; and_intros <;> omega) | (simp [ob, obA])) ?_
                refine V_ex sX12_ruleOf_180 (by rfl) (by first | exact trivial | exact Or.inr rfl | exact Or.inl rfl | (simp only [ob, obA, R32, R64] at *; omega) | (simp only [ob, obA, R32, R64] at *; and_intros <;> omega) | (simp [ob, obA])) ?_
                refine V_goto dX12_ruleOf_183 (tgt := 58) (by decide) ?_
                exact hq
              · omega
            · omega
  have go : ∀ (v : Int) (x : Option Vl), v = (if (p : Int) % 2 = 0 then 1 else 0) → V κ MX12_ruleOf (rmD d 0 0) (fun u Ω' => u = some (VI (clT (res.headD 0))) ∧ ∃ G', Ω' = Wm G' ∧ FM [] [163, 164] [] G G') noX 0 0 μ 0 0 (Wm ((askW G (p : Int) v b.2.2.1))) 58 [some (VR 145), some (VI (j : Nat)), some (VI (p : Nat)), some (VI 0), some (VI b.2.2.2.1), x] [] := fun v x hv => L (b.2.2.2.2.1 - b.2.2.2.1).toNat b.2.2.2.1.toNat b.2.2.2.1 0 [] _ _ (by omega) (by omega) rfl (by simp) (askW_fm _ _ _ _) (fun o ho => askW_at hv ho) trivial (by simp) hdep hres
  refine V_ex sX12_ruleOf_0 (by simp only [Option.toList, List.cons_append, List.nil_append, exN, ex1, gI, gL, gR, pI, pL, pR, lget, lset1, lset2, kl, b2I, b2L, nob, ob32, ob64, xGet, xPut, xLen, xLd, xLdR, xSt, obA, true_and, and_true, and_self, eq_self, Nat.reduceEqDiff, Nat.zero_ne_one, reduceIte, Nat.reduceLeDiff, and_false, false_and, show skd 11 29 = 2 from rfl, show LF.1 145 = some (.inl 11) from rfl, show LF.2 145 29 = some 163 from rfl, show LF.1 163 = some (.inr (0, 4)) from rfl, Int.toNat_natCast, m3, m4, asn (show 151 ≠ 163 by decide), asn (show 158 ≠ 163 by decide), upd2_eq, Int.reduceToNat, Int.toNat_natCast]; rfl) (by first | exact trivial | exact Or.inr rfl | exact Or.inl rfl | (simp only [ob, obA, R32, R64] at *; omega) | (simp only [ob, obA, R32, R64] at *; and_intros <;> omega) | (simp [ob, obA])) ?_
  rw [td_nn (by omega), tm_nn (by omega)]
  refine V_icmpne dX12_ruleOf_27 (tgt := 34) (by decide) (by simp only [R32, R64] at *; omega) (fun q27 => ?_) (fun q27 => ?_)
  · refine V_ex sX12_ruleOf_34 (by rfl) (by first | exact trivial | exact Or.inr rfl | exact Or.inl rfl | (simp only [ob, obA, R32, R64] at *; omega) | (simp only [ob, obA, R32, R64] at *; and_intros <;> omega) | (simp [ob, obA])) ?_
    refine V_ex sX12_ruleOf_35 (by simp only [Option.toList, List.cons_append, List.nil_append, exN, ex1, gI, gL, gR, pI, pL, pR, lget, lset1, lset2, kl, b2I, b2L, nob, ob32, ob64, xGet, xPut, xLen, xLd, xLdR, xSt, obA, true_and, and_true, and_self, eq_self, Nat.reduceEqDiff, Nat.zero_ne_one, reduceIte, Nat.reduceLeDiff, and_false, false_and, show skd 11 29 = 2 from rfl, show skd 11 6 = 2 from rfl, show skd 11 13 = 2 from rfl, show LF.1 163 = some (.inr (0, 4)) from rfl, show LF.1 145 = some (.inl 11) from rfl, show LF.2 145 29 = some 163 from rfl, show LF.2 145 6 = some 151 from rfl, show LF.1 151 = some (.inr (0, 12)) from rfl, show LF.2 145 13 = some 158 from rfl, show LF.1 158 = some (.inr (0, 12)) from rfl, Int.toNat_natCast, m3, m4, asn (show 151 ≠ 163 by decide), asn (show 158 ≠ 163 by decide), upd2_eq, Int.reduceToNat, Int.toNat_natCast]; rfl) (by first | exact trivial | exact Or.inr rfl | exact Or.inl rfl | (simp only [ob, obA, R32, R64] at *; omega) | (simp only [ob, obA, R32, R64] at *; and_intros <;> omega) | (simp [ob, obA])) ?_
    exact go 1 _ (by rw [if_pos (by omega)])
  · refine V_ex sX12_ruleOf_30 (by rfl) (by first | exact trivial | exact Or.inr rfl | exact Or.inl rfl | (simp only [ob, obA, R32, R64] at *; omega) | (simp only [ob, obA, R32, R64] at *; and_intros <;> omega) | (simp [ob, obA])) ?_
    refine V_goto dX12_ruleOf_31 (tgt := 35) (by decide) ?_
    refine V_ex sX12_ruleOf_35 (by simp only [Option.toList, List.cons_append, List.nil_append, exN, ex1, gI, gL, gR, pI, pL, pR, lget, lset1, lset2, kl, b2I, b2L, nob, ob32, ob64, xGet, xPut, xLen, xLd, xLdR, xSt, obA, true_and, and_true, and_self, eq_self, Nat.reduceEqDiff, Nat.zero_ne_one, reduceIte, Nat.reduceLeDiff, and_false, false_and, show skd 11 29 = 2 from rfl, show skd 11 6 = 2 from rfl, show skd 11 13 = 2 from rfl, show LF.1 163 = some (.inr (0, 4)) from rfl, show LF.1 145 = some (.inl 11) from rfl, show LF.2 145 29 = some 163 from rfl, show LF.2 145 6 = some 151 from rfl, show LF.1 151 = some (.inr (0, 12)) from rfl, show LF.2 145 13 = some 158 from rfl, show LF.1 158 = some (.inr (0, 12)) from rfl, Int.toNat_natCast, m3, m4, asn (show 151 ≠ 163 by decide), asn (show 158 ≠ 163 by decide), upd2_eq, Int.reduceToNat, Int.toNat_natCast]; rfl) (by first | exact trivial | exact Or.inr rfl | exact Or.inl rfl | (simp only [ob, obA, R32, R64] at *; omega) | (simp only [ob, obA, R32, R64] at *; and_intros <;> omega) | (simp [ob, obA])) ?_
    exact go 0 _ (by rw [if_neg (by omega)])
