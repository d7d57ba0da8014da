/-! THE MODEL: all shares tried -/
def shC (κ : Kx) (d r many ch : Nat) (w : Nat → Int) : Prop := ∀ (place : Nat) (h : Nat → Int) (pre : List Nat) (b : Option SB) (G : Wd), place + r = many → pre.length = place → G.1 145 56 = (many : Nat) → (∀ k, k < many → G.2.1 179 k = w k) → (∀ c, 0 ≤ h c ∧ h c ≤ 1000000 * (place : Int)) → shF place ch h pre b G → Ct κ MX12_shareOn d 0 0 [VR 145, VI (place : Nat), VI (ch : Nat)] (Wm G) (shPo place ch h pre ((allL w ch r place h pre).foldl keepO b) G) noX
set_option maxRecDepth 100000 in
set_option maxHeartbeats 4000000 in
theorem c_mShareS {κ : Kx} (hκ : KOK κ) {d d' r many ch place : Nat} {w : Nat → Int} {h : Nat → Int} {pre : List Nat} {b : Option SB} {G : Wd} (hrec : shC κ d' r many ch w) (hdd : d' + 1 ≤ d) (hm : many ≤ 10) (hch : 1 ≤ ch ∧ ch ≤ 4) (hw : ∀ j, 0 ≤ w j ∧ w j ≤ 1000000) (hs : place + (r + 1) = many) (hp : pre.length = place) (h56 : G.1 145 56 = (many : Nat)) (h179 : ∀ k, k < many → G.2.1 179 k = w k) (hh : ∀ c, 0 ≤ h c ∧ h c ≤ 1000000 * (place : Int)) (hS : shF place ch h pre b G) : Ct κ MX12_shareOn d 0 0 [VR 145, VI (place : Nat), VI (ch : Nat)] (Wm G) (shPo place ch h pre ((allL w ch (r + 1) place h pre).foldl keepO b) G) noX := by
  refine Ct_of hκ kX12_shareOn.1 rfl (Nat.le_of_ble_eq_true rfl) (ls := [some (VR 145), some (VI (place : Nat)), some (VI (ch : Nat)), none, none, none, none, none]) rfl (fun μ => ?_)
  have ep : (place : Int) + 1 = ((place + 1 : Nat) : Int) := by omega
  have hall : (allL w ch (r + 1) place h pre).foldl keepO b = (List.range' 0 ch).foldl (fun b c => (allL w ch r (place + 1) (upd1 h c (h c + w place)) (pre ++ [c])).foldl keepO b) b := by
    rw [allL, foldlO_fm, List.range_eq_range']
  rw [hall]
  obtain ⟨res, hres⟩ : ∃ res, res = (List.range' 0 ch).foldl (fun b c => (allL w ch r (place + 1) (upd1 h c (h c + w place)) (pre ++ [c])).foldl keepO b) b := ⟨_, rfl⟩
  rw [← hres]
  have hwp := hw place
  have L : ∀ (k c : Nat) (cc : Int) (b1 : Option SB) (G1 : Wd), c + k = ch → cc = (c : Int) → FM [59] [175, 176] [180] G G1 → shF place ch h pre b1 G1 → (List.range' c k).foldl (fun b c => (allL w ch r (place + 1) (upd1 h c (h c + w place)) (pre ++ [c])).foldl keepO b) b1 = res → V κ MX12_shareOn (rmD d 0 0) (shPo place ch h pre res G) noX 0 0 μ 0 0 (Wm (G1)) 110 [some (VR 145), some (VI (place : Nat)), some (VI (ch : Nat)), some (VI cc), none, none, none, none] [] := by
    intro k
    induction k with
    | zero =>
      intro c cc b1 G1 hck hcc f1 s1 he
      have he2 : b1 = res := he
      subst he2
      refine V_ex sX12_shareOn_110 (by rfl) (by first | exact trivial | exact Or.inr rfl | exact Or.inl rfl | (simp only [ob, obA, R32, R64] at *; omega) | (simp only [ob, obA, R32, R64] at *; and_intros <;> omega) | (simp [ob, obA])) ?_
      refine V_icmpge dX12_shareOn_112 (tgt := 166) (by decide) (by simp only [R32, R64] at *; omega) (fun q112 => ?_) (fun q112 => ?_)
      · refine V_vret dX12_shareOn_166 rfl (by decide) ⟨rfl, G1, rfl, f1, s1⟩
      · omega
    | succ k ih =>
      intro c cc b1 G1 hck hcc f1 s1 he
      subst hcc
      rw [List.range'_succ, List.foldl_cons] at he
      obtain ⟨a1, a2, a3⟩ := s1
      have hhc := hh c
      have e180 := a1 c (by omega)
      have e179 : G1.2.1 179 place = w place := by rw [f1.l (by decide) (by decide)]; exact h179 place (by omega)
      obtain ⟨G2, hG2⟩ : ∃ G2, G2 = uL (uI G1 175 place (c : Int)) 180 c (h c + w place) := ⟨_, rfl⟩
      have f2 : FM [59] [175, 176] [180] G G2 := by rw [hG2]; exact (f1.a (by decide)).b (by decide)
      have s2 : shF (place + 1) ch (upd1 h c (h c + w place)) (pre ++ [c]) b1 G2 := by
        subst hG2
        refine ⟨fun x hx => ?_, fun x hx => ?_, ?_⟩
        · show upd2 G1.2.1 180 c (h c + w place) 180 x = upd1 h c (h c + w place) x
          unfold upd1
          by_cases q : x = c
          · subst q; rw [if_pos rfl]; exact upd2_same ..
          · rw [if_neg q, uv (by omega)]; exact a1 x hx
        · show upd2 G1.1 175 place (c : Int) 175 x = _
          by_cases q : x < pre.length
          · rw [List.getElem_append_left q, uv (by omega)]; exact a2 x q
          · have e : x = place := by rw [List.length_append] at hx; simp at hx; omega
            rw [List.getElem_append_right (by omega)]
            subst e
            rw [upd2_same]; simp
        · cases b1 with
          | none => show upd2 G1.2.1 180 c (h c + w place) 145 59 = -1; rw [uv (by omega)]; exact a3
          | some q => exact ⟨by show upd2 G1.2.1 180 c (h c + w place) 145 59 = q.1; rw [uv (by omega)]; exact a3.1, a3.2.1, fun y hy => by show upd2 G1.1 175 place (c : Int) 176 y = _; rw [uv (by omega)]; exact a3.2.2 y hy⟩
      have hR := hrec (place + 1) (upd1 h c (h c + w place)) (pre ++ [c]) b1 G2 (by omega) (by simp; omega) ((f2.i5 (by decide) (by decide)).trans h56) (fun y hy => by rw [f2.l (by decide) (by decide)]; exact h179 y hy) (fun y => by unfold upd1; have := hh y; have e : ((place + 1 : Nat) : Int) = (place : Int) + 1 := ep.symm; rw [e]; split <;> omega) s2
      rw [hG2] at hR
      refine V_ex sX12_shareOn_110 (by rfl) (by first | exact trivial | exact Or.inr rfl | exact Or.inl rfl | (simp only [ob, obA, R32, R64] at *; omega) | (simp only [ob, obA, R32, R64] at *; and_intros <;> omega) | (simp [ob, obA])) ?_
      refine V_icmpge dX12_shareOn_112 (tgt := 166) (by decide) (by simp only [R32, R64] at *; omega) (fun q112 => ?_) (fun q112 => ?_)
      · omega
      · refine V_ex sX12_shareOn_115 (by simp only [Option.toList, List.cons_append, List.nil_append, exN, ex1, gI, gL, gR, pI, pL, pR, lget, lset1, lset2, kl, b2I, b2L, nob, ob32, ob64, xGet, xPut, xLen, xLd, xLdR, xSt, obA, true_and, and_true, and_self, eq_self, Nat.reduceEqDiff, Nat.zero_ne_one, reduceIte, Nat.reduceLeDiff, and_false, false_and, show skd 11 50 = 2 from rfl, show skd 11 55 = 2 from rfl, show skd 11 54 = 2 from rfl, show LF.1 145 = some (.inl 11) from rfl, show LF.2 145 50 = some 175 from rfl, show LF.1 175 = some (.inr (0, 10)) from rfl, show LF.2 145 55 = some 180 from rfl, show LF.1 180 = some (.inr (1, 4)) from rfl, show LF.2 145 54 = some 179 from rfl, show LF.1 179 = some (.inr (1, 30)) from rfl, ep, e179, e180, Int.toNat_natCast, upd2_eq, Int.reduceToNat, Int.toNat_natCast]; rfl) (by first | exact trivial | exact Or.inr rfl | exact Or.inl rfl | (simp only [ob, obA, R32, R64] at *; omega) | (simp only [ob, obA, R32, R64] at *; and_intros <;> omega) | (simp [ob, obA])) ?_
        refine V_callV (M := MX12_shareOn) (N := MX12_shareOn) dX12_shareOn_142 lRX12_540 kX12_shareOn rfl (rfl) rfl (hR) rfl rfl (Nat.le_of_ble_eq_true rfl) (fit_rm (by omega)) (⟨Nat.le_of_ble_eq_true rfl, Nat.le_of_ble_eq_true rfl⟩) (fun v Ω' hp => ?_) (fun _ _ h => h.elim)
        obtain ⟨rfl, G3, rfl, f3, s3⟩ := hp
        rw [← hG2] at f3
        have f23 := f2.trans f3
        obtain ⟨z1, z2, z3⟩ := s3
        have g180 : G3.2.1 180 c = h c + w place := by rw [z1 c (by omega)]; unfold upd1; rw [if_pos rfl]
        have g179 : G3.2.1 179 place = w place := by rw [f23.l (by decide) (by decide)]; exact h179 place (by omega)
        have eb : h c + w place - w place = h c := by omega
        have s4 : shF place ch h pre ((allL w ch r (place + 1) (upd1 h c (h c + w place)) (pre ++ [c])).foldl keepO b1) (uL G3 180 c (h c)) := by
          refine ⟨fun x hx => ?_, fun x hx => ?_, ?_⟩
          · show upd2 G3.2.1 180 c (h c) 180 x = h x
            by_cases q : x = c
            · subst q; exact upd2_same ..
            · rw [uv (by omega), z1 x hx]; unfold upd1; rw [if_neg q]
          · have := z2 x (by rw [List.length_append]; simp; omega)
            rw [List.getElem_append_left hx] at this; exact this
          · generalize (allL w ch r (place + 1) (upd1 h c (h c + w place)) (pre ++ [c])).foldl keepO b1 = bb at z3
            cases bb with
            | none => show upd2 G3.2.1 180 c (h c) 145 59 = -1; rw [uv (by omega)]; exact z3
            | some q => refine ⟨?_, z3.2⟩; show upd2 G3.2.1 180 c (h c) 145 59 = q.1; rw [uv (by omega)]; exact z3.1
        have nx := ih (c + 1) ((c : Int) + 1) _ (uL G3 180 c (h c)) (by omega) (by omega) (f23.b (by decide)) s4 he
        refine V_ex sX12_shareOn_145 (by simp only [Option.toList, List.cons_append, List.nil_append, exN, ex1, gI, gL, gR, pI, pL, pR, lget, lset1, lset2, kl, b2I, b2L, nob, ob32, ob64, xGet, xPut, xLen, xLd, xLdR, xSt, obA, true_and, and_true, and_self, eq_self, Nat.reduceEqDiff, Nat.zero_ne_one, reduceIte, Nat.reduceLeDiff, and_false, false_and, show skd 11 55 = 2 from rfl, show skd 11 54 = 2 from rfl, show LF.1 145 = some (.inl 11) from rfl, show LF.2 145 55 = some 180 from rfl, show LF.1 180 = some (.inr (1, 4)) from rfl, show LF.2 145 54 = some 179 from rfl, show LF.1 179 = some (.inr (1, 30)) from rfl, g179, g180, eb, Int.toNat_natCast, upd2_eq, Int.reduceToNat, Int.toNat_natCast]; rfl) (by first | exact trivial | exact Or.inr rfl | exact Or.inl rfl | (simp only [ob, obA, R32, R64] at *; omega) | (simp only [ob, obA, R32, R64] at *; and_intros <;> omega) | (simp [ob, obA])) ?_
        refine V_goto dX12_shareOn_163 (tgt := 110) (by decide) ?_
        exact nx
  have st := L ch 0 0 b G (by omega) rfl (FM.refl _ _ _ _) hS hres.symm
  refine V_ex sX12_shareOn_0 (by simp only [Option.toList, List.cons_append, List.nil_append, exN, ex1, gI, gL, gR, pI, pL, pR, lget, lset1, lset2, kl, b2I, b2L, nob, ob32, ob64, xGet, xPut, xLen, xLd, xLdR, xSt, obA, true_and, and_true, and_self, eq_self, Nat.reduceEqDiff, Nat.zero_ne_one, reduceIte, Nat.reduceLeDiff, and_false, false_and, show skd 11 56 = 0 from rfl, show LF.1 145 = some (.inl 11) from rfl, h56, upd2_eq, Int.reduceToNat, Int.toNat_natCast]; rfl) (by first | exact trivial | exact Or.inr rfl | exact Or.inl rfl | (simp only [ob, obA, R32, R64] at *; omega) | (simp only [ob, obA, R32, R64] at *; and_intros <;> omega) | (simp [ob, obA])) ?_
  refine V_icmpne dX12_shareOn_5 (tgt := 108) (by decide) (by simp only [R32, R64] at *; omega) (fun q5 => ?_) (fun q5 => ?_)
  · refine V_ex sX12_shareOn_108 (by rfl) (by first | exact trivial | exact Or.inr rfl | exact Or.inl rfl | (simp only [ob, obA, R32, R64] at *; omega) | (simp only [ob, obA, R32, R64] at *; and_intros <;> omega) | (simp [ob, obA])) ?_
    exact st
  · omega
theorem shC_all {κ : Kx} (hκ : KOK κ) {many ch : Nat} {w : Nat → Int} (hm : many ≤ 10) (hch : 1 ≤ ch ∧ ch ≤ 4) (hw : ∀ j, 0 ≤ w j ∧ w j ≤ 1000000) : ∀ r d : Nat, r + 2 ≤ d → shC κ d r many ch w := by
  intro r
  induction r with
  | zero =>
    intro d hd place h pre b G hs hp h56 h179 hh hS
    obtain rfl : place = many := by omega
    exact c_mShareEnd hκ hch hm hp h56 (fun c => by have := hh c; omega) hS hd
  | succ r ih =>
    intro d hd place h pre b G hs hp h56 h179 hh hS
    exact c_mShareS hκ (ih (d - 1) (by omega)) (by omega) hm hch hw hs hp h56 h179 hh hS
