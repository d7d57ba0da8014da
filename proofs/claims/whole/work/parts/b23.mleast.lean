/-! THE MODEL: least -/
theorem smW_snoc {W : List Int} {z : Int} : smW (lw (W ++ [z])) 0 (W ++ [z]).length = smW (lw W) 0 W.length + z := by
  rw [List.length_append, List.length_singleton, smW_app, smW_c (w' := lw W) W.length 0 (fun j _ hj => by rw [lw_app, if_pos (by omega)]), lw_app, if_neg (by omega), if_pos (by omega)]
theorem sumLe_w (S : Sh) (j : Nat) : ∀ n, sumLe (cdS S) (bkJ S j) n = smW (lw (wsL S j n)) 0 (wsL S j n).length := by
  intro n
  induction n with
  | zero => rfl
  | succ n ih =>
    rw [sumLe, ih, wsL_s]
    split
    · omega
    · rw [smW_snoc]
theorem pickS_min {w : Nat → Int} (hw : ∀ j, 0 ≤ w j) (many size : Nat) (out : Int) : pickU w many size 0 out = pickS w many size 0 out := pickU_S hw _ _ _ _
/-- the model's slots that a choice sets -/
theorem RM_least {G G' : Wd} {A : Ab} {l : List Int} (h : RM G A) (f : FN G G') (hl : kpO G' (l.length : Nat) 178 (some l)) {W : Wd} (hW : W = uI G' 145 58 (l.length : Nat)) : RM W (leastA A l) ∧ FrM G W := by
  subst hW
  obtain ⟨⟨r1, r2, r3, r4, r5, r6, r7, r8, r9⟩, g⟩ := RM_f h f
  refine ⟨⟨mS0_c r1 (fun x a b => funext fun y => iv (by omega)), evM_c r2 (Or.inl rfl) (fun j hj => iv (by omega)) (fun _ _ => rfl) (fun x hx => funext fun y => iv (by omega)), (iv (by omega)).trans r3, imM_c r4 (fun j hj => iv (by omega)) rfl (fun x hx => funext fun y => iv (by omega)), (iv (by omega)).trans r5, (iv (by omega)).trans r6, fun j hj => (iv (by omega)).trans (r7 j hj), ?_, ?_⟩, g.trans ⟨fun x a => funext fun y => iv (by omega), fun _ _ => rfl, rfl⟩⟩
  · show kpO _ ((uI G' 145 58 (l.length : Nat)).1 145 57) 176 _
    rw [iv (by omega)]
    exact kpO_c r8 (funext fun y => iv (by omega))
  · show kpO _ ((uI G' 145 58 (l.length : Nat)).1 145 58) 178 (some l)
    rw [iu]
    exact kpO_c hl (funext fun y => iv (by omega))
