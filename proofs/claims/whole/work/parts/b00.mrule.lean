/-! THE MODEL: what a told rule gives -/
theorem sm_bin {op : Int} (ho : -13 ≤ op ∧ op ≤ -6) : (op = -6 ∧ sm op = -26) ∨ (op = -7 ∧ sm op = -27) ∨ (op = -8 ∧ sm op = -24) ∨ (op = -9 ∧ sm op = -25) ∨ (op = -10 ∧ sm op = -20) ∨ (op = -11 ∧ sm op = -21) ∨ (op = -12 ∧ sm op = -22) ∨ (op = -13 ∧ sm op = -23) := by
  rcases (show op = -6 ∨ op = -7 ∨ op = -8 ∨ op = -9 ∨ op = -10 ∨ op = -11 ∨ op = -12 ∨ op = -13 by omega) with rfl | rfl | rfl | rfl | rfl | rfl | rfl | rfl <;> decide
set_option maxRecDepth 100000 in
set_option maxHeartbeats 4000000 in
theorem c_mReckon {κ : Kx} (hκ : KOK κ) {d : Nat} {op x y : Int} {G : Wd} (ho : -13 ≤ op ∧ op ≤ -6) (hx : R32 x) (hy : R32 y) : Ct κ MX12_reckon d 0 0 [VI (sm op), VI x, VI y] (Wm G) (keepG G (VI (comb op x y))) noX := by
  refine Ct_of hκ kX12_reckon.1 rfl (Nat.le_of_ble_eq_true rfl) (ls := [some (VI (sm op)), some (VI x), some (VI y)]) rfl (fun μ => ?_)
  have hs := sm_bin ho
  have hR : R32 (sm op) := by unfold R32; omega
  refine V_ex sX12_reckon_0 (by rfl) (by first | exact trivial | exact Or.inr rfl | exact Or.inl rfl | (simp only [ob, obA, R32, R64] at *; omega) | (simp only [ob, obA, R32, R64] at *; and_intros <;> omega) | (simp [ob, obA])) ?_
  refine V_tsw dX12_reckon_1 (dt := 104) (tg := [90, 79, 68, 56, 52, 48, 44]) (hR) (by decide) (by decide) (by decide) (fun q1 => ?_) ⟨fun q1 => ?_, fun q1 => ?_, fun q1 => ?_, fun q1 => ?_, fun q1 => ?_, fun q1 => ?_, fun q1 => ?_, trivial⟩
  · refine V_ex sX12_reckon_104 (by rfl) (by first | exact trivial | exact Or.inr rfl | exact Or.inl rfl | (simp only [ob, obA, R32, R64] at *; omega) | (simp only [ob, obA, R32, R64] at *; and_intros <;> omega) | (simp [ob, obA])) ?_
    refine V_ifne dX12_reckon_105 (tgt := 112) (by decide) (by exact hx) (fun q105 => ?_) (fun q105 => ?_)
    · refine V_ex sX12_reckon_112 (by rfl) (by first | exact trivial | exact Or.inr rfl | exact Or.inl rfl | (simp only [ob, obA, R32, R64] at *; omega) | (simp only [ob, obA, R32, R64] at *; and_intros <;> omega) | (simp [ob, obA])) ?_
      refine V_goto dX12_reckon_113 (tgt := 117) (by decide) ?_
      refine V_iret dX12_reckon_117 rfl (by decide) ⟨by have h : op = -7 := (by omega); simp [comb, h, q105], rfl⟩
    · refine V_ex sX12_reckon_108 (by rfl) (by first | exact trivial | exact Or.inr rfl | exact Or.inl rfl | (simp only [ob, obA, R32, R64] at *; omega) | (simp only [ob, obA, R32, R64] at *; and_intros <;> omega) | (simp [ob, obA])) ?_
      refine V_ifeq dX12_reckon_109 (tgt := 116) (by decide) (by exact hy) (fun q109 => ?_) (fun q109 => ?_)
      · refine V_ex sX12_reckon_116 (by rfl) (by first | exact trivial | exact Or.inr rfl | exact Or.inl rfl | (simp only [ob, obA, R32, R64] at *; omega) | (simp only [ob, obA, R32, R64] at *; and_intros <;> omega) | (simp [ob, obA])) ?_
        refine V_iret dX12_reckon_117 rfl (by decide) ⟨by have h : op = -7 := (by omega); simp [comb, h, q105, q109], rfl⟩
      · refine V_ex sX12_reckon_112 (by rfl) (by first | exact trivial | exact Or.inr rfl | exact Or.inl rfl | (simp only [ob, obA, R32, R64] at *; omega) | (simp only [ob, obA, R32, R64] at *; and_intros <;> omega) | (simp [ob, obA])) ?_
        refine V_goto dX12_reckon_113 (tgt := 117) (by decide) ?_
        refine V_iret dX12_reckon_117 rfl (by decide) ⟨by have h : op = -7 := (by omega); simp [comb, h, q105, q109], rfl⟩
  · refine V_ex sX12_reckon_90 (by rfl) (by first | exact trivial | exact Or.inr rfl | exact Or.inl rfl | (simp only [ob, obA, R32, R64] at *; omega) | (simp only [ob, obA, R32, R64] at *; and_intros <;> omega) | (simp [ob, obA])) ?_
    refine V_ifeq dX12_reckon_91 (tgt := 102) (by decide) (by exact hx) (fun q91 => ?_) (fun q91 => ?_)
    · refine V_ex sX12_reckon_102 (by rfl) (by first | exact trivial | exact Or.inr rfl | exact Or.inl rfl | (simp only [ob, obA, R32, R64] at *; omega) | (simp only [ob, obA, R32, R64] at *; and_intros <;> omega) | (simp [ob, obA])) ?_
      refine V_iret dX12_reckon_103 rfl (by decide) ⟨by have h : op = -6 := (by omega); simp [comb, h, q91], rfl⟩
    · refine V_ex sX12_reckon_94 (by rfl) (by first | exact trivial | exact Or.inr rfl | exact Or.inl rfl | (simp only [ob, obA, R32, R64] at *; omega) | (simp only [ob, obA, R32, R64] at *; and_intros <;> omega) | (simp [ob, obA])) ?_
      refine V_ifeq dX12_reckon_95 (tgt := 102) (by decide) (by exact hy) (fun q95 => ?_) (fun q95 => ?_)
      · refine V_ex sX12_reckon_102 (by rfl) (by first | exact trivial | exact Or.inr rfl | exact Or.inl rfl | (simp only [ob, obA, R32, R64] at *; omega) | (simp only [ob, obA, R32, R64] at *; and_intros <;> omega) | (simp [ob, obA])) ?_
        refine V_iret dX12_reckon_103 rfl (by decide) ⟨by have h : op = -6 := (by omega); simp [comb, h, q91, q95], rfl⟩
      · refine V_ex sX12_reckon_98 (by rfl) (by first | exact trivial | exact Or.inr rfl | exact Or.inl rfl | (simp only [ob, obA, R32, R64] at *; omega) | (simp only [ob, obA, R32, R64] at *; and_intros <;> omega) | (simp [ob, obA])) ?_
        refine V_goto dX12_reckon_99 (tgt := 103) (by decide) ?_
        refine V_iret dX12_reckon_103 rfl (by decide) ⟨by have h : op = -6 := (by omega); simp [comb, h, q91, q95], rfl⟩
  · refine V_ex sX12_reckon_79 (by rfl) (by first | exact trivial | exact Or.inr rfl | exact Or.inl rfl | (simp only [ob, obA, R32, R64] at *; omega) | (simp only [ob, obA, R32, R64] at *; and_intros <;> omega) | (simp [ob, obA])) ?_
    refine V_icmpne dX12_reckon_81 (tgt := 88) (by decide) (by exact ⟨hx, hy⟩) (fun q81 => ?_) (fun q81 => ?_)
    · refine V_ex sX12_reckon_88 (by rfl) (by first | exact trivial | exact Or.inr rfl | exact Or.inl rfl | (simp only [ob, obA, R32, R64] at *; omega) | (simp only [ob, obA, R32, R64] at *; and_intros <;> omega) | (simp [ob, obA])) ?_
      refine V_iret dX12_reckon_89 rfl (by decide) ⟨by have h : op = -9 := (by omega); simp [comb, h, q81], rfl⟩
    · refine V_ex sX12_reckon_84 (by rfl) (by first | exact trivial | exact Or.inr rfl | exact Or.inl rfl | (simp only [ob, obA, R32, R64] at *; omega) | (simp only [ob, obA, R32, R64] at *; and_intros <;> omega) | (simp [ob, obA])) ?_
      refine V_goto dX12_reckon_85 (tgt := 89) (by decide) ?_
      refine V_iret dX12_reckon_89 rfl (by decide) ⟨by have h : op = -9 := (by omega); simp [comb, h, q81], rfl⟩
  · refine V_ex sX12_reckon_68 (by rfl) (by first | exact trivial | exact Or.inr rfl | exact Or.inl rfl | (simp only [ob, obA, R32, R64] at *; omega) | (simp only [ob, obA, R32, R64] at *; and_intros <;> omega) | (simp [ob, obA])) ?_
    refine V_icmpge dX12_reckon_70 (tgt := 77) (by decide) (by exact ⟨hx, hy⟩) (fun q70 => ?_) (fun q70 => ?_)
    · refine V_ex sX12_reckon_77 (by rfl) (by first | exact trivial | exact Or.inr rfl | exact Or.inl rfl | (simp only [ob, obA, R32, R64] at *; omega) | (simp only [ob, obA, R32, R64] at *; and_intros <;> omega) | (simp [ob, obA])) ?_
      refine V_iret dX12_reckon_78 rfl (by decide) ⟨by have h : op = -8 := (by omega); simp [comb, h, show ¬ x < y by omega], rfl⟩
    · refine V_ex sX12_reckon_73 (by rfl) (by first | exact trivial | exact Or.inr rfl | exact Or.inl rfl | (simp only [ob, obA, R32, R64] at *; omega) | (simp only [ob, obA, R32, R64] at *; and_intros <;> omega) | (simp [ob, obA])) ?_
      refine V_goto dX12_reckon_74 (tgt := 78) (by decide) ?_
      refine V_iret dX12_reckon_78 rfl (by decide) ⟨by have h : op = -8 := (by omega); simp [comb, h, q70], rfl⟩
  · refine V_ex sX12_reckon_56 (by rfl) (by first | exact trivial | exact Or.inr rfl | exact Or.inl rfl | (simp only [ob, obA, R32, R64] at *; omega) | (simp only [ob, obA, R32, R64] at *; and_intros <;> omega) | (simp [ob, obA])) ?_
    refine V_ifne dX12_reckon_57 (tgt := 64) (by decide) (by exact hy) (fun q57 => ?_) (fun q57 => ?_)
    · refine V_ex sX12_reckon_64 (by rfl) (by exact ⟨hx, hy, q57⟩) ?_
      refine V_w32 ?_
      refine V_iret dX12_reckon_67 rfl (by decide) ⟨by have h : op = -13 := (by omega); simp [comb, h, q57], rfl⟩
    · refine V_ex sX12_reckon_60 (by rfl) (by first | exact trivial | exact Or.inr rfl | exact Or.inl rfl | (simp only [ob, obA, R32, R64] at *; omega) | (simp only [ob, obA, R32, R64] at *; and_intros <;> omega) | (simp [ob, obA])) ?_
      refine V_goto dX12_reckon_61 (tgt := 67) (by decide) ?_
      refine V_iret dX12_reckon_67 rfl (by decide) ⟨by have h : op = -13 := (by omega); simp [comb, h, q57], rfl⟩
  · refine V_ex sX12_reckon_52 (by rfl) (by first | exact trivial | exact Or.inr rfl | exact Or.inl rfl | (simp only [ob, obA, R32, R64] at *; omega) | (simp only [ob, obA, R32, R64] at *; and_intros <;> omega) | (simp [ob, obA])) ?_
    refine V_w32 ?_
    refine V_iret dX12_reckon_55 rfl (by decide) ⟨by have h : op = -12 := (by omega); simp [comb, h], rfl⟩
  · refine V_ex sX12_reckon_48 (by rfl) (by first | exact trivial | exact Or.inr rfl | exact Or.inl rfl | (simp only [ob, obA, R32, R64] at *; omega) | (simp only [ob, obA, R32, R64] at *; and_intros <;> omega) | (simp [ob, obA])) ?_
    refine V_w32 ?_
    refine V_iret dX12_reckon_51 rfl (by decide) ⟨by have h : op = -11 := (by omega); simp [comb, h], rfl⟩
  · refine V_ex sX12_reckon_44 (by rfl) (by first | exact trivial | exact Or.inr rfl | exact Or.inl rfl | (simp only [ob, obA, R32, R64] at *; omega) | (simp only [ob, obA, R32, R64] at *; and_intros <;> omega) | (simp [ob, obA])) ?_
    refine V_w32 ?_
    refine V_iret dX12_reckon_47 rfl (by decide) ⟨by have h : op = -10 := (by omega); simp [comb, h], rfl⟩
theorem mS0_b {G : Wd} {S : Sh} (h : mS0 G S) {j : Nat} (hj : j < S.1.length) : mBk G j (bkJ S j) := by rw [bkJ_in hj]; exact h.2.1 j hj
/-- the cells of a rule being worked out -/
def askW (G : Wd) (p v l : Int) : Wd := uI (uI (uI (uI G 163 0 p) 163 1 ((p - 1) / 2)) 163 2 v) 163 3 l
theorem askW_fm (G : Wd) (p v l : Int) : FM [] [163, 164] [] G (askW G p v l) := ((((FM.refl _ _ _ G).a (by decide)).a (by decide)).a (by decide)).a (by decide)
theorem askW_at {G : Wd} {p v l o : Int} (hv : v = if p % 2 = 0 then 1 else 0) (h : -4 ≤ o ∧ o < 0) : (askW G p v l).1 163 (-1 - o).toNat = valOf o l p := by
  unfold askW valOf
  rcases (show o = -1 ∨ o = -2 ∨ o = -3 ∨ o = -4 by omega) with rfl | rfl | rfl | rfl
  · rw [iv (by decide), iv (by decide), iv (by decide)]; exact iu
  · rw [iv (by decide), iv (by decide)]; exact iu
  · rw [iv (by decide)]; exact iu.trans hv
  · exact iu
