/-! Tokens: words, and the whole text -/
set_option maxRecDepth 100000 in
set_option maxHeartbeats 4000000 in
theorem c_tWordOf {κ : Kx} (hκ : KOK κ) (hKS : KS κ) {d : Nat} {x : Int} {G : Wd} (hx : 256 ≤ x ∧ x ≤ 273) : Ct κ MX9_wordOf d 0 0 [VI x] (Wm G) (keepG G (VR (1000001 + (x - 256).toNat))) noX := by
  refine Ct_of hκ kX9_wordOf.1 rfl (Nat.le_of_ble_eq_true rfl) (ls := [some (VI x)]) rfl (fun μ => ?_)
  refine V_ex sX9_wordOf_0 (by rfl) (by first | exact trivial | exact Or.inr rfl | exact Or.inl rfl | (simp only [ob, obA, R32, R64] at *; omega) | (simp only [ob, obA, R32, R64] at *; and_intros <;> omega)) ?_
  refine V_tsw dX9_wordOf_1 (dt := 135) (tg := [84, 87, 90, 93, 96, 99, 102, 105, 108, 111, 114, 117, 120, 123, 126, 129, 132]) (by simp only [R32, R64] at *; omega) (by decide) (by decide) (by decide) (fun q1 => ?_) ⟨fun q1 => ?_, fun q1 => ?_, fun q1 => ?_, fun q1 => ?_, fun q1 => ?_, fun q1 => ?_, fun q1 => ?_, fun q1 => ?_, fun q1 => ?_, fun q1 => ?_, fun q1 => ?_, fun q1 => ?_, fun q1 => ?_, fun q1 => ?_, fun q1 => ?_, fun q1 => ?_, fun q1 => ?_, trivial⟩
  · refine V_ldcS (n := 1000018) (ks_R hKS (i := 17) rfl) dX9_wordOf_135 ?_
    refine V_aret dX9_wordOf_137 rfl (by first | exact Or.inl ⟨_, rfl⟩ | exact Or.inr ⟨_, rfl⟩) (by decide) ⟨vrE (by omega), rfl⟩
  · refine V_ldcS (n := 1000001) (ks_R hKS (i := 0) rfl) dX9_wordOf_84 ?_
    refine V_aret dX9_wordOf_86 rfl (by first | exact Or.inl ⟨_, rfl⟩ | exact Or.inr ⟨_, rfl⟩) (by decide) ⟨vrE (by omega), rfl⟩
  · refine V_ldcS (n := 1000002) (ks_R hKS (i := 1) rfl) dX9_wordOf_87 ?_
    refine V_aret dX9_wordOf_89 rfl (by first | exact Or.inl ⟨_, rfl⟩ | exact Or.inr ⟨_, rfl⟩) (by decide) ⟨vrE (by omega), rfl⟩
  · refine V_ldcS (n := 1000003) (ks_R hKS (i := 2) rfl) dX9_wordOf_90 ?_
    refine V_aret dX9_wordOf_92 rfl (by first | exact Or.inl ⟨_, rfl⟩ | exact Or.inr ⟨_, rfl⟩) (by decide) ⟨vrE (by omega), rfl⟩
  · refine V_ldcS (n := 1000004) (ks_R hKS (i := 3) rfl) dX9_wordOf_93 ?_
    refine V_aret dX9_wordOf_95 rfl (by first | exact Or.inl ⟨_, rfl⟩ | exact Or.inr ⟨_, rfl⟩) (by decide) ⟨vrE (by omega), rfl⟩
  · refine V_ldcS (n := 1000005) (ks_R hKS (i := 4) rfl) dX9_wordOf_96 ?_
    refine V_aret dX9_wordOf_98 rfl (by first | exact Or.inl ⟨_, rfl⟩ | exact Or.inr ⟨_, rfl⟩) (by decide) ⟨vrE (by omega), rfl⟩
  · refine V_ldcS (n := 1000006) (ks_R hKS (i := 5) rfl) dX9_wordOf_99 ?_
    refine V_aret dX9_wordOf_101 rfl (by first | exact Or.inl ⟨_, rfl⟩ | exact Or.inr ⟨_, rfl⟩) (by decide) ⟨vrE (by omega), rfl⟩
  · refine V_ldcS (n := 1000007) (ks_R hKS (i := 6) rfl) dX9_wordOf_102 ?_
    refine V_aret dX9_wordOf_104 rfl (by first | exact Or.inl ⟨_, rfl⟩ | exact Or.inr ⟨_, rfl⟩) (by decide) ⟨vrE (by omega), rfl⟩
  · refine V_ldcS (n := 1000008) (ks_R hKS (i := 7) rfl) dX9_wordOf_105 ?_
    refine V_aret dX9_wordOf_107 rfl (by first | exact Or.inl ⟨_, rfl⟩ | exact Or.inr ⟨_, rfl⟩) (by decide) ⟨vrE (by omega), rfl⟩
  · refine V_ldcS (n := 1000009) (ks_R hKS (i := 8) rfl) dX9_wordOf_108 ?_
    refine V_aret dX9_wordOf_110 rfl (by first | exact Or.inl ⟨_, rfl⟩ | exact Or.inr ⟨_, rfl⟩) (by decide) ⟨vrE (by omega), rfl⟩
  · refine V_ldcS (n := 1000010) (ks_R hKS (i := 9) rfl) dX9_wordOf_111 ?_
    refine V_aret dX9_wordOf_113 rfl (by first | exact Or.inl ⟨_, rfl⟩ | exact Or.inr ⟨_, rfl⟩) (by decide) ⟨vrE (by omega), rfl⟩
  · refine V_ldcS (n := 1000011) (ks_R hKS (i := 10) rfl) dX9_wordOf_114 ?_
    refine V_aret dX9_wordOf_116 rfl (by first | exact Or.inl ⟨_, rfl⟩ | exact Or.inr ⟨_, rfl⟩) (by decide) ⟨vrE (by omega), rfl⟩
  · refine V_ldcS (n := 1000012) (ks_R hKS (i := 11) rfl) dX9_wordOf_117 ?_
    refine V_aret dX9_wordOf_119 rfl (by first | exact Or.inl ⟨_, rfl⟩ | exact Or.inr ⟨_, rfl⟩) (by decide) ⟨vrE (by omega), rfl⟩
  · refine V_ldcS (n := 1000013) (ks_R hKS (i := 12) rfl) dX9_wordOf_120 ?_
    refine V_aret dX9_wordOf_122 rfl (by first | exact Or.inl ⟨_, rfl⟩ | exact Or.inr ⟨_, rfl⟩) (by decide) ⟨vrE (by omega), rfl⟩
  · refine V_ldcS (n := 1000014) (ks_R hKS (i := 13) rfl) dX9_wordOf_123 ?_
    refine V_aret dX9_wordOf_125 rfl (by first | exact Or.inl ⟨_, rfl⟩ | exact Or.inr ⟨_, rfl⟩) (by decide) ⟨vrE (by omega), rfl⟩
  · refine V_ldcS (n := 1000015) (ks_R hKS (i := 14) rfl) dX9_wordOf_126 ?_
    refine V_aret dX9_wordOf_128 rfl (by first | exact Or.inl ⟨_, rfl⟩ | exact Or.inr ⟨_, rfl⟩) (by decide) ⟨vrE (by omega), rfl⟩
  · refine V_ldcS (n := 1000016) (ks_R hKS (i := 15) rfl) dX9_wordOf_129 ?_
    refine V_aret dX9_wordOf_131 rfl (by first | exact Or.inl ⟨_, rfl⟩ | exact Or.inr ⟨_, rfl⟩) (by decide) ⟨vrE (by omega), rfl⟩
  · refine V_ldcS (n := 1000017) (ks_R hKS (i := 16) rfl) dX9_wordOf_132 ?_
    refine V_aret dX9_wordOf_134 rfl (by first | exact Or.inl ⟨_, rfl⟩ | exact Or.inr ⟨_, rfl⟩) (by decide) ⟨vrE (by omega), rfl⟩
set_option maxRecDepth 100000 in
set_option maxHeartbeats 4000000 in
theorem c_tIsWord {κ : Kx} (hκ : KOK κ) (hKS : KS κ) {d n p e q : Nat} {t : List Int} {G : Wd} (hs : SF κ q t) (ht : t.length ≤ 100) (hx : txOk G n) (hp : p ≤ e) (he : e ≤ n) (hd : 4 ≤ d) : Ct κ MX9_isWord d 0 0 [VR 4, VR q, VI (p : Nat), VI (e : Nat)] (Wm G) (keepG G (VI (b2i (isWd (G.1 2) p e t)))) noX := by
  refine Ct_of hκ kX9_isWord.1 rfl (Nat.le_of_ble_eq_true rfl) (ls := [some (VR 4), some (VR q), some (VI (p : Nat)), some (VI (e : Nat)), none]) rfl (fun μ => ?_)
  have hs0 := hs
  obtain ⟨hq, hl, hb, b0, h1, h2, h3, h4⟩ := hs
  have hx2 := hx
  obtain ⟨hn, hn5, hby⟩ := hx2
  have L : ∀ (k i : Nat) (ii : Int), (e : Int) - (p : Int) = (t.length : Nat) → ii = (i : Int) → i + k = t.length → wdEq (G.1 2) (p + i) (t.drop i) = wdEq (G.1 2) p t → V κ MX9_isWord (rmD d 0 0) (keepG G (VI (b2i (isWd (G.1 2) p e t)))) noX 0 0 μ 0 0 (Wm G) 15 [some (VR 4), some (VR q), some (VI (p : Nat)), some (VI (e : Nat)), some (VI ii)] [] := by
    intro k
    induction k with
    | zero =>
      intro i ii hlen hii hk hw
      rw [List.drop_of_length_le (by omega), wdEq] at hw
      refine V_ex sX9_isWord_15 (by rfl) (by first | exact trivial | exact Or.inr rfl | exact Or.inl rfl | (simp only [ob, obA, R32, R64] at *; omega) | (simp only [ob, obA, R32, R64] at *; and_intros <;> omega)) ?_
      refine V_callVs (M := MX9_isWord) (N := MJ0_length_8abf5) hq h1 dX9_isWord_18 lRX9_110 kJ0_length_8abf5 rfl rfl (c_sLength (d := 1) hκ hKS.1 hs0 (by omega)) rfl rfl (Nat.le_of_ble_eq_true rfl) (fit_rm (by omega)) (⟨Nat.le_of_ble_eq_true rfl, Nat.le_of_ble_eq_true rfl⟩) (fun v Ω' hp => ?_) (fun _ _ h => h.elim)
      obtain ⟨rfl, rfl⟩ := hp
      refine V_icmpge dX9_isWord_21 (tgt := 49) (by decide) (by simp only [R32, R64] at *; omega) (fun q21 => ?_) (fun q21 => ?_)
      · refine V_ex sX9_isWord_49 (by rfl) (by first | exact trivial | exact Or.inr rfl | exact Or.inl rfl | (simp only [ob, obA, R32, R64] at *; omega) | (simp only [ob, obA, R32, R64] at *; and_intros <;> omega)) ?_
        refine V_zret dX9_isWord_50 rfl (by first | exact Or.inl rfl | exact Or.inr rfl | exact b2i_01 _) (by decide) ⟨by rw [isWd, ← hw, decide_eq_true hlen]; rfl, rfl⟩
      · omega
    | succ k ih =>
      intro i ii hlen hii hk hw
      subst hii
      have hit : i < t.length := by omega
      have hg := getD_in hit hb
      have eg : t.getD i 0 = t[i]'hit := by rw [List.getD_eq_getElem?_getD, List.getElem?_eq_getElem hit]; rfl
      rw [List.drop_eq_getElem_cons hit, wdEq, ← eg] at hw
      have hbi := hby (p + i) (by omega)
      refine V_ex sX9_isWord_15 (by rfl) (by first | exact trivial | exact Or.inr rfl | exact Or.inl rfl | (simp only [ob, obA, R32, R64] at *; omega) | (simp only [ob, obA, R32, R64] at *; and_intros <;> omega)) ?_
      refine V_callVs (M := MX9_isWord) (N := MJ0_length_8abf5) hq h1 dX9_isWord_18 lRX9_110 kJ0_length_8abf5 rfl rfl (c_sLength (d := 1) hκ hKS.1 hs0 (by omega)) rfl rfl (Nat.le_of_ble_eq_true rfl) (fit_rm (by omega)) (⟨Nat.le_of_ble_eq_true rfl, Nat.le_of_ble_eq_true rfl⟩) (fun v Ω' hp => ?_) (fun _ _ h => h.elim)
      obtain ⟨rfl, rfl⟩ := hp
      refine V_icmpge dX9_isWord_21 (tgt := 49) (by decide) (by simp only [R32, R64] at *; omega) (fun q21 => ?_) (fun q21 => ?_)
      · omega
      · refine V_ex sX9_isWord_24 (by rfl) (by first | exact trivial | exact Or.inr rfl | exact Or.inl rfl | (simp only [ob, obA, R32, R64] at *; omega) | (simp only [ob, obA, R32, R64] at *; and_intros <;> omega)) ?_
        refine V_callV (M := MX9_isWord) (N := MX9_byteAt) dX9_isWord_29 lRX9_82 kX9_byteAt rfl (rfl) rfl (c_tByteAt (d := 0) hκ hn hn5 (i := (p : Int) + (i : Int)) (by unfold R32; omega)) rfl rfl (Nat.le_of_ble_eq_true rfl) (fit_rm (by omega)) (⟨Nat.le_of_ble_eq_true rfl, Nat.le_of_ble_eq_true rfl⟩) (fun v Ω' hp => ?_) (fun _ _ h => h.elim)
        obtain ⟨rfl, rfl⟩ := hp
        rw [show (p : Int) + (i : Int) = ((p + i : Nat) : Int) by omega, bAt_nat (show p + i < n by omega)]
        refine V_ex sX9_isWord_32 (by rfl) (by first | exact trivial | exact Or.inr rfl | exact Or.inl rfl | (simp only [ob, obA, R32, R64] at *; omega) | (simp only [ob, obA, R32, R64] at *; and_intros <;> omega)) ?_
        refine V_callVs (M := MX9_isWord) (N := MJ0_charAt_5068e) hq h1 dX9_isWord_35 lRX9_115 kJ0_charAt_5068e rfl rfl (c_sCharAt (d := 3) hκ hKS.1 hs0 hit (by omega)) rfl rfl (Nat.le_of_ble_eq_true rfl) (fit_rm (by omega)) (⟨Nat.le_of_ble_eq_true rfl, Nat.le_of_ble_eq_true rfl⟩) (fun v Ω' hp => ?_) (fun _ _ h => h.elim)
        obtain ⟨rfl, rfl⟩ := hp
        refine V_icmpeq dX9_isWord_38 (tgt := 43) (by decide) (by simp only [R32, R64] at *; omega) (fun q38 => ?_) (fun q38 => ?_)
        · refine V_ex sX9_isWord_43 (by rfl) (by first | exact trivial | exact Or.inr rfl | exact Or.inl rfl | (simp only [ob, obA, R32, R64] at *; omega) | (simp only [ob, obA, R32, R64] at *; and_intros <;> omega)) ?_
          refine V_goto dX9_isWord_46 (tgt := 15) (by decide) ?_
          exact ih (i + 1) _ hlen (by omega) (by omega) (by rw [← hw, decide_eq_true q38]; rfl)
        · refine V_ex sX9_isWord_41 (by rfl) (by first | exact trivial | exact Or.inr rfl | exact Or.inl rfl | (simp only [ob, obA, R32, R64] at *; omega) | (simp only [ob, obA, R32, R64] at *; and_intros <;> omega)) ?_
          refine V_zret dX9_isWord_42 rfl (by first | exact Or.inl rfl | exact Or.inr rfl | exact b2i_01 _) (by decide) ⟨by rw [isWd, ← hw, decide_eq_false q38]; simp [b2i], rfl⟩
  refine V_ex sX9_isWord_0 (by rfl) (by first | exact trivial | exact Or.inr rfl | exact Or.inl rfl | (simp only [ob, obA, R32, R64] at *; omega) | (simp only [ob, obA, R32, R64] at *; and_intros <;> omega)) ?_
  refine V_callVs (M := MX9_isWord) (N := MJ0_length_8abf5) hq h1 dX9_isWord_4 lRX9_110 kJ0_length_8abf5 rfl rfl (c_sLength (d := 1) hκ hKS.1 hs0 (by omega)) rfl rfl (Nat.le_of_ble_eq_true rfl) (fit_rm (by omega)) (⟨Nat.le_of_ble_eq_true rfl, Nat.le_of_ble_eq_true rfl⟩) (fun v Ω' hp => ?_) (fun _ _ h => h.elim)
  obtain ⟨rfl, rfl⟩ := hp
  refine V_icmpeq dX9_isWord_7 (tgt := 12) (by decide) (by simp only [R32, R64] at *; omega) (fun q7 => ?_) (fun q7 => ?_)
  · refine V_ex sX9_isWord_12 (by rfl) (by first | exact trivial | exact Or.inr rfl | exact Or.inl rfl | (simp only [ob, obA, R32, R64] at *; omega) | (simp only [ob, obA, R32, R64] at *; and_intros <;> omega)) ?_
    exact L t.length 0 0 q7 rfl (by omega) rfl
  · refine V_ex sX9_isWord_10 (by rfl) (by first | exact trivial | exact Or.inr rfl | exact Or.inl rfl | (simp only [ob, obA, R32, R64] at *; omega) | (simp only [ob, obA, R32, R64] at *; and_intros <;> omega)) ?_
    refine V_zret dX9_isWord_11 rfl (by first | exact Or.inl rfl | exact Or.inr rfl | exact b2i_01 _) (by decide) ⟨by rw [isWd, decide_eq_false q7]; rfl, rfl⟩
theorem wordT_len : ∀ j, j < 18 → (wordT.getD j []).length ≤ 100 := by decide
set_option maxRecDepth 100000 in
set_option maxHeartbeats 4000000 in
theorem c_tWhatWord {κ : Kx} (hκ : KOK κ) (hKS : KS κ) {d n p e : Nat} {G : Wd} (hx : txOk G n) (hp : p ≤ e) (he : e ≤ n) (hd : 5 ≤ d) : Ct κ MX9_whatWord d 0 0 [VR 4, VI (p : Nat), VI (e : Nat)] (Wm G) (keepG G (VI (wfind (G.1 2) p e wordT 256))) noX := by
  refine Ct_of hκ kX9_whatWord.1 rfl (Nat.le_of_ble_eq_true rfl) (ls := [some (VR 4), some (VI (p : Nat)), some (VI (e : Nat)), none]) rfl (fun μ => ?_)
  have L : ∀ (k j : Nat) (ii : Int), j + k = 18 → ii = 256 + (j : Int) → wfind (G.1 2) p e (wordT.drop j) (256 + (j : Int)) = wfind (G.1 2) p e wordT 256 → V κ MX9_whatWord (rmD d 0 0) (keepG G (VI (wfind (G.1 2) p e wordT 256))) noX 0 0 μ 0 0 (Wm G) 4 [some (VR 4), some (VI (p : Nat)), some (VI (e : Nat)), some (VI ii)] [] := by
    intro k
    induction k with
    | zero =>
      intro j ii hk hii hw
      obtain rfl : j = 18 := by omega
      refine V_ex sX9_whatWord_4 (by rfl) (by first | exact trivial | exact Or.inr rfl | exact Or.inl rfl | (simp only [ob, obA, R32, R64] at *; omega) | (simp only [ob, obA, R32, R64] at *; and_intros <;> omega)) ?_
      refine V_icmpge dX9_whatWord_8 (tgt := 32) (by decide) (by simp only [R32, R64] at *; omega) (fun q8 => ?_) (fun q8 => ?_)
      · refine V_ex sX9_whatWord_32 (by rfl) (by first | exact trivial | exact Or.inr rfl | exact Or.inl rfl | (simp only [ob, obA, R32, R64] at *; omega) | (simp only [ob, obA, R32, R64] at *; and_intros <;> omega)) ?_
        refine V_iret dX9_whatWord_35 rfl (by decide) ⟨by rw [← hw]; rfl, rfl⟩
      · omega
    | succ k ih =>
      intro j ii hk hii hw
      have hj : j < 18 := by omega
      have hjl : j < wordT.length := hj
      have eg : wordT.getD j [] = wordT[j]'hjl := by rw [List.getD_eq_getElem?_getD, List.getElem?_eq_getElem hjl]; rfl
      rw [List.drop_eq_getElem_cons hjl, wfind, ← eg] at hw
      have ej : (ii - 256).toNat = j := by omega
      refine V_ex sX9_whatWord_4 (by rfl) (by first | exact trivial | exact Or.inr rfl | exact Or.inl rfl | (simp only [ob, obA, R32, R64] at *; omega) | (simp only [ob, obA, R32, R64] at *; and_intros <;> omega)) ?_
      refine V_icmpge dX9_whatWord_8 (tgt := 32) (by decide) (by simp only [R32, R64] at *; omega) (fun q8 => ?_) (fun q8 => ?_)
      · omega
      · refine V_ex sX9_whatWord_11 (by rfl) (by first | exact trivial | exact Or.inr rfl | exact Or.inl rfl | (simp only [ob, obA, R32, R64] at *; omega) | (simp only [ob, obA, R32, R64] at *; and_intros <;> omega)) ?_
        refine V_callS (M := MX9_whatWord) (N := MX9_wordOf) dX9_whatWord_13 lRX9_102 kX9_wordOf rfl (c_tWordOf (d := 0) hκ hKS (x := ii) (by omega)) rfl rfl (Nat.le_of_ble_eq_true rfl) (fit_rm (by omega)) (⟨Nat.le_of_ble_eq_true rfl, Nat.le_of_ble_eq_true rfl⟩) (fun v Ω' hp => ?_) (fun _ _ h => h.elim)
        obtain ⟨rfl, rfl⟩ := hp
        rw [ej]
        refine V_ex sX9_whatWord_16 (by rfl) (by first | exact trivial | exact Or.inr rfl | exact Or.inl rfl | (simp only [ob, obA, R32, R64] at *; omega) | (simp only [ob, obA, R32, R64] at *; and_intros <;> omega)) ?_
        refine V_callV (M := MX9_whatWord) (N := MX9_isWord) dX9_whatWord_18 lRX9_106 kX9_isWord rfl (rfl) rfl (c_tIsWord (d := 4) hκ hKS (ks_W hKS hj) (wordT_len j hj) hx (by omega) he (by omega)) rfl rfl (Nat.le_of_ble_eq_true rfl) (fit_rm (by omega)) (⟨Nat.le_of_ble_eq_true rfl, Nat.le_of_ble_eq_true rfl⟩) (fun v Ω' hp => ?_) (fun _ _ h => h.elim)
        obtain ⟨rfl, rfl⟩ := hp
        refine V_ifeqB dX9_whatWord_21 (tgt := 26) (by decide) (fun q21 => ?_) (fun q21 => ?_)
        · refine V_ex sX9_whatWord_26 (by rfl) (by first | exact trivial | exact Or.inr rfl | exact Or.inl rfl | (simp only [ob, obA, R32, R64] at *; omega) | (simp only [ob, obA, R32, R64] at *; and_intros <;> omega)) ?_
          refine V_goto dX9_whatWord_29 (tgt := 4) (by decide) ?_
          exact ih (j + 1) _ (by omega) (by omega) (by rw [← hw, q21, if_neg (by decide)]; congr 1)
        · refine V_ex sX9_whatWord_24 (by rfl) (by first | exact trivial | exact Or.inr rfl | exact Or.inl rfl | (simp only [ob, obA, R32, R64] at *; omega) | (simp only [ob, obA, R32, R64] at *; and_intros <;> omega)) ?_
          refine V_iret dX9_whatWord_25 rfl (by decide) ⟨by rw [← hw, if_pos q21, hii], rfl⟩
  refine V_ex sX9_whatWord_0 (by rfl) (by first | exact trivial | exact Or.inr rfl | exact Or.inl rfl | (simp only [ob, obA, R32, R64] at *; omega) | (simp only [ob, obA, R32, R64] at *; and_intros <;> omega)) ?_
  exact L 18 0 256 rfl rfl rfl
/-- the tokens L lie in the rows -/
def TKs (G : Wd) (L : List Tk) : Prop := G.1 4 5 = (L.length : Nat) ∧ ∀ j (h : j < L.length), G.1 5 j = (L[j]'h).1 ∧ G.1 6 j = ((L[j]'h).2.2.1 : Nat) ∧ G.1 7 j = (L[j]'h).2.1
/-- the same but the tokens -/
def FT (G G' : Wd) : Prop := G'.2 = G.2 ∧ ∀ x j, x ≠ 5 → x ≠ 6 → x ≠ 7 → ¬ (x = 4 ∧ j = 5) → G'.1 x j = G.1 x j
theorem FT.refl (G : Wd) : FT G G := ⟨rfl, fun _ _ _ _ _ _ => rfl⟩
theorem FT.trans {G G' G'' : Wd} (h : FT G G') (h' : FT G' G'') : FT G G'' := ⟨h'.1.trans h.1, fun x j a b c e => (h'.2 x j a b c e).trans (h.2 x j a b c e)⟩
theorem FT.note {G : Wd} (m : Nat) (a b c : Int) : FT G (noteW G m a b c) := ⟨rfl, fun x j h5 h6 h7 h4 => by simp [noteW, upd2_eq, h5, h6, h7, h4]⟩
theorem FT.tx {G G' : Wd} (h : FT G G') {n : Nat} (hx : txOk G n) : txOk G' n := by
  refine ⟨by rw [h.2 4 1 (by decide) (by decide) (by decide) (by decide)]; exact hx.1, hx.2.1, fun j hj => ?_⟩
  rw [h.2 2 j (by decide) (by decide) (by decide) (by omega)]; exact hx.2.2 j hj
theorem FT.row {G G' : Wd} (h : FT G G') : G'.1 2 = G.1 2 := by funext j; exact h.2 2 j (by decide) (by decide) (by decide) (by omega)
theorem TKs.note {G : Wd} {L : List Tk} (h : TKs G L) (a b : Int) (p e : Nat) : TKs (noteW G L.length a (p : Nat) b) (L ++ [(a, b, p, e)]) := by
  refine ⟨by simp [noteW, upd2_eq], fun j hj => ?_⟩
  simp only [noteW, upd2_eq]
  by_cases c : j = L.length
  · subst c; simp
  · have hl : j < L.length := by simp at hj; omega
    have := h.2 j hl
    simp [c, List.getElem_append_left hl, this]
set_option maxRecDepth 100000 in
set_option maxHeartbeats 4000000 in
theorem c_tReadToken {κ : Kx} (hκ : KOK κ) (hKS : KS κ) {d n p : Nat} {L : List Tk} {G : Wd} (hx : txOk G n) (hp : p < n) (hL : TKs G L) (hL2 : L.length ≤ p) (hd : 6 ≤ d) : Ct κ MX9_readToken d 0 0 [VR 4, VI (p : Nat)] (Wm G) (fun v Ω' => ∃ (G' : Wd) (L' : List Tk) (q : Nat), v = some (VI (q : Nat)) ∧ Ω' = Wm G' ∧ FT G G' ∧ TKs G' L' ∧ p < q ∧ q ≤ n ∧ L'.length ≤ q ∧ L' ++ tk (G.1 2) n q = L ++ tk (G.1 2) n p) noX := by
  refine Ct_of hκ kX9_readToken.1 rfl (Nat.le_of_ble_eq_true rfl) (ls := [some (VR 4), some (VI (p : Nat)), none, none]) rfl (fun μ => ?_)
  have hx2 := hx
  obtain ⟨hn, hn5, hby⟩ := hx2
  have hbp := hby p (by omega)
  have hend := tokAt_end (f := G.1 2) hp
  have hblF : isLb (G.1 2 p) = true → isBl (G.1 2 p) = false := fun h => by have := of_decide_eq_true h; exact decide_eq_false (by omega)
  have hbdF : isDb (G.1 2 p) = true → isBl (G.1 2 p) = false := fun h => by have := of_decide_eq_true h; exact decide_eq_false (by omega)
  have fin : ∀ (a b : Int) (e : Nat), isBl (G.1 2 p) = false → tokAt (G.1 2) n p = (a, b, p, e) → ∃ (G' : Wd) (L' : List Tk) (q : Nat), (some (VI (e : Nat)) : Option Vl) = some (VI (q : Nat)) ∧ Wm (noteW G L.length a (p : Nat) b) = Wm G' ∧ FT G G' ∧ TKs G' L' ∧ p < q ∧ q ≤ n ∧ L'.length ≤ q ∧ L' ++ tk (G.1 2) n q = L ++ tk (G.1 2) n p := fun a b e hb ht => by
    rw [ht] at hend
    have he1 : p < e := hend.1
    have he2 : e ≤ n := hend.2
    refine ⟨_, L ++ [(a, b, p, e)], e, rfl, rfl, FT.note _ _ _ _, hL.note a b p e, he1, he2, by simp; omega, ?_⟩
    rw [tk_tok hp hb, ht]; simp
  have hle := runB_le isLb (G.1 2) (n - p) p
  refine V_ex sX9_readToken_0 (by rfl) (by first | exact trivial | exact Or.inr rfl | exact Or.inl rfl | (simp only [ob, obA, R32, R64] at *; omega) | (simp only [ob, obA, R32, R64] at *; and_intros <;> omega)) ?_
  refine V_callV (M := MX9_readToken) (N := MX9_byteAt) dX9_readToken_2 lRX9_82 kX9_byteAt rfl (rfl) rfl (c_tByteAt (d := 0) hκ hn hn5 (by unfold R32; omega)) rfl rfl (Nat.le_of_ble_eq_true rfl) (fit_rm (by omega)) (⟨Nat.le_of_ble_eq_true rfl, Nat.le_of_ble_eq_true rfl⟩) (fun v Ω' hp2 => ?_) (fun _ _ h => h.elim)
  obtain ⟨rfl, rfl⟩ := hp2
  rw [bAt_nat hp]
  refine V_ex sX9_readToken_5 (by rfl) (by first | exact trivial | exact Or.inr rfl | exact Or.inl rfl | (simp only [ob, obA, R32, R64] at *; omega) | (simp only [ob, obA, R32, R64] at *; and_intros <;> omega)) ?_
  refine V_callS (M := MX9_readToken) (N := MX9_isLetter) dX9_readToken_7 lRX9_85 kX9_isLetter rfl (c_tIsLetter (d := 0) hκ (by unfold R32; omega)) rfl rfl (Nat.le_of_ble_eq_true rfl) (fit_rm (by omega)) (⟨Nat.le_of_ble_eq_true rfl, Nat.le_of_ble_eq_true rfl⟩) (fun v Ω' hp2 => ?_) (fun _ _ h => h.elim)
  obtain ⟨rfl, rfl⟩ := hp2
  refine V_ifeqB dX9_readToken_10 (tgt := 33) (by decide) (fun q10 => ?_) (fun q10 => ?_)
  · refine V_ex sX9_readToken_33 (by rfl) (by first | exact trivial | exact Or.inr rfl | exact Or.inl rfl | (simp only [ob, obA, R32, R64] at *; omega) | (simp only [ob, obA, R32, R64] at *; and_intros <;> omega)) ?_
    refine V_callS (M := MX9_readToken) (N := MX9_isDigit) dX9_readToken_34 lRX9_96 kX9_isDigit rfl (c_tIsDigit (d := 0) hκ (by unfold R32; omega)) rfl rfl (Nat.le_of_ble_eq_true rfl) (fit_rm (by omega)) (⟨Nat.le_of_ble_eq_true rfl, Nat.le_of_ble_eq_true rfl⟩) (fun v Ω' hp2 => ?_) (fun _ _ h => h.elim)
    obtain ⟨rfl, rfl⟩ := hp2
    refine V_ifeqB dX9_readToken_37 (tgt := 46) (by decide) (fun q37 => ?_) (fun q37 => ?_)
    · refine V_ex sX9_readToken_46 (by rfl) (by first | exact trivial | exact Or.inr rfl | exact Or.inl rfl | (simp only [ob, obA, R32, R64] at *; omega) | (simp only [ob, obA, R32, R64] at *; and_intros <;> omega)) ?_
      refine V_icmpeq dX9_readToken_49 (tgt := 65) (by decide) (by simp only [R32, R64] at *; omega) (fun q49 => ?_) (fun q49 => ?_)
      · refine V_ex sX9_readToken_65 (by rfl) (by first | exact trivial | exact Or.inr rfl | exact Or.inl rfl | (simp only [ob, obA, R32, R64] at *; omega) | (simp only [ob, obA, R32, R64] at *; and_intros <;> omega)) ?_
        refine V_iret dX9_readToken_68 rfl (by decide) ⟨G, L, p + 1, viE (by omega), rfl, FT.refl G, hL, by omega, by omega, by omega, by rw [tk_blank hp (decide_eq_true (by omega))]⟩
      · refine V_ex sX9_readToken_52 (by rfl) (by first | exact trivial | exact Or.inr rfl | exact Or.inl rfl | (simp only [ob, obA, R32, R64] at *; omega) | (simp only [ob, obA, R32, R64] at *; and_intros <;> omega)) ?_
        refine V_icmpeq dX9_readToken_55 (tgt := 65) (by decide) (by simp only [R32, R64] at *; omega) (fun q55 => ?_) (fun q55 => ?_)
        · refine V_ex sX9_readToken_65 (by rfl) (by first | exact trivial | exact Or.inr rfl | exact Or.inl rfl | (simp only [ob, obA, R32, R64] at *; omega) | (simp only [ob, obA, R32, R64] at *; and_intros <;> omega)) ?_
          refine V_iret dX9_readToken_68 rfl (by decide) ⟨G, L, p + 1, viE (by omega), rfl, FT.refl G, hL, by omega, by omega, by omega, by rw [tk_blank hp (decide_eq_true (by omega))]⟩
        · refine V_ex sX9_readToken_58 (by rfl) (by first | exact trivial | exact Or.inr rfl | exact Or.inl rfl | (simp only [ob, obA, R32, R64] at *; omega) | (simp only [ob, obA, R32, R64] at *; and_intros <;> omega)) ?_
          refine V_callV (M := MX9_readToken) (N := MX9_note) dX9_readToken_62 lRX9_74 kX9_note rfl (rfl) rfl (c_tNote (d := 1) hκ hL.1 (by omega) (by omega)) rfl rfl (Nat.le_of_ble_eq_true rfl) (fit_rm (by omega)) (⟨Nat.le_of_ble_eq_true rfl, Nat.le_of_ble_eq_true rfl⟩) (fun v Ω' hp2 => ?_) (fun _ _ h => h.elim)
          obtain ⟨rfl, rfl⟩ := hp2
          refine V_ex sX9_readToken_65 (by rfl) (by first | exact trivial | exact Or.inr rfl | exact Or.inl rfl | (simp only [ob, obA, R32, R64] at *; omega) | (simp only [ob, obA, R32, R64] at *; and_intros <;> omega)) ?_
          refine V_iret dX9_readToken_68 rfl (by decide) (fin _ _ (p + 1) (decide_eq_false (by omega)) (by rw [tokAt, if_neg (by rw [q10]; decide), if_neg (by rw [q37]; decide)]))
    · refine V_ex sX9_readToken_40 (by rfl) (by first | exact trivial | exact Or.inr rfl | exact Or.inl rfl | (simp only [ob, obA, R32, R64] at *; omega) | (simp only [ob, obA, R32, R64] at *; and_intros <;> omega)) ?_
      refine V_callV (M := MX9_readToken) (N := MX9_readNumber) dX9_readToken_42 lRX9_99 kX9_readNumber rfl (rfl) rfl (c_tReadNumber (d := 2) hκ hx hp hL.1 (by omega) (by omega)) rfl rfl (Nat.le_of_ble_eq_true rfl) (fit_rm (by omega)) (⟨Nat.le_of_ble_eq_true rfl, Nat.le_of_ble_eq_true rfl⟩) (fun v Ω' hp2 => ?_) (fun _ _ h => h.elim)
      obtain ⟨rfl, rfl⟩ := hp2
      refine V_iret dX9_readToken_45 rfl (by decide) (fin _ _ _ (hbdF q37) (by rw [tokAt, if_neg (by rw [q10]; decide), if_pos q37]))
  · refine V_ex sX9_readToken_13 (by rfl) (by first | exact trivial | exact Or.inr rfl | exact Or.inl rfl | (simp only [ob, obA, R32, R64] at *; omega) | (simp only [ob, obA, R32, R64] at *; and_intros <;> omega)) ?_
    refine V_callV (M := MX9_readToken) (N := MX9_endOfWord) dX9_readToken_15 lRX9_89 kX9_endOfWord rfl (rfl) rfl (c_tEndOfWord (d := 1) hκ hx (by omega) (by omega)) rfl rfl (Nat.le_of_ble_eq_true rfl) (fit_rm (by omega)) (⟨Nat.le_of_ble_eq_true rfl, Nat.le_of_ble_eq_true rfl⟩) (fun v Ω' hp2 => ?_) (fun _ _ h => h.elim)
    obtain ⟨rfl, rfl⟩ := hp2
    refine V_ex sX9_readToken_18 (by rfl) (by first | exact trivial | exact Or.inr rfl | exact Or.inl rfl | (simp only [ob, obA, R32, R64] at *; omega) | (simp only [ob, obA, R32, R64] at *; and_intros <;> omega)) ?_
    refine V_callV (M := MX9_readToken) (N := MX9_whatWord) dX9_readToken_23 lRX9_92 kX9_whatWord rfl (rfl) rfl (c_tWhatWord (d := 5) hκ hKS hx (by omega) (by omega) (by omega)) rfl rfl (Nat.le_of_ble_eq_true rfl) (fit_rm (by omega)) (⟨Nat.le_of_ble_eq_true rfl, Nat.le_of_ble_eq_true rfl⟩) (fun v Ω' hp2 => ?_) (fun _ _ h => h.elim)
    obtain ⟨rfl, rfl⟩ := hp2
    refine V_ex sX9_readToken_26 (by rfl) (by first | exact trivial | exact Or.inr rfl | exact Or.inl rfl | (simp only [ob, obA, R32, R64] at *; omega) | (simp only [ob, obA, R32, R64] at *; and_intros <;> omega)) ?_
    refine V_callV (M := MX9_readToken) (N := MX9_note) dX9_readToken_28 lRX9_74 kX9_note rfl (rfl) rfl (c_tNote (d := 1) hκ hL.1 (by omega) (by omega)) rfl rfl (Nat.le_of_ble_eq_true rfl) (fit_rm (by omega)) (⟨Nat.le_of_ble_eq_true rfl, Nat.le_of_ble_eq_true rfl⟩) (fun v Ω' hp2 => ?_) (fun _ _ h => h.elim)
    obtain ⟨rfl, rfl⟩ := hp2
    refine V_ex sX9_readToken_31 (by rfl) (by first | exact trivial | exact Or.inr rfl | exact Or.inl rfl | (simp only [ob, obA, R32, R64] at *; omega) | (simp only [ob, obA, R32, R64] at *; and_intros <;> omega)) ?_
    refine V_iret dX9_readToken_32 rfl (by decide) (fin _ _ _ (hblF q10) (by rw [tokAt, if_pos q10]))
set_option maxRecDepth 100000 in
set_option maxHeartbeats 4000000 in
theorem c_tOpen {κ : Kx} (hκ : KOK κ) (hKS : KS κ) {d n : Nat} {G : Wd} (hn5 : n ≤ 500) (hb : ∀ j, j < 500 → 0 ≤ G.1 2 j ∧ G.1 2 j ≤ 255) (hd : 7 ≤ d) : Ct κ MX9_open d 0 0 [VR 4, VI (n : Nat)] (Wm G) (fun v Ω' => v = none ∧ ∃ G', Ω' = Wm G' ∧ Fr [4, 5, 6, 7] G G' ∧ txOk G' n ∧ G'.1 4 6 = 0 ∧ TKs G' (tk (G.1 2) n 0)) noX := by
  refine Ct_of hκ kX9_open.1 rfl (Nat.le_of_ble_eq_true rfl) (ls := [some (VR 4), some (VI (n : Nat)), none, none]) rfl (fun μ => ?_)
  have G0f : FT (uI (uI (uI G 4 1 (n : Nat)) 4 5 0) 4 6 0) (uI (uI (uI G 4 1 (n : Nat)) 4 5 0) 4 6 0) := FT.refl _
  have e2 : (uI (uI (uI G 4 1 (n : Nat)) 4 5 0) 4 6 0).1 2 = G.1 2 := by funext j; simp [upd2_eq]
  have hx0 : txOk (uI (uI (uI G 4 1 (n : Nat)) 4 5 0) 4 6 0) n := ⟨by simp [upd2_eq], hn5, fun j hj => by rw [e2]; exact hb j hj⟩
  have L : ∀ (k p q : Nat) (ii jj : Int) (G1 : Wd) (L1 : List Tk), p + k = n → ii = (p : Int) → jj = (q : Int) → p ≤ q → q ≤ n → FT (uI (uI (uI G 4 1 (n : Nat)) 4 5 0) 4 6 0) G1 → TKs G1 L1 → L1.length ≤ q → L1 ++ tk (G.1 2) n q = tk (G.1 2) n 0 → V κ MX9_open (rmD d 0 0) (fun v Ω' => v = none ∧ ∃ G', Ω' = Wm G' ∧ Fr [4, 5, 6, 7] G G' ∧ txOk G' n ∧ G'.1 4 6 = 0 ∧ TKs G' (tk (G.1 2) n 0)) noX 0 0 μ 0 0 (Wm G1) 19 [some (VR 4), some (VI (n : Nat)), some (VI jj), some (VI ii)] [] := by
    intro k
    induction k with
    | zero =>
      intro p q ii jj G1 L1 hk hii hjj hpq hqn f1 hL1 hlen he
      obtain rfl : q = n := by omega
      have hx1 := f1.tx hx0
      rw [tk_end _ _ _ (Nat.le_refl _)] at he
      refine V_ex sX9_open_19 (by simp only [Option.toList, List.cons_append, List.nil_append, exN, ex1, gI, gL, gR, pI, pL, pR, lget, lset1, lset2, kl, b2I, b2L, nob, ob32, ob64, xGet, xPut, xLen, xLd, xLdR, xSt, obA, true_and, and_true, and_self, eq_self, Nat.reduceEqDiff, Nat.zero_ne_one, reduceIte, Nat.reduceLeDiff, and_false, false_and, show skd 8 1 = 0 from rfl, show LF.1 4 = some (.inl 8) from rfl, hx1.1, upd2_eq, Int.reduceToNat, Int.toNat_natCast]; rfl) (by first | exact trivial | exact Or.inr rfl | exact Or.inl rfl | (simp only [ob, obA, R32, R64] at *; omega) | (simp only [ob, obA, R32, R64] at *; and_intros <;> omega)) ?_
      refine V_icmpge dX9_open_24 (tgt := 44) (by decide) (by simp only [R32, R64] at *; omega) (fun q24 => ?_) (fun q24 => ?_)
      · refine V_ex sX9_open_44 (by simp only [Option.toList, List.cons_append, List.nil_append, exN, ex1, gI, gL, gR, pI, pL, pR, lget, lset1, lset2, kl, b2I, b2L, nob, ob32, ob64, xGet, xPut, xLen, xLd, xLdR, xSt, obA, true_and, and_true, and_self, eq_self, Nat.reduceEqDiff, Nat.zero_ne_one, reduceIte, Nat.reduceLeDiff, and_false, false_and, show skd 8 1 = 0 from rfl, show LF.1 4 = some (.inl 8) from rfl, hx1.1, upd2_eq, Int.reduceToNat, Int.toNat_natCast]; rfl) (by first | exact trivial | exact Or.inr rfl | exact Or.inl rfl | (simp only [ob, obA, R32, R64] at *; omega) | (simp only [ob, obA, R32, R64] at *; and_intros <;> omega)) ?_
        refine V_callV (M := MX9_open) (N := MX9_note) dX9_open_51 lRX9_74 kX9_note rfl (rfl) rfl (c_tNote (d := 6) hκ hL1.1 (by omega) (by omega)) rfl rfl (Nat.le_of_ble_eq_true rfl) (fit_rm (by omega)) (⟨Nat.le_of_ble_eq_true rfl, Nat.le_of_ble_eq_true rfl⟩) (fun v Ω' hp => ?_) (fun _ _ h => h.elim)
        obtain ⟨rfl, rfl⟩ := hp
        refine V_vret dX9_open_54 rfl (by decide) ?_
        refine ⟨rfl, _, rfl, ?_, ?_, ?_, by rw [← he]; exact hL1.note (-1) 0 q q⟩
        · refine ⟨f1.1, fun x hx => ?_⟩
          simp only [List.mem_cons, List.not_mem_nil, or_false, not_or] at hx
          funext j
          have h1 := f1.2 x j hx.2.1 hx.2.2.1 hx.2.2.2 (fun q => hx.1 q.1)
          simp only [noteW, upd2_eq]
          rw [if_neg (by intro q; exact hx.1 q.1), if_neg (by intro q; exact hx.2.2.2 q.1), if_neg (by intro q; exact hx.2.2.1 q.1), if_neg (by intro q; exact hx.2.1 q.1), h1]
          simp only [upd2_eq]
          rw [if_neg (by intro q; exact hx.1 q.1), if_neg (by intro q; exact hx.1 q.1), if_neg (by intro q; exact hx.1 q.1)]
        · exact (FT.note (G := G1) L1.length (-1) (q : Nat) 0).tx hx1
        · have h1 := f1.2 4 6 (by decide) (by decide) (by decide) (by decide)
          simp only [noteW, upd2_eq]
          simp [h1, upd2_eq]
      · omega
    | succ k ih =>
      intro p q ii jj G1 L1 hk hii hjj hpq hqn f1 hL1 hlen he
      subst hii hjj
      have hx1 := f1.tx hx0
      have er : G1.1 2 = G.1 2 := f1.row.trans e2
      refine V_ex sX9_open_19 (by simp only [Option.toList, List.cons_append, List.nil_append, exN, ex1, gI, gL, gR, pI, pL, pR, lget, lset1, lset2, kl, b2I, b2L, nob, ob32, ob64, xGet, xPut, xLen, xLd, xLdR, xSt, obA, true_and, and_true, and_self, eq_self, Nat.reduceEqDiff, Nat.zero_ne_one, reduceIte, Nat.reduceLeDiff, and_false, false_and, show skd 8 1 = 0 from rfl, show LF.1 4 = some (.inl 8) from rfl, hx1.1, upd2_eq, Int.reduceToNat, Int.toNat_natCast]; rfl) (by first | exact trivial | exact Or.inr rfl | exact Or.inl rfl | (simp only [ob, obA, R32, R64] at *; omega) | (simp only [ob, obA, R32, R64] at *; and_intros <;> omega)) ?_
      refine V_icmpge dX9_open_24 (tgt := 44) (by decide) (by simp only [R32, R64] at *; omega) (fun q24 => ?_) (fun q24 => ?_)
      · omega
      · refine V_ex sX9_open_27 (by rfl) (by first | exact trivial | exact Or.inr rfl | exact Or.inl rfl | (simp only [ob, obA, R32, R64] at *; omega) | (simp only [ob, obA, R32, R64] at *; and_intros <;> omega)) ?_
        refine V_icmpne dX9_open_29 (tgt := 38) (by decide) (by simp only [R32, R64] at *; omega) (fun q29 => ?_) (fun q29 => ?_)
        · refine V_ex sX9_open_38 (by rfl) (by first | exact trivial | exact Or.inr rfl | exact Or.inl rfl | (simp only [ob, obA, R32, R64] at *; omega) | (simp only [ob, obA, R32, R64] at *; and_intros <;> omega)) ?_
          refine V_goto dX9_open_41 (tgt := 19) (by decide) ?_
          exact ih (p + 1) q _ _ G1 L1 (by omega) (by omega) rfl (by omega) hqn f1 hL1 hlen he
        · obtain rfl : p = q := by omega
          refine V_ex sX9_open_32 (by rfl) (by first | exact trivial | exact Or.inr rfl | exact Or.inl rfl | (simp only [ob, obA, R32, R64] at *; omega) | (simp only [ob, obA, R32, R64] at *; and_intros <;> omega)) ?_
          refine V_callV (M := MX9_open) (N := MX9_readToken) dX9_open_34 lRX9_70 kX9_readToken rfl (rfl) rfl (c_tReadToken (d := 6) hκ hKS hx1 (p := p) (by omega) hL1 hlen (by omega)) rfl rfl (Nat.le_of_ble_eq_true rfl) (fit_rm (by omega)) (⟨Nat.le_of_ble_eq_true rfl, Nat.le_of_ble_eq_true rfl⟩) (fun v Ω' hp => ?_) (fun _ _ h => h.elim)
          obtain ⟨G2, L2, q2, rfl, rfl, f2, hL2, a1, a2, a3, a4⟩ := hp
          refine V_ex sX9_open_37 (by rfl) (by first | exact trivial | exact Or.inr rfl | exact Or.inl rfl | (simp only [ob, obA, R32, R64] at *; omega) | (simp only [ob, obA, R32, R64] at *; and_intros <;> omega)) ?_
          refine V_ex sX9_open_38 (by rfl) (by first | exact trivial | exact Or.inr rfl | exact Or.inl rfl | (simp only [ob, obA, R32, R64] at *; omega) | (simp only [ob, obA, R32, R64] at *; and_intros <;> omega)) ?_
          refine V_goto dX9_open_41 (tgt := 19) (by decide) ?_
          exact ih (p + 1) q2 _ _ G2 L2 (by omega) (by omega) rfl (by omega) a2 (f1.trans f2) hL2 a3 (by rw [er] at a4; rw [a4, he])
  refine V_ex sX9_open_0 (by simp only [Option.toList, List.cons_append, List.nil_append, exN, ex1, gI, gL, gR, pI, pL, pR, lget, lset1, lset2, kl, b2I, b2L, nob, ob32, ob64, xGet, xPut, xLen, xLd, xLdR, xSt, obA, true_and, and_true, and_self, eq_self, Nat.reduceEqDiff, Nat.zero_ne_one, reduceIte, Nat.reduceLeDiff, and_false, false_and, show skd 8 1 = 0 from rfl, show skd 8 5 = 0 from rfl, show skd 8 6 = 0 from rfl, show LF.1 4 = some (.inl 8) from rfl, upd2_eq, Int.reduceToNat, Int.toNat_natCast]; rfl) (by first | exact trivial | exact Or.inr rfl | exact Or.inl rfl | (simp only [ob, obA, R32, R64] at *; omega) | (simp only [ob, obA, R32, R64] at *; and_intros <;> omega)) ?_
  exact L n 0 0 0 0 _ [] (by omega) rfl rfl (by omega) (by omega) (FT.refl _) ⟨by simp [upd2_eq], fun j h => by simp at h⟩ (by simp) (by simp)
