/-! THE NUMBERS STAY IN THEIR RANGES -/
section CWF
variable {S : Hp} {x m : Nat} {A : Nat → Nat → Nat} {n nT nL nE d : Nat} {D D' : Nat → Int32} {F F' : Nat → Nat → Int32}
def W_S (F : Nat → Nat → Int32) (nE nL : Nat) : Prop := ∀ e, e < nE → sN F e < 2 ^ nL
def W_T (F : Nat → Nat → Int32) (n : Nat) : Prop := ∀ i, i < n → F 7 i = -1 → F 11 i = -1
def FW (n nT nL nE d : Nat) (D : Nat → Int32) (F : Nat → Nat → Int32) : Prop := CWf n nT nL nE d D F ∧ W_S F nE nL ∧ W_T F n
theorem fw_D (h : FW n nT nL nE d D F) (e1 : D' 1 = D 1) (e5 : D' 5 = D 5) (e19 : D' 19 = D 19) (e26 : D' 26 = D 26) (e0 : D' 0 = D 0) : FW n nT nL nE d D' F := by
  obtain ⟨⟨⟨hn, g1, g5, g19, g26, g0⟩, hr⟩, h2⟩ := h
  exact ⟨⟨⟨hn, e1.trans g1, e5.trans g5, e19.trans g19, e26.trans g26, e0.trans g0⟩, hr⟩, h2⟩
theorem fw_31 (h : FW n nT nL nE d D F) {v : Int32} : FW n nT nL nE d (upD D 31 v) F := fw_D h rfl rfl rfl rfl rfl
theorem fw_cg (h : FW n nT nL nE d D F) (e : ∀ j, j ∈ usd → F' j = F j) : FW n nT nL nE d D F' := by
  obtain ⟨⟨hN, hPL, hRM, hWM, hWP, hWC, hWE, hWL, hWV, hSN, h0, h1, h2⟩, hWS, hWT⟩ := h
  have e4 := e 4 (by decide)
  have e7 := e 7 (by decide)
  have e8 := e 8 (by decide)
  have e11 := e 11 (by decide)
  have e12 := e 12 (by decide)
  have e14 := e 14 (by decide)
  have e16 := e 16 (by decide)
  have e17 := e 17 (by decide)
  have e18 := e 18 (by decide)
  have e20 := e 20 (by decide)
  have e21 := e 21 (by decide)
  have e22 := e 22 (by decide)
  have e23 := e 23 (by decide)
  have e24 := e 24 (by decide)
  have e27 := e 27 (by decide)
  have e28 := e 28 (by decide)
  refine ⟨⟨hN, ?_, ?_, ?_, ?_, ?_, ?_, ?_, ?_, ?_, ?_, ?_, ?_⟩, ?_, ?_⟩
  · unfold PL
    rw [e7, e8, e11]
    exact hPL
  · unfold RM
    rw [e4]
    exact hRM
  · unfold W_M
    rw [e12, e14]
    exact hWM
  · unfold W_P
    rw [e16]
    exact hWP
  · unfold W_C edn
    rw [e17, e18, e23]
    exact hWC
  · unfold W_E EV edn
    rw [e23, e24]
    exact hWE
  · unfold W_L
    rw [e22]
    exact hWL
  · unfold W_V EvV
    rw [e27]
    exact hWV
  · unfold SN sN
    rw [e28]
    exact hSN
  · unfold W_0
    rw [e12, e14, e16, e17, e18]
    exact h0
  · unfold W_1
    rw [e20, e21, e22]
    exact h1
  · unfold W_2
    rw [e28]
    exact h2
  · unfold W_S sN
    rw [e28]
    exact hWS
  · unfold W_T
    rw [e7, e11]
    exact hWT
/-- where children are is other -/
theorem fw_kids (h : FW n nT nL nE d D F) (e : ∀ j, j ≠ 6 → j ≠ 7 → j ≠ 8 → j ≠ 9 → j ≠ 11 → j ≠ 15 → F' j = F j) (hP : PL F' n nT) (hT : W_T F' n) : FW n nT nL nE d D F' := by
  obtain ⟨⟨hN, hPL, hRM, hWM, hWP, hWC, hWE, hWL, hWV, hSN, h0, h1, h2⟩, hWS, hWT⟩ := h
  have f : ∀ j, 11 < j → j ≠ 15 → F' j = F j := fun j hj h15 => e j (by omega) (by omega) (by omega) (by omega) (by omega) h15
  have e4 := e 4 (by decide) (by decide) (by decide) (by decide) (by decide) (by decide)
  have e12 := f 12 (by decide) (by decide)
  have e14 := f 14 (by decide) (by decide)
  have e16 := f 16 (by decide) (by decide)
  have e17 := f 17 (by decide) (by decide)
  have e18 := f 18 (by decide) (by decide)
  have e20 := f 20 (by decide) (by decide)
  have e21 := f 21 (by decide) (by decide)
  have e22 := f 22 (by decide) (by decide)
  have e23 := f 23 (by decide) (by decide)
  have e24 := f 24 (by decide) (by decide)
  have e27 := f 27 (by decide) (by decide)
  have e28 := f 28 (by decide) (by decide)
  refine ⟨⟨hN, hP, ?_, ?_, ?_, ?_, ?_, ?_, ?_, ?_, ?_, ?_, ?_⟩, ?_, hT⟩
  · unfold RM
    rw [e4]
    exact hRM
  · unfold W_M
    rw [e12, e14]
    exact hWM
  · unfold W_P
    rw [e16]
    exact hWP
  · unfold W_C edn
    rw [e17, e18, e23]
    exact hWC
  · unfold W_E EV edn
    rw [e23, e24]
    exact hWE
  · unfold W_L
    rw [e22]
    exact hWL
  · unfold W_V EvV
    rw [e27]
    exact hWV
  · unfold SN sN
    rw [e28]
    exact hSN
  · unfold W_0
    rw [e12, e14, e16, e17, e18]
    exact h0
  · unfold W_1
    rw [e20, e21, e22]
    exact h1
  · unfold W_2
    rw [e28]
    exact h2
  · unfold W_S sN
    rw [e28]
    exact hWS
theorem cIn_row {f j : Nat} {t : Int32} (h7 : j ≠ 7) (h8 : j ≠ 8) (h11 : j ≠ 11) : cIn F n f t j = F j := by
  funext i
  simp [cIn, h7, h8, h11]
theorem wt_cIn {f t : Nat} (ht : t < 6) (h : W_T F n) : W_T (cIn F n f (nI t)) n := fun i hi => by
  by_cases e : i = f
  · subst e
    intro w
    rw [show cIn F n i (nI t) 7 i = nI t by simp [cIn]] at w
    exact absurd w (nI_m1 (by omega))
  · simp only [cIn, if_neg e]
    exact h i hi
theorem fw_cIn {f t : Nat} (h : FW n nT nL nE d D F) (ht : t < nT) : FW n nT nL nE d D (cIn F n f (nI t)) := by
  have h6 : nT ≤ 6 := h.1.1.1.2.1
  exact fw_kids h (fun j _ h7 h8 _ h11 _ => cIn_row h7 h8 h11) (PL_cIn h.1.2.1 ht) (wt_cIn (by omega) h.2.2)
theorem pl_joW {c t : Nat} (h : PL F n nT) (hc : c < n) (ht : t < nT) (h7 : F 7 c = -1) (h11 : F 11 c = -1) : PL (joW D F c t) n nT := fun i hi => by
  obtain ⟨w1, w2, w3⟩ := h i hi
  by_cases e : i = c
  · subst e
    have e7 : joW D F i t 7 i = F 7 i := by simp [joW, g_2]
    have e8 : joW D F i t 8 i = nI t := by simp [joW, g_2]
    have e11 : joW D F i t 11 i = F 11 i := by simp [joW, g_2]
    rw [e7, e8, e11]
    exact ⟨w1, Or.inr ⟨t, ht, rfl⟩, Or.inr ⟨h7, h11⟩⟩
  · have e7 : joW D F c t 7 i = F 7 i := by simp [joW, g_2]
    have e8 : joW D F c t 8 i = F 8 i := by simp [joW, g_2, e]
    have e11 : joW D F c t 11 i = F 11 i := by simp [joW, g_2]
    rw [e7, e8, e11]
    exact ⟨w1, w2, w3⟩
theorem joW_row {c t j : Nat} (h8 : j ≠ 8) (h9 : j ≠ 9) : joW D F c t j = F j := by
  funext i
  simp [joW, g_2, h8, h9]
theorem fw_joW {c t : Nat} (h : FW n nT nL nE d D F) (hc : c < n) (ht : t < nT) (h7 : F 7 c = -1) : FW n nT nL nE d D (joW D' F c t) := by
  refine fw_kids h (fun j _ _ h8 h9 _ _ => joW_row h8 h9) (pl_joW h.1.2.1 hc ht h7 (h.2.2 c hc h7)) (fun i hi => ?_)
  rw [joW_row (by decide) (by decide), joW_row (by decide) (by decide)]
  exact h.2.2 i hi
theorem wOut_row {i j : Nat} (h7 : j ≠ 7) (h8 : j ≠ 8) (h11 : j ≠ 11) : wOut F i j = F j := by
  funext k
  simp [wOut, gOut, g_2, h7, h8, h11]
theorem fw_wOut {i : Nat} (h : FW n nT nL nE d D F) : FW n nT nL nE d D (wOut F i) := by
  refine fw_kids h (fun j _ h7 h8 _ h11 _ => wOut_row h7 h8 h11) (fun k hk => ?_) (fun k hk => ?_)
  · obtain ⟨w1, w2, w3⟩ := h.1.2.1 k hk
    by_cases e : k = i
    · subst e
      simp only [wOut, gOut, g_2]
      simp [inR]
    · have e' : ∀ j, wOut F i j k = F j k := fun j => by simp [wOut, gOut, g_2, e]
      rw [e', e', e']
      exact ⟨w1, w2, w3⟩
  · by_cases e : k = i
    · subst e
      intro _
      simp [wOut, gOut, g_2]
    · have e' : ∀ j, wOut F i j k = F j k := fun j => by simp [wOut, gOut, g_2, e]
      rw [e', e']
      exact h.2.2 k hk
theorem fw_patrol {i : Nat} {b : Int32} (h : FW n nT nL nE d D F) (hi : i < n) (h7 : ¬ F 7 i = -1) : FW n nT nL nE d D (g_2 F 11 i b) := by
  have r : ∀ j, j ≠ 11 → g_2 F 11 i b j = F j := fun j hj => funext fun k => g_2n _ _ (fun w => hj w.1)
  refine fw_kids h (fun j _ _ _ _ h11 _ => r j h11) (fun k hk => ?_) (fun k hk w => ?_)
  · obtain ⟨w1, w2, w3⟩ := h.1.2.1 k hk
    rw [r 7 (by decide), r 8 (by decide)]
    refine ⟨w1, w2, ?_⟩
    rcases w3 with w3 | w3
    · exact Or.inl w3
    · refine Or.inr ⟨w3.1, ?_⟩
      have e : k ≠ i := fun z => h7 (z ▸ w3.1)
      rw [show g_2 F 11 i b 11 k = F 11 k from g_2n _ _ (fun w => e w.2)]
      exact w3.2
  · rw [r 7 (by decide)] at w
    have e : k ≠ i := fun z => h7 (z ▸ w)
    rw [show g_2 F 11 i b 11 k = F 11 k from g_2n _ _ (fun w => e w.2)]
    exact h.2.2 k hk w
/-! a season -/
theorem wt_s1 (h : W_T F n) (k : Nat) : W_T (s1 F k) n := fun i hi => by
  rw [s1_at, s1_at]
  by_cases hk : i < k
  · rw [if_pos hk, if_pos hk]
    simp only [stp, if_true, show ¬ (7 : Nat) = 6 by decide, show ¬ (11 : Nat) = 6 by decide, show ¬ (11 : Nat) = 7 by decide, if_false]
    cases lfB F i
    · exact h i hi
    · exact fun _ => rfl
  · rw [if_neg hk, if_neg hk]
    exact h i hi
/-- child i is nowhere -/
def nwr (F : Nat → Nat → Int32) (i : Nat) : Prop := F 7 i = -1 ∧ F 8 i = -1 ∧ F 11 i = -1
theorem nwr_lf1 {t i : Nat} (ht : t < 6) (h : nwr F i) : nwr (lf1 F n (nI t)) i := by
  unfold lf1
  cases hf : fiW F (nI t) n with
  | none => exact h
  | some f =>
    have := (fiW_lt F (nI t) n f hf).2
    have e : i ≠ f := fun w => by
      rw [← w, h.2.1] at this
      exact nI_m1 (show t < 2 ^ 31 by omega) this.symm
    show nwr (cIn F n f (nI t)) i
    unfold nwr
    simp only [cIn, if_neg e]
    exact h
theorem wt_lf1 {t : Nat} (ht : t < 6) (h : W_T F n) : W_T (lf1 F n (nI t)) n := by
  unfold lf1
  cases fiW F (nI t) n with
  | none => exact h
  | some f => exact wt_cIn ht h
theorem nwr_itr {t i : Nat} (ht : t < 6) : ∀ (k : Nat) (F : Nat → Nat → Int32), nwr F i → nwr (itr F n (nI t) k) i
  | 0, _, h => h
  | k + 1, _, h => nwr_itr ht k _ (nwr_lf1 ht h)
theorem wt_itr {t : Nat} (ht : t < 6) : ∀ (k : Nat) (F : Nat → Nat → Int32), W_T F n → W_T (itr F n (nI t) k) n
  | 0, _, h => h
  | k + 1, _, h => wt_itr ht k _ (wt_lf1 ht h)
theorem nwr_filA {i : Nat} (h : nwr F i) : ∀ k, k ≤ 6 → nwr (filA F n k) i
  | 0, _ => h
  | k + 1, hk => nwr_itr (by omega) _ _ (nwr_filA h k (by omega))
theorem wt_filA (h : W_T F n) : ∀ k, k ≤ 6 → W_T (filA F n k) n
  | 0, _ => h
  | k + 1, hk => wt_itr (by omega) _ _ (wt_filA h k (by omega))
theorem lwF_o {N c i j : Nat} (h : i ≠ c) : lwF D F n N c j i = F j i := by
  unfold lwF
  cases loF F c N with
  | none => rfl
  | some t =>
    show jnF D F n c t j i = F j i
    unfold jnF
    split
    · simp [cIn, h]
    · simp [joW, g_2, h]
theorem sJD_o {N i j : Nat} : ∀ k, k ≤ i → (sJD n N D F k).2 j i = F j i
  | 0, _ => rfl
  | k + 1, hk => by
    unfold sJD
    split
    · exact sJD_o k (by omega)
    · rw [show (lwD (sJD n N D F k).1 (sJD n N D F k).2 n N k, lwF (sJD n N D F k).1 (sJD n N D F k).2 n N k).2 j i = _ from lwF_o (by omega)]
      exact sJD_o k (by omega)
theorem pw_lwF {N c : Nat} (hN : N ≤ 6) (hc : c < n) (hP : PL F n N) (hT : W_T F n) (h : nwr F c) : PL (lwF D F n N c) n N ∧ W_T (lwF D F n N c) n := by
  unfold lwF
  cases hl : loF F c N with
  | none => exact ⟨hP, hT⟩
  | some t =>
    have ht := (loF_lt F c N t hl).1
    show PL (jnF D F n c t) n N ∧ W_T (jnF D F n c t) n
    unfold jnF
    split
    · exact ⟨PL_cIn hP ht, wt_cIn (by omega) hT⟩
    · refine ⟨pl_joW hP hc ht h.1 h.2.2, fun i hi => ?_⟩
      rw [joW_row (by decide) (by decide), joW_row (by decide) (by decide)]
      exact hT i hi
theorem pw_sJD {N : Nat} (hN : N ≤ 6) (hP : PL F n N) (hT : W_T F n) (h : ∀ i, i < n → ¬ F 15 i = 0 → nwr F i) : ∀ k, k ≤ n → PL (sJD n N D F k).2 n N ∧ W_T (sJD n N D F k).2 n
  | 0, _ => ⟨hP, hT⟩
  | k + 1, hk => by
    have ih := pw_sJD hN hP hT h k (by omega)
    have e15 : (sJD n N D F k).2 15 k = F 15 k := sJD_o k (Nat.le_refl _)
    unfold sJD
    by_cases z : (sJD n N D F k).2 15 k = 0
    · rw [if_pos z]
      exact ih
    · rw [if_neg z]
      rw [e15] at z
      have w := h k (by omega) z
      refine pw_lwF hN (by omega) ih.1 ih.2 ?_
      unfold nwr
      rw [sJD_o k (Nat.le_refl _), sJD_o k (Nat.le_refl _), sJD_o k (Nat.le_refl _)]
      exact w
theorem fw_season (h : FW n nT nL nE d D F) : FW n nT nL nE d (seaD D F n nT) (seaF D F n nT) := by
  have h6 : nT ≤ 6 := h.1.1.1.2.1
  have hP1 := PL_s1 h.1.2.1 n
  have hT1 := wt_s1 h.2.2 n
  have hP2 := PL_filA hP1 nT (Nat.le_refl _)
  have hT2 := wt_filA hT1 nT h6
  have hz : ∀ i, i < n → ¬ filA (s1 F n) n nT 15 i = 0 → nwr (filA (s1 F n) n nT) i := fun i hi z => by
    rw [filA_row _ _ 15 (by decide) (by decide) (by decide), s1_at, if_pos hi] at z
    simp only [stp, if_true, show ¬ (15 : Nat) = 6 by decide, show ¬ (15 : Nat) = 7 by decide, show ¬ (15 : Nat) = 11 by decide, show ¬ (15 : Nat) = 8 by decide, if_false] at z
    have hl : lfB F i = true := by
      cases q : lfB F i with
      | true => rfl
      | false => rw [q] at z; exact absurd rfl z
    refine nwr_filA ?_ nT h6
    unfold nwr
    rw [s1_at, s1_at, s1_at, if_pos hi, if_pos hi, if_pos hi]
    simp only [stp, hl, if_true, show ¬ (7 : Nat) = 6 by decide, show ¬ (8 : Nat) = 6 by decide, show ¬ (8 : Nat) = 7 by decide, show ¬ (8 : Nat) = 11 by decide, show ¬ (11 : Nat) = 6 by decide, show ¬ (11 : Nat) = 7 by decide, if_false]
    refine ⟨trivial, ?_, trivial⟩
    have h8 : F 8 i = -1 := by
      rcases (h.1.2.1 i hi).2.2 with w | w
      · exact w
      · have := (lfB_t h.1.2.1 hi h6 hl rfl)
        rw [this.1] at w
        exact absurd w.1 (nI_m1 (by omega))
    cases wfB F i
    · exact h8
    · rfl
  obtain ⟨hP3, hT3⟩ := pw_sJD (D := D) h6 hP2 hT2 hz n (Nat.le_refl _)
  refine fw_D (fw_kids h (fun j g6 g7 g8 g9 g11 g15 => ?_) hP3 hT3) ?_ ?_ ?_ ?_ ?_
  · show (sJD n nT D (filA (s1 F n) n nT) n).2 j = F j
    rw [sJD_row n nT j g7 g8 g9 g11, filA_row _ _ j g7 g8 g11, s1_row F n j ⟨g6, g7, g8, g11, g15⟩]
  · exact sJD_ne n nT D _ 1 (by decide) n
  · exact sJD_ne n nT D _ 5 (by decide) n
  · exact sJD_ne n nT D _ 19 (by decide) n
  · exact sJD_ne n nT D _ 26 (by decide) n
  · exact sJD_ne n nT D _ 0 (by decide) n
end CWF
