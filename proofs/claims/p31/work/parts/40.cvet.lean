/-! THE CLASS: vet, permit, teach -/
section CVET
variable {S : Hp} {x : Nat} {A : Nat → Nat → Nat} {n nT nL nE : Nat} {D : Nat → Int32} {F : Nat → Nat → Int32} {Q : Int32 → Hp → Prop} {EQ : String → Hp → Prop}
theorem cs_l (h : CS S x A n nT nL nE D F) {l : Nat} (hl : l < nL) : okA S 5 (A 5 l) ∧ (g_P S 500 (A 5 l) = some (A 11 (48 + 3 * l)) ∧ g_P S 501 (A 5 l) = some (A 11 (48 + 3 * l + 1)) ∧ g_P S 502 (A 5 l) = some (A 11 (48 + 3 * l + 2))) ∧ (okA S 11 (A 11 (48 + 3 * l)) ∧ okA S 11 (A 11 (48 + 3 * l + 1)) ∧ okA S 11 (A 11 (48 + 3 * l + 2))) ∧ (g_N S (A 11 (48 + 3 * l)) = 3 ∧ g_N S (A 11 (48 + 3 * l + 1)) = 3 ∧ g_N S (A 11 (48 + 3 * l + 2)) = 4) ∧ g_I S 503 (A 5 l) = F 22 l ∧ ∀ k, k < 3 → vtE (g_R S (A 11 (48 + 3 * l)) k) (g_R S (A 11 (48 + 3 * l + 1)) k) (F 20 (6 * l + 2 * k)) (F 20 (6 * l + 2 * k + 1)) ∧ g_R S (A 11 (48 + 3 * l + 2)) (k + 1) = F 21 (3 * l + k) := h.2.2.2.2.2.2.2.1.1 l hl
/-- only rows of leaders are others -/
theorem cs_lrow {S' : Hp} {F' : Nat → Nat → Int32} (h : CS S x A n nT nL nE D F) (h24 : n ≤ 24) (hS : g_L S' = g_L S ∧ g_K S' = g_K S ∧ g_I S' = g_I S ∧ g_P S' = g_P S ∧ g_N S' = g_N S ∧ g_O S' = g_O S ∧ g_T S' = g_T S) (hR : ∀ r, r < 2 * n → g_R S' (A 11 r) = g_R S (A 11 r)) (hF : ∀ r, r ≠ 20 → r ≠ 21 → F' r = F r) (h7 : ∀ l, l < nL → ∀ k, k < 3 → vtE (g_R S' (A 11 (48 + 3 * l)) k) (g_R S' (A 11 (48 + 3 * l + 1)) k) (F' 20 (6 * l + 2 * k)) (F' 20 (6 * l + 2 * k + 1)) ∧ g_R S' (A 11 (48 + 3 * l + 2)) (k + 1) = F' 21 (3 * l + k)) : CS S' x A n nT nL nE D F' := by
  obtain ⟨eL, eK, eI, eP, eN, eO, eT⟩ := hS
  have ok : ∀ κ b, okA S' κ b = okA S κ b := fun κ b => by
    unfold okA
    rw [eL, eK]
  have f : ∀ r, r ≠ 20 → r ≠ 21 → F' r = F r := hF
  obtain ⟨h0, h1, h2, h3, h4, h5, h6, h7', h8, h9, h10⟩ := h
  refine ⟨?_, ?_, ?_, ?_, ?_, ?_, ?_, ?_, ?_, ?_, h10⟩
  · unfold P_0
    rw [ok, eP, eI]
    exact h0
  · have e23 : cntF n nT nL nE F' = cntF n nT nL nE F := by
      funext q
      unfold cntF edn
      rw [f 23 (by omega) (by omega)]
    unfold LQ LK at *
    simp only [ok, eP, eN, eO, eT, eI, e23]
    exact h1
  · unfold P_2
    simp only [ok, eP, eN, eO]
    exact h2
  · unfold P_3
    simp only [ok, eI, f 2 (by omega) (by omega), f 3 (by omega) (by omega), f 4 (by omega) (by omega)]
    exact h3
  · unfold P_4
    simp only [ok, eI, f 6 (by omega) (by omega), f 7 (by omega) (by omega), f 8 (by omega) (by omega), f 9 (by omega) (by omega), f 11 (by omega) (by omega), f 12 (by omega) (by omega), f 13 (by omega) (by omega), f 14 (by omega) (by omega)]
    exact h4
  · intro i hi
    have := h5 i hi
    unfold PF at this ⊢
    rw [ok, ok, ok, eP, eI, eN, hR (2 * i) (by omega), hR (2 * i + 1) (by omega), f 16 (by omega) (by omega)]
    exact this
  · refine P_6_cg (F := F) (f 16 (by omega) (by omega)) (f 17 (by omega) (by omega)) (f 18 (by omega) (by omega)) (f 24 (by omega) (by omega)) ?_
    unfold P_6
    simp only [ok, eP, eN, eO, eI]
    exact h6
  · refine ⟨fun l hl => ?_, h7'.2⟩
    obtain ⟨a1, a2, a3, a4, a5, -⟩ := h7'.1 l hl
    rw [ok, ok, ok, ok, eP, eN, eI, f 22 (by omega) (by omega)]
    exact ⟨a1, a2, a3, a4, a5, h7 l hl⟩
  · unfold P_8
    simp only [ok, eI, f 27 (by omega) (by omega), f 28 (by omega) (by omega)]
    exact h8
  · unfold P_9 edn
    simp only [ok, eI, f 23 (by omega) (by omega), f 24 (by omega) (by omega)]
    exact h9
theorem cs_ne11 (h : CS S x A n nT nL nE D F) {r s : Nat} (hr : lv11 n nL r) (hs : lv11 n nL s) (hrs : r ≠ s) : A 11 r ≠ A 11 s := fun w => hrs (h.2.2.2.2.2.2.2.2.2.2 r hr s hs w)
theorem vetF_ne {l k i : Nat} {c d : Int32} (h1 : i ≠ 6 * l + 2 * k) (h2 : i ≠ 6 * l + 2 * k + 1) : vetF F l k c d 20 i = F 20 i := by
  simp [vetF, g_2, h1, h2]
theorem c8_vet1a {Q : Hp → Prop} {a b c d : Int32} (h : CS S x A n nT nL nE D F) (hv : a < 0 ∨ nI nL ≤ a) (hE : EQ "java/lang/IndexOutOfBoundsException" S) : wp_X8_vet S x a b c d Q EQ := by
  unfold wp_X8_vet
  exact ⟨h.1.1, c8_leaderAt0 h hv hE⟩
theorem c8_vet1b {Q : Hp → Prop} {l : Nat} {b c d : Int32} (h : CS S x A n nT nL nE D F) (h8 : nL ≤ 8) (hl : l < nL) (hv : b < 0 ∨ 2 < b) (hE : EQ "java/lang/IndexOutOfBoundsException" S) : wp_X8_vet S x (nI l) b c d Q EQ := by
  unfold wp_X8_vet
  refine ⟨h.1.1, c8_leaderAt1 h h8 hl (cs_ix0 ?_ hE)⟩
  rcases hv with w | w
  · exact Or.inl w
  · refine Or.inr ?_
    rw [i_lt] at w
    rw [i_le]
    rw [show (2 : Int32).toInt = 2 from rfl] at w
    rw [show (3 : Int32).toInt = 3 from rfl]
    omega
theorem c8_vet2 {Q : Hp → Prop} {l k : Nat} {c d : Int32} (h : CS S x A n nT nL nE D F) (h8 : nL ≤ 8) (hl : l < nL) (hk : k < 3) (hw : (c < 0 ∨ 9999 < c) ∨ (d < c ∨ 9999 < d)) (hE : EQ "java/lang/IllegalArgumentException" S) : wp_X8_vet S x (nI l) (nI k) c d Q EQ := by
  unfold wp_X8_vet
  refine ⟨h.1.1, c8_leaderAt1 h h8 hl (cs_ix1 (N := 3) hk (by decide) ?_)⟩
  by_cases h1 : c < 0 ∨ 9999 < c
  · exact cs_rg0 h1 hE
  · exact cs_rg1 h1 (cs_rg0 (hw.resolve_left h1) hE)
theorem c8_vet0 {Q : Hp → Prop} {l k : Nat} {c d : Int32} (h : CS S x A n nT nL nE D F) (h24 : n ≤ 24) (h8 : nL ≤ 8) (hl : l < nL) (hk : k < 3) (h1 : ¬ (c < 0 ∨ 9999 < c)) (h2 : ¬ (d < c ∨ 9999 < d)) (hQ : ∀ S', CS S' x A n nT nL nE D (vetF F l k c d) → Q S') : wp_X8_vet S x (nI l) (nI k) c d Q EQ := by
  obtain ⟨l0, ⟨l1, l2, l3⟩, ⟨l4, l5, l6⟩, ⟨l7, l8, l9⟩, l10, l11⟩ := cs_l h hl
  have lva : lv11 n nL (48 + 3 * l) := Or.inr (by omega)
  have lvb : lv11 n nL (48 + 3 * l + 1) := Or.inr (by omega)
  unfold wp_X8_vet
  refine ⟨h.1.1, c8_leaderAt1 h h8 hl (cs_ix1 (N := 3) hk (by decide) (cs_rg1 h1 (cs_rg1 h2 ?_)))⟩
  rw [rdS]
  refine ⟨l0, ?_⟩
  unfold wp_X5_setVetted
  rw [if_neg (nI_pos (by omega))]
  refine ⟨l0, ?_⟩
  rw [l1, rdS]
  refine ⟨l4, ?_⟩
  rw [l7, if_neg (show ¬ Int32.ofNat 3 ≤ nI k from nI_ge (b := 3) (by omega) (by omega)), l2, rdS]
  refine ⟨l5, ?_⟩
  rw [l8, if_neg (show ¬ Int32.ofNat 3 ≤ nI k from nI_ge (b := 3) (by omega) (by omega)), rdS]
  refine ⟨l4, by rw [l7]; exact vp_in_nI hk (by omega), ?_⟩
  rw [lt_v]
  refine ⟨l0, ?_⟩
  rw [show g_P (s_R S (A 11 (48 + 3 * l)) (nI k).toNatClampNeg c) 501 (A 5 l) = some (A 11 (48 + 3 * l + 1)) from l2, rdS, nIc (show k < 2 ^ 31 by omega)]
  refine ⟨l5, ?_, ?_⟩
  · rw [show g_N (s_R S (A 11 (48 + 3 * l)) k c) (A 11 (48 + 3 * l + 1)) = 3 from l8]
    exact vp_in_nI hk (by omega)
  rw [lt_v]
  have rows : ∀ b, g_R (s_R (s_R S (A 11 (48 + 3 * l)) k c) (A 11 (48 + 3 * l + 1)) k d) b = if b = A 11 (48 + 3 * l + 1) then va_up (g_R (s_R S (A 11 (48 + 3 * l)) k c) b) k d else if b = A 11 (48 + 3 * l) then va_up (g_R S b) k c else g_R S b := fun b => by
    by_cases e : b = A 11 (48 + 3 * l + 1)
    · rw [if_pos e, e]
      exact sR_eq
    · rw [if_neg e, sR_ne e]
      by_cases e2 : b = A 11 (48 + 3 * l)
      · rw [if_pos e2, e2]
        exact sR_eq
      · rw [if_neg e2]
        exact sR_ne e2
  have nab : A 11 (48 + 3 * l) ≠ A 11 (48 + 3 * l + 1) := cs_ne11 h lva lvb (by omega)
  refine hQ _ (cs_lrow h h24 ⟨rfl, rfl, rfl, rfl, rfl, rfl, rfl⟩ (fun r hr => ?_) (fun r hr hr2 => ?_) (fun l' hl' k' hk' => ?_))
  · have lr : lv11 n nL r := Or.inl hr
    rw [rows, if_neg (cs_ne11 h lr lvb (by omega)), if_neg (cs_ne11 h lr lva (by omega))]
  · funext i
    simp [vetF, g_2, hr]
  · obtain ⟨-, -, -, -, -, w⟩ := cs_l h hl'
    obtain ⟨w1, w2⟩ := w k' hk'
    have la : lv11 n nL (48 + 3 * l') := Or.inr (by omega)
    have lb : lv11 n nL (48 + 3 * l' + 1) := Or.inr (by omega)
    have lc : lv11 n nL (48 + 3 * l' + 2) := Or.inr (by omega)
    rw [rows (A 11 (48 + 3 * l' + 2)), if_neg (cs_ne11 h lc lvb (by omega)), if_neg (cs_ne11 h lc lva (by omega))]
    refine ⟨?_, w2.trans (by simp [vetF, g_2])⟩
    rw [rows (A 11 (48 + 3 * l')), rows (A 11 (48 + 3 * l' + 1)), if_neg (cs_ne11 h la lvb (by omega))]
    by_cases e : l' = l
    · subst e
      rw [if_pos rfl, if_pos rfl, sR_ne nab.symm]
      by_cases ek : k' = k
      · subst ek
        rw [va_up_self, va_up_self]
        refine Or.inl ⟨by simp [vetF, g_2], by simp [vetF, g_2]⟩
      · rw [va_up_ne _ _ ek, va_up_ne _ _ ek]
        have e1 : vetF F l' k c d 20 (6 * l' + 2 * k') = F 20 (6 * l' + 2 * k') := vetF_ne (by omega) (by omega)
        have e2 : vetF F l' k c d 20 (6 * l' + 2 * k' + 1) = F 20 (6 * l' + 2 * k' + 1) := vetF_ne (by omega) (by omega)
        rw [e1, e2]
        exact w1
    · rw [if_neg (cs_ne11 h la lva (by omega)), if_neg (cs_ne11 h lb lvb (by omega)), if_neg (cs_ne11 h lb lva (by omega))]
      have e1 : vetF F l k c d 20 (6 * l' + 2 * k') = F 20 (6 * l' + 2 * k') := vetF_ne (by omega) (by omega)
      have e2 : vetF F l k c d 20 (6 * l' + 2 * k' + 1) = F 20 (6 * l' + 2 * k' + 1) := vetF_ne (by omega) (by omega)
      rw [e1, e2]
      exact w1
theorem c5_isVetted {l k d : Nat} (h : CS S x A n nT nL nE D F) (hl : l < nL) (hk : k < 3) (hd : d < 10000) (hQ : Q (bI (veB F l k (nI d))) S) : wp_X5_isVetted S (A 5 l) (nI k) (nI d) Q := by
  obtain ⟨l0, ⟨l1, l2, l3⟩, ⟨l4, l5, l6⟩, ⟨l7, l8, l9⟩, l10, l11⟩ := cs_l h hl
  have hv := (l11 k hk).1
  unfold wp_X5_isVetted
  rw [if_neg (nI_pos (by omega))]
  refine ⟨l0, ?_⟩
  rw [l1, rdS]
  refine ⟨l4, ?_⟩
  rw [l7, if_neg (show ¬ Int32.ofNat 3 ≤ nI k from nI_ge (b := 3) (by omega) (by omega)), l2, rdS]
  refine ⟨l5, ?_⟩
  rw [l8, if_neg (show ¬ Int32.ofNat 3 ≤ nI k from nI_ge (b := 3) (by omega) (by omega)), rdS]
  refine ⟨l4, by rw [l7]; exact vp_in_nI hk (by omega), ?_⟩
  rw [nIc (show k < 2 ^ 31 by omega), rdS]
  unfold veB at hQ
  rcases hv with ⟨e1, e2⟩ | ⟨e1, e2, e3, e4⟩
  · rw [e1]
    by_cases c1 : nI d < F 20 (6 * l + 2 * k)
    · rw [if_pos c1]
      simp only [c1, decide_true, Bool.not_true, Bool.false_and] at hQ
      exact bz0i hQ
    · rw [if_neg c1]
      refine ⟨l5, by rw [l8]; exact vp_in_nI hk (by omega), ?_⟩
      rw [e2]
      by_cases c2 : F 20 (6 * l + 2 * k + 1) < nI d
      · rw [if_pos c2]
        simp only [c1, c2, decide_true, decide_false, Bool.not_true, Bool.and_false] at hQ
        exact bz0i hQ
      · rw [if_neg c2]
        simp only [c1, c2, decide_false, Bool.not_false, Bool.and_self] at hQ
        exact bz1i hQ
  · rw [e1, if_neg (show ¬ nI d < -1 by rw [i_lt, nI_toInt (by omega), show (-1 : Int32).toInt = -1 from rfl]; omega)]
    refine ⟨l5, by rw [l8]; exact vp_in_nI hk (by omega), ?_⟩
    rw [e2, if_pos (show (-1 : Int32) < nI d by rw [i_lt, nI_toInt (by omega), show (-1 : Int32).toInt = -1 from rfl]; omega)]
    rw [e3, e4] at hQ
    have e5 : (!decide (nI d < 1) && !decide (0 < nI d)) = false := by
      by_cases z : d = 0
      · subst z
        decide
      · have : (0 : Int32) < nI d := by rw [i_lt, nI_toInt (by omega), show (0 : Int32).toInt = 0 from rfl]; omega
        simp [this]
    rw [e5] at hQ
    exact bz0i hQ
theorem c5_somewhere {l d : Nat} (h : CS S x A n nT nL nE D F) (hl : l < nL) (hd : d < 10000) (hQ : Q (bI (anB (fun a => veB F l a (nI d)) 3)) S) : wp_X5_isVettedSomewhere S (A 5 l) (nI d) Q := by
  have hL : ∀ (fuel k : Nat), k ≤ 3 → 3 < k + fuel → anB (fun a => veB F l a (nI d)) k = false → wp_X5_isVettedSomewhere_L2 (A 5 l) (nI d) Q fuel S (nI k) := by
    intro fuel
    induction fuel with
    | zero => intro k h1 h2; omega
    | succ f ih =>
      intro k h1 h2 h3
      unfold wp_X5_isVettedSomewhere_L2
      by_cases hk : k = 3
      · subst hk
        rw [if_pos (by decide)]
        rw [h3] at hQ
        exact bz0i hQ
      · rw [if_neg (show ¬ (3 : Int32) ≤ nI k from nI_ge (b := 3) (by omega) (by omega))]
        refine ⟨(cs_l h hl).1, c5_isVetted h hl (by omega) hd ?_⟩
        cases hv : veB F l k (nI d) with
        | true =>
          rw [if_neg (show ¬ bI true = 0 by decide)]
          rw [(anB_true _ _).mpr ⟨k, by omega, hv⟩] at hQ
          exact bz1i hQ
        | false =>
          rw [if_pos (show bI false = 0 from rfl), nI_1]
          exact ih (k + 1) (by omega) (by omega) (by rw [anB, h3, hv]; rfl)
  unfold wp_X5_isVettedSomewhere
  exact ⟨4, hL 4 0 (by omega) (by omega) rfl⟩
theorem c5_permitOf {l k : Nat} (h : CS S x A n nT nL nE D F) (hl : l < nL) (hk : k < 3) (hQ : Q (F 21 (3 * l + k)) S) : wp_X5_permitOf S (A 5 l) (nI (k + 1)) Q := by
  obtain ⟨l0, ⟨l1, l2, l3⟩, ⟨l4, l5, l6⟩, ⟨l7, l8, l9⟩, l10, l11⟩ := cs_l h hl
  unfold wp_X5_permitOf
  rw [if_neg (nI_pos (by omega))]
  refine ⟨l0, ?_⟩
  rw [l3, rdS]
  refine ⟨l6, ?_⟩
  rw [l9, if_neg (show ¬ Int32.ofNat 4 ≤ nI (k + 1) from nI_ge (b := 4) (by omega) (by omega)), rdS]
  refine ⟨l6, by rw [l9]; exact vp_in_nI (by omega) (by omega), ?_⟩
  rw [nIc (by omega), (l11 k hk).2]
  exact hQ
theorem c5_mayLead {l k : Nat} {d : Int32} (h : CS S x A n nT nL nE D F) (hl : l < nL) (hk : k < 4) (hQ : Q (bI (decide (k = 0) || !decide (F 21 (3 * l + k - 1) < d))) S) : wp_X5_mayLead S (A 5 l) (nI k) d Q := by
  unfold wp_X5_mayLead
  by_cases hz : k = 0
  · subst hz
    rw [if_pos nI_0]
    exact bz1i hQ
  · rw [if_neg (nI_ne0 (by omega) (by omega))]
    refine ⟨(cs_l h hl).1, ?_⟩
    have e : k = (k - 1) + 1 := by omega
    rw [e]
    refine c5_permitOf h hl (by omega) ?_
    rw [show 3 * l + k - 1 = 3 * l + (k - 1) by omega] at hQ
    by_cases c : F 21 (3 * l + (k - 1)) < d
    · rw [if_pos c]
      simp only [hz, c, decide_false, decide_true, Bool.not_true, Bool.or_self] at hQ
      exact bz0i hQ
    · rw [if_neg c]
      simp only [hz, c, decide_false, Bool.not_false, Bool.or_true] at hQ
      exact bz1i hQ
theorem c8_permit1 {a b c : Int32} (h : CS S x A n nT nL nE D F) (hv : a < 0 ∨ nI nL ≤ a) (hE : EQ "java/lang/IndexOutOfBoundsException" S) : wp_X8_permit S x a b c Q EQ := by
  unfold wp_X8_permit
  exact ⟨h.1.1, c8_leaderAt0 h hv hE⟩
theorem c8_permit2 {l : Nat} {b c : Int32} (h : CS S x A n nT nL nE D F) (h8 : nL ≤ 8) (hl : l < nL) (hw : (b < 1 ∨ 3 < b) ∨ (c < -1 ∨ 9999 < c)) (hE : EQ "java/lang/IllegalArgumentException" S) : wp_X8_permit S x (nI l) b c Q EQ := by
  unfold wp_X8_permit
  refine ⟨h.1.1, c8_leaderAt1 h h8 hl ?_⟩
  by_cases h1 : b < 1 ∨ 3 < b
  · exact cs_rg0 h1 hE
  · exact cs_rg1 h1 (cs_rg0 (hw.resolve_left h1) hE)
theorem c8_permit0 {l k : Nat} {c : Int32} (h : CS S x A n nT nL nE D F) (h24 : n ≤ 24) (h8 : nL ≤ 8) (hl : l < nL) (hk : k < 3) (h2 : ¬ (c < -1 ∨ 9999 < c)) (hQ : ∀ S', CS S' x A n nT nL nE D (g_2 F 21 (3 * l + k) c) → Q (F 21 (3 * l + k)) S') : wp_X8_permit S x (nI l) (nI (k + 1)) c Q EQ := by
  obtain ⟨l0, ⟨l1, l2, l3⟩, ⟨l4, l5, l6⟩, ⟨l7, l8, l9⟩, l10, l11⟩ := cs_l h hl
  have lva : lv11 n nL (48 + 3 * l + 2) := Or.inr (by omega)
  unfold wp_X8_permit
  refine ⟨h.1.1, c8_leaderAt1 h h8 hl (cs_rg1 ?_ (cs_rg1 h2 ?_))⟩
  · rw [i_lt, i_lt, nI_toInt (by omega), show (1 : Int32).toInt = 1 from rfl, show (3 : Int32).toInt = 3 from rfl]
    omega
  rw [rdS]
  refine ⟨l0, c5_permitOf h hl hk ?_⟩
  rw [rdS]
  refine ⟨l0, ?_⟩
  unfold wp_X5_setPermit
  rw [if_neg (nI_pos (by omega))]
  refine ⟨l0, ?_⟩
  rw [l3, rdS]
  refine ⟨l6, ?_⟩
  rw [l9, if_neg (show ¬ Int32.ofNat 4 ≤ nI (k + 1) from nI_ge (b := 4) (by omega) (by omega)), rdS]
  refine ⟨l6, by rw [l9]; exact vp_in_nI (by omega) (by omega), ?_⟩
  rw [nIc (by omega), lt_v]
  refine hQ _ (cs_lrow h h24 ⟨rfl, rfl, rfl, rfl, rfl, rfl, rfl⟩ (fun r hr => ?_) (fun r hr hr2 => ?_) (fun l' hl' k' hk' => ?_))
  · exact sR_ne (cs_ne11 h (Or.inl hr) lva (by omega))
  · funext i
    exact g_2n _ _ (fun w => hr2 w.1)
  · obtain ⟨-, -, -, -, -, w⟩ := cs_l h hl'
    obtain ⟨w1, w2⟩ := w k' hk'
    have la : lv11 n nL (48 + 3 * l') := Or.inr (by omega)
    have lb : lv11 n nL (48 + 3 * l' + 1) := Or.inr (by omega)
    have lc : lv11 n nL (48 + 3 * l' + 2) := Or.inr (by omega)
    rw [sR_ne (cs_ne11 h la lva (by omega)), sR_ne (cs_ne11 h lb lva (by omega))]
    refine ⟨w1, ?_⟩
    by_cases e : l' = l
    · subst e
      rw [sR_eq]
      by_cases ek : k' = k
      · subst ek
        rw [va_up_self]
        exact (g_2s _ _ _ _).symm
      · rw [va_up_ne _ _ (by omega), w2]
        exact (g_2n _ _ (fun w => by omega)).symm
    · rw [sR_ne (cs_ne11 h lc lva (by omega)), w2]
      exact (g_2n _ _ (fun w => by omega)).symm
theorem c8_teach1 {a b : Int32} (h : CS S x A n nT nL nE D F) (hv : a < 0 ∨ nI nL ≤ a) (hE : EQ "java/lang/IndexOutOfBoundsException" S) : wp_X8_teach S x a b Q EQ := by
  unfold wp_X8_teach
  exact ⟨h.1.1, c8_leaderAt0 h hv hE⟩
theorem c8_teach2 {l : Nat} {b : Int32} (h : CS S x A n nT nL nE D F) (h8 : nL ≤ 8) (hl : l < nL) (hw : b < 0 ∨ 65535 < b) (hE : EQ "java/lang/IllegalArgumentException" S) : wp_X8_teach S x (nI l) b Q EQ := by
  unfold wp_X8_teach
  exact ⟨h.1.1, c8_leaderAt1 h h8 hl (cs_rg0 hw hE)⟩
theorem c8_teach0 {l : Nat} {b : Int32} (h : CS S x A n nT nL nE D F) (h8 : nL ≤ 8) (hl : l < nL) (hw : ¬ (b < 0 ∨ 65535 < b)) (hQ : ∀ S', CS S' x A n nT nL nE D (g_2 F 22 l b) → Q (F 22 l) S') : wp_X8_teach S x (nI l) b Q EQ := by
  obtain ⟨l0, l1, l2, l3, l10, l11⟩ := cs_l h hl
  unfold wp_X8_teach
  refine ⟨h.1.1, c8_leaderAt1 h h8 hl (cs_rg1 hw ?_)⟩
  rw [rdS]
  refine ⟨l0, ?_⟩
  rw [l10, lt_v, rdS]
  refine ⟨l0, ?_⟩
  rw [lt_v]
  obtain ⟨h0, h1, h2, h3, h4, h5, h6, h7, h8', h9, h10⟩ := h
  refine hQ _ ⟨h0, h1, h2, h3, h4, h5, P_6_cg (F := F) rfl rfl rfl rfl h6, ⟨fun k hk => ?_, h7.2⟩, h8', h9, h10⟩
  obtain ⟨q0, q1, q2, q3, q4, q5⟩ := h7.1 k hk
  refine ⟨q0, q1, q2, q3, ?_, q5⟩
  by_cases e : k = l
  · subst e
    rw [g_2s]
    exact sI_eq
  · rw [show g_2 F 22 l b 22 k = F 22 k from g_2n _ _ (fun w => e w.2), ← q4]
    exact sI_ne (Or.inr (fun w => e (h7.2 k hk l hl w)))
end CVET
