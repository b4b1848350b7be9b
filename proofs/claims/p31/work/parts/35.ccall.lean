/-! THE CLASS: join, leave, patrol, duty, pass, troop, child -/
section CCALL
variable {S : Hp} {x : Nat} {A : Nat → Nat → Nat} {n nT nL nE : Nat} {D : Nat → Int32} {F : Nat → Nat → Int32} {Q : Int32 → Hp → Prop} {EQ : String → Hp → Prop}
theorem c8_join1a {a b : Int32} (h : CS S x A n nT nL nE D F) (hv : a < 0 ∨ nI n ≤ a) (hE : EQ "java/lang/IndexOutOfBoundsException" S) : wp_X8_join S x a b Q EQ := by
  unfold wp_X8_join
  exact ⟨h.1.1, c8_childAt0 h hv hE⟩
theorem c8_join1b {i : Nat} {b : Int32} (h : CS S x A n nT nL nE D F) (h24 : n ≤ 24) (hi : i < n) (hv : b < 0 ∨ nI nT ≤ b) (hE : EQ "java/lang/IndexOutOfBoundsException" S) : wp_X8_join S x (nI i) b Q EQ := by
  unfold wp_X8_join
  exact ⟨h.1.1, c8_childAt1 h h24 hi ⟨h.1.1, c8_troopAt0 h hv hE⟩⟩
theorem c8_join2 {i j : Nat} (h : CS S x A n nT nL nE D F) (h24 : n ≤ 24) (hi : i < n) (h6 : nT ≤ 6) (hj : j < nT) (hv : ¬ (F 7 i = -1 ∧ F 8 i = -1 ∧ fo F j i)) (hE : EQ "java/lang/IllegalStateException" S) : wp_X8_join S x (nI i) (nI j) Q EQ := by
  unfold wp_X8_join
  obtain ⟨c0, -, c6, c7, c8, -⟩ := cs_c h hi
  have p0 := (h.2.2.2.1 j hj).1
  refine ⟨h.1.1, c8_childAt1 h h24 hi ⟨h.1.1, c8_troopAt1 h h6 hj ?_⟩⟩
  rw [rdS]
  refine ⟨c0, ?_⟩
  rw [c7]
  by_cases h7 : F 7 i = -1
  · rw [if_pos h7, rdS]
    refine ⟨c0, ?_⟩
    rw [c8]
    by_cases h8 : F 8 i = -1
    · rw [if_pos h8, rdS]
      refine ⟨c0, ?_⟩
      rw [rdS]
      refine ⟨p0, c8_isFor h hj ?_⟩
      rw [c6]
      have e : ofA F j (F 6 i) = true := by
        cases q : ofA F j (F 6 i) with
        | true => rfl
        | false => exact absurd ⟨h7, h8, (fo_ofA F j i).mpr q⟩ hv
      rw [e, if_pos (show (bI !true) = 0 from rfl)]
      exact hE
    · rw [if_neg h8]
      exact hE
  · rw [if_neg h7]
    exact hE
theorem c8_joinT {i j : Nat} (h : CS S x A n nT nL nE D F) (h24 : n ≤ 24) (hi : i < n) (h6 : nT ≤ 6) (hj : j < nT) (h7 : F 7 i = -1) (h8 : F 8 i = -1) (h9 : fo F j i) (hQ : wp_X8_comeInOrWait S x (some (A 1 i)) (some (A 7 j)) Q) : wp_X8_join S x (nI i) (nI j) Q EQ := by
  unfold wp_X8_join
  obtain ⟨c0, -, c6, c7, c8, -⟩ := cs_c h hi
  have p0 := (h.2.2.2.1 j hj).1
  refine ⟨h.1.1, c8_childAt1 h h24 hi ⟨h.1.1, c8_troopAt1 h h6 hj ?_⟩⟩
  rw [rdS]
  refine ⟨c0, ?_⟩
  rw [c7, if_pos h7, rdS]
  refine ⟨c0, ?_⟩
  rw [c8, if_pos h8, rdS]
  refine ⟨c0, ?_⟩
  rw [rdS]
  refine ⟨p0, c8_isFor h hj ?_⟩
  rw [c6, (fo_ofA F j i).mp h9, if_neg (by decide)]
  exact ⟨h.1.1, hQ⟩
theorem c1_goOut {i : Nat} {Q : Hp → Prop} (h : CS S x A n nT nL nE D F) (hi : i < n) (hQ : ∀ S', CS S' x A n nT nL nE D (wOut F i) → Q S') : wp_X1_goOut S (A 1 i) Q := by
  obtain ⟨c0, c1, c6, c7, c8, c11, c9, c14, c12, c13⟩ := cs_c h hi
  unfold wp_X1_goOut
  refine ⟨c0, ?_⟩
  rw [lt_v]
  refine ⟨c0, ?_⟩
  rw [lt_v]
  refine ⟨c0, ?_⟩
  rw [lt_v]
  refine hQ _ (cs_child h hi (chW_s (chW_s (chW_s (chW_0 S _) (by decide) (by decide)) (by decide) (by decide)) (by decide) (by decide)) (chF_s (chF_s (chF_s (chF_0 F i) (by decide)) (by decide)) (by decide)) ?_)
  refine ⟨c6, ?_, ?_, ?_, Or.inl ?_, c14, c12, c13⟩
  · exact (sI_eq (S := S) (k := 102)).trans (g_2s (g_2 F 8 i (-1)) 7 i (-1)).symm
  · exact (sI_eq (S := s_I S 102 (A 1 i) (-1)) (k := 103)).trans (g_2s F 8 i (-1)).symm
  · exact sI_eq.trans (g_2s (g_2 (g_2 F 8 i (-1)) 7 i (-1)) 11 i (-1)).symm
  · exact g_2s F 8 i (-1)
theorem c8_leave1 {a : Int32} (h : CS S x A n nT nL nE D F) (hv : a < 0 ∨ nI n ≤ a) (hE : EQ "java/lang/IndexOutOfBoundsException" S) : wp_X8_leave S x a Q EQ := by
  unfold wp_X8_leave
  exact ⟨h.1.1, c8_childAt0 h hv hE⟩
theorem c8_leave2 {i : Nat} (h : CS S x A n nT nL nE D F) (h24 : n ≤ 24) (hi : i < n) (h7 : F 7 i = -1) (h8 : F 8 i = -1) (hE : EQ "java/lang/IllegalStateException" S) : wp_X8_leave S x (nI i) Q EQ := by
  unfold wp_X8_leave
  obtain ⟨c0, -, -, c7, c8, -⟩ := cs_c h hi
  refine ⟨h.1.1, c8_childAt1 h h24 hi ?_⟩
  rw [rdS]
  refine ⟨c0, ?_⟩
  rw [c7, if_pos h7, rdS]
  refine ⟨c0, ?_⟩
  rw [c8, if_pos h8]
  exact hE
theorem c8_leave3 {i : Nat} (h : CS S x A n nT nL nE D F) (h24 : n ≤ 24) (hi : i < n) (h7 : F 7 i = -1) (h8 : ¬ F 8 i = -1) (hQ : ∀ S', CS S' x A n nT nL nE D (wOut F i) → Q (-1) S') : wp_X8_leave S x (nI i) Q EQ := by
  unfold wp_X8_leave
  obtain ⟨c0, -, -, c7, c8, -⟩ := cs_c h hi
  refine ⟨h.1.1, c8_childAt1 h h24 hi ?_⟩
  rw [rdS]
  refine ⟨c0, ?_⟩
  rw [c7, if_pos h7, rdS]
  refine ⟨c0, ?_⟩
  rw [c8, if_neg h8, rdS]
  refine ⟨c0, ?_⟩
  rw [c7, lt_v, rdS]
  refine ⟨c0, c1_goOut h hi (fun S' h' => ?_)⟩
  rw [if_pos h7]
  exact hQ S' h'
theorem c8_leave4 {i : Nat} (h : CS S x A n nT nL nE D F) (h24 : n ≤ 24) (hi : i < n) (h7 : ¬ F 7 i = -1) (h0 : fiW (wOut F i) (F 7 i) n = none → ∀ S', CS S' x A n nT nL nE D (wOut F i) → Q (-1) S') (h1 : ∀ f, fiW (wOut F i) (F 7 i) n = some f → ∀ S', CS S' x A n nT nL nE D (cIn (wOut F i) n f (F 7 i)) → Q (nI f) S') : wp_X8_leave S x (nI i) Q EQ := by
  unfold wp_X8_leave
  obtain ⟨c0, -, -, c7, c8, -⟩ := cs_c h hi
  refine ⟨h.1.1, c8_childAt1 h h24 hi ?_⟩
  rw [rdS]
  refine ⟨c0, ?_⟩
  rw [c7, if_neg h7, rdS]
  refine ⟨c0, ?_⟩
  rw [c7, lt_v, rdS]
  refine ⟨c0, c1_goOut h hi (fun S' h' => ?_)⟩
  rw [if_neg h7]
  exact ⟨h'.1.1, c8_letFirstIn h' h24 h7 (fun e => h0 e S' h') h1⟩
theorem c8_patrol1 {a b : Int32} (h : CS S x A n nT nL nE D F) (hv : a < 0 ∨ nI n ≤ a) (hE : EQ "java/lang/IndexOutOfBoundsException" S) : wp_X8_patrol S x a b Q EQ := by
  unfold wp_X8_patrol
  exact ⟨h.1.1, c8_childAt0 h hv hE⟩
theorem c8_patrol2 {i : Nat} {b : Int32} (h : CS S x A n nT nL nE D F) (h24 : n ≤ 24) (hi : i < n) (hv : b < 0 ∨ 3 < b) (hE : EQ "java/lang/IllegalArgumentException" S) : wp_X8_patrol S x (nI i) b Q EQ := by
  unfold wp_X8_patrol
  exact ⟨h.1.1, c8_childAt1 h h24 hi (cs_rg0 hv hE)⟩
theorem c8_patrol3 {i : Nat} {b : Int32} (h : CS S x A n nT nL nE D F) (h24 : n ≤ 24) (hi : i < n) (hv : ¬ (b < 0 ∨ 3 < b)) (h7 : F 7 i = -1) (hE : EQ "java/lang/IllegalStateException" S) : wp_X8_patrol S x (nI i) b Q EQ := by
  unfold wp_X8_patrol
  obtain ⟨c0, -, -, c7, -⟩ := cs_c h hi
  refine ⟨h.1.1, c8_childAt1 h h24 hi (cs_rg1 hv ?_)⟩
  rw [rdS]
  refine ⟨c0, ?_⟩
  rw [c7, if_pos h7]
  exact hE
theorem c8_patrol0 {i : Nat} {b : Int32} (h : CS S x A n nT nL nE D F) (h24 : n ≤ 24) (hi : i < n) (hv : ¬ (b < 0 ∨ 3 < b)) (h7 : ¬ F 7 i = -1) (hQ : ∀ S', CS S' x A n nT nL nE D (g_2 F 11 i b) → Q (F 11 i) S') : wp_X8_patrol S x (nI i) b Q EQ := by
  unfold wp_X8_patrol
  obtain ⟨c0, c1, c6, c7, c8, c11, c9, c14, c12, c13⟩ := cs_c h hi
  refine ⟨h.1.1, c8_childAt1 h h24 hi (cs_rg1 hv ?_)⟩
  rw [rdS]
  refine ⟨c0, ?_⟩
  rw [c7, if_neg h7, rdS]
  refine ⟨c0, ?_⟩
  rw [c11, lt_v, rdS]
  refine ⟨c0, ?_⟩
  rw [lt_v]
  exact hQ _ (cs_child h hi (chW_s (chW_0 S _) (by decide) (by decide)) (chF_s (chF_0 F i) (by decide)) ⟨c6, c7, c8, sI_eq.trans (g_2s F 11 i b).symm, c9, c14, c12, c13⟩)
theorem c8_filled {t : Int32} (h : CS S x A n nT nL nE D F) (h24 : n ≤ 24) (hQ : Q (nI (fiP F n t 4)) S) : wp_X8_filledPatrols S x t Q := by
  have hL : ∀ (fuel k : Nat), k ≤ 4 → 4 < k + fuel → wp_X8_filledPatrols_L4 x t Q fuel S (nI (fiP F n t k)) (nI k) := by
    intro fuel
    induction fuel with
    | zero => intro k h1 h2; omega
    | succ f ih =>
      intro k h1 h2
      unfold wp_X8_filledPatrols_L4
      by_cases hk : k = 4
      · subst hk
        rw [if_pos (by decide)]
        exact hQ
      · rw [if_neg (show ¬ (4 : Int32) ≤ nI k from nI_ge (b := 4) (by omega) (by omega))]
        refine ⟨h.1.1, c8_inPatrol h h24 ?_⟩
        have hs := ih (k + 1) (by omega) (by omega)
        have l1 := inP_le F n t (nI k)
        rw [show nI k + 1 = nI (k + 1) from nI_add k 1]
        by_cases hz : inP F n t (nI k) = 0
        · rw [if_pos ((nI_le0 (by omega)).mpr hz)]
          have e2 : fiP F n t (k + 1) = fiP F n t k := by
            simp [fiP, ct, hz]
          rw [e2] at hs
          exact hs
        · rw [if_neg (fun q => hz ((nI_le0 (by omega)).mp q)), nI_1]
          have e2 : fiP F n t (k + 1) = fiP F n t k + 1 := by
            simp only [fiP, ct]
            rw [if_pos (by simp; omega)]
          rw [e2] at hs
          exact hs
  unfold wp_X8_filledPatrols
  exact ⟨5, hL 5 0 (by omega) (by omega)⟩
theorem fiP_mono (F : Nat → Nat → Int32) (n : Nat) (t : Int32) {a b : Nat} (h : a ≤ b) : fiP F n t a ≤ fiP F n t b := by
  unfold fiP
  rw [ct_fb, ct_fb]
  exact fb_ct_mono _ h
theorem fiP_s (F : Nat → Nat → Int32) (n : Nat) (t : Int32) {k : Nat} (hz : ¬ inP F n t (nI k) = 0) : fiP F n t (k + 1) = fiP F n t k + 1 := by
  simp only [fiP, ct]
  rw [if_pos (by simp; omega)]
theorem duP_stays {F : Nat → Nat → Int32} {n l p : Nat} {t : Int32} (hz : ¬ inP F n t (nI p) = 0) (hl : fiP F n t p = l) : ∀ q, p < q → duP F n t l q = nI p
  | 0, h => by omega
  | q + 1, h => by
    by_cases e : q = p
    · subst e
      rw [duP, if_pos ⟨by omega, hl⟩]
    · rw [duP, if_neg (fun w => ?_)]
      · exact duP_stays hz hl q (by omega)
      · have h1 := fiP_s F n t hz
        have h2 := fiP_mono F n t (show p + 1 ≤ q by omega)
        omega
theorem c8_filledAt {t : Int32} {l : Nat} (h : CS S x A n nT nL nE D F) (h24 : n ≤ 24) (hl : l < 8) (hQ : Q (duP F n t l 4) S) : wp_X8_filledPatrolAt S x t (nI l) Q := by
  have hL : ∀ (fuel k : Nat), k ≤ 4 → 4 < k + fuel → duP F n t l k = -1 → wp_X8_filledPatrolAt_L5 x t (nI l) Q fuel S (nI (fiP F n t k)) (nI k) := by
    intro fuel
    induction fuel with
    | zero => intro k h1 h2; omega
    | succ f ih =>
      intro k h1 h2 h3
      unfold wp_X8_filledPatrolAt_L5
      by_cases hk : k = 4
      · subst hk
        rw [if_pos (by decide)]
        rw [h3] at hQ
        exact hQ
      · rw [if_neg (show ¬ (4 : Int32) ≤ nI k from nI_ge (b := 4) (by omega) (by omega))]
        refine ⟨h.1.1, c8_inPatrol h h24 ?_⟩
        have hs := ih (k + 1) (by omega) (by omega)
        have l1 := inP_le F n t (nI k)
        have l2 : fiP F n t k ≤ k := ct_le _ k
        rw [show nI k + 1 = nI (k + 1) from nI_add k 1]
        by_cases hz : inP F n t (nI k) = 0
        · rw [if_pos ((nI_le0 (by omega)).mpr hz)]
          have e2 : fiP F n t (k + 1) = fiP F n t k := by
            simp [fiP, ct, hz]
          rw [e2] at hs
          exact hs (by rw [duP, if_neg (by omega)]; exact h3)
        · rw [if_neg (fun q => hz ((nI_le0 (by omega)).mp q))]
          by_cases e : fiP F n t k = l
          · rw [if_pos (by rw [e])]
            rw [duP_stays hz e 4 (by omega)] at hQ
            exact hQ
          · rw [if_neg (nI_ne (by omega) (by omega) e), nI_1]
            rw [fiP_s F n t hz] at hs
            exact hs (by rw [duP, if_neg (fun w => e w.2)]; exact h3)
  unfold wp_X8_filledPatrolAt
  exact ⟨5, hL 5 0 (by omega) (by omega) rfl⟩
theorem c8_duty1 {a b : Int32} (h : CS S x A n nT nL nE D F) (hv : a < 0 ∨ nI nT ≤ a) (hE : EQ "java/lang/IndexOutOfBoundsException" S) : wp_X8_duty S x a b Q EQ := by
  unfold wp_X8_duty
  exact ⟨h.1.1, c8_troopAt0 h hv hE⟩
theorem c8_duty2 {j : Nat} {b : Int32} (h : CS S x A n nT nL nE D F) (h6 : nT ≤ 6) (hj : j < nT) (hv : b < 0 ∨ 9999 < b) (hE : EQ "java/lang/IllegalArgumentException" S) : wp_X8_duty S x (nI j) b Q EQ := by
  unfold wp_X8_duty
  exact ⟨h.1.1, c8_troopAt1 h h6 hj (cs_rg0 hv hE)⟩
theorem c8_duty0 {j d : Nat} (h : CS S x A n nT nL nE D F) (h24 : n ≤ 24) (h6 : nT ≤ 6) (hj : j < nT) (hd : d < 10000) (hQ : Q (if fiP F n (nI j) 4 = 0 then -1 else duP F n (nI j) (d % fiP F n (nI j) 4) 4) S) : wp_X8_duty S x (nI j) (nI d) Q EQ := by
  unfold wp_X8_duty
  obtain ⟨p0, p1, -⟩ := h.2.2.2.1 j hj
  refine ⟨h.1.1, c8_troopAt1 h h6 hj (cs_rg1 (rng (N := 9999) (by omega) (by omega)) ?_)⟩
  rw [rdS]
  refine ⟨p0, h.1.1, ?_⟩
  rw [p1]
  refine c8_filled h h24 ?_
  have hf : fiP F n (nI j) 4 ≤ 4 := ct_le _ 4
  by_cases hz : fiP F n (nI j) 4 = 0
  · rw [if_pos (by rw [hz]; rfl)]
    rw [if_pos hz] at hQ
    exact hQ
  · have hz2 : ¬ nI (fiP F n (nI j) 4) = 0 := nI_ne0 (by omega) (by omega)
    rw [if_neg hz2, rdS]
    refine ⟨p0, hz2, h.1.1, ?_⟩
    rw [p1, pk_rem (by omega) (by omega) (by omega)]
    rw [if_neg hz] at hQ
    have hm := Nat.mod_lt d (show 0 < fiP F n (nI j) 4 by omega)
    exact c8_filledAt h h24 (by omega) hQ
theorem c8_pass1 {a : Int32} (hv : a < 1 ∨ 400 < a) (hE : EQ "java/lang/IllegalArgumentException" S) : wp_X8_pass S x a Q EQ := by
  unfold wp_X8_pass
  exact cs_rg0 hv hE
theorem c8_pass2 {a : Int32} (h : CS S x A n nT nL nE D F) (hv : ¬ (a < 1 ∨ 400 < a)) (hd : ¬ D 0 + a ≤ 9999) (hE : EQ "java/lang/IllegalStateException" S) : wp_X8_pass S x a Q EQ := by
  unfold wp_X8_pass
  refine cs_rg1 hv ⟨h.1.1, ?_⟩
  rw [h.1.2.2.1, if_neg hd]
  exact hE
theorem c8_pass0 {a : Int32} (h : CS S x A n nT nL nE D F) (hv : ¬ (a < 1 ∨ 400 < a)) (hd : D 0 + a ≤ 9999) (hQ : ∀ S', CS S' x A n nT nL nE (upD D 0 (D 0 + a)) F → Q (D 0 + a) S') : wp_X8_pass S x a Q EQ := by
  unfold wp_X8_pass
  refine cs_rg1 hv ⟨h.1.1, ?_⟩
  rw [h.1.2.2.1, if_pos hd, lt_v]
  refine ⟨h.1.1, ?_⟩
  rw [sI_eq]
  exact hQ _ (cs_805 h)
theorem c8_today {Q : Int32 → Hp → Prop} (h : CS S x A n nT nL nE D F) (hQ : Q (D 0) S) : wp_X8_today S x Q := by
  unfold wp_X8_today
  refine ⟨h.1.1, ?_⟩
  rw [h.1.2.2.1]
  exact hQ
end CCALL
