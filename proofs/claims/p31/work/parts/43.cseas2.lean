/-! THE CLASS: a season, its second and third step -/
section CSEAS2
variable {S : Hp} {x : Nat} {A : Nat → Nat → Nat} {n nT nL nE : Nat} {D : Nat → Int32} {F : Nat → Nat → Int32} {Q : Int32 → Hp → Prop} {EQ : String → Hp → Prop}
theorem c8_fillUp {t : Nat} {Q : Hp → Prop} (h : CS S x A n nT nL nE D F) (h24 : n ≤ 24) (ht : t < nT) (hR : RM F nT) (hQ : ∀ S', CS S' x A n nT nL nE D (filT F n t) → Q S') (h6 : nT ≤ 6) : wp_X8_fillUp S x (some (A 7 t)) Q := by
  have hL : ∀ (q : Nat), q < 2 ^ 30 → ∀ (fuel k : Nat) (S : Hp) (F : Nat → Nat → Int32), CS S x A n nT nL nE D F → k ≤ q → q < k + fuel → (∀ S', CS S' x A n nT nL nE D (itr F n (nI t) (q - k)) → Q S') → wp_X8_fillUp_L16 x (some (A 7 t)) (nI q) Q fuel S (nI k) := by
    intro q hq fuel
    induction fuel with
    | zero => intro k S F _ h1 h2; omega
    | succ f ih =>
      intro k S F h h1 h2 hQ
      unfold wp_X8_fillUp_L16
      by_cases e : k = q
      · subst e
        rw [if_pos (nI_le (Nat.le_refl _) (by omega))]
        rw [Nat.sub_self] at hQ
        exact hQ S h
      · rw [if_neg (nI_ge (by omega) (by omega)), rdS]
        obtain ⟨p0, p1, -⟩ := h.2.2.2.1 t ht
        refine ⟨p0, h.1.1, ?_⟩
        rw [p1]
        have es : q - k = (q - (k + 1)) + 1 := by omega
        rw [es] at hQ
        refine c8_letFirstIn h h24 (nI_m1 (by omega)) (fun e0 => ?_) (fun f0 e0 S' h' => ?_)
        · rw [show nI k + 1 = nI (k + 1) from nI_add k 1]
          refine ih (k + 1) S F h (by omega) (by omega) (fun S' h' => hQ S' ?_)
          show CS S' x A n nT nL nE D (itr (lf1 F n (nI t)) n (nI t) _)
          have e1 : lf1 F n (nI t) = F := by simp [lf1, e0]
          rw [e1]
          exact h'
        · rw [show nI k + 1 = nI (k + 1) from nI_add k 1]
          refine ih (k + 1) S' _ h' (by omega) (by omega) (fun S' h' => hQ S' ?_)
          show CS S' x A n nT nL nE D (itr (lf1 F n (nI t)) n (nI t) _)
          have e1 : lf1 F n (nI t) = cIn F n f0 (nI t) := by simp [lf1, e0]
          rw [e1]
          exact h'
  obtain ⟨p0, p1, -, -, p4⟩ := h.2.2.2.1 t ht
  obtain ⟨r, hr, er⟩ := hR t ht
  have hc := inT_le F n (nI t)
  unfold wp_X8_fillUp
  rw [rdS]
  refine ⟨p0, ?_⟩
  rw [rdS]
  refine ⟨p0, h.1.1, ?_⟩
  rw [p1]
  refine c8_childrenIn h h24 ?_
  rw [lt_v, p4, er]
  have hQ' : ∀ S', CS S' x A n nT nL nE D (itr F n (nI t) (r - inT F n (nI t))) → Q S' := fun S' h' => hQ S' (by
    unfold filT
    rw [er, nIc (by omega)]
    exact h')
  by_cases c : inT F n (nI t) ≤ r
  · rw [pk_sub c]
    exact ⟨r - inT F n (nI t) + 1, hL _ (by omega) _ 0 S F h (by omega) (by omega) hQ'⟩
  · refine ⟨1, ?_⟩
    unfold wp_X8_fillUp_L16
    have := pk_sneg (a := r) (b := inT F n (nI t)) (by omega) (by omega)
    rw [if_pos (by rw [i_le]; rw [i_lt] at this; omega)]
    rw [show r - inT F n (nI t) = 0 by omega] at hQ'
    exact hQ' S h
theorem RM_filA (h : RM F nT) (k : Nat) : RM (filA F n k) nT := fun t ht => by
  rw [filA_4]
  exact h t ht
theorem loF_stays {c t : Nat} : ∀ {k m : Nat}, loF F c k = some t → k ≤ m → loF F c m = some t
  | k, 0, h, hm => by
    have : k = 0 := by omega
    subst this
    exact h
  | k, m + 1, h, hm => by
    by_cases e : k = m + 1
    · subst e
      exact h
    · have := loF_stays (k := k) (m := m) h (by omega)
      unfold loF
      rw [this]
theorem c8_moveUp {c : Nat} {Q : Hp → Prop} (h : CS S x A n nT nL nE D F) (h24 : n ≤ 24) (h6 : nT ≤ 6) (hc : c < n) (hQ : ∀ S', CS S' x A n nT nL nE (lwD D F n nT c) (lwF D F n nT c) → Q S') : wp_X8_moveUp S x (some (A 1 c)) Q := by
  have hL : ∀ (fuel k : Nat), k ≤ nT → nT < k + fuel → loF F c k = none → wp_X8_moveUp_L2 x (some (A 1 c)) Q fuel S (nI k) := by
    intro fuel
    induction fuel with
    | zero => intro k h1 h2; omega
    | succ f ih =>
      intro k h1 h2 h3
      unfold wp_X8_moveUp_L2
      refine cs_turnT (Q := fun _ S => Q S) (K := fun r12 S11 => rd S11 1 (some (A 1 c)) (fun a14 => rd S11 7 r12 _)) h h6 h1 (fun e => ?_) (fun hk => ?_)
      · subst e
        refine hQ S ?_
        unfold lwD lwF
        rw [h3]
        exact h
      · obtain ⟨c0, -, c6, -⟩ := cs_c h hc
        have p0 := (h.2.2.2.1 k hk).1
        rw [rdS]
        refine ⟨c0, ?_⟩
        show rd S 7 (some (A 7 k)) _
        rw [rdS]
        refine ⟨p0, c8_isFor h hk ?_⟩
        rw [c6]
        cases ho : ofA F k (F 6 c) with
        | true =>
          rw [if_pos (show bI (!true) = 0 from rfl), show nI k + 1 = nI (k + 1) from nI_add k 1]
          refine ih (k + 1) (by omega) (by omega) ?_
          unfold loF
          rw [h3, ho]
          rfl
        | false =>
          rw [if_neg (show ¬ bI (!false) = 0 by decide)]
          have e1 : loF F c nT = some k := loF_stays (k := k + 1) (by
            unfold loF
            rw [h3, ho]
            rfl) (by omega)
          refine lk_get (el := A 7) h.1.1 h.1.2.1.1 (cs_L h (show 0 < 12 by decide)) hk p0 ⟨h.1.1, ?_⟩
          refine c8_comeOrWait h h24 hc hk (fun c1 S' h' => hQ S' ?_) (fun c1 S' h' => hQ S' ?_)
          · unfold lwD lwF
            rw [e1]
            show CS S' x A n nT nL nE (jnD D F n k) (jnF D F n c k)
            unfold jnD jnF
            rw [if_pos c1, if_pos c1]
            exact h'
          · unfold lwD lwF
            rw [e1]
            show CS S' x A n nT nL nE (jnD D F n k) (jnF D F n c k)
            unfold jnD jnF
            rw [if_neg c1, if_neg c1]
            exact h'
  unfold wp_X8_moveUp
  exact ⟨nT + 1, hL (nT + 1) 0 (by omega) (by omega) rfl⟩
theorem lwF_row (n N c j : Nat) (h7 : j ≠ 7) (h8 : j ≠ 8) (h9 : j ≠ 9) (h11 : j ≠ 11) : lwF D F n N c j = F j := by
  unfold lwF
  cases loF F c N with
  | none => rfl
  | some t =>
    show jnF D F n c t j = F j
    unfold jnF
    split
    · funext i
      simp [cIn, h7, h8, h11]
    · funext i
      simp [joW, g_2, h8, h9]
theorem sJD_row (n N j : Nat) (h7 : j ≠ 7) (h8 : j ≠ 8) (h9 : j ≠ 9) (h11 : j ≠ 11) : ∀ k, (sJD n N D F k).2 j = F j
  | 0 => rfl
  | k + 1 => by
    unfold sJD
    split
    · exact sJD_row n N j h7 h8 h9 h11 k
    · rw [show (lwD (sJD n N D F k).1 (sJD n N D F k).2 n N k, lwF (sJD n N D F k).1 (sJD n N D F k).2 n N k).2 j = _ from lwF_row n N k j h7 h8 h9 h11]
      exact sJD_row n N j h7 h8 h9 h11 k
theorem itr_row (n : Nat) (t : Int32) (j : Nat) (h7 : j ≠ 7) (h8 : j ≠ 8) (h11 : j ≠ 11) : ∀ (k : Nat) (F : Nat → Nat → Int32), itr F n t k j = F j
  | 0, _ => rfl
  | k + 1, F => by
    show itr (lf1 F n t) n t k j = F j
    rw [itr_row n t j h7 h8 h11 k]
    unfold lf1
    cases fiW F t n with
    | none => rfl
    | some f =>
      funext i
      simp [cIn, h7, h8, h11]
theorem filA_row (F : Nat → Nat → Int32) (n j : Nat) (h7 : j ≠ 7) (h8 : j ≠ 8) (h11 : j ≠ 11) : ∀ k, filA F n k j = F j
  | 0 => rfl
  | k + 1 => by
    show itr _ _ _ _ j = F j
    rw [itr_row _ _ _ h7 h8 h11, filA_row F n j h7 h8 h11 k]
theorem c8_season3 {s : Nat} (h24 : n ≤ 24) (h6 : nT ≤ 6) (hs : ∀ i, i < n → (s.testBit i = true ↔ ¬ F 15 i = 0)) (hQ : ∀ S', CS S' x A n nT nL nE (sJD n nT D F n).1 (sJD n nT D F n).2 → wp_J6_bitCount_0f7a4 S' (nI s) Q) : ∀ (fuel k : Nat) (S : Hp), CS S x A n nT nL nE (sJD n nT D F k).1 (sJD n nT D F k).2 → k ≤ n → n < k + fuel → wp_X8_season_L80 x (nI s) Q fuel S (nI k) := by
  intro fuel
  induction fuel with
  | zero => intro k S _ h1 h2; omega
  | succ f ih =>
    intro k S h h1 h2
    unfold wp_X8_season_L80
    have hl : LK S (A 10 1) (A 15 1) n (A 1) := cs_L h (show 1 < 12 by decide)
    refine lk_size h.1.1 h.1.2.1.2.1 hl ?_
    show if nI n ≤ nI k then _ else _
    by_cases e : n ≤ k
    · rw [if_pos (nI_le e (by omega))]
      have : k = n := by omega
      subst this
      exact hQ S h
    · rw [if_neg (nI_ge (by omega) (by omega))]
      refine c8_hasBit (by omega) ?_
      rw [show nI k + 1 = nI (k + 1) from nI_add k 1]
      have e15 : (sJD n nT D F k).2 15 = F 15 := sJD_row n nT 15 (by decide) (by decide) (by decide) (by decide) k
      have hs' := ih (k + 1)
      unfold sJD at hs'
      rw [e15] at hs'
      cases hb : s.testBit k with
      | false =>
        rw [if_pos (show bI false = 0 from rfl)]
        have hz : F 15 k = 0 := by
          by_cases z : F 15 k = 0
          · exact z
          · rw [(hs k (by omega)).mpr z] at hb
            exact absurd hb (by decide)
        rw [if_pos hz] at hs'
        exact hs' S h (by omega) (by omega)
      | true =>
        rw [if_neg (show ¬ bI true = 0 by decide)]
        rw [if_neg ((hs k (by omega)).mp hb)] at hs'
        refine lk_get h.1.1 h.1.2.1.2.1 hl (by omega) (h.2.2.2.2.1.1 k (by omega)).1 ⟨h.1.1, ?_⟩
        exact c8_moveUp h h24 h6 (by omega) (fun S' h' => hs' S' h' (by omega) (by omega))
theorem c8_season2 {s : Nat} (h24 : n ≤ 24) (h6 : nT ≤ 6) (hR : RM F nT) (hs : ∀ i, i < n → (s.testBit i = true ↔ ¬ F 15 i = 0)) (hQ : ∀ S', CS S' x A n nT nL nE (sJD n nT D (filA F n nT) n).1 (sJD n nT D (filA F n nT) n).2 → wp_J6_bitCount_0f7a4 S' (nI s) Q) : ∀ (fuel k : Nat) (S : Hp), CS S x A n nT nL nE D (filA F n k) → k ≤ nT → nT < k + fuel → wp_X8_season_L46 x (nI s) Q fuel S (nI k) := by
  intro fuel
  induction fuel with
  | zero => intro k S _ h1 h2; omega
  | succ f ih =>
    intro k S h h1 h2
    unfold wp_X8_season_L46
    refine cs_turnT (Q := fun _ S => ∃ n35, wp_X8_season_L80 x (nI s) Q n35 S (0 : Int32)) (K := fun r12 S11 => okA S11 8 x ∧ wp_X8_fillUp S11 x r12 _) h h6 h1 (fun e => ?_) (fun hk => ?_)
    · subst e
      refine ⟨n + 1, c8_season3 (F := filA F n k) h24 h6 (fun i hi => ?_) hQ (n + 1) 0 S h (by omega) (by omega)⟩
      rw [filA_row F n 15 (by decide) (by decide) (by decide)]
      exact hs i hi
    · refine ⟨h.1.1, c8_fillUp h h24 hk (RM_filA hR k) (fun S' h' => ?_) h6⟩
      rw [show nI k + 1 = nI (k + 1) from nI_add k 1]
      exact ih (k + 1) S' h' (by omega) (by omega)
theorem c8_season (h : CS S x A n nT nL nE D F) (h24 : n ≤ 24) (h6 : nT ≤ 6) (hP : PL F n nT) (hR : RM F nT) (hQ : ∀ S', CS S' x A n nT nL nE (seaD D F n nT) (seaF D F n nT) → Q (nI (ct (lfB F) n)) S') : wp_X8_season S x Q := by
  have hL : ∀ (fuel k : Nat) (S : Hp), CS S x A n nT nL nE D (agF F k) → k ≤ n → n < k + fuel → wp_X8_season_L2 x Q fuel S (nI k) := by
    intro fuel
    induction fuel with
    | zero => intro k S _ h1 h2; omega
    | succ f ih =>
      intro k S h h1 h2
      unfold wp_X8_season_L2
      refine cs_turn (Q := fun _ S => okA S 8 x ∧ wp_X8_sendOutByAge S x _) (K := fun r12 S11 => rd S11 1 r12 _) h h24 h1 (fun e => ?_) (fun hk => ?_)
      · subst e
        rw [← soF_0] at h
        refine ⟨h.1.1, c8_sendOut hP h24 h6 h (fun S' h' => ⟨nT + 1, ?_⟩)⟩
        have h1' : CS S' x A k nT nL nE D (filA (s1 F k) k 0) := cs_cg h' (soF_end hP h6)
        refine c8_season2 (F := s1 F k) (k := 0) h24 h6 (fun t ht => ?_) (fun i hi => ?_) (fun S2 h2 => ?_) (nT + 1) S' h1' (by omega) (by omega)
        · rw [s1_row F k 4 (by decide)]
          exact hR t ht
        · rw [s1_at, if_pos hi, bs_bit]
          simp only [hi, decide_true, Bool.true_and]
          unfold stp
          simp only [if_true, show ¬ (15 : Nat) = 6 by decide, show ¬ (15 : Nat) = 7 by decide, show ¬ (15 : Nat) = 11 by decide, show ¬ (15 : Nat) = 8 by decide, if_false]
          cases lfB F i <;> simp
        · refine cJ_bitCount (bs_lt24 h24) ?_
          rw [bs_pop h24]
          exact hQ S2 h2
      · obtain ⟨c0, c1, c6, c7, c8, c11, c9, c14, c12, c13⟩ := cs_c h hk
        show rd S 1 (some (A 1 k)) _
        rw [rdS]
        refine ⟨c0, ?_⟩
        rw [rdS]
        refine ⟨c0, ?_⟩
        rw [lt_v, show nI k + 1 = nI (k + 1) from nI_add k 1]
        refine ih (k + 1) _ ?_ (by omega) (by omega)
        rw [← agF_s, c6]
        refine cs_child h hk (chW_s (chW_0 S _) (by decide) (by decide)) (chF_s (chF_0 _ k) (by decide)) ⟨?_, c7, c8, c11, c9, c14, c12, c13⟩
        exact sI_eq.trans (g_2s (agF F k) 6 k _).symm
  unfold wp_X8_season
  have e0 : agF F 0 = F := by
    funext j i
    simp [agF]
  exact ⟨n + 1, hL (n + 1) 0 S (by rw [e0]; exact h) (by omega) (by omega)⟩
end CSEAS2
