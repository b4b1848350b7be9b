/-! DAYS -/
section DAYS
variable {n nL nE d : Nat} {D : Nat → Int32} {F F' : Nat → Nat → Int32} {S S1 S2 : Hp} {x m dd aa : Nat} {Q : Int32 → Hp → Hp → Hp → Prop}
/-- the sum of the ages -/
def sm6 (F : Nat → Nat → Int32) : Nat → Int32
  | 0 => 0
  | k + 1 => sm6 F k + F 6 k
theorem sm6_s (k : Nat) : sm6 F (k + 1) = sm6 F k + F 6 k := rfl
theorem dy_56 {a z r : Int32} {G : Nat → Nat → Int32} {t : Nat} (hI : JV n nL nE d D F) (h2 : RS S2 m (n, 4, nL, nE, D, F)) (hA : DA S dd n nL nE F) (h6 : ∀ i, i < n → F 6 i = G 6 i + 1) (hr : r = nI t) (ht : t ≤ n) (hQ : ∀ U1 U2 U, JJ U1 U2 U x m dd → Q 1 U1 U2 U) : ∀ (j k : Nat), k + j = n → ∀ (fuel : Nat) (S1 : Hp) (v : Int32), n < k + fuel → RS S1 x (n, 4, nL, nE, D, F) → v + sm6 G k = sm6 G n → wp_L_days_L56 Q x m dd a z r fuel S1 S2 S v (nI k) := by
  obtain ⟨n24, l8, e20, d4, gd⟩ := iv_N hI
  have e0 : g_R S dd (0 : Int32).toNatClampNeg = nI n := hA.2.2.1
  have v0 := da_v (k := 0) hA (by decide)
  intro j
  induction j with
  | zero =>
    intro k hk fuel S1 v hf h hv
    obtain ⟨f, rfl⟩ : ∃ f, fuel = f + 1 := ⟨fuel - 1, by omega⟩
    have : k = n := by omega
    subst this
    unfold wp_L_days_L56
    refine ⟨hA.1, v0, ?_⟩
    rw [e0, if_pos ((nI_le_iff (by omega) (by omega)).mpr (Nat.le_refl _)), hr, if_neg (nI_pos (by omega))]
    refine ⟨v0, ?_⟩
    rw [if_neg (fun w => by have := (nI_lt_iff (by omega) (by omega)).mp w; omega)]
    have hz : v = 0 := by
      have := congrArg (fun q => q - sm6 G k) hv
      rw [add_sub, Int32.sub_self] at this
      exact this
    exact q1 hz (hQ _ _ _ ⟨_, nL, nE, d, D, F, hI, h, h2, hA⟩)
  | succ j ih =>
    intro k hk fuel S1 v hf h hv
    obtain ⟨f, rfl⟩ : ∃ f, fuel = f + 1 := ⟨fuel - 1, by omega⟩
    unfold wp_L_days_L56
    refine ⟨hA.1, v0, ?_⟩
    rw [e0, if_neg (fun w => by have := (nI_le_iff (by omega) (by omega)).mp w; omega)]
    refine ⟨rs_ok h, oc0 h hI (by omega) ?_⟩
    rw [lt_v, h6 k (by omega), add_sub, nI_s1]
    refine ih (k + 1) (by omega) f S1 _ (by omega) h ?_
    rw [sm6_s, Int32.add_comm (sm6 G k), ← Int32.add_assoc, Int32.sub_add_cancel]
    exact hv
theorem dy_14 {a z : Int32} (hI : JV n nL nE d D F) (h2 : RS S2 m (n, 4, nL, nE, D, F)) (hA : DA S dd n nL nE F) (hQ : ∀ U1 U2 U, JJ U1 U2 U x m dd → Q 1 U1 U2 U) : ∀ (j k : Nat), k + j = n → ∀ (fuel : Nat) (S1 : Hp), n < k + fuel → RS S1 x (n, 4, nL, nE, D, F) → wp_L_days_L14 Q x m dd a z fuel S1 S2 S (sm6 F k) (nI k) := by
  obtain ⟨n24, l8, e20, d4, gd⟩ := iv_N hI
  have e0 : g_R S dd (0 : Int32).toNatClampNeg = nI n := hA.2.2.1
  have v0 := da_v (k := 0) hA (by decide)
  intro j
  induction j with
  | zero =>
    intro k hk fuel S1 hf h
    obtain ⟨f, rfl⟩ : ∃ f, fuel = f + 1 := ⟨fuel - 1, by omega⟩
    have : k = n := by omega
    subst this
    unfold wp_L_days_L14
    refine ⟨hA.1, v0, ?_⟩
    rw [e0, if_pos ((nI_le_iff (by omega) (by omega)).mpr (Nat.le_refl _))]
    refine both_of (do_season hI) h h2 (fun U1 U2 r1 r2 => ?_)
    exact ⟨_, dy_56 (iv_season hI) r2 (da_cg hA (sea_row 23 (by decide) (by decide) (by decide) (by decide) (by decide) (by decide)) (sea_row 28 (by decide) (by decide) (by decide) (by decide) (by decide) (by decide))) (fun i hi => sea_6 hi) rfl (ct_le _ _) hQ k 0 (by omega) (k + 1) U1 _ (by omega) r1 (Int32.add_zero _)⟩
  | succ j ih =>
    intro k hk fuel S1 hf h
    obtain ⟨f, rfl⟩ : ∃ f, fuel = f + 1 := ⟨fuel - 1, by omega⟩
    unfold wp_L_days_L14
    refine ⟨hA.1, v0, ?_⟩
    rw [e0, if_neg (fun w => by have := (nI_le_iff (by omega) (by omega)).mp w; omega)]
    refine ⟨rs_ok h, oc0 h hI (by omega) ?_⟩
    rw [lt_v, nI_s1, ← sm6_s]
    exact ih (k + 1) (by omega) f S1 (by omega) h
/-! a day passes -/
theorem da_o {k : Nat} {v : Int32} (h : DA S dd n nL nE F) (ha : dd ≠ aa) : DA (s_R S aa k v) dd n nL nE F := by
  obtain ⟨h1, h2, h3, h4, h5, h6, h7, h8⟩ := h
  have e : ∀ i, g_R (s_R S aa k v) dd i = g_R S dd i := fun i => g_2n _ _ (fun q => ha q.1)
  exact ⟨h1, h2, (e 0).trans h3, (e 1).trans h4, (e 2).trans h5, (e 3).trans h6, fun b hb => (e _).trans (h7 b hb), fun i hi => (e _).trans (h8 i hi)⟩
theorem da_n (h : DA S dd n nL nE F) (ha : aa ∉ g_L S) : dd ≠ aa ∧ DA (n_A 11 S aa 24) dd n nL nE F := by
  obtain ⟨h1, h2, h3, h4, h5, h6, h7, h8⟩ := h
  have hne : dd ≠ aa := fun q => ha (q ▸ h1.1)
  have hx := exB_nA (P := fun _ => True) 11 24 (S := S) ha
  obtain ⟨p1, p2, p3⟩ := hx.2 dd h1.1
  obtain ⟨-, -, b3, b4, -⟩ := p3 trivial
  refine ⟨hne, ⟨p1, p2.trans h1.2⟩, b3.trans h2, ?_⟩
  rw [b4]
  exact ⟨h3, h4, h5, h6, h7, h8⟩
theorem dy_220 {a z w y r : Int32} {d0 : Nat} (hI : JV n nL nE d D F) (h2 : RS S2 m (n, 4, nL, nE, D, F)) (hA : DA S dd n nL nE F) (hd : d0 ≤ d) (hok : okA S 11 aa) (hN : g_N S aa = 24) (hh : ∀ i, i < n → g_R S aa i = nI (eaN F i d0 8)) (hQ : ∀ U1 U2 U, JJ U1 U2 U x m dd → Q 1 U1 U2 U) : ∀ (j k : Nat), k + j = n → ∀ (fuel : Nat) (S1 : Hp), n < k + fuel → RS S1 x (n, 4, nL, nE, D, F) → wp_L_days_L220 Q x m dd a z w aa y r fuel S1 S2 S 1 (nI k) := by
  obtain ⟨n24, l8, e20, d4, gd⟩ := iv_N hI
  have e0 : g_R S dd (0 : Int32).toNatClampNeg = nI n := hA.2.2.1
  have v0 := da_v (k := 0) hA (by decide)
  intro j
  induction j with
  | zero =>
    intro k hk fuel S1 hf h
    obtain ⟨f, rfl⟩ : ∃ f, fuel = f + 1 := ⟨fuel - 1, by omega⟩
    unfold wp_L_days_L220
    refine ⟨hA.1, v0, ?_⟩
    rw [e0, if_pos ((nI_le_iff (by omega) (by omega)).mpr (by omega))]
    exact q0 (hQ _ _ _ ⟨n, nL, nE, d, D, F, hI, h, h2, hA⟩)
  | succ j ih =>
    intro k hk fuel S1 hf h
    obtain ⟨f, rfl⟩ : ∃ f, fuel = f + 1 := ⟨fuel - 1, by omega⟩
    have hvk : vp_in (nI k) (g_N S aa) := by
      rw [hN]
      exact vp_in_nI (by omega) (by decide)
    unfold wp_L_days_L220
    refine ⟨hA.1, v0, ?_⟩
    rw [e0, if_neg (fun w => by have := (nI_le_iff (by omega) (by omega)).mp w; omega), if_neg (show ¬ (1 : Int32) = 0 by decide)]
    refine ⟨rs_ok h, oc4 h hI (by omega) ⟨hok, hvk, ?_⟩⟩
    have b1 := ct_le (fun b' => decide (dyT F k 8 b' ≤ d)) 8
    have b2 := ct_le (fun b' => decide (dyT F k 8 b' ≤ d0)) 8
    have hmon : ¬ nI (eaN F k d 8) < nI (eaN F k d0 8) := fun w => by
      have := (nI_lt_iff (by unfold eaN; omega) (by unfold eaN; omega)).mp w
      have := ea_mono (c := k) (F := F) (G := F) (fun b => Nat.le_refl _) hd
      omega
    rw [nIc (by omega), hh k (by omega), if_neg hmon, lt_v, nI_s1]
    exact ih (k + 1) (by omega) f S1 (by omega) h
theorem dy_149 {a z w : Int32} (hI : JV n nL nE d D F) (h1 : RS S1 x (n, 4, nL, nE, D, F)) (h2 : RS S2 m (n, 4, nL, nE, D, F)) (hA : DA S dd n nL nE F) (hok : okA S 11 aa) (hN : g_N S aa = 24) (hh : ∀ i, i < n → g_R S aa i = nI (eaN F i d 8)) (hQ : ∀ U1 U2 U, JJ U1 U2 U x m dd → Q 1 U1 U2 U) : wp_L_days_B149 Q S1 S2 S x m dd a z (nI d) aa w := by
  obtain ⟨n24, l8, e20, d4, gd⟩ := iv_N hI
  unfold wp_L_days_B149
  refine some_of (N := 20) rfl (by decide) (by decide) ?_
  have hs := smv_lt z (N := 20) (by decide)
  generalize smv z 20 = s at hs ⊢
  rw [lt_v, one_nI]
  rcases do_pass (a := nI (1 + s)) (b := 0) (c := 0) (e := 0) hI (rng1 (N := 400) (by omega) (by omega) (by decide)) with ⟨hc, hd⟩ | ⟨hc, hd⟩
  · refine both_of hd h1 h2 (fun U1 U2 r1 r2 => ?_)
    rw [if_pos rfl, if_neg hc]
    exact ⟨_, dy_220 hI r2 hA (Nat.le_refl d) hok hN hh hQ n 0 (by omega) (n + 1) U1 (by omega) r1⟩
  · rw [nI_add] at hc hd
    have hc' : d + (1 + s) ≤ 9999 := (nI_le_iff (b := 9999) (by omega) (by omega)).mp hc
    refine both_of hd h1 h2 (fun U1 U2 r1 r2 => ?_)
    rw [if_neg (nI_n (by omega) n3), nI_add, if_pos rfl, lt_v]
    exact ⟨_, dy_220 (iv_pass hI (by omega)) r2 hA (by omega) hok hN hh hQ n 0 (by omega) (n + 1) U1 (by omega) r1⟩
theorem dy_123 {a z : Int32} (hI : JV n nL nE d D F) (h2 : RS S2 m (n, 4, nL, nE, D, F)) (hne : dd ≠ aa) (hQ : ∀ U1 U2 U, JJ U1 U2 U x m dd → Q 1 U1 U2 U) : ∀ (j k : Nat), k + j = n → ∀ (fuel : Nat) (S1 S : Hp), n < k + fuel → RS S1 x (n, 4, nL, nE, D, F) → DA S dd n nL nE F → okA S 11 aa → g_N S aa = 24 → (∀ i, i < k → g_R S aa i = nI (eaN F i d 8)) → wp_L_days_L123 Q x m dd a z (nI d) aa fuel S1 S2 S (nI k) := by
  obtain ⟨n24, l8, e20, d4, gd⟩ := iv_N hI
  intro j
  induction j with
  | zero =>
    intro k hk fuel S1 S hf h hA hok hN hh
    obtain ⟨f, rfl⟩ : ∃ f, fuel = f + 1 := ⟨fuel - 1, by omega⟩
    have e0 : g_R S dd (0 : Int32).toNatClampNeg = nI n := hA.2.2.1
    unfold wp_L_days_L123
    refine ⟨hA.1, da_v (k := 0) hA (by decide), ?_⟩
    rw [e0, if_pos ((nI_le_iff (by omega) (by omega)).mpr (by omega))]
    exact dy_149 hI h h2 hA hok hN (fun i hi => hh i (by omega)) hQ
  | succ j ih =>
    intro k hk fuel S1 S hf h hA hok hN hh
    obtain ⟨f, rfl⟩ : ∃ f, fuel = f + 1 := ⟨fuel - 1, by omega⟩
    have e0 : g_R S dd (0 : Int32).toNatClampNeg = nI n := hA.2.2.1
    have hvk : vp_in (nI k) (g_N S aa) := by
      rw [hN]
      exact vp_in_nI (by omega) (by decide)
    unfold wp_L_days_L123
    refine ⟨hA.1, da_v (k := 0) hA (by decide), ?_⟩
    rw [e0, if_neg (fun w => by have := (nI_le_iff (by omega) (by omega)).mp w; omega)]
    refine ⟨rs_ok h, oc4 h hI (by omega) ⟨hok, hvk, ?_⟩⟩
    rw [lt_v, nIc (by omega), nI_s1]
    refine ih (k + 1) (by omega) f S1 _ (by omega) h (da_o hA hne) hok hN (fun i hi => ?_)
    by_cases c : i = k
    · subst c
      exact gR_s
    · exact (gR_n c).trans (hh i (by omega))
theorem days_ok {a z : Int32} (hJ : JJ S1 S2 S x m dd) (hQ : ∀ U1 U2 U, JJ U1 U2 U x m dd → Q 1 U1 U2 U) : wp_L_days S1 S2 S x m dd a z Q := by
  obtain ⟨n, nL, nE, d, D, F, hI, h1, h2, hA⟩ := hJ
  obtain ⟨n24, l8, e20, d4, gd⟩ := iv_N hI
  unfold wp_L_days
  refine some_of (N := 3) rfl (by decide) (by decide) ?_
  by_cases c : nI (smv a 3) = 0
  · rw [if_pos c]
    unfold wp_L_days_B8
    exact ⟨n + 1, dy_14 hI h2 hA hQ n 0 (by omega) (n + 1) S1 (by omega) h1⟩
  · rw [if_neg c]
    unfold wp_L_days_B108
    refine ⟨rs_ok h1, tdd h1 hI (fun aa ha => ?_)⟩
    rw [lt_v]
    obtain ⟨hne, hA'⟩ := da_n hA ha
    exact ⟨n + 1, dy_123 hI h2 hne hQ n 0 (by omega) (n + 1) S1 _ (by omega) h1 hA' (nA_ok 11 S aa 24) (nA_N 11 S aa 24) (fun i hi => absurd hi (Nat.not_lt_zero i))⟩
end DAYS
