def wp_X0_init (S : Hp) (x0 : Nat) (Q : Hp → Prop) : Prop :=
  (∀ a1, a1 ∉ g_L S → lt (n_O 10 S a1) (fun S2 => wp_Jx4a65c_init_da8c8 S2 a1 (fun S3 => okA S3 0 x0 ∧ (lt (s_P S3 0 x0 (some a1)) (fun S5 => Q S5)))))
def rm_X0_init : Room := { frames := 4, cells := 1, slots := 3, locals := 72 }
set_option maxHeartbeats 4000000 in
set_option maxRecDepth 100000 in
theorem c_X0_init (l : Launch) (v : Ev) (S : Hp) (x0 : Nat) : CV l v yX0_init cX0_init 1 none rm_X0_init [va_rf (some x0)] S (fun Q _ => wp_X0_init S x0 Q) := by
  intro Q EQ h
  refine z_start [(0, va_rf (some x0))] (by decide +kernel) (by simp only [la_i, la_r, la_n]) (cat_cr cat_nil) (by simp only [ls_i, ls_r, ls_n]; decide) (fun z C N T => ?_)
  unfold wp_X0_init at h
  refine z_aload_n C (pc := 0) dX0_init_0 0 rfl ?_
  refine z_obj C (pc := 1) bw_66 bw_oi bw_oc ⟨by decide, Nat.le_of_ble_eq_true rfl⟩ dX0_init_1 ?_
  refine z_aload_n C (pc := 4) dX0_init_4 0 rfl ?_
  refine z_new C (pc := 5) (kc' := 1) (ks' := 3) kf10 bw_67 bw_35 bw_4 dX0_init_5 (by decide) (by decide) (by decide) (by decide) h (fun a1 S2 h => ?_)
  refine z_dup C (pc := 8) dX0_init_8 (cat_rf _) ?_
  refine z_I C (pc := 9) (KX := fun _ _ => False) (kc' := 1) (ks' := 3) (As := []) (rest := [va_rf (some a1), va_rf (some x0)]) (c_Jx4a65c_init_da8c8 l v S2 a1) mw_Jx4a65c_init_da8c8 bw_68 bw_37 rfl (fit_of rfl) rfl rfl (Nat.le_of_ble_eq_true rfl) dX0_init_9 h (fun S3 h => ?_) (fun En S9 h => h.elim)
  obtain ⟨o4, h⟩ := h
  refine z_putFP C (pc := 12) kf0 0 (by decide) rfl rfl rfl rfl bw_69 (fun _ _ _ _ h => h) dX0_init_12 rfl o4 ?_
  refine z_lt h (fun S5 h => ?_)
  exact z_vret C (pc := 15) T dX0_init_15 (by decide) (by decide) h
def wp_X7_init (S : Hp) (x0 : Nat) (x1 : Int32) (x2 : Int32) (x3 : Int32) (x4 : Int32) (Q : Hp → Prop) : Prop :=
  okA S 7 x0 ∧ (lt (s_I S 700 x0 x1) (fun S2 => okA S2 7 x0 ∧ (lt (s_I S2 701 x0 x2) (fun S4 => okA S4 7 x0 ∧ (lt (s_I S4 702 x0 x3) (fun S6 => okA S6 7 x0 ∧ (lt (s_I S6 703 x0 x4) (fun S8 => Q S8))))))))
def rm_X7_init : Room := { frames := 1, cells := 0, slots := 0, locals := 12 }
set_option maxHeartbeats 4000000 in
set_option maxRecDepth 100000 in
theorem c_X7_init (l : Launch) (v : Ev) (S : Hp) (x0 : Nat) (x1 : Int32) (x2 : Int32) (x3 : Int32) (x4 : Int32) : CV l v yX7_init cX7_init 5 none rm_X7_init [va_rf (some x0), .int x1, .int x2, .int x3, .int x4] S (fun Q _ => wp_X7_init S x0 x1 x2 x3 x4 Q) := by
  intro Q EQ h
  refine z_start [(0, va_rf (some x0)), (1, .int x1), (2, .int x2), (3, .int x3), (4, .int x4)] (by decide +kernel) (by simp only [la_i, la_r, la_n]) (cat_cr (cat_ci (cat_ci (cat_ci (cat_ci cat_nil))))) (by simp only [ls_i, ls_r, ls_n]; decide) (fun z C N T => ?_)
  unfold wp_X7_init at h
  refine z_aload_n C (pc := 0) dX7_init_0 0 rfl ?_
  refine z_obj C (pc := 1) bw_403 bw_oi bw_oc ⟨by decide, Nat.le_of_ble_eq_true rfl⟩ dX7_init_1 ?_
  refine z_aload_n C (pc := 4) dX7_init_4 0 rfl ?_
  refine z_iload_n C (pc := 5) dX7_init_5 1 rfl ?_
  obtain ⟨o1, h⟩ := h
  refine z_putFI C (pc := 6) kf7 0 (by decide) rfl rfl rfl rfl bw_404 (fun _ _ _ _ h => h) dX7_init_6 rfl o1 ?_
  refine z_lt h (fun S2 h => ?_)
  refine z_aload_n C (pc := 9) dX7_init_9 0 rfl ?_
  refine z_iload_n C (pc := 10) dX7_init_10 2 rfl ?_
  obtain ⟨o3, h⟩ := h
  refine z_putFI C (pc := 11) kf7 1 (by decide) rfl rfl rfl rfl bw_406 (fun _ _ _ _ h => h) dX7_init_11 rfl o3 ?_
  refine z_lt h (fun S4 h => ?_)
  refine z_aload_n C (pc := 14) dX7_init_14 0 rfl ?_
  refine z_iload_n C (pc := 15) dX7_init_15 3 rfl ?_
  obtain ⟨o5, h⟩ := h
  refine z_putFI C (pc := 16) kf7 2 (by decide) rfl rfl rfl rfl bw_407 (fun _ _ _ _ h => h) dX7_init_16 rfl o5 ?_
  refine z_lt h (fun S6 h => ?_)
  refine z_aload_n C (pc := 19) dX7_init_19 0 rfl ?_
  refine z_iload C (pc := 20) dX7_init_20 4 rfl ?_
  obtain ⟨o7, h⟩ := h
  refine z_putFI C (pc := 22) kf7 3 (by decide) rfl rfl rfl rfl bw_408 (fun _ _ _ _ h => h) dX7_init_22 rfl o7 ?_
  refine z_lt h (fun S8 h => ?_)
  exact z_vret C (pc := 25) T dX7_init_25 (by decide) (by decide) h
def wp_X1_init (S : Hp) (x0 : Nat) (x1 : Int32) (x2 : Int32) (Q : Hp → Prop) : Prop :=
  okA S 1 x0 ∧ (lt (s_I S 102 x0 (-1 : Int32)) (fun S2 => okA S2 1 x0 ∧ (lt (s_I S2 103 x0 (-1 : Int32)) (fun S4 => okA S4 1 x0 ∧ (lt (s_I S4 104 x0 (-1 : Int32)) (fun S6 => okA S6 1 x0 ∧ (lt (s_I S6 108 x0 (-1 : Int32)) (fun S8 => (∀ a9, a9 ∉ g_L S8 → lt (n_A 11 S8 a9 16) (fun S10 => okA S10 1 x0 ∧ (lt (s_P S10 111 x0 (some a9)) (fun S12 => (∀ a13, a13 ∉ g_L S12 → lt (n_A 11 S12 a13 16) (fun S14 => okA S14 1 x0 ∧ (lt (s_P S14 112 x0 (some a13)) (fun S16 => (∀ a17, a17 ∉ g_L S16 → a17 ≠ g_T S16 → lt (n_A 14 S16 a17 8) (fun S18 => okA S18 1 x0 ∧ (lt (s_P S18 113 x0 (some a17)) (fun S20 => okA S20 1 x0 ∧ (lt (s_I S20 100 x0 x1) (fun S22 => okA S22 1 x0 ∧ (lt (s_I S22 101 x0 x2) (fun S24 => Q S24))))))))))))))))))))))))
def rm_X1_init : Room := { frames := 1, cells := 3, slots := 40, locals := 12 }
set_option maxHeartbeats 4000000 in
set_option maxRecDepth 100000 in
theorem c_X1_init (l : Launch) (v : Ev) (S : Hp) (x0 : Nat) (x1 : Int32) (x2 : Int32) : CV l v yX1_init cX1_init 3 none rm_X1_init [va_rf (some x0), .int x1, .int x2] S (fun Q _ => wp_X1_init S x0 x1 x2 Q) := by
  intro Q EQ h
  refine z_start [(0, va_rf (some x0)), (1, .int x1), (2, .int x2)] (by decide +kernel) (by simp only [la_i, la_r, la_n]) (cat_cr (cat_ci (cat_ci cat_nil))) (by simp only [ls_i, ls_r, ls_n]; decide) (fun z C N T => ?_)
  unfold wp_X1_init at h
  refine z_aload_n C (pc := 0) dX1_init_0 0 rfl ?_
  refine z_obj C (pc := 1) bw_487 bw_oi bw_oc ⟨by decide, Nat.le_of_ble_eq_true rfl⟩ dX1_init_1 ?_
  refine z_aload_n C (pc := 4) dX1_init_4 0 rfl ?_
  refine z_iconst C (pc := 5) (x := (-1 : Int32)) dX1_init_5 kic_m1 ?_
  obtain ⟨o1, h⟩ := h
  refine z_putI C (pc := 6) kf1 2 (by decide) rfl rfl bw_494 (fun _ _ _ _ h => h) dX1_init_6 rfl o1 ?_
  refine z_lt h (fun S2 h => ?_)
  refine z_aload_n C (pc := 9) dX1_init_9 0 rfl ?_
  refine z_iconst C (pc := 10) (x := (-1 : Int32)) dX1_init_10 kic_m1 ?_
  obtain ⟨o3, h⟩ := h
  refine z_putI C (pc := 11) kf1 3 (by decide) rfl rfl bw_496 (fun _ _ _ _ h => h) dX1_init_11 rfl o3 ?_
  refine z_lt h (fun S4 h => ?_)
  refine z_aload_n C (pc := 14) dX1_init_14 0 rfl ?_
  refine z_iconst C (pc := 15) (x := (-1 : Int32)) dX1_init_15 kic_m1 ?_
  obtain ⟨o5, h⟩ := h
  refine z_putI C (pc := 16) kf1 4 (by decide) rfl rfl bw_498 (fun _ _ _ _ h => h) dX1_init_16 rfl o5 ?_
  refine z_lt h (fun S6 h => ?_)
  refine z_aload_n C (pc := 19) dX1_init_19 0 rfl ?_
  refine z_iconst C (pc := 20) (x := (-1 : Int32)) dX1_init_20 kic_m1 ?_
  obtain ⟨o7, h⟩ := h
  refine z_putI C (pc := 21) kf1 8 (by decide) rfl rfl bw_503 (fun _ _ _ _ h => h) dX1_init_21 rfl o7 ?_
  refine z_lt h (fun S8 h => ?_)
  refine z_aload_n C (pc := 24) dX1_init_24 0 rfl ?_
  refine z_bipush C (pc := 25) (x := (16 : Int32)) dX1_init_25 kbp_16 ?_
  refine z_newI C (pc := 27) (kc' := 1) (ks' := 16) (lim := 16) bw_540 dX1_init_27 (by decide) (by decide) (by decide) (by decide) (by decide) ⟨by decide, by decide, h⟩ (fun a9 S10 h => ?_)
  obtain ⟨o11, h⟩ := h
  refine z_putFP C (pc := 29) kf1 11 (by decide) rfl rfl rfl rfl bw_508 (fun _ _ _ _ h => h) dX1_init_29 rfl o11 ?_
  refine z_lt h (fun S12 h => ?_)
  refine z_aload_n C (pc := 32) dX1_init_32 0 rfl ?_
  refine z_bipush C (pc := 33) (x := (16 : Int32)) dX1_init_33 kbp_16 ?_
  refine z_newI C (pc := 35) (kc' := 2) (ks' := 32) (lim := 16) bw_540 dX1_init_35 (by decide) (by decide) (by decide) (by decide) (by decide) ⟨by decide, by decide, h⟩ (fun a13 S14 h => ?_)
  obtain ⟨o15, h⟩ := h
  refine z_putFP C (pc := 37) kf1 12 (by decide) rfl rfl rfl rfl bw_509 (fun _ _ _ _ h => h) dX1_init_37 rfl o15 ?_
  refine z_lt h (fun S16 h => ?_)
  refine z_aload_n C (pc := 40) dX1_init_40 0 rfl ?_
  refine z_bipush C (pc := 41) (x := (8 : Int32)) dX1_init_41 kbp_8 ?_
  refine z_anew C (pc := 43) (kc' := 3) (ks' := 40) (lim := 8) (κ := 14) (by decide) 3 (fun _ => rfl) bw_488 nw_489 dX1_init_43 (by decide) (by decide) (by decide) (by decide) (by decide) ⟨by decide, by decide, h⟩ (fun a17 S18 h => ?_)
  obtain ⟨o19, h⟩ := h
  refine z_putFP C (pc := 46) kf1 13 (by decide) rfl rfl rfl rfl bw_510 (fun _ _ _ _ h => h) dX1_init_46 rfl o19 ?_
  refine z_lt h (fun S20 h => ?_)
  refine z_aload_n C (pc := 49) dX1_init_49 0 rfl ?_
  refine z_iload_n C (pc := 50) dX1_init_50 1 rfl ?_
  obtain ⟨o21, h⟩ := h
  refine z_putFI C (pc := 51) kf1 0 (by decide) rfl rfl rfl rfl bw_490 (fun _ _ _ _ h => h) dX1_init_51 rfl o21 ?_
  refine z_lt h (fun S22 h => ?_)
  refine z_aload_n C (pc := 54) dX1_init_54 0 rfl ?_
  refine z_iload_n C (pc := 55) dX1_init_55 2 rfl ?_
  obtain ⟨o23, h⟩ := h
  refine z_putI C (pc := 56) kf1 1 (by decide) rfl rfl bw_492 (fun _ _ _ _ h => h) dX1_init_56 rfl o23 ?_
  refine z_lt h (fun S24 h => ?_)
  exact z_vret C (pc := 59) T dX1_init_59 (by decide) (by decide) h
def wp_X7_isFor (S : Hp) (x0 : Nat) (x1 : Int32) (Q : Int32 → Hp → Prop) : Prop :=
  okA S 7 x0 ∧ (if x1 < (g_I S 701 x0) then (bz (0 : Int32) (Q (0 : Int32) S)) else (if (g_I S 702 x0) < x1 then (bz (0 : Int32) (Q (0 : Int32) S)) else (bz (1 : Int32) (Q (1 : Int32) S))))
def rm_X7_isFor : Room := { frames := 0, cells := 0, slots := 0, locals := 0 }
set_option maxHeartbeats 4000000 in
set_option maxRecDepth 100000 in
theorem c_X7_isFor (l : Launch) (v : Ev) (S : Hp) (x0 : Nat) (x1 : Int32) : CI l v yX7_isFor cX7_isFor 2 (some .boolean) rm_X7_isFor [va_rf (some x0), .int x1] S (fun Q _ => wp_X7_isFor S x0 x1 Q) := by
  intro Q EQ h
  refine z_start [(0, va_rf (some x0)), (1, .int x1)] (by decide +kernel) (by simp only [la_i, la_r, la_n]) (cat_cr (cat_ci cat_nil)) (by simp only [ls_i, ls_r, ls_n]; decide) (fun z C N T => ?_)
  unfold wp_X7_isFor at h
  refine z_iload_n C (pc := 0) dX7_isFor_0 1 rfl ?_
  refine z_aload_n C (pc := 1) dX7_isFor_1 0 rfl ?_
  obtain ⟨o1, h⟩ := h
  refine z_getI C (pc := 2) kf7 1 (by decide) rfl bw_406 (fun _ _ _ _ h => h) dX7_isFor_2 rfl o1 ?_
  refine z_icmp_lt C (pc := 5) (tgt := 20) dX7_isFor_5 (by decide) h (fun h => ?_) (fun h => ?_)
  · refine z_iconst C (pc := 20) (x := (0 : Int32)) dX7_isFor_20 kic_0 ?_
    exact z_zret C (pc := 21) T dX7_isFor_21 (by decide) (by decide) h
  · refine z_iload_n C (pc := 8) dX7_isFor_8 1 rfl ?_
    refine z_aload_n C (pc := 9) dX7_isFor_9 0 rfl ?_
    refine z_getI C (pc := 10) kf7 2 (by decide) rfl bw_407 (fun _ _ _ _ h => h) dX7_isFor_10 rfl o1 ?_
    refine z_icmp_gt C (pc := 13) (tgt := 20) dX7_isFor_13 (by decide) h (fun h => ?_) (fun h => ?_)
    · refine z_iconst C (pc := 20) (x := (0 : Int32)) dX7_isFor_20 kic_0 ?_
      exact z_zret C (pc := 21) T dX7_isFor_21 (by decide) (by decide) h
    · refine z_iconst C (pc := 16) (x := (1 : Int32)) dX7_isFor_16 kic_1 ?_
      refine z_goto C (pc := 17) (tgt := 21) dX7_isFor_17 (by decide) ?_
      exact z_zret C (pc := 21) T dX7_isFor_21 (by decide) (by decide) h
def wp_X1_goOut (S : Hp) (x0 : Nat) (Q : Hp → Prop) : Prop :=
  okA S 1 x0 ∧ (lt (s_I S 102 x0 (-1 : Int32)) (fun S2 => okA S2 1 x0 ∧ (lt (s_I S2 103 x0 (-1 : Int32)) (fun S4 => okA S4 1 x0 ∧ (lt (s_I S4 104 x0 (-1 : Int32)) (fun S6 => Q S6))))))
def rm_X1_goOut : Room := { frames := 0, cells := 0, slots := 0, locals := 0 }
set_option maxHeartbeats 4000000 in
set_option maxRecDepth 100000 in
theorem c_X1_goOut (l : Launch) (v : Ev) (S : Hp) (x0 : Nat) : CV l v yX1_goOut cX1_goOut 1 none rm_X1_goOut [va_rf (some x0)] S (fun Q _ => wp_X1_goOut S x0 Q) := by
  intro Q EQ h
  refine z_start [(0, va_rf (some x0))] (by decide +kernel) (by simp only [la_i, la_r, la_n]) (cat_cr cat_nil) (by simp only [ls_i, ls_r, ls_n]; decide) (fun z C N T => ?_)
  unfold wp_X1_goOut at h
  refine z_aload_n C (pc := 0) dX1_goOut_0 0 rfl ?_
  refine z_iconst C (pc := 1) (x := (-1 : Int32)) dX1_goOut_1 kic_m1 ?_
  obtain ⟨o1, h⟩ := h
  refine z_putI C (pc := 2) kf1 2 (by decide) rfl rfl bw_494 (fun _ _ _ _ h => h) dX1_goOut_2 rfl o1 ?_
  refine z_lt h (fun S2 h => ?_)
  refine z_aload_n C (pc := 5) dX1_goOut_5 0 rfl ?_
  refine z_iconst C (pc := 6) (x := (-1 : Int32)) dX1_goOut_6 kic_m1 ?_
  obtain ⟨o3, h⟩ := h
  refine z_putI C (pc := 7) kf1 3 (by decide) rfl rfl bw_496 (fun _ _ _ _ h => h) dX1_goOut_7 rfl o3 ?_
  refine z_lt h (fun S4 h => ?_)
  refine z_aload_n C (pc := 10) dX1_goOut_10 0 rfl ?_
  refine z_iconst C (pc := 11) (x := (-1 : Int32)) dX1_goOut_11 kic_m1 ?_
  obtain ⟨o5, h⟩ := h
  refine z_putI C (pc := 12) kf1 4 (by decide) rfl rfl bw_498 (fun _ _ _ _ h => h) dX1_goOut_12 rfl o5 ?_
  refine z_lt h (fun S6 h => ?_)
  exact z_vret C (pc := 15) T dX1_goOut_15 (by decide) (by decide) h
def wp_X5_init (S : Hp) (x0 : Nat) (Q : Hp → Prop) : Prop :=
  (∀ a1, a1 ∉ g_L S → lt (n_A 11 S a1 3) (fun S2 => okA S2 11 a1 ∧ (vp_in (0 : Int32) (g_N S2 a1) ∧ (lt (s_R S2 a1 (0 : Int32).toNatClampNeg (-1 : Int32)) (fun S5 => okA S5 11 a1 ∧ (vp_in (1 : Int32) (g_N S5 a1) ∧ (lt (s_R S5 a1 (1 : Int32).toNatClampNeg (-1 : Int32)) (fun S8 => okA S8 11 a1 ∧ (vp_in (2 : Int32) (g_N S8 a1) ∧ (lt (s_R S8 a1 (2 : Int32).toNatClampNeg (-1 : Int32)) (fun S11 => okA S11 5 x0 ∧ (lt (s_P S11 500 x0 (some a1)) (fun S13 => (∀ a14, a14 ∉ g_L S13 → lt (n_A 11 S13 a14 3) (fun S15 => okA S15 11 a14 ∧ (vp_in (0 : Int32) (g_N S15 a14) ∧ (lt (s_R S15 a14 (0 : Int32).toNatClampNeg (-1 : Int32)) (fun S18 => okA S18 11 a14 ∧ (vp_in (1 : Int32) (g_N S18 a14) ∧ (lt (s_R S18 a14 (1 : Int32).toNatClampNeg (-1 : Int32)) (fun S21 => okA S21 11 a14 ∧ (vp_in (2 : Int32) (g_N S21 a14) ∧ (lt (s_R S21 a14 (2 : Int32).toNatClampNeg (-1 : Int32)) (fun S24 => okA S24 5 x0 ∧ (lt (s_P S24 501 x0 (some a14)) (fun S26 => (∀ a27, a27 ∉ g_L S26 → lt (n_A 11 S26 a27 4) (fun S28 => okA S28 11 a27 ∧ (vp_in (0 : Int32) (g_N S28 a27) ∧ (lt (s_R S28 a27 (0 : Int32).toNatClampNeg (-1 : Int32)) (fun S31 => okA S31 11 a27 ∧ (vp_in (1 : Int32) (g_N S31 a27) ∧ (lt (s_R S31 a27 (1 : Int32).toNatClampNeg (-1 : Int32)) (fun S34 => okA S34 11 a27 ∧ (vp_in (2 : Int32) (g_N S34 a27) ∧ (lt (s_R S34 a27 (2 : Int32).toNatClampNeg (-1 : Int32)) (fun S37 => okA S37 11 a27 ∧ (vp_in (3 : Int32) (g_N S37 a27) ∧ (lt (s_R S37 a27 (3 : Int32).toNatClampNeg (-1 : Int32)) (fun S40 => okA S40 5 x0 ∧ (lt (s_P S40 502 x0 (some a27)) (fun S42 => Q S42))))))))))))))))))))))))))))))))))))))))))
def rm_X5_init : Room := { frames := 1, cells := 3, slots := 10, locals := 12 }
set_option maxHeartbeats 4000000 in
set_option maxRecDepth 100000 in
theorem c_X5_init (l : Launch) (v : Ev) (S : Hp) (x0 : Nat) : CV l v yX5_init cX5_init 1 none rm_X5_init [va_rf (some x0)] S (fun Q _ => wp_X5_init S x0 Q) := by
  intro Q EQ h
  refine z_start [(0, va_rf (some x0))] (by decide +kernel) (by simp only [la_i, la_r, la_n]) (cat_cr cat_nil) (by simp only [ls_i, ls_r, ls_n]; decide) (fun z C N T => ?_)
  unfold wp_X5_init at h
  refine z_aload_n C (pc := 0) dX5_init_0 0 rfl ?_
  refine z_obj C (pc := 1) bw_622 bw_oi bw_oc ⟨by decide, Nat.le_of_ble_eq_true rfl⟩ dX5_init_1 ?_
  refine z_aload_n C (pc := 4) dX5_init_4 0 rfl ?_
  refine z_iconst C (pc := 5) (x := (3 : Int32)) dX5_init_5 kic_3 ?_
  refine z_newI C (pc := 6) (kc' := 1) (ks' := 3) (lim := 3) bw_540 dX5_init_6 (by decide) (by decide) (by decide) (by decide) (by decide) ⟨by decide, by decide, h⟩ (fun a1 S2 h => ?_)
  refine z_dup C (pc := 8) dX5_init_8 (cat_rf _) ?_
  refine z_iconst C (pc := 9) (x := (0 : Int32)) dX5_init_9 kic_0 ?_
  refine z_iconst C (pc := 10) (x := (-1 : Int32)) dX5_init_10 kic_m1 ?_
  obtain ⟨o3, h⟩ := h
  obtain ⟨v4, h⟩ := h
  refine z_iast C (pc := 11) dX5_init_11 rfl o3 v4 ?_
  refine z_lt h (fun S5 h => ?_)
  refine z_dup C (pc := 12) dX5_init_12 (cat_rf _) ?_
  refine z_iconst C (pc := 13) (x := (1 : Int32)) dX5_init_13 kic_1 ?_
  refine z_iconst C (pc := 14) (x := (-1 : Int32)) dX5_init_14 kic_m1 ?_
  obtain ⟨o6, h⟩ := h
  obtain ⟨v7, h⟩ := h
  refine z_iast C (pc := 15) dX5_init_15 rfl o6 v7 ?_
  refine z_lt h (fun S8 h => ?_)
  refine z_dup C (pc := 16) dX5_init_16 (cat_rf _) ?_
  refine z_iconst C (pc := 17) (x := (2 : Int32)) dX5_init_17 kic_2 ?_
  refine z_iconst C (pc := 18) (x := (-1 : Int32)) dX5_init_18 kic_m1 ?_
  obtain ⟨o9, h⟩ := h
  obtain ⟨v10, h⟩ := h
  refine z_iast C (pc := 19) dX5_init_19 rfl o9 v10 ?_
  refine z_lt h (fun S11 h => ?_)
  obtain ⟨o12, h⟩ := h
  refine z_putFP C (pc := 20) kf5 0 (by decide) rfl rfl rfl rfl bw_623 (fun _ _ _ _ h => h) dX5_init_20 rfl o12 ?_
  refine z_lt h (fun S13 h => ?_)
  refine z_aload_n C (pc := 23) dX5_init_23 0 rfl ?_
  refine z_iconst C (pc := 24) (x := (3 : Int32)) dX5_init_24 kic_3 ?_
  refine z_newI C (pc := 25) (kc' := 2) (ks' := 6) (lim := 3) bw_540 dX5_init_25 (by decide) (by decide) (by decide) (by decide) (by decide) ⟨by decide, by decide, h⟩ (fun a14 S15 h => ?_)
  refine z_dup C (pc := 27) dX5_init_27 (cat_rf _) ?_
  refine z_iconst C (pc := 28) (x := (0 : Int32)) dX5_init_28 kic_0 ?_
  refine z_iconst C (pc := 29) (x := (-1 : Int32)) dX5_init_29 kic_m1 ?_
  obtain ⟨o16, h⟩ := h
  obtain ⟨v17, h⟩ := h
  refine z_iast C (pc := 30) dX5_init_30 rfl o16 v17 ?_
  refine z_lt h (fun S18 h => ?_)
  refine z_dup C (pc := 31) dX5_init_31 (cat_rf _) ?_
  refine z_iconst C (pc := 32) (x := (1 : Int32)) dX5_init_32 kic_1 ?_
  refine z_iconst C (pc := 33) (x := (-1 : Int32)) dX5_init_33 kic_m1 ?_
  obtain ⟨o19, h⟩ := h
  obtain ⟨v20, h⟩ := h
  refine z_iast C (pc := 34) dX5_init_34 rfl o19 v20 ?_
  refine z_lt h (fun S21 h => ?_)
  refine z_dup C (pc := 35) dX5_init_35 (cat_rf _) ?_
  refine z_iconst C (pc := 36) (x := (2 : Int32)) dX5_init_36 kic_2 ?_
  refine z_iconst C (pc := 37) (x := (-1 : Int32)) dX5_init_37 kic_m1 ?_
  obtain ⟨o22, h⟩ := h
  obtain ⟨v23, h⟩ := h
  refine z_iast C (pc := 38) dX5_init_38 rfl o22 v23 ?_
  refine z_lt h (fun S24 h => ?_)
  obtain ⟨o25, h⟩ := h
  refine z_putFP C (pc := 39) kf5 1 (by decide) rfl rfl rfl rfl bw_624 (fun _ _ _ _ h => h) dX5_init_39 rfl o25 ?_
  refine z_lt h (fun S26 h => ?_)
  refine z_aload_n C (pc := 42) dX5_init_42 0 rfl ?_
  refine z_iconst C (pc := 43) (x := (4 : Int32)) dX5_init_43 kic_4 ?_
  refine z_newI C (pc := 44) (kc' := 3) (ks' := 10) (lim := 4) bw_540 dX5_init_44 (by decide) (by decide) (by decide) (by decide) (by decide) ⟨by decide, by decide, h⟩ (fun a27 S28 h => ?_)
  refine z_dup C (pc := 46) dX5_init_46 (cat_rf _) ?_
  refine z_iconst C (pc := 47) (x := (0 : Int32)) dX5_init_47 kic_0 ?_
  refine z_iconst C (pc := 48) (x := (-1 : Int32)) dX5_init_48 kic_m1 ?_
  obtain ⟨o29, h⟩ := h
  obtain ⟨v30, h⟩ := h
  refine z_iast C (pc := 49) dX5_init_49 rfl o29 v30 ?_
  refine z_lt h (fun S31 h => ?_)
  refine z_dup C (pc := 50) dX5_init_50 (cat_rf _) ?_
  refine z_iconst C (pc := 51) (x := (1 : Int32)) dX5_init_51 kic_1 ?_
  refine z_iconst C (pc := 52) (x := (-1 : Int32)) dX5_init_52 kic_m1 ?_
  obtain ⟨o32, h⟩ := h
  obtain ⟨v33, h⟩ := h
  refine z_iast C (pc := 53) dX5_init_53 rfl o32 v33 ?_
  refine z_lt h (fun S34 h => ?_)
  refine z_dup C (pc := 54) dX5_init_54 (cat_rf _) ?_
  refine z_iconst C (pc := 55) (x := (2 : Int32)) dX5_init_55 kic_2 ?_
  refine z_iconst C (pc := 56) (x := (-1 : Int32)) dX5_init_56 kic_m1 ?_
  obtain ⟨o35, h⟩ := h
  obtain ⟨v36, h⟩ := h
  refine z_iast C (pc := 57) dX5_init_57 rfl o35 v36 ?_
  refine z_lt h (fun S37 h => ?_)
  refine z_dup C (pc := 58) dX5_init_58 (cat_rf _) ?_
  refine z_iconst C (pc := 59) (x := (3 : Int32)) dX5_init_59 kic_3 ?_
  refine z_iconst C (pc := 60) (x := (-1 : Int32)) dX5_init_60 kic_m1 ?_
  obtain ⟨o38, h⟩ := h
  obtain ⟨v39, h⟩ := h
  refine z_iast C (pc := 61) dX5_init_61 rfl o38 v39 ?_
  refine z_lt h (fun S40 h => ?_)
  obtain ⟨o41, h⟩ := h
  refine z_putFP C (pc := 62) kf5 2 (by decide) rfl rfl rfl rfl bw_625 (fun _ _ _ _ h => h) dX5_init_62 rfl o41 ?_
  refine z_lt h (fun S42 h => ?_)
  exact z_vret C (pc := 65) T dX5_init_65 (by decide) (by decide) h
def wp_X5_setVetted (S : Hp) (x0 : Nat) (x1 : Int32) (x2 : Int32) (x3 : Int32) (Q : Hp → Prop) : Prop :=
  if x1 < 0 then (Q S) else (okA S 5 x0 ∧ (rd S 11 (g_P S 500 x0) (fun a2 => if (Int32.ofNat (g_N S a2)) ≤ x1 then (Q S) else (rd S 11 (g_P S 501 x0) (fun a5 => if (Int32.ofNat (g_N S a5)) ≤ x1 then (Q S) else (rd S 11 (g_P S 500 x0) (fun a8 => vp_in x1 (g_N S a8) ∧ (lt (s_R S a8 x1.toNatClampNeg x2) (fun S12 => okA S12 5 x0 ∧ (rd S12 11 (g_P S12 501 x0) (fun a14 => vp_in x1 (g_N S12 a14) ∧ (lt (s_R S12 a14 x1.toNatClampNeg x3) (fun S18 => Q S18)))))))))))))
def rm_X5_setVetted : Room := { frames := 0, cells := 0, slots := 0, locals := 0 }
set_option maxHeartbeats 4000000 in
set_option maxRecDepth 100000 in
theorem c_X5_setVetted (l : Launch) (v : Ev) (S : Hp) (x0 : Nat) (x1 : Int32) (x2 : Int32) (x3 : Int32) : CV l v yX5_setVetted cX5_setVetted 4 none rm_X5_setVetted [va_rf (some x0), .int x1, .int x2, .int x3] S (fun Q _ => wp_X5_setVetted S x0 x1 x2 x3 Q) := by
  intro Q EQ h
  refine z_start [(0, va_rf (some x0)), (1, .int x1), (2, .int x2), (3, .int x3)] (by decide +kernel) (by simp only [la_i, la_r, la_n]) (cat_cr (cat_ci (cat_ci (cat_ci cat_nil)))) (by simp only [ls_i, ls_r, ls_n]; decide) (fun z C N T => ?_)
  unfold wp_X5_setVetted at h
  refine z_iload_n C (pc := 0) dX5_setVetted_0 1 rfl ?_
  refine z_if_lt C (pc := 1) (tgt := 36) dX5_setVetted_1 (by decide) h (fun h => ?_) (fun h => ?_)
  · exact z_vret C (pc := 36) T dX5_setVetted_36 (by decide) (by decide) h
  · refine z_iload_n C (pc := 4) dX5_setVetted_4 1 rfl ?_
    refine z_aload_n C (pc := 5) dX5_setVetted_5 0 rfl ?_
    obtain ⟨o1, h⟩ := h
    refine z_getP C (pc := 6) kf5 0 (by decide) rfl bw_623 (fun _ _ _ _ h => h) dX5_setVetted_6 rfl o1 ?_
    obtain ⟨a2, e3, o4, h⟩ := h
    refine z_alen C (pc := 9) (κ := 11) (by decide) 0 .int (fun _ => rfl) dX5_setVetted_9 e3 o4 ?_
    refine z_icmp_ge C (pc := 10) (tgt := 36) dX5_setVetted_10 (by decide) h (fun h => ?_) (fun h => ?_)
    · exact z_vret C (pc := 36) T dX5_setVetted_36 (by decide) (by decide) h
    · refine z_iload_n C (pc := 13) dX5_setVetted_13 1 rfl ?_
      refine z_aload_n C (pc := 14) dX5_setVetted_14 0 rfl ?_
      refine z_getP C (pc := 15) kf5 1 (by decide) rfl bw_624 (fun _ _ _ _ h => h) dX5_setVetted_15 rfl o1 ?_
      obtain ⟨a5, e6, o7, h⟩ := h
      refine z_alen C (pc := 18) (κ := 11) (by decide) 0 .int (fun _ => rfl) dX5_setVetted_18 e6 o7 ?_
      refine z_icmp_ge C (pc := 19) (tgt := 36) dX5_setVetted_19 (by decide) h (fun h => ?_) (fun h => ?_)
      · exact z_vret C (pc := 36) T dX5_setVetted_36 (by decide) (by decide) h
      · refine z_aload_n C (pc := 22) dX5_setVetted_22 0 rfl ?_
        refine z_getP C (pc := 23) kf5 0 (by decide) rfl bw_623 (fun _ _ _ _ h => h) dX5_setVetted_23 rfl o1 ?_
        refine z_iload_n C (pc := 26) dX5_setVetted_26 1 rfl ?_
        refine z_iload_n C (pc := 27) dX5_setVetted_27 2 rfl ?_
        obtain ⟨a8, e9, o10, h⟩ := h
        obtain ⟨v11, h⟩ := h
        refine z_iast C (pc := 28) dX5_setVetted_28 e9 o10 v11 ?_
        refine z_lt h (fun S12 h => ?_)
        refine z_aload_n C (pc := 29) dX5_setVetted_29 0 rfl ?_
        obtain ⟨o13, h⟩ := h
        refine z_getP C (pc := 30) kf5 1 (by decide) rfl bw_624 (fun _ _ _ _ h => h) dX5_setVetted_30 rfl o13 ?_
        refine z_iload_n C (pc := 33) dX5_setVetted_33 1 rfl ?_
        refine z_iload_n C (pc := 34) dX5_setVetted_34 3 rfl ?_
        obtain ⟨a14, e15, o16, h⟩ := h
        obtain ⟨v17, h⟩ := h
        refine z_iast C (pc := 35) dX5_setVetted_35 e15 o16 v17 ?_
        refine z_lt h (fun S18 h => ?_)
        exact z_vret C (pc := 36) T dX5_setVetted_36 (by decide) (by decide) h
def wp_X5_permitOf (S : Hp) (x0 : Nat) (x1 : Int32) (Q : Int32 → Hp → Prop) : Prop :=
  if x1 < 0 then (Q (-1 : Int32) S) else (okA S 5 x0 ∧ (rd S 11 (g_P S 502 x0) (fun a2 => if (Int32.ofNat (g_N S a2)) ≤ x1 then (Q (-1 : Int32) S) else (rd S 11 (g_P S 502 x0) (fun a5 => vp_in x1 (g_N S a5) ∧ (Q (g_R S a5 x1.toNatClampNeg) S))))))
def rm_X5_permitOf : Room := { frames := 0, cells := 0, slots := 0, locals := 0 }
set_option maxHeartbeats 4000000 in
set_option maxRecDepth 100000 in
theorem c_X5_permitOf (l : Launch) (v : Ev) (S : Hp) (x0 : Nat) (x1 : Int32) : CI l v yX5_permitOf cX5_permitOf 2 (some .int) rm_X5_permitOf [va_rf (some x0), .int x1] S (fun Q _ => wp_X5_permitOf S x0 x1 Q) := by
  intro Q EQ h
  refine z_start [(0, va_rf (some x0)), (1, .int x1)] (by decide +kernel) (by simp only [la_i, la_r, la_n]) (cat_cr (cat_ci cat_nil)) (by simp only [ls_i, ls_r, ls_n]; decide) (fun z C N T => ?_)
  unfold wp_X5_permitOf at h
  refine z_iload_n C (pc := 0) dX5_permitOf_0 1 rfl ?_
  refine z_if_lt C (pc := 1) (tgt := 22) dX5_permitOf_1 (by decide) h (fun h => ?_) (fun h => ?_)
  · refine z_iconst C (pc := 22) (x := (-1 : Int32)) dX5_permitOf_22 kic_m1 ?_
    exact z_iret C (pc := 23) T dX5_permitOf_23 (by decide) (by decide) h
  · refine z_iload_n C (pc := 4) dX5_permitOf_4 1 rfl ?_
    refine z_aload_n C (pc := 5) dX5_permitOf_5 0 rfl ?_
    obtain ⟨o1, h⟩ := h
    refine z_getP C (pc := 6) kf5 2 (by decide) rfl bw_625 (fun _ _ _ _ h => h) dX5_permitOf_6 rfl o1 ?_
    obtain ⟨a2, e3, o4, h⟩ := h
    refine z_alen C (pc := 9) (κ := 11) (by decide) 0 .int (fun _ => rfl) dX5_permitOf_9 e3 o4 ?_
    refine z_icmp_ge C (pc := 10) (tgt := 22) dX5_permitOf_10 (by decide) h (fun h => ?_) (fun h => ?_)
    · refine z_iconst C (pc := 22) (x := (-1 : Int32)) dX5_permitOf_22 kic_m1 ?_
      exact z_iret C (pc := 23) T dX5_permitOf_23 (by decide) (by decide) h
    · refine z_aload_n C (pc := 13) dX5_permitOf_13 0 rfl ?_
      refine z_getP C (pc := 14) kf5 2 (by decide) rfl bw_625 (fun _ _ _ _ h => h) dX5_permitOf_14 rfl o1 ?_
      refine z_iload_n C (pc := 17) dX5_permitOf_17 1 rfl ?_
      obtain ⟨a5, e6, o7, h⟩ := h
      obtain ⟨v8, h⟩ := h
      refine z_iald C (pc := 18) dX5_permitOf_18 e6 o7 v8 ?_
      refine z_goto C (pc := 19) (tgt := 23) dX5_permitOf_19 (by decide) ?_
      exact z_iret C (pc := 23) T dX5_permitOf_23 (by decide) (by decide) h
def wp_X5_setPermit (S : Hp) (x0 : Nat) (x1 : Int32) (x2 : Int32) (Q : Hp → Prop) : Prop :=
  if x1 < 0 then (Q S) else (okA S 5 x0 ∧ (rd S 11 (g_P S 502 x0) (fun a2 => if (Int32.ofNat (g_N S a2)) ≤ x1 then (Q S) else (rd S 11 (g_P S 502 x0) (fun a5 => vp_in x1 (g_N S a5) ∧ (lt (s_R S a5 x1.toNatClampNeg x2) (fun S9 => Q S9)))))))
def rm_X5_setPermit : Room := { frames := 0, cells := 0, slots := 0, locals := 0 }
set_option maxHeartbeats 4000000 in
set_option maxRecDepth 100000 in
theorem c_X5_setPermit (l : Launch) (v : Ev) (S : Hp) (x0 : Nat) (x1 : Int32) (x2 : Int32) : CV l v yX5_setPermit cX5_setPermit 3 none rm_X5_setPermit [va_rf (some x0), .int x1, .int x2] S (fun Q _ => wp_X5_setPermit S x0 x1 x2 Q) := by
  intro Q EQ h
  refine z_start [(0, va_rf (some x0)), (1, .int x1), (2, .int x2)] (by decide +kernel) (by simp only [la_i, la_r, la_n]) (cat_cr (cat_ci (cat_ci cat_nil))) (by simp only [ls_i, ls_r, ls_n]; decide) (fun z C N T => ?_)
  unfold wp_X5_setPermit at h
  refine z_iload_n C (pc := 0) dX5_setPermit_0 1 rfl ?_
  refine z_if_lt C (pc := 1) (tgt := 20) dX5_setPermit_1 (by decide) h (fun h => ?_) (fun h => ?_)
  · exact z_vret C (pc := 20) T dX5_setPermit_20 (by decide) (by decide) h
  · refine z_iload_n C (pc := 4) dX5_setPermit_4 1 rfl ?_
    refine z_aload_n C (pc := 5) dX5_setPermit_5 0 rfl ?_
    obtain ⟨o1, h⟩ := h
    refine z_getP C (pc := 6) kf5 2 (by decide) rfl bw_625 (fun _ _ _ _ h => h) dX5_setPermit_6 rfl o1 ?_
    obtain ⟨a2, e3, o4, h⟩ := h
    refine z_alen C (pc := 9) (κ := 11) (by decide) 0 .int (fun _ => rfl) dX5_setPermit_9 e3 o4 ?_
    refine z_icmp_ge C (pc := 10) (tgt := 20) dX5_setPermit_10 (by decide) h (fun h => ?_) (fun h => ?_)
    · exact z_vret C (pc := 20) T dX5_setPermit_20 (by decide) (by decide) h
    · refine z_aload_n C (pc := 13) dX5_setPermit_13 0 rfl ?_
      refine z_getP C (pc := 14) kf5 2 (by decide) rfl bw_625 (fun _ _ _ _ h => h) dX5_setPermit_14 rfl o1 ?_
      refine z_iload_n C (pc := 17) dX5_setPermit_17 1 rfl ?_
      refine z_iload_n C (pc := 18) dX5_setPermit_18 2 rfl ?_
      obtain ⟨a5, e6, o7, h⟩ := h
      obtain ⟨v8, h⟩ := h
      refine z_iast C (pc := 19) dX5_setPermit_19 e6 o7 v8 ?_
      refine z_lt h (fun S9 h => ?_)
      exact z_vret C (pc := 20) T dX5_setPermit_20 (by decide) (by decide) h
def wp_X3_init (S : Hp) (x0 : Nat) (x1 : Int32) (x2 : Int32) (x3 : Int32) (x4 : Int32) (x5 : Int32) (x6 : Int32) (Q : Hp → Prop) : Prop :=
  okA S 3 x0 ∧ (lt (s_I S 300 x0 x1) (fun S2 => okA S2 3 x0 ∧ (lt (s_I S2 301 x0 x2) (fun S4 => okA S4 3 x0 ∧ (lt (s_I S4 302 x0 x3) (fun S6 => okA S6 3 x0 ∧ (lt (s_I S6 303 x0 x4) (fun S8 => okA S8 3 x0 ∧ (lt (s_I S8 304 x0 x5) (fun S10 => okA S10 3 x0 ∧ (lt (s_I S10 305 x0 x6) (fun S12 => Q S12))))))))))))
def rm_X3_init : Room := { frames := 1, cells := 0, slots := 0, locals := 12 }
set_option maxHeartbeats 4000000 in
set_option maxRecDepth 100000 in
theorem c_X3_init (l : Launch) (v : Ev) (S : Hp) (x0 : Nat) (x1 : Int32) (x2 : Int32) (x3 : Int32) (x4 : Int32) (x5 : Int32) (x6 : Int32) : CV l v yX3_init cX3_init 7 none rm_X3_init [va_rf (some x0), .int x1, .int x2, .int x3, .int x4, .int x5, .int x6] S (fun Q _ => wp_X3_init S x0 x1 x2 x3 x4 x5 x6 Q) := by
  intro Q EQ h
  refine z_start [(0, va_rf (some x0)), (1, .int x1), (2, .int x2), (3, .int x3), (4, .int x4), (5, .int x5), (6, .int x6)] (by decide +kernel) (by simp only [la_i, la_r, la_n]) (cat_cr (cat_ci (cat_ci (cat_ci (cat_ci (cat_ci (cat_ci cat_nil))))))) (by simp only [ls_i, ls_r, ls_n]; decide) (fun z C N T => ?_)
  unfold wp_X3_init at h
  refine z_aload_n C (pc := 0) dX3_init_0 0 rfl ?_
  refine z_obj C (pc := 1) bw_798 bw_oi bw_oc ⟨by decide, Nat.le_of_ble_eq_true rfl⟩ dX3_init_1 ?_
  refine z_aload_n C (pc := 4) dX3_init_4 0 rfl ?_
  refine z_iload_n C (pc := 5) dX3_init_5 1 rfl ?_
  obtain ⟨o1, h⟩ := h
  refine z_putFI C (pc := 6) kf3 0 (by decide) rfl rfl rfl rfl bw_799 (fun _ _ _ _ h => h) dX3_init_6 rfl o1 ?_
  refine z_lt h (fun S2 h => ?_)
  refine z_aload_n C (pc := 9) dX3_init_9 0 rfl ?_
  refine z_iload_n C (pc := 10) dX3_init_10 2 rfl ?_
  obtain ⟨o3, h⟩ := h
  refine z_putFI C (pc := 11) kf3 1 (by decide) rfl rfl rfl rfl bw_802 (fun _ _ _ _ h => h) dX3_init_11 rfl o3 ?_
  refine z_lt h (fun S4 h => ?_)
  refine z_aload_n C (pc := 14) dX3_init_14 0 rfl ?_
  refine z_iload_n C (pc := 15) dX3_init_15 3 rfl ?_
  obtain ⟨o5, h⟩ := h
  refine z_putFI C (pc := 16) kf3 2 (by decide) rfl rfl rfl rfl bw_804 (fun _ _ _ _ h => h) dX3_init_16 rfl o5 ?_
  refine z_lt h (fun S6 h => ?_)
  refine z_aload_n C (pc := 19) dX3_init_19 0 rfl ?_
  refine z_iload C (pc := 20) dX3_init_20 4 rfl ?_
  obtain ⟨o7, h⟩ := h
  refine z_putFI C (pc := 22) kf3 3 (by decide) rfl rfl rfl rfl bw_806 (fun _ _ _ _ h => h) dX3_init_22 rfl o7 ?_
  refine z_lt h (fun S8 h => ?_)
  refine z_aload_n C (pc := 25) dX3_init_25 0 rfl ?_
  refine z_iload C (pc := 26) dX3_init_26 5 rfl ?_
  obtain ⟨o9, h⟩ := h
  refine z_putFI C (pc := 28) kf3 4 (by decide) rfl rfl rfl rfl bw_808 (fun _ _ _ _ h => h) dX3_init_28 rfl o9 ?_
  refine z_lt h (fun S10 h => ?_)
  refine z_aload_n C (pc := 31) dX3_init_31 0 rfl ?_
  refine z_iload C (pc := 32) dX3_init_32 6 rfl ?_
  obtain ⟨o11, h⟩ := h
  refine z_putFI C (pc := 34) kf3 5 (by decide) rfl rfl rfl rfl bw_810 (fun _ _ _ _ h => h) dX3_init_34 rfl o11 ?_
  refine z_lt h (fun S12 h => ?_)
  exact z_vret C (pc := 37) T dX3_init_37 (by decide) (by decide) h
def wp_X1_courseOf (S : Hp) (x0 : Nat) (x1 : Int32) (Q : Option Nat → Hp → Prop) : Prop :=
  if x1 < 0 then (Q none S) else (okA S 1 x0 ∧ (rd S 14 (g_P S 113 x0) (fun a2 => if (Int32.ofNat (g_N S a2)) ≤ x1 then (Q none S) else (rd S 14 (g_P S 113 x0) (fun a5 => vp_in x1 (g_N S a5) ∧ (Q (g_O S a5 x1.toNatClampNeg) S))))))
def rm_X1_courseOf : Room := { frames := 0, cells := 0, slots := 0, locals := 0 }
set_option maxHeartbeats 4000000 in
set_option maxRecDepth 100000 in
theorem c_X1_courseOf (l : Launch) (v : Ev) (S : Hp) (x0 : Nat) (x1 : Int32) : CQ l v yX1_courseOf cX1_courseOf 2 (some (.object "Badgewood$Course")) rm_X1_courseOf [va_rf (some x0), .int x1] S (fun Q _ => wp_X1_courseOf S x0 x1 Q) := by
  intro Q EQ h
  refine z_start [(0, va_rf (some x0)), (1, .int x1)] (by decide +kernel) (by simp only [la_i, la_r, la_n]) (cat_cr (cat_ci cat_nil)) (by simp only [ls_i, ls_r, ls_n]; decide) (fun z C N T => ?_)
  unfold wp_X1_courseOf at h
  refine z_iload_n C (pc := 0) dX1_courseOf_0 1 rfl ?_
  refine z_if_lt C (pc := 1) (tgt := 22) dX1_courseOf_1 (by decide) h (fun h => ?_) (fun h => ?_)
  · refine z_null C (pc := 22) dX1_courseOf_22 ?_
    exact z_aret C (pc := 23) rfl (Or.inl ⟨_, rfl⟩) T dX1_courseOf_23 (by decide) (by decide) h
  · refine z_iload_n C (pc := 4) dX1_courseOf_4 1 rfl ?_
    refine z_aload_n C (pc := 5) dX1_courseOf_5 0 rfl ?_
    obtain ⟨o1, h⟩ := h
    refine z_getP C (pc := 6) kf1 13 (by decide) rfl bw_510 (fun _ _ _ _ h => h) dX1_courseOf_6 rfl o1 ?_
    obtain ⟨a2, e3, o4, h⟩ := h
    refine z_alen C (pc := 9) (κ := 14) (by decide) 3 (.object "Badgewood$Course") (fun _ => rfl) dX1_courseOf_9 e3 o4 ?_
    refine z_icmp_ge C (pc := 10) (tgt := 22) dX1_courseOf_10 (by decide) h (fun h => ?_) (fun h => ?_)
    · refine z_null C (pc := 22) dX1_courseOf_22 ?_
      exact z_aret C (pc := 23) rfl (Or.inl ⟨_, rfl⟩) T dX1_courseOf_23 (by decide) (by decide) h
    · refine z_aload_n C (pc := 13) dX1_courseOf_13 0 rfl ?_
      refine z_getP C (pc := 14) kf1 13 (by decide) rfl bw_510 (fun _ _ _ _ h => h) dX1_courseOf_14 rfl o1 ?_
      refine z_iload_n C (pc := 17) dX1_courseOf_17 1 rfl ?_
      obtain ⟨a5, e6, o7, h⟩ := h
      obtain ⟨v8, h⟩ := h
      refine z_aald C (pc := 18) (κ := 14) (by decide) 3 (fun _ => rfl) dX1_courseOf_18 e6 o7 v8 ?_
      refine z_goto C (pc := 19) (tgt := 23) dX1_courseOf_19 (by decide) ?_
      exact z_aret C (pc := 23) rfl (Or.inl ⟨_, rfl⟩) T dX1_courseOf_23 (by decide) (by decide) h
def wp_X2_init (S : Hp) (x0 : Nat) (x1 : Option Nat) (x2 : Int32) (Q : Hp → Prop) : Prop :=
  okA S 2 x0 ∧ (lt (s_I S 202 x0 (1000000 : Int32)) (fun S2 => okA S2 2 x0 ∧ (lt (s_P S2 200 x0 x1) (fun S4 => okA S4 2 x0 ∧ (lt (s_I S4 201 x0 x2) (fun S6 => Q S6))))))
def rm_X2_init : Room := { frames := 1, cells := 0, slots := 0, locals := 12 }
set_option maxHeartbeats 4000000 in
set_option maxRecDepth 100000 in
theorem c_X2_init (l : Launch) (v : Ev) (S : Hp) (x0 : Nat) (x1 : Option Nat) (x2 : Int32) : CV l v yX2_init cX2_init 3 none rm_X2_init [va_rf (some x0), va_rf x1, .int x2] S (fun Q _ => wp_X2_init S x0 x1 x2 Q) := by
  intro Q EQ h
  refine z_start [(0, va_rf (some x0)), (1, va_rf x1), (2, .int x2)] (by decide +kernel) (by simp only [la_i, la_r, la_n]) (cat_cr (cat_cr (cat_ci cat_nil))) (by simp only [ls_i, ls_r, ls_n]; decide) (fun z C N T => ?_)
  unfold wp_X2_init at h
  refine z_aload_n C (pc := 0) dX2_init_0 0 rfl ?_
  refine z_obj C (pc := 1) bw_678 bw_oi bw_oc ⟨by decide, Nat.le_of_ble_eq_true rfl⟩ dX2_init_1 ?_
  refine z_aload_n C (pc := 4) dX2_init_4 0 rfl ?_
  refine z_ldc C (pc := 5) (x := (1000000 : Int32)) dX2_init_5 bw_679 ?_
  obtain ⟨o1, h⟩ := h
  refine z_putI C (pc := 7) kf2 2 (by decide) rfl rfl bw_685 (fun _ _ _ _ h => h) dX2_init_7 rfl o1 ?_
  refine z_lt h (fun S2 h => ?_)
  refine z_aload_n C (pc := 10) dX2_init_10 0 rfl ?_
  refine z_aload_n C (pc := 11) dX2_init_11 1 rfl ?_
  obtain ⟨o3, h⟩ := h
  refine z_putFP C (pc := 12) kf2 0 (by decide) rfl rfl rfl rfl bw_680 (fun _ _ _ _ h => h) dX2_init_12 rfl o3 ?_
  refine z_lt h (fun S4 h => ?_)
  refine z_aload_n C (pc := 15) dX2_init_15 0 rfl ?_
  refine z_iload_n C (pc := 16) dX2_init_16 2 rfl ?_
  obtain ⟨o5, h⟩ := h
  refine z_putFI C (pc := 17) kf2 1 (by decide) rfl rfl rfl rfl bw_683 (fun _ _ _ _ h => h) dX2_init_17 rfl o5 ?_
  refine z_lt h (fun S6 h => ?_)
  exact z_vret C (pc := 20) T dX2_init_20 (by decide) (by decide) h
def wp_X1_dayEarned (S : Hp) (x0 : Nat) (x1 : Int32) (Q : Int32 → Hp → Prop) : Prop :=
  okA S 1 x0 ∧ (wp_X1_courseOf S x0 x1 (fun r3 S2 => if r3 = none then (Q (1000000 : Int32) S2) else (rd S2 2 r3 (fun a4 => Q (g_I S2 202 a4) S2))))
def rm_X1_dayEarned : Room := { frames := 1, cells := 0, slots := 0, locals := 21 }
set_option maxHeartbeats 4000000 in
set_option maxRecDepth 100000 in
theorem c_X1_dayEarned (l : Launch) (v : Ev) (S : Hp) (x0 : Nat) (x1 : Int32) : CI l v yX1_dayEarned cX1_dayEarned 3 (some .int) rm_X1_dayEarned [va_rf (some x0), .int x1] S (fun Q _ => wp_X1_dayEarned S x0 x1 Q) := by
  intro Q EQ h
  refine z_start [(0, va_rf (some x0)), (1, .int x1)] (by decide +kernel) (by simp only [la_i, la_r, la_n]) (cat_cr (cat_ci cat_nil)) (by simp only [ls_i, ls_r, ls_n]; decide) (fun z C N T => ?_)
  unfold wp_X1_dayEarned at h
  refine z_aload_n C (pc := 0) dX1_dayEarned_0 0 rfl ?_
  refine z_iload_n C (pc := 1) dX1_dayEarned_1 1 rfl ?_
  obtain ⟨o1, h⟩ := h
  refine z_Vq C (pc := 2) (KX := fun _ _ => False) (kc' := 0) (ks' := 0) (As := [.int x1]) (rest := []) rfl (c_X1_courseOf l v S x0 x1) mw_X1_courseOf bw_219 bw_220 bw_221 (fit_of rfl) rfl rfl (Nat.le_of_ble_eq_true rfl) (by decide) rfl o1 dX1_dayEarned_2 h (fun r3 S2 h => ?_) (fun En S9 h => h.elim)
  refine z_astore_n C (pc := 5) (lv' := [(2, va_rf r3), (0, va_rf (some x0)), (1, .int x1)]) dX1_dayEarned_5 (by decide) rfl ?_
  refine z_aload_n C (pc := 6) dX1_dayEarned_6 0 rfl ?_
  refine z_ifnonnull C (pc := 7) (tgt := 15) dX1_dayEarned_7 (by decide) h (fun h => ?_) (fun h => ?_)
  · refine z_aload_n C (pc := 15) dX1_dayEarned_15 0 rfl ?_
    obtain ⟨a4, e5, o6, h⟩ := h
    refine z_getI C (pc := 16) kf2 2 (by decide) rfl bw_686 (fun _ _ _ _ h => h) dX1_dayEarned_16 e5 o6 ?_
    exact z_iret C (pc := 19) T dX1_dayEarned_19 (by decide) (by decide) h
  · refine z_ldc C (pc := 10) (x := (1000000 : Int32)) dX1_dayEarned_10 bw_223 ?_
    refine z_goto C (pc := 12) (tgt := 19) dX1_dayEarned_12 (by decide) ?_
    exact z_iret C (pc := 19) T dX1_dayEarned_19 (by decide) (by decide) h
def wp_X1_dayAfterBefore (S : Hp) (x0 : Nat) (x1 : Option Nat) (Q : Int32 → Hp → Prop) : Prop :=
  rd S 3 x1 (fun a1 => if (g_I S 303 a1) = (-1 : Int32) then (Q (0 : Int32) S) else (rd S 3 x1 (fun a4 => okA S 1 x0 ∧ (wp_X1_dayEarned S x0 (g_I S 303 a4) (fun r9 S8 => if r9 = (1000000 : Int32) then (Q (1000000 : Int32) S8) else (rd S8 3 x1 (fun a10 => Q (r9 + (g_I S8 304 a10)) S8)))))))
def rm_X1_dayAfterBefore : Room := { frames := 2, cells := 0, slots := 0, locals := 43 }
set_option maxHeartbeats 4000000 in
set_option maxRecDepth 100000 in
theorem c_X1_dayAfterBefore (l : Launch) (v : Ev) (S : Hp) (x0 : Nat) (x1 : Option Nat) : CI l v yX1_dayAfterBefore cX1_dayAfterBefore 3 (some .int) rm_X1_dayAfterBefore [va_rf (some x0), va_rf x1] S (fun Q _ => wp_X1_dayAfterBefore S x0 x1 Q) := by
  intro Q EQ h
  refine z_start [(0, va_rf (some x0)), (1, va_rf x1)] (by decide +kernel) (by simp only [la_i, la_r, la_n]) (cat_cr (cat_cr cat_nil)) (by simp only [ls_i, ls_r, ls_n]; decide) (fun z C N T => ?_)
  unfold wp_X1_dayAfterBefore at h
  refine z_aload_n C (pc := 0) dX1_dayAfterBefore_0 1 rfl ?_
  obtain ⟨a1, e2, o3, h⟩ := h
  refine z_getI C (pc := 1) kf3 3 (by decide) rfl bw_807 (fun _ _ _ _ h => h) dX1_dayAfterBefore_1 e2 o3 ?_
  refine z_iconst C (pc := 4) (x := (-1 : Int32)) dX1_dayAfterBefore_4 kic_m1 ?_
  refine z_icmp_ne C (pc := 5) (tgt := 10) dX1_dayAfterBefore_5 (by decide) h (fun h => ?_) (fun h => ?_)
  · refine z_aload_n C (pc := 10) dX1_dayAfterBefore_10 0 rfl ?_
    refine z_aload_n C (pc := 11) dX1_dayAfterBefore_11 1 rfl ?_
    obtain ⟨a4, e5, o6, h⟩ := h
    refine z_getI C (pc := 12) kf3 3 (by decide) rfl bw_807 (fun _ _ _ _ h => h) dX1_dayAfterBefore_12 e5 o6 ?_
    obtain ⟨o7, h⟩ := h
    refine z_Vi C (pc := 15) (KX := fun _ _ => False) (kc' := 0) (ks' := 0) (As := [.int (g_I S 303 a4)]) (rest := []) rfl (c_X1_dayEarned l v S x0 (g_I S 303 a4)) mw_X1_dayEarned bw_215 bw_216 bw_217 (fit_of rfl) rfl rfl (Nat.le_of_ble_eq_true rfl) (by decide) rfl o7 dX1_dayAfterBefore_15 h (fun r9 S8 h => ?_) (fun En S9 h => h.elim)
    refine z_istore_n C (pc := 18) (lv' := [(2, .int r9), (0, va_rf (some x0)), (1, va_rf x1)]) dX1_dayAfterBefore_18 (by decide) rfl ?_
    refine z_iload_n C (pc := 19) dX1_dayAfterBefore_19 0 rfl ?_
    refine z_ldc C (pc := 20) (x := (1000000 : Int32)) dX1_dayAfterBefore_20 bw_223 ?_
    refine z_icmp_ne C (pc := 22) (tgt := 30) dX1_dayAfterBefore_22 (by decide) h (fun h => ?_) (fun h => ?_)
    · refine z_iload_n C (pc := 30) dX1_dayAfterBefore_30 0 rfl ?_
      refine z_aload_n C (pc := 31) dX1_dayAfterBefore_31 2 rfl ?_
      obtain ⟨a10, e11, o12, h⟩ := h
      refine z_getI C (pc := 32) kf3 4 (by decide) rfl bw_809 (fun _ _ _ _ h => h) dX1_dayAfterBefore_32 e11 o12 ?_
      refine z_iadd C (pc := 35) dX1_dayAfterBefore_35 ?_
      exact z_iret C (pc := 36) T dX1_dayAfterBefore_36 (by decide) (by decide) h
    · refine z_ldc C (pc := 25) (x := (1000000 : Int32)) dX1_dayAfterBefore_25 bw_223 ?_
      refine z_goto C (pc := 27) (tgt := 36) dX1_dayAfterBefore_27 (by decide) ?_
      exact z_iret C (pc := 36) T dX1_dayAfterBefore_36 (by decide) (by decide) h
  · refine z_iconst C (pc := 8) (x := (0 : Int32)) dX1_dayAfterBefore_8 kic_0 ?_
    exact z_iret C (pc := 9) T dX1_dayAfterBefore_9 (by decide) (by decide) h
def wp_X1_dayProven_L16 (f0 : Nat) (f1 : Option Nat) (Q : Int32 → Hp → Prop) : Nat → Hp → Int32 → Int32 → Int32 → Int32 → Prop
  | 0, _, _, _, _, _ => False
  | n + 1, S, w2, w3, w4, w5 => okA S 1 f0 ∧ (if (g_I S 110 f0) ≤ w5 then (if w3 = 0 then (if w4 = 0 then (Q w2 S) else (Q (1000000 : Int32) S)) else (Q (1000000 : Int32) S)) else (rd S 11 (g_P S 111 f0) (fun a10 => if (Int32.ofNat (g_N S a10)) ≤ w5 then (if w3 = 0 then (if w4 = 0 then (Q w2 S) else (Q (1000000 : Int32) S)) else (Q (1000000 : Int32) S)) else (rd S 11 (g_P S 112 f0) (fun a13 => if (Int32.ofNat (g_N S a13)) ≤ w5 then (if w3 = 0 then (if w4 = 0 then (Q w2 S) else (Q (1000000 : Int32) S)) else (Q (1000000 : Int32) S)) else (rd S 11 (g_P S 111 f0) (fun a16 => vp_in w5 (g_N S a16) ∧ (lt ((1 : Int32) <<< ((g_R S a16 w5.toNatClampNeg) &&& 31)) (fun y20 => if (w3 &&& y20) = 0 then (rd S 3 f1 (fun a21 => if ((g_I S 301 a21) &&& y20) = 0 then (wp_X1_dayProven_L16 f0 f1 Q n S w2 w3 w4 (w5 + (1 : Int32))) else (if w4 ≤ 0 then (wp_X1_dayProven_L16 f0 f1 Q n S w2 w3 w4 (w5 + (1 : Int32))) else (rd S 11 (g_P S 112 f0) (fun a24 => vp_in w5 (g_N S a24) ∧ (lt (g_R S a24 w5.toNatClampNeg) (fun y28 => wp_X1_dayProven_L16 f0 f1 Q n S y28 w3 (w4 + (-1 : Int32)) (w5 + (1 : Int32))))))))) else (lt (w3 &&& (y20 ^^^ (-1 : Int32))) (fun y29 => rd S 11 (g_P S 112 f0) (fun a30 => vp_in w5 (g_N S a30) ∧ (lt (g_R S a30 w5.toNatClampNeg) (fun y34 => wp_X1_dayProven_L16 f0 f1 Q n S y34 y29 w4 (w5 + (1 : Int32))))))))))))))))
def wp_X1_dayProven (S : Hp) (x0 : Nat) (x1 : Option Nat) (Q : Int32 → Hp → Prop) : Prop :=
  rd S 3 x1 (fun a1 => lt (g_I S 300 a1) (fun y4 => rd S 3 x1 (fun a5 => lt (g_I S 302 a5) (fun y8 => ∃ n35, wp_X1_dayProven_L16 x0 x1 Q n35 S (0 : Int32) y4 y8 (0 : Int32)))))
def rm_X1_dayProven : Room := { frames := 0, cells := 0, slots := 0, locals := 0 }
set_option maxHeartbeats 4000000 in
set_option maxRecDepth 100000 in
theorem l_X1_dayProven_L16 (l : Launch) (v : Ev) (f0 : Nat) (f1 : Option Nat) (Q : Int32 → Hp → Prop) {EQ : String → Hp → Prop} {z : Z9} (C : Cx l v RX1 cX1_dayProven 7 (some .int) "dayProven" z) (N : NT z) (T : EE v rm_X1_dayProven (QI v Q) EQ z) : ∀ (n : Nat) (S : Hp) (w2 : Int32) (w3 : Int32) (w4 : Int32) (w5 : Int32), wp_X1_dayProven_L16 f0 f1 Q n S w2 w3 w4 w5 → ZZ l v 7 rm_X1_dayProven z 0 0 S 16 [(0, va_rf (some f0)), (1, va_rf f1), (2, .int w2), (3, .int w3), (4, .int w4), (5, .int w5)] [] := by
  intro n
  induction n with
  | zero =>
    intro S w2 w3 w4 w5 h
    exact h.elim
  | succ n ih =>
    intro S w2 w3 w4 w5 h
    unfold wp_X1_dayProven_L16 at h
    refine z_iload C (pc := 16) dX1_dayProven_16 5 rfl ?_
    refine z_aload_n C (pc := 18) dX1_dayProven_18 0 rfl ?_
    obtain ⟨o9, h⟩ := h
    refine z_getI C (pc := 19) kf1 10 (by decide) rfl bw_507 (fun _ _ _ _ h => h) dX1_dayProven_19 rfl o9 ?_
    refine z_icmp_ge C (pc := 22) (tgt := 113) dX1_dayProven_22 (by decide) h (fun h => ?_) (fun h => ?_)
    · refine z_iload_n C (pc := 113) dX1_dayProven_113 3 rfl ?_
      refine z_if_ne C (pc := 114) (tgt := 126) dX1_dayProven_114 (by decide) h (fun h => ?_) (fun h => ?_)
      · refine z_ldc C (pc := 126) (x := (1000000 : Int32)) dX1_dayProven_126 bw_223 ?_
        exact z_iret C (pc := 128) T dX1_dayProven_128 (by decide) (by decide) h
      · refine z_iload C (pc := 117) dX1_dayProven_117 4 rfl ?_
        refine z_if_ne C (pc := 119) (tgt := 126) dX1_dayProven_119 (by decide) h (fun h => ?_) (fun h => ?_)
        · refine z_ldc C (pc := 126) (x := (1000000 : Int32)) dX1_dayProven_126 bw_223 ?_
          exact z_iret C (pc := 128) T dX1_dayProven_128 (by decide) (by decide) h
        · refine z_iload_n C (pc := 122) dX1_dayProven_122 2 rfl ?_
          refine z_goto C (pc := 123) (tgt := 128) dX1_dayProven_123 (by decide) ?_
          exact z_iret C (pc := 128) T dX1_dayProven_128 (by decide) (by decide) h
    · refine z_iload C (pc := 25) dX1_dayProven_25 5 rfl ?_
      refine z_aload_n C (pc := 27) dX1_dayProven_27 0 rfl ?_
      refine z_getP C (pc := 28) kf1 11 (by decide) rfl bw_508 (fun _ _ _ _ h => h) dX1_dayProven_28 rfl o9 ?_
      obtain ⟨a10, e11, o12, h⟩ := h
      refine z_alen C (pc := 31) (κ := 11) (by decide) 0 .int (fun _ => rfl) dX1_dayProven_31 e11 o12 ?_
      refine z_icmp_ge C (pc := 32) (tgt := 113) dX1_dayProven_32 (by decide) h (fun h => ?_) (fun h => ?_)
      · refine z_iload_n C (pc := 113) dX1_dayProven_113 3 rfl ?_
        refine z_if_ne C (pc := 114) (tgt := 126) dX1_dayProven_114 (by decide) h (fun h => ?_) (fun h => ?_)
        · refine z_ldc C (pc := 126) (x := (1000000 : Int32)) dX1_dayProven_126 bw_223 ?_
          exact z_iret C (pc := 128) T dX1_dayProven_128 (by decide) (by decide) h
        · refine z_iload C (pc := 117) dX1_dayProven_117 4 rfl ?_
          refine z_if_ne C (pc := 119) (tgt := 126) dX1_dayProven_119 (by decide) h (fun h => ?_) (fun h => ?_)
          · refine z_ldc C (pc := 126) (x := (1000000 : Int32)) dX1_dayProven_126 bw_223 ?_
            exact z_iret C (pc := 128) T dX1_dayProven_128 (by decide) (by decide) h
          · refine z_iload_n C (pc := 122) dX1_dayProven_122 2 rfl ?_
            refine z_goto C (pc := 123) (tgt := 128) dX1_dayProven_123 (by decide) ?_
            exact z_iret C (pc := 128) T dX1_dayProven_128 (by decide) (by decide) h
      · refine z_iload C (pc := 35) dX1_dayProven_35 5 rfl ?_
        refine z_aload_n C (pc := 37) dX1_dayProven_37 0 rfl ?_
        refine z_getP C (pc := 38) kf1 12 (by decide) rfl bw_509 (fun _ _ _ _ h => h) dX1_dayProven_38 rfl o9 ?_
        obtain ⟨a13, e14, o15, h⟩ := h
        refine z_alen C (pc := 41) (κ := 11) (by decide) 0 .int (fun _ => rfl) dX1_dayProven_41 e14 o15 ?_
        refine z_icmp_ge C (pc := 42) (tgt := 113) dX1_dayProven_42 (by decide) h (fun h => ?_) (fun h => ?_)
        · refine z_iload_n C (pc := 113) dX1_dayProven_113 3 rfl ?_
          refine z_if_ne C (pc := 114) (tgt := 126) dX1_dayProven_114 (by decide) h (fun h => ?_) (fun h => ?_)
          · refine z_ldc C (pc := 126) (x := (1000000 : Int32)) dX1_dayProven_126 bw_223 ?_
            exact z_iret C (pc := 128) T dX1_dayProven_128 (by decide) (by decide) h
          · refine z_iload C (pc := 117) dX1_dayProven_117 4 rfl ?_
            refine z_if_ne C (pc := 119) (tgt := 126) dX1_dayProven_119 (by decide) h (fun h => ?_) (fun h => ?_)
            · refine z_ldc C (pc := 126) (x := (1000000 : Int32)) dX1_dayProven_126 bw_223 ?_
              exact z_iret C (pc := 128) T dX1_dayProven_128 (by decide) (by decide) h
            · refine z_iload_n C (pc := 122) dX1_dayProven_122 2 rfl ?_
              refine z_goto C (pc := 123) (tgt := 128) dX1_dayProven_123 (by decide) ?_
              exact z_iret C (pc := 128) T dX1_dayProven_128 (by decide) (by decide) h
        · refine z_iconst C (pc := 45) (x := (1 : Int32)) dX1_dayProven_45 kic_1 ?_
          refine z_aload_n C (pc := 46) dX1_dayProven_46 0 rfl ?_
          refine z_getP C (pc := 47) kf1 11 (by decide) rfl bw_508 (fun _ _ _ _ h => h) dX1_dayProven_47 rfl o9 ?_
          refine z_iload C (pc := 50) dX1_dayProven_50 5 rfl ?_
          obtain ⟨a16, e17, o18, h⟩ := h
          obtain ⟨v19, h⟩ := h
          refine z_iald C (pc := 52) dX1_dayProven_52 e17 o18 v19 ?_
          refine z_ishl C (pc := 53) dX1_dayProven_53 ?_
          refine z_nI h (fun y20 h => ?_)
          refine z_istore C (pc := 54) (lv' := [(6, .int y20), (0, va_rf (some f0)), (1, va_rf f1), (2, .int w2), (3, .int w3), (4, .int w4), (5, .int w5)]) dX1_dayProven_54 (by decide) rfl ?_
          refine z_iload_n C (pc := 56) dX1_dayProven_56 4 rfl ?_
          refine z_iload C (pc := 57) dX1_dayProven_57 0 rfl ?_
          refine z_iand C (pc := 59) dX1_dayProven_59 ?_
          refine z_if_eq C (pc := 60) (tgt := 81) dX1_dayProven_60 (by decide) h (fun h => ?_) (fun h => ?_)
          · refine z_aload_n C (pc := 81) dX1_dayProven_81 2 rfl ?_
            obtain ⟨a21, e22, o23, h⟩ := h
            refine z_getI C (pc := 82) kf3 1 (by decide) rfl bw_803 (fun _ _ _ _ h => h) dX1_dayProven_82 e22 o23 ?_
            refine z_iload C (pc := 85) dX1_dayProven_85 0 rfl ?_
            refine z_iand C (pc := 87) dX1_dayProven_87 ?_
            refine z_if_eq C (pc := 88) (tgt := 107) dX1_dayProven_88 (by decide) h (fun h => ?_) (fun h => ?_)
            · refine z_iinc C (pc := 107) (y := w5 + (1 : Int32)) (lv' := [(5, .int (w5 + (1 : Int32))), (6, .int y20), (0, va_rf (some f0)), (1, va_rf f1), (2, .int w2), (3, .int w3), (4, .int w4)]) dX1_dayProven_107 6 rfl rfl (by decide) rfl ?_
              refine z_goto C (pc := 110) (tgt := 16) dX1_dayProven_110 (by decide) ?_
              refine z_sub [2, 3, 4, 5, 6, 0] (lv' := [(0, va_rf (some f0)), (1, va_rf f1), (2, .int w2), (3, .int w3), (4, .int w4), (5, .int (w5 + (1 : Int32)))]) rfl ?_
              exact ih S w2 w3 w4 (w5 + (1 : Int32)) h
            · refine z_iload C (pc := 91) dX1_dayProven_91 5 rfl ?_
              refine z_if_le C (pc := 93) (tgt := 107) dX1_dayProven_93 (by decide) h (fun h => ?_) (fun h => ?_)
              · refine z_iinc C (pc := 107) (y := w5 + (1 : Int32)) (lv' := [(5, .int (w5 + (1 : Int32))), (6, .int y20), (0, va_rf (some f0)), (1, va_rf f1), (2, .int w2), (3, .int w3), (4, .int w4)]) dX1_dayProven_107 6 rfl rfl (by decide) rfl ?_
                refine z_goto C (pc := 110) (tgt := 16) dX1_dayProven_110 (by decide) ?_
                refine z_sub [2, 3, 4, 5, 6, 0] (lv' := [(0, va_rf (some f0)), (1, va_rf f1), (2, .int w2), (3, .int w3), (4, .int w4), (5, .int (w5 + (1 : Int32)))]) rfl ?_
                exact ih S w2 w3 w4 (w5 + (1 : Int32)) h
              · refine z_iinc C (pc := 96) (y := w4 + (-1 : Int32)) (lv' := [(4, .int (w4 + (-1 : Int32))), (6, .int y20), (0, va_rf (some f0)), (1, va_rf f1), (2, .int w2), (3, .int w3), (5, .int w5)]) dX1_dayProven_96 5 rfl rfl (by decide) rfl ?_
                refine z_aload_n C (pc := 99) dX1_dayProven_99 2 rfl ?_
                refine z_getP C (pc := 100) kf1 12 (by decide) rfl bw_509 (fun _ _ _ _ h => h) dX1_dayProven_100 rfl o9 ?_
                refine z_iload C (pc := 103) dX1_dayProven_103 6 rfl ?_
                obtain ⟨a24, e25, o26, h⟩ := h
                obtain ⟨v27, h⟩ := h
                refine z_iald C (pc := 105) dX1_dayProven_105 e25 o26 v27 ?_
                refine z_nI h (fun y28 h => ?_)
                refine z_istore_n C (pc := 106) (lv' := [(2, .int y28), (4, .int (w4 + (-1 : Int32))), (6, .int y20), (0, va_rf (some f0)), (1, va_rf f1), (3, .int w3), (5, .int w5)]) dX1_dayProven_106 (by decide) rfl ?_
                refine z_iinc C (pc := 107) (y := w5 + (1 : Int32)) (lv' := [(5, .int (w5 + (1 : Int32))), (2, .int y28), (4, .int (w4 + (-1 : Int32))), (6, .int y20), (0, va_rf (some f0)), (1, va_rf f1), (3, .int w3)]) dX1_dayProven_107 6 rfl rfl (by decide) rfl ?_
                refine z_goto C (pc := 110) (tgt := 16) dX1_dayProven_110 (by decide) ?_
                refine z_sub [4, 5, 1, 6, 2, 0] (lv' := [(0, va_rf (some f0)), (1, va_rf f1), (2, .int y28), (3, .int w3), (4, .int (w4 + (-1 : Int32))), (5, .int (w5 + (1 : Int32)))]) rfl ?_
                exact ih S y28 w3 (w4 + (-1 : Int32)) (w5 + (1 : Int32)) h
          · refine z_iload_n C (pc := 63) dX1_dayProven_63 4 rfl ?_
            refine z_iload C (pc := 64) dX1_dayProven_64 0 rfl ?_
            refine z_iconst C (pc := 66) (x := (-1 : Int32)) dX1_dayProven_66 kic_m1 ?_
            refine z_ixor C (pc := 67) dX1_dayProven_67 ?_
            refine z_iand C (pc := 68) dX1_dayProven_68 ?_
            refine z_nI h (fun y29 h => ?_)
            refine z_istore_n C (pc := 69) (lv' := [(3, .int y29), (6, .int y20), (0, va_rf (some f0)), (1, va_rf f1), (2, .int w2), (4, .int w4), (5, .int w5)]) dX1_dayProven_69 (by decide) rfl ?_
            refine z_aload_n C (pc := 70) dX1_dayProven_70 2 rfl ?_
            refine z_getP C (pc := 71) kf1 12 (by decide) rfl bw_509 (fun _ _ _ _ h => h) dX1_dayProven_71 rfl o9 ?_
            refine z_iload C (pc := 74) dX1_dayProven_74 6 rfl ?_
            obtain ⟨a30, e31, o32, h⟩ := h
            obtain ⟨v33, h⟩ := h
            refine z_iald C (pc := 76) dX1_dayProven_76 e31 o32 v33 ?_
            refine z_nI h (fun y34 h => ?_)
            refine z_istore_n C (pc := 77) (lv' := [(2, .int y34), (3, .int y29), (6, .int y20), (0, va_rf (some f0)), (1, va_rf f1), (4, .int w4), (5, .int w5)]) dX1_dayProven_77 (by decide) rfl ?_
            refine z_goto C (pc := 78) (tgt := 107) dX1_dayProven_78 (by decide) ?_
            refine z_iinc C (pc := 107) (y := w5 + (1 : Int32)) (lv' := [(5, .int (w5 + (1 : Int32))), (2, .int y34), (3, .int y29), (6, .int y20), (0, va_rf (some f0)), (1, va_rf f1), (4, .int w4)]) dX1_dayProven_107 6 rfl rfl (by decide) rfl ?_
            refine z_goto C (pc := 110) (tgt := 16) dX1_dayProven_110 (by decide) ?_
            refine z_sub [4, 5, 1, 2, 6, 0] (lv' := [(0, va_rf (some f0)), (1, va_rf f1), (2, .int y34), (3, .int y29), (4, .int w4), (5, .int (w5 + (1 : Int32)))]) rfl ?_
            exact ih S y34 y29 w4 (w5 + (1 : Int32)) h
set_option maxHeartbeats 4000000 in
set_option maxRecDepth 100000 in
theorem c_X1_dayProven (l : Launch) (v : Ev) (S : Hp) (x0 : Nat) (x1 : Option Nat) : CI l v yX1_dayProven cX1_dayProven 7 (some .int) rm_X1_dayProven [va_rf (some x0), va_rf x1] S (fun Q _ => wp_X1_dayProven S x0 x1 Q) := by
  intro Q EQ h
  refine z_start [(0, va_rf (some x0)), (1, va_rf x1)] (by decide +kernel) (by simp only [la_i, la_r, la_n]) (cat_cr (cat_cr cat_nil)) (by simp only [ls_i, ls_r, ls_n]; decide) (fun z C N T => ?_)
  unfold wp_X1_dayProven at h
  refine z_iconst C (pc := 0) (x := (0 : Int32)) dX1_dayProven_0 kic_0 ?_
  refine z_istore_n C (pc := 1) (lv' := [(2, .int (0 : Int32)), (0, va_rf (some x0)), (1, va_rf x1)]) dX1_dayProven_1 (by decide) rfl ?_
  refine z_aload_n C (pc := 2) dX1_dayProven_2 2 rfl ?_
  obtain ⟨a1, e2, o3, h⟩ := h
  refine z_getI C (pc := 3) kf3 0 (by decide) rfl bw_800 (fun _ _ _ _ h => h) dX1_dayProven_3 e2 o3 ?_
  refine z_nI h (fun y4 h => ?_)
  refine z_istore_n C (pc := 6) (lv' := [(3, .int y4), (2, .int (0 : Int32)), (0, va_rf (some x0)), (1, va_rf x1)]) dX1_dayProven_6 (by decide) rfl ?_
  refine z_aload_n C (pc := 7) dX1_dayProven_7 3 rfl ?_
  obtain ⟨a5, e6, o7, h⟩ := h
  refine z_getI C (pc := 8) kf3 2 (by decide) rfl bw_805 (fun _ _ _ _ h => h) dX1_dayProven_8 e6 o7 ?_
  refine z_nI h (fun y8 h => ?_)
  refine z_istore C (pc := 11) (lv' := [(4, .int y8), (3, .int y4), (2, .int (0 : Int32)), (0, va_rf (some x0)), (1, va_rf x1)]) dX1_dayProven_11 (by decide) rfl ?_
  refine z_iconst C (pc := 13) (x := (0 : Int32)) dX1_dayProven_13 kic_0 ?_
  refine z_istore C (pc := 14) (lv' := [(5, .int (0 : Int32)), (4, .int y8), (3, .int y4), (2, .int (0 : Int32)), (0, va_rf (some x0)), (1, va_rf x1)]) dX1_dayProven_14 (by decide) rfl ?_
  obtain ⟨n35, h⟩ := h
  refine z_sub [4, 5, 3, 2, 1, 0] (lv' := [(0, va_rf (some x0)), (1, va_rf x1), (2, .int (0 : Int32)), (3, .int y4), (4, .int y8), (5, .int (0 : Int32))]) rfl ?_
  exact l_X1_dayProven_L16 l v x0 x1 Q C N T n35 S (0 : Int32) y4 y8 (0 : Int32) h
def wp_X1_reckonBadges_L2 (f0 : Nat) (Q : Hp → Prop) : Nat → Hp → Int32 → Prop
  | 0, _, _ => False
  | n + 1, S, w1 => okA S 1 f0 ∧ (rd S 14 (g_P S 113 f0) (fun a2 => if (Int32.ofNat (g_N S a2)) ≤ w1 then (Q S) else (rd S 14 (g_P S 113 f0) (fun a5 => vp_in w1 (g_N S a5) ∧ (lt (g_O S a5 w1.toNatClampNeg) (fun y9 => if y9 = none then (wp_X1_reckonBadges_L2 f0 Q n S (w1 + (1 : Int32))) else (rd S 2 y9 (fun a10 => wp_X1_dayAfterBefore S f0 (g_P S 200 a10) (fun r14 S13 => rd S13 2 y9 (fun a15 => rd S13 2 y9 (fun a18 => okA S13 1 f0 ∧ (wp_X1_dayProven S13 f0 (g_P S13 200 a18) (fun r23 S22 => rd S22 2 y9 (fun a24 => lt (s_I S22 202 a24 (if (if (g_I S13 201 a15) < r14 then r14 else (g_I S13 201 a15)) < r23 then r23 else (if (g_I S13 201 a15) < r14 then r14 else (g_I S13 201 a15)))) (fun S27 => wp_X1_reckonBadges_L2 f0 Q n S27 (w1 + (1 : Int32)))))))))))))))))
def wp_X1_reckonBadges (S : Hp) (x0 : Nat) (Q : Hp → Prop) : Prop :=
  ∃ n28, wp_X1_reckonBadges_L2 x0 Q n28 S (0 : Int32)
def rm_X1_reckonBadges : Room := { frames := 3, cells := 0, slots := 0, locals := 65 }
set_option maxHeartbeats 4000000 in
set_option maxRecDepth 100000 in
theorem l_X1_reckonBadges_L2 (l : Launch) (v : Ev) (f0 : Nat) (Q : Hp → Prop) {EQ : String → Hp → Prop} {z : Z9} (C : Cx l v RX1 cX1_reckonBadges 4 none "reckonBadges" z) (N : NT z) (T : EE v rm_X1_reckonBadges (QV v Q) EQ z) : ∀ (n : Nat) (S : Hp) (w1 : Int32), wp_X1_reckonBadges_L2 f0 Q n S w1 → ZZ l v 4 rm_X1_reckonBadges z 0 0 S 2 [(0, va_rf (some f0)), (1, .int w1)] [] := by
  intro n
  induction n with
  | zero =>
    intro S w1 h
    exact h.elim
  | succ n ih =>
    intro S w1 h
    unfold wp_X1_reckonBadges_L2 at h
    refine z_iload_n C (pc := 2) dX1_reckonBadges_2 1 rfl ?_
    refine z_aload_n C (pc := 3) dX1_reckonBadges_3 0 rfl ?_
    obtain ⟨o1, h⟩ := h
    refine z_getP C (pc := 4) kf1 13 (by decide) rfl bw_510 (fun _ _ _ _ h => h) dX1_reckonBadges_4 rfl o1 ?_
    obtain ⟨a2, e3, o4, h⟩ := h
    refine z_alen C (pc := 7) (κ := 14) (by decide) 3 (.object "Badgewood$Course") (fun _ => rfl) dX1_reckonBadges_7 e3 o4 ?_
    refine z_icmp_ge C (pc := 8) (tgt := 60) dX1_reckonBadges_8 (by decide) h (fun h => ?_) (fun h => ?_)
    · exact z_vret C (pc := 60) T dX1_reckonBadges_60 (by decide) (by decide) h
    · refine z_aload_n C (pc := 11) dX1_reckonBadges_11 0 rfl ?_
      refine z_getP C (pc := 12) kf1 13 (by decide) rfl bw_510 (fun _ _ _ _ h => h) dX1_reckonBadges_12 rfl o1 ?_
      refine z_iload_n C (pc := 15) dX1_reckonBadges_15 1 rfl ?_
      obtain ⟨a5, e6, o7, h⟩ := h
      obtain ⟨v8, h⟩ := h
      refine z_aald C (pc := 16) (κ := 14) (by decide) 3 (fun _ => rfl) dX1_reckonBadges_16 e6 o7 v8 ?_
      refine z_nP h (fun y9 h => ?_)
      refine z_astore_n C (pc := 17) (lv' := [(2, va_rf y9), (0, va_rf (some f0)), (1, .int w1)]) dX1_reckonBadges_17 (by decide) rfl ?_
      refine z_aload_n C (pc := 18) dX1_reckonBadges_18 0 rfl ?_
      refine z_ifnull C (pc := 19) (tgt := 54) dX1_reckonBadges_19 (by decide) h (fun h => ?_) (fun h => ?_)
      · refine z_iinc C (pc := 54) (y := w1 + (1 : Int32)) (lv' := [(1, .int (w1 + (1 : Int32))), (2, va_rf y9), (0, va_rf (some f0))]) dX1_reckonBadges_54 2 rfl rfl (by decide) rfl ?_
        refine z_goto C (pc := 57) (tgt := 2) dX1_reckonBadges_57 (by decide) ?_
        refine z_sub [2, 0] (lv' := [(0, va_rf (some f0)), (1, .int (w1 + (1 : Int32)))]) rfl ?_
        exact ih S (w1 + (1 : Int32)) h
      · refine z_aload_n C (pc := 22) dX1_reckonBadges_22 1 rfl ?_
        refine z_aload_n C (pc := 23) dX1_reckonBadges_23 0 rfl ?_
        obtain ⟨a10, e11, o12, h⟩ := h
        refine z_getP C (pc := 24) kf2 0 (by decide) rfl bw_681 (fun _ _ _ _ h => h) dX1_reckonBadges_24 e11 o12 ?_
        refine z_Vi C (pc := 27) (KX := fun _ _ => False) (kc' := 0) (ks' := 0) (As := [va_rf (g_P S 200 a10)]) (rest := []) rfl (c_X1_dayAfterBefore l v S f0 (g_P S 200 a10)) mw_X1_dayAfterBefore bw_702 bw_704 bw_p25 (fit_of rfl) rfl rfl (Nat.le_of_ble_eq_true rfl) (by decide) rfl o1 dX1_reckonBadges_27 h (fun r14 S13 h => ?_) (fun En S9 h => h.elim)
        refine z_istore_n C (pc := 30) (lv' := [(3, .int r14), (2, va_rf y9), (0, va_rf (some f0)), (1, .int w1)]) dX1_reckonBadges_30 (by decide) rfl ?_
        refine z_aload_n C (pc := 31) dX1_reckonBadges_31 1 rfl ?_
        refine z_aload_n C (pc := 32) dX1_reckonBadges_32 1 rfl ?_
        obtain ⟨a15, e16, o17, h⟩ := h
        refine z_getI C (pc := 33) kf2 1 (by decide) rfl bw_684 (fun _ _ _ _ h => h) dX1_reckonBadges_33 e16 o17 ?_
        refine z_iload_n C (pc := 36) dX1_reckonBadges_36 0 rfl ?_
        refine z_max C (pc := 37) bw_706 bw_439 bw_13 bw_440 ⟨by decide, Nat.le_of_ble_eq_true rfl, by decide, by decide⟩ dX1_reckonBadges_37 ?_
        refine z_aload_n C (pc := 40) dX1_reckonBadges_40 2 rfl ?_
        refine z_aload_n C (pc := 41) dX1_reckonBadges_41 1 rfl ?_
        obtain ⟨a18, e19, o20, h⟩ := h
        refine z_getP C (pc := 42) kf2 0 (by decide) rfl bw_681 (fun _ _ _ _ h => h) dX1_reckonBadges_42 e19 o20 ?_
        obtain ⟨o21, h⟩ := h
        refine z_Vi C (pc := 45) (KX := fun _ _ => False) (kc' := 0) (ks' := 0) (As := [va_rf (g_P S13 200 a18)]) (rest := [.int (if (g_I S13 201 a15) < r14 then r14 else (g_I S13 201 a15)), va_rf y9]) rfl (c_X1_dayProven l v S13 f0 (g_P S13 200 a18)) mw_X1_dayProven bw_707 bw_709 bw_p26 (fit_of rfl) rfl rfl (Nat.le_of_ble_eq_true rfl) (by decide) rfl o21 dX1_reckonBadges_45 h (fun r23 S22 h => ?_) (fun En S9 h => h.elim)
        refine z_max C (pc := 48) bw_706 bw_439 bw_13 bw_440 ⟨by decide, Nat.le_of_ble_eq_true rfl, by decide, by decide⟩ dX1_reckonBadges_48 ?_
        obtain ⟨a24, e25, o26, h⟩ := h
        refine z_putI C (pc := 51) kf2 2 (by decide) rfl rfl bw_686 (fun _ _ _ _ h => h) dX1_reckonBadges_51 e25 o26 ?_
        refine z_lt h (fun S27 h => ?_)
        refine z_iinc C (pc := 54) (y := w1 + (1 : Int32)) (lv' := [(1, .int (w1 + (1 : Int32))), (3, .int r14), (2, va_rf y9), (0, va_rf (some f0))]) dX1_reckonBadges_54 3 rfl rfl (by decide) rfl ?_
        refine z_goto C (pc := 57) (tgt := 2) dX1_reckonBadges_57 (by decide) ?_
        refine z_sub [3, 0] (lv' := [(0, va_rf (some f0)), (1, .int (w1 + (1 : Int32)))]) rfl ?_
        exact ih S27 (w1 + (1 : Int32)) h
set_option maxHeartbeats 4000000 in
set_option maxRecDepth 100000 in
theorem c_X1_reckonBadges (l : Launch) (v : Ev) (S : Hp) (x0 : Nat) : CV l v yX1_reckonBadges cX1_reckonBadges 4 none rm_X1_reckonBadges [va_rf (some x0)] S (fun Q _ => wp_X1_reckonBadges S x0 Q) := by
  intro Q EQ h
  refine z_start [(0, va_rf (some x0))] (by decide +kernel) (by simp only [la_i, la_r, la_n]) (cat_cr cat_nil) (by simp only [ls_i, ls_r, ls_n]; decide) (fun z C N T => ?_)
  unfold wp_X1_reckonBadges at h
  refine z_iconst C (pc := 0) (x := (0 : Int32)) dX1_reckonBadges_0 kic_0 ?_
  refine z_istore_n C (pc := 1) (lv' := [(1, .int (0 : Int32)), (0, va_rf (some x0))]) dX1_reckonBadges_1 (by decide) rfl ?_
  obtain ⟨n28, h⟩ := h
  refine z_sub [1, 0] (lv' := [(0, va_rf (some x0)), (1, .int (0 : Int32))]) rfl ?_
  exact l_X1_reckonBadges_L2 l v x0 Q C N T n28 S (0 : Int32) h
def wp_X1_take (S : Hp) (x0 : Nat) (x1 : Int32) (x2 : Option Nat) (Q : Hp → Prop) : Prop :=
  if x1 < 0 then (Q S) else (okA S 1 x0 ∧ (rd S 14 (g_P S 113 x0) (fun a2 => if (Int32.ofNat (g_N S a2)) ≤ x1 then (Q S) else (rd S 14 (g_P S 113 x0) (fun a5 => vp_in x1 (g_N S a5) ∧ (rd S 2 x2 (fun a9 => lt (s_O S a5 x1.toNatClampNeg x2) (fun S12 => okA S12 1 x0 ∧ (wp_X1_reckonBadges S12 x0 (fun S14 => Q S14))))))))))
def rm_X1_take : Room := { frames := 4, cells := 0, slots := 0, locals := 88 }
set_option maxHeartbeats 4000000 in
set_option maxRecDepth 100000 in
theorem c_X1_take (l : Launch) (v : Ev) (S : Hp) (x0 : Nat) (x1 : Int32) (x2 : Option Nat) : CV l v yX1_take cX1_take 3 none rm_X1_take [va_rf (some x0), .int x1, va_rf x2] S (fun Q _ => wp_X1_take S x0 x1 x2 Q) := by
  intro Q EQ h
  refine z_start [(0, va_rf (some x0)), (1, .int x1), (2, va_rf x2)] (by decide +kernel) (by simp only [la_i, la_r, la_n]) (cat_cr (cat_ci (cat_cr cat_nil))) (by simp only [ls_i, ls_r, ls_n]; decide) (fun z C N T => ?_)
  unfold wp_X1_take at h
  refine z_iload_n C (pc := 0) dX1_take_0 1 rfl ?_
  refine z_if_lt C (pc := 1) (tgt := 24) dX1_take_1 (by decide) h (fun h => ?_) (fun h => ?_)
  · exact z_vret C (pc := 24) T dX1_take_24 (by decide) (by decide) h
  · refine z_iload_n C (pc := 4) dX1_take_4 1 rfl ?_
    refine z_aload_n C (pc := 5) dX1_take_5 0 rfl ?_
    obtain ⟨o1, h⟩ := h
    refine z_getP C (pc := 6) kf1 13 (by decide) rfl bw_510 (fun _ _ _ _ h => h) dX1_take_6 rfl o1 ?_
    obtain ⟨a2, e3, o4, h⟩ := h
    refine z_alen C (pc := 9) (κ := 14) (by decide) 3 (.object "Badgewood$Course") (fun _ => rfl) dX1_take_9 e3 o4 ?_
    refine z_icmp_ge C (pc := 10) (tgt := 24) dX1_take_10 (by decide) h (fun h => ?_) (fun h => ?_)
    · exact z_vret C (pc := 24) T dX1_take_24 (by decide) (by decide) h
    · refine z_aload_n C (pc := 13) dX1_take_13 0 rfl ?_
      refine z_getP C (pc := 14) kf1 13 (by decide) rfl bw_510 (fun _ _ _ _ h => h) dX1_take_14 rfl o1 ?_
      refine z_iload_n C (pc := 17) dX1_take_17 1 rfl ?_
      refine z_aload_n C (pc := 18) dX1_take_18 2 rfl ?_
      obtain ⟨a5, e6, o7, h⟩ := h
      obtain ⟨v8, h⟩ := h
      obtain ⟨a9, e10, o11, h⟩ := h
      refine z_aast C (pc := 19) (κ := 14) (ci := 2) (by decide) 3 (fun _ => rfl) (by decide) rfl (Or.inr rfl) dX1_take_19 e6 o7 v8 e10 o11 ?_
      refine z_lt h (fun S12 h => ?_)
      refine z_aload_n C (pc := 20) dX1_take_20 0 rfl ?_
      obtain ⟨o13, h⟩ := h
      refine z_Vv C (pc := 21) (KX := fun _ _ => False) (kc' := 0) (ks' := 0) (As := []) (rest := []) rfl (c_X1_reckonBadges l v S12 x0) mw_X1_reckonBadges bw_698 bw_700 bw_p24 (fit_of rfl) rfl rfl (Nat.le_of_ble_eq_true rfl) (by decide) rfl o13 dX1_take_21 h (fun S14 h => ?_) (fun En S9 h => h.elim)
      exact z_vret C (pc := 24) T dX1_take_24 (by decide) (by decide) h
def wp_X5_isVetted (S : Hp) (x0 : Nat) (x1 : Int32) (x2 : Int32) (Q : Int32 → Hp → Prop) : Prop :=
  if x1 < 0 then (bz (0 : Int32) (Q (0 : Int32) S)) else (okA S 5 x0 ∧ (rd S 11 (g_P S 500 x0) (fun a2 => if (Int32.ofNat (g_N S a2)) ≤ x1 then (bz (0 : Int32) (Q (0 : Int32) S)) else (rd S 11 (g_P S 501 x0) (fun a5 => if (Int32.ofNat (g_N S a5)) ≤ x1 then (bz (0 : Int32) (Q (0 : Int32) S)) else (rd S 11 (g_P S 500 x0) (fun a8 => vp_in x1 (g_N S a8) ∧ (if x2 < (g_R S a8 x1.toNatClampNeg) then (bz (0 : Int32) (Q (0 : Int32) S)) else (rd S 11 (g_P S 501 x0) (fun a12 => vp_in x1 (g_N S a12) ∧ (if (g_R S a12 x1.toNatClampNeg) < x2 then (bz (0 : Int32) (Q (0 : Int32) S)) else (bz (1 : Int32) (Q (1 : Int32) S)))))))))))))
def rm_X5_isVetted : Room := { frames := 0, cells := 0, slots := 0, locals := 0 }
set_option maxHeartbeats 4000000 in
set_option maxRecDepth 100000 in
theorem c_X5_isVetted (l : Launch) (v : Ev) (S : Hp) (x0 : Nat) (x1 : Int32) (x2 : Int32) : CI l v yX5_isVetted cX5_isVetted 3 (some .boolean) rm_X5_isVetted [va_rf (some x0), .int x1, .int x2] S (fun Q _ => wp_X5_isVetted S x0 x1 x2 Q) := by
  intro Q EQ h
  refine z_start [(0, va_rf (some x0)), (1, .int x1), (2, .int x2)] (by decide +kernel) (by simp only [la_i, la_r, la_n]) (cat_cr (cat_ci (cat_ci cat_nil))) (by simp only [ls_i, ls_r, ls_n]; decide) (fun z C N T => ?_)
  unfold wp_X5_isVetted at h
  refine z_iload_n C (pc := 0) dX5_isVetted_0 1 rfl ?_
  refine z_if_lt C (pc := 1) (tgt := 46) dX5_isVetted_1 (by decide) h (fun h => ?_) (fun h => ?_)
  · refine z_iconst C (pc := 46) (x := (0 : Int32)) dX5_isVetted_46 kic_0 ?_
    exact z_zret C (pc := 47) T dX5_isVetted_47 (by decide) (by decide) h
  · refine z_iload_n C (pc := 4) dX5_isVetted_4 1 rfl ?_
    refine z_aload_n C (pc := 5) dX5_isVetted_5 0 rfl ?_
    obtain ⟨o1, h⟩ := h
    refine z_getP C (pc := 6) kf5 0 (by decide) rfl bw_623 (fun _ _ _ _ h => h) dX5_isVetted_6 rfl o1 ?_
    obtain ⟨a2, e3, o4, h⟩ := h
    refine z_alen C (pc := 9) (κ := 11) (by decide) 0 .int (fun _ => rfl) dX5_isVetted_9 e3 o4 ?_
    refine z_icmp_ge C (pc := 10) (tgt := 46) dX5_isVetted_10 (by decide) h (fun h => ?_) (fun h => ?_)
    · refine z_iconst C (pc := 46) (x := (0 : Int32)) dX5_isVetted_46 kic_0 ?_
      exact z_zret C (pc := 47) T dX5_isVetted_47 (by decide) (by decide) h
    · refine z_iload_n C (pc := 13) dX5_isVetted_13 1 rfl ?_
      refine z_aload_n C (pc := 14) dX5_isVetted_14 0 rfl ?_
      refine z_getP C (pc := 15) kf5 1 (by decide) rfl bw_624 (fun _ _ _ _ h => h) dX5_isVetted_15 rfl o1 ?_
      obtain ⟨a5, e6, o7, h⟩ := h
      refine z_alen C (pc := 18) (κ := 11) (by decide) 0 .int (fun _ => rfl) dX5_isVetted_18 e6 o7 ?_
      refine z_icmp_ge C (pc := 19) (tgt := 46) dX5_isVetted_19 (by decide) h (fun h => ?_) (fun h => ?_)
      · refine z_iconst C (pc := 46) (x := (0 : Int32)) dX5_isVetted_46 kic_0 ?_
        exact z_zret C (pc := 47) T dX5_isVetted_47 (by decide) (by decide) h
      · refine z_iload_n C (pc := 22) dX5_isVetted_22 2 rfl ?_
        refine z_aload_n C (pc := 23) dX5_isVetted_23 0 rfl ?_
        refine z_getP C (pc := 24) kf5 0 (by decide) rfl bw_623 (fun _ _ _ _ h => h) dX5_isVetted_24 rfl o1 ?_
        refine z_iload_n C (pc := 27) dX5_isVetted_27 1 rfl ?_
        obtain ⟨a8, e9, o10, h⟩ := h
        obtain ⟨v11, h⟩ := h
        refine z_iald C (pc := 28) dX5_isVetted_28 e9 o10 v11 ?_
        refine z_icmp_lt C (pc := 29) (tgt := 46) dX5_isVetted_29 (by decide) h (fun h => ?_) (fun h => ?_)
        · refine z_iconst C (pc := 46) (x := (0 : Int32)) dX5_isVetted_46 kic_0 ?_
          exact z_zret C (pc := 47) T dX5_isVetted_47 (by decide) (by decide) h
        · refine z_iload_n C (pc := 32) dX5_isVetted_32 2 rfl ?_
          refine z_aload_n C (pc := 33) dX5_isVetted_33 0 rfl ?_
          refine z_getP C (pc := 34) kf5 1 (by decide) rfl bw_624 (fun _ _ _ _ h => h) dX5_isVetted_34 rfl o1 ?_
          refine z_iload_n C (pc := 37) dX5_isVetted_37 1 rfl ?_
          obtain ⟨a12, e13, o14, h⟩ := h
          obtain ⟨v15, h⟩ := h
          refine z_iald C (pc := 38) dX5_isVetted_38 e13 o14 v15 ?_
          refine z_icmp_gt C (pc := 39) (tgt := 46) dX5_isVetted_39 (by decide) h (fun h => ?_) (fun h => ?_)
          · refine z_iconst C (pc := 46) (x := (0 : Int32)) dX5_isVetted_46 kic_0 ?_
            exact z_zret C (pc := 47) T dX5_isVetted_47 (by decide) (by decide) h
          · refine z_iconst C (pc := 42) (x := (1 : Int32)) dX5_isVetted_42 kic_1 ?_
            refine z_goto C (pc := 43) (tgt := 47) dX5_isVetted_43 (by decide) ?_
            exact z_zret C (pc := 47) T dX5_isVetted_47 (by decide) (by decide) h
def wp_X5_isVettedSomewhere_L2 (f0 : Nat) (f1 : Int32) (Q : Int32 → Hp → Prop) : Nat → Hp → Int32 → Prop
  | 0, _, _ => False
  | n + 1, S, w2 => if (3 : Int32) ≤ w2 then (bz (0 : Int32) (Q (0 : Int32) S)) else (okA S 5 f0 ∧ (wp_X5_isVetted S f0 w2 f1 (fun r3 S2 => if r3 = 0 then (wp_X5_isVettedSomewhere_L2 f0 f1 Q n S2 (w2 + (1 : Int32))) else (bz (1 : Int32) (Q (1 : Int32) S2)))))
def wp_X5_isVettedSomewhere (S : Hp) (x0 : Nat) (x1 : Int32) (Q : Int32 → Hp → Prop) : Prop :=
  ∃ n4, wp_X5_isVettedSomewhere_L2 x0 x1 Q n4 S (0 : Int32)
def rm_X5_isVettedSomewhere : Room := { frames := 1, cells := 0, slots := 0, locals := 22 }
set_option maxHeartbeats 4000000 in
set_option maxRecDepth 100000 in
theorem l_X5_isVettedSomewhere_L2 (l : Launch) (v : Ev) (f0 : Nat) (f1 : Int32) (Q : Int32 → Hp → Prop) {EQ : String → Hp → Prop} {z : Z9} (C : Cx l v RX5 cX5_isVettedSomewhere 3 (some .boolean) "isVettedSomewhere" z) (N : NT z) (T : EE v rm_X5_isVettedSomewhere (QI v Q) EQ z) : ∀ (n : Nat) (S : Hp) (w2 : Int32), wp_X5_isVettedSomewhere_L2 f0 f1 Q n S w2 → ZZ l v 3 rm_X5_isVettedSomewhere z 0 0 S 2 [(0, va_rf (some f0)), (1, .int f1), (2, .int w2)] [] := by
  intro n
  induction n with
  | zero =>
    intro S w2 h
    exact h.elim
  | succ n ih =>
    intro S w2 h
    unfold wp_X5_isVettedSomewhere_L2 at h
    refine z_iload_n C (pc := 2) dX5_isVettedSomewhere_2 2 rfl ?_
    refine z_iconst C (pc := 3) (x := (3 : Int32)) dX5_isVettedSomewhere_3 kic_3 ?_
    refine z_icmp_ge C (pc := 4) (tgt := 24) dX5_isVettedSomewhere_4 (by decide) h (fun h => ?_) (fun h => ?_)
    · refine z_iconst C (pc := 24) (x := (0 : Int32)) dX5_isVettedSomewhere_24 kic_0 ?_
      exact z_zret C (pc := 25) T dX5_isVettedSomewhere_25 (by decide) (by decide) h
    · refine z_aload_n C (pc := 7) dX5_isVettedSomewhere_7 0 rfl ?_
      refine z_iload_n C (pc := 8) dX5_isVettedSomewhere_8 2 rfl ?_
      refine z_iload_n C (pc := 9) dX5_isVettedSomewhere_9 1 rfl ?_
      obtain ⟨o1, h⟩ := h
      refine z_Vi C (pc := 10) (KX := fun _ _ => False) (kc' := 0) (ks' := 0) (As := [.int w2, .int f1]) (rest := []) rfl (c_X5_isVetted l v S f0 w2 f1) mw_X5_isVetted bw_719 bw_313 bw_314 (fit_of rfl) rfl rfl (Nat.le_of_ble_eq_true rfl) (by decide) rfl o1 dX5_isVettedSomewhere_10 h (fun r3 S2 h => ?_) (fun En S9 h => h.elim)
      refine z_if_eq C (pc := 13) (tgt := 18) dX5_isVettedSomewhere_13 (by decide) h (fun h => ?_) (fun h => ?_)
      · refine z_iinc C (pc := 18) (y := w2 + (1 : Int32)) (lv' := [(2, .int (w2 + (1 : Int32))), (0, va_rf (some f0)), (1, .int f1)]) dX5_isVettedSomewhere_18 2 rfl rfl (by decide) rfl ?_
        refine z_goto C (pc := 21) (tgt := 2) dX5_isVettedSomewhere_21 (by decide) ?_
        refine z_sub [1, 2, 0] (lv' := [(0, va_rf (some f0)), (1, .int f1), (2, .int (w2 + (1 : Int32)))]) rfl ?_
        exact ih S2 (w2 + (1 : Int32)) h
      · refine z_iconst C (pc := 16) (x := (1 : Int32)) dX5_isVettedSomewhere_16 kic_1 ?_
        exact z_zret C (pc := 17) T dX5_isVettedSomewhere_17 (by decide) (by decide) h
set_option maxHeartbeats 4000000 in
set_option maxRecDepth 100000 in
theorem c_X5_isVettedSomewhere (l : Launch) (v : Ev) (S : Hp) (x0 : Nat) (x1 : Int32) : CI l v yX5_isVettedSomewhere cX5_isVettedSomewhere 3 (some .boolean) rm_X5_isVettedSomewhere [va_rf (some x0), .int x1] S (fun Q _ => wp_X5_isVettedSomewhere S x0 x1 Q) := by
  intro Q EQ h
  refine z_start [(0, va_rf (some x0)), (1, .int x1)] (by decide +kernel) (by simp only [la_i, la_r, la_n]) (cat_cr (cat_ci cat_nil)) (by simp only [ls_i, ls_r, ls_n]; decide) (fun z C N T => ?_)
  unfold wp_X5_isVettedSomewhere at h
  refine z_iconst C (pc := 0) (x := (0 : Int32)) dX5_isVettedSomewhere_0 kic_0 ?_
  refine z_istore_n C (pc := 1) (lv' := [(2, .int (0 : Int32)), (0, va_rf (some x0)), (1, .int x1)]) dX5_isVettedSomewhere_1 (by decide) rfl ?_
  obtain ⟨n4, h⟩ := h
  refine z_sub [1, 2, 0] (lv' := [(0, va_rf (some x0)), (1, .int x1), (2, .int (0 : Int32))]) rfl ?_
  exact l_X5_isVettedSomewhere_L2 l v x0 x1 Q C N T n4 S (0 : Int32) h
def wp_X1_addProof (S : Hp) (x0 : Nat) (x1 : Int32) (x2 : Int32) (Q : Hp → Prop) : Prop :=
  okA S 1 x0 ∧ (rd S 11 (g_P S 111 x0) (fun a2 => if (Int32.ofNat (g_N S a2)) ≤ (g_I S 110 x0) then (Q S) else (rd S 11 (g_P S 112 x0) (fun a5 => if (Int32.ofNat (g_N S a5)) ≤ (g_I S 110 x0) then (Q S) else (rd S 11 (g_P S 111 x0) (fun a8 => vp_in (g_I S 110 x0) (g_N S a8) ∧ (lt (s_R S a8 (g_I S 110 x0).toNatClampNeg x1) (fun S12 => okA S12 1 x0 ∧ (rd S12 11 (g_P S12 112 x0) (fun a14 => vp_in (g_I S12 110 x0) (g_N S12 a14) ∧ (lt (s_R S12 a14 (g_I S12 110 x0).toNatClampNeg x2) (fun S18 => okA S18 1 x0 ∧ (lt (s_I S18 110 x0 ((g_I S18 110 x0) + (1 : Int32))) (fun S20 => okA S20 1 x0 ∧ (lt (s_I S20 109 x0 ((g_I S20 109 x0) ||| ((1 : Int32) <<< (x1 &&& 31)))) (fun S22 => okA S22 1 x0 ∧ (wp_X1_reckonBadges S22 x0 (fun S24 => Q S24))))))))))))))))))
def rm_X1_addProof : Room := { frames := 4, cells := 0, slots := 0, locals := 88 }
set_option maxHeartbeats 4000000 in
set_option maxRecDepth 100000 in
theorem c_X1_addProof (l : Launch) (v : Ev) (S : Hp) (x0 : Nat) (x1 : Int32) (x2 : Int32) : CV l v yX1_addProof cX1_addProof 3 none rm_X1_addProof [va_rf (some x0), .int x1, .int x2] S (fun Q _ => wp_X1_addProof S x0 x1 x2 Q) := by
  intro Q EQ h
  refine z_start [(0, va_rf (some x0)), (1, .int x1), (2, .int x2)] (by decide +kernel) (by simp only [la_i, la_r, la_n]) (cat_cr (cat_ci (cat_ci cat_nil))) (by simp only [ls_i, ls_r, ls_n]; decide) (fun z C N T => ?_)
  unfold wp_X1_addProof at h
  refine z_aload_n C (pc := 0) dX1_addProof_0 0 rfl ?_
  obtain ⟨o1, h⟩ := h
  refine z_getI C (pc := 1) kf1 10 (by decide) rfl bw_507 (fun _ _ _ _ h => h) dX1_addProof_1 rfl o1 ?_
  refine z_aload_n C (pc := 4) dX1_addProof_4 0 rfl ?_
  refine z_getP C (pc := 5) kf1 11 (by decide) rfl bw_508 (fun _ _ _ _ h => h) dX1_addProof_5 rfl o1 ?_
  obtain ⟨a2, e3, o4, h⟩ := h
  refine z_alen C (pc := 8) (κ := 11) (by decide) 0 .int (fun _ => rfl) dX1_addProof_8 e3 o4 ?_
  refine z_icmp_ge C (pc := 9) (tgt := 70) dX1_addProof_9 (by decide) h (fun h => ?_) (fun h => ?_)
  · exact z_vret C (pc := 70) T dX1_addProof_70 (by decide) (by decide) h
  · refine z_aload_n C (pc := 12) dX1_addProof_12 0 rfl ?_
    refine z_getI C (pc := 13) kf1 10 (by decide) rfl bw_507 (fun _ _ _ _ h => h) dX1_addProof_13 rfl o1 ?_
    refine z_aload_n C (pc := 16) dX1_addProof_16 0 rfl ?_
    refine z_getP C (pc := 17) kf1 12 (by decide) rfl bw_509 (fun _ _ _ _ h => h) dX1_addProof_17 rfl o1 ?_
    obtain ⟨a5, e6, o7, h⟩ := h
    refine z_alen C (pc := 20) (κ := 11) (by decide) 0 .int (fun _ => rfl) dX1_addProof_20 e6 o7 ?_
    refine z_icmp_ge C (pc := 21) (tgt := 70) dX1_addProof_21 (by decide) h (fun h => ?_) (fun h => ?_)
    · exact z_vret C (pc := 70) T dX1_addProof_70 (by decide) (by decide) h
    · refine z_aload_n C (pc := 24) dX1_addProof_24 0 rfl ?_
      refine z_getP C (pc := 25) kf1 11 (by decide) rfl bw_508 (fun _ _ _ _ h => h) dX1_addProof_25 rfl o1 ?_
      refine z_aload_n C (pc := 28) dX1_addProof_28 0 rfl ?_
      refine z_getI C (pc := 29) kf1 10 (by decide) rfl bw_507 (fun _ _ _ _ h => h) dX1_addProof_29 rfl o1 ?_
      refine z_iload_n C (pc := 32) dX1_addProof_32 1 rfl ?_
      obtain ⟨a8, e9, o10, h⟩ := h
      obtain ⟨v11, h⟩ := h
      refine z_iast C (pc := 33) dX1_addProof_33 e9 o10 v11 ?_
      refine z_lt h (fun S12 h => ?_)
      refine z_aload_n C (pc := 34) dX1_addProof_34 0 rfl ?_
      obtain ⟨o13, h⟩ := h
      refine z_getP C (pc := 35) kf1 12 (by decide) rfl bw_509 (fun _ _ _ _ h => h) dX1_addProof_35 rfl o13 ?_
      refine z_aload_n C (pc := 38) dX1_addProof_38 0 rfl ?_
      refine z_getI C (pc := 39) kf1 10 (by decide) rfl bw_507 (fun _ _ _ _ h => h) dX1_addProof_39 rfl o13 ?_
      refine z_iload_n C (pc := 42) dX1_addProof_42 2 rfl ?_
      obtain ⟨a14, e15, o16, h⟩ := h
      obtain ⟨v17, h⟩ := h
      refine z_iast C (pc := 43) dX1_addProof_43 e15 o16 v17 ?_
      refine z_lt h (fun S18 h => ?_)
      refine z_aload_n C (pc := 44) dX1_addProof_44 0 rfl ?_
      refine z_dup C (pc := 45) dX1_addProof_45 (cat_rf _) ?_
      obtain ⟨o19, h⟩ := h
      refine z_getI C (pc := 46) kf1 10 (by decide) rfl bw_507 (fun _ _ _ _ h => h) dX1_addProof_46 rfl o19 ?_
      refine z_iconst C (pc := 49) (x := (1 : Int32)) dX1_addProof_49 kic_1 ?_
      refine z_iadd C (pc := 50) dX1_addProof_50 ?_
      refine z_putI C (pc := 51) kf1 10 (by decide) rfl rfl bw_507 (fun _ _ _ _ h => h) dX1_addProof_51 rfl o19 ?_
      refine z_lt h (fun S20 h => ?_)
      refine z_aload_n C (pc := 54) dX1_addProof_54 0 rfl ?_
      refine z_dup C (pc := 55) dX1_addProof_55 (cat_rf _) ?_
      obtain ⟨o21, h⟩ := h
      refine z_getI C (pc := 56) kf1 9 (by decide) rfl bw_505 (fun _ _ _ _ h => h) dX1_addProof_56 rfl o21 ?_
      refine z_iconst C (pc := 59) (x := (1 : Int32)) dX1_addProof_59 kic_1 ?_
      refine z_iload_n C (pc := 60) dX1_addProof_60 1 rfl ?_
      refine z_ishl C (pc := 61) dX1_addProof_61 ?_
      refine z_ior C (pc := 62) dX1_addProof_62 ?_
      refine z_putI C (pc := 63) kf1 9 (by decide) rfl rfl bw_505 (fun _ _ _ _ h => h) dX1_addProof_63 rfl o21 ?_
      refine z_lt h (fun S22 h => ?_)
      refine z_aload_n C (pc := 66) dX1_addProof_66 0 rfl ?_
      obtain ⟨o23, h⟩ := h
      refine z_Vv C (pc := 67) (KX := fun _ _ => False) (kc' := 0) (ks' := 0) (As := []) (rest := []) rfl (c_X1_reckonBadges l v S22 x0) mw_X1_reckonBadges bw_698 bw_700 bw_p24 (fit_of rfl) rfl rfl (Nat.le_of_ble_eq_true rfl) (by decide) rfl o23 dX1_addProof_67 h (fun S24 h => ?_) (fun En S9 h => h.elim)
      exact z_vret C (pc := 70) T dX1_addProof_70 (by decide) (by decide) h
def wp_X1_badgesBy_L4 (f0 : Nat) (f1 : Int32) (Q : Int32 → Hp → Prop) : Nat → Hp → Int32 → Int32 → Prop
  | 0, _, _, _ => False
  | n + 1, S, w2, w3 => okA S 1 f0 ∧ (rd S 14 (g_P S 113 f0) (fun a2 => if (Int32.ofNat (g_N S a2)) ≤ w3 then (Q w2 S) else (wp_X1_dayEarned S f0 w3 (fun r6 S5 => if f1 < r6 then (wp_X1_badgesBy_L4 f0 f1 Q n S5 w2 (w3 + (1 : Int32))) else (wp_X1_badgesBy_L4 f0 f1 Q n S5 (w2 + (1 : Int32)) (w3 + (1 : Int32)))))))
def wp_X1_badgesBy (S : Hp) (x0 : Nat) (x1 : Int32) (Q : Int32 → Hp → Prop) : Prop :=
  ∃ n7, wp_X1_badgesBy_L4 x0 x1 Q n7 S (0 : Int32) (0 : Int32)
def rm_X1_badgesBy : Room := { frames := 2, cells := 0, slots := 0, locals := 43 }
set_option maxHeartbeats 4000000 in
set_option maxRecDepth 100000 in
theorem l_X1_badgesBy_L4 (l : Launch) (v : Ev) (f0 : Nat) (f1 : Int32) (Q : Int32 → Hp → Prop) {EQ : String → Hp → Prop} {z : Z9} (C : Cx l v RX1 cX1_badgesBy 4 (some .int) "badgesBy" z) (N : NT z) (T : EE v rm_X1_badgesBy (QI v Q) EQ z) : ∀ (n : Nat) (S : Hp) (w2 : Int32) (w3 : Int32), wp_X1_badgesBy_L4 f0 f1 Q n S w2 w3 → ZZ l v 4 rm_X1_badgesBy z 0 0 S 4 [(0, va_rf (some f0)), (1, .int f1), (2, .int w2), (3, .int w3)] [] := by
  intro n
  induction n with
  | zero =>
    intro S w2 w3 h
    exact h.elim
  | succ n ih =>
    intro S w2 w3 h
    unfold wp_X1_badgesBy_L4 at h
    refine z_iload_n C (pc := 4) dX1_badgesBy_4 3 rfl ?_
    refine z_aload_n C (pc := 5) dX1_badgesBy_5 0 rfl ?_
    obtain ⟨o1, h⟩ := h
    refine z_getP C (pc := 6) kf1 13 (by decide) rfl bw_510 (fun _ _ _ _ h => h) dX1_badgesBy_6 rfl o1 ?_
    obtain ⟨a2, e3, o4, h⟩ := h
    refine z_alen C (pc := 9) (κ := 14) (by decide) 3 (.object "Badgewood$Course") (fun _ => rfl) dX1_badgesBy_9 e3 o4 ?_
    refine z_icmp_ge C (pc := 10) (tgt := 31) dX1_badgesBy_10 (by decide) h (fun h => ?_) (fun h => ?_)
    · refine z_iload_n C (pc := 31) dX1_badgesBy_31 2 rfl ?_
      exact z_iret C (pc := 32) T dX1_badgesBy_32 (by decide) (by decide) h
    · refine z_aload_n C (pc := 13) dX1_badgesBy_13 0 rfl ?_
      refine z_iload_n C (pc := 14) dX1_badgesBy_14 3 rfl ?_
      refine z_Vi C (pc := 15) (KX := fun _ _ => False) (kc' := 0) (ks' := 0) (As := [.int w3]) (rest := []) rfl (c_X1_dayEarned l v S f0 w3) mw_X1_dayEarned bw_215 bw_216 bw_217 (fit_of rfl) rfl rfl (Nat.le_of_ble_eq_true rfl) (by decide) rfl o1 dX1_badgesBy_15 h (fun r6 S5 h => ?_) (fun En S9 h => h.elim)
      refine z_iload_n C (pc := 18) dX1_badgesBy_18 1 rfl ?_
      refine z_icmp_gt C (pc := 19) (tgt := 25) dX1_badgesBy_19 (by decide) h (fun h => ?_) (fun h => ?_)
      · refine z_iinc C (pc := 25) (y := w3 + (1 : Int32)) (lv' := [(3, .int (w3 + (1 : Int32))), (0, va_rf (some f0)), (1, .int f1), (2, .int w2)]) dX1_badgesBy_25 3 rfl rfl (by decide) rfl ?_
        refine z_goto C (pc := 28) (tgt := 4) dX1_badgesBy_28 (by decide) ?_
        refine z_sub [1, 2, 3, 0] (lv' := [(0, va_rf (some f0)), (1, .int f1), (2, .int w2), (3, .int (w3 + (1 : Int32)))]) rfl ?_
        exact ih S5 w2 (w3 + (1 : Int32)) h
      · refine z_iinc C (pc := 22) (y := w2 + (1 : Int32)) (lv' := [(2, .int (w2 + (1 : Int32))), (0, va_rf (some f0)), (1, .int f1), (3, .int w3)]) dX1_badgesBy_22 2 rfl rfl (by decide) rfl ?_
        refine z_iinc C (pc := 25) (y := w3 + (1 : Int32)) (lv' := [(3, .int (w3 + (1 : Int32))), (2, .int (w2 + (1 : Int32))), (0, va_rf (some f0)), (1, .int f1)]) dX1_badgesBy_25 3 rfl rfl (by decide) rfl ?_
        refine z_goto C (pc := 28) (tgt := 4) dX1_badgesBy_28 (by decide) ?_
        refine z_sub [2, 3, 1, 0] (lv' := [(0, va_rf (some f0)), (1, .int f1), (2, .int (w2 + (1 : Int32))), (3, .int (w3 + (1 : Int32)))]) rfl ?_
        exact ih S5 (w2 + (1 : Int32)) (w3 + (1 : Int32)) h
set_option maxHeartbeats 4000000 in
set_option maxRecDepth 100000 in
theorem c_X1_badgesBy (l : Launch) (v : Ev) (S : Hp) (x0 : Nat) (x1 : Int32) : CI l v yX1_badgesBy cX1_badgesBy 4 (some .int) rm_X1_badgesBy [va_rf (some x0), .int x1] S (fun Q _ => wp_X1_badgesBy S x0 x1 Q) := by
  intro Q EQ h
  refine z_start [(0, va_rf (some x0)), (1, .int x1)] (by decide +kernel) (by simp only [la_i, la_r, la_n]) (cat_cr (cat_ci cat_nil)) (by simp only [ls_i, ls_r, ls_n]; decide) (fun z C N T => ?_)
  unfold wp_X1_badgesBy at h
  refine z_iconst C (pc := 0) (x := (0 : Int32)) dX1_badgesBy_0 kic_0 ?_
  refine z_istore_n C (pc := 1) (lv' := [(2, .int (0 : Int32)), (0, va_rf (some x0)), (1, .int x1)]) dX1_badgesBy_1 (by decide) rfl ?_
  refine z_iconst C (pc := 2) (x := (0 : Int32)) dX1_badgesBy_2 kic_0 ?_
  refine z_istore_n C (pc := 3) (lv' := [(3, .int (0 : Int32)), (2, .int (0 : Int32)), (0, va_rf (some x0)), (1, .int x1)]) dX1_badgesBy_3 (by decide) rfl ?_
  obtain ⟨n7, h⟩ := h
  refine z_sub [2, 3, 1, 0] (lv' := [(0, va_rf (some x0)), (1, .int x1), (2, .int (0 : Int32)), (3, .int (0 : Int32))]) rfl ?_
  exact l_X1_badgesBy_L4 l v x0 x1 Q C N T n7 S (0 : Int32) (0 : Int32) h
def wp_X4_init (S : Hp) (x0 : Nat) (x1 : Int32) (x2 : Int32) (x3 : Int32) (x4 : Int32) (x5 : Int32) (x6 : Int32) (Q : Hp → Prop) : Prop :=
  okA S 4 x0 ∧ (lt (s_I S 400 x0 x1) (fun S2 => okA S2 4 x0 ∧ (lt (s_I S2 401 x0 x2) (fun S4 => okA S4 4 x0 ∧ (lt (s_I S4 402 x0 x3) (fun S6 => okA S6 4 x0 ∧ (lt (s_I S6 403 x0 x4) (fun S8 => okA S8 4 x0 ∧ (lt (s_I S8 404 x0 x5) (fun S10 => okA S10 4 x0 ∧ (lt (s_I S10 405 x0 (x5 + x6)) (fun S12 => Q S12))))))))))))
def rm_X4_init : Room := { frames := 1, cells := 0, slots := 0, locals := 12 }
set_option maxHeartbeats 4000000 in
set_option maxRecDepth 100000 in
theorem c_X4_init (l : Launch) (v : Ev) (S : Hp) (x0 : Nat) (x1 : Int32) (x2 : Int32) (x3 : Int32) (x4 : Int32) (x5 : Int32) (x6 : Int32) : CV l v yX4_init cX4_init 7 none rm_X4_init [va_rf (some x0), .int x1, .int x2, .int x3, .int x4, .int x5, .int x6] S (fun Q _ => wp_X4_init S x0 x1 x2 x3 x4 x5 x6 Q) := by
  intro Q EQ h
  refine z_start [(0, va_rf (some x0)), (1, .int x1), (2, .int x2), (3, .int x3), (4, .int x4), (5, .int x5), (6, .int x6)] (by decide +kernel) (by simp only [la_i, la_r, la_n]) (cat_cr (cat_ci (cat_ci (cat_ci (cat_ci (cat_ci (cat_ci cat_nil))))))) (by simp only [ls_i, ls_r, ls_n]; decide) (fun z C N T => ?_)
  unfold wp_X4_init at h
  refine z_aload_n C (pc := 0) dX4_init_0 0 rfl ?_
  refine z_obj C (pc := 1) bw_843 bw_oi bw_oc ⟨by decide, Nat.le_of_ble_eq_true rfl⟩ dX4_init_1 ?_
  refine z_aload_n C (pc := 4) dX4_init_4 0 rfl ?_
  refine z_iload_n C (pc := 5) dX4_init_5 1 rfl ?_
  obtain ⟨o1, h⟩ := h
  refine z_putFI C (pc := 6) kf4 0 (by decide) rfl rfl rfl rfl bw_844 (fun _ _ _ _ h => h) dX4_init_6 rfl o1 ?_
  refine z_lt h (fun S2 h => ?_)
  refine z_aload_n C (pc := 9) dX4_init_9 0 rfl ?_
  refine z_iload_n C (pc := 10) dX4_init_10 2 rfl ?_
  obtain ⟨o3, h⟩ := h
  refine z_putFI C (pc := 11) kf4 1 (by decide) rfl rfl rfl rfl bw_846 (fun _ _ _ _ h => h) dX4_init_11 rfl o3 ?_
  refine z_lt h (fun S4 h => ?_)
  refine z_aload_n C (pc := 14) dX4_init_14 0 rfl ?_
  refine z_iload_n C (pc := 15) dX4_init_15 3 rfl ?_
  obtain ⟨o5, h⟩ := h
  refine z_putFI C (pc := 16) kf4 2 (by decide) rfl rfl rfl rfl bw_848 (fun _ _ _ _ h => h) dX4_init_16 rfl o5 ?_
  refine z_lt h (fun S6 h => ?_)
  refine z_aload_n C (pc := 19) dX4_init_19 0 rfl ?_
  refine z_iload C (pc := 20) dX4_init_20 4 rfl ?_
  obtain ⟨o7, h⟩ := h
  refine z_putFI C (pc := 22) kf4 3 (by decide) rfl rfl rfl rfl bw_850 (fun _ _ _ _ h => h) dX4_init_22 rfl o7 ?_
  refine z_lt h (fun S8 h => ?_)
  refine z_aload_n C (pc := 25) dX4_init_25 0 rfl ?_
  refine z_iload C (pc := 26) dX4_init_26 5 rfl ?_
  obtain ⟨o9, h⟩ := h
  refine z_putFI C (pc := 28) kf4 4 (by decide) rfl rfl rfl rfl bw_852 (fun _ _ _ _ h => h) dX4_init_28 rfl o9 ?_
  refine z_lt h (fun S10 h => ?_)
  refine z_aload_n C (pc := 31) dX4_init_31 0 rfl ?_
  refine z_iload C (pc := 32) dX4_init_32 5 rfl ?_
  refine z_iload C (pc := 34) dX4_init_34 6 rfl ?_
  refine z_iadd C (pc := 36) dX4_init_36 ?_
  obtain ⟨o11, h⟩ := h
  refine z_putFI C (pc := 37) kf4 5 (by decide) rfl rfl rfl rfl bw_853 (fun _ _ _ _ h => h) dX4_init_37 rfl o11 ?_
  refine z_lt h (fun S12 h => ?_)
  exact z_vret C (pc := 40) T dX4_init_40 (by decide) (by decide) h
def wp_X4_meets (S : Hp) (x0 : Nat) (x1 : Option Nat) (Q : Int32 → Hp → Prop) : Prop :=
  okA S 4 x0 ∧ (rd S 4 x1 (fun a2 => if (g_I S 403 x0) = (g_I S 403 a2) then (rd S 4 x1 (fun a5 => if (g_I S 405 a5) ≤ (g_I S 404 x0) then (bz (0 : Int32) (Q (0 : Int32) S)) else (rd S 4 x1 (fun a8 => if (g_I S 405 x0) ≤ (g_I S 404 a8) then (bz (0 : Int32) (Q (0 : Int32) S)) else (bz (1 : Int32) (Q (1 : Int32) S)))))) else (bz (0 : Int32) (Q (0 : Int32) S))))
def rm_X4_meets : Room := { frames := 0, cells := 0, slots := 0, locals := 0 }
set_option maxHeartbeats 4000000 in
set_option maxRecDepth 100000 in
theorem c_X4_meets (l : Launch) (v : Ev) (S : Hp) (x0 : Nat) (x1 : Option Nat) : CI l v yX4_meets cX4_meets 2 (some .boolean) rm_X4_meets [va_rf (some x0), va_rf x1] S (fun Q _ => wp_X4_meets S x0 x1 Q) := by
  intro Q EQ h
  refine z_start [(0, va_rf (some x0)), (1, va_rf x1)] (by decide +kernel) (by simp only [la_i, la_r, la_n]) (cat_cr (cat_cr cat_nil)) (by simp only [ls_i, ls_r, ls_n]; decide) (fun z C N T => ?_)
  unfold wp_X4_meets at h
  refine z_aload_n C (pc := 0) dX4_meets_0 0 rfl ?_
  obtain ⟨o1, h⟩ := h
  refine z_getI C (pc := 1) kf4 3 (by decide) rfl bw_850 (fun _ _ _ _ h => h) dX4_meets_1 rfl o1 ?_
  refine z_aload_n C (pc := 4) dX4_meets_4 1 rfl ?_
  obtain ⟨a2, e3, o4, h⟩ := h
  refine z_getI C (pc := 5) kf4 3 (by decide) rfl bw_850 (fun _ _ _ _ h => h) dX4_meets_5 e3 o4 ?_
  refine z_icmp_ne C (pc := 8) (tgt := 37) dX4_meets_8 (by decide) h (fun h => ?_) (fun h => ?_)
  · refine z_iconst C (pc := 37) (x := (0 : Int32)) dX4_meets_37 kic_0 ?_
    exact z_zret C (pc := 38) T dX4_meets_38 (by decide) (by decide) h
  · refine z_aload_n C (pc := 11) dX4_meets_11 0 rfl ?_
    refine z_getI C (pc := 12) kf4 4 (by decide) rfl bw_852 (fun _ _ _ _ h => h) dX4_meets_12 rfl o1 ?_
    refine z_aload_n C (pc := 15) dX4_meets_15 1 rfl ?_
    obtain ⟨a5, e6, o7, h⟩ := h
    refine z_getI C (pc := 16) kf4 5 (by decide) rfl bw_853 (fun _ _ _ _ h => h) dX4_meets_16 e6 o7 ?_
    refine z_icmp_ge C (pc := 19) (tgt := 37) dX4_meets_19 (by decide) h (fun h => ?_) (fun h => ?_)
    · refine z_iconst C (pc := 37) (x := (0 : Int32)) dX4_meets_37 kic_0 ?_
      exact z_zret C (pc := 38) T dX4_meets_38 (by decide) (by decide) h
    · refine z_aload_n C (pc := 22) dX4_meets_22 1 rfl ?_
      obtain ⟨a8, e9, o10, h⟩ := h
      refine z_getI C (pc := 23) kf4 4 (by decide) rfl bw_852 (fun _ _ _ _ h => h) dX4_meets_23 e9 o10 ?_
      refine z_aload_n C (pc := 26) dX4_meets_26 0 rfl ?_
      refine z_getI C (pc := 27) kf4 5 (by decide) rfl bw_853 (fun _ _ _ _ h => h) dX4_meets_27 rfl o1 ?_
      refine z_icmp_ge C (pc := 30) (tgt := 37) dX4_meets_30 (by decide) h (fun h => ?_) (fun h => ?_)
      · refine z_iconst C (pc := 37) (x := (0 : Int32)) dX4_meets_37 kic_0 ?_
        exact z_zret C (pc := 38) T dX4_meets_38 (by decide) (by decide) h
      · refine z_iconst C (pc := 33) (x := (1 : Int32)) dX4_meets_33 kic_1 ?_
        refine z_goto C (pc := 34) (tgt := 38) dX4_meets_34 (by decide) ?_
        exact z_zret C (pc := 38) T dX4_meets_38 (by decide) (by decide) h
def wp_X5_mayLead (S : Hp) (x0 : Nat) (x1 : Int32) (x2 : Int32) (Q : Int32 → Hp → Prop) : Prop :=
  if x1 = 0 then (bz (1 : Int32) (Q (1 : Int32) S)) else (okA S 5 x0 ∧ (wp_X5_permitOf S x0 x1 (fun r3 S2 => if r3 < x2 then (bz (0 : Int32) (Q (0 : Int32) S2)) else (bz (1 : Int32) (Q (1 : Int32) S2)))))
def rm_X5_mayLead : Room := { frames := 1, cells := 0, slots := 0, locals := 21 }
set_option maxHeartbeats 4000000 in
set_option maxRecDepth 100000 in
theorem c_X5_mayLead (l : Launch) (v : Ev) (S : Hp) (x0 : Nat) (x1 : Int32) (x2 : Int32) : CI l v yX5_mayLead cX5_mayLead 3 (some .boolean) rm_X5_mayLead [va_rf (some x0), .int x1, .int x2] S (fun Q _ => wp_X5_mayLead S x0 x1 x2 Q) := by
  intro Q EQ h
  refine z_start [(0, va_rf (some x0)), (1, .int x1), (2, .int x2)] (by decide +kernel) (by simp only [la_i, la_r, la_n]) (cat_cr (cat_ci (cat_ci cat_nil))) (by simp only [ls_i, ls_r, ls_n]; decide) (fun z C N T => ?_)
  unfold wp_X5_mayLead at h
  refine z_iload_n C (pc := 0) dX5_mayLead_0 1 rfl ?_
  refine z_if_eq C (pc := 1) (tgt := 13) dX5_mayLead_1 (by decide) h (fun h => ?_) (fun h => ?_)
  · refine z_iconst C (pc := 13) (x := (1 : Int32)) dX5_mayLead_13 kic_1 ?_
    refine z_goto C (pc := 14) (tgt := 18) dX5_mayLead_14 (by decide) ?_
    exact z_zret C (pc := 18) T dX5_mayLead_18 (by decide) (by decide) h
  · refine z_iload_n C (pc := 4) dX5_mayLead_4 2 rfl ?_
    refine z_aload_n C (pc := 5) dX5_mayLead_5 0 rfl ?_
    refine z_iload_n C (pc := 6) dX5_mayLead_6 1 rfl ?_
    obtain ⟨o1, h⟩ := h
    refine z_Vi C (pc := 7) (KX := fun _ _ => False) (kc' := 0) (ks' := 0) (As := [.int x1]) (rest := [.int x2]) rfl (c_X5_permitOf l v S x0 x1) mw_X5_permitOf bw_320 bw_321 bw_322 (fit_of rfl) rfl rfl (Nat.le_of_ble_eq_true rfl) (by decide) rfl o1 dX5_mayLead_7 h (fun r3 S2 h => ?_) (fun En S9 h => h.elim)
    refine z_icmp_gt C (pc := 10) (tgt := 17) dX5_mayLead_10 (by decide) h (fun h => ?_) (fun h => ?_)
    · refine z_iconst C (pc := 17) (x := (0 : Int32)) dX5_mayLead_17 kic_0 ?_
      exact z_zret C (pc := 18) T dX5_mayLead_18 (by decide) (by decide) h
    · refine z_iconst C (pc := 13) (x := (1 : Int32)) dX5_mayLead_13 kic_1 ?_
      refine z_goto C (pc := 14) (tgt := 18) dX5_mayLead_14 (by decide) ?_
      exact z_zret C (pc := 18) T dX5_mayLead_18 (by decide) (by decide) h
def wp_X6_leastLeaders_L9 (f0 : Int32) (f1 : Int32) (Q : Int32 → Hp → Prop) : Nat → Hp → Int32 → Prop
  | 0, _, _ => False
  | n + 1, S, w2 => if f0 ≤ w2 then (Q f0 S) else (if (w2 * f1) < f0 then (wp_X6_leastLeaders_L9 f0 f1 Q n S (w2 + (1 : Int32))) else (Q w2 S))
def wp_X6_leastLeaders (S : Hp) (x0 : Int32) (x1 : Int32) (Q : Int32 → Hp → Prop) : Prop :=
  if x0 = (1 : Int32) then (Q (2 : Int32) S) else (∃ n1, wp_X6_leastLeaders_L9 x0 x1 Q n1 S (0 : Int32))
def rm_X6_leastLeaders : Room := { frames := 0, cells := 0, slots := 0, locals := 0 }
set_option maxHeartbeats 4000000 in
set_option maxRecDepth 100000 in
theorem l_X6_leastLeaders_L9 (l : Launch) (v : Ev) (f0 : Int32) (f1 : Int32) (Q : Int32 → Hp → Prop) {EQ : String → Hp → Prop} {z : Z9} (C : Cx l v RX6 cX6_leastLeaders 3 (some .int) "leastLeaders" z) (N : NT z) (T : EE v rm_X6_leastLeaders (QI v Q) EQ z) : ∀ (n : Nat) (S : Hp) (w2 : Int32), wp_X6_leastLeaders_L9 f0 f1 Q n S w2 → ZZ l v 3 rm_X6_leastLeaders z 0 0 S 9 [(0, .int f0), (1, .int f1), (2, .int w2)] [] := by
  intro n
  induction n with
  | zero =>
    intro S w2 h
    exact h.elim
  | succ n ih =>
    intro S w2 h
    unfold wp_X6_leastLeaders_L9 at h
    refine z_iload_n C (pc := 9) dX6_leastLeaders_9 2 rfl ?_
    refine z_iload_n C (pc := 10) dX6_leastLeaders_10 0 rfl ?_
    refine z_icmp_ge C (pc := 11) (tgt := 29) dX6_leastLeaders_11 (by decide) h (fun h => ?_) (fun h => ?_)
    · refine z_iload_n C (pc := 29) dX6_leastLeaders_29 0 rfl ?_
      exact z_iret C (pc := 30) T dX6_leastLeaders_30 (by decide) (by decide) h
    · refine z_iload_n C (pc := 14) dX6_leastLeaders_14 2 rfl ?_
      refine z_iload_n C (pc := 15) dX6_leastLeaders_15 1 rfl ?_
      refine z_imul C (pc := 16) dX6_leastLeaders_16 ?_
      refine z_iload_n C (pc := 17) dX6_leastLeaders_17 0 rfl ?_
      refine z_icmp_lt C (pc := 18) (tgt := 23) dX6_leastLeaders_18 (by decide) h (fun h => ?_) (fun h => ?_)
      · refine z_iinc C (pc := 23) (y := w2 + (1 : Int32)) (lv' := [(2, .int (w2 + (1 : Int32))), (0, .int f0), (1, .int f1)]) dX6_leastLeaders_23 2 rfl rfl (by decide) rfl ?_
        refine z_goto C (pc := 26) (tgt := 9) dX6_leastLeaders_26 (by decide) ?_
        refine z_sub [1, 2, 0] (lv' := [(0, .int f0), (1, .int f1), (2, .int (w2 + (1 : Int32)))]) rfl ?_
        exact ih S (w2 + (1 : Int32)) h
      · refine z_iload_n C (pc := 21) dX6_leastLeaders_21 2 rfl ?_
        exact z_iret C (pc := 22) T dX6_leastLeaders_22 (by decide) (by decide) h
set_option maxHeartbeats 4000000 in
set_option maxRecDepth 100000 in
theorem c_X6_leastLeaders (l : Launch) (v : Ev) (S : Hp) (x0 : Int32) (x1 : Int32) : CI l v yX6_leastLeaders cX6_leastLeaders 3 (some .int) rm_X6_leastLeaders [.int x0, .int x1] S (fun Q _ => wp_X6_leastLeaders S x0 x1 Q) := by
  intro Q EQ h
  refine z_start [(0, .int x0), (1, .int x1)] (by decide +kernel) (by simp only [la_i, la_r, la_n]) (cat_ci (cat_ci cat_nil)) (by simp only [ls_i, ls_r, ls_n]; decide) (fun z C N T => ?_)
  unfold wp_X6_leastLeaders at h
  refine z_iload_n C (pc := 0) dX6_leastLeaders_0 0 rfl ?_
  refine z_iconst C (pc := 1) (x := (1 : Int32)) dX6_leastLeaders_1 kic_1 ?_
  refine z_icmp_ne C (pc := 2) (tgt := 7) dX6_leastLeaders_2 (by decide) h (fun h => ?_) (fun h => ?_)
  · refine z_iconst C (pc := 7) (x := (0 : Int32)) dX6_leastLeaders_7 kic_0 ?_
    refine z_istore_n C (pc := 8) (lv' := [(2, .int (0 : Int32)), (0, .int x0), (1, .int x1)]) dX6_leastLeaders_8 (by decide) rfl ?_
    obtain ⟨n1, h⟩ := h
    refine z_sub [1, 2, 0] (lv' := [(0, .int x0), (1, .int x1), (2, .int (0 : Int32))]) rfl ?_
    exact l_X6_leastLeaders_L9 l v x0 x1 Q C N T n1 S (0 : Int32) h
  · refine z_iconst C (pc := 5) (x := (2 : Int32)) dX6_leastLeaders_5 kic_2 ?_
    exact z_iret C (pc := 6) T dX6_leastLeaders_6 (by decide) (by decide) h
def wp_X6_init (S : Hp) (x0 : Nat) (x1 : Int32) (x2 : Int32) (x3 : Int32) (x4 : Int32) (Q : Hp → Prop) : Prop :=
  okA S 6 x0 ∧ (lt (s_I S 600 x0 x1) (fun S2 => okA S2 6 x0 ∧ (lt (s_I S2 601 x0 x2) (fun S4 => okA S4 6 x0 ∧ (lt (s_I S4 602 x0 x3) (fun S6 => okA S6 6 x0 ∧ (lt (s_I S6 603 x0 x4) (fun S8 => wp_X6_leastLeaders S8 x1 x2 (fun r10 S9 => okA S9 6 x0 ∧ (lt (s_I S9 604 x0 r10) (fun S12 => Q S12)))))))))))
def rm_X6_init : Room := { frames := 1, cells := 0, slots := 0, locals := 22 }
set_option maxHeartbeats 4000000 in
set_option maxRecDepth 100000 in
theorem c_X6_init (l : Launch) (v : Ev) (S : Hp) (x0 : Nat) (x1 : Int32) (x2 : Int32) (x3 : Int32) (x4 : Int32) : CV l v yX6_init cX6_init 5 none rm_X6_init [va_rf (some x0), .int x1, .int x2, .int x3, .int x4] S (fun Q _ => wp_X6_init S x0 x1 x2 x3 x4 Q) := by
  intro Q EQ h
  refine z_start [(0, va_rf (some x0)), (1, .int x1), (2, .int x2), (3, .int x3), (4, .int x4)] (by decide +kernel) (by simp only [la_i, la_r, la_n]) (cat_cr (cat_ci (cat_ci (cat_ci (cat_ci cat_nil))))) (by simp only [ls_i, ls_r, ls_n]; decide) (fun z C N T => ?_)
  unfold wp_X6_init at h
  refine z_aload_n C (pc := 0) dX6_init_0 0 rfl ?_
  refine z_obj C (pc := 1) bw_332 bw_oi bw_oc ⟨by decide, Nat.le_of_ble_eq_true rfl⟩ dX6_init_1 ?_
  refine z_aload_n C (pc := 4) dX6_init_4 0 rfl ?_
  refine z_iload_n C (pc := 5) dX6_init_5 1 rfl ?_
  obtain ⟨o1, h⟩ := h
  refine z_putFI C (pc := 6) kf6 0 (by decide) rfl rfl rfl rfl bw_336 (fun _ _ _ _ h => h) dX6_init_6 rfl o1 ?_
  refine z_lt h (fun S2 h => ?_)
  refine z_aload_n C (pc := 9) dX6_init_9 0 rfl ?_
  refine z_iload_n C (pc := 10) dX6_init_10 2 rfl ?_
  obtain ⟨o3, h⟩ := h
  refine z_putFI C (pc := 11) kf6 1 (by decide) rfl rfl rfl rfl bw_337 (fun _ _ _ _ h => h) dX6_init_11 rfl o3 ?_
  refine z_lt h (fun S4 h => ?_)
  refine z_aload_n C (pc := 14) dX6_init_14 0 rfl ?_
  refine z_iload_n C (pc := 15) dX6_init_15 3 rfl ?_
  obtain ⟨o5, h⟩ := h
  refine z_putFI C (pc := 16) kf6 2 (by decide) rfl rfl rfl rfl bw_338 (fun _ _ _ _ h => h) dX6_init_16 rfl o5 ?_
  refine z_lt h (fun S6 h => ?_)
  refine z_aload_n C (pc := 19) dX6_init_19 0 rfl ?_
  refine z_iload C (pc := 20) dX6_init_20 4 rfl ?_
  obtain ⟨o7, h⟩ := h
  refine z_putFI C (pc := 22) kf6 3 (by decide) rfl rfl rfl rfl bw_340 (fun _ _ _ _ h => h) dX6_init_22 rfl o7 ?_
  refine z_lt h (fun S8 h => ?_)
  refine z_aload_n C (pc := 25) dX6_init_25 0 rfl ?_
  refine z_iload_n C (pc := 26) dX6_init_26 1 rfl ?_
  refine z_iload_n C (pc := 27) dX6_init_27 2 rfl ?_
  refine z_Si C (pc := 28) (KX := fun _ _ => False) (kc' := 0) (ks' := 0) (As := [.int x1, .int x2]) (rest := [va_rf (some x0)]) (c_X6_leastLeaders l v S8 x1 x2) mw_X6_leastLeaders bw_333 bw_334 (fit_of rfl) rfl rfl (Nat.le_of_ble_eq_true rfl) dX6_init_28 h (fun r10 S9 h => ?_) (fun En S9 h => h.elim)
  obtain ⟨o11, h⟩ := h
  refine z_putFI C (pc := 31) kf6 4 (by decide) rfl rfl rfl rfl bw_341 (fun _ _ _ _ h => h) dX6_init_31 rfl o11 ?_
  refine z_lt h (fun S12 h => ?_)
  exact z_vret C (pc := 34) T dX6_init_34 (by decide) (by decide) h
def wp_X6_verdict (S : Hp) (x0 : Nat) (x1 : Int32) (Q : Int32 → Hp → Prop) : Prop :=
  wp_J6_bitCount_0f7a4 S x1 (fun r2 S1 => okA S1 6 x0 ∧ (if (g_I S1 600 x0) = 0 then (Q (0 : Int32) S1) else (if (g_I S1 600 x0) ≤ (r2 * (g_I S1 601 x0)) then (if (x1 &&& ((g_I S1 602 x0) ^^^ (-1 : Int32))) = 0 then (if (x1 &&& (g_I S1 603 x0)) = 0 then (Q (3 : Int32) S1) else (if r2 = (1 : Int32) then (if (g_I S1 600 x0) = (1 : Int32) then (Q (4 : Int32) S1) else (Q (0 : Int32) S1)) else (Q (0 : Int32) S1))) else (Q (2 : Int32) S1)) else (Q (1 : Int32) S1))))
def rm_X6_verdict : Room := { frames := 1, cells := 0, slots := 0, locals := 20 }
set_option maxHeartbeats 4000000 in
set_option maxRecDepth 100000 in
theorem c_X6_verdict (l : Launch) (v : Ev) (S : Hp) (x0 : Nat) (x1 : Int32) : CI l v yX6_verdict cX6_verdict 3 (some .int) rm_X6_verdict [va_rf (some x0), .int x1] S (fun Q _ => wp_X6_verdict S x0 x1 Q) := by
  intro Q EQ h
  refine z_start [(0, va_rf (some x0)), (1, .int x1)] (by decide +kernel) (by simp only [la_i, la_r, la_n]) (cat_cr (cat_ci cat_nil)) (by simp only [ls_i, ls_r, ls_n]; decide) (fun z C N T => ?_)
  unfold wp_X6_verdict at h
  refine z_iload_n C (pc := 0) dX6_verdict_0 1 rfl ?_
  refine z_Si C (pc := 1) (KX := fun _ _ => False) (kc' := 0) (ks' := 0) (As := [.int x1]) (rest := []) (c_J6_bitCount_0f7a4 l v S x1) mw_J6_bitCount_0f7a4 bw_358 bw_359 (fit_of rfl) rfl rfl (Nat.le_of_ble_eq_true rfl) dX6_verdict_1 h (fun r2 S1 h => ?_) (fun En S9 h => h.elim)
  refine z_istore_n C (pc := 4) (lv' := [(2, .int r2), (0, va_rf (some x0)), (1, .int x1)]) dX6_verdict_4 (by decide) rfl ?_
  refine z_aload_n C (pc := 5) dX6_verdict_5 1 rfl ?_
  obtain ⟨o3, h⟩ := h
  refine z_getI C (pc := 6) kf6 0 (by decide) rfl bw_336 (fun _ _ _ _ h => h) dX6_verdict_6 rfl o3 ?_
  refine z_if_ne C (pc := 9) (tgt := 14) dX6_verdict_9 (by decide) h (fun h => ?_) (fun h => ?_)
  · refine z_iload_n C (pc := 14) dX6_verdict_14 0 rfl ?_
    refine z_aload_n C (pc := 15) dX6_verdict_15 1 rfl ?_
    refine z_getI C (pc := 16) kf6 1 (by decide) rfl bw_337 (fun _ _ _ _ h => h) dX6_verdict_16 rfl o3 ?_
    refine z_imul C (pc := 19) dX6_verdict_19 ?_
    refine z_aload_n C (pc := 20) dX6_verdict_20 1 rfl ?_
    refine z_getI C (pc := 21) kf6 0 (by decide) rfl bw_336 (fun _ _ _ _ h => h) dX6_verdict_21 rfl o3 ?_
    refine z_icmp_ge C (pc := 24) (tgt := 29) dX6_verdict_24 (by decide) h (fun h => ?_) (fun h => ?_)
    · refine z_iload_n C (pc := 29) dX6_verdict_29 2 rfl ?_
      refine z_aload_n C (pc := 30) dX6_verdict_30 1 rfl ?_
      refine z_getI C (pc := 31) kf6 2 (by decide) rfl bw_338 (fun _ _ _ _ h => h) dX6_verdict_31 rfl o3 ?_
      refine z_iconst C (pc := 34) (x := (-1 : Int32)) dX6_verdict_34 kic_m1 ?_
      refine z_ixor C (pc := 35) dX6_verdict_35 ?_
      refine z_iand C (pc := 36) dX6_verdict_36 ?_
      refine z_if_eq C (pc := 37) (tgt := 42) dX6_verdict_37 (by decide) h (fun h => ?_) (fun h => ?_)
      · refine z_iload_n C (pc := 42) dX6_verdict_42 2 rfl ?_
        refine z_aload_n C (pc := 43) dX6_verdict_43 1 rfl ?_
        refine z_getI C (pc := 44) kf6 3 (by decide) rfl bw_340 (fun _ _ _ _ h => h) dX6_verdict_44 rfl o3 ?_
        refine z_iand C (pc := 47) dX6_verdict_47 ?_
        refine z_if_ne C (pc := 48) (tgt := 53) dX6_verdict_48 (by decide) h (fun h => ?_) (fun h => ?_)
        · refine z_iload_n C (pc := 53) dX6_verdict_53 0 rfl ?_
          refine z_iconst C (pc := 54) (x := (1 : Int32)) dX6_verdict_54 kic_1 ?_
          refine z_icmp_ne C (pc := 55) (tgt := 70) dX6_verdict_55 (by decide) h (fun h => ?_) (fun h => ?_)
          · refine z_iconst C (pc := 70) (x := (0 : Int32)) dX6_verdict_70 kic_0 ?_
            exact z_iret C (pc := 71) T dX6_verdict_71 (by decide) (by decide) h
          · refine z_aload_n C (pc := 58) dX6_verdict_58 1 rfl ?_
            refine z_getI C (pc := 59) kf6 0 (by decide) rfl bw_336 (fun _ _ _ _ h => h) dX6_verdict_59 rfl o3 ?_
            refine z_iconst C (pc := 62) (x := (1 : Int32)) dX6_verdict_62 kic_1 ?_
            refine z_icmp_ne C (pc := 63) (tgt := 70) dX6_verdict_63 (by decide) h (fun h => ?_) (fun h => ?_)
            · refine z_iconst C (pc := 70) (x := (0 : Int32)) dX6_verdict_70 kic_0 ?_
              exact z_iret C (pc := 71) T dX6_verdict_71 (by decide) (by decide) h
            · refine z_iconst C (pc := 66) (x := (4 : Int32)) dX6_verdict_66 kic_4 ?_
              refine z_goto C (pc := 67) (tgt := 71) dX6_verdict_67 (by decide) ?_
              exact z_iret C (pc := 71) T dX6_verdict_71 (by decide) (by decide) h
        · refine z_iconst C (pc := 51) (x := (3 : Int32)) dX6_verdict_51 kic_3 ?_
          exact z_iret C (pc := 52) T dX6_verdict_52 (by decide) (by decide) h
      · refine z_iconst C (pc := 40) (x := (2 : Int32)) dX6_verdict_40 kic_2 ?_
        exact z_iret C (pc := 41) T dX6_verdict_41 (by decide) (by decide) h
    · refine z_iconst C (pc := 27) (x := (1 : Int32)) dX6_verdict_27 kic_1 ?_
      exact z_iret C (pc := 28) T dX6_verdict_28 (by decide) (by decide) h
  · refine z_iconst C (pc := 12) (x := (0 : Int32)) dX6_verdict_12 kic_0 ?_
    exact z_iret C (pc := 13) T dX6_verdict_13 (by decide) (by decide) h
def wp_X4_goesOn (S : Hp) (x0 : Nat) (x1 : Int32) (x2 : Int32) (Q : Int32 → Hp → Prop) : Prop :=
  okA S 4 x0 ∧ (if (g_I S 403 x0) = x1 then (if x2 < (g_I S 404 x0) then (bz (0 : Int32) (Q (0 : Int32) S)) else (if (g_I S 405 x0) ≤ x2 then (bz (0 : Int32) (Q (0 : Int32) S)) else (bz (1 : Int32) (Q (1 : Int32) S)))) else (bz (0 : Int32) (Q (0 : Int32) S)))
def rm_X4_goesOn : Room := { frames := 0, cells := 0, slots := 0, locals := 0 }
set_option maxHeartbeats 4000000 in
set_option maxRecDepth 100000 in
theorem c_X4_goesOn (l : Launch) (v : Ev) (S : Hp) (x0 : Nat) (x1 : Int32) (x2 : Int32) : CI l v yX4_goesOn cX4_goesOn 3 (some .boolean) rm_X4_goesOn [va_rf (some x0), .int x1, .int x2] S (fun Q _ => wp_X4_goesOn S x0 x1 x2 Q) := by
  intro Q EQ h
  refine z_start [(0, va_rf (some x0)), (1, .int x1), (2, .int x2)] (by decide +kernel) (by simp only [la_i, la_r, la_n]) (cat_cr (cat_ci (cat_ci cat_nil))) (by simp only [ls_i, ls_r, ls_n]; decide) (fun z C N T => ?_)
  unfold wp_X4_goesOn at h
  refine z_aload_n C (pc := 0) dX4_goesOn_0 0 rfl ?_
  obtain ⟨o1, h⟩ := h
  refine z_getI C (pc := 1) kf4 3 (by decide) rfl bw_850 (fun _ _ _ _ h => h) dX4_goesOn_1 rfl o1 ?_
  refine z_iload_n C (pc := 4) dX4_goesOn_4 1 rfl ?_
  refine z_icmp_ne C (pc := 5) (tgt := 28) dX4_goesOn_5 (by decide) h (fun h => ?_) (fun h => ?_)
  · refine z_iconst C (pc := 28) (x := (0 : Int32)) dX4_goesOn_28 kic_0 ?_
    exact z_zret C (pc := 29) T dX4_goesOn_29 (by decide) (by decide) h
  · refine z_aload_n C (pc := 8) dX4_goesOn_8 0 rfl ?_
    refine z_getI C (pc := 9) kf4 4 (by decide) rfl bw_852 (fun _ _ _ _ h => h) dX4_goesOn_9 rfl o1 ?_
    refine z_iload_n C (pc := 12) dX4_goesOn_12 2 rfl ?_
    refine z_icmp_gt C (pc := 13) (tgt := 28) dX4_goesOn_13 (by decide) h (fun h => ?_) (fun h => ?_)
    · refine z_iconst C (pc := 28) (x := (0 : Int32)) dX4_goesOn_28 kic_0 ?_
      exact z_zret C (pc := 29) T dX4_goesOn_29 (by decide) (by decide) h
    · refine z_iload_n C (pc := 16) dX4_goesOn_16 2 rfl ?_
      refine z_aload_n C (pc := 17) dX4_goesOn_17 0 rfl ?_
      refine z_getI C (pc := 18) kf4 5 (by decide) rfl bw_853 (fun _ _ _ _ h => h) dX4_goesOn_18 rfl o1 ?_
      refine z_icmp_ge C (pc := 21) (tgt := 28) dX4_goesOn_21 (by decide) h (fun h => ?_) (fun h => ?_)
      · refine z_iconst C (pc := 28) (x := (0 : Int32)) dX4_goesOn_28 kic_0 ?_
        exact z_zret C (pc := 29) T dX4_goesOn_29 (by decide) (by decide) h
      · refine z_iconst C (pc := 24) (x := (1 : Int32)) dX4_goesOn_24 kic_1 ?_
        refine z_goto C (pc := 25) (tgt := 29) dX4_goesOn_25 (by decide) ?_
        exact z_zret C (pc := 29) T dX4_goesOn_29 (by decide) (by decide) h
def wp_X2_isHeldOn (S : Hp) (x0 : Nat) (x1 : Int32) (Q : Int32 → Hp → Prop) : Prop :=
  okA S 2 x0 ∧ (if x1 < (g_I S 202 x0) then (bz (0 : Int32) (Q (0 : Int32) S)) else (rd S 3 (g_P S 200 x0) (fun a2 => if (g_I S 305 a2) = 0 then (bz (1 : Int32) (Q (1 : Int32) S)) else (rd S 3 (g_P S 200 x0) (fun a5 => if (g_I S 305 a5) ≤ (x1 - (g_I S 202 x0)) then (bz (0 : Int32) (Q (0 : Int32) S)) else (bz (1 : Int32) (Q (1 : Int32) S)))))))
def rm_X2_isHeldOn : Room := { frames := 0, cells := 0, slots := 0, locals := 0 }
set_option maxHeartbeats 4000000 in
set_option maxRecDepth 100000 in
theorem c_X2_isHeldOn (l : Launch) (v : Ev) (S : Hp) (x0 : Nat) (x1 : Int32) : CI l v yX2_isHeldOn cX2_isHeldOn 2 (some .boolean) rm_X2_isHeldOn [va_rf (some x0), .int x1] S (fun Q _ => wp_X2_isHeldOn S x0 x1 Q) := by
  intro Q EQ h
  refine z_start [(0, va_rf (some x0)), (1, .int x1)] (by decide +kernel) (by simp only [la_i, la_r, la_n]) (cat_cr (cat_ci cat_nil)) (by simp only [ls_i, ls_r, ls_n]; decide) (fun z C N T => ?_)
  unfold wp_X2_isHeldOn at h
  refine z_aload_n C (pc := 0) dX2_isHeldOn_0 0 rfl ?_
  obtain ⟨o1, h⟩ := h
  refine z_getI C (pc := 1) kf2 2 (by decide) rfl bw_685 (fun _ _ _ _ h => h) dX2_isHeldOn_1 rfl o1 ?_
  refine z_iload_n C (pc := 4) dX2_isHeldOn_4 1 rfl ?_
  refine z_icmp_gt C (pc := 5) (tgt := 38) dX2_isHeldOn_5 (by decide) h (fun h => ?_) (fun h => ?_)
  · refine z_iconst C (pc := 38) (x := (0 : Int32)) dX2_isHeldOn_38 kic_0 ?_
    exact z_zret C (pc := 39) T dX2_isHeldOn_39 (by decide) (by decide) h
  · refine z_aload_n C (pc := 8) dX2_isHeldOn_8 0 rfl ?_
    refine z_getP C (pc := 9) kf2 0 (by decide) rfl bw_680 (fun _ _ _ _ h => h) dX2_isHeldOn_9 rfl o1 ?_
    obtain ⟨a2, e3, o4, h⟩ := h
    refine z_getI C (pc := 12) kf3 5 (by decide) rfl bw_811 (fun _ _ _ _ h => h) dX2_isHeldOn_12 e3 o4 ?_
    refine z_if_eq C (pc := 15) (tgt := 34) dX2_isHeldOn_15 (by decide) h (fun h => ?_) (fun h => ?_)
    · refine z_iconst C (pc := 34) (x := (1 : Int32)) dX2_isHeldOn_34 kic_1 ?_
      refine z_goto C (pc := 35) (tgt := 39) dX2_isHeldOn_35 (by decide) ?_
      exact z_zret C (pc := 39) T dX2_isHeldOn_39 (by decide) (by decide) h
    · refine z_iload_n C (pc := 18) dX2_isHeldOn_18 1 rfl ?_
      refine z_aload_n C (pc := 19) dX2_isHeldOn_19 0 rfl ?_
      refine z_getI C (pc := 20) kf2 2 (by decide) rfl bw_685 (fun _ _ _ _ h => h) dX2_isHeldOn_20 rfl o1 ?_
      refine z_isub C (pc := 23) dX2_isHeldOn_23 ?_
      refine z_aload_n C (pc := 24) dX2_isHeldOn_24 0 rfl ?_
      refine z_getP C (pc := 25) kf2 0 (by decide) rfl bw_680 (fun _ _ _ _ h => h) dX2_isHeldOn_25 rfl o1 ?_
      obtain ⟨a5, e6, o7, h⟩ := h
      refine z_getI C (pc := 28) kf3 5 (by decide) rfl bw_811 (fun _ _ _ _ h => h) dX2_isHeldOn_28 e6 o7 ?_
      refine z_icmp_ge C (pc := 31) (tgt := 38) dX2_isHeldOn_31 (by decide) h (fun h => ?_) (fun h => ?_)
      · refine z_iconst C (pc := 38) (x := (0 : Int32)) dX2_isHeldOn_38 kic_0 ?_
        exact z_zret C (pc := 39) T dX2_isHeldOn_39 (by decide) (by decide) h
      · refine z_iconst C (pc := 34) (x := (1 : Int32)) dX2_isHeldOn_34 kic_1 ?_
        refine z_goto C (pc := 35) (tgt := 39) dX2_isHeldOn_35 (by decide) ?_
        exact z_zret C (pc := 39) T dX2_isHeldOn_39 (by decide) (by decide) h
