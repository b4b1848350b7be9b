def wp_Jxa1e45_init_da8c8 (S : Hp) (x0 : Nat) (Q : Hp → Prop) : Prop :=
  Q S
def rm_Jxa1e45_init_da8c8 : Room := { frames := 1, cells := 0, slots := 0, locals := 12 }
set_option maxHeartbeats 4000000 in
set_option maxRecDepth 100000 in
theorem c_Jxa1e45_init_da8c8 (l : Launch) (v : Ev) (S : Hp) (x0 : Nat) : CV l v yJxa1e45_init_da8c8 cJxa1e45_init_da8c8 1 none rm_Jxa1e45_init_da8c8 [va_rf (some x0)] S (fun Q _ => wp_Jxa1e45_init_da8c8 S x0 Q) := by
  intro Q EQ h
  refine z_start [(0, va_rf (some x0))] (by decide +kernel) (by simp only [la_i, la_r, la_n]) (cat_cr cat_nil) (by simp only [ls_i, ls_r, ls_n]; decide) (fun z C N T => ?_)
  unfold wp_Jxa1e45_init_da8c8 at h
  refine z_aload_n C (pc := 0) dJxa1e45_init_da8c8_0 0 rfl ?_
  refine z_obj C (pc := 1) bw_45 bw_oi bw_oc ⟨by decide, Nat.le_of_ble_eq_true rfl⟩ dJxa1e45_init_da8c8_1 ?_
  exact z_vret C (pc := 4) T dJxa1e45_init_da8c8_4 (by decide) (by decide) h
def wp_Jxc12de_init_da8c8 (S : Hp) (x0 : Nat) (Q : Hp → Prop) : Prop :=
  wp_Jxa1e45_init_da8c8 S x0 (fun S1 => okA S1 10 x0 ∧ (lt (s_I S1 1000 x0 (0 : Int32)) (fun S3 => Q S3)))
def rm_Jxc12de_init_da8c8 : Room := { frames := 2, cells := 0, slots := 0, locals := 32 }
set_option maxHeartbeats 4000000 in
set_option maxRecDepth 100000 in
theorem c_Jxc12de_init_da8c8 (l : Launch) (v : Ev) (S : Hp) (x0 : Nat) : CV l v yJxc12de_init_da8c8 cJxc12de_init_da8c8 1 none rm_Jxc12de_init_da8c8 [va_rf (some x0)] S (fun Q _ => wp_Jxc12de_init_da8c8 S x0 Q) := by
  intro Q EQ h
  refine z_start [(0, va_rf (some x0))] (by decide +kernel) (by simp only [la_i, la_r, la_n]) (cat_cr cat_nil) (by simp only [ls_i, ls_r, ls_n]; decide) (fun z C N T => ?_)
  unfold wp_Jxc12de_init_da8c8 at h
  refine z_aload_n C (pc := 0) dJxc12de_init_da8c8_0 0 rfl ?_
  refine z_I C (pc := 1) (KX := fun _ _ => False) (kc' := 0) (ks' := 0) (As := []) (rest := []) (c_Jxa1e45_init_da8c8 l v S x0) mw_Jxa1e45_init_da8c8 bw_42 bw_43 rfl (fit_of rfl) rfl rfl (Nat.le_of_ble_eq_true rfl) dJxc12de_init_da8c8_1 h (fun S1 h => ?_) (fun En S9 h => h.elim)
  refine z_aload_n C (pc := 4) dJxc12de_init_da8c8_4 0 rfl ?_
  refine z_iconst C (pc := 5) (x := (0 : Int32)) dJxc12de_init_da8c8_5 kic_0 ?_
  obtain ⟨o2, h⟩ := h
  refine z_putI C (pc := 6) kf10 0 (by decide) rfl rfl bw_50 (fun _ _ _ _ h => h) dJxc12de_init_da8c8_6 rfl o2 ?_
  refine z_lt h (fun S3 h => ?_)
  exact z_vret C (pc := 9) T dJxc12de_init_da8c8_9 (by decide) (by decide) h
def wp_Jx4a65c_init_da8c8 (S : Hp) (x0 : Nat) (Q : Hp → Prop) : Prop :=
  wp_Jxc12de_init_da8c8 S x0 (fun S1 => okA S1 10 x0 ∧ (lt (s_P S1 1001 x0 (some (g_T S1))) (fun S3 => Q S3)))
def rm_Jx4a65c_init_da8c8 : Room := { frames := 3, cells := 0, slots := 0, locals := 52 }
set_option maxHeartbeats 4000000 in
set_option maxRecDepth 100000 in
theorem c_Jx4a65c_init_da8c8 (l : Launch) (v : Ev) (S : Hp) (x0 : Nat) : CV l v yJx4a65c_init_da8c8 cJx4a65c_init_da8c8 1 none rm_Jx4a65c_init_da8c8 [va_rf (some x0)] S (fun Q _ => wp_Jx4a65c_init_da8c8 S x0 Q) := by
  intro Q EQ h
  refine z_start [(0, va_rf (some x0))] (by decide +kernel) (by simp only [la_i, la_r, la_n]) (cat_cr cat_nil) (by simp only [ls_i, ls_r, ls_n]; decide) (fun z C N T => ?_)
  unfold wp_Jx4a65c_init_da8c8 at h
  refine z_aload_n C (pc := 0) dJx4a65c_init_da8c8_0 0 rfl ?_
  refine z_I C (pc := 1) (KX := fun _ _ => False) (kc' := 0) (ks' := 0) (As := []) (rest := []) (c_Jxc12de_init_da8c8 l v S x0) mw_Jxc12de_init_da8c8 bw_39 bw_40 rfl (fit_of rfl) rfl rfl (Nat.le_of_ble_eq_true rfl) dJx4a65c_init_da8c8_1 h (fun S1 h => ?_) (fun En S9 h => h.elim)
  refine z_aload_n C (pc := 4) dJx4a65c_init_da8c8_4 0 rfl ?_
  refine z_gsT C (pc := 5) bw_46 dJx4a65c_init_da8c8_5 ?_
  obtain ⟨o2, h⟩ := h
  refine z_putP C (pc := 8) kf10 1 (by decide) rfl rfl bw_48 (fun _ _ _ _ h => h) dJx4a65c_init_da8c8_8 rfl o2 ?_
  refine z_lt h (fun S3 h => ?_)
  exact z_vret C (pc := 11) T dJx4a65c_init_da8c8_11 (by decide) (by decide) h
def wp_Jx4a65c_size_8abf5 (S : Hp) (x0 : Nat) (Q : Int32 → Hp → Prop) : Prop :=
  okA S 10 x0 ∧ (Q (g_I S 1002 x0) S)
def rm_Jx4a65c_size_8abf5 : Room := { frames := 0, cells := 0, slots := 0, locals := 0 }
set_option maxHeartbeats 4000000 in
set_option maxRecDepth 100000 in
theorem c_Jx4a65c_size_8abf5 (l : Launch) (v : Ev) (S : Hp) (x0 : Nat) : CI l v yJx4a65c_size_8abf5 cJx4a65c_size_8abf5 1 (some .int) rm_Jx4a65c_size_8abf5 [va_rf (some x0)] S (fun Q _ => wp_Jx4a65c_size_8abf5 S x0 Q) := by
  intro Q EQ h
  refine z_start [(0, va_rf (some x0))] (by decide +kernel) (by simp only [la_i, la_r, la_n]) (cat_cr cat_nil) (by simp only [ls_i, ls_r, ls_n]; decide) (fun z C N T => ?_)
  unfold wp_Jx4a65c_size_8abf5 at h
  refine z_aload_n C (pc := 0) dJx4a65c_size_8abf5_0 0 rfl ?_
  obtain ⟨o1, h⟩ := h
  refine z_getI C (pc := 1) kf10 2 (by decide) rfl bw_49 (fun _ _ _ _ h => h) dJx4a65c_size_8abf5_1 rfl o1 ?_
  exact z_iret C (pc := 4) T dJx4a65c_size_8abf5_4 (by decide) (by decide) h
def wp_J8_newLength_cabcc (S : Hp) (x0 : Int32) (x1 : Int32) (x2 : Int32) (Q : Int32 → Hp → Prop) : Prop :=
  lt (x0 + (if x1 < x2 then x2 else x1)) (fun y1 => if y1 ≤ (0 : Int32) then (False) else (if (2147483639 : Int32) < y1 then (False) else (Q y1 S)))
def rm_J8_newLength_cabcc : Room := { frames := 1, cells := 0, slots := 0, locals := 15 }
set_option maxHeartbeats 4000000 in
set_option maxRecDepth 100000 in
theorem c_J8_newLength_cabcc (l : Launch) (v : Ev) (S : Hp) (x0 : Int32) (x1 : Int32) (x2 : Int32) : CI l v yJ8_newLength_cabcc cJ8_newLength_cabcc 4 (some .int) rm_J8_newLength_cabcc [.int x0, .int x1, .int x2] S (fun Q _ => wp_J8_newLength_cabcc S x0 x1 x2 Q) := by
  intro Q EQ h
  refine z_start [(0, .int x0), (1, .int x1), (2, .int x2)] (by decide +kernel) (by simp only [la_i, la_r, la_n]) (cat_ci (cat_ci (cat_ci cat_nil))) (by simp only [ls_i, ls_r, ls_n]; decide) (fun z C N T => ?_)
  unfold wp_J8_newLength_cabcc at h
  refine z_iload_n C (pc := 0) dJ8_newLength_cabcc_0 0 rfl ?_
  refine z_iload_n C (pc := 1) dJ8_newLength_cabcc_1 1 rfl ?_
  refine z_iload_n C (pc := 2) dJ8_newLength_cabcc_2 2 rfl ?_
  refine z_max C (pc := 3) bw_438 bw_439 bw_13 bw_440 ⟨by decide, Nat.le_of_ble_eq_true rfl, by decide, by decide⟩ dJ8_newLength_cabcc_3 ?_
  refine z_iadd C (pc := 6) dJ8_newLength_cabcc_6 ?_
  refine z_nI h (fun y1 h => ?_)
  refine z_istore_n C (pc := 7) (lv' := [(3, .int y1), (0, .int x0), (1, .int x1), (2, .int x2)]) dJ8_newLength_cabcc_7 (by decide) rfl ?_
  refine z_iconst C (pc := 8) (x := (0 : Int32)) dJ8_newLength_cabcc_8 kic_0 ?_
  refine z_iload_n C (pc := 9) dJ8_newLength_cabcc_9 0 rfl ?_
  refine z_icmp_ge C (pc := 10) (tgt := 21) dJ8_newLength_cabcc_10 (by decide) h (fun h => ?_) (fun h => ?_)
  · refine z_iload_n C (pc := 21) dJ8_newLength_cabcc_21 1 rfl ?_
    refine z_iload_n C (pc := 22) dJ8_newLength_cabcc_22 2 rfl ?_
    exact h.elim
  · refine z_iload_n C (pc := 13) dJ8_newLength_cabcc_13 0 rfl ?_
    refine z_ldc C (pc := 14) (x := (2147483639 : Int32)) dJ8_newLength_cabcc_14 bw_441 ?_
    refine z_icmp_gt C (pc := 16) (tgt := 21) dJ8_newLength_cabcc_16 (by decide) h (fun h => ?_) (fun h => ?_)
    · refine z_iload_n C (pc := 21) dJ8_newLength_cabcc_21 1 rfl ?_
      refine z_iload_n C (pc := 22) dJ8_newLength_cabcc_22 2 rfl ?_
      exact h.elim
    · refine z_iload_n C (pc := 19) dJ8_newLength_cabcc_19 0 rfl ?_
      exact z_iret C (pc := 20) T dJ8_newLength_cabcc_20 (by decide) (by decide) h
def wp_J7_copyOf_6403c (S : Hp) (x0 : Option Nat) (x1 : Int32) (Q : Option Nat → Hp → Prop) : Prop :=
  ¬ x1 < 0 ∧ x1.toNatClampNeg ≤ 64 ∧ (∀ a1, a1 ∉ g_L S → a1 ≠ g_T S → lt (n_A 15 S a1 x1.toNatClampNeg) (fun S2 => rd S2 15 x0 (fun a3 => rd S2 15 x0 (fun a6 => rd S2 15 (some a1) (fun a9 => ¬ (0 : Int32) < 0 ∧ ¬ (0 : Int32) < 0 ∧ ¬ (if x1 < (Int32.ofNat (g_N S2 a3)) then x1 else (Int32.ofNat (g_N S2 a3))) < 0 ∧ (0 : Int32).toNatClampNeg + (if x1 < (Int32.ofNat (g_N S2 a3)) then x1 else (Int32.ofNat (g_N S2 a3))).toNatClampNeg ≤ g_N S2 a6 ∧ (0 : Int32).toNatClampNeg + (if x1 < (Int32.ofNat (g_N S2 a3)) then x1 else (Int32.ofNat (g_N S2 a3))).toNatClampNeg ≤ g_N S2 a9 ∧ ∃ ke, ke < 10 ∧ (∀ i, i < (if x1 < (Int32.ofNat (g_N S2 a3)) then x1 else (Int32.ofNat (g_N S2 a3))).toNatClampNeg → ∀ y, g_O S2 a6 ((0 : Int32).toNatClampNeg + i) = some y → okA S2 ke y) ∧ lt (s_W S2 a9 (va_cpy (g_O S2 a6) (g_O S2 a9) (0 : Int32).toNatClampNeg (0 : Int32).toNatClampNeg (if x1 < (Int32.ofNat (g_N S2 a3)) then x1 else (Int32.ofNat (g_N S2 a3))).toNatClampNeg)) (fun S19 => Q (some a1) S19))))))
def rm_J7_copyOf_6403c : Room := { frames := 1, cells := 1, slots := 64, locals := 100 }
set_option maxHeartbeats 4000000 in
set_option maxRecDepth 100000 in
theorem c_J7_copyOf_6403c (l : Launch) (v : Ev) (S : Hp) (x0 : Option Nat) (x1 : Int32) : CQ l v yJ7_copyOf_6403c cJ7_copyOf_6403c 4 (some (.array (.object "java/lang/Object"))) rm_J7_copyOf_6403c [va_rf x0, .int x1, va_rf (some v.2.2.2)] S (fun Q _ => wp_J7_copyOf_6403c S x0 x1 Q) := by
  intro Q EQ h
  refine z_start [(0, va_rf x0), (1, .int x1), (2, va_rf (some v.2.2.2))] (by decide +kernel) (by simp only [la_i, la_r, la_n]) (cat_cr (cat_ci (cat_cr cat_nil))) (by simp only [ls_i, ls_r, ls_n]; decide) (fun z C N T => ?_)
  unfold wp_J7_copyOf_6403c at h
  refine z_aload_n C (pc := 0) dJ7_copyOf_6403c_0 2 rfl ?_
  refine z_ldcM C (pc := 1) bw_468 dJ7_copyOf_6403c_1 ?_
  refine z_acmp_ne C (pc := 3) (tgt := 13) dJ7_copyOf_6403c_3 (by decide) (ifT (c := (some v.2.2.2) = (some v.2.2.2)) rfl h) (fun h => h.elim) (fun h => ?_)
  refine z_iload_n C (pc := 6) dJ7_copyOf_6403c_6 1 rfl ?_
  refine z_anew C (pc := 7) (kc' := 1) (ks' := 64) (lim := 64) (κ := 15) (by decide) 4 (fun _ => rfl) bw_470 nw_469 dJ7_copyOf_6403c_7 (by decide) (by decide) (by decide) (by decide) (by decide) h (fun a1 S2 h => ?_)
  refine z_goto C (pc := 10) (tgt := 24) dJ7_copyOf_6403c_10 (by decide) ?_
  refine z_astore_n C (pc := 24) (lv' := [(3, va_rf (some a1)), (0, va_rf x0), (1, .int x1), (2, va_rf (some v.2.2.2))]) dJ7_copyOf_6403c_24 (by decide) rfl ?_
  refine z_aload_n C (pc := 25) dJ7_copyOf_6403c_25 1 rfl ?_
  refine z_iconst C (pc := 26) (x := (0 : Int32)) dJ7_copyOf_6403c_26 kic_0 ?_
  refine z_aload_n C (pc := 27) dJ7_copyOf_6403c_27 0 rfl ?_
  refine z_iconst C (pc := 28) (x := (0 : Int32)) dJ7_copyOf_6403c_28 kic_0 ?_
  refine z_aload_n C (pc := 29) dJ7_copyOf_6403c_29 1 rfl ?_
  obtain ⟨a3, e4, o5, h⟩ := h
  refine z_alen C (pc := 30) (κ := 15) (by decide) 4 (.object "java/lang/Object") (fun _ => rfl) dJ7_copyOf_6403c_30 e4 o5 ?_
  refine z_iload_n C (pc := 31) dJ7_copyOf_6403c_31 2 rfl ?_
  refine z_min C (pc := 32) bw_471 bw_472 bw_13 bw_473 ⟨by decide, Nat.le_of_ble_eq_true rfl, by decide, by decide⟩ dJ7_copyOf_6403c_32 ?_
  obtain ⟨a6, e7, o8, a9, e10, o11, q12, q13, q14, q15, q16, ke, k18, q17, h⟩ := h
  refine z_acopy C (pc := 35) bw_474 bw_476 bw_475 bw_15 ⟨by decide, Nat.le_of_ble_eq_true rfl⟩ dJ7_copyOf_6403c_35 e7 o8 e10 o11 q12 q13 q14 q15 q16 k18 q17 ?_
  refine z_lt h (fun S19 h => ?_)
  refine z_aload_n C (pc := 38) dJ7_copyOf_6403c_38 0 rfl ?_
  exact z_aret C (pc := 39) rfl (Or.inr ⟨_, rfl⟩) T dJ7_copyOf_6403c_39 (by decide) (by decide) h
def wp_J7_copyOf_1904c (S : Hp) (x0 : Option Nat) (x1 : Int32) (Q : Option Nat → Hp → Prop) : Prop :=
  rd S 15 x0 (fun a1 => wp_J7_copyOf_6403c S x0 x1 (fun r5 S4 => Q r5 S4))
def rm_J7_copyOf_1904c : Room := { frames := 2, cells := 1, slots := 64, locals := 123 }
set_option maxHeartbeats 4000000 in
set_option maxRecDepth 100000 in
theorem c_J7_copyOf_1904c (l : Launch) (v : Ev) (S : Hp) (x0 : Option Nat) (x1 : Int32) : CQ l v yJ7_copyOf_1904c cJ7_copyOf_1904c 2 (some (.array (.object "java/lang/Object"))) rm_J7_copyOf_1904c [va_rf x0, .int x1] S (fun Q _ => wp_J7_copyOf_1904c S x0 x1 Q) := by
  intro Q EQ h
  refine z_start [(0, va_rf x0), (1, .int x1)] (by decide +kernel) (by simp only [la_i, la_r, la_n]) (cat_cr (cat_ci cat_nil)) (by simp only [ls_i, ls_r, ls_n]; decide) (fun z C N T => ?_)
  unfold wp_J7_copyOf_1904c at h
  refine z_aload_n C (pc := 0) dJ7_copyOf_1904c_0 0 rfl ?_
  refine z_iload_n C (pc := 1) dJ7_copyOf_1904c_1 1 rfl ?_
  refine z_aload_n C (pc := 2) dJ7_copyOf_1904c_2 0 rfl ?_
  obtain ⟨a1, e2, o3, h⟩ := h
  refine z_getC C (pc := 3) bw_448 nw_897 bw_896 bw_449 bw_464 ⟨by decide, Nat.le_of_ble_eq_true rfl⟩ dJ7_copyOf_1904c_3 e2 o3 ?_
  refine z_Sq C (pc := 6) (KX := fun _ _ => False) (kc' := 1) (ks' := 64) (As := [va_rf x0, .int x1, va_rf (some v.2.2.2)]) (rest := []) (c_J7_copyOf_6403c l v S x0 x1) mw_J7_copyOf_6403c bw_465 bw_466 (fit_of rfl) rfl rfl (Nat.le_of_ble_eq_true rfl) dJ7_copyOf_1904c_6 h (fun r5 S4 h => ?_) (fun En S9 h => h.elim)
  exact z_aret C (pc := 9) rfl (Or.inr ⟨_, rfl⟩) T dJ7_copyOf_1904c_9 (by decide) (by decide) h
def wp_Jx4a65c_grow_92f84 (S : Hp) (x0 : Nat) (x1 : Int32) (Q : Option Nat → Hp → Prop) : Prop :=
  okA S 10 x0 ∧ (if (g_P S 1001 x0) = some (g_T S) then (if (g_P S 1001 x0) = (some (g_T S)) then (¬ (if (10 : Int32) < x1 then x1 else (10 : Int32)) < 0 ∧ (if (10 : Int32) < x1 then x1 else (10 : Int32)).toNatClampNeg ≤ 64 ∧ (∀ a2, a2 ∉ g_L S → a2 ≠ g_T S → lt (n_A 15 S a2 (if (10 : Int32) < x1 then x1 else (10 : Int32)).toNatClampNeg) (fun S3 => okA S3 10 x0 ∧ (lt (s_P S3 1001 x0 (some a2)) (fun S5 => Q (some a2) S5))))) else (wp_J8_newLength_cabcc S (0 : Int32) (x1 - (0 : Int32)) ((0 : Int32) >>> ((1 : Int32) &&& 31)) (fun r7 S6 => okA S6 10 x0 ∧ (wp_J7_copyOf_1904c S6 (g_P S6 1001 x0) r7 (fun r10 S9 => okA S9 10 x0 ∧ (lt (s_P S9 1001 x0 r10) (fun S12 => Q r10 S12))))))) else (rd S 15 (g_P S 1001 x0) (fun a13 => lt (Int32.ofNat (g_N S a13)) (fun y15 => if 0 < y15 then (wp_J8_newLength_cabcc S y15 (x1 - y15) (y15 >>> ((1 : Int32) &&& 31)) (fun r17 S16 => okA S16 10 x0 ∧ (wp_J7_copyOf_1904c S16 (g_P S16 1001 x0) r17 (fun r20 S19 => okA S19 10 x0 ∧ (lt (s_P S19 1001 x0 r20) (fun S22 => Q r20 S22)))))) else (if (g_P S 1001 x0) = (some (g_T S)) then (¬ (if (10 : Int32) < x1 then x1 else (10 : Int32)) < 0 ∧ (if (10 : Int32) < x1 then x1 else (10 : Int32)).toNatClampNeg ≤ 64 ∧ (∀ a23, a23 ∉ g_L S → a23 ≠ g_T S → lt (n_A 15 S a23 (if (10 : Int32) < x1 then x1 else (10 : Int32)).toNatClampNeg) (fun S24 => okA S24 10 x0 ∧ (lt (s_P S24 1001 x0 (some a23)) (fun S26 => Q (some a23) S26))))) else (wp_J8_newLength_cabcc S y15 (x1 - y15) (y15 >>> ((1 : Int32) &&& 31)) (fun r28 S27 => okA S27 10 x0 ∧ (wp_J7_copyOf_1904c S27 (g_P S27 1001 x0) r28 (fun r31 S30 => okA S30 10 x0 ∧ (lt (s_P S30 1001 x0 r31) (fun S33 => Q r31 S33)))))))))))
def rm_Jx4a65c_grow_92f84 : Room := { frames := 3, cells := 1, slots := 64, locals := 144 }
set_option maxHeartbeats 4000000 in
set_option maxRecDepth 100000 in
theorem c_Jx4a65c_grow_92f84 (l : Launch) (v : Ev) (S : Hp) (x0 : Nat) (x1 : Int32) : CQ l v yJx4a65c_grow_92f84 cJx4a65c_grow_92f84 4 (some (.array (.object "java/lang/Object"))) rm_Jx4a65c_grow_92f84 [va_rf (some x0), .int x1] S (fun Q _ => wp_Jx4a65c_grow_92f84 S x0 x1 Q) := by
  intro Q EQ h
  refine z_start [(0, va_rf (some x0)), (1, .int x1)] (by decide +kernel) (by simp only [la_i, la_r, la_n]) (cat_cr (cat_ci cat_nil)) (by simp only [ls_i, ls_r, ls_n]; decide) (fun z C N T => ?_)
  unfold wp_Jx4a65c_grow_92f84 at h
  refine z_aload_n C (pc := 0) dJx4a65c_grow_92f84_0 0 rfl ?_
  obtain ⟨o1, h⟩ := h
  refine z_getP C (pc := 1) kf10 1 (by decide) rfl bw_48 (fun _ _ _ _ h => h) dJx4a65c_grow_92f84_1 rfl o1 ?_
  refine z_alenT C (pc := 4) dJx4a65c_grow_92f84_4 h (fun h => ?_) (fun a13 h => ?_)
  · refine z_istore_n C (pc := 5) (lv' := [(2, .int (0 : Int32)), (0, va_rf (some x0)), (1, .int x1)]) dJx4a65c_grow_92f84_5 (by decide) rfl ?_
    refine z_iload_n C (pc := 6) dJx4a65c_grow_92f84_6 0 rfl ?_
    refine z_if_gt C (pc := 7) (tgt := 20) dJx4a65c_grow_92f84_7 (by decide) (ifF (c := 0 < (0 : Int32)) (by decide) h) (fun h => h.elim) (fun h => ?_)
    refine z_aload_n C (pc := 10) dJx4a65c_grow_92f84_10 1 rfl ?_
    refine z_getP C (pc := 11) kf10 1 (by decide) rfl bw_48 (fun _ _ _ _ h => h) dJx4a65c_grow_92f84_11 rfl o1 ?_
    refine z_gsT C (pc := 14) bw_46 dJx4a65c_grow_92f84_14 ?_
    refine z_acmp_eq C (pc := 17) (tgt := 45) dJx4a65c_grow_92f84_17 (by decide) h (fun h => ?_) (fun h => ?_)
    · refine z_aload_n C (pc := 45) dJx4a65c_grow_92f84_45 1 rfl ?_
      refine z_bipush C (pc := 46) (x := (10 : Int32)) dJx4a65c_grow_92f84_46 kbp_10 ?_
      refine z_iload_n C (pc := 48) dJx4a65c_grow_92f84_48 2 rfl ?_
      refine z_max C (pc := 49) bw_477 bw_439 bw_13 bw_440 ⟨by decide, Nat.le_of_ble_eq_true rfl, by decide, by decide⟩ dJx4a65c_grow_92f84_49 ?_
      refine z_anew C (pc := 52) (kc' := 1) (ks' := 64) (lim := 64) (κ := 15) (by decide) 4 (fun _ => rfl) bw_478 nw_469 dJx4a65c_grow_92f84_52 (by decide) (by decide) (by decide) (by decide) (by decide) h (fun a2 S3 h => ?_)
      refine z_dup_x1 C (pc := 55) dJx4a65c_grow_92f84_55 (cat_rf _) (cat_rf _) ?_
      obtain ⟨o4, h⟩ := h
      refine z_putP C (pc := 56) kf10 1 (by decide) rfl rfl bw_48 (fun _ _ _ _ h => h) dJx4a65c_grow_92f84_56 rfl o4 ?_
      refine z_lt h (fun S5 h => ?_)
      exact z_aret C (pc := 59) rfl (Or.inr ⟨_, rfl⟩) T dJx4a65c_grow_92f84_59 (by decide) (by decide) h
    · refine z_iload_n C (pc := 20) dJx4a65c_grow_92f84_20 0 rfl ?_
      refine z_iload_n C (pc := 21) dJx4a65c_grow_92f84_21 2 rfl ?_
      refine z_iload_n C (pc := 22) dJx4a65c_grow_92f84_22 0 rfl ?_
      refine z_isub C (pc := 23) dJx4a65c_grow_92f84_23 ?_
      refine z_iload_n C (pc := 24) dJx4a65c_grow_92f84_24 0 rfl ?_
      refine z_iconst C (pc := 25) (x := (1 : Int32)) dJx4a65c_grow_92f84_25 kic_1 ?_
      refine z_ishr C (pc := 26) dJx4a65c_grow_92f84_26 ?_
      refine z_Si C (pc := 27) (KX := fun _ _ => False) (kc' := 0) (ks' := 0) (As := [.int (0 : Int32), .int (x1 - (0 : Int32)), .int ((0 : Int32) >>> ((1 : Int32) &&& 31))]) (rest := []) (c_J8_newLength_cabcc l v S (0 : Int32) (x1 - (0 : Int32)) ((0 : Int32) >>> ((1 : Int32) &&& 31))) mw_J8_newLength_cabcc bw_435 bw_436 (fit_of rfl) rfl rfl (Nat.le_of_ble_eq_true rfl) dJx4a65c_grow_92f84_27 h (fun r7 S6 h => ?_) (fun En S9 h => h.elim)
      refine z_istore_n C (pc := 30) (lv' := [(3, .int r7), (2, .int (0 : Int32)), (0, va_rf (some x0)), (1, .int x1)]) dJx4a65c_grow_92f84_30 (by decide) rfl ?_
      refine z_aload_n C (pc := 31) dJx4a65c_grow_92f84_31 2 rfl ?_
      refine z_aload_n C (pc := 32) dJx4a65c_grow_92f84_32 2 rfl ?_
      obtain ⟨o8, h⟩ := h
      refine z_getP C (pc := 33) kf10 1 (by decide) rfl bw_48 (fun _ _ _ _ h => h) dJx4a65c_grow_92f84_33 rfl o8 ?_
      refine z_iload_n C (pc := 36) dJx4a65c_grow_92f84_36 0 rfl ?_
      refine z_Sq C (pc := 37) (KX := fun _ _ => False) (kc' := 1) (ks' := 64) (As := [va_rf (g_P S6 1001 x0), .int r7]) (rest := [va_rf (some x0)]) (c_J7_copyOf_1904c l v S6 (g_P S6 1001 x0) r7) mw_J7_copyOf_1904c bw_445 bw_446 (fit_of rfl) rfl rfl (Nat.le_of_ble_eq_true rfl) dJx4a65c_grow_92f84_37 h (fun r10 S9 h => ?_) (fun En S9 h => h.elim)
      refine z_dup_x1 C (pc := 40) dJx4a65c_grow_92f84_40 (cat_rf _) (cat_rf _) ?_
      obtain ⟨o11, h⟩ := h
      refine z_putP C (pc := 41) kf10 1 (by decide) rfl rfl bw_48 (fun _ _ _ _ h => h) dJx4a65c_grow_92f84_41 rfl o11 ?_
      refine z_lt h (fun S12 h => ?_)
      exact z_aret C (pc := 44) rfl (Or.inr ⟨_, rfl⟩) T dJx4a65c_grow_92f84_44 (by decide) (by decide) h
  · refine z_nI h (fun y15 h => ?_)
    refine z_istore_n C (pc := 5) (lv' := [(2, .int y15), (0, va_rf (some x0)), (1, .int x1)]) dJx4a65c_grow_92f84_5 (by decide) rfl ?_
    refine z_iload_n C (pc := 6) dJx4a65c_grow_92f84_6 0 rfl ?_
    refine z_if_gt C (pc := 7) (tgt := 20) dJx4a65c_grow_92f84_7 (by decide) h (fun h => ?_) (fun h => ?_)
    · refine z_iload_n C (pc := 20) dJx4a65c_grow_92f84_20 0 rfl ?_
      refine z_iload_n C (pc := 21) dJx4a65c_grow_92f84_21 2 rfl ?_
      refine z_iload_n C (pc := 22) dJx4a65c_grow_92f84_22 0 rfl ?_
      refine z_isub C (pc := 23) dJx4a65c_grow_92f84_23 ?_
      refine z_iload_n C (pc := 24) dJx4a65c_grow_92f84_24 0 rfl ?_
      refine z_iconst C (pc := 25) (x := (1 : Int32)) dJx4a65c_grow_92f84_25 kic_1 ?_
      refine z_ishr C (pc := 26) dJx4a65c_grow_92f84_26 ?_
      refine z_Si C (pc := 27) (KX := fun _ _ => False) (kc' := 0) (ks' := 0) (As := [.int y15, .int (x1 - y15), .int (y15 >>> ((1 : Int32) &&& 31))]) (rest := []) (c_J8_newLength_cabcc l v S y15 (x1 - y15) (y15 >>> ((1 : Int32) &&& 31))) mw_J8_newLength_cabcc bw_435 bw_436 (fit_of rfl) rfl rfl (Nat.le_of_ble_eq_true rfl) dJx4a65c_grow_92f84_27 h (fun r17 S16 h => ?_) (fun En S9 h => h.elim)
      refine z_istore_n C (pc := 30) (lv' := [(3, .int r17), (2, .int y15), (0, va_rf (some x0)), (1, .int x1)]) dJx4a65c_grow_92f84_30 (by decide) rfl ?_
      refine z_aload_n C (pc := 31) dJx4a65c_grow_92f84_31 2 rfl ?_
      refine z_aload_n C (pc := 32) dJx4a65c_grow_92f84_32 2 rfl ?_
      obtain ⟨o18, h⟩ := h
      refine z_getP C (pc := 33) kf10 1 (by decide) rfl bw_48 (fun _ _ _ _ h => h) dJx4a65c_grow_92f84_33 rfl o18 ?_
      refine z_iload_n C (pc := 36) dJx4a65c_grow_92f84_36 0 rfl ?_
      refine z_Sq C (pc := 37) (KX := fun _ _ => False) (kc' := 1) (ks' := 64) (As := [va_rf (g_P S16 1001 x0), .int r17]) (rest := [va_rf (some x0)]) (c_J7_copyOf_1904c l v S16 (g_P S16 1001 x0) r17) mw_J7_copyOf_1904c bw_445 bw_446 (fit_of rfl) rfl rfl (Nat.le_of_ble_eq_true rfl) dJx4a65c_grow_92f84_37 h (fun r20 S19 h => ?_) (fun En S9 h => h.elim)
      refine z_dup_x1 C (pc := 40) dJx4a65c_grow_92f84_40 (cat_rf _) (cat_rf _) ?_
      obtain ⟨o21, h⟩ := h
      refine z_putP C (pc := 41) kf10 1 (by decide) rfl rfl bw_48 (fun _ _ _ _ h => h) dJx4a65c_grow_92f84_41 rfl o21 ?_
      refine z_lt h (fun S22 h => ?_)
      exact z_aret C (pc := 44) rfl (Or.inr ⟨_, rfl⟩) T dJx4a65c_grow_92f84_44 (by decide) (by decide) h
    · refine z_aload_n C (pc := 10) dJx4a65c_grow_92f84_10 1 rfl ?_
      refine z_getP C (pc := 11) kf10 1 (by decide) rfl bw_48 (fun _ _ _ _ h => h) dJx4a65c_grow_92f84_11 rfl o1 ?_
      refine z_gsT C (pc := 14) bw_46 dJx4a65c_grow_92f84_14 ?_
      refine z_acmp_eq C (pc := 17) (tgt := 45) dJx4a65c_grow_92f84_17 (by decide) h (fun h => ?_) (fun h => ?_)
      · refine z_aload_n C (pc := 45) dJx4a65c_grow_92f84_45 1 rfl ?_
        refine z_bipush C (pc := 46) (x := (10 : Int32)) dJx4a65c_grow_92f84_46 kbp_10 ?_
        refine z_iload_n C (pc := 48) dJx4a65c_grow_92f84_48 2 rfl ?_
        refine z_max C (pc := 49) bw_477 bw_439 bw_13 bw_440 ⟨by decide, Nat.le_of_ble_eq_true rfl, by decide, by decide⟩ dJx4a65c_grow_92f84_49 ?_
        refine z_anew C (pc := 52) (kc' := 1) (ks' := 64) (lim := 64) (κ := 15) (by decide) 4 (fun _ => rfl) bw_478 nw_469 dJx4a65c_grow_92f84_52 (by decide) (by decide) (by decide) (by decide) (by decide) h (fun a23 S24 h => ?_)
        refine z_dup_x1 C (pc := 55) dJx4a65c_grow_92f84_55 (cat_rf _) (cat_rf _) ?_
        obtain ⟨o25, h⟩ := h
        refine z_putP C (pc := 56) kf10 1 (by decide) rfl rfl bw_48 (fun _ _ _ _ h => h) dJx4a65c_grow_92f84_56 rfl o25 ?_
        refine z_lt h (fun S26 h => ?_)
        exact z_aret C (pc := 59) rfl (Or.inr ⟨_, rfl⟩) T dJx4a65c_grow_92f84_59 (by decide) (by decide) h
      · refine z_iload_n C (pc := 20) dJx4a65c_grow_92f84_20 0 rfl ?_
        refine z_iload_n C (pc := 21) dJx4a65c_grow_92f84_21 2 rfl ?_
        refine z_iload_n C (pc := 22) dJx4a65c_grow_92f84_22 0 rfl ?_
        refine z_isub C (pc := 23) dJx4a65c_grow_92f84_23 ?_
        refine z_iload_n C (pc := 24) dJx4a65c_grow_92f84_24 0 rfl ?_
        refine z_iconst C (pc := 25) (x := (1 : Int32)) dJx4a65c_grow_92f84_25 kic_1 ?_
        refine z_ishr C (pc := 26) dJx4a65c_grow_92f84_26 ?_
        refine z_Si C (pc := 27) (KX := fun _ _ => False) (kc' := 0) (ks' := 0) (As := [.int y15, .int (x1 - y15), .int (y15 >>> ((1 : Int32) &&& 31))]) (rest := []) (c_J8_newLength_cabcc l v S y15 (x1 - y15) (y15 >>> ((1 : Int32) &&& 31))) mw_J8_newLength_cabcc bw_435 bw_436 (fit_of rfl) rfl rfl (Nat.le_of_ble_eq_true rfl) dJx4a65c_grow_92f84_27 h (fun r28 S27 h => ?_) (fun En S9 h => h.elim)
        refine z_istore_n C (pc := 30) (lv' := [(3, .int r28), (2, .int y15), (0, va_rf (some x0)), (1, .int x1)]) dJx4a65c_grow_92f84_30 (by decide) rfl ?_
        refine z_aload_n C (pc := 31) dJx4a65c_grow_92f84_31 2 rfl ?_
        refine z_aload_n C (pc := 32) dJx4a65c_grow_92f84_32 2 rfl ?_
        obtain ⟨o29, h⟩ := h
        refine z_getP C (pc := 33) kf10 1 (by decide) rfl bw_48 (fun _ _ _ _ h => h) dJx4a65c_grow_92f84_33 rfl o29 ?_
        refine z_iload_n C (pc := 36) dJx4a65c_grow_92f84_36 0 rfl ?_
        refine z_Sq C (pc := 37) (KX := fun _ _ => False) (kc' := 1) (ks' := 64) (As := [va_rf (g_P S27 1001 x0), .int r28]) (rest := [va_rf (some x0)]) (c_J7_copyOf_1904c l v S27 (g_P S27 1001 x0) r28) mw_J7_copyOf_1904c bw_445 bw_446 (fit_of rfl) rfl rfl (Nat.le_of_ble_eq_true rfl) dJx4a65c_grow_92f84_37 h (fun r31 S30 h => ?_) (fun En S9 h => h.elim)
        refine z_dup_x1 C (pc := 40) dJx4a65c_grow_92f84_40 (cat_rf _) (cat_rf _) ?_
        obtain ⟨o32, h⟩ := h
        refine z_putP C (pc := 41) kf10 1 (by decide) rfl rfl bw_48 (fun _ _ _ _ h => h) dJx4a65c_grow_92f84_41 rfl o32 ?_
        refine z_lt h (fun S33 h => ?_)
        exact z_aret C (pc := 44) rfl (Or.inr ⟨_, rfl⟩) T dJx4a65c_grow_92f84_44 (by decide) (by decide) h
def wp_Jx4a65c_grow_d5877 (S : Hp) (x0 : Nat) (Q : Option Nat → Hp → Prop) : Prop :=
  okA S 10 x0 ∧ (wp_Jx4a65c_grow_92f84 S x0 ((g_I S 1002 x0) + (1 : Int32)) (fun r3 S2 => Q r3 S2))
def rm_Jx4a65c_grow_d5877 : Room := { frames := 4, cells := 1, slots := 64, locals := 167 }
set_option maxHeartbeats 4000000 in
set_option maxRecDepth 100000 in
theorem c_Jx4a65c_grow_d5877 (l : Launch) (v : Ev) (S : Hp) (x0 : Nat) : CQ l v yJx4a65c_grow_d5877 cJx4a65c_grow_d5877 1 (some (.array (.object "java/lang/Object"))) rm_Jx4a65c_grow_d5877 [va_rf (some x0)] S (fun Q _ => wp_Jx4a65c_grow_d5877 S x0 Q) := by
  intro Q EQ h
  refine z_start [(0, va_rf (some x0))] (by decide +kernel) (by simp only [la_i, la_r, la_n]) (cat_cr cat_nil) (by simp only [ls_i, ls_r, ls_n]; decide) (fun z C N T => ?_)
  unfold wp_Jx4a65c_grow_d5877 at h
  refine z_aload_n C (pc := 0) dJx4a65c_grow_d5877_0 0 rfl ?_
  refine z_aload_n C (pc := 1) dJx4a65c_grow_d5877_1 0 rfl ?_
  obtain ⟨o1, h⟩ := h
  refine z_getI C (pc := 2) kf10 2 (by decide) rfl bw_49 (fun _ _ _ _ h => h) dJx4a65c_grow_d5877_2 rfl o1 ?_
  refine z_iconst C (pc := 5) (x := (1 : Int32)) dJx4a65c_grow_d5877_5 kic_1 ?_
  refine z_iadd C (pc := 6) dJx4a65c_grow_d5877_6 ?_
  refine z_Vq C (pc := 7) (KX := fun _ _ => False) (kc' := 1) (ks' := 64) (As := [.int ((g_I S 1002 x0) + (1 : Int32))]) (rest := []) rfl (c_Jx4a65c_grow_92f84 l v S x0 ((g_I S 1002 x0) + (1 : Int32))) mw_Jx4a65c_grow_92f84 bw_431 bw_433 bw_p12 (fit_of rfl) rfl rfl (Nat.le_of_ble_eq_true rfl) (by decide) rfl o1 dJx4a65c_grow_d5877_7 h (fun r3 S2 h => ?_) (fun En S9 h => h.elim)
  exact z_aret C (pc := 10) rfl (Or.inr ⟨_, rfl⟩) T dJx4a65c_grow_d5877_10 (by decide) (by decide) h
def wp_Jx4a65c_add_72be8 (S : Hp) (x0 : Nat) (x1 : Option Nat) (x2 : Option Nat) (x3 : Int32) (Q : Hp → Prop) : Prop :=
  if x2 = some (g_T S) then (if x3 = (0 : Int32) then (okA S 10 x0 ∧ (wp_Jx4a65c_grow_d5877 S x0 (fun r14 S13 => rd S13 15 r14 (fun a15 => vp_in x3 (g_N S13 a15) ∧ (∃ ke, ke < 10 ∧ rd S13 ke x1 (fun a20 => lt (s_O S13 a15 x3.toNatClampNeg x1) (fun S23 => okA S23 10 x0 ∧ (lt (s_I S23 1002 x0 (x3 + (1 : Int32))) (fun S25 => Q S25))))))))) else (rd S 15 x2 (fun a1 => vp_in x3 (g_N S a1) ∧ (∃ ke, ke < 10 ∧ rd S ke x1 (fun a6 => lt (s_O S a1 x3.toNatClampNeg x1) (fun S9 => okA S9 10 x0 ∧ (lt (s_I S9 1002 x0 (x3 + (1 : Int32))) (fun S11 => Q S11)))))))) else (rd S 15 x2 (fun a26 => if x3 = (Int32.ofNat (g_N S a26)) then (okA S 10 x0 ∧ (wp_Jx4a65c_grow_d5877 S x0 (fun r41 S40 => rd S40 15 r41 (fun a42 => vp_in x3 (g_N S40 a42) ∧ (∃ ke, ke < 10 ∧ rd S40 ke x1 (fun a47 => lt (s_O S40 a42 x3.toNatClampNeg x1) (fun S50 => okA S50 10 x0 ∧ (lt (s_I S50 1002 x0 (x3 + (1 : Int32))) (fun S52 => Q S52))))))))) else (rd S 15 x2 (fun a28 => vp_in x3 (g_N S a28) ∧ (∃ ke, ke < 10 ∧ rd S ke x1 (fun a33 => lt (s_O S a28 x3.toNatClampNeg x1) (fun S36 => okA S36 10 x0 ∧ (lt (s_I S36 1002 x0 (x3 + (1 : Int32))) (fun S38 => Q S38)))))))))
def rm_Jx4a65c_add_72be8 : Room := { frames := 5, cells := 1, slots := 64, locals := 187 }
set_option maxHeartbeats 4000000 in
set_option maxRecDepth 100000 in
theorem c_Jx4a65c_add_72be8 (l : Launch) (v : Ev) (S : Hp) (x0 : Nat) (x1 : Option Nat) (x2 : Option Nat) (x3 : Int32) : CV l v yJx4a65c_add_72be8 cJx4a65c_add_72be8 4 none rm_Jx4a65c_add_72be8 [va_rf (some x0), va_rf x1, va_rf x2, .int x3] S (fun Q _ => wp_Jx4a65c_add_72be8 S x0 x1 x2 x3 Q) := by
  intro Q EQ h
  refine z_start [(0, va_rf (some x0)), (1, va_rf x1), (2, va_rf x2), (3, .int x3)] (by decide +kernel) (by simp only [la_i, la_r, la_n]) (cat_cr (cat_cr (cat_cr (cat_ci cat_nil)))) (by simp only [ls_i, ls_r, ls_n]; decide) (fun z C N T => ?_)
  unfold wp_Jx4a65c_add_72be8 at h
  refine z_iload_n C (pc := 0) dJx4a65c_add_72be8_0 3 rfl ?_
  refine z_aload_n C (pc := 1) dJx4a65c_add_72be8_1 2 rfl ?_
  refine z_alenT C (pc := 2) dJx4a65c_add_72be8_2 h (fun h => ?_) (fun a26 h => ?_)
  · refine z_icmp_ne C (pc := 3) (tgt := 11) dJx4a65c_add_72be8_3 (by decide) h (fun h => ?_) (fun h => ?_)
    · refine z_aload_n C (pc := 11) dJx4a65c_add_72be8_11 2 rfl ?_
      refine z_iload_n C (pc := 12) dJx4a65c_add_72be8_12 3 rfl ?_
      refine z_aload_n C (pc := 13) dJx4a65c_add_72be8_13 1 rfl ?_
      obtain ⟨a1, e2, o3, h⟩ := h
      obtain ⟨v4, h⟩ := h
      obtain ⟨ke, k5, a6, e7, o8, h⟩ := h
      refine z_aastK C (pc := 14) k5 dJx4a65c_add_72be8_14 e2 o3 v4 e7 o8 ?_
      refine z_lt h (fun S9 h => ?_)
      refine z_aload_n C (pc := 15) dJx4a65c_add_72be8_15 0 rfl ?_
      refine z_iload_n C (pc := 16) dJx4a65c_add_72be8_16 3 rfl ?_
      refine z_iconst C (pc := 17) (x := (1 : Int32)) dJx4a65c_add_72be8_17 kic_1 ?_
      refine z_iadd C (pc := 18) dJx4a65c_add_72be8_18 ?_
      obtain ⟨o10, h⟩ := h
      refine z_putI C (pc := 19) kf10 2 (by decide) rfl rfl bw_49 (fun _ _ _ _ h => h) dJx4a65c_add_72be8_19 rfl o10 ?_
      refine z_lt h (fun S11 h => ?_)
      exact z_vret C (pc := 22) T dJx4a65c_add_72be8_22 (by decide) (by decide) h
    · refine z_aload_n C (pc := 6) dJx4a65c_add_72be8_6 0 rfl ?_
      obtain ⟨o12, h⟩ := h
      refine z_Vq C (pc := 7) (KX := fun _ _ => False) (kc' := 1) (ks' := 64) (As := []) (rest := []) rfl (c_Jx4a65c_grow_d5877 l v S x0) mw_Jx4a65c_grow_d5877 bw_427 bw_429 bw_p11 (fit_of rfl) rfl rfl (Nat.le_of_ble_eq_true rfl) (by decide) rfl o12 dJx4a65c_add_72be8_7 h (fun r14 S13 h => ?_) (fun En S9 h => h.elim)
      refine z_astore_n C (pc := 10) (lv' := [(2, va_rf r14), (0, va_rf (some x0)), (1, va_rf x1), (3, .int x3)]) dJx4a65c_add_72be8_10 (by decide) rfl ?_
      refine z_aload_n C (pc := 11) dJx4a65c_add_72be8_11 0 rfl ?_
      refine z_iload_n C (pc := 12) dJx4a65c_add_72be8_12 3 rfl ?_
      refine z_aload_n C (pc := 13) dJx4a65c_add_72be8_13 2 rfl ?_
      obtain ⟨a15, e16, o17, h⟩ := h
      obtain ⟨v18, h⟩ := h
      obtain ⟨ke, k19, a20, e21, o22, h⟩ := h
      refine z_aastK C (pc := 14) k19 dJx4a65c_add_72be8_14 e16 o17 v18 e21 o22 ?_
      refine z_lt h (fun S23 h => ?_)
      refine z_aload_n C (pc := 15) dJx4a65c_add_72be8_15 1 rfl ?_
      refine z_iload_n C (pc := 16) dJx4a65c_add_72be8_16 3 rfl ?_
      refine z_iconst C (pc := 17) (x := (1 : Int32)) dJx4a65c_add_72be8_17 kic_1 ?_
      refine z_iadd C (pc := 18) dJx4a65c_add_72be8_18 ?_
      obtain ⟨o24, h⟩ := h
      refine z_putI C (pc := 19) kf10 2 (by decide) rfl rfl bw_49 (fun _ _ _ _ h => h) dJx4a65c_add_72be8_19 rfl o24 ?_
      refine z_lt h (fun S25 h => ?_)
      exact z_vret C (pc := 22) T dJx4a65c_add_72be8_22 (by decide) (by decide) h
  · refine z_icmp_ne C (pc := 3) (tgt := 11) dJx4a65c_add_72be8_3 (by decide) h (fun h => ?_) (fun h => ?_)
    · refine z_aload_n C (pc := 11) dJx4a65c_add_72be8_11 2 rfl ?_
      refine z_iload_n C (pc := 12) dJx4a65c_add_72be8_12 3 rfl ?_
      refine z_aload_n C (pc := 13) dJx4a65c_add_72be8_13 1 rfl ?_
      obtain ⟨a28, e29, o30, h⟩ := h
      obtain ⟨v31, h⟩ := h
      obtain ⟨ke, k32, a33, e34, o35, h⟩ := h
      refine z_aastK C (pc := 14) k32 dJx4a65c_add_72be8_14 e29 o30 v31 e34 o35 ?_
      refine z_lt h (fun S36 h => ?_)
      refine z_aload_n C (pc := 15) dJx4a65c_add_72be8_15 0 rfl ?_
      refine z_iload_n C (pc := 16) dJx4a65c_add_72be8_16 3 rfl ?_
      refine z_iconst C (pc := 17) (x := (1 : Int32)) dJx4a65c_add_72be8_17 kic_1 ?_
      refine z_iadd C (pc := 18) dJx4a65c_add_72be8_18 ?_
      obtain ⟨o37, h⟩ := h
      refine z_putI C (pc := 19) kf10 2 (by decide) rfl rfl bw_49 (fun _ _ _ _ h => h) dJx4a65c_add_72be8_19 rfl o37 ?_
      refine z_lt h (fun S38 h => ?_)
      exact z_vret C (pc := 22) T dJx4a65c_add_72be8_22 (by decide) (by decide) h
    · refine z_aload_n C (pc := 6) dJx4a65c_add_72be8_6 0 rfl ?_
      obtain ⟨o39, h⟩ := h
      refine z_Vq C (pc := 7) (KX := fun _ _ => False) (kc' := 1) (ks' := 64) (As := []) (rest := []) rfl (c_Jx4a65c_grow_d5877 l v S x0) mw_Jx4a65c_grow_d5877 bw_427 bw_429 bw_p11 (fit_of rfl) rfl rfl (Nat.le_of_ble_eq_true rfl) (by decide) rfl o39 dJx4a65c_add_72be8_7 h (fun r41 S40 h => ?_) (fun En S9 h => h.elim)
      refine z_astore_n C (pc := 10) (lv' := [(2, va_rf r41), (0, va_rf (some x0)), (1, va_rf x1), (3, .int x3)]) dJx4a65c_add_72be8_10 (by decide) rfl ?_
      refine z_aload_n C (pc := 11) dJx4a65c_add_72be8_11 0 rfl ?_
      refine z_iload_n C (pc := 12) dJx4a65c_add_72be8_12 3 rfl ?_
      refine z_aload_n C (pc := 13) dJx4a65c_add_72be8_13 2 rfl ?_
      obtain ⟨a42, e43, o44, h⟩ := h
      obtain ⟨v45, h⟩ := h
      obtain ⟨ke, k46, a47, e48, o49, h⟩ := h
      refine z_aastK C (pc := 14) k46 dJx4a65c_add_72be8_14 e43 o44 v45 e48 o49 ?_
      refine z_lt h (fun S50 h => ?_)
      refine z_aload_n C (pc := 15) dJx4a65c_add_72be8_15 1 rfl ?_
      refine z_iload_n C (pc := 16) dJx4a65c_add_72be8_16 3 rfl ?_
      refine z_iconst C (pc := 17) (x := (1 : Int32)) dJx4a65c_add_72be8_17 kic_1 ?_
      refine z_iadd C (pc := 18) dJx4a65c_add_72be8_18 ?_
      obtain ⟨o51, h⟩ := h
      refine z_putI C (pc := 19) kf10 2 (by decide) rfl rfl bw_49 (fun _ _ _ _ h => h) dJx4a65c_add_72be8_19 rfl o51 ?_
      refine z_lt h (fun S52 h => ?_)
      exact z_vret C (pc := 22) T dJx4a65c_add_72be8_22 (by decide) (by decide) h
def wp_Jx4a65c_add_9ea2d (S : Hp) (x0 : Nat) (x1 : Option Nat) (Q : Int32 → Hp → Prop) : Prop :=
  okA S 10 x0 ∧ (lt (s_I S 1000 x0 ((g_I S 1000 x0) + (1 : Int32))) (fun S2 => okA S2 10 x0 ∧ (wp_Jx4a65c_add_72be8 S2 x0 x1 (g_P S2 1001 x0) (g_I S2 1002 x0) (fun S4 => bz (1 : Int32) (Q (1 : Int32) S4)))))
def rm_Jx4a65c_add_9ea2d : Room := { frames := 6, cells := 1, slots := 64, locals := 210 }
set_option maxHeartbeats 4000000 in
set_option maxRecDepth 100000 in
theorem c_Jx4a65c_add_9ea2d (l : Launch) (v : Ev) (S : Hp) (x0 : Nat) (x1 : Option Nat) : CI l v yJx4a65c_add_9ea2d cJx4a65c_add_9ea2d 2 (some .boolean) rm_Jx4a65c_add_9ea2d [va_rf (some x0), va_rf x1] S (fun Q _ => wp_Jx4a65c_add_9ea2d S x0 x1 Q) := by
  intro Q EQ h
  refine z_start [(0, va_rf (some x0)), (1, va_rf x1)] (by decide +kernel) (by simp only [la_i, la_r, la_n]) (cat_cr (cat_cr cat_nil)) (by simp only [ls_i, ls_r, ls_n]; decide) (fun z C N T => ?_)
  unfold wp_Jx4a65c_add_9ea2d at h
  refine z_aload_n C (pc := 0) dJx4a65c_add_9ea2d_0 0 rfl ?_
  refine z_dup C (pc := 1) dJx4a65c_add_9ea2d_1 (cat_rf _) ?_
  obtain ⟨o1, h⟩ := h
  refine z_getI C (pc := 2) kf10 0 (by decide) rfl bw_51 (fun s args hts x h => u_same (hts _ bw_52) x h) dJx4a65c_add_9ea2d_2 rfl o1 ?_
  refine z_iconst C (pc := 5) (x := (1 : Int32)) dJx4a65c_add_9ea2d_5 kic_1 ?_
  refine z_iadd C (pc := 6) dJx4a65c_add_9ea2d_6 ?_
  refine z_putI C (pc := 7) kf10 0 (by decide) rfl rfl bw_51 (fun s args hts x h => u_same (hts _ bw_52) x h) dJx4a65c_add_9ea2d_7 rfl o1 ?_
  refine z_lt h (fun S2 h => ?_)
  refine z_aload_n C (pc := 10) dJx4a65c_add_9ea2d_10 0 rfl ?_
  refine z_aload_n C (pc := 11) dJx4a65c_add_9ea2d_11 1 rfl ?_
  refine z_aload_n C (pc := 12) dJx4a65c_add_9ea2d_12 0 rfl ?_
  obtain ⟨o3, h⟩ := h
  refine z_getP C (pc := 13) kf10 1 (by decide) rfl bw_48 (fun _ _ _ _ h => h) dJx4a65c_add_9ea2d_13 rfl o3 ?_
  refine z_aload_n C (pc := 16) dJx4a65c_add_9ea2d_16 0 rfl ?_
  refine z_getI C (pc := 17) kf10 2 (by decide) rfl bw_49 (fun _ _ _ _ h => h) dJx4a65c_add_9ea2d_17 rfl o3 ?_
  refine z_Vv C (pc := 20) (KX := fun _ _ => False) (kc' := 1) (ks' := 64) (As := [va_rf x1, va_rf (g_P S2 1001 x0), .int (g_I S2 1002 x0)]) (rest := []) rfl (c_Jx4a65c_add_72be8 l v S2 x0 x1 (g_P S2 1001 x0) (g_I S2 1002 x0)) mw_Jx4a65c_add_72be8 bw_423 bw_425 bw_p10 (fit_of rfl) rfl rfl (Nat.le_of_ble_eq_true rfl) (by decide) rfl o3 dJx4a65c_add_9ea2d_20 h (fun S4 h => ?_) (fun En S9 h => h.elim)
  refine z_iconst C (pc := 23) (x := (1 : Int32)) dJx4a65c_add_9ea2d_23 kic_1 ?_
  exact z_zret C (pc := 24) T dJx4a65c_add_9ea2d_24 (by decide) (by decide) h
def wp_J3_checkIndex_8e157 (S : Hp) (x0 : Int32) (x1 : Int32) (x2 : Option Nat) (Q : Int32 → Hp → Prop) : Prop :=
  if x0 < 0 then (False) else (if x0 < x1 then (Q x0 S) else (False))
def rm_J3_checkIndex_8e157 : Room := { frames := 0, cells := 0, slots := 0, locals := 0 }
set_option maxHeartbeats 4000000 in
set_option maxRecDepth 100000 in
theorem c_J3_checkIndex_8e157 (l : Launch) (v : Ev) (S : Hp) (x0 : Int32) (x1 : Int32) (x2 : Option Nat) : CI l v yJ3_checkIndex_8e157 cJ3_checkIndex_8e157 3 (some .int) rm_J3_checkIndex_8e157 [.int x0, .int x1, va_rf x2] S (fun Q _ => wp_J3_checkIndex_8e157 S x0 x1 x2 Q) := by
  intro Q EQ h
  refine z_start [(0, .int x0), (1, .int x1), (2, va_rf x2)] (by decide +kernel) (by simp only [la_i, la_r, la_n]) (cat_ci (cat_ci (cat_cr cat_nil))) (by simp only [ls_i, ls_r, ls_n]; decide) (fun z C N T => ?_)
  unfold wp_J3_checkIndex_8e157 at h
  refine z_iload_n C (pc := 0) dJ3_checkIndex_8e157_0 0 rfl ?_
  refine z_if_lt C (pc := 1) (tgt := 9) dJ3_checkIndex_8e157_1 (by decide) h (fun h => ?_) (fun h => ?_)
  · refine z_aload_n C (pc := 9) dJ3_checkIndex_8e157_9 2 rfl ?_
    refine z_iload_n C (pc := 10) dJ3_checkIndex_8e157_10 0 rfl ?_
    refine z_iload_n C (pc := 11) dJ3_checkIndex_8e157_11 1 rfl ?_
    exact h.elim
  · refine z_iload_n C (pc := 4) dJ3_checkIndex_8e157_4 0 rfl ?_
    refine z_iload_n C (pc := 5) dJ3_checkIndex_8e157_5 1 rfl ?_
    refine z_icmp_lt C (pc := 6) (tgt := 16) dJ3_checkIndex_8e157_6 (by decide) h (fun h => ?_) (fun h => ?_)
    · refine z_iload_n C (pc := 16) dJ3_checkIndex_8e157_16 0 rfl ?_
      exact z_iret C (pc := 17) T dJ3_checkIndex_8e157_17 (by decide) (by decide) h
    · refine z_aload_n C (pc := 9) dJ3_checkIndex_8e157_9 2 rfl ?_
      refine z_iload_n C (pc := 10) dJ3_checkIndex_8e157_10 0 rfl ?_
      refine z_iload_n C (pc := 11) dJ3_checkIndex_8e157_11 1 rfl ?_
      exact h.elim
def wp_J15_checkIndex_7cf53 (S : Hp) (x0 : Int32) (x1 : Int32) (Q : Int32 → Hp → Prop) : Prop :=
  wp_J3_checkIndex_8e157 S x0 x1 none (fun r2 S1 => Q r2 S1)
def rm_J15_checkIndex_7cf53 : Room := { frames := 1, cells := 0, slots := 0, locals := 22 }
set_option maxHeartbeats 4000000 in
set_option maxRecDepth 100000 in
theorem c_J15_checkIndex_7cf53 (l : Launch) (v : Ev) (S : Hp) (x0 : Int32) (x1 : Int32) : CI l v yJ15_checkIndex_7cf53 cJ15_checkIndex_7cf53 2 (some .int) rm_J15_checkIndex_7cf53 [.int x0, .int x1] S (fun Q _ => wp_J15_checkIndex_7cf53 S x0 x1 Q) := by
  intro Q EQ h
  refine z_start [(0, .int x0), (1, .int x1)] (by decide +kernel) (by simp only [la_i, la_r, la_n]) (cat_ci (cat_ci cat_nil)) (by simp only [ls_i, ls_r, ls_n]; decide) (fun z C N T => ?_)
  unfold wp_J15_checkIndex_7cf53 at h
  refine z_iload_n C (pc := 0) dJ15_checkIndex_7cf53_0 0 rfl ?_
  refine z_iload_n C (pc := 1) dJ15_checkIndex_7cf53_1 1 rfl ?_
  refine z_null C (pc := 2) dJ15_checkIndex_7cf53_2 ?_
  refine z_Si C (pc := 3) (KX := fun _ _ => False) (kc' := 0) (ks' := 0) (As := [.int x0, .int x1, va_rf none]) (rest := []) (c_J3_checkIndex_8e157 l v S x0 x1 none) mw_J3_checkIndex_8e157 bw_203 bw_204 (fit_of rfl) rfl rfl (Nat.le_of_ble_eq_true rfl) dJ15_checkIndex_7cf53_3 h (fun r2 S1 h => ?_) (fun En S9 h => h.elim)
  exact z_iret C (pc := 6) T dJ15_checkIndex_7cf53_6 (by decide) (by decide) h
def wp_Jx4a65c_elementData_915e3 (S : Hp) (x0 : Nat) (x1 : Int32) (Q : Option Nat → Hp → Prop) : Prop :=
  okA S 10 x0 ∧ (rd S 15 (g_P S 1001 x0) (fun a2 => vp_in x1 (g_N S a2) ∧ (Q (g_O S a2 x1.toNatClampNeg) S)))
def rm_Jx4a65c_elementData_915e3 : Room := { frames := 0, cells := 0, slots := 0, locals := 0 }
set_option maxHeartbeats 4000000 in
set_option maxRecDepth 100000 in
theorem c_Jx4a65c_elementData_915e3 (l : Launch) (v : Ev) (S : Hp) (x0 : Nat) (x1 : Int32) : CQ l v yJx4a65c_elementData_915e3 cJx4a65c_elementData_915e3 2 (some (.object "java/lang/Object")) rm_Jx4a65c_elementData_915e3 [va_rf (some x0), .int x1] S (fun Q _ => wp_Jx4a65c_elementData_915e3 S x0 x1 Q) := by
  intro Q EQ h
  refine z_start [(0, va_rf (some x0)), (1, .int x1)] (by decide +kernel) (by simp only [la_i, la_r, la_n]) (cat_cr (cat_ci cat_nil)) (by simp only [ls_i, ls_r, ls_n]; decide) (fun z C N T => ?_)
  unfold wp_Jx4a65c_elementData_915e3 at h
  refine z_aload_n C (pc := 0) dJx4a65c_elementData_915e3_0 0 rfl ?_
  obtain ⟨o1, h⟩ := h
  refine z_getP C (pc := 1) kf10 1 (by decide) rfl bw_48 (fun _ _ _ _ h => h) dJx4a65c_elementData_915e3_1 rfl o1 ?_
  refine z_iload_n C (pc := 4) dJx4a65c_elementData_915e3_4 1 rfl ?_
  obtain ⟨a2, e3, o4, h⟩ := h
  obtain ⟨v5, h⟩ := h
  refine z_aald C (pc := 5) (κ := 15) (by decide) 4 (fun _ => rfl) dJx4a65c_elementData_915e3_5 e3 o4 v5 ?_
  exact z_aret C (pc := 6) rfl (Or.inl ⟨_, rfl⟩) T dJx4a65c_elementData_915e3_6 (by decide) (by decide) h
def wp_Jx4a65c_get_915e3 (S : Hp) (x0 : Nat) (x1 : Int32) (Q : Option Nat → Hp → Prop) : Prop :=
  okA S 10 x0 ∧ (wp_J15_checkIndex_7cf53 S x1 (g_I S 1002 x0) (fun r3 S2 => okA S2 10 x0 ∧ (wp_Jx4a65c_elementData_915e3 S2 x0 x1 (fun r6 S5 => Q r6 S5))))
def rm_Jx4a65c_get_915e3 : Room := { frames := 2, cells := 0, slots := 0, locals := 43 }
set_option maxHeartbeats 4000000 in
set_option maxRecDepth 100000 in
theorem c_Jx4a65c_get_915e3 (l : Launch) (v : Ev) (S : Hp) (x0 : Nat) (x1 : Int32) : CQ l v yJx4a65c_get_915e3 cJx4a65c_get_915e3 2 (some (.object "java/lang/Object")) rm_Jx4a65c_get_915e3 [va_rf (some x0), .int x1] S (fun Q _ => wp_Jx4a65c_get_915e3 S x0 x1 Q) := by
  intro Q EQ h
  refine z_start [(0, va_rf (some x0)), (1, .int x1)] (by decide +kernel) (by simp only [la_i, la_r, la_n]) (cat_cr (cat_ci cat_nil)) (by simp only [ls_i, ls_r, ls_n]; decide) (fun z C N T => ?_)
  unfold wp_Jx4a65c_get_915e3 at h
  refine z_iload_n C (pc := 0) dJx4a65c_get_915e3_0 1 rfl ?_
  refine z_aload_n C (pc := 1) dJx4a65c_get_915e3_1 0 rfl ?_
  obtain ⟨o1, h⟩ := h
  refine z_getI C (pc := 2) kf10 2 (by decide) rfl bw_49 (fun _ _ _ _ h => h) dJx4a65c_get_915e3_2 rfl o1 ?_
  refine z_Si C (pc := 5) (KX := fun _ _ => False) (kc' := 0) (ks' := 0) (As := [.int x1, .int (g_I S 1002 x0)]) (rest := []) (c_J15_checkIndex_7cf53 l v S x1 (g_I S 1002 x0)) mw_J15_checkIndex_7cf53 bw_200 bw_201 (fit_of rfl) rfl rfl (Nat.le_of_ble_eq_true rfl) dJx4a65c_get_915e3_5 h (fun r3 S2 h => ?_) (fun En S9 h => h.elim)
  refine z_pop C (pc := 8) dJx4a65c_get_915e3_8 rfl ?_
  refine z_aload_n C (pc := 9) dJx4a65c_get_915e3_9 0 rfl ?_
  refine z_iload_n C (pc := 10) dJx4a65c_get_915e3_10 1 rfl ?_
  obtain ⟨o4, h⟩ := h
  refine z_Vq C (pc := 11) (KX := fun _ _ => False) (kc' := 0) (ks' := 0) (As := [.int x1]) (rest := []) rfl (c_Jx4a65c_elementData_915e3 l v S2 x0 x1) mw_Jx4a65c_elementData_915e3 bw_206 bw_207 bw_208 (fit_of rfl) rfl rfl (Nat.le_of_ble_eq_true rfl) (by decide) rfl o4 dJx4a65c_get_915e3_11 h (fun r6 S5 h => ?_) (fun En S9 h => h.elim)
  exact z_aret C (pc := 14) rfl (Or.inl ⟨_, rfl⟩) T dJx4a65c_get_915e3_14 (by decide) (by decide) h
def wp_J6_bitCount_0f7a4 (S : Hp) (x0 : Int32) (Q : Int32 → Hp → Prop) : Prop :=
  lt (x0 - (((x0.toUInt32 >>> ((1 : Int32).toUInt32 &&& Int32.toUInt32 31)).toInt32) &&& (1431655765 : Int32))) (fun y1 => lt ((y1 &&& (858993459 : Int32)) + (((y1.toUInt32 >>> ((2 : Int32).toUInt32 &&& Int32.toUInt32 31)).toInt32) &&& (858993459 : Int32))) (fun y2 => lt ((y2 + ((y2.toUInt32 >>> ((4 : Int32).toUInt32 &&& Int32.toUInt32 31)).toInt32)) &&& (252645135 : Int32)) (fun y3 => lt (y3 + ((y3.toUInt32 >>> ((8 : Int32).toUInt32 &&& Int32.toUInt32 31)).toInt32)) (fun y4 => lt (y4 + ((y4.toUInt32 >>> ((16 : Int32).toUInt32 &&& Int32.toUInt32 31)).toInt32)) (fun y5 => Q (y5 &&& (63 : Int32)) S)))))
def rm_J6_bitCount_0f7a4 : Room := { frames := 0, cells := 0, slots := 0, locals := 0 }
set_option maxHeartbeats 4000000 in
set_option maxRecDepth 100000 in
theorem c_J6_bitCount_0f7a4 (l : Launch) (v : Ev) (S : Hp) (x0 : Int32) : CI l v yJ6_bitCount_0f7a4 cJ6_bitCount_0f7a4 1 (some .int) rm_J6_bitCount_0f7a4 [.int x0] S (fun Q _ => wp_J6_bitCount_0f7a4 S x0 Q) := by
  intro Q EQ h
  refine z_start [(0, .int x0)] (by decide +kernel) (by simp only [la_i, la_r, la_n]) (cat_ci cat_nil) (by simp only [ls_i, ls_r, ls_n]; decide) (fun z C N T => ?_)
  unfold wp_J6_bitCount_0f7a4 at h
  refine z_iload_n C (pc := 0) dJ6_bitCount_0f7a4_0 0 rfl ?_
  refine z_iload_n C (pc := 1) dJ6_bitCount_0f7a4_1 0 rfl ?_
  refine z_iconst C (pc := 2) (x := (1 : Int32)) dJ6_bitCount_0f7a4_2 kic_1 ?_
  refine z_iushr C (pc := 3) dJ6_bitCount_0f7a4_3 ?_
  refine z_ldcw C (pc := 4) (x := (1431655765 : Int32)) dJ6_bitCount_0f7a4_4 bw_361 ?_
  refine z_iand C (pc := 7) dJ6_bitCount_0f7a4_7 ?_
  refine z_isub C (pc := 8) dJ6_bitCount_0f7a4_8 ?_
  refine z_nI h (fun y1 h => ?_)
  refine z_istore_n C (pc := 9) (lv' := [(0, .int y1)]) dJ6_bitCount_0f7a4_9 (by decide) rfl ?_
  refine z_iload_n C (pc := 10) dJ6_bitCount_0f7a4_10 0 rfl ?_
  refine z_ldcw C (pc := 11) (x := (858993459 : Int32)) dJ6_bitCount_0f7a4_11 bw_362 ?_
  refine z_iand C (pc := 14) dJ6_bitCount_0f7a4_14 ?_
  refine z_iload_n C (pc := 15) dJ6_bitCount_0f7a4_15 0 rfl ?_
  refine z_iconst C (pc := 16) (x := (2 : Int32)) dJ6_bitCount_0f7a4_16 kic_2 ?_
  refine z_iushr C (pc := 17) dJ6_bitCount_0f7a4_17 ?_
  refine z_ldcw C (pc := 18) (x := (858993459 : Int32)) dJ6_bitCount_0f7a4_18 bw_362 ?_
  refine z_iand C (pc := 21) dJ6_bitCount_0f7a4_21 ?_
  refine z_iadd C (pc := 22) dJ6_bitCount_0f7a4_22 ?_
  refine z_nI h (fun y2 h => ?_)
  refine z_istore_n C (pc := 23) (lv' := [(0, .int y2)]) dJ6_bitCount_0f7a4_23 (by decide) rfl ?_
  refine z_iload_n C (pc := 24) dJ6_bitCount_0f7a4_24 0 rfl ?_
  refine z_iload_n C (pc := 25) dJ6_bitCount_0f7a4_25 0 rfl ?_
  refine z_iconst C (pc := 26) (x := (4 : Int32)) dJ6_bitCount_0f7a4_26 kic_4 ?_
  refine z_iushr C (pc := 27) dJ6_bitCount_0f7a4_27 ?_
  refine z_iadd C (pc := 28) dJ6_bitCount_0f7a4_28 ?_
  refine z_ldcw C (pc := 29) (x := (252645135 : Int32)) dJ6_bitCount_0f7a4_29 bw_363 ?_
  refine z_iand C (pc := 32) dJ6_bitCount_0f7a4_32 ?_
  refine z_nI h (fun y3 h => ?_)
  refine z_istore_n C (pc := 33) (lv' := [(0, .int y3)]) dJ6_bitCount_0f7a4_33 (by decide) rfl ?_
  refine z_iload_n C (pc := 34) dJ6_bitCount_0f7a4_34 0 rfl ?_
  refine z_iload_n C (pc := 35) dJ6_bitCount_0f7a4_35 0 rfl ?_
  refine z_bipush C (pc := 36) (x := (8 : Int32)) dJ6_bitCount_0f7a4_36 kbp_8 ?_
  refine z_iushr C (pc := 38) dJ6_bitCount_0f7a4_38 ?_
  refine z_iadd C (pc := 39) dJ6_bitCount_0f7a4_39 ?_
  refine z_nI h (fun y4 h => ?_)
  refine z_istore_n C (pc := 40) (lv' := [(0, .int y4)]) dJ6_bitCount_0f7a4_40 (by decide) rfl ?_
  refine z_iload_n C (pc := 41) dJ6_bitCount_0f7a4_41 0 rfl ?_
  refine z_iload_n C (pc := 42) dJ6_bitCount_0f7a4_42 0 rfl ?_
  refine z_bipush C (pc := 43) (x := (16 : Int32)) dJ6_bitCount_0f7a4_43 kbp_16 ?_
  refine z_iushr C (pc := 45) dJ6_bitCount_0f7a4_45 ?_
  refine z_iadd C (pc := 46) dJ6_bitCount_0f7a4_46 ?_
  refine z_nI h (fun y5 h => ?_)
  refine z_istore_n C (pc := 47) (lv' := [(0, .int y5)]) dJ6_bitCount_0f7a4_47 (by decide) rfl ?_
  refine z_iload_n C (pc := 48) dJ6_bitCount_0f7a4_48 0 rfl ?_
  refine z_bipush C (pc := 49) (x := (63 : Int32)) dJ6_bitCount_0f7a4_49 kbp_63 ?_
  refine z_iand C (pc := 51) dJ6_bitCount_0f7a4_51 ?_
  exact z_iret C (pc := 52) T dJ6_bitCount_0f7a4_52 (by decide) (by decide) h
