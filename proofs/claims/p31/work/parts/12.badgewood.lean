def wp_X8_init_L59 (f0 : Nat) (Q : Hp → Prop) : Nat → Hp → Int32 → Prop
  | 0, _, _ => False
  | n + 1, S, w1 => okA S 8 f0 ∧ (rd S 13 (g_P S 804 f0) (fun a26 => if (Int32.ofNat (g_N S a26)) ≤ w1 then (lt (s_I S 805 f0 (0 : Int32)) (fun S29 => okA S29 8 f0 ∧ (lt (s_I S29 806 f0 (0 : Int32)) (fun S31 => Q S31)))) else ((∀ a32, a32 ∉ g_L S → lt (n_O 0 S a32) (fun S33 => wp_X0_init S33 a32 (fun S34 => rd S34 13 (g_P S 804 f0) (fun a35 => vp_in w1 (g_N S34 a35) ∧ (okA S34 0 a32 ∧ (lt (s_O S34 a35 w1.toNatClampNeg (some a32)) (fun S40 => wp_X8_init_L59 f0 Q n S40 (w1 + (1 : Int32))))))))))))
def wp_X8_init (S : Hp) (x0 : Nat) (Q : Hp → Prop) : Prop :=
  (∀ a1, a1 ∉ g_L S → lt (n_O 10 S a1) (fun S2 => wp_Jx4a65c_init_da8c8 S2 a1 (fun S3 => okA S3 8 x0 ∧ (lt (s_P S3 800 x0 (some a1)) (fun S5 => (∀ a6, a6 ∉ g_L S5 → lt (n_O 10 S5 a6) (fun S7 => wp_Jx4a65c_init_da8c8 S7 a6 (fun S8 => okA S8 8 x0 ∧ (lt (s_P S8 801 x0 (some a6)) (fun S10 => (∀ a11, a11 ∉ g_L S10 → lt (n_O 10 S10 a11) (fun S12 => wp_Jx4a65c_init_da8c8 S12 a11 (fun S13 => okA S13 8 x0 ∧ (lt (s_P S13 802 x0 (some a11)) (fun S15 => (∀ a16, a16 ∉ g_L S15 → lt (n_O 10 S15 a16) (fun S17 => wp_Jx4a65c_init_da8c8 S17 a16 (fun S18 => okA S18 8 x0 ∧ (lt (s_P S18 803 x0 (some a16)) (fun S20 => (∀ a21, a21 ∉ g_L S20 → a21 ≠ g_T S20 → lt (n_A 13 S20 a21 8) (fun S22 => okA S22 8 x0 ∧ (lt (s_P S22 804 x0 (some a21)) (fun S24 => ∃ n41, n41 ≤ 9 ∧ wp_X8_init_L59 x0 Q n41 S24 (0 : Int32)))))))))))))))))))))))))
def rm_X8_init : Room := { frames := 5, cells := 23, slots := 56, locals := 92 }
set_option maxHeartbeats 4000000 in
set_option maxRecDepth 100000 in
theorem l_X8_init_L59 (l : Launch) (v : Ev) (f0 : Nat) (Q : Hp → Prop) {EQ : String → Hp → Prop} {z : Z9} (C : Cx l v RX8 cX8_init 2 none "<init>" z) (N : NT z) (T : EE v rm_X8_init (QV v Q) EQ z) : ∀ (n : Nat) (S : Hp) (w1 : Int32) (hn : n ≤ 9), wp_X8_init_L59 f0 Q n S w1 → ZZ l v 2 rm_X8_init z (23 - n * 2) (56 - n * 4) S 59 [(0, va_rf (some f0)), (1, .int w1)] [] := by
  intro n
  induction n with
  | zero =>
    intro S w1 hn h
    exact h.elim
  | succ n ih =>
    intro S w1 hn h
    unfold wp_X8_init_L59 at h
    obtain ⟨B, hB⟩ : ∃ B, B = 23 - (n + 1) * 2 := ⟨_, rfl⟩
    obtain ⟨B2, hB2⟩ : ∃ B2, B2 = 56 - (n + 1) * 4 := ⟨_, rfl⟩
    have hR : rm_X8_init.cells = 23 := rfl
    have hR2 : rm_X8_init.slots = 56 := rfl
    rw [← hB, ← hB2]
    refine z_wide (kc' := B + 0) (ks' := B2 + 0) (Nat.le_refl _) (Nat.le_refl _) ?_
    refine z_iload_n C (pc := 59) dX8_init_59 1 rfl ?_
    refine z_aload_n C (pc := 60) dX8_init_60 0 rfl ?_
    obtain ⟨o25, h⟩ := h
    refine z_getP C (pc := 61) kf8 4 (by decide) rfl bw_78 (fun _ _ _ _ h => h) dX8_init_61 rfl o25 ?_
    obtain ⟨a26, e27, o28, h⟩ := h
    refine z_alen C (pc := 64) (κ := 13) (by decide) 2 (.object "Badgewood$Badge") (fun _ => rfl) dX8_init_64 e27 o28 ?_
    refine z_icmp_ge C (pc := 65) (tgt := 87) dX8_init_65 (by decide) h (fun h => ?_) (fun h => ?_)
    · refine z_aload_n C (pc := 87) dX8_init_87 0 rfl ?_
      refine z_iconst C (pc := 88) (x := (0 : Int32)) dX8_init_88 kic_0 ?_
      refine z_putI C (pc := 89) kf8 5 (by decide) rfl rfl bw_79 (fun _ _ _ _ h => h) dX8_init_89 rfl o25 ?_
      refine z_lt h (fun S29 h => ?_)
      refine z_aload_n C (pc := 92) dX8_init_92 0 rfl ?_
      refine z_iconst C (pc := 93) (x := (0 : Int32)) dX8_init_93 kic_0 ?_
      obtain ⟨o30, h⟩ := h
      refine z_putI C (pc := 94) kf8 6 (by decide) rfl rfl bw_80 (fun _ _ _ _ h => h) dX8_init_94 rfl o30 ?_
      refine z_lt h (fun S31 h => ?_)
      exact z_vret C (pc := 97) T dX8_init_97 (by omega) (by omega) h
    · refine z_aload_n C (pc := 68) dX8_init_68 0 rfl ?_
      refine z_getP C (pc := 69) kf8 4 (by decide) rfl bw_78 (fun _ _ _ _ h => h) dX8_init_69 rfl o25 ?_
      refine z_iload_n C (pc := 72) dX8_init_72 1 rfl ?_
      refine z_new C (pc := 73) (kc' := (B + 1)) (ks' := (B2 + 1)) kf0 bw_60 bw_62 bw_5 dX8_init_73 (by omega) (by omega) (by omega) (by omega) h (fun a32 S33 h => ?_)
      refine z_dup C (pc := 76) dX8_init_76 (cat_rf _) ?_
      refine z_IN C (pc := 77) (KX := fun _ _ => False) (kc' := (B + 2)) (ks' := (B2 + 4)) (As := []) (rest := [va_rf (some a32), .int w1, va_rf (g_P S 804 f0)]) (c_X0_init l v S33 a32) mw_X0_init nw_63 bw_64 rfl ⟨by have h9 : rm_X0_init.cells = 1 := rfl; omega, by omega, by have h9 : rm_X0_init.slots = 3 := rfl; omega, by omega, by decide, by decide⟩ rfl rfl (Nat.le_of_ble_eq_true rfl) dX8_init_77 h (fun S34 h => ?_) (fun En S9 h => h.elim)
      obtain ⟨a35, e36, o37, h⟩ := h
      obtain ⟨v38, h⟩ := h
      obtain ⟨o39, h⟩ := h
      refine z_aast C (pc := 80) (κ := 13) (ci := 0) (by decide) 2 (fun _ => rfl) (by decide) rfl (Or.inr rfl) dX8_init_80 e36 o37 v38 rfl o39 ?_
      refine z_lt h (fun S40 h => ?_)
      refine z_iinc C (pc := 81) (y := w1 + (1 : Int32)) (lv' := [(1, .int (w1 + (1 : Int32))), (0, va_rf (some f0))]) dX8_init_81 1 rfl rfl (by decide) rfl ?_
      refine z_goto C (pc := 84) (tgt := 59) dX8_init_84 (by decide) ?_
      refine z_sub [1, 0] (lv' := [(0, va_rf (some f0)), (1, .int (w1 + (1 : Int32)))]) rfl ?_
      refine z_wide (kc' := 23 - n * 2) (ks' := 56 - n * 4) (by omega) (by omega) ?_
      exact ih S40 (w1 + (1 : Int32)) (by omega) h
set_option maxHeartbeats 4000000 in
set_option maxRecDepth 100000 in
theorem c_X8_init (l : Launch) (v : Ev) (S : Hp) (x0 : Nat) : CV l v yX8_init cX8_init 2 none rm_X8_init [va_rf (some x0)] S (fun Q _ => wp_X8_init S x0 Q) := by
  intro Q EQ h
  refine z_start [(0, va_rf (some x0))] (by decide +kernel) (by simp only [la_i, la_r, la_n]) (cat_cr cat_nil) (by simp only [ls_i, ls_r, ls_n]; decide) (fun z C N T => ?_)
  unfold wp_X8_init at h
  refine z_aload_n C (pc := 0) dX8_init_0 0 rfl ?_
  refine z_obj C (pc := 1) bw_31 bw_oi bw_oc ⟨by decide, Nat.le_of_ble_eq_true rfl⟩ dX8_init_1 ?_
  refine z_aload_n C (pc := 4) dX8_init_4 0 rfl ?_
  refine z_new C (pc := 5) (kc' := 1) (ks' := 3) kf10 bw_34 bw_35 bw_4 dX8_init_5 (by decide) (by decide) (by decide) (by decide) h (fun a1 S2 h => ?_)
  refine z_dup C (pc := 8) dX8_init_8 (cat_rf _) ?_
  refine z_I C (pc := 9) (KX := fun _ _ => False) (kc' := 1) (ks' := 3) (As := []) (rest := [va_rf (some a1), va_rf (some x0)]) (c_Jx4a65c_init_da8c8 l v S2 a1) mw_Jx4a65c_init_da8c8 bw_36 bw_37 rfl (fit_of rfl) rfl rfl (Nat.le_of_ble_eq_true rfl) dX8_init_9 h (fun S3 h => ?_) (fun En S9 h => h.elim)
  obtain ⟨o4, h⟩ := h
  refine z_putFP C (pc := 12) kf8 0 (by decide) rfl rfl rfl rfl bw_74 (fun _ _ _ _ h => h) dX8_init_12 rfl o4 ?_
  refine z_lt h (fun S5 h => ?_)
  refine z_aload_n C (pc := 15) dX8_init_15 0 rfl ?_
  refine z_new C (pc := 16) (kc' := 2) (ks' := 6) kf10 bw_34 bw_35 bw_4 dX8_init_16 (by decide) (by decide) (by decide) (by decide) h (fun a6 S7 h => ?_)
  refine z_dup C (pc := 19) dX8_init_19 (cat_rf _) ?_
  refine z_I C (pc := 20) (KX := fun _ _ => False) (kc' := 2) (ks' := 6) (As := []) (rest := [va_rf (some a6), va_rf (some x0)]) (c_Jx4a65c_init_da8c8 l v S7 a6) mw_Jx4a65c_init_da8c8 bw_36 bw_37 rfl (fit_of rfl) rfl rfl (Nat.le_of_ble_eq_true rfl) dX8_init_20 h (fun S8 h => ?_) (fun En S9 h => h.elim)
  obtain ⟨o9, h⟩ := h
  refine z_putFP C (pc := 23) kf8 1 (by decide) rfl rfl rfl rfl bw_75 (fun _ _ _ _ h => h) dX8_init_23 rfl o9 ?_
  refine z_lt h (fun S10 h => ?_)
  refine z_aload_n C (pc := 26) dX8_init_26 0 rfl ?_
  refine z_new C (pc := 27) (kc' := 3) (ks' := 9) kf10 bw_34 bw_35 bw_4 dX8_init_27 (by decide) (by decide) (by decide) (by decide) h (fun a11 S12 h => ?_)
  refine z_dup C (pc := 30) dX8_init_30 (cat_rf _) ?_
  refine z_I C (pc := 31) (KX := fun _ _ => False) (kc' := 3) (ks' := 9) (As := []) (rest := [va_rf (some a11), va_rf (some x0)]) (c_Jx4a65c_init_da8c8 l v S12 a11) mw_Jx4a65c_init_da8c8 bw_36 bw_37 rfl (fit_of rfl) rfl rfl (Nat.le_of_ble_eq_true rfl) dX8_init_31 h (fun S13 h => ?_) (fun En S9 h => h.elim)
  obtain ⟨o14, h⟩ := h
  refine z_putFP C (pc := 34) kf8 2 (by decide) rfl rfl rfl rfl bw_76 (fun _ _ _ _ h => h) dX8_init_34 rfl o14 ?_
  refine z_lt h (fun S15 h => ?_)
  refine z_aload_n C (pc := 37) dX8_init_37 0 rfl ?_
  refine z_new C (pc := 38) (kc' := 4) (ks' := 12) kf10 bw_34 bw_35 bw_4 dX8_init_38 (by decide) (by decide) (by decide) (by decide) h (fun a16 S17 h => ?_)
  refine z_dup C (pc := 41) dX8_init_41 (cat_rf _) ?_
  refine z_I C (pc := 42) (KX := fun _ _ => False) (kc' := 4) (ks' := 12) (As := []) (rest := [va_rf (some a16), va_rf (some x0)]) (c_Jx4a65c_init_da8c8 l v S17 a16) mw_Jx4a65c_init_da8c8 bw_36 bw_37 rfl (fit_of rfl) rfl rfl (Nat.le_of_ble_eq_true rfl) dX8_init_42 h (fun S18 h => ?_) (fun En S9 h => h.elim)
  obtain ⟨o19, h⟩ := h
  refine z_putFP C (pc := 45) kf8 3 (by decide) rfl rfl rfl rfl bw_77 (fun _ _ _ _ h => h) dX8_init_45 rfl o19 ?_
  refine z_lt h (fun S20 h => ?_)
  refine z_aload_n C (pc := 48) dX8_init_48 0 rfl ?_
  refine z_bipush C (pc := 49) (x := (8 : Int32)) dX8_init_49 kbp_8 ?_
  refine z_anew C (pc := 51) (kc' := 5) (ks' := 20) (lim := 8) (κ := 13) (by decide) 2 (fun _ => rfl) bw_60 nw_61 dX8_init_51 (by decide) (by decide) (by decide) (by decide) (by decide) ⟨by decide, by decide, h⟩ (fun a21 S22 h => ?_)
  obtain ⟨o23, h⟩ := h
  refine z_putFP C (pc := 54) kf8 4 (by decide) rfl rfl rfl rfl bw_78 (fun _ _ _ _ h => h) dX8_init_54 rfl o23 ?_
  refine z_lt h (fun S24 h => ?_)
  refine z_iconst C (pc := 57) (x := (0 : Int32)) dX8_init_57 kic_0 ?_
  refine z_istore_n C (pc := 58) (lv' := [(1, .int (0 : Int32)), (0, va_rf (some x0))]) dX8_init_58 (by decide) rfl ?_
  obtain ⟨n41, hn9, h⟩ := h
  refine z_wide (kc' := 23 - n41 * 2) (ks' := 56 - n41 * 4) (by omega) (by omega) ?_
  refine z_sub [1, 0] (lv' := [(0, va_rf (some x0)), (1, .int (0 : Int32))]) rfl ?_
  exact l_X8_init_L59 l v x0 Q C N T n41 S24 (0 : Int32) hn9 h
def wp_X8_requireRange (S : Hp) (x0 : Int32) (x1 : Int32) (x2 : Int32) (Q : Hp → Prop) (EQ : String → Hp → Prop) : Prop :=
  if x0 < x1 then (EQ "java/lang/IllegalArgumentException" S) else (if x0 ≤ x2 then (Q S) else (EQ "java/lang/IllegalArgumentException" S))
def rm_X8_requireRange : Room := { frames := 6, cells := 1, slots := 6, locals := 82 }
set_option maxHeartbeats 4000000 in
set_option maxRecDepth 100000 in
theorem c_X8_requireRange (l : Launch) (hfl : l.stackTraces = false) (v : Ev) (S : Hp) (x0 : Int32) (x1 : Int32) (x2 : Int32) : CV l v yX8_requireRange cX8_requireRange 3 none rm_X8_requireRange [.int x0, .int x1, .int x2] S (fun Q EQ => wp_X8_requireRange S x0 x1 x2 Q EQ) := by
  intro Q EQ h
  refine z_start [(0, .int x0), (1, .int x1), (2, .int x2)] (by decide +kernel) (by simp only [la_i, la_r, la_n]) (cat_ci (cat_ci (cat_ci cat_nil))) (by simp only [ls_i, ls_r, ls_n]; decide) (fun z C N T => ?_)
  unfold wp_X8_requireRange at h
  refine z_iload_n C (pc := 0) dX8_requireRange_0 0 rfl ?_
  refine z_iload_n C (pc := 1) dX8_requireRange_1 1 rfl ?_
  refine z_icmp_lt C (pc := 2) (tgt := 10) dX8_requireRange_2 (by decide) h (fun h => ?_) (fun h => ?_)
  · exact z_throwW C (pc := 10) (text := "an argument is out of its range") (names := ["java/lang/RuntimeException", "java/lang/Exception"]) hfl T N ft_IllegalArgumentException bw_224 bw_9 st_X8_303 at_X8_179 go_X8_179 ⟨by decide +kernel, by decide +kernel⟩ dX8_requireRange_10 dX8_requireRange_13 dX8_requireRange_14 dX8_requireRange_17 dX8_requireRange_20 ⟨by decide, Nat.le_of_ble_eq_true rfl, by decide, by decide⟩ h
  · refine z_iload_n C (pc := 5) dX8_requireRange_5 0 rfl ?_
    refine z_iload_n C (pc := 6) dX8_requireRange_6 2 rfl ?_
    refine z_icmp_le C (pc := 7) (tgt := 21) dX8_requireRange_7 (by decide) h (fun h => ?_) (fun h => ?_)
    · exact z_vret C (pc := 21) T dX8_requireRange_21 (by decide) (by decide) h
    · exact z_throwW C (pc := 10) (text := "an argument is out of its range") (names := ["java/lang/RuntimeException", "java/lang/Exception"]) hfl T N ft_IllegalArgumentException bw_224 bw_9 st_X8_303 at_X8_179 go_X8_179 ⟨by decide +kernel, by decide +kernel⟩ dX8_requireRange_10 dX8_requireRange_13 dX8_requireRange_14 dX8_requireRange_17 dX8_requireRange_20 ⟨by decide, Nat.le_of_ble_eq_true rfl, by decide, by decide⟩ h
def wp_X8_requireRoom (S : Hp) (x0 : Int32) (x1 : Int32) (Q : Hp → Prop) (EQ : String → Hp → Prop) : Prop :=
  if x0 < x1 then (Q S) else (EQ "java/lang/IllegalStateException" S)
def rm_X8_requireRoom : Room := { frames := 6, cells := 1, slots := 6, locals := 82 }
set_option maxHeartbeats 4000000 in
set_option maxRecDepth 100000 in
theorem c_X8_requireRoom (l : Launch) (hfl : l.stackTraces = false) (v : Ev) (S : Hp) (x0 : Int32) (x1 : Int32) : CV l v yX8_requireRoom cX8_requireRoom 2 none rm_X8_requireRoom [.int x0, .int x1] S (fun Q EQ => wp_X8_requireRoom S x0 x1 Q EQ) := by
  intro Q EQ h
  refine z_start [(0, .int x0), (1, .int x1)] (by decide +kernel) (by simp only [la_i, la_r, la_n]) (cat_ci (cat_ci cat_nil)) (by simp only [ls_i, ls_r, ls_n]; decide) (fun z C N T => ?_)
  unfold wp_X8_requireRoom at h
  refine z_iload_n C (pc := 0) dX8_requireRoom_0 0 rfl ?_
  refine z_iload_n C (pc := 1) dX8_requireRoom_1 1 rfl ?_
  refine z_icmp_lt C (pc := 2) (tgt := 16) dX8_requireRoom_2 (by decide) h (fun h => ?_) (fun h => ?_)
  · exact z_vret C (pc := 16) T dX8_requireRoom_16 (by decide) (by decide) h
  · exact z_throwW C (pc := 5) (text := "there are as many as there may be") (names := ["java/lang/RuntimeException", "java/lang/Exception"]) hfl T N ft_IllegalStateException bw_383 bw_10 st_X8_305 at_X8_82 go_X8_82 ⟨by decide +kernel, by decide +kernel⟩ dX8_requireRoom_5 dX8_requireRoom_8 dX8_requireRoom_9 dX8_requireRoom_12 dX8_requireRoom_15 ⟨by decide, Nat.le_of_ble_eq_true rfl, by decide, by decide⟩ h
def wp_X8_troop (S : Hp) (x0 : Nat) (x1 : Int32) (x2 : Int32) (x3 : Int32) (Q : Int32 → Hp → Prop) (EQ : String → Hp → Prop) : Prop :=
  wp_X8_requireRange S x1 (5 : Int32) (20 : Int32) (fun S1 => wp_X8_requireRange S1 x2 x1 (20 : Int32) (fun S2 => wp_X8_requireRange S2 x3 (1 : Int32) (12 : Int32) (fun S3 => okA S3 8 x0 ∧ (rd S3 10 (g_P S3 800 x0) (fun a5 => wp_Jx4a65c_size_8abf5 S3 a5 (fun r9 S8 => wp_X8_requireRoom S8 r9 (6 : Int32) (fun S10 => okA S10 8 x0 ∧ (rd S10 10 (g_P S10 800 x0) (fun a12 => wp_Jx4a65c_size_8abf5 S10 a12 (fun r16 S15 => okA S15 8 x0 ∧ ((∀ a18, a18 ∉ g_L S15 → lt (n_O 7 S15 a18) (fun S19 => wp_X7_init S19 a18 r16 x1 x2 x3 (fun S20 => rd S20 10 (g_P S15 800 x0) (fun a21 => wp_Jx4a65c_add_9ea2d S20 a21 (some a18) (fun r25 S24 => Q r16 S24)))))))))) EQ)))) EQ) EQ) EQ
def rm_X8_troop : Room := { frames := 7, cells := 6, slots := 92, locals := 231 }
set_option maxHeartbeats 4000000 in
set_option maxRecDepth 100000 in
theorem c_X8_troop (l : Launch) (hfl : l.stackTraces = false) (v : Ev) (S : Hp) (x0 : Nat) (x1 : Int32) (x2 : Int32) (x3 : Int32) : CI l v yX8_troop cX8_troop 5 (some .int) rm_X8_troop [va_rf (some x0), .int x1, .int x2, .int x3] S (fun Q EQ => wp_X8_troop S x0 x1 x2 x3 Q EQ) := by
  intro Q EQ h
  refine z_start [(0, va_rf (some x0)), (1, .int x1), (2, .int x2), (3, .int x3)] (by decide +kernel) (by simp only [la_i, la_r, la_n]) (cat_cr (cat_ci (cat_ci (cat_ci cat_nil)))) (by simp only [ls_i, ls_r, ls_n]; decide) (fun z C N T => ?_)
  unfold wp_X8_troop at h
  refine z_iload_n C (pc := 0) dX8_troop_0 1 rfl ?_
  refine z_iconst C (pc := 1) (x := (5 : Int32)) dX8_troop_1 kic_5 ?_
  refine z_bipush C (pc := 2) (x := (20 : Int32)) dX8_troop_2 kbp_20 ?_
  refine z_Sv C (pc := 4) (kc' := 1) (ks' := 6) (As := [.int x1, .int (5 : Int32), .int (20 : Int32)]) (rest := []) (c_X8_requireRange l hfl v S x1 (5 : Int32) (20 : Int32)) mw_X8_requireRange bw_281 bw_282 (fit_of rfl) rfl rfl (Nat.le_of_ble_eq_true rfl) dX8_troop_4 h (fun S1 h => ?_) (fun En S9 h => z_out C T N (by decide) (by decide) h)
  refine z_iload_n C (pc := 7) dX8_troop_7 2 rfl ?_
  refine z_iload_n C (pc := 8) dX8_troop_8 1 rfl ?_
  refine z_bipush C (pc := 9) (x := (20 : Int32)) dX8_troop_9 kbp_20 ?_
  refine z_Sv C (pc := 11) (kc' := 2) (ks' := 12) (As := [.int x2, .int x1, .int (20 : Int32)]) (rest := []) (c_X8_requireRange l hfl v S1 x2 x1 (20 : Int32)) mw_X8_requireRange bw_281 bw_282 (fit_of rfl) rfl rfl (Nat.le_of_ble_eq_true rfl) dX8_troop_11 h (fun S2 h => ?_) (fun En S9 h => z_out C T N (by decide) (by decide) h)
  refine z_iload_n C (pc := 14) dX8_troop_14 3 rfl ?_
  refine z_iconst C (pc := 15) (x := (1 : Int32)) dX8_troop_15 kic_1 ?_
  refine z_bipush C (pc := 16) (x := (12 : Int32)) dX8_troop_16 kbp_12 ?_
  refine z_Sv C (pc := 18) (kc' := 3) (ks' := 18) (As := [.int x3, .int (1 : Int32), .int (12 : Int32)]) (rest := []) (c_X8_requireRange l hfl v S2 x3 (1 : Int32) (12 : Int32)) mw_X8_requireRange bw_281 bw_282 (fit_of rfl) rfl rfl (Nat.le_of_ble_eq_true rfl) dX8_troop_18 h (fun S3 h => ?_) (fun En S9 h => z_out C T N (by decide) (by decide) h)
  refine z_aload_n C (pc := 21) dX8_troop_21 0 rfl ?_
  obtain ⟨o4, h⟩ := h
  refine z_getP C (pc := 22) kf8 0 (by decide) rfl bw_74 (fun _ _ _ _ h => h) dX8_troop_22 rfl o4 ?_
  obtain ⟨a5, e6, o7, h⟩ := h
  refine z_Vi C (pc := 25) (KX := fun _ _ => False) (kc' := 3) (ks' := 18) (As := []) (rest := []) e6 (c_Jx4a65c_size_8abf5 l v S3 a5) mw_Jx4a65c_size_8abf5 bw_121 bw_122 bw_123 (fit_of rfl) rfl rfl (Nat.le_of_ble_eq_true rfl) (by decide) rfl o7 dX8_troop_25 h (fun r9 S8 h => ?_) (fun En S9 h => h.elim)
  refine z_bipush C (pc := 28) (x := (6 : Int32)) dX8_troop_28 kbp_6 ?_
  refine z_Sv C (pc := 30) (kc' := 4) (ks' := 24) (As := [.int r9, .int (6 : Int32)]) (rest := []) (c_X8_requireRoom l hfl v S8 r9 (6 : Int32)) mw_X8_requireRoom bw_380 bw_381 (fit_of rfl) rfl rfl (Nat.le_of_ble_eq_true rfl) dX8_troop_30 h (fun S10 h => ?_) (fun En S9 h => z_out C T N (by decide) (by decide) h)
  refine z_aload_n C (pc := 33) dX8_troop_33 0 rfl ?_
  obtain ⟨o11, h⟩ := h
  refine z_getP C (pc := 34) kf8 0 (by decide) rfl bw_74 (fun _ _ _ _ h => h) dX8_troop_34 rfl o11 ?_
  obtain ⟨a12, e13, o14, h⟩ := h
  refine z_Vi C (pc := 37) (KX := fun _ _ => False) (kc' := 4) (ks' := 24) (As := []) (rest := []) e13 (c_Jx4a65c_size_8abf5 l v S10 a12) mw_Jx4a65c_size_8abf5 bw_121 bw_122 bw_123 (fit_of rfl) rfl rfl (Nat.le_of_ble_eq_true rfl) (by decide) rfl o14 dX8_troop_37 h (fun r16 S15 h => ?_) (fun En S9 h => h.elim)
  refine z_istore C (pc := 40) (lv' := [(4, .int r16), (0, va_rf (some x0)), (1, .int x1), (2, .int x2), (3, .int x3)]) dX8_troop_40 (by decide) rfl ?_
  refine z_aload_n C (pc := 42) dX8_troop_42 1 rfl ?_
  obtain ⟨o17, h⟩ := h
  refine z_getP C (pc := 43) kf8 0 (by decide) rfl bw_74 (fun _ _ _ _ h => h) dX8_troop_43 rfl o17 ?_
  refine z_new C (pc := 46) (kc' := 5) (ks' := 28) kf7 bw_264 bw_399 bw_11 dX8_troop_46 (by decide) (by decide) (by decide) (by decide) h (fun a18 S19 h => ?_)
  refine z_dup C (pc := 49) dX8_troop_49 (cat_rf _) ?_
  refine z_iload C (pc := 50) dX8_troop_50 0 rfl ?_
  refine z_iload_n C (pc := 52) dX8_troop_52 2 rfl ?_
  refine z_iload_n C (pc := 53) dX8_troop_53 3 rfl ?_
  refine z_iload_n C (pc := 54) dX8_troop_54 4 rfl ?_
  refine z_I C (pc := 55) (KX := fun _ _ => False) (kc' := 5) (ks' := 28) (As := [.int r16, .int x1, .int x2, .int x3]) (rest := [va_rf (some a18), va_rf (g_P S15 800 x0)]) (c_X7_init l v S19 a18 r16 x1 x2 x3) mw_X7_init bw_400 bw_401 rfl (fit_of rfl) rfl rfl (Nat.le_of_ble_eq_true rfl) dX8_troop_55 h (fun S20 h => ?_) (fun En S9 h => h.elim)
  obtain ⟨a21, e22, o23, h⟩ := h
  refine z_Vi C (pc := 58) (KX := fun _ _ => False) (kc' := 6) (ks' := 92) (As := [va_rf (some a18)]) (rest := []) e22 (c_Jx4a65c_add_9ea2d l v S20 a21 (some a18)) mw_Jx4a65c_add_9ea2d bw_419 bw_420 bw_421 (fit_of rfl) rfl rfl (Nat.le_of_ble_eq_true rfl) (by decide) rfl o23 dX8_troop_58 h (fun r25 S24 h => ?_) (fun En S9 h => h.elim)
  refine z_pop C (pc := 61) dX8_troop_61 rfl ?_
  refine z_iload C (pc := 62) dX8_troop_62 0 rfl ?_
  exact z_iret C (pc := 64) T dX8_troop_64 (by decide) (by decide) h
def wp_X8_child (S : Hp) (x0 : Nat) (x1 : Int32) (Q : Int32 → Hp → Prop) (EQ : String → Hp → Prop) : Prop :=
  wp_X8_requireRange S x1 (5 : Int32) (17 : Int32) (fun S1 => okA S1 8 x0 ∧ (rd S1 10 (g_P S1 801 x0) (fun a3 => wp_Jx4a65c_size_8abf5 S1 a3 (fun r7 S6 => wp_X8_requireRoom S6 r7 (24 : Int32) (fun S8 => okA S8 8 x0 ∧ (rd S8 10 (g_P S8 801 x0) (fun a10 => wp_Jx4a65c_size_8abf5 S8 a10 (fun r14 S13 => okA S13 8 x0 ∧ ((∀ a16, a16 ∉ g_L S13 → lt (n_O 1 S13 a16) (fun S17 => wp_X1_init S17 a16 r14 x1 (fun S18 => rd S18 10 (g_P S13 801 x0) (fun a19 => wp_Jx4a65c_add_9ea2d S18 a19 (some a16) (fun r23 S22 => Q r14 S22)))))))))) EQ)))) EQ
def rm_X8_child : Room := { frames := 7, cells := 7, slots := 130, locals := 231 }
set_option maxHeartbeats 4000000 in
set_option maxRecDepth 100000 in
theorem c_X8_child (l : Launch) (hfl : l.stackTraces = false) (v : Ev) (S : Hp) (x0 : Nat) (x1 : Int32) : CI l v yX8_child cX8_child 3 (some .int) rm_X8_child [va_rf (some x0), .int x1] S (fun Q EQ => wp_X8_child S x0 x1 Q EQ) := by
  intro Q EQ h
  refine z_start [(0, va_rf (some x0)), (1, .int x1)] (by decide +kernel) (by simp only [la_i, la_r, la_n]) (cat_cr (cat_ci cat_nil)) (by simp only [ls_i, ls_r, ls_n]; decide) (fun z C N T => ?_)
  unfold wp_X8_child at h
  refine z_iload_n C (pc := 0) dX8_child_0 1 rfl ?_
  refine z_iconst C (pc := 1) (x := (5 : Int32)) dX8_child_1 kic_5 ?_
  refine z_bipush C (pc := 2) (x := (17 : Int32)) dX8_child_2 kbp_17 ?_
  refine z_Sv C (pc := 4) (kc' := 1) (ks' := 6) (As := [.int x1, .int (5 : Int32), .int (17 : Int32)]) (rest := []) (c_X8_requireRange l hfl v S x1 (5 : Int32) (17 : Int32)) mw_X8_requireRange bw_281 bw_282 (fit_of rfl) rfl rfl (Nat.le_of_ble_eq_true rfl) dX8_child_4 h (fun S1 h => ?_) (fun En S9 h => z_out C T N (by decide) (by decide) h)
  refine z_aload_n C (pc := 7) dX8_child_7 0 rfl ?_
  obtain ⟨o2, h⟩ := h
  refine z_getP C (pc := 8) kf8 1 (by decide) rfl bw_75 (fun _ _ _ _ h => h) dX8_child_8 rfl o2 ?_
  obtain ⟨a3, e4, o5, h⟩ := h
  refine z_Vi C (pc := 11) (KX := fun _ _ => False) (kc' := 1) (ks' := 6) (As := []) (rest := []) e4 (c_Jx4a65c_size_8abf5 l v S1 a3) mw_Jx4a65c_size_8abf5 bw_121 bw_122 bw_123 (fit_of rfl) rfl rfl (Nat.le_of_ble_eq_true rfl) (by decide) rfl o5 dX8_child_11 h (fun r7 S6 h => ?_) (fun En S9 h => h.elim)
  refine z_bipush C (pc := 14) (x := (24 : Int32)) dX8_child_14 kbp_24 ?_
  refine z_Sv C (pc := 16) (kc' := 2) (ks' := 12) (As := [.int r7, .int (24 : Int32)]) (rest := []) (c_X8_requireRoom l hfl v S6 r7 (24 : Int32)) mw_X8_requireRoom bw_380 bw_381 (fit_of rfl) rfl rfl (Nat.le_of_ble_eq_true rfl) dX8_child_16 h (fun S8 h => ?_) (fun En S9 h => z_out C T N (by decide) (by decide) h)
  refine z_aload_n C (pc := 19) dX8_child_19 0 rfl ?_
  obtain ⟨o9, h⟩ := h
  refine z_getP C (pc := 20) kf8 1 (by decide) rfl bw_75 (fun _ _ _ _ h => h) dX8_child_20 rfl o9 ?_
  obtain ⟨a10, e11, o12, h⟩ := h
  refine z_Vi C (pc := 23) (KX := fun _ _ => False) (kc' := 2) (ks' := 12) (As := []) (rest := []) e11 (c_Jx4a65c_size_8abf5 l v S8 a10) mw_Jx4a65c_size_8abf5 bw_121 bw_122 bw_123 (fit_of rfl) rfl rfl (Nat.le_of_ble_eq_true rfl) (by decide) rfl o12 dX8_child_23 h (fun r14 S13 h => ?_) (fun En S9 h => h.elim)
  refine z_istore_n C (pc := 26) (lv' := [(2, .int r14), (0, va_rf (some x0)), (1, .int x1)]) dX8_child_26 (by decide) rfl ?_
  refine z_aload_n C (pc := 27) dX8_child_27 1 rfl ?_
  obtain ⟨o15, h⟩ := h
  refine z_getP C (pc := 28) kf8 1 (by decide) rfl bw_75 (fun _ _ _ _ h => h) dX8_child_28 rfl o15 ?_
  refine z_new C (pc := 31) (kc' := 3) (ks' := 26) kf1 bw_210 bw_483 bw_16 dX8_child_31 (by decide) (by decide) (by decide) (by decide) h (fun a16 S17 h => ?_)
  refine z_dup C (pc := 34) dX8_child_34 (cat_rf _) ?_
  refine z_iload_n C (pc := 35) dX8_child_35 0 rfl ?_
  refine z_iload_n C (pc := 36) dX8_child_36 2 rfl ?_
  refine z_I C (pc := 37) (KX := fun _ _ => False) (kc' := 6) (ks' := 66) (As := [.int r14, .int x1]) (rest := [va_rf (some a16), va_rf (g_P S13 801 x0)]) (c_X1_init l v S17 a16 r14 x1) mw_X1_init bw_484 bw_485 rfl (fit_of rfl) rfl rfl (Nat.le_of_ble_eq_true rfl) dX8_child_37 h (fun S18 h => ?_) (fun En S9 h => h.elim)
  obtain ⟨a19, e20, o21, h⟩ := h
  refine z_Vi C (pc := 40) (KX := fun _ _ => False) (kc' := 7) (ks' := 130) (As := [va_rf (some a16)]) (rest := []) e20 (c_Jx4a65c_add_9ea2d l v S18 a19 (some a16)) mw_Jx4a65c_add_9ea2d bw_419 bw_420 bw_421 (fit_of rfl) rfl rfl (Nat.le_of_ble_eq_true rfl) (by decide) rfl o21 dX8_child_40 h (fun r23 S22 h => ?_) (fun En S9 h => h.elim)
  refine z_pop C (pc := 43) dX8_child_43 rfl ?_
  refine z_iload_n C (pc := 44) dX8_child_44 0 rfl ?_
  exact z_iret C (pc := 45) T dX8_child_45 (by decide) (by decide) h
def wp_X8_requireIndex (S : Hp) (x0 : Int32) (x1 : Int32) (Q : Hp → Prop) (EQ : String → Hp → Prop) : Prop :=
  if x0 < 0 then (EQ "java/lang/IndexOutOfBoundsException" S) else (if x0 < x1 then (Q S) else (EQ "java/lang/IndexOutOfBoundsException" S))
def rm_X8_requireIndex : Room := { frames := 6, cells := 1, slots := 6, locals := 82 }
set_option maxHeartbeats 4000000 in
set_option maxRecDepth 100000 in
theorem c_X8_requireIndex (l : Launch) (hfl : l.stackTraces = false) (v : Ev) (S : Hp) (x0 : Int32) (x1 : Int32) : CV l v yX8_requireIndex cX8_requireIndex 2 none rm_X8_requireIndex [.int x0, .int x1] S (fun Q EQ => wp_X8_requireIndex S x0 x1 Q EQ) := by
  intro Q EQ h
  refine z_start [(0, .int x0), (1, .int x1)] (by decide +kernel) (by simp only [la_i, la_r, la_n]) (cat_ci (cat_ci cat_nil)) (by simp only [ls_i, ls_r, ls_n]; decide) (fun z C N T => ?_)
  unfold wp_X8_requireIndex at h
  refine z_iload_n C (pc := 0) dX8_requireIndex_0 0 rfl ?_
  refine z_if_lt C (pc := 1) (tgt := 9) dX8_requireIndex_1 (by decide) h (fun h => ?_) (fun h => ?_)
  · exact z_throwW C (pc := 9) (text := "there is none of this number") (names := ["java/lang/RuntimeException", "java/lang/Exception"]) hfl T N ft_IndexOutOfBoundsException bw_128 bw_17 st_X8_300 at_X8_302 go_X8_302 ⟨by decide +kernel, by decide +kernel⟩ dX8_requireIndex_9 dX8_requireIndex_12 dX8_requireIndex_13 dX8_requireIndex_16 dX8_requireIndex_19 ⟨by decide, Nat.le_of_ble_eq_true rfl, by decide, by decide⟩ h
  · refine z_iload_n C (pc := 4) dX8_requireIndex_4 0 rfl ?_
    refine z_iload_n C (pc := 5) dX8_requireIndex_5 1 rfl ?_
    refine z_icmp_lt C (pc := 6) (tgt := 20) dX8_requireIndex_6 (by decide) h (fun h => ?_) (fun h => ?_)
    · exact z_vret C (pc := 20) T dX8_requireIndex_20 (by decide) (by decide) h
    · exact z_throwW C (pc := 9) (text := "there is none of this number") (names := ["java/lang/RuntimeException", "java/lang/Exception"]) hfl T N ft_IndexOutOfBoundsException bw_128 bw_17 st_X8_300 at_X8_302 go_X8_302 ⟨by decide +kernel, by decide +kernel⟩ dX8_requireIndex_9 dX8_requireIndex_12 dX8_requireIndex_13 dX8_requireIndex_16 dX8_requireIndex_19 ⟨by decide, Nat.le_of_ble_eq_true rfl, by decide, by decide⟩ h
def wp_X8_childAt (S : Hp) (x0 : Nat) (x1 : Int32) (Q : Option Nat → Hp → Prop) (EQ : String → Hp → Prop) : Prop :=
  okA S 8 x0 ∧ (rd S 10 (g_P S 801 x0) (fun a2 => wp_Jx4a65c_size_8abf5 S a2 (fun r6 S5 => wp_X8_requireIndex S5 x1 r6 (fun S7 => okA S7 8 x0 ∧ (rd S7 10 (g_P S7 801 x0) (fun a9 => wp_Jx4a65c_get_915e3 S7 a9 x1 (fun r13 S12 => (∀ a, r13 = some a → okA S12 1 a) ∧ (Q r13 S12))))) EQ)))
def rm_X8_childAt : Room := { frames := 7, cells := 1, slots := 6, locals := 103 }
set_option maxHeartbeats 4000000 in
set_option maxRecDepth 100000 in
theorem c_X8_childAt (l : Launch) (hfl : l.stackTraces = false) (v : Ev) (S : Hp) (x0 : Nat) (x1 : Int32) : CQ l v yX8_childAt cX8_childAt 2 (some (.object "Badgewood$Child")) rm_X8_childAt [va_rf (some x0), .int x1] S (fun Q EQ => wp_X8_childAt S x0 x1 Q EQ) := by
  intro Q EQ h
  refine z_start [(0, va_rf (some x0)), (1, .int x1)] (by decide +kernel) (by simp only [la_i, la_r, la_n]) (cat_cr (cat_ci cat_nil)) (by simp only [ls_i, ls_r, ls_n]; decide) (fun z C N T => ?_)
  unfold wp_X8_childAt at h
  refine z_iload_n C (pc := 0) dX8_childAt_0 1 rfl ?_
  refine z_aload_n C (pc := 1) dX8_childAt_1 0 rfl ?_
  obtain ⟨o1, h⟩ := h
  refine z_getP C (pc := 2) kf8 1 (by decide) rfl bw_75 (fun _ _ _ _ h => h) dX8_childAt_2 rfl o1 ?_
  obtain ⟨a2, e3, o4, h⟩ := h
  refine z_Vi C (pc := 5) (KX := fun _ _ => False) (kc' := 0) (ks' := 0) (As := []) (rest := [.int x1]) e3 (c_Jx4a65c_size_8abf5 l v S a2) mw_Jx4a65c_size_8abf5 bw_121 bw_122 bw_123 (fit_of rfl) rfl rfl (Nat.le_of_ble_eq_true rfl) (by decide) rfl o4 dX8_childAt_5 h (fun r6 S5 h => ?_) (fun En S9 h => h.elim)
  refine z_Sv C (pc := 8) (kc' := 1) (ks' := 6) (As := [.int x1, .int r6]) (rest := []) (c_X8_requireIndex l hfl v S5 x1 r6) mw_X8_requireIndex bw_125 bw_126 (fit_of rfl) rfl rfl (Nat.le_of_ble_eq_true rfl) dX8_childAt_8 h (fun S7 h => ?_) (fun En S9 h => z_out C T N (by decide) (by decide) h)
  refine z_aload_n C (pc := 11) dX8_childAt_11 0 rfl ?_
  obtain ⟨o8, h⟩ := h
  refine z_getP C (pc := 12) kf8 1 (by decide) rfl bw_75 (fun _ _ _ _ h => h) dX8_childAt_12 rfl o8 ?_
  refine z_iload_n C (pc := 15) dX8_childAt_15 1 rfl ?_
  obtain ⟨a9, e10, o11, h⟩ := h
  refine z_Vq C (pc := 16) (KX := fun _ _ => False) (kc' := 1) (ks' := 6) (As := [.int x1]) (rest := []) e10 (c_Jx4a65c_get_915e3 l v S7 a9 x1) mw_Jx4a65c_get_915e3 bw_196 bw_197 bw_198 (fit_of rfl) rfl rfl (Nat.le_of_ble_eq_true rfl) (by decide) rfl o11 dX8_childAt_16 h (fun r13 S12 h => ?_) (fun En S9 h => h.elim)
  obtain ⟨k14, h⟩ := h
  refine z_cast C (pc := 19) (κ := 1) (by decide) rfl bw_210 dX8_childAt_19 k14 ?_
  exact z_aret C (pc := 22) rfl (Or.inl ⟨_, rfl⟩) T dX8_childAt_22 (by decide) (by decide) h
def wp_X8_troopAt (S : Hp) (x0 : Nat) (x1 : Int32) (Q : Option Nat → Hp → Prop) (EQ : String → Hp → Prop) : Prop :=
  okA S 8 x0 ∧ (rd S 10 (g_P S 800 x0) (fun a2 => wp_Jx4a65c_size_8abf5 S a2 (fun r6 S5 => wp_X8_requireIndex S5 x1 r6 (fun S7 => okA S7 8 x0 ∧ (rd S7 10 (g_P S7 800 x0) (fun a9 => wp_Jx4a65c_get_915e3 S7 a9 x1 (fun r13 S12 => (∀ a, r13 = some a → okA S12 7 a) ∧ (Q r13 S12))))) EQ)))
def rm_X8_troopAt : Room := { frames := 7, cells := 1, slots := 6, locals := 103 }
set_option maxHeartbeats 4000000 in
set_option maxRecDepth 100000 in
theorem c_X8_troopAt (l : Launch) (hfl : l.stackTraces = false) (v : Ev) (S : Hp) (x0 : Nat) (x1 : Int32) : CQ l v yX8_troopAt cX8_troopAt 2 (some (.object "Badgewood$Troop")) rm_X8_troopAt [va_rf (some x0), .int x1] S (fun Q EQ => wp_X8_troopAt S x0 x1 Q EQ) := by
  intro Q EQ h
  refine z_start [(0, va_rf (some x0)), (1, .int x1)] (by decide +kernel) (by simp only [la_i, la_r, la_n]) (cat_cr (cat_ci cat_nil)) (by simp only [ls_i, ls_r, ls_n]; decide) (fun z C N T => ?_)
  unfold wp_X8_troopAt at h
  refine z_iload_n C (pc := 0) dX8_troopAt_0 1 rfl ?_
  refine z_aload_n C (pc := 1) dX8_troopAt_1 0 rfl ?_
  obtain ⟨o1, h⟩ := h
  refine z_getP C (pc := 2) kf8 0 (by decide) rfl bw_74 (fun _ _ _ _ h => h) dX8_troopAt_2 rfl o1 ?_
  obtain ⟨a2, e3, o4, h⟩ := h
  refine z_Vi C (pc := 5) (KX := fun _ _ => False) (kc' := 0) (ks' := 0) (As := []) (rest := [.int x1]) e3 (c_Jx4a65c_size_8abf5 l v S a2) mw_Jx4a65c_size_8abf5 bw_121 bw_122 bw_123 (fit_of rfl) rfl rfl (Nat.le_of_ble_eq_true rfl) (by decide) rfl o4 dX8_troopAt_5 h (fun r6 S5 h => ?_) (fun En S9 h => h.elim)
  refine z_Sv C (pc := 8) (kc' := 1) (ks' := 6) (As := [.int x1, .int r6]) (rest := []) (c_X8_requireIndex l hfl v S5 x1 r6) mw_X8_requireIndex bw_125 bw_126 (fit_of rfl) rfl rfl (Nat.le_of_ble_eq_true rfl) dX8_troopAt_8 h (fun S7 h => ?_) (fun En S9 h => z_out C T N (by decide) (by decide) h)
  refine z_aload_n C (pc := 11) dX8_troopAt_11 0 rfl ?_
  obtain ⟨o8, h⟩ := h
  refine z_getP C (pc := 12) kf8 0 (by decide) rfl bw_74 (fun _ _ _ _ h => h) dX8_troopAt_12 rfl o8 ?_
  refine z_iload_n C (pc := 15) dX8_troopAt_15 1 rfl ?_
  obtain ⟨a9, e10, o11, h⟩ := h
  refine z_Vq C (pc := 16) (KX := fun _ _ => False) (kc' := 1) (ks' := 6) (As := [.int x1]) (rest := []) e10 (c_Jx4a65c_get_915e3 l v S7 a9 x1) mw_Jx4a65c_get_915e3 bw_196 bw_197 bw_198 (fit_of rfl) rfl rfl (Nat.le_of_ble_eq_true rfl) (by decide) rfl o11 dX8_troopAt_16 h (fun r13 S12 h => ?_) (fun En S9 h => h.elim)
  obtain ⟨k14, h⟩ := h
  refine z_cast C (pc := 19) (κ := 7) (by decide) rfl bw_264 dX8_troopAt_19 k14 ?_
  exact z_aret C (pc := 22) rfl (Or.inl ⟨_, rfl⟩) T dX8_troopAt_22 (by decide) (by decide) h
def wp_X8_childrenIn_L4 (f0 : Nat) (f1 : Int32) (Q : Int32 → Hp → Prop) : Nat → Hp → Int32 → Int32 → Prop
  | 0, _, _, _ => False
  | n + 1, S, w2, w3 => okA S 8 f0 ∧ (rd S 10 (g_P S 801 f0) (fun a2 => wp_Jx4a65c_size_8abf5 S a2 (fun r6 S5 => if r6 ≤ w3 then (Q w2 S5) else (okA S5 8 f0 ∧ (rd S5 10 (g_P S5 801 f0) (fun a8 => wp_Jx4a65c_get_915e3 S5 a8 w3 (fun r12 S11 => (∀ a, r12 = some a → okA S11 1 a) ∧ (rd S11 1 r12 (fun a14 => if (g_I S11 102 a14) = f1 then (wp_X8_childrenIn_L4 f0 f1 Q n S11 (w2 + (1 : Int32)) (w3 + (1 : Int32))) else (wp_X8_childrenIn_L4 f0 f1 Q n S11 w2 (w3 + (1 : Int32))))))))))))
def wp_X8_childrenIn (S : Hp) (x0 : Nat) (x1 : Int32) (Q : Int32 → Hp → Prop) : Prop :=
  ∃ n17, wp_X8_childrenIn_L4 x0 x1 Q n17 S (0 : Int32) (0 : Int32)
def rm_X8_childrenIn : Room := { frames := 3, cells := 0, slots := 0, locals := 64 }
set_option maxHeartbeats 4000000 in
set_option maxRecDepth 100000 in
theorem l_X8_childrenIn_L4 (l : Launch) (v : Ev) (f0 : Nat) (f1 : Int32) (Q : Int32 → Hp → Prop) {EQ : String → Hp → Prop} {z : Z9} (C : Cx l v RX8 cX8_childrenIn 4 (some .int) "childrenIn" z) (N : NT z) (T : EE v rm_X8_childrenIn (QI v Q) EQ z) : ∀ (n : Nat) (S : Hp) (w2 : Int32) (w3 : Int32), wp_X8_childrenIn_L4 f0 f1 Q n S w2 w3 → ZZ l v 4 rm_X8_childrenIn z 0 0 S 4 [(0, va_rf (some f0)), (1, .int f1), (2, .int w2), (3, .int w3)] [] := by
  intro n
  induction n with
  | zero =>
    intro S w2 w3 h
    exact h.elim
  | succ n ih =>
    intro S w2 w3 h
    unfold wp_X8_childrenIn_L4 at h
    refine z_iload_n C (pc := 4) dX8_childrenIn_4 3 rfl ?_
    refine z_aload_n C (pc := 5) dX8_childrenIn_5 0 rfl ?_
    obtain ⟨o1, h⟩ := h
    refine z_getP C (pc := 6) kf8 1 (by decide) rfl bw_75 (fun _ _ _ _ h => h) dX8_childrenIn_6 rfl o1 ?_
    obtain ⟨a2, e3, o4, h⟩ := h
    refine z_Vi C (pc := 9) (KX := fun _ _ => False) (kc' := 0) (ks' := 0) (As := []) (rest := [.int w3]) e3 (c_Jx4a65c_size_8abf5 l v S a2) mw_Jx4a65c_size_8abf5 bw_121 bw_122 bw_123 (fit_of rfl) rfl rfl (Nat.le_of_ble_eq_true rfl) (by decide) rfl o4 dX8_childrenIn_9 h (fun r6 S5 h => ?_) (fun En S9 h => h.elim)
    refine z_icmp_ge C (pc := 12) (tgt := 42) dX8_childrenIn_12 (by decide) h (fun h => ?_) (fun h => ?_)
    · refine z_iload_n C (pc := 42) dX8_childrenIn_42 2 rfl ?_
      exact z_iret C (pc := 43) T dX8_childrenIn_43 (by decide) (by decide) h
    · refine z_aload_n C (pc := 15) dX8_childrenIn_15 0 rfl ?_
      obtain ⟨o7, h⟩ := h
      refine z_getP C (pc := 16) kf8 1 (by decide) rfl bw_75 (fun _ _ _ _ h => h) dX8_childrenIn_16 rfl o7 ?_
      refine z_iload_n C (pc := 19) dX8_childrenIn_19 3 rfl ?_
      obtain ⟨a8, e9, o10, h⟩ := h
      refine z_Vq C (pc := 20) (KX := fun _ _ => False) (kc' := 0) (ks' := 0) (As := [.int w3]) (rest := []) e9 (c_Jx4a65c_get_915e3 l v S5 a8 w3) mw_Jx4a65c_get_915e3 bw_196 bw_197 bw_198 (fit_of rfl) rfl rfl (Nat.le_of_ble_eq_true rfl) (by decide) rfl o10 dX8_childrenIn_20 h (fun r12 S11 h => ?_) (fun En S9 h => h.elim)
      obtain ⟨k13, h⟩ := h
      refine z_cast C (pc := 23) (κ := 1) (by decide) rfl bw_210 dX8_childrenIn_23 k13 ?_
      obtain ⟨a14, e15, o16, h⟩ := h
      refine z_getI C (pc := 26) kf1 2 (by decide) rfl bw_495 (fun _ _ _ _ h => h) dX8_childrenIn_26 e15 o16 ?_
      refine z_iload_n C (pc := 29) dX8_childrenIn_29 1 rfl ?_
      refine z_icmp_ne C (pc := 30) (tgt := 36) dX8_childrenIn_30 (by decide) h (fun h => ?_) (fun h => ?_)
      · refine z_iinc C (pc := 36) (y := w3 + (1 : Int32)) (lv' := [(3, .int (w3 + (1 : Int32))), (0, va_rf (some f0)), (1, .int f1), (2, .int w2)]) dX8_childrenIn_36 3 rfl rfl (by decide) rfl ?_
        refine z_goto C (pc := 39) (tgt := 4) dX8_childrenIn_39 (by decide) ?_
        refine z_sub [1, 2, 3, 0] (lv' := [(0, va_rf (some f0)), (1, .int f1), (2, .int w2), (3, .int (w3 + (1 : Int32)))]) rfl ?_
        exact ih S11 w2 (w3 + (1 : Int32)) h
      · refine z_iinc C (pc := 33) (y := w2 + (1 : Int32)) (lv' := [(2, .int (w2 + (1 : Int32))), (0, va_rf (some f0)), (1, .int f1), (3, .int w3)]) dX8_childrenIn_33 2 rfl rfl (by decide) rfl ?_
        refine z_iinc C (pc := 36) (y := w3 + (1 : Int32)) (lv' := [(3, .int (w3 + (1 : Int32))), (2, .int (w2 + (1 : Int32))), (0, va_rf (some f0)), (1, .int f1)]) dX8_childrenIn_36 3 rfl rfl (by decide) rfl ?_
        refine z_goto C (pc := 39) (tgt := 4) dX8_childrenIn_39 (by decide) ?_
        refine z_sub [2, 3, 1, 0] (lv' := [(0, va_rf (some f0)), (1, .int f1), (2, .int (w2 + (1 : Int32))), (3, .int (w3 + (1 : Int32)))]) rfl ?_
        exact ih S11 (w2 + (1 : Int32)) (w3 + (1 : Int32)) h
set_option maxHeartbeats 4000000 in
set_option maxRecDepth 100000 in
theorem c_X8_childrenIn (l : Launch) (v : Ev) (S : Hp) (x0 : Nat) (x1 : Int32) : CI l v yX8_childrenIn cX8_childrenIn 4 (some .int) rm_X8_childrenIn [va_rf (some x0), .int x1] S (fun Q _ => wp_X8_childrenIn S x0 x1 Q) := by
  intro Q EQ h
  refine z_start [(0, va_rf (some x0)), (1, .int x1)] (by decide +kernel) (by simp only [la_i, la_r, la_n]) (cat_cr (cat_ci cat_nil)) (by simp only [ls_i, ls_r, ls_n]; decide) (fun z C N T => ?_)
  unfold wp_X8_childrenIn at h
  refine z_iconst C (pc := 0) (x := (0 : Int32)) dX8_childrenIn_0 kic_0 ?_
  refine z_istore_n C (pc := 1) (lv' := [(2, .int (0 : Int32)), (0, va_rf (some x0)), (1, .int x1)]) dX8_childrenIn_1 (by decide) rfl ?_
  refine z_iconst C (pc := 2) (x := (0 : Int32)) dX8_childrenIn_2 kic_0 ?_
  refine z_istore_n C (pc := 3) (lv' := [(3, .int (0 : Int32)), (2, .int (0 : Int32)), (0, va_rf (some x0)), (1, .int x1)]) dX8_childrenIn_3 (by decide) rfl ?_
  obtain ⟨n17, h⟩ := h
  refine z_sub [2, 3, 1, 0] (lv' := [(0, va_rf (some x0)), (1, .int x1), (2, .int (0 : Int32)), (3, .int (0 : Int32))]) rfl ?_
  exact l_X8_childrenIn_L4 l v x0 x1 Q C N T n17 S (0 : Int32) (0 : Int32) h
def wp_X8_childrenInPatrol_L5 (f0 : Nat) (f1 : Int32) (f2 : Int32) (Q : Int32 → Hp → Prop) : Nat → Hp → Int32 → Int32 → Prop
  | 0, _, _, _ => False
  | n + 1, S, w3, w4 => okA S 8 f0 ∧ (rd S 10 (g_P S 801 f0) (fun a2 => wp_Jx4a65c_size_8abf5 S a2 (fun r6 S5 => if r6 ≤ w4 then (Q w3 S5) else (okA S5 8 f0 ∧ (rd S5 10 (g_P S5 801 f0) (fun a8 => wp_Jx4a65c_get_915e3 S5 a8 w4 (fun r12 S11 => (∀ a, r12 = some a → okA S11 1 a) ∧ (rd S11 1 r12 (fun a14 => if (g_I S11 102 a14) = f1 then (rd S11 1 r12 (fun a17 => if (g_I S11 104 a17) = f2 then (wp_X8_childrenInPatrol_L5 f0 f1 f2 Q n S11 (w3 + (1 : Int32)) (w4 + (1 : Int32))) else (wp_X8_childrenInPatrol_L5 f0 f1 f2 Q n S11 w3 (w4 + (1 : Int32))))) else (wp_X8_childrenInPatrol_L5 f0 f1 f2 Q n S11 w3 (w4 + (1 : Int32))))))))))))
def wp_X8_childrenInPatrol (S : Hp) (x0 : Nat) (x1 : Int32) (x2 : Int32) (Q : Int32 → Hp → Prop) : Prop :=
  ∃ n20, wp_X8_childrenInPatrol_L5 x0 x1 x2 Q n20 S (0 : Int32) (0 : Int32)
def rm_X8_childrenInPatrol : Room := { frames := 3, cells := 0, slots := 0, locals := 64 }
set_option maxHeartbeats 4000000 in
set_option maxRecDepth 100000 in
theorem l_X8_childrenInPatrol_L5 (l : Launch) (v : Ev) (f0 : Nat) (f1 : Int32) (f2 : Int32) (Q : Int32 → Hp → Prop) {EQ : String → Hp → Prop} {z : Z9} (C : Cx l v RX8 cX8_childrenInPatrol 6 (some .int) "childrenInPatrol" z) (N : NT z) (T : EE v rm_X8_childrenInPatrol (QI v Q) EQ z) : ∀ (n : Nat) (S : Hp) (w3 : Int32) (w4 : Int32), wp_X8_childrenInPatrol_L5 f0 f1 f2 Q n S w3 w4 → ZZ l v 6 rm_X8_childrenInPatrol z 0 0 S 5 [(0, va_rf (some f0)), (1, .int f1), (2, .int f2), (3, .int w3), (4, .int w4)] [] := by
  intro n
  induction n with
  | zero =>
    intro S w3 w4 h
    exact h.elim
  | succ n ih =>
    intro S w3 w4 h
    unfold wp_X8_childrenInPatrol_L5 at h
    refine z_iload C (pc := 5) dX8_childrenInPatrol_5 4 rfl ?_
    refine z_aload_n C (pc := 7) dX8_childrenInPatrol_7 0 rfl ?_
    obtain ⟨o1, h⟩ := h
    refine z_getP C (pc := 8) kf8 1 (by decide) rfl bw_75 (fun _ _ _ _ h => h) dX8_childrenInPatrol_8 rfl o1 ?_
    obtain ⟨a2, e3, o4, h⟩ := h
    refine z_Vi C (pc := 11) (KX := fun _ _ => False) (kc' := 0) (ks' := 0) (As := []) (rest := [.int w4]) e3 (c_Jx4a65c_size_8abf5 l v S a2) mw_Jx4a65c_size_8abf5 bw_121 bw_122 bw_123 (fit_of rfl) rfl rfl (Nat.le_of_ble_eq_true rfl) (by decide) rfl o4 dX8_childrenInPatrol_11 h (fun r6 S5 h => ?_) (fun En S9 h => h.elim)
    refine z_icmp_ge C (pc := 14) (tgt := 58) dX8_childrenInPatrol_14 (by decide) h (fun h => ?_) (fun h => ?_)
    · refine z_iload_n C (pc := 58) dX8_childrenInPatrol_58 3 rfl ?_
      exact z_iret C (pc := 59) T dX8_childrenInPatrol_59 (by decide) (by decide) h
    · refine z_aload_n C (pc := 17) dX8_childrenInPatrol_17 0 rfl ?_
      obtain ⟨o7, h⟩ := h
      refine z_getP C (pc := 18) kf8 1 (by decide) rfl bw_75 (fun _ _ _ _ h => h) dX8_childrenInPatrol_18 rfl o7 ?_
      refine z_iload C (pc := 21) dX8_childrenInPatrol_21 4 rfl ?_
      obtain ⟨a8, e9, o10, h⟩ := h
      refine z_Vq C (pc := 23) (KX := fun _ _ => False) (kc' := 0) (ks' := 0) (As := [.int w4]) (rest := []) e9 (c_Jx4a65c_get_915e3 l v S5 a8 w4) mw_Jx4a65c_get_915e3 bw_196 bw_197 bw_198 (fit_of rfl) rfl rfl (Nat.le_of_ble_eq_true rfl) (by decide) rfl o10 dX8_childrenInPatrol_23 h (fun r12 S11 h => ?_) (fun En S9 h => h.elim)
      obtain ⟨k13, h⟩ := h
      refine z_cast C (pc := 26) (κ := 1) (by decide) rfl bw_210 dX8_childrenInPatrol_26 k13 ?_
      refine z_astore C (pc := 29) (lv' := [(5, va_rf r12), (0, va_rf (some f0)), (1, .int f1), (2, .int f2), (3, .int w3), (4, .int w4)]) dX8_childrenInPatrol_29 (by decide) rfl ?_
      refine z_aload C (pc := 31) dX8_childrenInPatrol_31 0 rfl ?_
      obtain ⟨a14, e15, o16, h⟩ := h
      refine z_getI C (pc := 33) kf1 2 (by decide) rfl bw_495 (fun _ _ _ _ h => h) dX8_childrenInPatrol_33 e15 o16 ?_
      refine z_iload_n C (pc := 36) dX8_childrenInPatrol_36 2 rfl ?_
      refine z_icmp_ne C (pc := 37) (tgt := 52) dX8_childrenInPatrol_37 (by decide) h (fun h => ?_) (fun h => ?_)
      · refine z_iinc C (pc := 52) (y := w4 + (1 : Int32)) (lv' := [(4, .int (w4 + (1 : Int32))), (5, va_rf r12), (0, va_rf (some f0)), (1, .int f1), (2, .int f2), (3, .int w3)]) dX8_childrenInPatrol_52 5 rfl rfl (by decide) rfl ?_
        refine z_goto C (pc := 55) (tgt := 5) dX8_childrenInPatrol_55 (by decide) ?_
        refine z_sub [2, 3, 4, 5, 0] (lv' := [(0, va_rf (some f0)), (1, .int f1), (2, .int f2), (3, .int w3), (4, .int (w4 + (1 : Int32)))]) rfl ?_
        exact ih S11 w3 (w4 + (1 : Int32)) h
      · refine z_aload C (pc := 40) dX8_childrenInPatrol_40 0 rfl ?_
        obtain ⟨a17, e18, o19, h⟩ := h
        refine z_getI C (pc := 42) kf1 4 (by decide) rfl bw_499 (fun _ _ _ _ h => h) dX8_childrenInPatrol_42 e18 o19 ?_
        refine z_iload_n C (pc := 45) dX8_childrenInPatrol_45 3 rfl ?_
        refine z_icmp_ne C (pc := 46) (tgt := 52) dX8_childrenInPatrol_46 (by decide) h (fun h => ?_) (fun h => ?_)
        · refine z_iinc C (pc := 52) (y := w4 + (1 : Int32)) (lv' := [(4, .int (w4 + (1 : Int32))), (5, va_rf r12), (0, va_rf (some f0)), (1, .int f1), (2, .int f2), (3, .int w3)]) dX8_childrenInPatrol_52 5 rfl rfl (by decide) rfl ?_
          refine z_goto C (pc := 55) (tgt := 5) dX8_childrenInPatrol_55 (by decide) ?_
          refine z_sub [2, 3, 4, 5, 0] (lv' := [(0, va_rf (some f0)), (1, .int f1), (2, .int f2), (3, .int w3), (4, .int (w4 + (1 : Int32)))]) rfl ?_
          exact ih S11 w3 (w4 + (1 : Int32)) h
        · refine z_iinc C (pc := 49) (y := w3 + (1 : Int32)) (lv' := [(3, .int (w3 + (1 : Int32))), (5, va_rf r12), (0, va_rf (some f0)), (1, .int f1), (2, .int f2), (4, .int w4)]) dX8_childrenInPatrol_49 4 rfl rfl (by decide) rfl ?_
          refine z_iinc C (pc := 52) (y := w4 + (1 : Int32)) (lv' := [(4, .int (w4 + (1 : Int32))), (3, .int (w3 + (1 : Int32))), (5, va_rf r12), (0, va_rf (some f0)), (1, .int f1), (2, .int f2)]) dX8_childrenInPatrol_52 5 rfl rfl (by decide) rfl ?_
          refine z_goto C (pc := 55) (tgt := 5) dX8_childrenInPatrol_55 (by decide) ?_
          refine z_sub [3, 4, 5, 1, 0] (lv' := [(0, va_rf (some f0)), (1, .int f1), (2, .int f2), (3, .int (w3 + (1 : Int32))), (4, .int (w4 + (1 : Int32)))]) rfl ?_
          exact ih S11 (w3 + (1 : Int32)) (w4 + (1 : Int32)) h
set_option maxHeartbeats 4000000 in
set_option maxRecDepth 100000 in
theorem c_X8_childrenInPatrol (l : Launch) (v : Ev) (S : Hp) (x0 : Nat) (x1 : Int32) (x2 : Int32) : CI l v yX8_childrenInPatrol cX8_childrenInPatrol 6 (some .int) rm_X8_childrenInPatrol [va_rf (some x0), .int x1, .int x2] S (fun Q _ => wp_X8_childrenInPatrol S x0 x1 x2 Q) := by
  intro Q EQ h
  refine z_start [(0, va_rf (some x0)), (1, .int x1), (2, .int x2)] (by decide +kernel) (by simp only [la_i, la_r, la_n]) (cat_cr (cat_ci (cat_ci cat_nil))) (by simp only [ls_i, ls_r, ls_n]; decide) (fun z C N T => ?_)
  unfold wp_X8_childrenInPatrol at h
  refine z_iconst C (pc := 0) (x := (0 : Int32)) dX8_childrenInPatrol_0 kic_0 ?_
  refine z_istore_n C (pc := 1) (lv' := [(3, .int (0 : Int32)), (0, va_rf (some x0)), (1, .int x1), (2, .int x2)]) dX8_childrenInPatrol_1 (by decide) rfl ?_
  refine z_iconst C (pc := 2) (x := (0 : Int32)) dX8_childrenInPatrol_2 kic_0 ?_
  refine z_istore C (pc := 3) (lv' := [(4, .int (0 : Int32)), (3, .int (0 : Int32)), (0, va_rf (some x0)), (1, .int x1), (2, .int x2)]) dX8_childrenInPatrol_3 (by decide) rfl ?_
  obtain ⟨n20, h⟩ := h
  refine z_sub [2, 3, 4, 1, 0] (lv' := [(0, va_rf (some x0)), (1, .int x1), (2, .int x2), (3, .int (0 : Int32)), (4, .int (0 : Int32))]) rfl ?_
  exact l_X8_childrenInPatrol_L5 l v x0 x1 x2 Q C N T n20 S (0 : Int32) (0 : Int32) h
def wp_X8_smallestPatrol_L12 (f0 : Nat) (f1 : Int32) (Q : Int32 → Hp → Prop) : Nat → Hp → Int32 → Int32 → Int32 → Prop
  | 0, _, _, _, _ => False
  | n + 1, S, w2, w3, w4 => if (4 : Int32) ≤ w4 then (Q w2 S) else (okA S 8 f0 ∧ (wp_X8_childrenInPatrol S f0 f1 w4 (fun r6 S5 => if w3 ≤ r6 then (wp_X8_smallestPatrol_L12 f0 f1 Q n S5 w2 w3 (w4 + (1 : Int32))) else (wp_X8_smallestPatrol_L12 f0 f1 Q n S5 w4 r6 (w4 + (1 : Int32))))))
def wp_X8_smallestPatrol (S : Hp) (x0 : Nat) (x1 : Int32) (Q : Int32 → Hp → Prop) : Prop :=
  okA S 8 x0 ∧ (wp_X8_childrenInPatrol S x0 x1 (0 : Int32) (fun r3 S2 => ∃ n7, wp_X8_smallestPatrol_L12 x0 x1 Q n7 S2 (0 : Int32) r3 (1 : Int32)))
def rm_X8_smallestPatrol : Room := { frames := 4, cells := 0, slots := 0, locals := 89 }
set_option maxHeartbeats 4000000 in
set_option maxRecDepth 100000 in
theorem l_X8_smallestPatrol_L12 (l : Launch) (v : Ev) (f0 : Nat) (f1 : Int32) (Q : Int32 → Hp → Prop) {EQ : String → Hp → Prop} {z : Z9} (C : Cx l v RX8 cX8_smallestPatrol 6 (some .int) "smallestPatrol" z) (N : NT z) (T : EE v rm_X8_smallestPatrol (QI v Q) EQ z) : ∀ (n : Nat) (S : Hp) (w2 : Int32) (w3 : Int32) (w4 : Int32), wp_X8_smallestPatrol_L12 f0 f1 Q n S w2 w3 w4 → ZZ l v 6 rm_X8_smallestPatrol z 0 0 S 12 [(0, va_rf (some f0)), (1, .int f1), (2, .int w2), (3, .int w3), (4, .int w4)] [] := by
  intro n
  induction n with
  | zero =>
    intro S w2 w3 w4 h
    exact h.elim
  | succ n ih =>
    intro S w2 w3 w4 h
    unfold wp_X8_smallestPatrol_L12 at h
    refine z_iload C (pc := 12) dX8_smallestPatrol_12 4 rfl ?_
    refine z_iconst C (pc := 14) (x := (4 : Int32)) dX8_smallestPatrol_14 kic_4 ?_
    refine z_icmp_ge C (pc := 15) (tgt := 45) dX8_smallestPatrol_15 (by decide) h (fun h => ?_) (fun h => ?_)
    · refine z_iload_n C (pc := 45) dX8_smallestPatrol_45 2 rfl ?_
      exact z_iret C (pc := 46) T dX8_smallestPatrol_46 (by decide) (by decide) h
    · refine z_aload_n C (pc := 18) dX8_smallestPatrol_18 0 rfl ?_
      refine z_iload_n C (pc := 19) dX8_smallestPatrol_19 1 rfl ?_
      refine z_iload C (pc := 20) dX8_smallestPatrol_20 4 rfl ?_
      obtain ⟨o4, h⟩ := h
      refine z_Vi C (pc := 22) (KX := fun _ _ => False) (kc' := 0) (ks' := 0) (As := [.int f1, .int w4]) (rest := []) rfl (c_X8_childrenInPatrol l v S f0 f1 w4) mw_X8_childrenInPatrol bw_289 bw_291 bw_p6 (fit_of rfl) rfl rfl (Nat.le_of_ble_eq_true rfl) (by decide) rfl o4 dX8_smallestPatrol_22 h (fun r6 S5 h => ?_) (fun En S9 h => h.elim)
      refine z_istore C (pc := 25) (lv' := [(5, .int r6), (0, va_rf (some f0)), (1, .int f1), (2, .int w2), (3, .int w3), (4, .int w4)]) dX8_smallestPatrol_25 (by decide) rfl ?_
      refine z_iload C (pc := 27) dX8_smallestPatrol_27 0 rfl ?_
      refine z_iload_n C (pc := 29) dX8_smallestPatrol_29 4 rfl ?_
      refine z_icmp_ge C (pc := 30) (tgt := 39) dX8_smallestPatrol_30 (by decide) h (fun h => ?_) (fun h => ?_)
      · refine z_iinc C (pc := 39) (y := w4 + (1 : Int32)) (lv' := [(4, .int (w4 + (1 : Int32))), (5, .int r6), (0, va_rf (some f0)), (1, .int f1), (2, .int w2), (3, .int w3)]) dX8_smallestPatrol_39 5 rfl rfl (by decide) rfl ?_
        refine z_goto C (pc := 42) (tgt := 12) dX8_smallestPatrol_42 (by decide) ?_
        refine z_sub [2, 3, 4, 5, 0] (lv' := [(0, va_rf (some f0)), (1, .int f1), (2, .int w2), (3, .int w3), (4, .int (w4 + (1 : Int32)))]) rfl ?_
        exact ih S5 w2 w3 (w4 + (1 : Int32)) h
      · refine z_iload C (pc := 33) dX8_smallestPatrol_33 5 rfl ?_
        refine z_istore_n C (pc := 35) (lv' := [(2, .int w4), (5, .int r6), (0, va_rf (some f0)), (1, .int f1), (3, .int w3), (4, .int w4)]) dX8_smallestPatrol_35 (by decide) rfl ?_
        refine z_iload C (pc := 36) dX8_smallestPatrol_36 1 rfl ?_
        refine z_istore_n C (pc := 38) (lv' := [(3, .int r6), (2, .int w4), (5, .int r6), (0, va_rf (some f0)), (1, .int f1), (4, .int w4)]) dX8_smallestPatrol_38 (by decide) rfl ?_
        refine z_iinc C (pc := 39) (y := w4 + (1 : Int32)) (lv' := [(4, .int (w4 + (1 : Int32))), (3, .int r6), (2, .int w4), (5, .int r6), (0, va_rf (some f0)), (1, .int f1)]) dX8_smallestPatrol_39 5 rfl rfl (by decide) rfl ?_
        refine z_goto C (pc := 42) (tgt := 12) dX8_smallestPatrol_42 (by decide) ?_
        refine z_sub [4, 5, 2, 1, 0] (lv' := [(0, va_rf (some f0)), (1, .int f1), (2, .int w4), (3, .int r6), (4, .int (w4 + (1 : Int32)))]) rfl ?_
        exact ih S5 w4 r6 (w4 + (1 : Int32)) h
set_option maxHeartbeats 4000000 in
set_option maxRecDepth 100000 in
theorem c_X8_smallestPatrol (l : Launch) (v : Ev) (S : Hp) (x0 : Nat) (x1 : Int32) : CI l v yX8_smallestPatrol cX8_smallestPatrol 6 (some .int) rm_X8_smallestPatrol [va_rf (some x0), .int x1] S (fun Q _ => wp_X8_smallestPatrol S x0 x1 Q) := by
  intro Q EQ h
  refine z_start [(0, va_rf (some x0)), (1, .int x1)] (by decide +kernel) (by simp only [la_i, la_r, la_n]) (cat_cr (cat_ci cat_nil)) (by simp only [ls_i, ls_r, ls_n]; decide) (fun z C N T => ?_)
  unfold wp_X8_smallestPatrol at h
  refine z_iconst C (pc := 0) (x := (0 : Int32)) dX8_smallestPatrol_0 kic_0 ?_
  refine z_istore_n C (pc := 1) (lv' := [(2, .int (0 : Int32)), (0, va_rf (some x0)), (1, .int x1)]) dX8_smallestPatrol_1 (by decide) rfl ?_
  refine z_aload_n C (pc := 2) dX8_smallestPatrol_2 1 rfl ?_
  refine z_iload_n C (pc := 3) dX8_smallestPatrol_3 2 rfl ?_
  refine z_iconst C (pc := 4) (x := (0 : Int32)) dX8_smallestPatrol_4 kic_0 ?_
  obtain ⟨o1, h⟩ := h
  refine z_Vi C (pc := 5) (KX := fun _ _ => False) (kc' := 0) (ks' := 0) (As := [.int x1, .int (0 : Int32)]) (rest := []) rfl (c_X8_childrenInPatrol l v S x0 x1 (0 : Int32)) mw_X8_childrenInPatrol bw_289 bw_291 bw_p6 (fit_of rfl) rfl rfl (Nat.le_of_ble_eq_true rfl) (by decide) rfl o1 dX8_smallestPatrol_5 h (fun r3 S2 h => ?_) (fun En S9 h => h.elim)
  refine z_istore_n C (pc := 8) (lv' := [(3, .int r3), (2, .int (0 : Int32)), (0, va_rf (some x0)), (1, .int x1)]) dX8_smallestPatrol_8 (by decide) rfl ?_
  refine z_iconst C (pc := 9) (x := (1 : Int32)) dX8_smallestPatrol_9 kic_1 ?_
  refine z_istore C (pc := 10) (lv' := [(4, .int (1 : Int32)), (3, .int r3), (2, .int (0 : Int32)), (0, va_rf (some x0)), (1, .int x1)]) dX8_smallestPatrol_10 (by decide) rfl ?_
  obtain ⟨n7, h⟩ := h
  refine z_sub [3, 4, 2, 1, 0] (lv' := [(0, va_rf (some x0)), (1, .int x1), (2, .int (0 : Int32)), (3, .int r3), (4, .int (1 : Int32))]) rfl ?_
  exact l_X8_smallestPatrol_L12 l v x0 x1 Q C N T n7 S2 (0 : Int32) r3 (1 : Int32) h
def wp_X8_comeIn (S : Hp) (x0 : Nat) (x1 : Option Nat) (x2 : Int32) (Q : Hp → Prop) : Prop :=
  okA S 8 x0 ∧ (wp_X8_smallestPatrol S x0 x2 (fun r3 S2 => rd S2 1 x1 (fun a4 => lt (s_I S2 104 a4 r3) (fun S7 => rd S7 1 x1 (fun a8 => lt (s_I S7 102 a8 x2) (fun S11 => rd S11 1 x1 (fun a12 => lt (s_I S11 103 a12 (-1 : Int32)) (fun S15 => Q S15))))))))
def rm_X8_comeIn : Room := { frames := 5, cells := 0, slots := 0, locals := 114 }
set_option maxHeartbeats 4000000 in
set_option maxRecDepth 100000 in
theorem c_X8_comeIn (l : Launch) (v : Ev) (S : Hp) (x0 : Nat) (x1 : Option Nat) (x2 : Int32) : CV l v yX8_comeIn cX8_comeIn 3 none rm_X8_comeIn [va_rf (some x0), va_rf x1, .int x2] S (fun Q _ => wp_X8_comeIn S x0 x1 x2 Q) := by
  intro Q EQ h
  refine z_start [(0, va_rf (some x0)), (1, va_rf x1), (2, .int x2)] (by decide +kernel) (by simp only [la_i, la_r, la_n]) (cat_cr (cat_cr (cat_ci cat_nil))) (by simp only [ls_i, ls_r, ls_n]; decide) (fun z C N T => ?_)
  unfold wp_X8_comeIn at h
  refine z_aload_n C (pc := 0) dX8_comeIn_0 1 rfl ?_
  refine z_aload_n C (pc := 1) dX8_comeIn_1 0 rfl ?_
  refine z_iload_n C (pc := 2) dX8_comeIn_2 2 rfl ?_
  obtain ⟨o1, h⟩ := h
  refine z_Vi C (pc := 3) (KX := fun _ _ => False) (kc' := 0) (ks' := 0) (As := [.int x2]) (rest := [va_rf x1]) rfl (c_X8_smallestPatrol l v S x0 x2) mw_X8_smallestPatrol bw_559 bw_561 bw_p15 (fit_of rfl) rfl rfl (Nat.le_of_ble_eq_true rfl) (by decide) rfl o1 dX8_comeIn_3 h (fun r3 S2 h => ?_) (fun En S9 h => h.elim)
  obtain ⟨a4, e5, o6, h⟩ := h
  refine z_putI C (pc := 6) kf1 4 (by decide) rfl rfl bw_499 (fun _ _ _ _ h => h) dX8_comeIn_6 e5 o6 ?_
  refine z_lt h (fun S7 h => ?_)
  refine z_aload_n C (pc := 9) dX8_comeIn_9 1 rfl ?_
  refine z_iload_n C (pc := 10) dX8_comeIn_10 2 rfl ?_
  obtain ⟨a8, e9, o10, h⟩ := h
  refine z_putI C (pc := 11) kf1 2 (by decide) rfl rfl bw_495 (fun _ _ _ _ h => h) dX8_comeIn_11 e9 o10 ?_
  refine z_lt h (fun S11 h => ?_)
  refine z_aload_n C (pc := 14) dX8_comeIn_14 1 rfl ?_
  refine z_iconst C (pc := 15) (x := (-1 : Int32)) dX8_comeIn_15 kic_m1 ?_
  obtain ⟨a12, e13, o14, h⟩ := h
  refine z_putI C (pc := 16) kf1 3 (by decide) rfl rfl bw_497 (fun _ _ _ _ h => h) dX8_comeIn_16 e13 o14 ?_
  refine z_lt h (fun S15 h => ?_)
  exact z_vret C (pc := 19) T dX8_comeIn_19 (by decide) (by decide) h
def wp_X8_waitingFor_L4 (f0 : Nat) (f1 : Int32) (Q : Int32 → Hp → Prop) : Nat → Hp → Int32 → Int32 → Prop
  | 0, _, _, _ => False
  | n + 1, S, w2, w3 => okA S 8 f0 ∧ (rd S 10 (g_P S 801 f0) (fun a2 => wp_Jx4a65c_size_8abf5 S a2 (fun r6 S5 => if r6 ≤ w3 then (Q w2 S5) else (okA S5 8 f0 ∧ (rd S5 10 (g_P S5 801 f0) (fun a8 => wp_Jx4a65c_get_915e3 S5 a8 w3 (fun r12 S11 => (∀ a, r12 = some a → okA S11 1 a) ∧ (rd S11 1 r12 (fun a14 => if (g_I S11 103 a14) = f1 then (wp_X8_waitingFor_L4 f0 f1 Q n S11 (w2 + (1 : Int32)) (w3 + (1 : Int32))) else (wp_X8_waitingFor_L4 f0 f1 Q n S11 w2 (w3 + (1 : Int32))))))))))))
def wp_X8_waitingFor (S : Hp) (x0 : Nat) (x1 : Int32) (Q : Int32 → Hp → Prop) : Prop :=
  ∃ n17, wp_X8_waitingFor_L4 x0 x1 Q n17 S (0 : Int32) (0 : Int32)
def rm_X8_waitingFor : Room := { frames := 3, cells := 0, slots := 0, locals := 64 }
set_option maxHeartbeats 4000000 in
set_option maxRecDepth 100000 in
theorem l_X8_waitingFor_L4 (l : Launch) (v : Ev) (f0 : Nat) (f1 : Int32) (Q : Int32 → Hp → Prop) {EQ : String → Hp → Prop} {z : Z9} (C : Cx l v RX8 cX8_waitingFor 4 (some .int) "waitingFor" z) (N : NT z) (T : EE v rm_X8_waitingFor (QI v Q) EQ z) : ∀ (n : Nat) (S : Hp) (w2 : Int32) (w3 : Int32), wp_X8_waitingFor_L4 f0 f1 Q n S w2 w3 → ZZ l v 4 rm_X8_waitingFor z 0 0 S 4 [(0, va_rf (some f0)), (1, .int f1), (2, .int w2), (3, .int w3)] [] := by
  intro n
  induction n with
  | zero =>
    intro S w2 w3 h
    exact h.elim
  | succ n ih =>
    intro S w2 w3 h
    unfold wp_X8_waitingFor_L4 at h
    refine z_iload_n C (pc := 4) dX8_waitingFor_4 3 rfl ?_
    refine z_aload_n C (pc := 5) dX8_waitingFor_5 0 rfl ?_
    obtain ⟨o1, h⟩ := h
    refine z_getP C (pc := 6) kf8 1 (by decide) rfl bw_75 (fun _ _ _ _ h => h) dX8_waitingFor_6 rfl o1 ?_
    obtain ⟨a2, e3, o4, h⟩ := h
    refine z_Vi C (pc := 9) (KX := fun _ _ => False) (kc' := 0) (ks' := 0) (As := []) (rest := [.int w3]) e3 (c_Jx4a65c_size_8abf5 l v S a2) mw_Jx4a65c_size_8abf5 bw_121 bw_122 bw_123 (fit_of rfl) rfl rfl (Nat.le_of_ble_eq_true rfl) (by decide) rfl o4 dX8_waitingFor_9 h (fun r6 S5 h => ?_) (fun En S9 h => h.elim)
    refine z_icmp_ge C (pc := 12) (tgt := 42) dX8_waitingFor_12 (by decide) h (fun h => ?_) (fun h => ?_)
    · refine z_iload_n C (pc := 42) dX8_waitingFor_42 2 rfl ?_
      exact z_iret C (pc := 43) T dX8_waitingFor_43 (by decide) (by decide) h
    · refine z_aload_n C (pc := 15) dX8_waitingFor_15 0 rfl ?_
      obtain ⟨o7, h⟩ := h
      refine z_getP C (pc := 16) kf8 1 (by decide) rfl bw_75 (fun _ _ _ _ h => h) dX8_waitingFor_16 rfl o7 ?_
      refine z_iload_n C (pc := 19) dX8_waitingFor_19 3 rfl ?_
      obtain ⟨a8, e9, o10, h⟩ := h
      refine z_Vq C (pc := 20) (KX := fun _ _ => False) (kc' := 0) (ks' := 0) (As := [.int w3]) (rest := []) e9 (c_Jx4a65c_get_915e3 l v S5 a8 w3) mw_Jx4a65c_get_915e3 bw_196 bw_197 bw_198 (fit_of rfl) rfl rfl (Nat.le_of_ble_eq_true rfl) (by decide) rfl o10 dX8_waitingFor_20 h (fun r12 S11 h => ?_) (fun En S9 h => h.elim)
      obtain ⟨k13, h⟩ := h
      refine z_cast C (pc := 23) (κ := 1) (by decide) rfl bw_210 dX8_waitingFor_23 k13 ?_
      obtain ⟨a14, e15, o16, h⟩ := h
      refine z_getI C (pc := 26) kf1 3 (by decide) rfl bw_497 (fun _ _ _ _ h => h) dX8_waitingFor_26 e15 o16 ?_
      refine z_iload_n C (pc := 29) dX8_waitingFor_29 1 rfl ?_
      refine z_icmp_ne C (pc := 30) (tgt := 36) dX8_waitingFor_30 (by decide) h (fun h => ?_) (fun h => ?_)
      · refine z_iinc C (pc := 36) (y := w3 + (1 : Int32)) (lv' := [(3, .int (w3 + (1 : Int32))), (0, va_rf (some f0)), (1, .int f1), (2, .int w2)]) dX8_waitingFor_36 3 rfl rfl (by decide) rfl ?_
        refine z_goto C (pc := 39) (tgt := 4) dX8_waitingFor_39 (by decide) ?_
        refine z_sub [1, 2, 3, 0] (lv' := [(0, va_rf (some f0)), (1, .int f1), (2, .int w2), (3, .int (w3 + (1 : Int32)))]) rfl ?_
        exact ih S11 w2 (w3 + (1 : Int32)) h
      · refine z_iinc C (pc := 33) (y := w2 + (1 : Int32)) (lv' := [(2, .int (w2 + (1 : Int32))), (0, va_rf (some f0)), (1, .int f1), (3, .int w3)]) dX8_waitingFor_33 2 rfl rfl (by decide) rfl ?_
        refine z_iinc C (pc := 36) (y := w3 + (1 : Int32)) (lv' := [(3, .int (w3 + (1 : Int32))), (2, .int (w2 + (1 : Int32))), (0, va_rf (some f0)), (1, .int f1)]) dX8_waitingFor_36 3 rfl rfl (by decide) rfl ?_
        refine z_goto C (pc := 39) (tgt := 4) dX8_waitingFor_39 (by decide) ?_
        refine z_sub [2, 3, 1, 0] (lv' := [(0, va_rf (some f0)), (1, .int f1), (2, .int (w2 + (1 : Int32))), (3, .int (w3 + (1 : Int32)))]) rfl ?_
        exact ih S11 (w2 + (1 : Int32)) (w3 + (1 : Int32)) h
set_option maxHeartbeats 4000000 in
set_option maxRecDepth 100000 in
theorem c_X8_waitingFor (l : Launch) (v : Ev) (S : Hp) (x0 : Nat) (x1 : Int32) : CI l v yX8_waitingFor cX8_waitingFor 4 (some .int) rm_X8_waitingFor [va_rf (some x0), .int x1] S (fun Q _ => wp_X8_waitingFor S x0 x1 Q) := by
  intro Q EQ h
  refine z_start [(0, va_rf (some x0)), (1, .int x1)] (by decide +kernel) (by simp only [la_i, la_r, la_n]) (cat_cr (cat_ci cat_nil)) (by simp only [ls_i, ls_r, ls_n]; decide) (fun z C N T => ?_)
  unfold wp_X8_waitingFor at h
  refine z_iconst C (pc := 0) (x := (0 : Int32)) dX8_waitingFor_0 kic_0 ?_
  refine z_istore_n C (pc := 1) (lv' := [(2, .int (0 : Int32)), (0, va_rf (some x0)), (1, .int x1)]) dX8_waitingFor_1 (by decide) rfl ?_
  refine z_iconst C (pc := 2) (x := (0 : Int32)) dX8_waitingFor_2 kic_0 ?_
  refine z_istore_n C (pc := 3) (lv' := [(3, .int (0 : Int32)), (2, .int (0 : Int32)), (0, va_rf (some x0)), (1, .int x1)]) dX8_waitingFor_3 (by decide) rfl ?_
  obtain ⟨n17, h⟩ := h
  refine z_sub [2, 3, 1, 0] (lv' := [(0, va_rf (some x0)), (1, .int x1), (2, .int (0 : Int32)), (3, .int (0 : Int32))]) rfl ?_
  exact l_X8_waitingFor_L4 l v x0 x1 Q C N T n17 S (0 : Int32) (0 : Int32) h
def wp_X8_comeInOrWait (S : Hp) (x0 : Nat) (x1 : Option Nat) (x2 : Option Nat) (Q : Int32 → Hp → Prop) : Prop :=
  rd S 7 x2 (fun a1 => okA S 8 x0 ∧ (wp_X8_childrenIn S x0 (g_I S 700 a1) (fun r6 S5 => rd S5 7 x2 (fun a7 => if (g_I S5 703 a7) ≤ r6 then (rd S5 7 x2 (fun a10 => rd S5 1 x1 (fun a13 => lt (s_I S5 103 a13 (g_I S5 700 a10)) (fun S16 => okA S16 8 x0 ∧ (rd S16 1 x1 (fun a18 => lt (s_I S16 105 a18 (g_I S16 806 x0)) (fun S21 => okA S21 8 x0 ∧ (lt (s_I S21 806 x0 ((g_I S21 806 x0) + (1 : Int32))) (fun S23 => rd S23 7 x2 (fun a24 => okA S23 8 x0 ∧ (wp_X8_waitingFor S23 x0 (g_I S23 700 a24) (fun r29 S28 => Q r29 S28)))))))))))) else (rd S5 7 x2 (fun a30 => okA S5 8 x0 ∧ (wp_X8_comeIn S5 x0 x1 (g_I S5 700 a30) (fun S34 => Q (0 : Int32) S34))))))))
def rm_X8_comeInOrWait : Room := { frames := 6, cells := 0, slots := 0, locals := 136 }
set_option maxHeartbeats 4000000 in
set_option maxRecDepth 100000 in
theorem c_X8_comeInOrWait (l : Launch) (v : Ev) (S : Hp) (x0 : Nat) (x1 : Option Nat) (x2 : Option Nat) : CI l v yX8_comeInOrWait cX8_comeInOrWait 3 (some .int) rm_X8_comeInOrWait [va_rf (some x0), va_rf x1, va_rf x2] S (fun Q _ => wp_X8_comeInOrWait S x0 x1 x2 Q) := by
  intro Q EQ h
  refine z_start [(0, va_rf (some x0)), (1, va_rf x1), (2, va_rf x2)] (by decide +kernel) (by simp only [la_i, la_r, la_n]) (cat_cr (cat_cr (cat_cr cat_nil))) (by simp only [ls_i, ls_r, ls_n]; decide) (fun z C N T => ?_)
  unfold wp_X8_comeInOrWait at h
  refine z_aload_n C (pc := 0) dX8_comeInOrWait_0 0 rfl ?_
  refine z_aload_n C (pc := 1) dX8_comeInOrWait_1 2 rfl ?_
  obtain ⟨a1, e2, o3, h⟩ := h
  refine z_getI C (pc := 2) kf7 0 (by decide) rfl bw_405 (fun _ _ _ _ h => h) dX8_comeInOrWait_2 e2 o3 ?_
  obtain ⟨o4, h⟩ := h
  refine z_Vi C (pc := 5) (KX := fun _ _ => False) (kc' := 0) (ks' := 0) (As := [.int (g_I S 700 a1)]) (rest := []) rfl (c_X8_childrenIn l v S x0 (g_I S 700 a1)) mw_X8_childrenIn bw_269 bw_271 bw_p4 (fit_of rfl) rfl rfl (Nat.le_of_ble_eq_true rfl) (by decide) rfl o4 dX8_comeInOrWait_5 h (fun r6 S5 h => ?_) (fun En S9 h => h.elim)
  refine z_aload_n C (pc := 8) dX8_comeInOrWait_8 2 rfl ?_
  obtain ⟨a7, e8, o9, h⟩ := h
  refine z_getI C (pc := 9) kf7 3 (by decide) rfl bw_409 (fun _ _ _ _ h => h) dX8_comeInOrWait_9 e8 o9 ?_
  refine z_icmp_ge C (pc := 12) (tgt := 26) dX8_comeInOrWait_12 (by decide) h (fun h => ?_) (fun h => ?_)
  · refine z_aload_n C (pc := 26) dX8_comeInOrWait_26 1 rfl ?_
    refine z_aload_n C (pc := 27) dX8_comeInOrWait_27 2 rfl ?_
    obtain ⟨a10, e11, o12, h⟩ := h
    refine z_getI C (pc := 28) kf7 0 (by decide) rfl bw_405 (fun _ _ _ _ h => h) dX8_comeInOrWait_28 e11 o12 ?_
    obtain ⟨a13, e14, o15, h⟩ := h
    refine z_putI C (pc := 31) kf1 3 (by decide) rfl rfl bw_497 (fun _ _ _ _ h => h) dX8_comeInOrWait_31 e14 o15 ?_
    refine z_lt h (fun S16 h => ?_)
    refine z_aload_n C (pc := 34) dX8_comeInOrWait_34 1 rfl ?_
    refine z_aload_n C (pc := 35) dX8_comeInOrWait_35 0 rfl ?_
    obtain ⟨o17, h⟩ := h
    refine z_getI C (pc := 36) kf8 6 (by decide) rfl bw_80 (fun _ _ _ _ h => h) dX8_comeInOrWait_36 rfl o17 ?_
    obtain ⟨a18, e19, o20, h⟩ := h
    refine z_putI C (pc := 39) kf1 5 (by decide) rfl rfl bw_500 (fun _ _ _ _ h => h) dX8_comeInOrWait_39 e19 o20 ?_
    refine z_lt h (fun S21 h => ?_)
    refine z_aload_n C (pc := 42) dX8_comeInOrWait_42 0 rfl ?_
    refine z_dup C (pc := 43) dX8_comeInOrWait_43 (cat_rf _) ?_
    obtain ⟨o22, h⟩ := h
    refine z_getI C (pc := 44) kf8 6 (by decide) rfl bw_80 (fun _ _ _ _ h => h) dX8_comeInOrWait_44 rfl o22 ?_
    refine z_iconst C (pc := 47) (x := (1 : Int32)) dX8_comeInOrWait_47 kic_1 ?_
    refine z_iadd C (pc := 48) dX8_comeInOrWait_48 ?_
    refine z_putI C (pc := 49) kf8 6 (by decide) rfl rfl bw_80 (fun _ _ _ _ h => h) dX8_comeInOrWait_49 rfl o22 ?_
    refine z_lt h (fun S23 h => ?_)
    refine z_aload_n C (pc := 52) dX8_comeInOrWait_52 0 rfl ?_
    refine z_aload_n C (pc := 53) dX8_comeInOrWait_53 2 rfl ?_
    obtain ⟨a24, e25, o26, h⟩ := h
    refine z_getI C (pc := 54) kf7 0 (by decide) rfl bw_405 (fun _ _ _ _ h => h) dX8_comeInOrWait_54 e25 o26 ?_
    obtain ⟨o27, h⟩ := h
    refine z_Vi C (pc := 57) (KX := fun _ _ => False) (kc' := 0) (ks' := 0) (As := [.int (g_I S23 700 a24)]) (rest := []) rfl (c_X8_waitingFor l v S23 x0 (g_I S23 700 a24)) mw_X8_waitingFor bw_265 bw_267 bw_p3 (fit_of rfl) rfl rfl (Nat.le_of_ble_eq_true rfl) (by decide) rfl o27 dX8_comeInOrWait_57 h (fun r29 S28 h => ?_) (fun En S9 h => h.elim)
    exact z_iret C (pc := 60) T dX8_comeInOrWait_60 (by decide) (by decide) h
  · refine z_aload_n C (pc := 15) dX8_comeInOrWait_15 0 rfl ?_
    refine z_aload_n C (pc := 16) dX8_comeInOrWait_16 1 rfl ?_
    refine z_aload_n C (pc := 17) dX8_comeInOrWait_17 2 rfl ?_
    obtain ⟨a30, e31, o32, h⟩ := h
    refine z_getI C (pc := 18) kf7 0 (by decide) rfl bw_405 (fun _ _ _ _ h => h) dX8_comeInOrWait_18 e31 o32 ?_
    obtain ⟨o33, h⟩ := h
    refine z_Vv C (pc := 21) (KX := fun _ _ => False) (kc' := 0) (ks' := 0) (As := [va_rf x1, .int (g_I S5 700 a30)]) (rest := []) rfl (c_X8_comeIn l v S5 x0 x1 (g_I S5 700 a30)) mw_X8_comeIn bw_555 bw_557 bw_p14 (fit_of rfl) rfl rfl (Nat.le_of_ble_eq_true rfl) (by decide) rfl o33 dX8_comeInOrWait_21 h (fun S34 h => ?_) (fun En S9 h => h.elim)
    refine z_iconst C (pc := 24) (x := (0 : Int32)) dX8_comeInOrWait_24 kic_0 ?_
    exact z_iret C (pc := 25) T dX8_comeInOrWait_25 (by decide) (by decide) h
def wp_X8_join (S : Hp) (x0 : Nat) (x1 : Int32) (x2 : Int32) (Q : Int32 → Hp → Prop) (EQ : String → Hp → Prop) : Prop :=
  okA S 8 x0 ∧ (wp_X8_childAt S x0 x1 (fun r3 S2 => okA S2 8 x0 ∧ (wp_X8_troopAt S2 x0 x2 (fun r6 S5 => rd S5 1 r3 (fun a7 => if (g_I S5 102 a7) = (-1 : Int32) then (rd S5 1 r3 (fun a10 => if (g_I S5 103 a10) = (-1 : Int32) then (rd S5 1 r3 (fun a13 => rd S5 7 r6 (fun a16 => wp_X7_isFor S5 a16 (g_I S5 101 a13) (fun r20 S19 => if r20 = 0 then (EQ "java/lang/IllegalStateException" S19) else (okA S19 8 x0 ∧ (wp_X8_comeInOrWait S19 x0 r3 r6 (fun r23 S22 => Q r23 S22))))))) else (EQ "java/lang/IllegalStateException" S5))) else (EQ "java/lang/IllegalStateException" S5))) EQ)) EQ)
def rm_X8_join : Room := { frames := 8, cells := 3, slots := 18, locals := 158 }
set_option maxHeartbeats 4000000 in
set_option maxRecDepth 100000 in
theorem c_X8_join (l : Launch) (hfl : l.stackTraces = false) (v : Ev) (S : Hp) (x0 : Nat) (x1 : Int32) (x2 : Int32) : CI l v yX8_join cX8_join 5 (some .int) rm_X8_join [va_rf (some x0), .int x1, .int x2] S (fun Q EQ => wp_X8_join S x0 x1 x2 Q EQ) := by
  intro Q EQ h
  refine z_start [(0, va_rf (some x0)), (1, .int x1), (2, .int x2)] (by decide +kernel) (by simp only [la_i, la_r, la_n]) (cat_cr (cat_ci (cat_ci cat_nil))) (by simp only [ls_i, ls_r, ls_n]; decide) (fun z C N T => ?_)
  unfold wp_X8_join at h
  refine z_aload_n C (pc := 0) dX8_join_0 0 rfl ?_
  refine z_iload_n C (pc := 1) dX8_join_1 1 rfl ?_
  obtain ⟨o1, h⟩ := h
  refine z_Vq C (pc := 2) (kc' := 1) (ks' := 6) (As := [.int x1]) (rest := []) rfl (c_X8_childAt l hfl v S x0 x1) mw_X8_childAt bw_117 bw_119 bw_p0 (fit_of rfl) rfl rfl (Nat.le_of_ble_eq_true rfl) (by decide) rfl o1 dX8_join_2 h (fun r3 S2 h => ?_) (fun En S9 h => z_out C T N (by decide) (by decide) h)
  refine z_astore_n C (pc := 5) (lv' := [(3, va_rf r3), (0, va_rf (some x0)), (1, .int x1), (2, .int x2)]) dX8_join_5 (by decide) rfl ?_
  refine z_aload_n C (pc := 6) dX8_join_6 1 rfl ?_
  refine z_iload_n C (pc := 7) dX8_join_7 3 rfl ?_
  obtain ⟨o4, h⟩ := h
  refine z_Vq C (pc := 8) (kc' := 2) (ks' := 12) (As := [.int x2]) (rest := []) rfl (c_X8_troopAt l hfl v S2 x0 x2) mw_X8_troopAt bw_260 bw_262 bw_p2 (fit_of rfl) rfl rfl (Nat.le_of_ble_eq_true rfl) (by decide) rfl o4 dX8_join_8 h (fun r6 S5 h => ?_) (fun En S9 h => z_out C T N (by decide) (by decide) h)
  refine z_astore C (pc := 11) (lv' := [(4, va_rf r6), (3, va_rf r3), (0, va_rf (some x0)), (1, .int x1), (2, .int x2)]) dX8_join_11 (by decide) rfl ?_
  refine z_aload_n C (pc := 13) dX8_join_13 1 rfl ?_
  obtain ⟨a7, e8, o9, h⟩ := h
  refine z_getI C (pc := 14) kf1 2 (by decide) rfl bw_495 (fun _ _ _ _ h => h) dX8_join_14 e8 o9 ?_
  refine z_iconst C (pc := 17) (x := (-1 : Int32)) dX8_join_17 kic_m1 ?_
  refine z_icmp_ne C (pc := 18) (tgt := 29) dX8_join_18 (by decide) h (fun h => ?_) (fun h => ?_)
  · exact z_throw C (pc := 29) (text := "the child is in a troop or waits for one") (names := ["java/lang/RuntimeException", "java/lang/Exception"]) hfl T N ft_IllegalStateException bw_383 bw_10 st_X8_80 at_X8_82 go_X8_82 ⟨by decide +kernel, by decide +kernel⟩ dX8_join_29 dX8_join_32 dX8_join_33 dX8_join_35 dX8_join_38 ⟨by decide, Nat.le_of_ble_eq_true rfl, by decide, by decide⟩ h
  · refine z_aload_n C (pc := 21) dX8_join_21 1 rfl ?_
    obtain ⟨a10, e11, o12, h⟩ := h
    refine z_getI C (pc := 22) kf1 3 (by decide) rfl bw_497 (fun _ _ _ _ h => h) dX8_join_22 e11 o12 ?_
    refine z_iconst C (pc := 25) (x := (-1 : Int32)) dX8_join_25 kic_m1 ?_
    refine z_icmp_eq C (pc := 26) (tgt := 39) dX8_join_26 (by decide) h (fun h => ?_) (fun h => ?_)
    · refine z_aload C (pc := 39) dX8_join_39 0 rfl ?_
      refine z_aload_n C (pc := 41) dX8_join_41 1 rfl ?_
      obtain ⟨a13, e14, o15, h⟩ := h
      refine z_getI C (pc := 42) kf1 1 (by decide) rfl bw_493 (fun _ _ _ _ h => h) dX8_join_42 e14 o15 ?_
      obtain ⟨a16, e17, o18, h⟩ := h
      refine z_Vi C (pc := 45) (KX := fun _ _ => False) (kc' := 2) (ks' := 12) (As := [.int (g_I S5 101 a13)]) (rest := []) e17 (c_X7_isFor l v S5 a16 (g_I S5 101 a13)) mw_X7_isFor bw_546 bw_547 bw_548 (fit_of rfl) rfl rfl (Nat.le_of_ble_eq_true rfl) (by decide) rfl o18 dX8_join_45 h (fun r20 S19 h => ?_) (fun En S9 h => h.elim)
      refine z_if_ne C (pc := 48) (tgt := 61) dX8_join_48 (by decide) h (fun h => ?_) (fun h => ?_)
      · refine z_aload_n C (pc := 61) dX8_join_61 2 rfl ?_
        refine z_aload_n C (pc := 62) dX8_join_62 1 rfl ?_
        refine z_aload C (pc := 63) dX8_join_63 0 rfl ?_
        obtain ⟨o21, h⟩ := h
        refine z_Vi C (pc := 65) (KX := fun _ _ => False) (kc' := 2) (ks' := 12) (As := [va_rf r3, va_rf r6]) (rest := []) rfl (c_X8_comeInOrWait l v S19 x0 r3 r6) mw_X8_comeInOrWait bw_551 bw_553 bw_p13 (fit_of rfl) rfl rfl (Nat.le_of_ble_eq_true rfl) (by decide) rfl o21 dX8_join_65 h (fun r23 S22 h => ?_) (fun En S9 h => h.elim)
        exact z_iret C (pc := 68) T dX8_join_68 (by decide) (by decide) h
      · exact z_throw C (pc := 51) (text := "the troop is not for the age of the child") (names := ["java/lang/RuntimeException", "java/lang/Exception"]) hfl T N ft_IllegalStateException bw_383 bw_10 st_X8_92 at_X8_82 go_X8_82 ⟨by decide +kernel, by decide +kernel⟩ dX8_join_51 dX8_join_54 dX8_join_55 dX8_join_57 dX8_join_60 ⟨by decide, Nat.le_of_ble_eq_true rfl, by decide, by decide⟩ h
    · exact z_throw C (pc := 29) (text := "the child is in a troop or waits for one") (names := ["java/lang/RuntimeException", "java/lang/Exception"]) hfl T N ft_IllegalStateException bw_383 bw_10 st_X8_80 at_X8_82 go_X8_82 ⟨by decide +kernel, by decide +kernel⟩ dX8_join_29 dX8_join_32 dX8_join_33 dX8_join_35 dX8_join_38 ⟨by decide, Nat.le_of_ble_eq_true rfl, by decide, by decide⟩ h
def wp_X8_firstWaiting_L4 (f0 : Nat) (f1 : Int32) (Q : Option Nat → Hp → Prop) : Nat → Hp → Option Nat → Int32 → Prop
  | 0, _, _, _ => False
  | n + 1, S, w2, w3 => okA S 8 f0 ∧ (rd S 10 (g_P S 801 f0) (fun a2 => wp_Jx4a65c_size_8abf5 S a2 (fun r6 S5 => if r6 ≤ w3 then (Q w2 S5) else (okA S5 8 f0 ∧ (rd S5 10 (g_P S5 801 f0) (fun a8 => wp_Jx4a65c_get_915e3 S5 a8 w3 (fun r12 S11 => (∀ a, r12 = some a → okA S11 1 a) ∧ (rd S11 1 r12 (fun a14 => if (g_I S11 103 a14) = f1 then (if w2 = none then (wp_X8_firstWaiting_L4 f0 f1 Q n S11 r12 (w3 + (1 : Int32))) else (rd S11 1 r12 (fun a17 => rd S11 1 w2 (fun a20 => if (g_I S11 105 a20) ≤ (g_I S11 105 a17) then (wp_X8_firstWaiting_L4 f0 f1 Q n S11 w2 (w3 + (1 : Int32))) else (wp_X8_firstWaiting_L4 f0 f1 Q n S11 r12 (w3 + (1 : Int32))))))) else (wp_X8_firstWaiting_L4 f0 f1 Q n S11 w2 (w3 + (1 : Int32))))))))))))
def wp_X8_firstWaiting (S : Hp) (x0 : Nat) (x1 : Int32) (Q : Option Nat → Hp → Prop) : Prop :=
  ∃ n23, wp_X8_firstWaiting_L4 x0 x1 Q n23 S none (0 : Int32)
def rm_X8_firstWaiting : Room := { frames := 3, cells := 0, slots := 0, locals := 64 }
set_option maxHeartbeats 4000000 in
set_option maxRecDepth 100000 in
theorem l_X8_firstWaiting_L4 (l : Launch) (v : Ev) (f0 : Nat) (f1 : Int32) (Q : Option Nat → Hp → Prop) {EQ : String → Hp → Prop} {z : Z9} (C : Cx l v RX8 cX8_firstWaiting 5 (some (.object "Badgewood$Child")) "firstWaiting" z) (N : NT z) (T : EE v rm_X8_firstWaiting (QQ v Q) EQ z) : ∀ (n : Nat) (S : Hp) (w2 : Option Nat) (w3 : Int32), wp_X8_firstWaiting_L4 f0 f1 Q n S w2 w3 → ZZ l v 5 rm_X8_firstWaiting z 0 0 S 4 [(0, va_rf (some f0)), (1, .int f1), (2, va_rf w2), (3, .int w3)] [] := by
  intro n
  induction n with
  | zero =>
    intro S w2 w3 h
    exact h.elim
  | succ n ih =>
    intro S w2 w3 h
    unfold wp_X8_firstWaiting_L4 at h
    refine z_iload_n C (pc := 4) dX8_firstWaiting_4 3 rfl ?_
    refine z_aload_n C (pc := 5) dX8_firstWaiting_5 0 rfl ?_
    obtain ⟨o1, h⟩ := h
    refine z_getP C (pc := 6) kf8 1 (by decide) rfl bw_75 (fun _ _ _ _ h => h) dX8_firstWaiting_6 rfl o1 ?_
    obtain ⟨a2, e3, o4, h⟩ := h
    refine z_Vi C (pc := 9) (KX := fun _ _ => False) (kc' := 0) (ks' := 0) (As := []) (rest := [.int w3]) e3 (c_Jx4a65c_size_8abf5 l v S a2) mw_Jx4a65c_size_8abf5 bw_121 bw_122 bw_123 (fit_of rfl) rfl rfl (Nat.le_of_ble_eq_true rfl) (by decide) rfl o4 dX8_firstWaiting_9 h (fun r6 S5 h => ?_) (fun En S9 h => h.elim)
    refine z_icmp_ge C (pc := 12) (tgt := 62) dX8_firstWaiting_12 (by decide) h (fun h => ?_) (fun h => ?_)
    · refine z_aload_n C (pc := 62) dX8_firstWaiting_62 2 rfl ?_
      exact z_aret C (pc := 63) rfl (Or.inl ⟨_, rfl⟩) T dX8_firstWaiting_63 (by decide) (by decide) h
    · refine z_aload_n C (pc := 15) dX8_firstWaiting_15 0 rfl ?_
      obtain ⟨o7, h⟩ := h
      refine z_getP C (pc := 16) kf8 1 (by decide) rfl bw_75 (fun _ _ _ _ h => h) dX8_firstWaiting_16 rfl o7 ?_
      refine z_iload_n C (pc := 19) dX8_firstWaiting_19 3 rfl ?_
      obtain ⟨a8, e9, o10, h⟩ := h
      refine z_Vq C (pc := 20) (KX := fun _ _ => False) (kc' := 0) (ks' := 0) (As := [.int w3]) (rest := []) e9 (c_Jx4a65c_get_915e3 l v S5 a8 w3) mw_Jx4a65c_get_915e3 bw_196 bw_197 bw_198 (fit_of rfl) rfl rfl (Nat.le_of_ble_eq_true rfl) (by decide) rfl o10 dX8_firstWaiting_20 h (fun r12 S11 h => ?_) (fun En S9 h => h.elim)
      obtain ⟨k13, h⟩ := h
      refine z_cast C (pc := 23) (κ := 1) (by decide) rfl bw_210 dX8_firstWaiting_23 k13 ?_
      refine z_astore C (pc := 26) (lv' := [(4, va_rf r12), (0, va_rf (some f0)), (1, .int f1), (2, va_rf w2), (3, .int w3)]) dX8_firstWaiting_26 (by decide) rfl ?_
      refine z_aload C (pc := 28) dX8_firstWaiting_28 0 rfl ?_
      obtain ⟨a14, e15, o16, h⟩ := h
      refine z_getI C (pc := 30) kf1 3 (by decide) rfl bw_497 (fun _ _ _ _ h => h) dX8_firstWaiting_30 e15 o16 ?_
      refine z_iload_n C (pc := 33) dX8_firstWaiting_33 2 rfl ?_
      refine z_icmp_ne C (pc := 34) (tgt := 56) dX8_firstWaiting_34 (by decide) h (fun h => ?_) (fun h => ?_)
      · refine z_iinc C (pc := 56) (y := w3 + (1 : Int32)) (lv' := [(3, .int (w3 + (1 : Int32))), (4, va_rf r12), (0, va_rf (some f0)), (1, .int f1), (2, va_rf w2)]) dX8_firstWaiting_56 4 rfl rfl (by decide) rfl ?_
        refine z_goto C (pc := 59) (tgt := 4) dX8_firstWaiting_59 (by decide) ?_
        refine z_sub [2, 3, 4, 0] (lv' := [(0, va_rf (some f0)), (1, .int f1), (2, va_rf w2), (3, .int (w3 + (1 : Int32)))]) rfl ?_
        exact ih S11 w2 (w3 + (1 : Int32)) h
      · refine z_aload_n C (pc := 37) dX8_firstWaiting_37 3 rfl ?_
        refine z_ifnull C (pc := 38) (tgt := 53) dX8_firstWaiting_38 (by decide) h (fun h => ?_) (fun h => ?_)
        · refine z_aload C (pc := 53) dX8_firstWaiting_53 0 rfl ?_
          refine z_astore_n C (pc := 55) (lv' := [(2, va_rf r12), (4, va_rf r12), (0, va_rf (some f0)), (1, .int f1), (3, .int w3)]) dX8_firstWaiting_55 (by decide) rfl ?_
          refine z_iinc C (pc := 56) (y := w3 + (1 : Int32)) (lv' := [(3, .int (w3 + (1 : Int32))), (2, va_rf r12), (4, va_rf r12), (0, va_rf (some f0)), (1, .int f1)]) dX8_firstWaiting_56 4 rfl rfl (by decide) rfl ?_
          refine z_goto C (pc := 59) (tgt := 4) dX8_firstWaiting_59 (by decide) ?_
          refine z_sub [3, 4, 1, 0] (lv' := [(0, va_rf (some f0)), (1, .int f1), (2, va_rf r12), (3, .int (w3 + (1 : Int32)))]) rfl ?_
          exact ih S11 r12 (w3 + (1 : Int32)) h
        · refine z_aload C (pc := 41) dX8_firstWaiting_41 0 rfl ?_
          obtain ⟨a17, e18, o19, h⟩ := h
          refine z_getI C (pc := 43) kf1 5 (by decide) rfl bw_500 (fun _ _ _ _ h => h) dX8_firstWaiting_43 e18 o19 ?_
          refine z_aload_n C (pc := 46) dX8_firstWaiting_46 3 rfl ?_
          obtain ⟨a20, e21, o22, h⟩ := h
          refine z_getI C (pc := 47) kf1 5 (by decide) rfl bw_500 (fun _ _ _ _ h => h) dX8_firstWaiting_47 e21 o22 ?_
          refine z_icmp_ge C (pc := 50) (tgt := 56) dX8_firstWaiting_50 (by decide) h (fun h => ?_) (fun h => ?_)
          · refine z_iinc C (pc := 56) (y := w3 + (1 : Int32)) (lv' := [(3, .int (w3 + (1 : Int32))), (4, va_rf r12), (0, va_rf (some f0)), (1, .int f1), (2, va_rf w2)]) dX8_firstWaiting_56 4 rfl rfl (by decide) rfl ?_
            refine z_goto C (pc := 59) (tgt := 4) dX8_firstWaiting_59 (by decide) ?_
            refine z_sub [2, 3, 4, 0] (lv' := [(0, va_rf (some f0)), (1, .int f1), (2, va_rf w2), (3, .int (w3 + (1 : Int32)))]) rfl ?_
            exact ih S11 w2 (w3 + (1 : Int32)) h
          · refine z_aload C (pc := 53) dX8_firstWaiting_53 0 rfl ?_
            refine z_astore_n C (pc := 55) (lv' := [(2, va_rf r12), (4, va_rf r12), (0, va_rf (some f0)), (1, .int f1), (3, .int w3)]) dX8_firstWaiting_55 (by decide) rfl ?_
            refine z_iinc C (pc := 56) (y := w3 + (1 : Int32)) (lv' := [(3, .int (w3 + (1 : Int32))), (2, va_rf r12), (4, va_rf r12), (0, va_rf (some f0)), (1, .int f1)]) dX8_firstWaiting_56 4 rfl rfl (by decide) rfl ?_
            refine z_goto C (pc := 59) (tgt := 4) dX8_firstWaiting_59 (by decide) ?_
            refine z_sub [3, 4, 1, 0] (lv' := [(0, va_rf (some f0)), (1, .int f1), (2, va_rf r12), (3, .int (w3 + (1 : Int32)))]) rfl ?_
            exact ih S11 r12 (w3 + (1 : Int32)) h
set_option maxHeartbeats 4000000 in
set_option maxRecDepth 100000 in
theorem c_X8_firstWaiting (l : Launch) (v : Ev) (S : Hp) (x0 : Nat) (x1 : Int32) : CQ l v yX8_firstWaiting cX8_firstWaiting 5 (some (.object "Badgewood$Child")) rm_X8_firstWaiting [va_rf (some x0), .int x1] S (fun Q _ => wp_X8_firstWaiting S x0 x1 Q) := by
  intro Q EQ h
  refine z_start [(0, va_rf (some x0)), (1, .int x1)] (by decide +kernel) (by simp only [la_i, la_r, la_n]) (cat_cr (cat_ci cat_nil)) (by simp only [ls_i, ls_r, ls_n]; decide) (fun z C N T => ?_)
  unfold wp_X8_firstWaiting at h
  refine z_null C (pc := 0) dX8_firstWaiting_0 ?_
  refine z_astore_n C (pc := 1) (lv' := [(2, va_rf none), (0, va_rf (some x0)), (1, .int x1)]) dX8_firstWaiting_1 (by decide) rfl ?_
  refine z_iconst C (pc := 2) (x := (0 : Int32)) dX8_firstWaiting_2 kic_0 ?_
  refine z_istore_n C (pc := 3) (lv' := [(3, .int (0 : Int32)), (2, va_rf none), (0, va_rf (some x0)), (1, .int x1)]) dX8_firstWaiting_3 (by decide) rfl ?_
  obtain ⟨n23, h⟩ := h
  refine z_sub [2, 3, 1, 0] (lv' := [(0, va_rf (some x0)), (1, .int x1), (2, va_rf none), (3, .int (0 : Int32))]) rfl ?_
  exact l_X8_firstWaiting_L4 l v x0 x1 Q C N T n23 S none (0 : Int32) h
def wp_X8_letFirstIn (S : Hp) (x0 : Nat) (x1 : Int32) (Q : Int32 → Hp → Prop) : Prop :=
  okA S 8 x0 ∧ (wp_X8_firstWaiting S x0 x1 (fun r3 S2 => if r3 = none then (Q (-1 : Int32) S2) else (okA S2 8 x0 ∧ (wp_X8_comeIn S2 x0 r3 x1 (fun S5 => rd S5 1 r3 (fun a6 => Q (g_I S5 100 a6) S5))))))
def rm_X8_letFirstIn : Room := { frames := 6, cells := 0, slots := 0, locals := 136 }
set_option maxHeartbeats 4000000 in
set_option maxRecDepth 100000 in
theorem c_X8_letFirstIn (l : Launch) (v : Ev) (S : Hp) (x0 : Nat) (x1 : Int32) : CI l v yX8_letFirstIn cX8_letFirstIn 3 (some .int) rm_X8_letFirstIn [va_rf (some x0), .int x1] S (fun Q _ => wp_X8_letFirstIn S x0 x1 Q) := by
  intro Q EQ h
  refine z_start [(0, va_rf (some x0)), (1, .int x1)] (by decide +kernel) (by simp only [la_i, la_r, la_n]) (cat_cr (cat_ci cat_nil)) (by simp only [ls_i, ls_r, ls_n]; decide) (fun z C N T => ?_)
  unfold wp_X8_letFirstIn at h
  refine z_aload_n C (pc := 0) dX8_letFirstIn_0 0 rfl ?_
  refine z_iload_n C (pc := 1) dX8_letFirstIn_1 1 rfl ?_
  obtain ⟨o1, h⟩ := h
  refine z_Vq C (pc := 2) (KX := fun _ _ => False) (kc' := 0) (ks' := 0) (As := [.int x1]) (rest := []) rfl (c_X8_firstWaiting l v S x0 x1) mw_X8_firstWaiting bw_576 bw_578 bw_p17 (fit_of rfl) rfl rfl (Nat.le_of_ble_eq_true rfl) (by decide) rfl o1 dX8_letFirstIn_2 h (fun r3 S2 h => ?_) (fun En S9 h => h.elim)
  refine z_astore_n C (pc := 5) (lv' := [(2, va_rf r3), (0, va_rf (some x0)), (1, .int x1)]) dX8_letFirstIn_5 (by decide) rfl ?_
  refine z_aload_n C (pc := 6) dX8_letFirstIn_6 0 rfl ?_
  refine z_ifnonnull C (pc := 7) (tgt := 12) dX8_letFirstIn_7 (by decide) h (fun h => ?_) (fun h => ?_)
  · refine z_aload_n C (pc := 12) dX8_letFirstIn_12 1 rfl ?_
    refine z_aload_n C (pc := 13) dX8_letFirstIn_13 0 rfl ?_
    refine z_iload_n C (pc := 14) dX8_letFirstIn_14 2 rfl ?_
    obtain ⟨o4, h⟩ := h
    refine z_Vv C (pc := 15) (KX := fun _ _ => False) (kc' := 0) (ks' := 0) (As := [va_rf r3, .int x1]) (rest := []) rfl (c_X8_comeIn l v S2 x0 r3 x1) mw_X8_comeIn bw_555 bw_557 bw_p14 (fit_of rfl) rfl rfl (Nat.le_of_ble_eq_true rfl) (by decide) rfl o4 dX8_letFirstIn_15 h (fun S5 h => ?_) (fun En S9 h => h.elim)
    refine z_aload_n C (pc := 18) dX8_letFirstIn_18 0 rfl ?_
    obtain ⟨a6, e7, o8, h⟩ := h
    refine z_getI C (pc := 19) kf1 0 (by decide) rfl bw_491 (fun _ _ _ _ h => h) dX8_letFirstIn_19 e7 o8 ?_
    exact z_iret C (pc := 22) T dX8_letFirstIn_22 (by decide) (by decide) h
  · refine z_iconst C (pc := 10) (x := (-1 : Int32)) dX8_letFirstIn_10 kic_m1 ?_
    exact z_iret C (pc := 11) T dX8_letFirstIn_11 (by decide) (by decide) h
def wp_X8_leave (S : Hp) (x0 : Nat) (x1 : Int32) (Q : Int32 → Hp → Prop) (EQ : String → Hp → Prop) : Prop :=
  okA S 8 x0 ∧ (wp_X8_childAt S x0 x1 (fun r3 S2 => rd S2 1 r3 (fun a4 => if (g_I S2 102 a4) = (-1 : Int32) then (rd S2 1 r3 (fun a18 => if (g_I S2 103 a18) = (-1 : Int32) then (EQ "java/lang/IllegalStateException" S2) else (rd S2 1 r3 (fun a21 => lt (g_I S2 102 a21) (fun y24 => rd S2 1 r3 (fun a25 => wp_X1_goOut S2 a25 (fun S28 => if y24 = (-1 : Int32) then (Q (-1 : Int32) S28) else (okA S28 8 x0 ∧ (wp_X8_letFirstIn S28 x0 y24 (fun r31 S30 => Q r31 S30)))))))))) else (rd S2 1 r3 (fun a7 => lt (g_I S2 102 a7) (fun y10 => rd S2 1 r3 (fun a11 => wp_X1_goOut S2 a11 (fun S14 => if y10 = (-1 : Int32) then (Q (-1 : Int32) S14) else (okA S14 8 x0 ∧ (wp_X8_letFirstIn S14 x0 y10 (fun r17 S16 => Q r17 S16)))))))))) EQ)
def rm_X8_leave : Room := { frames := 8, cells := 2, slots := 12, locals := 158 }
set_option maxHeartbeats 4000000 in
set_option maxRecDepth 100000 in
theorem c_X8_leave (l : Launch) (hfl : l.stackTraces = false) (v : Ev) (S : Hp) (x0 : Nat) (x1 : Int32) : CI l v yX8_leave cX8_leave 4 (some .int) rm_X8_leave [va_rf (some x0), .int x1] S (fun Q EQ => wp_X8_leave S x0 x1 Q EQ) := by
  intro Q EQ h
  refine z_start [(0, va_rf (some x0)), (1, .int x1)] (by decide +kernel) (by simp only [la_i, la_r, la_n]) (cat_cr (cat_ci cat_nil)) (by simp only [ls_i, ls_r, ls_n]; decide) (fun z C N T => ?_)
  unfold wp_X8_leave at h
  refine z_aload_n C (pc := 0) dX8_leave_0 0 rfl ?_
  refine z_iload_n C (pc := 1) dX8_leave_1 1 rfl ?_
  obtain ⟨o1, h⟩ := h
  refine z_Vq C (pc := 2) (kc' := 1) (ks' := 6) (As := [.int x1]) (rest := []) rfl (c_X8_childAt l hfl v S x0 x1) mw_X8_childAt bw_117 bw_119 bw_p0 (fit_of rfl) rfl rfl (Nat.le_of_ble_eq_true rfl) (by decide) rfl o1 dX8_leave_2 h (fun r3 S2 h => ?_) (fun En S9 h => z_out C T N (by decide) (by decide) h)
  refine z_astore_n C (pc := 5) (lv' := [(2, va_rf r3), (0, va_rf (some x0)), (1, .int x1)]) dX8_leave_5 (by decide) rfl ?_
  refine z_aload_n C (pc := 6) dX8_leave_6 0 rfl ?_
  obtain ⟨a4, e5, o6, h⟩ := h
  refine z_getI C (pc := 7) kf1 2 (by decide) rfl bw_495 (fun _ _ _ _ h => h) dX8_leave_7 e5 o6 ?_
  refine z_iconst C (pc := 10) (x := (-1 : Int32)) dX8_leave_10 kic_m1 ?_
  refine z_icmp_ne C (pc := 11) (tgt := 32) dX8_leave_11 (by decide) h (fun h => ?_) (fun h => ?_)
  · refine z_aload_n C (pc := 32) dX8_leave_32 0 rfl ?_
    obtain ⟨a7, e8, o9, h⟩ := h
    refine z_getI C (pc := 33) kf1 2 (by decide) rfl bw_495 (fun _ _ _ _ h => h) dX8_leave_33 e8 o9 ?_
    refine z_nI h (fun y10 h => ?_)
    refine z_istore_n C (pc := 36) (lv' := [(3, .int y10), (2, va_rf r3), (0, va_rf (some x0)), (1, .int x1)]) dX8_leave_36 (by decide) rfl ?_
    refine z_aload_n C (pc := 37) dX8_leave_37 1 rfl ?_
    obtain ⟨a11, e12, o13, h⟩ := h
    refine z_Vv C (pc := 38) (KX := fun _ _ => False) (kc' := 1) (ks' := 6) (As := []) (rest := []) e12 (c_X1_goOut l v S2 a11) mw_X1_goOut bw_568 bw_569 bw_570 (fit_of rfl) rfl rfl (Nat.le_of_ble_eq_true rfl) (by decide) rfl o13 dX8_leave_38 h (fun S14 h => ?_) (fun En S9 h => h.elim)
    refine z_iload_n C (pc := 41) dX8_leave_41 0 rfl ?_
    refine z_iconst C (pc := 42) (x := (-1 : Int32)) dX8_leave_42 kic_m1 ?_
    refine z_icmp_ne C (pc := 43) (tgt := 50) dX8_leave_43 (by decide) h (fun h => ?_) (fun h => ?_)
    · refine z_aload_n C (pc := 50) dX8_leave_50 2 rfl ?_
      refine z_iload_n C (pc := 51) dX8_leave_51 0 rfl ?_
      obtain ⟨o15, h⟩ := h
      refine z_Vi C (pc := 52) (KX := fun _ _ => False) (kc' := 1) (ks' := 6) (As := [.int y10]) (rest := []) rfl (c_X8_letFirstIn l v S14 x0 y10) mw_X8_letFirstIn bw_572 bw_574 bw_p16 (fit_of rfl) rfl rfl (Nat.le_of_ble_eq_true rfl) (by decide) rfl o15 dX8_leave_52 h (fun r17 S16 h => ?_) (fun En S9 h => h.elim)
      exact z_iret C (pc := 55) T dX8_leave_55 (by decide) (by decide) h
    · refine z_iconst C (pc := 46) (x := (-1 : Int32)) dX8_leave_46 kic_m1 ?_
      refine z_goto C (pc := 47) (tgt := 55) dX8_leave_47 (by decide) ?_
      exact z_iret C (pc := 55) T dX8_leave_55 (by decide) (by decide) h
  · refine z_aload_n C (pc := 14) dX8_leave_14 0 rfl ?_
    obtain ⟨a18, e19, o20, h⟩ := h
    refine z_getI C (pc := 15) kf1 3 (by decide) rfl bw_497 (fun _ _ _ _ h => h) dX8_leave_15 e19 o20 ?_
    refine z_iconst C (pc := 18) (x := (-1 : Int32)) dX8_leave_18 kic_m1 ?_
    refine z_icmp_ne C (pc := 19) (tgt := 32) dX8_leave_19 (by decide) h (fun h => ?_) (fun h => ?_)
    · refine z_aload_n C (pc := 32) dX8_leave_32 0 rfl ?_
      obtain ⟨a21, e22, o23, h⟩ := h
      refine z_getI C (pc := 33) kf1 2 (by decide) rfl bw_495 (fun _ _ _ _ h => h) dX8_leave_33 e22 o23 ?_
      refine z_nI h (fun y24 h => ?_)
      refine z_istore_n C (pc := 36) (lv' := [(3, .int y24), (2, va_rf r3), (0, va_rf (some x0)), (1, .int x1)]) dX8_leave_36 (by decide) rfl ?_
      refine z_aload_n C (pc := 37) dX8_leave_37 1 rfl ?_
      obtain ⟨a25, e26, o27, h⟩ := h
      refine z_Vv C (pc := 38) (KX := fun _ _ => False) (kc' := 1) (ks' := 6) (As := []) (rest := []) e26 (c_X1_goOut l v S2 a25) mw_X1_goOut bw_568 bw_569 bw_570 (fit_of rfl) rfl rfl (Nat.le_of_ble_eq_true rfl) (by decide) rfl o27 dX8_leave_38 h (fun S28 h => ?_) (fun En S9 h => h.elim)
      refine z_iload_n C (pc := 41) dX8_leave_41 0 rfl ?_
      refine z_iconst C (pc := 42) (x := (-1 : Int32)) dX8_leave_42 kic_m1 ?_
      refine z_icmp_ne C (pc := 43) (tgt := 50) dX8_leave_43 (by decide) h (fun h => ?_) (fun h => ?_)
      · refine z_aload_n C (pc := 50) dX8_leave_50 2 rfl ?_
        refine z_iload_n C (pc := 51) dX8_leave_51 0 rfl ?_
        obtain ⟨o29, h⟩ := h
        refine z_Vi C (pc := 52) (KX := fun _ _ => False) (kc' := 1) (ks' := 6) (As := [.int y24]) (rest := []) rfl (c_X8_letFirstIn l v S28 x0 y24) mw_X8_letFirstIn bw_572 bw_574 bw_p16 (fit_of rfl) rfl rfl (Nat.le_of_ble_eq_true rfl) (by decide) rfl o29 dX8_leave_52 h (fun r31 S30 h => ?_) (fun En S9 h => h.elim)
        exact z_iret C (pc := 55) T dX8_leave_55 (by decide) (by decide) h
      · refine z_iconst C (pc := 46) (x := (-1 : Int32)) dX8_leave_46 kic_m1 ?_
        refine z_goto C (pc := 47) (tgt := 55) dX8_leave_47 (by decide) ?_
        exact z_iret C (pc := 55) T dX8_leave_55 (by decide) (by decide) h
    · exact z_throw C (pc := 22) (text := "the child is in no troop and waits for none") (names := ["java/lang/RuntimeException", "java/lang/Exception"]) hfl T N ft_IllegalStateException bw_383 bw_10 st_X8_98 at_X8_82 go_X8_82 ⟨by decide +kernel, by decide +kernel⟩ dX8_leave_22 dX8_leave_25 dX8_leave_26 dX8_leave_28 dX8_leave_31 ⟨by decide, Nat.le_of_ble_eq_true rfl, by decide, by decide⟩ h
def wp_X8_patrol (S : Hp) (x0 : Nat) (x1 : Int32) (x2 : Int32) (Q : Int32 → Hp → Prop) (EQ : String → Hp → Prop) : Prop :=
  okA S 8 x0 ∧ (wp_X8_childAt S x0 x1 (fun r3 S2 => wp_X8_requireRange S2 x2 (0 : Int32) (3 : Int32) (fun S4 => rd S4 1 r3 (fun a5 => if (g_I S4 102 a5) = (-1 : Int32) then (EQ "java/lang/IllegalStateException" S4) else (rd S4 1 r3 (fun a8 => lt (g_I S4 104 a8) (fun y11 => rd S4 1 r3 (fun a12 => lt (s_I S4 104 a12 x2) (fun S15 => Q y11 S15))))))) EQ) EQ)
def rm_X8_patrol : Room := { frames := 8, cells := 3, slots := 18, locals := 124 }
set_option maxHeartbeats 4000000 in
set_option maxRecDepth 100000 in
theorem c_X8_patrol (l : Launch) (hfl : l.stackTraces = false) (v : Ev) (S : Hp) (x0 : Nat) (x1 : Int32) (x2 : Int32) : CI l v yX8_patrol cX8_patrol 5 (some .int) rm_X8_patrol [va_rf (some x0), .int x1, .int x2] S (fun Q EQ => wp_X8_patrol S x0 x1 x2 Q EQ) := by
  intro Q EQ h
  refine z_start [(0, va_rf (some x0)), (1, .int x1), (2, .int x2)] (by decide +kernel) (by simp only [la_i, la_r, la_n]) (cat_cr (cat_ci (cat_ci cat_nil))) (by simp only [ls_i, ls_r, ls_n]; decide) (fun z C N T => ?_)
  unfold wp_X8_patrol at h
  refine z_aload_n C (pc := 0) dX8_patrol_0 0 rfl ?_
  refine z_iload_n C (pc := 1) dX8_patrol_1 1 rfl ?_
  obtain ⟨o1, h⟩ := h
  refine z_Vq C (pc := 2) (kc' := 1) (ks' := 6) (As := [.int x1]) (rest := []) rfl (c_X8_childAt l hfl v S x0 x1) mw_X8_childAt bw_117 bw_119 bw_p0 (fit_of rfl) rfl rfl (Nat.le_of_ble_eq_true rfl) (by decide) rfl o1 dX8_patrol_2 h (fun r3 S2 h => ?_) (fun En S9 h => z_out C T N (by decide) (by decide) h)
  refine z_astore_n C (pc := 5) (lv' := [(3, va_rf r3), (0, va_rf (some x0)), (1, .int x1), (2, .int x2)]) dX8_patrol_5 (by decide) rfl ?_
  refine z_iload_n C (pc := 6) dX8_patrol_6 3 rfl ?_
  refine z_iconst C (pc := 7) (x := (0 : Int32)) dX8_patrol_7 kic_0 ?_
  refine z_iconst C (pc := 8) (x := (3 : Int32)) dX8_patrol_8 kic_3 ?_
  refine z_Sv C (pc := 9) (kc' := 2) (ks' := 12) (As := [.int x2, .int (0 : Int32), .int (3 : Int32)]) (rest := []) (c_X8_requireRange l hfl v S2 x2 (0 : Int32) (3 : Int32)) mw_X8_requireRange bw_281 bw_282 (fit_of rfl) rfl rfl (Nat.le_of_ble_eq_true rfl) dX8_patrol_9 h (fun S4 h => ?_) (fun En S9 h => z_out C T N (by decide) (by decide) h)
  refine z_aload_n C (pc := 12) dX8_patrol_12 0 rfl ?_
  obtain ⟨a5, e6, o7, h⟩ := h
  refine z_getI C (pc := 13) kf1 2 (by decide) rfl bw_495 (fun _ _ _ _ h => h) dX8_patrol_13 e6 o7 ?_
  refine z_iconst C (pc := 16) (x := (-1 : Int32)) dX8_patrol_16 kic_m1 ?_
  refine z_icmp_ne C (pc := 17) (tgt := 30) dX8_patrol_17 (by decide) h (fun h => ?_) (fun h => ?_)
  · refine z_aload_n C (pc := 30) dX8_patrol_30 0 rfl ?_
    obtain ⟨a8, e9, o10, h⟩ := h
    refine z_getI C (pc := 31) kf1 4 (by decide) rfl bw_499 (fun _ _ _ _ h => h) dX8_patrol_31 e9 o10 ?_
    refine z_nI h (fun y11 h => ?_)
    refine z_istore C (pc := 34) (lv' := [(4, .int y11), (3, va_rf r3), (0, va_rf (some x0)), (1, .int x1), (2, .int x2)]) dX8_patrol_34 (by decide) rfl ?_
    refine z_aload_n C (pc := 36) dX8_patrol_36 1 rfl ?_
    refine z_iload_n C (pc := 37) dX8_patrol_37 4 rfl ?_
    obtain ⟨a12, e13, o14, h⟩ := h
    refine z_putI C (pc := 38) kf1 4 (by decide) rfl rfl bw_499 (fun _ _ _ _ h => h) dX8_patrol_38 e13 o14 ?_
    refine z_lt h (fun S15 h => ?_)
    refine z_iload C (pc := 41) dX8_patrol_41 0 rfl ?_
    exact z_iret C (pc := 43) T dX8_patrol_43 (by decide) (by decide) h
  · exact z_throw C (pc := 20) (text := "the child is in no troop") (names := ["java/lang/RuntimeException", "java/lang/Exception"]) hfl T N ft_IllegalStateException bw_383 bw_10 st_X8_107 at_X8_82 go_X8_82 ⟨by decide +kernel, by decide +kernel⟩ dX8_patrol_20 dX8_patrol_23 dX8_patrol_24 dX8_patrol_26 dX8_patrol_29 ⟨by decide, Nat.le_of_ble_eq_true rfl, by decide, by decide⟩ h
def wp_X8_filledPatrols_L4 (f0 : Nat) (f1 : Int32) (Q : Int32 → Hp → Prop) : Nat → Hp → Int32 → Int32 → Prop
  | 0, _, _, _ => False
  | n + 1, S, w2, w3 => if (4 : Int32) ≤ w3 then (Q w2 S) else (okA S 8 f0 ∧ (wp_X8_childrenInPatrol S f0 f1 w3 (fun r3 S2 => if r3 ≤ 0 then (wp_X8_filledPatrols_L4 f0 f1 Q n S2 w2 (w3 + (1 : Int32))) else (wp_X8_filledPatrols_L4 f0 f1 Q n S2 (w2 + (1 : Int32)) (w3 + (1 : Int32))))))
def wp_X8_filledPatrols (S : Hp) (x0 : Nat) (x1 : Int32) (Q : Int32 → Hp → Prop) : Prop :=
  ∃ n4, wp_X8_filledPatrols_L4 x0 x1 Q n4 S (0 : Int32) (0 : Int32)
def rm_X8_filledPatrols : Room := { frames := 4, cells := 0, slots := 0, locals := 89 }
set_option maxHeartbeats 4000000 in
set_option maxRecDepth 100000 in
theorem l_X8_filledPatrols_L4 (l : Launch) (v : Ev) (f0 : Nat) (f1 : Int32) (Q : Int32 → Hp → Prop) {EQ : String → Hp → Prop} {z : Z9} (C : Cx l v RX8 cX8_filledPatrols 4 (some .int) "filledPatrols" z) (N : NT z) (T : EE v rm_X8_filledPatrols (QI v Q) EQ z) : ∀ (n : Nat) (S : Hp) (w2 : Int32) (w3 : Int32), wp_X8_filledPatrols_L4 f0 f1 Q n S w2 w3 → ZZ l v 4 rm_X8_filledPatrols z 0 0 S 4 [(0, va_rf (some f0)), (1, .int f1), (2, .int w2), (3, .int w3)] [] := by
  intro n
  induction n with
  | zero =>
    intro S w2 w3 h
    exact h.elim
  | succ n ih =>
    intro S w2 w3 h
    unfold wp_X8_filledPatrols_L4 at h
    refine z_iload_n C (pc := 4) dX8_filledPatrols_4 3 rfl ?_
    refine z_iconst C (pc := 5) (x := (4 : Int32)) dX8_filledPatrols_5 kic_4 ?_
    refine z_icmp_ge C (pc := 6) (tgt := 27) dX8_filledPatrols_6 (by decide) h (fun h => ?_) (fun h => ?_)
    · refine z_iload_n C (pc := 27) dX8_filledPatrols_27 2 rfl ?_
      exact z_iret C (pc := 28) T dX8_filledPatrols_28 (by decide) (by decide) h
    · refine z_aload_n C (pc := 9) dX8_filledPatrols_9 0 rfl ?_
      refine z_iload_n C (pc := 10) dX8_filledPatrols_10 1 rfl ?_
      refine z_iload_n C (pc := 11) dX8_filledPatrols_11 3 rfl ?_
      obtain ⟨o1, h⟩ := h
      refine z_Vi C (pc := 12) (KX := fun _ _ => False) (kc' := 0) (ks' := 0) (As := [.int f1, .int w3]) (rest := []) rfl (c_X8_childrenInPatrol l v S f0 f1 w3) mw_X8_childrenInPatrol bw_289 bw_291 bw_p6 (fit_of rfl) rfl rfl (Nat.le_of_ble_eq_true rfl) (by decide) rfl o1 dX8_filledPatrols_12 h (fun r3 S2 h => ?_) (fun En S9 h => h.elim)
      refine z_if_le C (pc := 15) (tgt := 21) dX8_filledPatrols_15 (by decide) h (fun h => ?_) (fun h => ?_)
      · refine z_iinc C (pc := 21) (y := w3 + (1 : Int32)) (lv' := [(3, .int (w3 + (1 : Int32))), (0, va_rf (some f0)), (1, .int f1), (2, .int w2)]) dX8_filledPatrols_21 3 rfl rfl (by decide) rfl ?_
        refine z_goto C (pc := 24) (tgt := 4) dX8_filledPatrols_24 (by decide) ?_
        refine z_sub [1, 2, 3, 0] (lv' := [(0, va_rf (some f0)), (1, .int f1), (2, .int w2), (3, .int (w3 + (1 : Int32)))]) rfl ?_
        exact ih S2 w2 (w3 + (1 : Int32)) h
      · refine z_iinc C (pc := 18) (y := w2 + (1 : Int32)) (lv' := [(2, .int (w2 + (1 : Int32))), (0, va_rf (some f0)), (1, .int f1), (3, .int w3)]) dX8_filledPatrols_18 2 rfl rfl (by decide) rfl ?_
        refine z_iinc C (pc := 21) (y := w3 + (1 : Int32)) (lv' := [(3, .int (w3 + (1 : Int32))), (2, .int (w2 + (1 : Int32))), (0, va_rf (some f0)), (1, .int f1)]) dX8_filledPatrols_21 3 rfl rfl (by decide) rfl ?_
        refine z_goto C (pc := 24) (tgt := 4) dX8_filledPatrols_24 (by decide) ?_
        refine z_sub [2, 3, 1, 0] (lv' := [(0, va_rf (some f0)), (1, .int f1), (2, .int (w2 + (1 : Int32))), (3, .int (w3 + (1 : Int32)))]) rfl ?_
        exact ih S2 (w2 + (1 : Int32)) (w3 + (1 : Int32)) h
set_option maxHeartbeats 4000000 in
set_option maxRecDepth 100000 in
theorem c_X8_filledPatrols (l : Launch) (v : Ev) (S : Hp) (x0 : Nat) (x1 : Int32) : CI l v yX8_filledPatrols cX8_filledPatrols 4 (some .int) rm_X8_filledPatrols [va_rf (some x0), .int x1] S (fun Q _ => wp_X8_filledPatrols S x0 x1 Q) := by
  intro Q EQ h
  refine z_start [(0, va_rf (some x0)), (1, .int x1)] (by decide +kernel) (by simp only [la_i, la_r, la_n]) (cat_cr (cat_ci cat_nil)) (by simp only [ls_i, ls_r, ls_n]; decide) (fun z C N T => ?_)
  unfold wp_X8_filledPatrols at h
  refine z_iconst C (pc := 0) (x := (0 : Int32)) dX8_filledPatrols_0 kic_0 ?_
  refine z_istore_n C (pc := 1) (lv' := [(2, .int (0 : Int32)), (0, va_rf (some x0)), (1, .int x1)]) dX8_filledPatrols_1 (by decide) rfl ?_
  refine z_iconst C (pc := 2) (x := (0 : Int32)) dX8_filledPatrols_2 kic_0 ?_
  refine z_istore_n C (pc := 3) (lv' := [(3, .int (0 : Int32)), (2, .int (0 : Int32)), (0, va_rf (some x0)), (1, .int x1)]) dX8_filledPatrols_3 (by decide) rfl ?_
  obtain ⟨n4, h⟩ := h
  refine z_sub [2, 3, 1, 0] (lv' := [(0, va_rf (some x0)), (1, .int x1), (2, .int (0 : Int32)), (3, .int (0 : Int32))]) rfl ?_
  exact l_X8_filledPatrols_L4 l v x0 x1 Q C N T n4 S (0 : Int32) (0 : Int32) h
def wp_X8_filledPatrolAt_L5 (f0 : Nat) (f1 : Int32) (f2 : Int32) (Q : Int32 → Hp → Prop) : Nat → Hp → Int32 → Int32 → Prop
  | 0, _, _, _ => False
  | n + 1, S, w3, w4 => if (4 : Int32) ≤ w4 then (Q (-1 : Int32) S) else (okA S 8 f0 ∧ (wp_X8_childrenInPatrol S f0 f1 w4 (fun r3 S2 => if r3 ≤ 0 then (wp_X8_filledPatrolAt_L5 f0 f1 f2 Q n S2 w3 (w4 + (1 : Int32))) else (if w3 = f2 then (Q w4 S2) else (wp_X8_filledPatrolAt_L5 f0 f1 f2 Q n S2 (w3 + (1 : Int32)) (w4 + (1 : Int32)))))))
def wp_X8_filledPatrolAt (S : Hp) (x0 : Nat) (x1 : Int32) (x2 : Int32) (Q : Int32 → Hp → Prop) : Prop :=
  ∃ n4, wp_X8_filledPatrolAt_L5 x0 x1 x2 Q n4 S (0 : Int32) (0 : Int32)
def rm_X8_filledPatrolAt : Room := { frames := 4, cells := 0, slots := 0, locals := 89 }
set_option maxHeartbeats 4000000 in
set_option maxRecDepth 100000 in
theorem l_X8_filledPatrolAt_L5 (l : Launch) (v : Ev) (f0 : Nat) (f1 : Int32) (f2 : Int32) (Q : Int32 → Hp → Prop) {EQ : String → Hp → Prop} {z : Z9} (C : Cx l v RX8 cX8_filledPatrolAt 5 (some .int) "filledPatrolAt" z) (N : NT z) (T : EE v rm_X8_filledPatrolAt (QI v Q) EQ z) : ∀ (n : Nat) (S : Hp) (w3 : Int32) (w4 : Int32), wp_X8_filledPatrolAt_L5 f0 f1 f2 Q n S w3 w4 → ZZ l v 5 rm_X8_filledPatrolAt z 0 0 S 5 [(0, va_rf (some f0)), (1, .int f1), (2, .int f2), (3, .int w3), (4, .int w4)] [] := by
  intro n
  induction n with
  | zero =>
    intro S w3 w4 h
    exact h.elim
  | succ n ih =>
    intro S w3 w4 h
    unfold wp_X8_filledPatrolAt_L5 at h
    refine z_iload C (pc := 5) dX8_filledPatrolAt_5 4 rfl ?_
    refine z_iconst C (pc := 7) (x := (4 : Int32)) dX8_filledPatrolAt_7 kic_4 ?_
    refine z_icmp_ge C (pc := 8) (tgt := 38) dX8_filledPatrolAt_8 (by decide) h (fun h => ?_) (fun h => ?_)
    · refine z_iconst C (pc := 38) (x := (-1 : Int32)) dX8_filledPatrolAt_38 kic_m1 ?_
      exact z_iret C (pc := 39) T dX8_filledPatrolAt_39 (by decide) (by decide) h
    · refine z_aload_n C (pc := 11) dX8_filledPatrolAt_11 0 rfl ?_
      refine z_iload_n C (pc := 12) dX8_filledPatrolAt_12 1 rfl ?_
      refine z_iload C (pc := 13) dX8_filledPatrolAt_13 4 rfl ?_
      obtain ⟨o1, h⟩ := h
      refine z_Vi C (pc := 15) (KX := fun _ _ => False) (kc' := 0) (ks' := 0) (As := [.int f1, .int w4]) (rest := []) rfl (c_X8_childrenInPatrol l v S f0 f1 w4) mw_X8_childrenInPatrol bw_289 bw_291 bw_p6 (fit_of rfl) rfl rfl (Nat.le_of_ble_eq_true rfl) (by decide) rfl o1 dX8_filledPatrolAt_15 h (fun r3 S2 h => ?_) (fun En S9 h => h.elim)
      refine z_if_le C (pc := 18) (tgt := 32) dX8_filledPatrolAt_18 (by decide) h (fun h => ?_) (fun h => ?_)
      · refine z_iinc C (pc := 32) (y := w4 + (1 : Int32)) (lv' := [(4, .int (w4 + (1 : Int32))), (0, va_rf (some f0)), (1, .int f1), (2, .int f2), (3, .int w3)]) dX8_filledPatrolAt_32 4 rfl rfl (by decide) rfl ?_
        refine z_goto C (pc := 35) (tgt := 5) dX8_filledPatrolAt_35 (by decide) ?_
        refine z_sub [1, 2, 3, 4, 0] (lv' := [(0, va_rf (some f0)), (1, .int f1), (2, .int f2), (3, .int w3), (4, .int (w4 + (1 : Int32)))]) rfl ?_
        exact ih S2 w3 (w4 + (1 : Int32)) h
      · refine z_iload_n C (pc := 21) dX8_filledPatrolAt_21 3 rfl ?_
        refine z_iload_n C (pc := 22) dX8_filledPatrolAt_22 2 rfl ?_
        refine z_icmp_ne C (pc := 23) (tgt := 29) dX8_filledPatrolAt_23 (by decide) h (fun h => ?_) (fun h => ?_)
        · refine z_iinc C (pc := 29) (y := w3 + (1 : Int32)) (lv' := [(3, .int (w3 + (1 : Int32))), (0, va_rf (some f0)), (1, .int f1), (2, .int f2), (4, .int w4)]) dX8_filledPatrolAt_29 3 rfl rfl (by decide) rfl ?_
          refine z_iinc C (pc := 32) (y := w4 + (1 : Int32)) (lv' := [(4, .int (w4 + (1 : Int32))), (3, .int (w3 + (1 : Int32))), (0, va_rf (some f0)), (1, .int f1), (2, .int f2)]) dX8_filledPatrolAt_32 4 rfl rfl (by decide) rfl ?_
          refine z_goto C (pc := 35) (tgt := 5) dX8_filledPatrolAt_35 (by decide) ?_
          refine z_sub [2, 3, 4, 1, 0] (lv' := [(0, va_rf (some f0)), (1, .int f1), (2, .int f2), (3, .int (w3 + (1 : Int32))), (4, .int (w4 + (1 : Int32)))]) rfl ?_
          exact ih S2 (w3 + (1 : Int32)) (w4 + (1 : Int32)) h
        · refine z_iload C (pc := 26) dX8_filledPatrolAt_26 4 rfl ?_
          exact z_iret C (pc := 28) T dX8_filledPatrolAt_28 (by decide) (by decide) h
set_option maxHeartbeats 4000000 in
set_option maxRecDepth 100000 in
theorem c_X8_filledPatrolAt (l : Launch) (v : Ev) (S : Hp) (x0 : Nat) (x1 : Int32) (x2 : Int32) : CI l v yX8_filledPatrolAt cX8_filledPatrolAt 5 (some .int) rm_X8_filledPatrolAt [va_rf (some x0), .int x1, .int x2] S (fun Q _ => wp_X8_filledPatrolAt S x0 x1 x2 Q) := by
  intro Q EQ h
  refine z_start [(0, va_rf (some x0)), (1, .int x1), (2, .int x2)] (by decide +kernel) (by simp only [la_i, la_r, la_n]) (cat_cr (cat_ci (cat_ci cat_nil))) (by simp only [ls_i, ls_r, ls_n]; decide) (fun z C N T => ?_)
  unfold wp_X8_filledPatrolAt at h
  refine z_iconst C (pc := 0) (x := (0 : Int32)) dX8_filledPatrolAt_0 kic_0 ?_
  refine z_istore_n C (pc := 1) (lv' := [(3, .int (0 : Int32)), (0, va_rf (some x0)), (1, .int x1), (2, .int x2)]) dX8_filledPatrolAt_1 (by decide) rfl ?_
  refine z_iconst C (pc := 2) (x := (0 : Int32)) dX8_filledPatrolAt_2 kic_0 ?_
  refine z_istore C (pc := 3) (lv' := [(4, .int (0 : Int32)), (3, .int (0 : Int32)), (0, va_rf (some x0)), (1, .int x1), (2, .int x2)]) dX8_filledPatrolAt_3 (by decide) rfl ?_
  obtain ⟨n4, h⟩ := h
  refine z_sub [2, 3, 4, 1, 0] (lv' := [(0, va_rf (some x0)), (1, .int x1), (2, .int x2), (3, .int (0 : Int32)), (4, .int (0 : Int32))]) rfl ?_
  exact l_X8_filledPatrolAt_L5 l v x0 x1 x2 Q C N T n4 S (0 : Int32) (0 : Int32) h
def wp_X8_duty (S : Hp) (x0 : Nat) (x1 : Int32) (x2 : Int32) (Q : Int32 → Hp → Prop) (EQ : String → Hp → Prop) : Prop :=
  okA S 8 x0 ∧ (wp_X8_troopAt S x0 x1 (fun r3 S2 => wp_X8_requireRange S2 x2 (0 : Int32) (9999 : Int32) (fun S4 => rd S4 7 r3 (fun a5 => okA S4 8 x0 ∧ (wp_X8_filledPatrols S4 x0 (g_I S4 700 a5) (fun r10 S9 => if r10 = 0 then (Q (-1 : Int32) S9) else (rd S9 7 r3 (fun a11 => ¬ r10 = 0 ∧ (okA S9 8 x0 ∧ (wp_X8_filledPatrolAt S9 x0 (g_I S9 700 a11) (x2 - x2 / r10 * r10) (fun r17 S16 => Q r17 S16))))))))) EQ) EQ)
def rm_X8_duty : Room := { frames := 8, cells := 2, slots := 12, locals := 124 }
set_option maxHeartbeats 4000000 in
set_option maxRecDepth 100000 in
theorem c_X8_duty (l : Launch) (hfl : l.stackTraces = false) (v : Ev) (S : Hp) (x0 : Nat) (x1 : Int32) (x2 : Int32) : CI l v yX8_duty cX8_duty 5 (some .int) rm_X8_duty [va_rf (some x0), .int x1, .int x2] S (fun Q EQ => wp_X8_duty S x0 x1 x2 Q EQ) := by
  intro Q EQ h
  refine z_start [(0, va_rf (some x0)), (1, .int x1), (2, .int x2)] (by decide +kernel) (by simp only [la_i, la_r, la_n]) (cat_cr (cat_ci (cat_ci cat_nil))) (by simp only [ls_i, ls_r, ls_n]; decide) (fun z C N T => ?_)
  unfold wp_X8_duty at h
  refine z_aload_n C (pc := 0) dX8_duty_0 0 rfl ?_
  refine z_iload_n C (pc := 1) dX8_duty_1 1 rfl ?_
  obtain ⟨o1, h⟩ := h
  refine z_Vq C (pc := 2) (kc' := 1) (ks' := 6) (As := [.int x1]) (rest := []) rfl (c_X8_troopAt l hfl v S x0 x1) mw_X8_troopAt bw_260 bw_262 bw_p2 (fit_of rfl) rfl rfl (Nat.le_of_ble_eq_true rfl) (by decide) rfl o1 dX8_duty_2 h (fun r3 S2 h => ?_) (fun En S9 h => z_out C T N (by decide) (by decide) h)
  refine z_astore_n C (pc := 5) (lv' := [(3, va_rf r3), (0, va_rf (some x0)), (1, .int x1), (2, .int x2)]) dX8_duty_5 (by decide) rfl ?_
  refine z_iload_n C (pc := 6) dX8_duty_6 3 rfl ?_
  refine z_iconst C (pc := 7) (x := (0 : Int32)) dX8_duty_7 kic_0 ?_
  refine z_sipush C (pc := 8) (x := (9999 : Int32)) dX8_duty_8 ksp_9999 ?_
  refine z_Sv C (pc := 11) (kc' := 2) (ks' := 12) (As := [.int x2, .int (0 : Int32), .int (9999 : Int32)]) (rest := []) (c_X8_requireRange l hfl v S2 x2 (0 : Int32) (9999 : Int32)) mw_X8_requireRange bw_281 bw_282 (fit_of rfl) rfl rfl (Nat.le_of_ble_eq_true rfl) dX8_duty_11 h (fun S4 h => ?_) (fun En S9 h => z_out C T N (by decide) (by decide) h)
  refine z_aload_n C (pc := 14) dX8_duty_14 1 rfl ?_
  refine z_aload_n C (pc := 15) dX8_duty_15 0 rfl ?_
  obtain ⟨a5, e6, o7, h⟩ := h
  refine z_getI C (pc := 16) kf7 0 (by decide) rfl bw_405 (fun _ _ _ _ h => h) dX8_duty_16 e6 o7 ?_
  obtain ⟨o8, h⟩ := h
  refine z_Vi C (pc := 19) (KX := fun _ _ => False) (kc' := 2) (ks' := 12) (As := [.int (g_I S4 700 a5)]) (rest := []) rfl (c_X8_filledPatrols l v S4 x0 (g_I S4 700 a5)) mw_X8_filledPatrols bw_285 bw_287 bw_p5 (fit_of rfl) rfl rfl (Nat.le_of_ble_eq_true rfl) (by decide) rfl o8 dX8_duty_19 h (fun r10 S9 h => ?_) (fun En S9 h => h.elim)
  refine z_istore C (pc := 22) (lv' := [(4, .int r10), (3, va_rf r3), (0, va_rf (some x0)), (1, .int x1), (2, .int x2)]) dX8_duty_22 (by decide) rfl ?_
  refine z_iload C (pc := 24) dX8_duty_24 0 rfl ?_
  refine z_if_ne C (pc := 26) (tgt := 31) dX8_duty_26 (by decide) h (fun h => ?_) (fun h => ?_)
  · refine z_aload_n C (pc := 31) dX8_duty_31 2 rfl ?_
    refine z_aload_n C (pc := 32) dX8_duty_32 1 rfl ?_
    obtain ⟨a11, e12, o13, h⟩ := h
    refine z_getI C (pc := 33) kf7 0 (by decide) rfl bw_405 (fun _ _ _ _ h => h) dX8_duty_33 e12 o13 ?_
    refine z_iload_n C (pc := 36) dX8_duty_36 4 rfl ?_
    refine z_iload C (pc := 37) dX8_duty_37 0 rfl ?_
    obtain ⟨n14, h⟩ := h
    refine z_irem C (pc := 39) dX8_duty_39 n14 ?_
    obtain ⟨o15, h⟩ := h
    refine z_Vi C (pc := 40) (KX := fun _ _ => False) (kc' := 2) (ks' := 12) (As := [.int (g_I S9 700 a11), .int (x2 - x2 / r10 * r10)]) (rest := []) rfl (c_X8_filledPatrolAt l v S9 x0 (g_I S9 700 a11) (x2 - x2 / r10 * r10)) mw_X8_filledPatrolAt bw_293 bw_295 bw_p7 (fit_of rfl) rfl rfl (Nat.le_of_ble_eq_true rfl) (by decide) rfl o15 dX8_duty_40 h (fun r17 S16 h => ?_) (fun En S9 h => h.elim)
    exact z_iret C (pc := 43) T dX8_duty_43 (by decide) (by decide) h
  · refine z_iconst C (pc := 29) (x := (-1 : Int32)) dX8_duty_29 kic_m1 ?_
    exact z_iret C (pc := 30) T dX8_duty_30 (by decide) (by decide) h
def wp_X8_pass (S : Hp) (x0 : Nat) (x1 : Int32) (Q : Int32 → Hp → Prop) (EQ : String → Hp → Prop) : Prop :=
  wp_X8_requireRange S x1 (1 : Int32) (400 : Int32) (fun S1 => okA S1 8 x0 ∧ (if ((g_I S1 805 x0) + x1) ≤ (9999 : Int32) then (lt (s_I S1 805 x0 ((g_I S1 805 x0) + x1)) (fun S3 => okA S3 8 x0 ∧ (Q (g_I S3 805 x0) S3))) else (EQ "java/lang/IllegalStateException" S1))) EQ
def rm_X8_pass : Room := { frames := 7, cells := 2, slots := 12, locals := 104 }
set_option maxHeartbeats 4000000 in
set_option maxRecDepth 100000 in
theorem c_X8_pass (l : Launch) (hfl : l.stackTraces = false) (v : Ev) (S : Hp) (x0 : Nat) (x1 : Int32) : CI l v yX8_pass cX8_pass 2 (some .int) rm_X8_pass [va_rf (some x0), .int x1] S (fun Q EQ => wp_X8_pass S x0 x1 Q EQ) := by
  intro Q EQ h
  refine z_start [(0, va_rf (some x0)), (1, .int x1)] (by decide +kernel) (by simp only [la_i, la_r, la_n]) (cat_cr (cat_ci cat_nil)) (by simp only [ls_i, ls_r, ls_n]; decide) (fun z C N T => ?_)
  unfold wp_X8_pass at h
  refine z_iload_n C (pc := 0) dX8_pass_0 1 rfl ?_
  refine z_iconst C (pc := 1) (x := (1 : Int32)) dX8_pass_1 kic_1 ?_
  refine z_sipush C (pc := 2) (x := (400 : Int32)) dX8_pass_2 ksp_400 ?_
  refine z_Sv C (pc := 5) (kc' := 1) (ks' := 6) (As := [.int x1, .int (1 : Int32), .int (400 : Int32)]) (rest := []) (c_X8_requireRange l hfl v S x1 (1 : Int32) (400 : Int32)) mw_X8_requireRange bw_281 bw_282 (fit_of rfl) rfl rfl (Nat.le_of_ble_eq_true rfl) dX8_pass_5 h (fun S1 h => ?_) (fun En S9 h => z_out C T N (by decide) (by decide) h)
  refine z_aload_n C (pc := 8) dX8_pass_8 0 rfl ?_
  obtain ⟨o2, h⟩ := h
  refine z_getI C (pc := 9) kf8 5 (by decide) rfl bw_79 (fun _ _ _ _ h => h) dX8_pass_9 rfl o2 ?_
  refine z_iload_n C (pc := 12) dX8_pass_12 1 rfl ?_
  refine z_iadd C (pc := 13) dX8_pass_13 ?_
  refine z_sipush C (pc := 14) (x := (9999 : Int32)) dX8_pass_14 ksp_9999 ?_
  refine z_icmp_le C (pc := 17) (tgt := 30) dX8_pass_17 (by decide) h (fun h => ?_) (fun h => ?_)
  · refine z_aload_n C (pc := 30) dX8_pass_30 0 rfl ?_
    refine z_dup C (pc := 31) dX8_pass_31 (cat_rf _) ?_
    refine z_getI C (pc := 32) kf8 5 (by decide) rfl bw_79 (fun _ _ _ _ h => h) dX8_pass_32 rfl o2 ?_
    refine z_iload_n C (pc := 35) dX8_pass_35 1 rfl ?_
    refine z_iadd C (pc := 36) dX8_pass_36 ?_
    refine z_putI C (pc := 37) kf8 5 (by decide) rfl rfl bw_79 (fun _ _ _ _ h => h) dX8_pass_37 rfl o2 ?_
    refine z_lt h (fun S3 h => ?_)
    refine z_aload_n C (pc := 40) dX8_pass_40 0 rfl ?_
    obtain ⟨o4, h⟩ := h
    refine z_getI C (pc := 41) kf8 5 (by decide) rfl bw_79 (fun _ _ _ _ h => h) dX8_pass_41 rfl o4 ?_
    exact z_iret C (pc := 44) T dX8_pass_44 (by decide) (by decide) h
  · exact z_throw C (pc := 20) (text := "there are no days left") (names := ["java/lang/RuntimeException", "java/lang/Exception"]) hfl T N ft_IllegalStateException bw_383 bw_10 st_X8_122 at_X8_82 go_X8_82 ⟨by decide +kernel, by decide +kernel⟩ dX8_pass_20 dX8_pass_23 dX8_pass_24 dX8_pass_26 dX8_pass_29 ⟨by decide, Nat.le_of_ble_eq_true rfl, by decide, by decide⟩ h
def wp_X8_sendOutOf_L4 (f0 : Nat) (f1 : Option Nat) (Q : Int32 → Hp → Prop) : Nat → Hp → Int32 → Int32 → Prop
  | 0, _, _, _ => False
  | n + 1, S, w2, w3 => okA S 8 f0 ∧ (rd S 10 (g_P S 801 f0) (fun a2 => wp_Jx4a65c_size_8abf5 S a2 (fun r6 S5 => if r6 ≤ w3 then (Q w2 S5) else (okA S5 8 f0 ∧ (rd S5 10 (g_P S5 801 f0) (fun a8 => wp_Jx4a65c_get_915e3 S5 a8 w3 (fun r12 S11 => (∀ a, r12 = some a → okA S11 1 a) ∧ (rd S11 1 r12 (fun a14 => rd S11 7 f1 (fun a17 => wp_X7_isFor S11 a17 (g_I S11 101 a14) (fun r21 S20 => if r21 = 0 then (rd S20 1 r12 (fun a22 => rd S20 7 f1 (fun a25 => if (g_I S20 102 a22) = (g_I S20 700 a25) then (lt (w2 ||| ((1 : Int32) <<< (w3 &&& 31))) (fun y38 => rd S20 1 r12 (fun a39 => wp_X1_goOut S20 a39 (fun S42 => wp_X8_sendOutOf_L4 f0 f1 Q n S42 y38 (w3 + (1 : Int32)))))) else (rd S20 1 r12 (fun a28 => rd S20 7 f1 (fun a31 => if (g_I S20 103 a28) = (g_I S20 700 a31) then (rd S20 1 r12 (fun a34 => wp_X1_goOut S20 a34 (fun S37 => wp_X8_sendOutOf_L4 f0 f1 Q n S37 w2 (w3 + (1 : Int32))))) else (wp_X8_sendOutOf_L4 f0 f1 Q n S20 w2 (w3 + (1 : Int32))))))))) else (wp_X8_sendOutOf_L4 f0 f1 Q n S20 w2 (w3 + (1 : Int32))))))))))))))
def wp_X8_sendOutOf (S : Hp) (x0 : Nat) (x1 : Option Nat) (Q : Int32 → Hp → Prop) : Prop :=
  ∃ n43, wp_X8_sendOutOf_L4 x0 x1 Q n43 S (0 : Int32) (0 : Int32)
def rm_X8_sendOutOf : Room := { frames := 3, cells := 0, slots := 0, locals := 64 }
set_option maxHeartbeats 4000000 in
set_option maxRecDepth 100000 in
theorem l_X8_sendOutOf_L4 (l : Launch) (v : Ev) (f0 : Nat) (f1 : Option Nat) (Q : Int32 → Hp → Prop) {EQ : String → Hp → Prop} {z : Z9} (C : Cx l v RX8 cX8_sendOutOf 5 (some .int) "sendOutOf" z) (N : NT z) (T : EE v rm_X8_sendOutOf (QI v Q) EQ z) : ∀ (n : Nat) (S : Hp) (w2 : Int32) (w3 : Int32), wp_X8_sendOutOf_L4 f0 f1 Q n S w2 w3 → ZZ l v 5 rm_X8_sendOutOf z 0 0 S 4 [(0, va_rf (some f0)), (1, va_rf f1), (2, .int w2), (3, .int w3)] [] := by
  intro n
  induction n with
  | zero =>
    intro S w2 w3 h
    exact h.elim
  | succ n ih =>
    intro S w2 w3 h
    unfold wp_X8_sendOutOf_L4 at h
    refine z_iload_n C (pc := 4) dX8_sendOutOf_4 3 rfl ?_
    refine z_aload_n C (pc := 5) dX8_sendOutOf_5 0 rfl ?_
    obtain ⟨o1, h⟩ := h
    refine z_getP C (pc := 6) kf8 1 (by decide) rfl bw_75 (fun _ _ _ _ h => h) dX8_sendOutOf_6 rfl o1 ?_
    obtain ⟨a2, e3, o4, h⟩ := h
    refine z_Vi C (pc := 9) (KX := fun _ _ => False) (kc' := 0) (ks' := 0) (As := []) (rest := [.int w3]) e3 (c_Jx4a65c_size_8abf5 l v S a2) mw_Jx4a65c_size_8abf5 bw_121 bw_122 bw_123 (fit_of rfl) rfl rfl (Nat.le_of_ble_eq_true rfl) (by decide) rfl o4 dX8_sendOutOf_9 h (fun r6 S5 h => ?_) (fun En S9 h => h.elim)
    refine z_icmp_ge C (pc := 12) (tgt := 89) dX8_sendOutOf_12 (by decide) h (fun h => ?_) (fun h => ?_)
    · refine z_iload_n C (pc := 89) dX8_sendOutOf_89 2 rfl ?_
      exact z_iret C (pc := 90) T dX8_sendOutOf_90 (by decide) (by decide) h
    · refine z_aload_n C (pc := 15) dX8_sendOutOf_15 0 rfl ?_
      obtain ⟨o7, h⟩ := h
      refine z_getP C (pc := 16) kf8 1 (by decide) rfl bw_75 (fun _ _ _ _ h => h) dX8_sendOutOf_16 rfl o7 ?_
      refine z_iload_n C (pc := 19) dX8_sendOutOf_19 3 rfl ?_
      obtain ⟨a8, e9, o10, h⟩ := h
      refine z_Vq C (pc := 20) (KX := fun _ _ => False) (kc' := 0) (ks' := 0) (As := [.int w3]) (rest := []) e9 (c_Jx4a65c_get_915e3 l v S5 a8 w3) mw_Jx4a65c_get_915e3 bw_196 bw_197 bw_198 (fit_of rfl) rfl rfl (Nat.le_of_ble_eq_true rfl) (by decide) rfl o10 dX8_sendOutOf_20 h (fun r12 S11 h => ?_) (fun En S9 h => h.elim)
      obtain ⟨k13, h⟩ := h
      refine z_cast C (pc := 23) (κ := 1) (by decide) rfl bw_210 dX8_sendOutOf_23 k13 ?_
      refine z_astore C (pc := 26) (lv' := [(4, va_rf r12), (0, va_rf (some f0)), (1, va_rf f1), (2, .int w2), (3, .int w3)]) dX8_sendOutOf_26 (by decide) rfl ?_
      refine z_aload_n C (pc := 28) dX8_sendOutOf_28 2 rfl ?_
      refine z_aload C (pc := 29) dX8_sendOutOf_29 0 rfl ?_
      obtain ⟨a14, e15, o16, h⟩ := h
      refine z_getI C (pc := 31) kf1 1 (by decide) rfl bw_493 (fun _ _ _ _ h => h) dX8_sendOutOf_31 e15 o16 ?_
      obtain ⟨a17, e18, o19, h⟩ := h
      refine z_Vi C (pc := 34) (KX := fun _ _ => False) (kc' := 0) (ks' := 0) (As := [.int (g_I S11 101 a14)]) (rest := []) e18 (c_X7_isFor l v S11 a17 (g_I S11 101 a14)) mw_X7_isFor bw_546 bw_547 bw_548 (fit_of rfl) rfl rfl (Nat.le_of_ble_eq_true rfl) (by decide) rfl o19 dX8_sendOutOf_34 h (fun r21 S20 h => ?_) (fun En S9 h => h.elim)
      refine z_if_ne C (pc := 37) (tgt := 83) dX8_sendOutOf_37 (by decide) h (fun h => ?_) (fun h => ?_)
      · refine z_iinc C (pc := 83) (y := w3 + (1 : Int32)) (lv' := [(3, .int (w3 + (1 : Int32))), (4, va_rf r12), (0, va_rf (some f0)), (1, va_rf f1), (2, .int w2)]) dX8_sendOutOf_83 4 rfl rfl (by decide) rfl ?_
        refine z_goto C (pc := 86) (tgt := 4) dX8_sendOutOf_86 (by decide) ?_
        refine z_sub [2, 3, 4, 0] (lv' := [(0, va_rf (some f0)), (1, va_rf f1), (2, .int w2), (3, .int (w3 + (1 : Int32)))]) rfl ?_
        exact ih S20 w2 (w3 + (1 : Int32)) h
      · refine z_aload C (pc := 40) dX8_sendOutOf_40 0 rfl ?_
        obtain ⟨a22, e23, o24, h⟩ := h
        refine z_getI C (pc := 42) kf1 2 (by decide) rfl bw_495 (fun _ _ _ _ h => h) dX8_sendOutOf_42 e23 o24 ?_
        refine z_aload_n C (pc := 45) dX8_sendOutOf_45 2 rfl ?_
        obtain ⟨a25, e26, o27, h⟩ := h
        refine z_getI C (pc := 46) kf7 0 (by decide) rfl bw_405 (fun _ _ _ _ h => h) dX8_sendOutOf_46 e26 o27 ?_
        refine z_icmp_ne C (pc := 49) (tgt := 66) dX8_sendOutOf_49 (by decide) h (fun h => ?_) (fun h => ?_)
        · refine z_aload C (pc := 66) dX8_sendOutOf_66 0 rfl ?_
          obtain ⟨a28, e29, o30, h⟩ := h
          refine z_getI C (pc := 68) kf1 3 (by decide) rfl bw_497 (fun _ _ _ _ h => h) dX8_sendOutOf_68 e29 o30 ?_
          refine z_aload_n C (pc := 71) dX8_sendOutOf_71 2 rfl ?_
          obtain ⟨a31, e32, o33, h⟩ := h
          refine z_getI C (pc := 72) kf7 0 (by decide) rfl bw_405 (fun _ _ _ _ h => h) dX8_sendOutOf_72 e32 o33 ?_
          refine z_icmp_ne C (pc := 75) (tgt := 83) dX8_sendOutOf_75 (by decide) h (fun h => ?_) (fun h => ?_)
          · refine z_iinc C (pc := 83) (y := w3 + (1 : Int32)) (lv' := [(3, .int (w3 + (1 : Int32))), (4, va_rf r12), (0, va_rf (some f0)), (1, va_rf f1), (2, .int w2)]) dX8_sendOutOf_83 4 rfl rfl (by decide) rfl ?_
            refine z_goto C (pc := 86) (tgt := 4) dX8_sendOutOf_86 (by decide) ?_
            refine z_sub [2, 3, 4, 0] (lv' := [(0, va_rf (some f0)), (1, va_rf f1), (2, .int w2), (3, .int (w3 + (1 : Int32)))]) rfl ?_
            exact ih S20 w2 (w3 + (1 : Int32)) h
          · refine z_aload C (pc := 78) dX8_sendOutOf_78 0 rfl ?_
            obtain ⟨a34, e35, o36, h⟩ := h
            refine z_Vv C (pc := 80) (KX := fun _ _ => False) (kc' := 0) (ks' := 0) (As := []) (rest := []) e35 (c_X1_goOut l v S20 a34) mw_X1_goOut bw_568 bw_569 bw_570 (fit_of rfl) rfl rfl (Nat.le_of_ble_eq_true rfl) (by decide) rfl o36 dX8_sendOutOf_80 h (fun S37 h => ?_) (fun En S9 h => h.elim)
            refine z_iinc C (pc := 83) (y := w3 + (1 : Int32)) (lv' := [(3, .int (w3 + (1 : Int32))), (4, va_rf r12), (0, va_rf (some f0)), (1, va_rf f1), (2, .int w2)]) dX8_sendOutOf_83 4 rfl rfl (by decide) rfl ?_
            refine z_goto C (pc := 86) (tgt := 4) dX8_sendOutOf_86 (by decide) ?_
            refine z_sub [2, 3, 4, 0] (lv' := [(0, va_rf (some f0)), (1, va_rf f1), (2, .int w2), (3, .int (w3 + (1 : Int32)))]) rfl ?_
            exact ih S37 w2 (w3 + (1 : Int32)) h
        · refine z_iload_n C (pc := 52) dX8_sendOutOf_52 3 rfl ?_
          refine z_iconst C (pc := 53) (x := (1 : Int32)) dX8_sendOutOf_53 kic_1 ?_
          refine z_iload_n C (pc := 54) dX8_sendOutOf_54 4 rfl ?_
          refine z_ishl C (pc := 55) dX8_sendOutOf_55 ?_
          refine z_ior C (pc := 56) dX8_sendOutOf_56 ?_
          refine z_nI h (fun y38 h => ?_)
          refine z_istore_n C (pc := 57) (lv' := [(2, .int y38), (4, va_rf r12), (0, va_rf (some f0)), (1, va_rf f1), (3, .int w3)]) dX8_sendOutOf_57 (by decide) rfl ?_
          refine z_aload C (pc := 58) dX8_sendOutOf_58 1 rfl ?_
          obtain ⟨a39, e40, o41, h⟩ := h
          refine z_Vv C (pc := 60) (KX := fun _ _ => False) (kc' := 0) (ks' := 0) (As := []) (rest := []) e40 (c_X1_goOut l v S20 a39) mw_X1_goOut bw_568 bw_569 bw_570 (fit_of rfl) rfl rfl (Nat.le_of_ble_eq_true rfl) (by decide) rfl o41 dX8_sendOutOf_60 h (fun S42 h => ?_) (fun En S9 h => h.elim)
          refine z_goto C (pc := 63) (tgt := 83) dX8_sendOutOf_63 (by decide) ?_
          refine z_iinc C (pc := 83) (y := w3 + (1 : Int32)) (lv' := [(3, .int (w3 + (1 : Int32))), (2, .int y38), (4, va_rf r12), (0, va_rf (some f0)), (1, va_rf f1)]) dX8_sendOutOf_83 4 rfl rfl (by decide) rfl ?_
          refine z_goto C (pc := 86) (tgt := 4) dX8_sendOutOf_86 (by decide) ?_
          refine z_sub [3, 4, 1, 0] (lv' := [(0, va_rf (some f0)), (1, va_rf f1), (2, .int y38), (3, .int (w3 + (1 : Int32)))]) rfl ?_
          exact ih S42 y38 (w3 + (1 : Int32)) h
set_option maxHeartbeats 4000000 in
set_option maxRecDepth 100000 in
theorem c_X8_sendOutOf (l : Launch) (v : Ev) (S : Hp) (x0 : Nat) (x1 : Option Nat) : CI l v yX8_sendOutOf cX8_sendOutOf 5 (some .int) rm_X8_sendOutOf [va_rf (some x0), va_rf x1] S (fun Q _ => wp_X8_sendOutOf S x0 x1 Q) := by
  intro Q EQ h
  refine z_start [(0, va_rf (some x0)), (1, va_rf x1)] (by decide +kernel) (by simp only [la_i, la_r, la_n]) (cat_cr (cat_cr cat_nil)) (by simp only [ls_i, ls_r, ls_n]; decide) (fun z C N T => ?_)
  unfold wp_X8_sendOutOf at h
  refine z_iconst C (pc := 0) (x := (0 : Int32)) dX8_sendOutOf_0 kic_0 ?_
  refine z_istore_n C (pc := 1) (lv' := [(2, .int (0 : Int32)), (0, va_rf (some x0)), (1, va_rf x1)]) dX8_sendOutOf_1 (by decide) rfl ?_
  refine z_iconst C (pc := 2) (x := (0 : Int32)) dX8_sendOutOf_2 kic_0 ?_
  refine z_istore_n C (pc := 3) (lv' := [(3, .int (0 : Int32)), (2, .int (0 : Int32)), (0, va_rf (some x0)), (1, va_rf x1)]) dX8_sendOutOf_3 (by decide) rfl ?_
  obtain ⟨n43, h⟩ := h
  refine z_sub [2, 3, 1, 0] (lv' := [(0, va_rf (some x0)), (1, va_rf x1), (2, .int (0 : Int32)), (3, .int (0 : Int32))]) rfl ?_
  exact l_X8_sendOutOf_L4 l v x0 x1 Q C N T n43 S (0 : Int32) (0 : Int32) h
def wp_X8_sendOutByAge_L4 (f0 : Nat) (Q : Int32 → Hp → Prop) : Nat → Hp → Int32 → Int32 → Prop
  | 0, _, _, _ => False
  | n + 1, S, w1, w2 => okA S 8 f0 ∧ (rd S 10 (g_P S 800 f0) (fun a2 => wp_Jx4a65c_size_8abf5 S a2 (fun r6 S5 => if r6 ≤ w2 then (Q w1 S5) else (okA S5 8 f0 ∧ (rd S5 10 (g_P S5 800 f0) (fun a8 => wp_Jx4a65c_get_915e3 S5 a8 w2 (fun r12 S11 => (∀ a, r12 = some a → okA S11 7 a) ∧ (okA S11 8 f0 ∧ (wp_X8_sendOutOf S11 f0 r12 (fun r16 S15 => lt (w1 ||| r16) (fun y17 => wp_X8_sendOutByAge_L4 f0 Q n S15 y17 (w2 + (1 : Int32)))))))))))))
def wp_X8_sendOutByAge (S : Hp) (x0 : Nat) (Q : Int32 → Hp → Prop) : Prop :=
  ∃ n18, wp_X8_sendOutByAge_L4 x0 Q n18 S (0 : Int32) (0 : Int32)
def rm_X8_sendOutByAge : Room := { frames := 4, cells := 0, slots := 0, locals := 88 }
set_option maxHeartbeats 4000000 in
set_option maxRecDepth 100000 in
theorem l_X8_sendOutByAge_L4 (l : Launch) (v : Ev) (f0 : Nat) (Q : Int32 → Hp → Prop) {EQ : String → Hp → Prop} {z : Z9} (C : Cx l v RX8 cX8_sendOutByAge 3 (some .int) "sendOutByAge" z) (N : NT z) (T : EE v rm_X8_sendOutByAge (QI v Q) EQ z) : ∀ (n : Nat) (S : Hp) (w1 : Int32) (w2 : Int32), wp_X8_sendOutByAge_L4 f0 Q n S w1 w2 → ZZ l v 3 rm_X8_sendOutByAge z 0 0 S 4 [(0, va_rf (some f0)), (1, .int w1), (2, .int w2)] [] := by
  intro n
  induction n with
  | zero =>
    intro S w1 w2 h
    exact h.elim
  | succ n ih =>
    intro S w1 w2 h
    unfold wp_X8_sendOutByAge_L4 at h
    refine z_iload_n C (pc := 4) dX8_sendOutByAge_4 2 rfl ?_
    refine z_aload_n C (pc := 5) dX8_sendOutByAge_5 0 rfl ?_
    obtain ⟨o1, h⟩ := h
    refine z_getP C (pc := 6) kf8 0 (by decide) rfl bw_74 (fun _ _ _ _ h => h) dX8_sendOutByAge_6 rfl o1 ?_
    obtain ⟨a2, e3, o4, h⟩ := h
    refine z_Vi C (pc := 9) (KX := fun _ _ => False) (kc' := 0) (ks' := 0) (As := []) (rest := [.int w2]) e3 (c_Jx4a65c_size_8abf5 l v S a2) mw_Jx4a65c_size_8abf5 bw_121 bw_122 bw_123 (fit_of rfl) rfl rfl (Nat.le_of_ble_eq_true rfl) (by decide) rfl o4 dX8_sendOutByAge_9 h (fun r6 S5 h => ?_) (fun En S9 h => h.elim)
    refine z_icmp_ge C (pc := 12) (tgt := 39) dX8_sendOutByAge_12 (by decide) h (fun h => ?_) (fun h => ?_)
    · refine z_iload_n C (pc := 39) dX8_sendOutByAge_39 1 rfl ?_
      exact z_iret C (pc := 40) T dX8_sendOutByAge_40 (by decide) (by decide) h
    · refine z_iload_n C (pc := 15) dX8_sendOutByAge_15 1 rfl ?_
      refine z_aload_n C (pc := 16) dX8_sendOutByAge_16 0 rfl ?_
      refine z_aload_n C (pc := 17) dX8_sendOutByAge_17 0 rfl ?_
      obtain ⟨o7, h⟩ := h
      refine z_getP C (pc := 18) kf8 0 (by decide) rfl bw_74 (fun _ _ _ _ h => h) dX8_sendOutByAge_18 rfl o7 ?_
      refine z_iload_n C (pc := 21) dX8_sendOutByAge_21 2 rfl ?_
      obtain ⟨a8, e9, o10, h⟩ := h
      refine z_Vq C (pc := 22) (KX := fun _ _ => False) (kc' := 0) (ks' := 0) (As := [.int w2]) (rest := [va_rf (some f0), .int w1]) e9 (c_Jx4a65c_get_915e3 l v S5 a8 w2) mw_Jx4a65c_get_915e3 bw_196 bw_197 bw_198 (fit_of rfl) rfl rfl (Nat.le_of_ble_eq_true rfl) (by decide) rfl o10 dX8_sendOutByAge_22 h (fun r12 S11 h => ?_) (fun En S9 h => h.elim)
      obtain ⟨k13, h⟩ := h
      refine z_cast C (pc := 25) (κ := 7) (by decide) rfl bw_264 dX8_sendOutByAge_25 k13 ?_
      obtain ⟨o14, h⟩ := h
      refine z_Vi C (pc := 28) (KX := fun _ _ => False) (kc' := 0) (ks' := 0) (As := [va_rf r12]) (rest := [.int w1]) rfl (c_X8_sendOutOf l v S11 f0 r12) mw_X8_sendOutOf bw_598 bw_600 bw_p19 (fit_of rfl) rfl rfl (Nat.le_of_ble_eq_true rfl) (by decide) rfl o14 dX8_sendOutByAge_28 h (fun r16 S15 h => ?_) (fun En S9 h => h.elim)
      refine z_ior C (pc := 31) dX8_sendOutByAge_31 ?_
      refine z_nI h (fun y17 h => ?_)
      refine z_istore_n C (pc := 32) (lv' := [(1, .int y17), (0, va_rf (some f0)), (2, .int w2)]) dX8_sendOutByAge_32 (by decide) rfl ?_
      refine z_iinc C (pc := 33) (y := w2 + (1 : Int32)) (lv' := [(2, .int (w2 + (1 : Int32))), (1, .int y17), (0, va_rf (some f0))]) dX8_sendOutByAge_33 2 rfl rfl (by decide) rfl ?_
      refine z_goto C (pc := 36) (tgt := 4) dX8_sendOutByAge_36 (by decide) ?_
      refine z_sub [2, 1, 0] (lv' := [(0, va_rf (some f0)), (1, .int y17), (2, .int (w2 + (1 : Int32)))]) rfl ?_
      exact ih S15 y17 (w2 + (1 : Int32)) h
set_option maxHeartbeats 4000000 in
set_option maxRecDepth 100000 in
theorem c_X8_sendOutByAge (l : Launch) (v : Ev) (S : Hp) (x0 : Nat) : CI l v yX8_sendOutByAge cX8_sendOutByAge 3 (some .int) rm_X8_sendOutByAge [va_rf (some x0)] S (fun Q _ => wp_X8_sendOutByAge S x0 Q) := by
  intro Q EQ h
  refine z_start [(0, va_rf (some x0))] (by decide +kernel) (by simp only [la_i, la_r, la_n]) (cat_cr cat_nil) (by simp only [ls_i, ls_r, ls_n]; decide) (fun z C N T => ?_)
  unfold wp_X8_sendOutByAge at h
  refine z_iconst C (pc := 0) (x := (0 : Int32)) dX8_sendOutByAge_0 kic_0 ?_
  refine z_istore_n C (pc := 1) (lv' := [(1, .int (0 : Int32)), (0, va_rf (some x0))]) dX8_sendOutByAge_1 (by decide) rfl ?_
  refine z_iconst C (pc := 2) (x := (0 : Int32)) dX8_sendOutByAge_2 kic_0 ?_
  refine z_istore_n C (pc := 3) (lv' := [(2, .int (0 : Int32)), (1, .int (0 : Int32)), (0, va_rf (some x0))]) dX8_sendOutByAge_3 (by decide) rfl ?_
  obtain ⟨n18, h⟩ := h
  refine z_sub [2, 1, 0] (lv' := [(0, va_rf (some x0)), (1, .int (0 : Int32)), (2, .int (0 : Int32))]) rfl ?_
  exact l_X8_sendOutByAge_L4 l v x0 Q C N T n18 S (0 : Int32) (0 : Int32) h
def wp_X8_fillUp_L16 (f0 : Nat) (f1 : Option Nat) (f2 : Int32) (Q : Hp → Prop) : Nat → Hp → Int32 → Prop
  | 0, _, _ => False
  | n + 1, S, w3 => if f2 ≤ w3 then (Q S) else (rd S 7 f1 (fun a11 => okA S 8 f0 ∧ (wp_X8_letFirstIn S f0 (g_I S 700 a11) (fun r16 S15 => wp_X8_fillUp_L16 f0 f1 f2 Q n S15 (w3 + (1 : Int32))))))
def wp_X8_fillUp (S : Hp) (x0 : Nat) (x1 : Option Nat) (Q : Hp → Prop) : Prop :=
  rd S 7 x1 (fun a1 => rd S 7 x1 (fun a4 => okA S 8 x0 ∧ (wp_X8_childrenIn S x0 (g_I S 700 a4) (fun r9 S8 => lt ((g_I S 703 a1) - r9) (fun y10 => ∃ n17, wp_X8_fillUp_L16 x0 x1 y10 Q n17 S8 (0 : Int32))))))
def rm_X8_fillUp : Room := { frames := 7, cells := 0, slots := 0, locals := 158 }
set_option maxHeartbeats 4000000 in
set_option maxRecDepth 100000 in
theorem l_X8_fillUp_L16 (l : Launch) (v : Ev) (f0 : Nat) (f1 : Option Nat) (f2 : Int32) (Q : Hp → Prop) {EQ : String → Hp → Prop} {z : Z9} (C : Cx l v RX8 cX8_fillUp 4 none "fillUp" z) (N : NT z) (T : EE v rm_X8_fillUp (QV v Q) EQ z) : ∀ (n : Nat) (S : Hp) (w3 : Int32), wp_X8_fillUp_L16 f0 f1 f2 Q n S w3 → ZZ l v 4 rm_X8_fillUp z 0 0 S 16 [(0, va_rf (some f0)), (1, va_rf f1), (2, .int f2), (3, .int w3)] [] := by
  intro n
  induction n with
  | zero =>
    intro S w3 h
    exact h.elim
  | succ n ih =>
    intro S w3 h
    unfold wp_X8_fillUp_L16 at h
    refine z_iload_n C (pc := 16) dX8_fillUp_16 3 rfl ?_
    refine z_iload_n C (pc := 17) dX8_fillUp_17 2 rfl ?_
    refine z_icmp_ge C (pc := 18) (tgt := 36) dX8_fillUp_18 (by decide) h (fun h => ?_) (fun h => ?_)
    · exact z_vret C (pc := 36) T dX8_fillUp_36 (by decide) (by decide) h
    · refine z_aload_n C (pc := 21) dX8_fillUp_21 0 rfl ?_
      refine z_aload_n C (pc := 22) dX8_fillUp_22 1 rfl ?_
      obtain ⟨a11, e12, o13, h⟩ := h
      refine z_getI C (pc := 23) kf7 0 (by decide) rfl bw_405 (fun _ _ _ _ h => h) dX8_fillUp_23 e12 o13 ?_
      obtain ⟨o14, h⟩ := h
      refine z_Vi C (pc := 26) (KX := fun _ _ => False) (kc' := 0) (ks' := 0) (As := [.int (g_I S 700 a11)]) (rest := []) rfl (c_X8_letFirstIn l v S f0 (g_I S 700 a11)) mw_X8_letFirstIn bw_572 bw_574 bw_p16 (fit_of rfl) rfl rfl (Nat.le_of_ble_eq_true rfl) (by decide) rfl o14 dX8_fillUp_26 h (fun r16 S15 h => ?_) (fun En S9 h => h.elim)
      refine z_pop C (pc := 29) dX8_fillUp_29 rfl ?_
      refine z_iinc C (pc := 30) (y := w3 + (1 : Int32)) (lv' := [(3, .int (w3 + (1 : Int32))), (0, va_rf (some f0)), (1, va_rf f1), (2, .int f2)]) dX8_fillUp_30 3 rfl rfl (by decide) rfl ?_
      refine z_goto C (pc := 33) (tgt := 16) dX8_fillUp_33 (by decide) ?_
      refine z_sub [1, 2, 3, 0] (lv' := [(0, va_rf (some f0)), (1, va_rf f1), (2, .int f2), (3, .int (w3 + (1 : Int32)))]) rfl ?_
      exact ih S15 (w3 + (1 : Int32)) h
set_option maxHeartbeats 4000000 in
set_option maxRecDepth 100000 in
theorem c_X8_fillUp (l : Launch) (v : Ev) (S : Hp) (x0 : Nat) (x1 : Option Nat) : CV l v yX8_fillUp cX8_fillUp 4 none rm_X8_fillUp [va_rf (some x0), va_rf x1] S (fun Q _ => wp_X8_fillUp S x0 x1 Q) := by
  intro Q EQ h
  refine z_start [(0, va_rf (some x0)), (1, va_rf x1)] (by decide +kernel) (by simp only [la_i, la_r, la_n]) (cat_cr (cat_cr cat_nil)) (by simp only [ls_i, ls_r, ls_n]; decide) (fun z C N T => ?_)
  unfold wp_X8_fillUp at h
  refine z_aload_n C (pc := 0) dX8_fillUp_0 1 rfl ?_
  obtain ⟨a1, e2, o3, h⟩ := h
  refine z_getI C (pc := 1) kf7 3 (by decide) rfl bw_409 (fun _ _ _ _ h => h) dX8_fillUp_1 e2 o3 ?_
  refine z_aload_n C (pc := 4) dX8_fillUp_4 0 rfl ?_
  refine z_aload_n C (pc := 5) dX8_fillUp_5 1 rfl ?_
  obtain ⟨a4, e5, o6, h⟩ := h
  refine z_getI C (pc := 6) kf7 0 (by decide) rfl bw_405 (fun _ _ _ _ h => h) dX8_fillUp_6 e5 o6 ?_
  obtain ⟨o7, h⟩ := h
  refine z_Vi C (pc := 9) (KX := fun _ _ => False) (kc' := 0) (ks' := 0) (As := [.int (g_I S 700 a4)]) (rest := [.int (g_I S 703 a1)]) rfl (c_X8_childrenIn l v S x0 (g_I S 700 a4)) mw_X8_childrenIn bw_269 bw_271 bw_p4 (fit_of rfl) rfl rfl (Nat.le_of_ble_eq_true rfl) (by decide) rfl o7 dX8_fillUp_9 h (fun r9 S8 h => ?_) (fun En S9 h => h.elim)
  refine z_isub C (pc := 12) dX8_fillUp_12 ?_
  refine z_nI h (fun y10 h => ?_)
  refine z_istore_n C (pc := 13) (lv' := [(2, .int y10), (0, va_rf (some x0)), (1, va_rf x1)]) dX8_fillUp_13 (by decide) rfl ?_
  refine z_iconst C (pc := 14) (x := (0 : Int32)) dX8_fillUp_14 kic_0 ?_
  refine z_istore_n C (pc := 15) (lv' := [(3, .int (0 : Int32)), (2, .int y10), (0, va_rf (some x0)), (1, va_rf x1)]) dX8_fillUp_15 (by decide) rfl ?_
  obtain ⟨n17, h⟩ := h
  refine z_sub [2, 3, 1, 0] (lv' := [(0, va_rf (some x0)), (1, va_rf x1), (2, .int y10), (3, .int (0 : Int32))]) rfl ?_
  exact l_X8_fillUp_L16 l v x0 x1 y10 Q C N T n17 S8 (0 : Int32) h
def wp_X8_hasBit (S : Hp) (x0 : Int32) (x1 : Int32) (Q : Int32 → Hp → Prop) : Prop :=
  if (x0 &&& ((1 : Int32) <<< (x1 &&& 31))) = 0 then (bz (0 : Int32) (Q (0 : Int32) S)) else (bz (1 : Int32) (Q (1 : Int32) S))
def rm_X8_hasBit : Room := { frames := 0, cells := 0, slots := 0, locals := 0 }
set_option maxHeartbeats 4000000 in
set_option maxRecDepth 100000 in
theorem c_X8_hasBit (l : Launch) (v : Ev) (S : Hp) (x0 : Int32) (x1 : Int32) : CI l v yX8_hasBit cX8_hasBit 2 (some .boolean) rm_X8_hasBit [.int x0, .int x1] S (fun Q _ => wp_X8_hasBit S x0 x1 Q) := by
  intro Q EQ h
  refine z_start [(0, .int x0), (1, .int x1)] (by decide +kernel) (by simp only [la_i, la_r, la_n]) (cat_ci (cat_ci cat_nil)) (by simp only [ls_i, ls_r, ls_n]; decide) (fun z C N T => ?_)
  unfold wp_X8_hasBit at h
  refine z_iload_n C (pc := 0) dX8_hasBit_0 0 rfl ?_
  refine z_iconst C (pc := 1) (x := (1 : Int32)) dX8_hasBit_1 kic_1 ?_
  refine z_iload_n C (pc := 2) dX8_hasBit_2 1 rfl ?_
  refine z_ishl C (pc := 3) dX8_hasBit_3 ?_
  refine z_iand C (pc := 4) dX8_hasBit_4 ?_
  refine z_if_eq C (pc := 5) (tgt := 12) dX8_hasBit_5 (by decide) h (fun h => ?_) (fun h => ?_)
  · refine z_iconst C (pc := 12) (x := (0 : Int32)) dX8_hasBit_12 kic_0 ?_
    exact z_zret C (pc := 13) T dX8_hasBit_13 (by decide) (by decide) h
  · refine z_iconst C (pc := 8) (x := (1 : Int32)) dX8_hasBit_8 kic_1 ?_
    refine z_goto C (pc := 9) (tgt := 13) dX8_hasBit_9 (by decide) ?_
    exact z_zret C (pc := 13) T dX8_hasBit_13 (by decide) (by decide) h
def wp_X8_moveUp_L2 (f0 : Nat) (f1 : Option Nat) (Q : Hp → Prop) : Nat → Hp → Int32 → Prop
  | 0, _, _ => False
  | n + 1, S, w2 => okA S 8 f0 ∧ (rd S 10 (g_P S 800 f0) (fun a2 => wp_Jx4a65c_size_8abf5 S a2 (fun r6 S5 => if r6 ≤ w2 then (Q S5) else (okA S5 8 f0 ∧ (rd S5 10 (g_P S5 800 f0) (fun a8 => wp_Jx4a65c_get_915e3 S5 a8 w2 (fun r12 S11 => (∀ a, r12 = some a → okA S11 7 a) ∧ (rd S11 1 f1 (fun a14 => rd S11 7 r12 (fun a17 => wp_X7_isFor S11 a17 (g_I S11 101 a14) (fun r21 S20 => if r21 = 0 then (wp_X8_moveUp_L2 f0 f1 Q n S20 (w2 + (1 : Int32))) else (okA S20 8 f0 ∧ (rd S20 10 (g_P S20 800 f0) (fun a23 => wp_Jx4a65c_get_915e3 S20 a23 w2 (fun r27 S26 => (∀ a, r27 = some a → okA S26 7 a) ∧ (okA S26 8 f0 ∧ (wp_X8_comeInOrWait S26 f0 f1 r27 (fun r31 S30 => Q S30))))))))))))))))))
def wp_X8_moveUp (S : Hp) (x0 : Nat) (x1 : Option Nat) (Q : Hp → Prop) : Prop :=
  ∃ n32, wp_X8_moveUp_L2 x0 x1 Q n32 S (0 : Int32)
def rm_X8_moveUp : Room := { frames := 7, cells := 0, slots := 0, locals := 158 }
set_option maxHeartbeats 4000000 in
set_option maxRecDepth 100000 in
theorem l_X8_moveUp_L2 (l : Launch) (v : Ev) (f0 : Nat) (f1 : Option Nat) (Q : Hp → Prop) {EQ : String → Hp → Prop} {z : Z9} (C : Cx l v RX8 cX8_moveUp 3 none "moveUp" z) (N : NT z) (T : EE v rm_X8_moveUp (QV v Q) EQ z) : ∀ (n : Nat) (S : Hp) (w2 : Int32), wp_X8_moveUp_L2 f0 f1 Q n S w2 → ZZ l v 3 rm_X8_moveUp z 0 0 S 2 [(0, va_rf (some f0)), (1, va_rf f1), (2, .int w2)] [] := by
  intro n
  induction n with
  | zero =>
    intro S w2 h
    exact h.elim
  | succ n ih =>
    intro S w2 h
    unfold wp_X8_moveUp_L2 at h
    refine z_iload_n C (pc := 2) dX8_moveUp_2 2 rfl ?_
    refine z_aload_n C (pc := 3) dX8_moveUp_3 0 rfl ?_
    obtain ⟨o1, h⟩ := h
    refine z_getP C (pc := 4) kf8 0 (by decide) rfl bw_74 (fun _ _ _ _ h => h) dX8_moveUp_4 rfl o1 ?_
    obtain ⟨a2, e3, o4, h⟩ := h
    refine z_Vi C (pc := 7) (KX := fun _ _ => False) (kc' := 0) (ks' := 0) (As := []) (rest := [.int w2]) e3 (c_Jx4a65c_size_8abf5 l v S a2) mw_Jx4a65c_size_8abf5 bw_121 bw_122 bw_123 (fit_of rfl) rfl rfl (Nat.le_of_ble_eq_true rfl) (by decide) rfl o4 dX8_moveUp_7 h (fun r6 S5 h => ?_) (fun En S9 h => h.elim)
    refine z_icmp_ge C (pc := 10) (tgt := 58) dX8_moveUp_10 (by decide) h (fun h => ?_) (fun h => ?_)
    · exact z_vret C (pc := 58) T dX8_moveUp_58 (by decide) (by decide) h
    · refine z_aload_n C (pc := 13) dX8_moveUp_13 0 rfl ?_
      obtain ⟨o7, h⟩ := h
      refine z_getP C (pc := 14) kf8 0 (by decide) rfl bw_74 (fun _ _ _ _ h => h) dX8_moveUp_14 rfl o7 ?_
      refine z_iload_n C (pc := 17) dX8_moveUp_17 2 rfl ?_
      obtain ⟨a8, e9, o10, h⟩ := h
      refine z_Vq C (pc := 18) (KX := fun _ _ => False) (kc' := 0) (ks' := 0) (As := [.int w2]) (rest := []) e9 (c_Jx4a65c_get_915e3 l v S5 a8 w2) mw_Jx4a65c_get_915e3 bw_196 bw_197 bw_198 (fit_of rfl) rfl rfl (Nat.le_of_ble_eq_true rfl) (by decide) rfl o10 dX8_moveUp_18 h (fun r12 S11 h => ?_) (fun En S9 h => h.elim)
      obtain ⟨k13, h⟩ := h
      refine z_cast C (pc := 21) (κ := 7) (by decide) rfl bw_264 dX8_moveUp_21 k13 ?_
      refine z_aload_n C (pc := 24) dX8_moveUp_24 1 rfl ?_
      obtain ⟨a14, e15, o16, h⟩ := h
      refine z_getI C (pc := 25) kf1 1 (by decide) rfl bw_493 (fun _ _ _ _ h => h) dX8_moveUp_25 e15 o16 ?_
      obtain ⟨a17, e18, o19, h⟩ := h
      refine z_Vi C (pc := 28) (KX := fun _ _ => False) (kc' := 0) (ks' := 0) (As := [.int (g_I S11 101 a14)]) (rest := []) e18 (c_X7_isFor l v S11 a17 (g_I S11 101 a14)) mw_X7_isFor bw_546 bw_547 bw_548 (fit_of rfl) rfl rfl (Nat.le_of_ble_eq_true rfl) (by decide) rfl o19 dX8_moveUp_28 h (fun r21 S20 h => ?_) (fun En S9 h => h.elim)
      refine z_if_eq C (pc := 31) (tgt := 52) dX8_moveUp_31 (by decide) h (fun h => ?_) (fun h => ?_)
      · refine z_iinc C (pc := 52) (y := w2 + (1 : Int32)) (lv' := [(2, .int (w2 + (1 : Int32))), (0, va_rf (some f0)), (1, va_rf f1)]) dX8_moveUp_52 2 rfl rfl (by decide) rfl ?_
        refine z_goto C (pc := 55) (tgt := 2) dX8_moveUp_55 (by decide) ?_
        refine z_sub [1, 2, 0] (lv' := [(0, va_rf (some f0)), (1, va_rf f1), (2, .int (w2 + (1 : Int32)))]) rfl ?_
        exact ih S20 (w2 + (1 : Int32)) h
      · refine z_aload_n C (pc := 34) dX8_moveUp_34 0 rfl ?_
        refine z_aload_n C (pc := 35) dX8_moveUp_35 1 rfl ?_
        refine z_aload_n C (pc := 36) dX8_moveUp_36 0 rfl ?_
        obtain ⟨o22, h⟩ := h
        refine z_getP C (pc := 37) kf8 0 (by decide) rfl bw_74 (fun _ _ _ _ h => h) dX8_moveUp_37 rfl o22 ?_
        refine z_iload_n C (pc := 40) dX8_moveUp_40 2 rfl ?_
        obtain ⟨a23, e24, o25, h⟩ := h
        refine z_Vq C (pc := 41) (KX := fun _ _ => False) (kc' := 0) (ks' := 0) (As := [.int w2]) (rest := [va_rf f1, va_rf (some f0)]) e24 (c_Jx4a65c_get_915e3 l v S20 a23 w2) mw_Jx4a65c_get_915e3 bw_196 bw_197 bw_198 (fit_of rfl) rfl rfl (Nat.le_of_ble_eq_true rfl) (by decide) rfl o25 dX8_moveUp_41 h (fun r27 S26 h => ?_) (fun En S9 h => h.elim)
        obtain ⟨k28, h⟩ := h
        refine z_cast C (pc := 44) (κ := 7) (by decide) rfl bw_264 dX8_moveUp_44 k28 ?_
        obtain ⟨o29, h⟩ := h
        refine z_Vi C (pc := 47) (KX := fun _ _ => False) (kc' := 0) (ks' := 0) (As := [va_rf f1, va_rf r27]) (rest := []) rfl (c_X8_comeInOrWait l v S26 f0 f1 r27) mw_X8_comeInOrWait bw_551 bw_553 bw_p13 (fit_of rfl) rfl rfl (Nat.le_of_ble_eq_true rfl) (by decide) rfl o29 dX8_moveUp_47 h (fun r31 S30 h => ?_) (fun En S9 h => h.elim)
        refine z_pop C (pc := 50) dX8_moveUp_50 rfl ?_
        exact z_vret C (pc := 51) T dX8_moveUp_51 (by decide) (by decide) h
set_option maxHeartbeats 4000000 in
set_option maxRecDepth 100000 in
theorem c_X8_moveUp (l : Launch) (v : Ev) (S : Hp) (x0 : Nat) (x1 : Option Nat) : CV l v yX8_moveUp cX8_moveUp 3 none rm_X8_moveUp [va_rf (some x0), va_rf x1] S (fun Q _ => wp_X8_moveUp S x0 x1 Q) := by
  intro Q EQ h
  refine z_start [(0, va_rf (some x0)), (1, va_rf x1)] (by decide +kernel) (by simp only [la_i, la_r, la_n]) (cat_cr (cat_cr cat_nil)) (by simp only [ls_i, ls_r, ls_n]; decide) (fun z C N T => ?_)
  unfold wp_X8_moveUp at h
  refine z_iconst C (pc := 0) (x := (0 : Int32)) dX8_moveUp_0 kic_0 ?_
  refine z_istore_n C (pc := 1) (lv' := [(2, .int (0 : Int32)), (0, va_rf (some x0)), (1, va_rf x1)]) dX8_moveUp_1 (by decide) rfl ?_
  obtain ⟨n32, h⟩ := h
  refine z_sub [1, 2, 0] (lv' := [(0, va_rf (some x0)), (1, va_rf x1), (2, .int (0 : Int32))]) rfl ?_
  exact l_X8_moveUp_L2 l v x0 x1 Q C N T n32 S (0 : Int32) h
def wp_X8_season_L80 (f0 : Nat) (f1 : Int32) (Q : Int32 → Hp → Prop) : Nat → Hp → Int32 → Prop
  | 0, _, _ => False
  | n + 1, S, w2 => okA S 8 f0 ∧ (rd S 10 (g_P S 801 f0) (fun a17 => wp_Jx4a65c_size_8abf5 S a17 (fun r21 S20 => if r21 ≤ w2 then (wp_J6_bitCount_0f7a4 S20 f1 (fun r23 S22 => Q r23 S22)) else (wp_X8_hasBit S20 f1 w2 (fun r25 S24 => if r25 = 0 then (wp_X8_season_L80 f0 f1 Q n S24 (w2 + (1 : Int32))) else (okA S24 8 f0 ∧ (rd S24 10 (g_P S24 801 f0) (fun a27 => wp_Jx4a65c_get_915e3 S24 a27 w2 (fun r31 S30 => (∀ a, r31 = some a → okA S30 1 a) ∧ (okA S30 8 f0 ∧ (wp_X8_moveUp S30 f0 r31 (fun S34 => wp_X8_season_L80 f0 f1 Q n S34 (w2 + (1 : Int32))))))))))))))
def wp_X8_season_L46 (f0 : Nat) (f1 : Int32) (Q : Int32 → Hp → Prop) : Nat → Hp → Int32 → Prop
  | 0, _, _ => False
  | n + 1, S, w2 => okA S 8 f0 ∧ (rd S 10 (g_P S 800 f0) (fun a11 => wp_Jx4a65c_size_8abf5 S a11 (fun r15 S14 => if r15 ≤ w2 then (∃ n35, wp_X8_season_L80 f0 f1 Q n35 S14 (0 : Int32)) else (okA S14 8 f0 ∧ (rd S14 10 (g_P S14 800 f0) (fun a37 => wp_Jx4a65c_get_915e3 S14 a37 w2 (fun r41 S40 => (∀ a, r41 = some a → okA S40 7 a) ∧ (okA S40 8 f0 ∧ (wp_X8_fillUp S40 f0 r41 (fun S44 => wp_X8_season_L46 f0 f1 Q n S44 (w2 + (1 : Int32))))))))))))
def wp_X8_season_L2 (f0 : Nat) (Q : Int32 → Hp → Prop) : Nat → Hp → Int32 → Prop
  | 0, _, _ => False
  | n + 1, S, w1 => okA S 8 f0 ∧ (rd S 10 (g_P S 801 f0) (fun a2 => wp_Jx4a65c_size_8abf5 S a2 (fun r6 S5 => if r6 ≤ w1 then (okA S5 8 f0 ∧ (wp_X8_sendOutByAge S5 f0 (fun r9 S8 => ∃ n45, wp_X8_season_L46 f0 r9 Q n45 S8 (0 : Int32)))) else (okA S5 8 f0 ∧ (rd S5 10 (g_P S5 801 f0) (fun a47 => wp_Jx4a65c_get_915e3 S5 a47 w1 (fun r51 S50 => (∀ a, r51 = some a → okA S50 1 a) ∧ (rd S50 1 r51 (fun a53 => rd S50 1 r51 (fun a56 => lt (s_I S50 101 a56 ((g_I S50 101 a53) + (1 : Int32))) (fun S59 => wp_X8_season_L2 f0 Q n S59 (w1 + (1 : Int32)))))))))))))
def wp_X8_season (S : Hp) (x0 : Nat) (Q : Int32 → Hp → Prop) : Prop :=
  ∃ n60, wp_X8_season_L2 x0 Q n60 S (0 : Int32)
def rm_X8_season : Room := { frames := 8, cells := 0, slots := 0, locals := 181 }
set_option maxHeartbeats 4000000 in
set_option maxRecDepth 100000 in
theorem l_X8_season_L80 (l : Launch) (v : Ev) (f0 : Nat) (f1 : Int32) (Q : Int32 → Hp → Prop) {EQ : String → Hp → Prop} {z : Z9} (C : Cx l v RX8 cX8_season 3 (some .int) "season" z) (N : NT z) (T : EE v rm_X8_season (QI v Q) EQ z) : ∀ (n : Nat) (S : Hp) (w2 : Int32), wp_X8_season_L80 f0 f1 Q n S w2 → ZZ l v 3 rm_X8_season z 0 0 S 80 [(0, va_rf (some f0)), (1, .int f1), (2, .int w2)] [] := by
  intro n
  induction n with
  | zero =>
    intro S w2 h
    exact h.elim
  | succ n ih =>
    intro S w2 h
    unfold wp_X8_season_L80 at h
    refine z_iload_n C (pc := 80) dX8_season_80 2 rfl ?_
    refine z_aload_n C (pc := 81) dX8_season_81 0 rfl ?_
    obtain ⟨o16, h⟩ := h
    refine z_getP C (pc := 82) kf8 1 (by decide) rfl bw_75 (fun _ _ _ _ h => h) dX8_season_82 rfl o16 ?_
    obtain ⟨a17, e18, o19, h⟩ := h
    refine z_Vi C (pc := 85) (KX := fun _ _ => False) (kc' := 0) (ks' := 0) (As := []) (rest := [.int w2]) e18 (c_Jx4a65c_size_8abf5 l v S a17) mw_Jx4a65c_size_8abf5 bw_121 bw_122 bw_123 (fit_of rfl) rfl rfl (Nat.le_of_ble_eq_true rfl) (by decide) rfl o19 dX8_season_85 h (fun r21 S20 h => ?_) (fun En S9 h => h.elim)
    refine z_icmp_ge C (pc := 88) (tgt := 120) dX8_season_88 (by decide) h (fun h => ?_) (fun h => ?_)
    · refine z_iload_n C (pc := 120) dX8_season_120 1 rfl ?_
      refine z_Si C (pc := 121) (KX := fun _ _ => False) (kc' := 0) (ks' := 0) (As := [.int f1]) (rest := []) (c_J6_bitCount_0f7a4 l v S20 f1) mw_J6_bitCount_0f7a4 bw_613 bw_359 (fit_of rfl) rfl rfl (Nat.le_of_ble_eq_true rfl) dX8_season_121 h (fun r23 S22 h => ?_) (fun En S9 h => h.elim)
      exact z_iret C (pc := 124) T dX8_season_124 (by decide) (by decide) h
    · refine z_iload_n C (pc := 91) dX8_season_91 1 rfl ?_
      refine z_iload_n C (pc := 92) dX8_season_92 2 rfl ?_
      refine z_Si C (pc := 93) (KX := fun _ _ => False) (kc' := 0) (ks' := 0) (As := [.int f1, .int w2]) (rest := []) (c_X8_hasBit l v S20 f1 w2) mw_X8_hasBit bw_606 bw_607 (fit_of rfl) rfl rfl (Nat.le_of_ble_eq_true rfl) dX8_season_93 h (fun r25 S24 h => ?_) (fun En S9 h => h.elim)
      refine z_if_eq C (pc := 96) (tgt := 114) dX8_season_96 (by decide) h (fun h => ?_) (fun h => ?_)
      · refine z_iinc C (pc := 114) (y := w2 + (1 : Int32)) (lv' := [(2, .int (w2 + (1 : Int32))), (0, va_rf (some f0)), (1, .int f1)]) dX8_season_114 2 rfl rfl (by decide) rfl ?_
        refine z_goto C (pc := 117) (tgt := 80) dX8_season_117 (by decide) ?_
        refine z_sub [1, 2, 0] (lv' := [(0, va_rf (some f0)), (1, .int f1), (2, .int (w2 + (1 : Int32)))]) rfl ?_
        exact ih S24 (w2 + (1 : Int32)) h
      · refine z_aload_n C (pc := 99) dX8_season_99 0 rfl ?_
        refine z_aload_n C (pc := 100) dX8_season_100 0 rfl ?_
        obtain ⟨o26, h⟩ := h
        refine z_getP C (pc := 101) kf8 1 (by decide) rfl bw_75 (fun _ _ _ _ h => h) dX8_season_101 rfl o26 ?_
        refine z_iload_n C (pc := 104) dX8_season_104 2 rfl ?_
        obtain ⟨a27, e28, o29, h⟩ := h
        refine z_Vq C (pc := 105) (KX := fun _ _ => False) (kc' := 0) (ks' := 0) (As := [.int w2]) (rest := [va_rf (some f0)]) e28 (c_Jx4a65c_get_915e3 l v S24 a27 w2) mw_Jx4a65c_get_915e3 bw_196 bw_197 bw_198 (fit_of rfl) rfl rfl (Nat.le_of_ble_eq_true rfl) (by decide) rfl o29 dX8_season_105 h (fun r31 S30 h => ?_) (fun En S9 h => h.elim)
        obtain ⟨k32, h⟩ := h
        refine z_cast C (pc := 108) (κ := 1) (by decide) rfl bw_210 dX8_season_108 k32 ?_
        obtain ⟨o33, h⟩ := h
        refine z_Vv C (pc := 111) (KX := fun _ _ => False) (kc' := 0) (ks' := 0) (As := [va_rf r31]) (rest := []) rfl (c_X8_moveUp l v S30 f0 r31) mw_X8_moveUp bw_609 bw_611 bw_p21 (fit_of rfl) rfl rfl (Nat.le_of_ble_eq_true rfl) (by decide) rfl o33 dX8_season_111 h (fun S34 h => ?_) (fun En S9 h => h.elim)
        refine z_iinc C (pc := 114) (y := w2 + (1 : Int32)) (lv' := [(2, .int (w2 + (1 : Int32))), (0, va_rf (some f0)), (1, .int f1)]) dX8_season_114 2 rfl rfl (by decide) rfl ?_
        refine z_goto C (pc := 117) (tgt := 80) dX8_season_117 (by decide) ?_
        refine z_sub [1, 2, 0] (lv' := [(0, va_rf (some f0)), (1, .int f1), (2, .int (w2 + (1 : Int32)))]) rfl ?_
        exact ih S34 (w2 + (1 : Int32)) h
set_option maxHeartbeats 4000000 in
set_option maxRecDepth 100000 in
theorem l_X8_season_L46 (l : Launch) (v : Ev) (f0 : Nat) (f1 : Int32) (Q : Int32 → Hp → Prop) {EQ : String → Hp → Prop} {z : Z9} (C : Cx l v RX8 cX8_season 3 (some .int) "season" z) (N : NT z) (T : EE v rm_X8_season (QI v Q) EQ z) : ∀ (n : Nat) (S : Hp) (w2 : Int32), wp_X8_season_L46 f0 f1 Q n S w2 → ZZ l v 3 rm_X8_season z 0 0 S 46 [(0, va_rf (some f0)), (1, .int f1), (2, .int w2)] [] := by
  intro n
  induction n with
  | zero =>
    intro S w2 h
    exact h.elim
  | succ n ih =>
    intro S w2 h
    unfold wp_X8_season_L46 at h
    refine z_iload_n C (pc := 46) dX8_season_46 2 rfl ?_
    refine z_aload_n C (pc := 47) dX8_season_47 0 rfl ?_
    obtain ⟨o10, h⟩ := h
    refine z_getP C (pc := 48) kf8 0 (by decide) rfl bw_74 (fun _ _ _ _ h => h) dX8_season_48 rfl o10 ?_
    obtain ⟨a11, e12, o13, h⟩ := h
    refine z_Vi C (pc := 51) (KX := fun _ _ => False) (kc' := 0) (ks' := 0) (As := []) (rest := [.int w2]) e12 (c_Jx4a65c_size_8abf5 l v S a11) mw_Jx4a65c_size_8abf5 bw_121 bw_122 bw_123 (fit_of rfl) rfl rfl (Nat.le_of_ble_eq_true rfl) (by decide) rfl o13 dX8_season_51 h (fun r15 S14 h => ?_) (fun En S9 h => h.elim)
    refine z_icmp_ge C (pc := 54) (tgt := 78) dX8_season_54 (by decide) h (fun h => ?_) (fun h => ?_)
    · refine z_iconst C (pc := 78) (x := (0 : Int32)) dX8_season_78 kic_0 ?_
      refine z_istore_n C (pc := 79) (lv' := [(2, .int (0 : Int32)), (0, va_rf (some f0)), (1, .int f1)]) dX8_season_79 (by decide) rfl ?_
      obtain ⟨n35, h⟩ := h
      refine z_sub [1, 2, 0] (lv' := [(0, va_rf (some f0)), (1, .int f1), (2, .int (0 : Int32))]) rfl ?_
      exact l_X8_season_L80 l v f0 f1 Q C N T n35 S14 (0 : Int32) h
    · refine z_aload_n C (pc := 57) dX8_season_57 0 rfl ?_
      refine z_aload_n C (pc := 58) dX8_season_58 0 rfl ?_
      obtain ⟨o36, h⟩ := h
      refine z_getP C (pc := 59) kf8 0 (by decide) rfl bw_74 (fun _ _ _ _ h => h) dX8_season_59 rfl o36 ?_
      refine z_iload_n C (pc := 62) dX8_season_62 2 rfl ?_
      obtain ⟨a37, e38, o39, h⟩ := h
      refine z_Vq C (pc := 63) (KX := fun _ _ => False) (kc' := 0) (ks' := 0) (As := [.int w2]) (rest := [va_rf (some f0)]) e38 (c_Jx4a65c_get_915e3 l v S14 a37 w2) mw_Jx4a65c_get_915e3 bw_196 bw_197 bw_198 (fit_of rfl) rfl rfl (Nat.le_of_ble_eq_true rfl) (by decide) rfl o39 dX8_season_63 h (fun r41 S40 h => ?_) (fun En S9 h => h.elim)
      obtain ⟨k42, h⟩ := h
      refine z_cast C (pc := 66) (κ := 7) (by decide) rfl bw_264 dX8_season_66 k42 ?_
      obtain ⟨o43, h⟩ := h
      refine z_Vv C (pc := 69) (KX := fun _ _ => False) (kc' := 0) (ks' := 0) (As := [va_rf r41]) (rest := []) rfl (c_X8_fillUp l v S40 f0 r41) mw_X8_fillUp bw_602 bw_604 bw_p20 (fit_of rfl) rfl rfl (Nat.le_of_ble_eq_true rfl) (by decide) rfl o43 dX8_season_69 h (fun S44 h => ?_) (fun En S9 h => h.elim)
      refine z_iinc C (pc := 72) (y := w2 + (1 : Int32)) (lv' := [(2, .int (w2 + (1 : Int32))), (0, va_rf (some f0)), (1, .int f1)]) dX8_season_72 2 rfl rfl (by decide) rfl ?_
      refine z_goto C (pc := 75) (tgt := 46) dX8_season_75 (by decide) ?_
      refine z_sub [1, 2, 0] (lv' := [(0, va_rf (some f0)), (1, .int f1), (2, .int (w2 + (1 : Int32)))]) rfl ?_
      exact ih S44 (w2 + (1 : Int32)) h
set_option maxHeartbeats 4000000 in
set_option maxRecDepth 100000 in
theorem l_X8_season_L2 (l : Launch) (v : Ev) (f0 : Nat) (Q : Int32 → Hp → Prop) {EQ : String → Hp → Prop} {z : Z9} (C : Cx l v RX8 cX8_season 3 (some .int) "season" z) (N : NT z) (T : EE v rm_X8_season (QI v Q) EQ z) : ∀ (n : Nat) (S : Hp) (w1 : Int32), wp_X8_season_L2 f0 Q n S w1 → ZZ l v 3 rm_X8_season z 0 0 S 2 [(0, va_rf (some f0)), (1, .int w1)] [] := by
  intro n
  induction n with
  | zero =>
    intro S w1 h
    exact h.elim
  | succ n ih =>
    intro S w1 h
    unfold wp_X8_season_L2 at h
    refine z_iload_n C (pc := 2) dX8_season_2 1 rfl ?_
    refine z_aload_n C (pc := 3) dX8_season_3 0 rfl ?_
    obtain ⟨o1, h⟩ := h
    refine z_getP C (pc := 4) kf8 1 (by decide) rfl bw_75 (fun _ _ _ _ h => h) dX8_season_4 rfl o1 ?_
    obtain ⟨a2, e3, o4, h⟩ := h
    refine z_Vi C (pc := 7) (KX := fun _ _ => False) (kc' := 0) (ks' := 0) (As := []) (rest := [.int w1]) e3 (c_Jx4a65c_size_8abf5 l v S a2) mw_Jx4a65c_size_8abf5 bw_121 bw_122 bw_123 (fit_of rfl) rfl rfl (Nat.le_of_ble_eq_true rfl) (by decide) rfl o4 dX8_season_7 h (fun r6 S5 h => ?_) (fun En S9 h => h.elim)
    refine z_icmp_ge C (pc := 10) (tgt := 39) dX8_season_10 (by decide) h (fun h => ?_) (fun h => ?_)
    · refine z_aload_n C (pc := 39) dX8_season_39 0 rfl ?_
      obtain ⟨o7, h⟩ := h
      refine z_Vi C (pc := 40) (KX := fun _ _ => False) (kc' := 0) (ks' := 0) (As := []) (rest := []) rfl (c_X8_sendOutByAge l v S5 f0) mw_X8_sendOutByAge bw_594 bw_596 bw_p18 (fit_of rfl) rfl rfl (Nat.le_of_ble_eq_true rfl) (by decide) rfl o7 dX8_season_40 h (fun r9 S8 h => ?_) (fun En S9 h => h.elim)
      refine z_istore_n C (pc := 43) (lv' := [(1, .int r9), (0, va_rf (some f0))]) dX8_season_43 (by decide) rfl ?_
      refine z_iconst C (pc := 44) (x := (0 : Int32)) dX8_season_44 kic_0 ?_
      refine z_istore_n C (pc := 45) (lv' := [(2, .int (0 : Int32)), (1, .int r9), (0, va_rf (some f0))]) dX8_season_45 (by decide) rfl ?_
      obtain ⟨n45, h⟩ := h
      refine z_sub [2, 1, 0] (lv' := [(0, va_rf (some f0)), (1, .int r9), (2, .int (0 : Int32))]) rfl ?_
      exact l_X8_season_L46 l v f0 r9 Q C N T n45 S8 (0 : Int32) h
    · refine z_aload_n C (pc := 13) dX8_season_13 0 rfl ?_
      obtain ⟨o46, h⟩ := h
      refine z_getP C (pc := 14) kf8 1 (by decide) rfl bw_75 (fun _ _ _ _ h => h) dX8_season_14 rfl o46 ?_
      refine z_iload_n C (pc := 17) dX8_season_17 1 rfl ?_
      obtain ⟨a47, e48, o49, h⟩ := h
      refine z_Vq C (pc := 18) (KX := fun _ _ => False) (kc' := 0) (ks' := 0) (As := [.int w1]) (rest := []) e48 (c_Jx4a65c_get_915e3 l v S5 a47 w1) mw_Jx4a65c_get_915e3 bw_196 bw_197 bw_198 (fit_of rfl) rfl rfl (Nat.le_of_ble_eq_true rfl) (by decide) rfl o49 dX8_season_18 h (fun r51 S50 h => ?_) (fun En S9 h => h.elim)
      obtain ⟨k52, h⟩ := h
      refine z_cast C (pc := 21) (κ := 1) (by decide) rfl bw_210 dX8_season_21 k52 ?_
      refine z_dup C (pc := 24) dX8_season_24 (cat_rf _) ?_
      obtain ⟨a53, e54, o55, h⟩ := h
      refine z_getI C (pc := 25) kf1 1 (by decide) rfl bw_493 (fun _ _ _ _ h => h) dX8_season_25 e54 o55 ?_
      refine z_iconst C (pc := 28) (x := (1 : Int32)) dX8_season_28 kic_1 ?_
      refine z_iadd C (pc := 29) dX8_season_29 ?_
      obtain ⟨a56, e57, o58, h⟩ := h
      refine z_putI C (pc := 30) kf1 1 (by decide) rfl rfl bw_493 (fun _ _ _ _ h => h) dX8_season_30 e57 o58 ?_
      refine z_lt h (fun S59 h => ?_)
      refine z_iinc C (pc := 33) (y := w1 + (1 : Int32)) (lv' := [(1, .int (w1 + (1 : Int32))), (0, va_rf (some f0))]) dX8_season_33 1 rfl rfl (by decide) rfl ?_
      refine z_goto C (pc := 36) (tgt := 2) dX8_season_36 (by decide) ?_
      refine z_sub [1, 0] (lv' := [(0, va_rf (some f0)), (1, .int (w1 + (1 : Int32)))]) rfl ?_
      exact ih S59 (w1 + (1 : Int32)) h
set_option maxHeartbeats 4000000 in
set_option maxRecDepth 100000 in
theorem c_X8_season (l : Launch) (v : Ev) (S : Hp) (x0 : Nat) : CI l v yX8_season cX8_season 3 (some .int) rm_X8_season [va_rf (some x0)] S (fun Q _ => wp_X8_season S x0 Q) := by
  intro Q EQ h
  refine z_start [(0, va_rf (some x0))] (by decide +kernel) (by simp only [la_i, la_r, la_n]) (cat_cr cat_nil) (by simp only [ls_i, ls_r, ls_n]; decide) (fun z C N T => ?_)
  unfold wp_X8_season at h
  refine z_iconst C (pc := 0) (x := (0 : Int32)) dX8_season_0 kic_0 ?_
  refine z_istore_n C (pc := 1) (lv' := [(1, .int (0 : Int32)), (0, va_rf (some x0))]) dX8_season_1 (by decide) rfl ?_
  obtain ⟨n60, h⟩ := h
  refine z_sub [1, 0] (lv' := [(0, va_rf (some x0)), (1, .int (0 : Int32))]) rfl ?_
  exact l_X8_season_L2 l v x0 Q C N T n60 S (0 : Int32) h
def wp_X8_leader (S : Hp) (x0 : Nat) (Q : Int32 → Hp → Prop) (EQ : String → Hp → Prop) : Prop :=
  okA S 8 x0 ∧ (rd S 10 (g_P S 802 x0) (fun a2 => wp_Jx4a65c_size_8abf5 S a2 (fun r6 S5 => wp_X8_requireRoom S5 r6 (8 : Int32) (fun S7 => okA S7 8 x0 ∧ ((∀ a9, a9 ∉ g_L S7 → lt (n_O 5 S7 a9) (fun S10 => wp_X5_init S10 a9 (fun S11 => rd S11 10 (g_P S7 802 x0) (fun a12 => wp_Jx4a65c_add_9ea2d S11 a12 (some a9) (fun r16 S15 => okA S15 8 x0 ∧ (rd S15 10 (g_P S15 802 x0) (fun a18 => wp_Jx4a65c_size_8abf5 S15 a18 (fun r22 S21 => Q (r22 - (1 : Int32)) S21)))))))))) EQ)))
def rm_X8_leader : Room := { frames := 7, cells := 6, slots := 84, locals := 231 }
set_option maxHeartbeats 4000000 in
set_option maxRecDepth 100000 in
theorem c_X8_leader (l : Launch) (hfl : l.stackTraces = false) (v : Ev) (S : Hp) (x0 : Nat) : CI l v yX8_leader cX8_leader 1 (some .int) rm_X8_leader [va_rf (some x0)] S (fun Q EQ => wp_X8_leader S x0 Q EQ) := by
  intro Q EQ h
  refine z_start [(0, va_rf (some x0))] (by decide +kernel) (by simp only [la_i, la_r, la_n]) (cat_cr cat_nil) (by simp only [ls_i, ls_r, ls_n]; decide) (fun z C N T => ?_)
  unfold wp_X8_leader at h
  refine z_aload_n C (pc := 0) dX8_leader_0 0 rfl ?_
  obtain ⟨o1, h⟩ := h
  refine z_getP C (pc := 1) kf8 2 (by decide) rfl bw_76 (fun _ _ _ _ h => h) dX8_leader_1 rfl o1 ?_
  obtain ⟨a2, e3, o4, h⟩ := h
  refine z_Vi C (pc := 4) (KX := fun _ _ => False) (kc' := 0) (ks' := 0) (As := []) (rest := []) e3 (c_Jx4a65c_size_8abf5 l v S a2) mw_Jx4a65c_size_8abf5 bw_121 bw_122 bw_123 (fit_of rfl) rfl rfl (Nat.le_of_ble_eq_true rfl) (by decide) rfl o4 dX8_leader_4 h (fun r6 S5 h => ?_) (fun En S9 h => h.elim)
  refine z_bipush C (pc := 7) (x := (8 : Int32)) dX8_leader_7 kbp_8 ?_
  refine z_Sv C (pc := 9) (kc' := 1) (ks' := 6) (As := [.int r6, .int (8 : Int32)]) (rest := []) (c_X8_requireRoom l hfl v S5 r6 (8 : Int32)) mw_X8_requireRoom bw_380 bw_381 (fit_of rfl) rfl rfl (Nat.le_of_ble_eq_true rfl) dX8_leader_9 h (fun S7 h => ?_) (fun En S9 h => z_out C T N (by decide) (by decide) h)
  refine z_aload_n C (pc := 12) dX8_leader_12 0 rfl ?_
  obtain ⟨o8, h⟩ := h
  refine z_getP C (pc := 13) kf8 2 (by decide) rfl bw_76 (fun _ _ _ _ h => h) dX8_leader_13 rfl o8 ?_
  refine z_new C (pc := 16) (kc' := 2) (ks' := 10) kf5 bw_311 bw_618 bw_21 dX8_leader_16 (by decide) (by decide) (by decide) (by decide) h (fun a9 S10 h => ?_)
  refine z_dup C (pc := 19) dX8_leader_19 (cat_rf _) ?_
  refine z_IN C (pc := 20) (KX := fun _ _ => False) (kc' := 5) (ks' := 20) (As := []) (rest := [va_rf (some a9), va_rf (g_P S7 802 x0)]) (c_X5_init l v S10 a9) mw_X5_init nw_619 bw_620 rfl (fit_of rfl) rfl rfl (Nat.le_of_ble_eq_true rfl) dX8_leader_20 h (fun S11 h => ?_) (fun En S9 h => h.elim)
  obtain ⟨a12, e13, o14, h⟩ := h
  refine z_Vi C (pc := 23) (KX := fun _ _ => False) (kc' := 6) (ks' := 84) (As := [va_rf (some a9)]) (rest := []) e13 (c_Jx4a65c_add_9ea2d l v S11 a12 (some a9)) mw_Jx4a65c_add_9ea2d bw_419 bw_420 bw_421 (fit_of rfl) rfl rfl (Nat.le_of_ble_eq_true rfl) (by decide) rfl o14 dX8_leader_23 h (fun r16 S15 h => ?_) (fun En S9 h => h.elim)
  refine z_pop C (pc := 26) dX8_leader_26 rfl ?_
  refine z_aload_n C (pc := 27) dX8_leader_27 0 rfl ?_
  obtain ⟨o17, h⟩ := h
  refine z_getP C (pc := 28) kf8 2 (by decide) rfl bw_76 (fun _ _ _ _ h => h) dX8_leader_28 rfl o17 ?_
  obtain ⟨a18, e19, o20, h⟩ := h
  refine z_Vi C (pc := 31) (KX := fun _ _ => False) (kc' := 6) (ks' := 84) (As := []) (rest := []) e19 (c_Jx4a65c_size_8abf5 l v S15 a18) mw_Jx4a65c_size_8abf5 bw_121 bw_122 bw_123 (fit_of rfl) rfl rfl (Nat.le_of_ble_eq_true rfl) (by decide) rfl o20 dX8_leader_31 h (fun r22 S21 h => ?_) (fun En S9 h => h.elim)
  refine z_iconst C (pc := 34) (x := (1 : Int32)) dX8_leader_34 kic_1 ?_
  refine z_isub C (pc := 35) dX8_leader_35 ?_
  exact z_iret C (pc := 36) T dX8_leader_36 (by decide) (by decide) h
def wp_X8_leaderAt (S : Hp) (x0 : Nat) (x1 : Int32) (Q : Option Nat → Hp → Prop) (EQ : String → Hp → Prop) : Prop :=
  okA S 8 x0 ∧ (rd S 10 (g_P S 802 x0) (fun a2 => wp_Jx4a65c_size_8abf5 S a2 (fun r6 S5 => wp_X8_requireIndex S5 x1 r6 (fun S7 => okA S7 8 x0 ∧ (rd S7 10 (g_P S7 802 x0) (fun a9 => wp_Jx4a65c_get_915e3 S7 a9 x1 (fun r13 S12 => (∀ a, r13 = some a → okA S12 5 a) ∧ (Q r13 S12))))) EQ)))
def rm_X8_leaderAt : Room := { frames := 7, cells := 1, slots := 6, locals := 103 }
set_option maxHeartbeats 4000000 in
set_option maxRecDepth 100000 in
theorem c_X8_leaderAt (l : Launch) (hfl : l.stackTraces = false) (v : Ev) (S : Hp) (x0 : Nat) (x1 : Int32) : CQ l v yX8_leaderAt cX8_leaderAt 2 (some (.object "Badgewood$Leader")) rm_X8_leaderAt [va_rf (some x0), .int x1] S (fun Q EQ => wp_X8_leaderAt S x0 x1 Q EQ) := by
  intro Q EQ h
  refine z_start [(0, va_rf (some x0)), (1, .int x1)] (by decide +kernel) (by simp only [la_i, la_r, la_n]) (cat_cr (cat_ci cat_nil)) (by simp only [ls_i, ls_r, ls_n]; decide) (fun z C N T => ?_)
  unfold wp_X8_leaderAt at h
  refine z_iload_n C (pc := 0) dX8_leaderAt_0 1 rfl ?_
  refine z_aload_n C (pc := 1) dX8_leaderAt_1 0 rfl ?_
  obtain ⟨o1, h⟩ := h
  refine z_getP C (pc := 2) kf8 2 (by decide) rfl bw_76 (fun _ _ _ _ h => h) dX8_leaderAt_2 rfl o1 ?_
  obtain ⟨a2, e3, o4, h⟩ := h
  refine z_Vi C (pc := 5) (KX := fun _ _ => False) (kc' := 0) (ks' := 0) (As := []) (rest := [.int x1]) e3 (c_Jx4a65c_size_8abf5 l v S a2) mw_Jx4a65c_size_8abf5 bw_121 bw_122 bw_123 (fit_of rfl) rfl rfl (Nat.le_of_ble_eq_true rfl) (by decide) rfl o4 dX8_leaderAt_5 h (fun r6 S5 h => ?_) (fun En S9 h => h.elim)
  refine z_Sv C (pc := 8) (kc' := 1) (ks' := 6) (As := [.int x1, .int r6]) (rest := []) (c_X8_requireIndex l hfl v S5 x1 r6) mw_X8_requireIndex bw_125 bw_126 (fit_of rfl) rfl rfl (Nat.le_of_ble_eq_true rfl) dX8_leaderAt_8 h (fun S7 h => ?_) (fun En S9 h => z_out C T N (by decide) (by decide) h)
  refine z_aload_n C (pc := 11) dX8_leaderAt_11 0 rfl ?_
  obtain ⟨o8, h⟩ := h
  refine z_getP C (pc := 12) kf8 2 (by decide) rfl bw_76 (fun _ _ _ _ h => h) dX8_leaderAt_12 rfl o8 ?_
  refine z_iload_n C (pc := 15) dX8_leaderAt_15 1 rfl ?_
  obtain ⟨a9, e10, o11, h⟩ := h
  refine z_Vq C (pc := 16) (KX := fun _ _ => False) (kc' := 1) (ks' := 6) (As := [.int x1]) (rest := []) e10 (c_Jx4a65c_get_915e3 l v S7 a9 x1) mw_Jx4a65c_get_915e3 bw_196 bw_197 bw_198 (fit_of rfl) rfl rfl (Nat.le_of_ble_eq_true rfl) (by decide) rfl o11 dX8_leaderAt_16 h (fun r13 S12 h => ?_) (fun En S9 h => h.elim)
  obtain ⟨k14, h⟩ := h
  refine z_cast C (pc := 19) (κ := 5) (by decide) rfl bw_311 dX8_leaderAt_19 k14 ?_
  exact z_aret C (pc := 22) rfl (Or.inl ⟨_, rfl⟩) T dX8_leaderAt_22 (by decide) (by decide) h
def wp_X8_vet (S : Hp) (x0 : Nat) (x1 : Int32) (x2 : Int32) (x3 : Int32) (x4 : Int32) (Q : Hp → Prop) (EQ : String → Hp → Prop) : Prop :=
  okA S 8 x0 ∧ (wp_X8_leaderAt S x0 x1 (fun r3 S2 => wp_X8_requireIndex S2 x2 (3 : Int32) (fun S4 => wp_X8_requireRange S4 x3 (0 : Int32) (9999 : Int32) (fun S5 => wp_X8_requireRange S5 x4 x3 (9999 : Int32) (fun S6 => rd S6 5 r3 (fun a7 => wp_X5_setVetted S6 a7 x2 x3 x4 (fun S10 => Q S10))) EQ) EQ) EQ) EQ)
def rm_X8_vet : Room := { frames := 8, cells := 4, slots := 24, locals := 124 }
set_option maxHeartbeats 4000000 in
set_option maxRecDepth 100000 in
theorem c_X8_vet (l : Launch) (hfl : l.stackTraces = false) (v : Ev) (S : Hp) (x0 : Nat) (x1 : Int32) (x2 : Int32) (x3 : Int32) (x4 : Int32) : CV l v yX8_vet cX8_vet 6 none rm_X8_vet [va_rf (some x0), .int x1, .int x2, .int x3, .int x4] S (fun Q EQ => wp_X8_vet S x0 x1 x2 x3 x4 Q EQ) := by
  intro Q EQ h
  refine z_start [(0, va_rf (some x0)), (1, .int x1), (2, .int x2), (3, .int x3), (4, .int x4)] (by decide +kernel) (by simp only [la_i, la_r, la_n]) (cat_cr (cat_ci (cat_ci (cat_ci (cat_ci cat_nil))))) (by simp only [ls_i, ls_r, ls_n]; decide) (fun z C N T => ?_)
  unfold wp_X8_vet at h
  refine z_aload_n C (pc := 0) dX8_vet_0 0 rfl ?_
  refine z_iload_n C (pc := 1) dX8_vet_1 1 rfl ?_
  obtain ⟨o1, h⟩ := h
  refine z_Vq C (pc := 2) (kc' := 1) (ks' := 6) (As := [.int x1]) (rest := []) rfl (c_X8_leaderAt l hfl v S x0 x1) mw_X8_leaderAt bw_640 bw_642 bw_p22 (fit_of rfl) rfl rfl (Nat.le_of_ble_eq_true rfl) (by decide) rfl o1 dX8_vet_2 h (fun r3 S2 h => ?_) (fun En S9 h => z_out C T N (by decide) (by decide) h)
  refine z_astore C (pc := 5) (lv' := [(5, va_rf r3), (0, va_rf (some x0)), (1, .int x1), (2, .int x2), (3, .int x3), (4, .int x4)]) dX8_vet_5 (by decide) rfl ?_
  refine z_iload_n C (pc := 7) dX8_vet_7 3 rfl ?_
  refine z_iconst C (pc := 8) (x := (3 : Int32)) dX8_vet_8 kic_3 ?_
  refine z_Sv C (pc := 9) (kc' := 2) (ks' := 12) (As := [.int x2, .int (3 : Int32)]) (rest := []) (c_X8_requireIndex l hfl v S2 x2 (3 : Int32)) mw_X8_requireIndex bw_125 bw_126 (fit_of rfl) rfl rfl (Nat.le_of_ble_eq_true rfl) dX8_vet_9 h (fun S4 h => ?_) (fun En S9 h => z_out C T N (by decide) (by decide) h)
  refine z_iload_n C (pc := 12) dX8_vet_12 4 rfl ?_
  refine z_iconst C (pc := 13) (x := (0 : Int32)) dX8_vet_13 kic_0 ?_
  refine z_sipush C (pc := 14) (x := (9999 : Int32)) dX8_vet_14 ksp_9999 ?_
  refine z_Sv C (pc := 17) (kc' := 3) (ks' := 18) (As := [.int x3, .int (0 : Int32), .int (9999 : Int32)]) (rest := []) (c_X8_requireRange l hfl v S4 x3 (0 : Int32) (9999 : Int32)) mw_X8_requireRange bw_281 bw_282 (fit_of rfl) rfl rfl (Nat.le_of_ble_eq_true rfl) dX8_vet_17 h (fun S5 h => ?_) (fun En S9 h => z_out C T N (by decide) (by decide) h)
  refine z_iload C (pc := 20) dX8_vet_20 5 rfl ?_
  refine z_iload_n C (pc := 22) dX8_vet_22 4 rfl ?_
  refine z_sipush C (pc := 23) (x := (9999 : Int32)) dX8_vet_23 ksp_9999 ?_
  refine z_Sv C (pc := 26) (kc' := 4) (ks' := 24) (As := [.int x4, .int x3, .int (9999 : Int32)]) (rest := []) (c_X8_requireRange l hfl v S5 x4 x3 (9999 : Int32)) mw_X8_requireRange bw_281 bw_282 (fit_of rfl) rfl rfl (Nat.le_of_ble_eq_true rfl) dX8_vet_26 h (fun S6 h => ?_) (fun En S9 h => z_out C T N (by decide) (by decide) h)
  refine z_aload C (pc := 29) dX8_vet_29 0 rfl ?_
  refine z_iload_n C (pc := 31) dX8_vet_31 3 rfl ?_
  refine z_iload_n C (pc := 32) dX8_vet_32 4 rfl ?_
  refine z_iload C (pc := 33) dX8_vet_33 5 rfl ?_
  obtain ⟨a7, e8, o9, h⟩ := h
  refine z_Vv C (pc := 35) (KX := fun _ _ => False) (kc' := 4) (ks' := 24) (As := [.int x2, .int x3, .int x4]) (rest := []) e8 (c_X5_setVetted l v S6 a7 x2 x3 x4) mw_X5_setVetted bw_644 bw_645 bw_646 (fit_of rfl) rfl rfl (Nat.le_of_ble_eq_true rfl) (by decide) rfl o9 dX8_vet_35 h (fun S10 h => ?_) (fun En S9 h => h.elim)
  exact z_vret C (pc := 38) T dX8_vet_38 (by decide) (by decide) h
def wp_X8_permit (S : Hp) (x0 : Nat) (x1 : Int32) (x2 : Int32) (x3 : Int32) (Q : Int32 → Hp → Prop) (EQ : String → Hp → Prop) : Prop :=
  okA S 8 x0 ∧ (wp_X8_leaderAt S x0 x1 (fun r3 S2 => wp_X8_requireRange S2 x2 (1 : Int32) (3 : Int32) (fun S4 => wp_X8_requireRange S4 x3 (-1 : Int32) (9999 : Int32) (fun S5 => rd S5 5 r3 (fun a6 => wp_X5_permitOf S5 a6 x2 (fun r10 S9 => rd S9 5 r3 (fun a11 => wp_X5_setPermit S9 a11 x2 x3 (fun S14 => Q r10 S14))))) EQ) EQ) EQ)
def rm_X8_permit : Room := { frames := 8, cells := 3, slots := 18, locals := 124 }
set_option maxHeartbeats 4000000 in
set_option maxRecDepth 100000 in
theorem c_X8_permit (l : Launch) (hfl : l.stackTraces = false) (v : Ev) (S : Hp) (x0 : Nat) (x1 : Int32) (x2 : Int32) (x3 : Int32) : CI l v yX8_permit cX8_permit 6 (some .int) rm_X8_permit [va_rf (some x0), .int x1, .int x2, .int x3] S (fun Q EQ => wp_X8_permit S x0 x1 x2 x3 Q EQ) := by
  intro Q EQ h
  refine z_start [(0, va_rf (some x0)), (1, .int x1), (2, .int x2), (3, .int x3)] (by decide +kernel) (by simp only [la_i, la_r, la_n]) (cat_cr (cat_ci (cat_ci (cat_ci cat_nil)))) (by simp only [ls_i, ls_r, ls_n]; decide) (fun z C N T => ?_)
  unfold wp_X8_permit at h
  refine z_aload_n C (pc := 0) dX8_permit_0 0 rfl ?_
  refine z_iload_n C (pc := 1) dX8_permit_1 1 rfl ?_
  obtain ⟨o1, h⟩ := h
  refine z_Vq C (pc := 2) (kc' := 1) (ks' := 6) (As := [.int x1]) (rest := []) rfl (c_X8_leaderAt l hfl v S x0 x1) mw_X8_leaderAt bw_640 bw_642 bw_p22 (fit_of rfl) rfl rfl (Nat.le_of_ble_eq_true rfl) (by decide) rfl o1 dX8_permit_2 h (fun r3 S2 h => ?_) (fun En S9 h => z_out C T N (by decide) (by decide) h)
  refine z_astore C (pc := 5) (lv' := [(4, va_rf r3), (0, va_rf (some x0)), (1, .int x1), (2, .int x2), (3, .int x3)]) dX8_permit_5 (by decide) rfl ?_
  refine z_iload_n C (pc := 7) dX8_permit_7 3 rfl ?_
  refine z_iconst C (pc := 8) (x := (1 : Int32)) dX8_permit_8 kic_1 ?_
  refine z_iconst C (pc := 9) (x := (3 : Int32)) dX8_permit_9 kic_3 ?_
  refine z_Sv C (pc := 10) (kc' := 2) (ks' := 12) (As := [.int x2, .int (1 : Int32), .int (3 : Int32)]) (rest := []) (c_X8_requireRange l hfl v S2 x2 (1 : Int32) (3 : Int32)) mw_X8_requireRange bw_281 bw_282 (fit_of rfl) rfl rfl (Nat.le_of_ble_eq_true rfl) dX8_permit_10 h (fun S4 h => ?_) (fun En S9 h => z_out C T N (by decide) (by decide) h)
  refine z_iload_n C (pc := 13) dX8_permit_13 4 rfl ?_
  refine z_iconst C (pc := 14) (x := (-1 : Int32)) dX8_permit_14 kic_m1 ?_
  refine z_sipush C (pc := 15) (x := (9999 : Int32)) dX8_permit_15 ksp_9999 ?_
  refine z_Sv C (pc := 18) (kc' := 3) (ks' := 18) (As := [.int x3, .int (-1 : Int32), .int (9999 : Int32)]) (rest := []) (c_X8_requireRange l hfl v S4 x3 (-1 : Int32) (9999 : Int32)) mw_X8_requireRange bw_281 bw_282 (fit_of rfl) rfl rfl (Nat.le_of_ble_eq_true rfl) dX8_permit_18 h (fun S5 h => ?_) (fun En S9 h => z_out C T N (by decide) (by decide) h)
  refine z_aload C (pc := 21) dX8_permit_21 0 rfl ?_
  refine z_iload_n C (pc := 23) dX8_permit_23 3 rfl ?_
  obtain ⟨a6, e7, o8, h⟩ := h
  refine z_Vi C (pc := 24) (KX := fun _ _ => False) (kc' := 3) (ks' := 18) (As := [.int x2]) (rest := []) e7 (c_X5_permitOf l v S5 a6 x2) mw_X5_permitOf bw_652 bw_321 bw_322 (fit_of rfl) rfl rfl (Nat.le_of_ble_eq_true rfl) (by decide) rfl o8 dX8_permit_24 h (fun r10 S9 h => ?_) (fun En S9 h => h.elim)
  refine z_istore C (pc := 27) (lv' := [(5, .int r10), (4, va_rf r3), (0, va_rf (some x0)), (1, .int x1), (2, .int x2), (3, .int x3)]) dX8_permit_27 (by decide) rfl ?_
  refine z_aload C (pc := 29) dX8_permit_29 1 rfl ?_
  refine z_iload_n C (pc := 31) dX8_permit_31 4 rfl ?_
  refine z_iload_n C (pc := 32) dX8_permit_32 5 rfl ?_
  obtain ⟨a11, e12, o13, h⟩ := h
  refine z_Vv C (pc := 33) (KX := fun _ _ => False) (kc' := 3) (ks' := 18) (As := [.int x2, .int x3]) (rest := []) e12 (c_X5_setPermit l v S9 a11 x2 x3) mw_X5_setPermit bw_653 bw_654 bw_655 (fit_of rfl) rfl rfl (Nat.le_of_ble_eq_true rfl) (by decide) rfl o13 dX8_permit_33 h (fun S14 h => ?_) (fun En S9 h => h.elim)
  refine z_iload C (pc := 36) dX8_permit_36 0 rfl ?_
  exact z_iret C (pc := 38) T dX8_permit_38 (by decide) (by decide) h
def wp_X8_teach (S : Hp) (x0 : Nat) (x1 : Int32) (x2 : Int32) (Q : Int32 → Hp → Prop) (EQ : String → Hp → Prop) : Prop :=
  okA S 8 x0 ∧ (wp_X8_leaderAt S x0 x1 (fun r3 S2 => wp_X8_requireRange S2 x2 (0 : Int32) (65535 : Int32) (fun S4 => rd S4 5 r3 (fun a5 => lt (g_I S4 503 a5) (fun y8 => rd S4 5 r3 (fun a9 => lt (s_I S4 503 a9 x2) (fun S12 => Q y8 S12))))) EQ) EQ)
def rm_X8_teach : Room := { frames := 8, cells := 2, slots := 12, locals := 124 }
set_option maxHeartbeats 4000000 in
set_option maxRecDepth 100000 in
theorem c_X8_teach (l : Launch) (hfl : l.stackTraces = false) (v : Ev) (S : Hp) (x0 : Nat) (x1 : Int32) (x2 : Int32) : CI l v yX8_teach cX8_teach 5 (some .int) rm_X8_teach [va_rf (some x0), .int x1, .int x2] S (fun Q EQ => wp_X8_teach S x0 x1 x2 Q EQ) := by
  intro Q EQ h
  refine z_start [(0, va_rf (some x0)), (1, .int x1), (2, .int x2)] (by decide +kernel) (by simp only [la_i, la_r, la_n]) (cat_cr (cat_ci (cat_ci cat_nil))) (by simp only [ls_i, ls_r, ls_n]; decide) (fun z C N T => ?_)
  unfold wp_X8_teach at h
  refine z_aload_n C (pc := 0) dX8_teach_0 0 rfl ?_
  refine z_iload_n C (pc := 1) dX8_teach_1 1 rfl ?_
  obtain ⟨o1, h⟩ := h
  refine z_Vq C (pc := 2) (kc' := 1) (ks' := 6) (As := [.int x1]) (rest := []) rfl (c_X8_leaderAt l hfl v S x0 x1) mw_X8_leaderAt bw_640 bw_642 bw_p22 (fit_of rfl) rfl rfl (Nat.le_of_ble_eq_true rfl) (by decide) rfl o1 dX8_teach_2 h (fun r3 S2 h => ?_) (fun En S9 h => z_out C T N (by decide) (by decide) h)
  refine z_astore_n C (pc := 5) (lv' := [(3, va_rf r3), (0, va_rf (some x0)), (1, .int x1), (2, .int x2)]) dX8_teach_5 (by decide) rfl ?_
  refine z_iload_n C (pc := 6) dX8_teach_6 3 rfl ?_
  refine z_iconst C (pc := 7) (x := (0 : Int32)) dX8_teach_7 kic_0 ?_
  refine z_ldc C (pc := 8) (x := (65535 : Int32)) dX8_teach_8 bw_661 ?_
  refine z_Sv C (pc := 10) (kc' := 2) (ks' := 12) (As := [.int x2, .int (0 : Int32), .int (65535 : Int32)]) (rest := []) (c_X8_requireRange l hfl v S2 x2 (0 : Int32) (65535 : Int32)) mw_X8_requireRange bw_281 bw_282 (fit_of rfl) rfl rfl (Nat.le_of_ble_eq_true rfl) dX8_teach_10 h (fun S4 h => ?_) (fun En S9 h => z_out C T N (by decide) (by decide) h)
  refine z_aload_n C (pc := 13) dX8_teach_13 0 rfl ?_
  obtain ⟨a5, e6, o7, h⟩ := h
  refine z_getI C (pc := 14) kf5 3 (by decide) rfl bw_626 (fun _ _ _ _ h => h) dX8_teach_14 e6 o7 ?_
  refine z_nI h (fun y8 h => ?_)
  refine z_istore C (pc := 17) (lv' := [(4, .int y8), (3, va_rf r3), (0, va_rf (some x0)), (1, .int x1), (2, .int x2)]) dX8_teach_17 (by decide) rfl ?_
  refine z_aload_n C (pc := 19) dX8_teach_19 1 rfl ?_
  refine z_iload_n C (pc := 20) dX8_teach_20 4 rfl ?_
  obtain ⟨a9, e10, o11, h⟩ := h
  refine z_putI C (pc := 21) kf5 3 (by decide) rfl rfl bw_626 (fun _ _ _ _ h => h) dX8_teach_21 e10 o11 ?_
  refine z_lt h (fun S12 h => ?_)
  refine z_iload C (pc := 24) dX8_teach_24 0 rfl ?_
  exact z_iret C (pc := 26) T dX8_teach_26 (by decide) (by decide) h
def wp_X8_badgeAt (S : Hp) (x0 : Nat) (x1 : Int32) (Q : Option Nat → Hp → Prop) (EQ : String → Hp → Prop) : Prop :=
  okA S 8 x0 ∧ (rd S 13 (g_P S 804 x0) (fun a2 => wp_X8_requireIndex S x1 (Int32.ofNat (g_N S a2)) (fun S5 => okA S5 8 x0 ∧ (rd S5 13 (g_P S5 804 x0) (fun a7 => vp_in x1 (g_N S5 a7) ∧ (Q (g_O S5 a7 x1.toNatClampNeg) S5)))) EQ))
def rm_X8_badgeAt : Room := { frames := 7, cells := 1, slots := 6, locals := 103 }
set_option maxHeartbeats 4000000 in
set_option maxRecDepth 100000 in
theorem c_X8_badgeAt (l : Launch) (hfl : l.stackTraces = false) (v : Ev) (S : Hp) (x0 : Nat) (x1 : Int32) : CQ l v yX8_badgeAt cX8_badgeAt 2 (some (.object "Badgewood$Badge")) rm_X8_badgeAt [va_rf (some x0), .int x1] S (fun Q EQ => wp_X8_badgeAt S x0 x1 Q EQ) := by
  intro Q EQ h
  refine z_start [(0, va_rf (some x0)), (1, .int x1)] (by decide +kernel) (by simp only [la_i, la_r, la_n]) (cat_cr (cat_ci cat_nil)) (by simp only [ls_i, ls_r, ls_n]; decide) (fun z C N T => ?_)
  unfold wp_X8_badgeAt at h
  refine z_iload_n C (pc := 0) dX8_badgeAt_0 1 rfl ?_
  refine z_aload_n C (pc := 1) dX8_badgeAt_1 0 rfl ?_
  obtain ⟨o1, h⟩ := h
  refine z_getP C (pc := 2) kf8 4 (by decide) rfl bw_78 (fun _ _ _ _ h => h) dX8_badgeAt_2 rfl o1 ?_
  obtain ⟨a2, e3, o4, h⟩ := h
  refine z_alen C (pc := 5) (κ := 13) (by decide) 2 (.object "Badgewood$Badge") (fun _ => rfl) dX8_badgeAt_5 e3 o4 ?_
  refine z_Sv C (pc := 6) (kc' := 1) (ks' := 6) (As := [.int x1, .int (Int32.ofNat (g_N S a2))]) (rest := []) (c_X8_requireIndex l hfl v S x1 (Int32.ofNat (g_N S a2))) mw_X8_requireIndex bw_125 bw_126 (fit_of rfl) rfl rfl (Nat.le_of_ble_eq_true rfl) dX8_badgeAt_6 h (fun S5 h => ?_) (fun En S9 h => z_out C T N (by decide) (by decide) h)
  refine z_aload_n C (pc := 9) dX8_badgeAt_9 0 rfl ?_
  obtain ⟨o6, h⟩ := h
  refine z_getP C (pc := 10) kf8 4 (by decide) rfl bw_78 (fun _ _ _ _ h => h) dX8_badgeAt_10 rfl o6 ?_
  refine z_iload_n C (pc := 13) dX8_badgeAt_13 1 rfl ?_
  obtain ⟨a7, e8, o9, h⟩ := h
  obtain ⟨v10, h⟩ := h
  refine z_aald C (pc := 14) (κ := 13) (by decide) 2 (fun _ => rfl) dX8_badgeAt_14 e8 o9 v10 ?_
  exact z_aret C (pc := 15) rfl (Or.inl ⟨_, rfl⟩) T dX8_badgeAt_15 (by decide) (by decide) h
def wp_X8_edition (S : Hp) (x0 : Nat) (x1 : Int32) (x2 : Int32) (x3 : Int32) (x4 : Int32) (x5 : Int32) (x6 : Int32) (x7 : Int32) (Q : Int32 → Hp → Prop) (EQ : String → Hp → Prop) : Prop :=
  okA S 8 x0 ∧ (wp_X8_badgeAt S x0 x1 (fun r3 S2 => wp_X8_requireRange S2 x2 (0 : Int32) (65535 : Int32) (fun S4 => wp_X8_requireRange S4 x3 (0 : Int32) (65535 : Int32) (fun S5 => if (x2 &&& x3) = 0 then (wp_J6_bitCount_0f7a4 S5 x3 (fun r7 S6 => wp_X8_requireRange S6 x4 (0 : Int32) r7 (fun S8 => wp_X8_requireRange S8 x5 (-1 : Int32) (x1 - (1 : Int32)) (fun S9 => if x5 = (-1 : Int32) then (wp_X8_requireRange S9 x7 (0 : Int32) (4000 : Int32) (fun S10 => rd S10 0 r3 (fun a11 => rd S10 10 (g_P S10 0 a11) (fun a14 => wp_Jx4a65c_size_8abf5 S10 a14 (fun r18 S17 => wp_X8_requireRoom S17 r18 (3 : Int32) (fun S19 => rd S19 0 r3 (fun a20 => (∀ a23, a23 ∉ g_L S19 → lt (n_O 3 S19 a23) (fun S24 => wp_X3_init S24 a23 x2 x3 x4 x5 x6 x7 (fun S25 => rd S25 10 (g_P S19 0 a20) (fun a26 => wp_Jx4a65c_add_9ea2d S25 a26 (some a23) (fun r30 S29 => rd S29 0 r3 (fun a31 => rd S29 10 (g_P S29 0 a31) (fun a34 => wp_Jx4a65c_size_8abf5 S29 a34 (fun r38 S37 => Q (r38 - (1 : Int32)) S37)))))))))) EQ)))) EQ) else (wp_X8_requireRange S9 x6 (0 : Int32) (400 : Int32) (fun S39 => wp_X8_requireRange S39 x7 (0 : Int32) (4000 : Int32) (fun S40 => rd S40 0 r3 (fun a41 => rd S40 10 (g_P S40 0 a41) (fun a44 => wp_Jx4a65c_size_8abf5 S40 a44 (fun r48 S47 => wp_X8_requireRoom S47 r48 (3 : Int32) (fun S49 => rd S49 0 r3 (fun a50 => (∀ a53, a53 ∉ g_L S49 → lt (n_O 3 S49 a53) (fun S54 => wp_X3_init S54 a53 x2 x3 x4 x5 x6 x7 (fun S55 => rd S55 10 (g_P S49 0 a50) (fun a56 => wp_Jx4a65c_add_9ea2d S55 a56 (some a53) (fun r60 S59 => rd S59 0 r3 (fun a61 => rd S59 10 (g_P S59 0 a61) (fun a64 => wp_Jx4a65c_size_8abf5 S59 a64 (fun r68 S67 => Q (r68 - (1 : Int32)) S67)))))))))) EQ)))) EQ) EQ)) EQ) EQ)) else (EQ "java/lang/IllegalArgumentException" S5)) EQ) EQ) EQ)
def rm_X8_edition : Room := { frames := 8, cells := 10, slots := 118, locals := 231 }
set_option maxHeartbeats 4000000 in
set_option maxRecDepth 100000 in
theorem c_X8_edition (l : Launch) (hfl : l.stackTraces = false) (v : Ev) (S : Hp) (x0 : Nat) (x1 : Int32) (x2 : Int32) (x3 : Int32) (x4 : Int32) (x5 : Int32) (x6 : Int32) (x7 : Int32) : CI l v yX8_edition cX8_edition 9 (some .int) rm_X8_edition [va_rf (some x0), .int x1, .int x2, .int x3, .int x4, .int x5, .int x6, .int x7] S (fun Q EQ => wp_X8_edition S x0 x1 x2 x3 x4 x5 x6 x7 Q EQ) := by
  intro Q EQ h
  refine z_start [(0, va_rf (some x0)), (1, .int x1), (2, .int x2), (3, .int x3), (4, .int x4), (5, .int x5), (6, .int x6), (7, .int x7)] (by decide +kernel) (by simp only [la_i, la_r, la_n]) (cat_cr (cat_ci (cat_ci (cat_ci (cat_ci (cat_ci (cat_ci (cat_ci cat_nil)))))))) (by simp only [ls_i, ls_r, ls_n]; decide) (fun z C N T => ?_)
  unfold wp_X8_edition at h
  refine z_aload_n C (pc := 0) dX8_edition_0 0 rfl ?_
  refine z_iload_n C (pc := 1) dX8_edition_1 1 rfl ?_
  obtain ⟨o1, h⟩ := h
  refine z_Vq C (pc := 2) (kc' := 1) (ks' := 6) (As := [.int x1]) (rest := []) rfl (c_X8_badgeAt l hfl v S x0 x1) mw_X8_badgeAt bw_666 bw_668 bw_p23 (fit_of rfl) rfl rfl (Nat.le_of_ble_eq_true rfl) (by decide) rfl o1 dX8_edition_2 h (fun r3 S2 h => ?_) (fun En S9 h => z_out C T N (by decide) (by decide) h)
  refine z_astore C (pc := 5) (lv' := [(8, va_rf r3), (0, va_rf (some x0)), (1, .int x1), (2, .int x2), (3, .int x3), (4, .int x4), (5, .int x5), (6, .int x6), (7, .int x7)]) dX8_edition_5 (by decide) rfl ?_
  refine z_iload_n C (pc := 7) dX8_edition_7 3 rfl ?_
  refine z_iconst C (pc := 8) (x := (0 : Int32)) dX8_edition_8 kic_0 ?_
  refine z_ldc C (pc := 9) (x := (65535 : Int32)) dX8_edition_9 bw_661 ?_
  refine z_Sv C (pc := 11) (kc' := 2) (ks' := 12) (As := [.int x2, .int (0 : Int32), .int (65535 : Int32)]) (rest := []) (c_X8_requireRange l hfl v S2 x2 (0 : Int32) (65535 : Int32)) mw_X8_requireRange bw_281 bw_282 (fit_of rfl) rfl rfl (Nat.le_of_ble_eq_true rfl) dX8_edition_11 h (fun S4 h => ?_) (fun En S9 h => z_out C T N (by decide) (by decide) h)
  refine z_iload_n C (pc := 14) dX8_edition_14 4 rfl ?_
  refine z_iconst C (pc := 15) (x := (0 : Int32)) dX8_edition_15 kic_0 ?_
  refine z_ldc C (pc := 16) (x := (65535 : Int32)) dX8_edition_16 bw_661 ?_
  refine z_Sv C (pc := 18) (kc' := 3) (ks' := 18) (As := [.int x3, .int (0 : Int32), .int (65535 : Int32)]) (rest := []) (c_X8_requireRange l hfl v S4 x3 (0 : Int32) (65535 : Int32)) mw_X8_requireRange bw_281 bw_282 (fit_of rfl) rfl rfl (Nat.le_of_ble_eq_true rfl) dX8_edition_18 h (fun S5 h => ?_) (fun En S9 h => z_out C T N (by decide) (by decide) h)
  refine z_iload_n C (pc := 21) dX8_edition_21 3 rfl ?_
  refine z_iload_n C (pc := 22) dX8_edition_22 4 rfl ?_
  refine z_iand C (pc := 23) dX8_edition_23 ?_
  refine z_if_eq C (pc := 24) (tgt := 37) dX8_edition_24 (by decide) h (fun h => ?_) (fun h => ?_)
  · refine z_iload C (pc := 37) dX8_edition_37 5 rfl ?_
    refine z_iconst C (pc := 39) (x := (0 : Int32)) dX8_edition_39 kic_0 ?_
    refine z_iload_n C (pc := 40) dX8_edition_40 4 rfl ?_
    refine z_Si C (pc := 41) (KX := fun _ _ => False) (kc' := 3) (ks' := 18) (As := [.int x3]) (rest := [.int (0 : Int32), .int x4]) (c_J6_bitCount_0f7a4 l v S5 x3) mw_J6_bitCount_0f7a4 bw_613 bw_359 (fit_of rfl) rfl rfl (Nat.le_of_ble_eq_true rfl) dX8_edition_41 h (fun r7 S6 h => ?_) (fun En S9 h => h.elim)
    refine z_Sv C (pc := 44) (kc' := 4) (ks' := 24) (As := [.int x4, .int (0 : Int32), .int r7]) (rest := []) (c_X8_requireRange l hfl v S6 x4 (0 : Int32) r7) mw_X8_requireRange bw_281 bw_282 (fit_of rfl) rfl rfl (Nat.le_of_ble_eq_true rfl) dX8_edition_44 h (fun S8 h => ?_) (fun En S9 h => z_out C T N (by decide) (by decide) h)
    refine z_iload C (pc := 47) dX8_edition_47 6 rfl ?_
    refine z_iconst C (pc := 49) (x := (-1 : Int32)) dX8_edition_49 kic_m1 ?_
    refine z_iload_n C (pc := 50) dX8_edition_50 2 rfl ?_
    refine z_iconst C (pc := 51) (x := (1 : Int32)) dX8_edition_51 kic_1 ?_
    refine z_isub C (pc := 52) dX8_edition_52 ?_
    refine z_Sv C (pc := 53) (kc' := 5) (ks' := 30) (As := [.int x5, .int (-1 : Int32), .int (x1 - (1 : Int32))]) (rest := []) (c_X8_requireRange l hfl v S8 x5 (-1 : Int32) (x1 - (1 : Int32))) mw_X8_requireRange bw_281 bw_282 (fit_of rfl) rfl rfl (Nat.le_of_ble_eq_true rfl) dX8_edition_53 h (fun S9 h => ?_) (fun En S9 h => z_out C T N (by decide) (by decide) h)
    refine z_iload C (pc := 56) dX8_edition_56 6 rfl ?_
    refine z_iconst C (pc := 58) (x := (-1 : Int32)) dX8_edition_58 kic_m1 ?_
    refine z_icmp_eq C (pc := 59) (tgt := 71) dX8_edition_59 (by decide) h (fun h => ?_) (fun h => ?_)
    · refine z_iload C (pc := 71) dX8_edition_71 8 rfl ?_
      refine z_iconst C (pc := 73) (x := (0 : Int32)) dX8_edition_73 kic_0 ?_
      refine z_sipush C (pc := 74) (x := (4000 : Int32)) dX8_edition_74 ksp_4000 ?_
      refine z_Sv C (pc := 77) (kc' := 6) (ks' := 36) (As := [.int x7, .int (0 : Int32), .int (4000 : Int32)]) (rest := []) (c_X8_requireRange l hfl v S9 x7 (0 : Int32) (4000 : Int32)) mw_X8_requireRange bw_281 bw_282 (fit_of rfl) rfl rfl (Nat.le_of_ble_eq_true rfl) dX8_edition_77 h (fun S10 h => ?_) (fun En S9 h => z_out C T N (by decide) (by decide) h)
      refine z_aload C (pc := 80) dX8_edition_80 0 rfl ?_
      obtain ⟨a11, e12, o13, h⟩ := h
      refine z_getP C (pc := 82) kf0 0 (by decide) rfl bw_70 (fun _ _ _ _ h => h) dX8_edition_82 e12 o13 ?_
      obtain ⟨a14, e15, o16, h⟩ := h
      refine z_Vi C (pc := 85) (KX := fun _ _ => False) (kc' := 6) (ks' := 36) (As := []) (rest := []) e15 (c_Jx4a65c_size_8abf5 l v S10 a14) mw_Jx4a65c_size_8abf5 bw_121 bw_122 bw_123 (fit_of rfl) rfl rfl (Nat.le_of_ble_eq_true rfl) (by decide) rfl o16 dX8_edition_85 h (fun r18 S17 h => ?_) (fun En S9 h => h.elim)
      refine z_iconst C (pc := 88) (x := (3 : Int32)) dX8_edition_88 kic_3 ?_
      refine z_Sv C (pc := 89) (kc' := 7) (ks' := 42) (As := [.int r18, .int (3 : Int32)]) (rest := []) (c_X8_requireRoom l hfl v S17 r18 (3 : Int32)) mw_X8_requireRoom bw_380 bw_381 (fit_of rfl) rfl rfl (Nat.le_of_ble_eq_true rfl) dX8_edition_89 h (fun S19 h => ?_) (fun En S9 h => z_out C T N (by decide) (by decide) h)
      refine z_aload C (pc := 92) dX8_edition_92 0 rfl ?_
      obtain ⟨a20, e21, o22, h⟩ := h
      refine z_getP C (pc := 94) kf0 0 (by decide) rfl bw_70 (fun _ _ _ _ h => h) dX8_edition_94 e21 o22 ?_
      refine z_new C (pc := 97) (kc' := 8) (ks' := 48) kf3 bw_674 bw_794 bw_24 dX8_edition_97 (by decide) (by decide) (by decide) (by decide) h (fun a23 S24 h => ?_)
      refine z_dup C (pc := 100) dX8_edition_100 (cat_rf _) ?_
      refine z_iload_n C (pc := 101) dX8_edition_101 3 rfl ?_
      refine z_iload_n C (pc := 102) dX8_edition_102 4 rfl ?_
      refine z_iload C (pc := 103) dX8_edition_103 5 rfl ?_
      refine z_iload C (pc := 105) dX8_edition_105 6 rfl ?_
      refine z_iload C (pc := 107) dX8_edition_107 7 rfl ?_
      refine z_iload C (pc := 109) dX8_edition_109 8 rfl ?_
      refine z_I C (pc := 111) (KX := fun _ _ => False) (kc' := 8) (ks' := 48) (As := [.int x2, .int x3, .int x4, .int x5, .int x6, .int x7]) (rest := [va_rf (some a23), va_rf (g_P S19 0 a20)]) (c_X3_init l v S24 a23 x2 x3 x4 x5 x6 x7) mw_X3_init bw_795 bw_796 rfl (fit_of rfl) rfl rfl (Nat.le_of_ble_eq_true rfl) dX8_edition_111 h (fun S25 h => ?_) (fun En S9 h => h.elim)
      obtain ⟨a26, e27, o28, h⟩ := h
      refine z_Vi C (pc := 114) (KX := fun _ _ => False) (kc' := 9) (ks' := 112) (As := [va_rf (some a23)]) (rest := []) e27 (c_Jx4a65c_add_9ea2d l v S25 a26 (some a23)) mw_Jx4a65c_add_9ea2d bw_419 bw_420 bw_421 (fit_of rfl) rfl rfl (Nat.le_of_ble_eq_true rfl) (by decide) rfl o28 dX8_edition_114 h (fun r30 S29 h => ?_) (fun En S9 h => h.elim)
      refine z_pop C (pc := 117) dX8_edition_117 rfl ?_
      refine z_aload C (pc := 118) dX8_edition_118 0 rfl ?_
      obtain ⟨a31, e32, o33, h⟩ := h
      refine z_getP C (pc := 120) kf0 0 (by decide) rfl bw_70 (fun _ _ _ _ h => h) dX8_edition_120 e32 o33 ?_
      obtain ⟨a34, e35, o36, h⟩ := h
      refine z_Vi C (pc := 123) (KX := fun _ _ => False) (kc' := 9) (ks' := 112) (As := []) (rest := []) e35 (c_Jx4a65c_size_8abf5 l v S29 a34) mw_Jx4a65c_size_8abf5 bw_121 bw_122 bw_123 (fit_of rfl) rfl rfl (Nat.le_of_ble_eq_true rfl) (by decide) rfl o36 dX8_edition_123 h (fun r38 S37 h => ?_) (fun En S9 h => h.elim)
      refine z_iconst C (pc := 126) (x := (1 : Int32)) dX8_edition_126 kic_1 ?_
      refine z_isub C (pc := 127) dX8_edition_127 ?_
      exact z_iret C (pc := 128) T dX8_edition_128 (by decide) (by decide) h
    · refine z_iload C (pc := 62) dX8_edition_62 7 rfl ?_
      refine z_iconst C (pc := 64) (x := (0 : Int32)) dX8_edition_64 kic_0 ?_
      refine z_sipush C (pc := 65) (x := (400 : Int32)) dX8_edition_65 ksp_400 ?_
      refine z_Sv C (pc := 68) (kc' := 6) (ks' := 36) (As := [.int x6, .int (0 : Int32), .int (400 : Int32)]) (rest := []) (c_X8_requireRange l hfl v S9 x6 (0 : Int32) (400 : Int32)) mw_X8_requireRange bw_281 bw_282 (fit_of rfl) rfl rfl (Nat.le_of_ble_eq_true rfl) dX8_edition_68 h (fun S39 h => ?_) (fun En S9 h => z_out C T N (by decide) (by decide) h)
      refine z_iload C (pc := 71) dX8_edition_71 8 rfl ?_
      refine z_iconst C (pc := 73) (x := (0 : Int32)) dX8_edition_73 kic_0 ?_
      refine z_sipush C (pc := 74) (x := (4000 : Int32)) dX8_edition_74 ksp_4000 ?_
      refine z_Sv C (pc := 77) (kc' := 7) (ks' := 42) (As := [.int x7, .int (0 : Int32), .int (4000 : Int32)]) (rest := []) (c_X8_requireRange l hfl v S39 x7 (0 : Int32) (4000 : Int32)) mw_X8_requireRange bw_281 bw_282 (fit_of rfl) rfl rfl (Nat.le_of_ble_eq_true rfl) dX8_edition_77 h (fun S40 h => ?_) (fun En S9 h => z_out C T N (by decide) (by decide) h)
      refine z_aload C (pc := 80) dX8_edition_80 0 rfl ?_
      obtain ⟨a41, e42, o43, h⟩ := h
      refine z_getP C (pc := 82) kf0 0 (by decide) rfl bw_70 (fun _ _ _ _ h => h) dX8_edition_82 e42 o43 ?_
      obtain ⟨a44, e45, o46, h⟩ := h
      refine z_Vi C (pc := 85) (KX := fun _ _ => False) (kc' := 7) (ks' := 42) (As := []) (rest := []) e45 (c_Jx4a65c_size_8abf5 l v S40 a44) mw_Jx4a65c_size_8abf5 bw_121 bw_122 bw_123 (fit_of rfl) rfl rfl (Nat.le_of_ble_eq_true rfl) (by decide) rfl o46 dX8_edition_85 h (fun r48 S47 h => ?_) (fun En S9 h => h.elim)
      refine z_iconst C (pc := 88) (x := (3 : Int32)) dX8_edition_88 kic_3 ?_
      refine z_Sv C (pc := 89) (kc' := 8) (ks' := 48) (As := [.int r48, .int (3 : Int32)]) (rest := []) (c_X8_requireRoom l hfl v S47 r48 (3 : Int32)) mw_X8_requireRoom bw_380 bw_381 (fit_of rfl) rfl rfl (Nat.le_of_ble_eq_true rfl) dX8_edition_89 h (fun S49 h => ?_) (fun En S9 h => z_out C T N (by decide) (by decide) h)
      refine z_aload C (pc := 92) dX8_edition_92 0 rfl ?_
      obtain ⟨a50, e51, o52, h⟩ := h
      refine z_getP C (pc := 94) kf0 0 (by decide) rfl bw_70 (fun _ _ _ _ h => h) dX8_edition_94 e51 o52 ?_
      refine z_new C (pc := 97) (kc' := 9) (ks' := 54) kf3 bw_674 bw_794 bw_24 dX8_edition_97 (by decide) (by decide) (by decide) (by decide) h (fun a53 S54 h => ?_)
      refine z_dup C (pc := 100) dX8_edition_100 (cat_rf _) ?_
      refine z_iload_n C (pc := 101) dX8_edition_101 3 rfl ?_
      refine z_iload_n C (pc := 102) dX8_edition_102 4 rfl ?_
      refine z_iload C (pc := 103) dX8_edition_103 5 rfl ?_
      refine z_iload C (pc := 105) dX8_edition_105 6 rfl ?_
      refine z_iload C (pc := 107) dX8_edition_107 7 rfl ?_
      refine z_iload C (pc := 109) dX8_edition_109 8 rfl ?_
      refine z_I C (pc := 111) (KX := fun _ _ => False) (kc' := 9) (ks' := 54) (As := [.int x2, .int x3, .int x4, .int x5, .int x6, .int x7]) (rest := [va_rf (some a53), va_rf (g_P S49 0 a50)]) (c_X3_init l v S54 a53 x2 x3 x4 x5 x6 x7) mw_X3_init bw_795 bw_796 rfl (fit_of rfl) rfl rfl (Nat.le_of_ble_eq_true rfl) dX8_edition_111 h (fun S55 h => ?_) (fun En S9 h => h.elim)
      obtain ⟨a56, e57, o58, h⟩ := h
      refine z_Vi C (pc := 114) (KX := fun _ _ => False) (kc' := 10) (ks' := 118) (As := [va_rf (some a53)]) (rest := []) e57 (c_Jx4a65c_add_9ea2d l v S55 a56 (some a53)) mw_Jx4a65c_add_9ea2d bw_419 bw_420 bw_421 (fit_of rfl) rfl rfl (Nat.le_of_ble_eq_true rfl) (by decide) rfl o58 dX8_edition_114 h (fun r60 S59 h => ?_) (fun En S9 h => h.elim)
      refine z_pop C (pc := 117) dX8_edition_117 rfl ?_
      refine z_aload C (pc := 118) dX8_edition_118 0 rfl ?_
      obtain ⟨a61, e62, o63, h⟩ := h
      refine z_getP C (pc := 120) kf0 0 (by decide) rfl bw_70 (fun _ _ _ _ h => h) dX8_edition_120 e62 o63 ?_
      obtain ⟨a64, e65, o66, h⟩ := h
      refine z_Vi C (pc := 123) (KX := fun _ _ => False) (kc' := 10) (ks' := 118) (As := []) (rest := []) e65 (c_Jx4a65c_size_8abf5 l v S59 a64) mw_Jx4a65c_size_8abf5 bw_121 bw_122 bw_123 (fit_of rfl) rfl rfl (Nat.le_of_ble_eq_true rfl) (by decide) rfl o66 dX8_edition_123 h (fun r68 S67 h => ?_) (fun En S9 h => h.elim)
      refine z_iconst C (pc := 126) (x := (1 : Int32)) dX8_edition_126 kic_1 ?_
      refine z_isub C (pc := 127) dX8_edition_127 ?_
      exact z_iret C (pc := 128) T dX8_edition_128 (by decide) (by decide) h
  · exact z_throw C (pc := 27) (text := "both sets have a skill in common") (names := ["java/lang/RuntimeException", "java/lang/Exception"]) hfl T N ft_IllegalArgumentException bw_224 bw_9 st_X8_177 at_X8_179 go_X8_179 ⟨by decide +kernel, by decide +kernel⟩ dX8_edition_27 dX8_edition_30 dX8_edition_31 dX8_edition_33 dX8_edition_36 ⟨by decide, Nat.le_of_ble_eq_true rfl, by decide, by decide⟩ h
def wp_X8_begin (S : Hp) (x0 : Nat) (x1 : Int32) (x2 : Int32) (Q : Int32 → Hp → Prop) (EQ : String → Hp → Prop) : Prop :=
  okA S 8 x0 ∧ (wp_X8_childAt S x0 x1 (fun r3 S2 => okA S2 8 x0 ∧ (wp_X8_badgeAt S2 x0 x2 (fun r6 S5 => rd S5 0 r6 (fun a7 => rd S5 10 (g_P S5 0 a7) (fun a10 => wp_Jx4a65c_size_8abf5 S5 a10 (fun r14 S13 => if r14 = 0 then (EQ "java/lang/IllegalStateException" S13) else (rd S13 1 r3 (fun a15 => wp_X1_courseOf S13 a15 x2 (fun r19 S18 => if r19 = none then ((∀ a20, a20 ∉ g_L S18 → lt (n_O 2 S18 a20) (fun S21 => rd S21 0 r6 (fun a22 => rd S21 10 (g_P S21 0 a22) (fun a25 => wp_Jx4a65c_get_915e3 S21 a25 (r14 - (1 : Int32)) (fun r29 S28 => (∀ a, r29 = some a → okA S28 3 a) ∧ (okA S28 8 x0 ∧ (wp_X2_init S28 a20 r29 (g_I S28 805 x0) (fun S32 => rd S32 1 r3 (fun a33 => wp_X1_take S32 a33 x2 (some a20) (fun S36 => Q (r14 - (1 : Int32)) S36))))))))))) else (EQ "java/lang/IllegalStateException" S18)))))))) EQ)) EQ)
def rm_X8_begin : Room := { frames := 8, cells := 3, slots := 18, locals := 124 }
set_option maxHeartbeats 4000000 in
set_option maxRecDepth 100000 in
theorem c_X8_begin (l : Launch) (hfl : l.stackTraces = false) (v : Ev) (S : Hp) (x0 : Nat) (x1 : Int32) (x2 : Int32) : CI l v yX8_begin cX8_begin 6 (some .int) rm_X8_begin [va_rf (some x0), .int x1, .int x2] S (fun Q EQ => wp_X8_begin S x0 x1 x2 Q EQ) := by
  intro Q EQ h
  refine z_start [(0, va_rf (some x0)), (1, .int x1), (2, .int x2)] (by decide +kernel) (by simp only [la_i, la_r, la_n]) (cat_cr (cat_ci (cat_ci cat_nil))) (by simp only [ls_i, ls_r, ls_n]; decide) (fun z C N T => ?_)
  unfold wp_X8_begin at h
  refine z_aload_n C (pc := 0) dX8_begin_0 0 rfl ?_
  refine z_iload_n C (pc := 1) dX8_begin_1 1 rfl ?_
  obtain ⟨o1, h⟩ := h
  refine z_Vq C (pc := 2) (kc' := 1) (ks' := 6) (As := [.int x1]) (rest := []) rfl (c_X8_childAt l hfl v S x0 x1) mw_X8_childAt bw_117 bw_119 bw_p0 (fit_of rfl) rfl rfl (Nat.le_of_ble_eq_true rfl) (by decide) rfl o1 dX8_begin_2 h (fun r3 S2 h => ?_) (fun En S9 h => z_out C T N (by decide) (by decide) h)
  refine z_astore_n C (pc := 5) (lv' := [(3, va_rf r3), (0, va_rf (some x0)), (1, .int x1), (2, .int x2)]) dX8_begin_5 (by decide) rfl ?_
  refine z_aload_n C (pc := 6) dX8_begin_6 1 rfl ?_
  refine z_iload_n C (pc := 7) dX8_begin_7 3 rfl ?_
  obtain ⟨o4, h⟩ := h
  refine z_Vq C (pc := 8) (kc' := 2) (ks' := 12) (As := [.int x2]) (rest := []) rfl (c_X8_badgeAt l hfl v S2 x0 x2) mw_X8_badgeAt bw_666 bw_668 bw_p23 (fit_of rfl) rfl rfl (Nat.le_of_ble_eq_true rfl) (by decide) rfl o4 dX8_begin_8 h (fun r6 S5 h => ?_) (fun En S9 h => z_out C T N (by decide) (by decide) h)
  refine z_astore C (pc := 11) (lv' := [(4, va_rf r6), (3, va_rf r3), (0, va_rf (some x0)), (1, .int x1), (2, .int x2)]) dX8_begin_11 (by decide) rfl ?_
  refine z_aload C (pc := 13) dX8_begin_13 0 rfl ?_
  obtain ⟨a7, e8, o9, h⟩ := h
  refine z_getP C (pc := 15) kf0 0 (by decide) rfl bw_70 (fun _ _ _ _ h => h) dX8_begin_15 e8 o9 ?_
  obtain ⟨a10, e11, o12, h⟩ := h
  refine z_Vi C (pc := 18) (KX := fun _ _ => False) (kc' := 2) (ks' := 12) (As := []) (rest := []) e11 (c_Jx4a65c_size_8abf5 l v S5 a10) mw_Jx4a65c_size_8abf5 bw_121 bw_122 bw_123 (fit_of rfl) rfl rfl (Nat.le_of_ble_eq_true rfl) (by decide) rfl o12 dX8_begin_18 h (fun r14 S13 h => ?_) (fun En S9 h => h.elim)
  refine z_istore C (pc := 21) (lv' := [(5, .int r14), (4, va_rf r6), (3, va_rf r3), (0, va_rf (some x0)), (1, .int x1), (2, .int x2)]) dX8_begin_21 (by decide) rfl ?_
  refine z_iload C (pc := 23) dX8_begin_23 0 rfl ?_
  refine z_if_ne C (pc := 25) (tgt := 38) dX8_begin_25 (by decide) h (fun h => ?_) (fun h => ?_)
  · refine z_aload_n C (pc := 38) dX8_begin_38 2 rfl ?_
    refine z_iload_n C (pc := 39) dX8_begin_39 5 rfl ?_
    obtain ⟨a15, e16, o17, h⟩ := h
    refine z_Vq C (pc := 40) (KX := fun _ _ => False) (kc' := 2) (ks' := 12) (As := [.int x2]) (rest := []) e16 (c_X1_courseOf l v S13 a15 x2) mw_X1_courseOf bw_249 bw_220 bw_221 (fit_of rfl) rfl rfl (Nat.le_of_ble_eq_true rfl) (by decide) rfl o17 dX8_begin_40 h (fun r19 S18 h => ?_) (fun En S9 h => h.elim)
    refine z_ifnull C (pc := 43) (tgt := 56) dX8_begin_43 (by decide) h (fun h => ?_) (fun h => ?_)
    · refine z_aload_n C (pc := 56) dX8_begin_56 2 rfl ?_
      refine z_iload_n C (pc := 57) dX8_begin_57 5 rfl ?_
      refine z_new C (pc := 58) (kc' := 3) (ks' := 15) kf2 bw_672 bw_673 bw_22 dX8_begin_58 (by decide) (by decide) (by decide) (by decide) h (fun a20 S21 h => ?_)
      refine z_dup C (pc := 61) dX8_begin_61 (cat_rf _) ?_
      refine z_aload C (pc := 62) dX8_begin_62 1 rfl ?_
      obtain ⟨a22, e23, o24, h⟩ := h
      refine z_getP C (pc := 64) kf0 0 (by decide) rfl bw_70 (fun _ _ _ _ h => h) dX8_begin_64 e23 o24 ?_
      refine z_iload C (pc := 67) dX8_begin_67 0 rfl ?_
      refine z_iconst C (pc := 69) (x := (1 : Int32)) dX8_begin_69 kic_1 ?_
      refine z_isub C (pc := 70) dX8_begin_70 ?_
      obtain ⟨a25, e26, o27, h⟩ := h
      refine z_Vq C (pc := 71) (KX := fun _ _ => False) (kc' := 3) (ks' := 15) (As := [.int (r14 - (1 : Int32))]) (rest := [va_rf (some a20), va_rf (some a20), .int x2, va_rf r3]) e26 (c_Jx4a65c_get_915e3 l v S21 a25 (r14 - (1 : Int32))) mw_Jx4a65c_get_915e3 bw_196 bw_197 bw_198 (fit_of rfl) rfl rfl (Nat.le_of_ble_eq_true rfl) (by decide) rfl o27 dX8_begin_71 h (fun r29 S28 h => ?_) (fun En S9 h => h.elim)
      obtain ⟨k30, h⟩ := h
      refine z_cast C (pc := 74) (κ := 3) (by decide) rfl bw_674 dX8_begin_74 k30 ?_
      refine z_aload_n C (pc := 77) dX8_begin_77 3 rfl ?_
      obtain ⟨o31, h⟩ := h
      refine z_getI C (pc := 78) kf8 5 (by decide) rfl bw_79 (fun _ _ _ _ h => h) dX8_begin_78 rfl o31 ?_
      refine z_I C (pc := 81) (KX := fun _ _ => False) (kc' := 3) (ks' := 15) (As := [va_rf r29, .int (g_I S28 805 x0)]) (rest := [va_rf (some a20), .int x2, va_rf r3]) (c_X2_init l v S28 a20 r29 (g_I S28 805 x0)) mw_X2_init bw_675 bw_676 rfl (fit_of rfl) rfl rfl (Nat.le_of_ble_eq_true rfl) dX8_begin_81 h (fun S32 h => ?_) (fun En S9 h => h.elim)
      obtain ⟨a33, e34, o35, h⟩ := h
      refine z_Vv C (pc := 84) (KX := fun _ _ => False) (kc' := 3) (ks' := 15) (As := [.int x2, va_rf (some a20)]) (rest := []) e34 (c_X1_take l v S32 a33 x2 (some a20)) mw_X1_take bw_694 bw_695 bw_696 (fit_of rfl) rfl rfl (Nat.le_of_ble_eq_true rfl) (by decide) rfl o35 dX8_begin_84 h (fun S36 h => ?_) (fun En S9 h => h.elim)
      refine z_iload C (pc := 87) dX8_begin_87 0 rfl ?_
      refine z_iconst C (pc := 89) (x := (1 : Int32)) dX8_begin_89 kic_1 ?_
      refine z_isub C (pc := 90) dX8_begin_90 ?_
      exact z_iret C (pc := 91) T dX8_begin_91 (by decide) (by decide) h
    · exact z_throw C (pc := 46) (text := "the badge was begun") (names := ["java/lang/RuntimeException", "java/lang/Exception"]) hfl T N ft_IllegalStateException bw_383 bw_10 st_X8_194 at_X8_82 go_X8_82 ⟨by decide +kernel, by decide +kernel⟩ dX8_begin_46 dX8_begin_49 dX8_begin_50 dX8_begin_52 dX8_begin_55 ⟨by decide, Nat.le_of_ble_eq_true rfl, by decide, by decide⟩ h
  · exact z_throw C (pc := 28) (text := "the badge has no edition") (names := ["java/lang/RuntimeException", "java/lang/Exception"]) hfl T N ft_IllegalStateException bw_383 bw_10 st_X8_188 at_X8_82 go_X8_82 ⟨by decide +kernel, by decide +kernel⟩ dX8_begin_28 dX8_begin_31 dX8_begin_32 dX8_begin_34 dX8_begin_37 ⟨by decide, Nat.le_of_ble_eq_true rfl, by decide, by decide⟩ h
def wp_X8_prove (S : Hp) (x0 : Nat) (x1 : Int32) (x2 : Int32) (x3 : Int32) (Q : Int32 → Hp → Prop) (EQ : String → Hp → Prop) : Prop :=
  okA S 8 x0 ∧ (wp_X8_childAt S x0 x1 (fun r3 S2 => wp_X8_requireIndex S2 x2 (16 : Int32) (fun S4 => okA S4 8 x0 ∧ (wp_X8_leaderAt S4 x0 x3 (fun r7 S6 => okA S6 8 x0 ∧ (rd S6 5 r7 (fun a9 => wp_X5_isVettedSomewhere S6 a9 (g_I S6 805 x0) (fun r13 S12 => if r13 = 0 then (EQ "java/lang/IllegalStateException" S12) else (rd S12 5 r7 (fun a14 => wp_X8_hasBit S12 (g_I S12 503 a14) x2 (fun r18 S17 => if r18 = 0 then (EQ "java/lang/IllegalStateException" S17) else (rd S17 1 r3 (fun a19 => wp_X8_hasBit S17 (g_I S17 109 a19) x2 (fun r23 S22 => if r23 = 0 then (okA S22 8 x0 ∧ (rd S22 1 r3 (fun a25 => wp_X1_addProof S22 a25 x2 (g_I S22 805 x0) (fun S28 => okA S28 8 x0 ∧ (rd S28 1 r3 (fun a30 => wp_X1_badgesBy S28 a30 (g_I S28 805 x0) (fun r34 S33 => Q r34 S33))))))) else (EQ "java/lang/IllegalStateException" S22))))))))))) EQ)) EQ) EQ)
def rm_X8_prove : Room := { frames := 8, cells := 4, slots := 24, locals := 124 }
set_option maxHeartbeats 4000000 in
set_option maxRecDepth 100000 in
theorem c_X8_prove (l : Launch) (hfl : l.stackTraces = false) (v : Ev) (S : Hp) (x0 : Nat) (x1 : Int32) (x2 : Int32) (x3 : Int32) : CI l v yX8_prove cX8_prove 6 (some .int) rm_X8_prove [va_rf (some x0), .int x1, .int x2, .int x3] S (fun Q EQ => wp_X8_prove S x0 x1 x2 x3 Q EQ) := by
  intro Q EQ h
  refine z_start [(0, va_rf (some x0)), (1, .int x1), (2, .int x2), (3, .int x3)] (by decide +kernel) (by simp only [la_i, la_r, la_n]) (cat_cr (cat_ci (cat_ci (cat_ci cat_nil)))) (by simp only [ls_i, ls_r, ls_n]; decide) (fun z C N T => ?_)
  unfold wp_X8_prove at h
  refine z_aload_n C (pc := 0) dX8_prove_0 0 rfl ?_
  refine z_iload_n C (pc := 1) dX8_prove_1 1 rfl ?_
  obtain ⟨o1, h⟩ := h
  refine z_Vq C (pc := 2) (kc' := 1) (ks' := 6) (As := [.int x1]) (rest := []) rfl (c_X8_childAt l hfl v S x0 x1) mw_X8_childAt bw_117 bw_119 bw_p0 (fit_of rfl) rfl rfl (Nat.le_of_ble_eq_true rfl) (by decide) rfl o1 dX8_prove_2 h (fun r3 S2 h => ?_) (fun En S9 h => z_out C T N (by decide) (by decide) h)
  refine z_astore C (pc := 5) (lv' := [(4, va_rf r3), (0, va_rf (some x0)), (1, .int x1), (2, .int x2), (3, .int x3)]) dX8_prove_5 (by decide) rfl ?_
  refine z_iload_n C (pc := 7) dX8_prove_7 3 rfl ?_
  refine z_bipush C (pc := 8) (x := (16 : Int32)) dX8_prove_8 kbp_16 ?_
  refine z_Sv C (pc := 10) (kc' := 2) (ks' := 12) (As := [.int x2, .int (16 : Int32)]) (rest := []) (c_X8_requireIndex l hfl v S2 x2 (16 : Int32)) mw_X8_requireIndex bw_125 bw_126 (fit_of rfl) rfl rfl (Nat.le_of_ble_eq_true rfl) dX8_prove_10 h (fun S4 h => ?_) (fun En S9 h => z_out C T N (by decide) (by decide) h)
  refine z_aload_n C (pc := 13) dX8_prove_13 1 rfl ?_
  refine z_iload_n C (pc := 14) dX8_prove_14 4 rfl ?_
  obtain ⟨o5, h⟩ := h
  refine z_Vq C (pc := 15) (kc' := 3) (ks' := 18) (As := [.int x3]) (rest := []) rfl (c_X8_leaderAt l hfl v S4 x0 x3) mw_X8_leaderAt bw_640 bw_642 bw_p22 (fit_of rfl) rfl rfl (Nat.le_of_ble_eq_true rfl) (by decide) rfl o5 dX8_prove_15 h (fun r7 S6 h => ?_) (fun En S9 h => z_out C T N (by decide) (by decide) h)
  refine z_astore C (pc := 18) (lv' := [(5, va_rf r7), (4, va_rf r3), (0, va_rf (some x0)), (1, .int x1), (2, .int x2), (3, .int x3)]) dX8_prove_18 (by decide) rfl ?_
  refine z_aload C (pc := 20) dX8_prove_20 0 rfl ?_
  refine z_aload_n C (pc := 22) dX8_prove_22 2 rfl ?_
  obtain ⟨o8, h⟩ := h
  refine z_getI C (pc := 23) kf8 5 (by decide) rfl bw_79 (fun _ _ _ _ h => h) dX8_prove_23 rfl o8 ?_
  obtain ⟨a9, e10, o11, h⟩ := h
  refine z_Vi C (pc := 26) (KX := fun _ _ => False) (kc' := 3) (ks' := 18) (As := [.int (g_I S6 805 x0)]) (rest := []) e10 (c_X5_isVettedSomewhere l v S6 a9 (g_I S6 805 x0)) mw_X5_isVettedSomewhere bw_715 bw_716 bw_717 (fit_of rfl) rfl rfl (Nat.le_of_ble_eq_true rfl) (by decide) rfl o11 dX8_prove_26 h (fun r13 S12 h => ?_) (fun En S9 h => h.elim)
  refine z_if_ne C (pc := 29) (tgt := 42) dX8_prove_29 (by decide) h (fun h => ?_) (fun h => ?_)
  · refine z_aload C (pc := 42) dX8_prove_42 0 rfl ?_
    obtain ⟨a14, e15, o16, h⟩ := h
    refine z_getI C (pc := 44) kf5 3 (by decide) rfl bw_626 (fun _ _ _ _ h => h) dX8_prove_44 e15 o16 ?_
    refine z_iload_n C (pc := 47) dX8_prove_47 4 rfl ?_
    refine z_Si C (pc := 48) (KX := fun _ _ => False) (kc' := 3) (ks' := 18) (As := [.int (g_I S12 503 a14), .int x2]) (rest := []) (c_X8_hasBit l v S12 (g_I S12 503 a14) x2) mw_X8_hasBit bw_606 bw_607 (fit_of rfl) rfl rfl (Nat.le_of_ble_eq_true rfl) dX8_prove_48 h (fun r18 S17 h => ?_) (fun En S9 h => h.elim)
    refine z_if_ne C (pc := 51) (tgt := 64) dX8_prove_51 (by decide) h (fun h => ?_) (fun h => ?_)
    · refine z_aload C (pc := 64) dX8_prove_64 1 rfl ?_
      obtain ⟨a19, e20, o21, h⟩ := h
      refine z_getI C (pc := 66) kf1 9 (by decide) rfl bw_506 (fun _ _ _ _ h => h) dX8_prove_66 e20 o21 ?_
      refine z_iload_n C (pc := 69) dX8_prove_69 4 rfl ?_
      refine z_Si C (pc := 70) (KX := fun _ _ => False) (kc' := 3) (ks' := 18) (As := [.int (g_I S17 109 a19), .int x2]) (rest := []) (c_X8_hasBit l v S17 (g_I S17 109 a19) x2) mw_X8_hasBit bw_606 bw_607 (fit_of rfl) rfl rfl (Nat.le_of_ble_eq_true rfl) dX8_prove_70 h (fun r23 S22 h => ?_) (fun En S9 h => h.elim)
      refine z_if_eq C (pc := 73) (tgt := 86) dX8_prove_73 (by decide) h (fun h => ?_) (fun h => ?_)
      · refine z_aload C (pc := 86) dX8_prove_86 1 rfl ?_
        refine z_iload_n C (pc := 88) dX8_prove_88 4 rfl ?_
        refine z_aload_n C (pc := 89) dX8_prove_89 2 rfl ?_
        obtain ⟨o24, h⟩ := h
        refine z_getI C (pc := 90) kf8 5 (by decide) rfl bw_79 (fun _ _ _ _ h => h) dX8_prove_90 rfl o24 ?_
        obtain ⟨a25, e26, o27, h⟩ := h
        refine z_Vv C (pc := 93) (KX := fun _ _ => False) (kc' := 3) (ks' := 18) (As := [.int x2, .int (g_I S22 805 x0)]) (rest := []) e26 (c_X1_addProof l v S22 a25 x2 (g_I S22 805 x0)) mw_X1_addProof bw_723 bw_724 bw_725 (fit_of rfl) rfl rfl (Nat.le_of_ble_eq_true rfl) (by decide) rfl o27 dX8_prove_93 h (fun S28 h => ?_) (fun En S9 h => h.elim)
        refine z_aload C (pc := 96) dX8_prove_96 1 rfl ?_
        refine z_aload_n C (pc := 98) dX8_prove_98 2 rfl ?_
        obtain ⟨o29, h⟩ := h
        refine z_getI C (pc := 99) kf8 5 (by decide) rfl bw_79 (fun _ _ _ _ h => h) dX8_prove_99 rfl o29 ?_
        obtain ⟨a30, e31, o32, h⟩ := h
        refine z_Vi C (pc := 102) (KX := fun _ _ => False) (kc' := 3) (ks' := 18) (As := [.int (g_I S28 805 x0)]) (rest := []) e31 (c_X1_badgesBy l v S28 a30 (g_I S28 805 x0)) mw_X1_badgesBy bw_211 bw_212 bw_213 (fit_of rfl) rfl rfl (Nat.le_of_ble_eq_true rfl) (by decide) rfl o32 dX8_prove_102 h (fun r34 S33 h => ?_) (fun En S9 h => h.elim)
        exact z_iret C (pc := 105) T dX8_prove_105 (by decide) (by decide) h
      · exact z_throw C (pc := 76) (text := "the skill was proven") (names := ["java/lang/RuntimeException", "java/lang/Exception"]) hfl T N ft_IllegalStateException bw_383 bw_10 st_X8_215 at_X8_82 go_X8_82 ⟨by decide +kernel, by decide +kernel⟩ dX8_prove_76 dX8_prove_79 dX8_prove_80 dX8_prove_82 dX8_prove_85 ⟨by decide, Nat.le_of_ble_eq_true rfl, by decide, by decide⟩ h
    · exact z_throw C (pc := 54) (text := "the leader does not teach the skill") (names := ["java/lang/RuntimeException", "java/lang/Exception"]) hfl T N ft_IllegalStateException bw_383 bw_10 st_X8_210 at_X8_82 go_X8_82 ⟨by decide +kernel, by decide +kernel⟩ dX8_prove_54 dX8_prove_57 dX8_prove_58 dX8_prove_60 dX8_prove_63 ⟨by decide, Nat.le_of_ble_eq_true rfl, by decide, by decide⟩ h
  · exact z_throw C (pc := 32) (text := "the leader is vetted for no land today") (names := ["java/lang/RuntimeException", "java/lang/Exception"]) hfl T N ft_IllegalStateException bw_383 bw_10 st_X8_208 at_X8_82 go_X8_82 ⟨by decide +kernel, by decide +kernel⟩ dX8_prove_32 dX8_prove_35 dX8_prove_36 dX8_prove_38 dX8_prove_41 ⟨by decide, Nat.le_of_ble_eq_true rfl, by decide, by decide⟩ h
def wp_X8_event (S : Hp) (x0 : Nat) (x1 : Int32) (x2 : Int32) (x3 : Int32) (x4 : Int32) (x5 : Int32) (x6 : Int32) (Q : Int32 → Hp → Prop) (EQ : String → Hp → Prop) : Prop :=
  okA S 8 x0 ∧ (wp_X8_troopAt S x0 x1 (fun r3 S2 => wp_X8_requireIndex S2 x2 (3 : Int32) (fun S4 => wp_X8_requireRange S4 x3 (0 : Int32) (3 : Int32) (fun S5 => okA S5 8 x0 ∧ (wp_X8_requireRange S5 x4 (g_I S5 805 x0) (9999 : Int32) (fun S7 => wp_X8_requireRange S7 x5 (0 : Int32) (23 : Int32) (fun S8 => wp_X8_requireRange S8 x6 (1 : Int32) ((24 : Int32) - x5) (fun S9 => okA S9 8 x0 ∧ (rd S9 10 (g_P S9 803 x0) (fun a11 => wp_Jx4a65c_size_8abf5 S9 a11 (fun r15 S14 => wp_X8_requireRoom S14 r15 (20 : Int32) (fun S16 => okA S16 8 x0 ∧ ((∀ a18, a18 ∉ g_L S16 → lt (n_O 4 S16 a18) (fun S19 => rd S19 7 r3 (fun a20 => wp_X4_init S19 a18 (g_I S19 700 a20) x2 x3 x4 x5 x6 (fun S23 => rd S23 10 (g_P S16 803 x0) (fun a24 => wp_Jx4a65c_add_9ea2d S23 a24 (some a18) (fun r28 S27 => okA S27 8 x0 ∧ (rd S27 10 (g_P S27 803 x0) (fun a30 => wp_Jx4a65c_size_8abf5 S27 a30 (fun r34 S33 => Q (r34 - (1 : Int32)) S33))))))))))) EQ)))) EQ) EQ) EQ)) EQ) EQ) EQ)
def rm_X8_event : Room := { frames := 8, cells := 9, slots := 113, locals := 231 }
set_option maxHeartbeats 4000000 in
set_option maxRecDepth 100000 in
theorem c_X8_event (l : Launch) (hfl : l.stackTraces = false) (v : Ev) (S : Hp) (x0 : Nat) (x1 : Int32) (x2 : Int32) (x3 : Int32) (x4 : Int32) (x5 : Int32) (x6 : Int32) : CI l v yX8_event cX8_event 8 (some .int) rm_X8_event [va_rf (some x0), .int x1, .int x2, .int x3, .int x4, .int x5, .int x6] S (fun Q EQ => wp_X8_event S x0 x1 x2 x3 x4 x5 x6 Q EQ) := by
  intro Q EQ h
  refine z_start [(0, va_rf (some x0)), (1, .int x1), (2, .int x2), (3, .int x3), (4, .int x4), (5, .int x5), (6, .int x6)] (by decide +kernel) (by simp only [la_i, la_r, la_n]) (cat_cr (cat_ci (cat_ci (cat_ci (cat_ci (cat_ci (cat_ci cat_nil))))))) (by simp only [ls_i, ls_r, ls_n]; decide) (fun z C N T => ?_)
  unfold wp_X8_event at h
  refine z_aload_n C (pc := 0) dX8_event_0 0 rfl ?_
  refine z_iload_n C (pc := 1) dX8_event_1 1 rfl ?_
  obtain ⟨o1, h⟩ := h
  refine z_Vq C (pc := 2) (kc' := 1) (ks' := 6) (As := [.int x1]) (rest := []) rfl (c_X8_troopAt l hfl v S x0 x1) mw_X8_troopAt bw_260 bw_262 bw_p2 (fit_of rfl) rfl rfl (Nat.le_of_ble_eq_true rfl) (by decide) rfl o1 dX8_event_2 h (fun r3 S2 h => ?_) (fun En S9 h => z_out C T N (by decide) (by decide) h)
  refine z_astore C (pc := 5) (lv' := [(7, va_rf r3), (0, va_rf (some x0)), (1, .int x1), (2, .int x2), (3, .int x3), (4, .int x4), (5, .int x5), (6, .int x6)]) dX8_event_5 (by decide) rfl ?_
  refine z_iload_n C (pc := 7) dX8_event_7 3 rfl ?_
  refine z_iconst C (pc := 8) (x := (3 : Int32)) dX8_event_8 kic_3 ?_
  refine z_Sv C (pc := 9) (kc' := 2) (ks' := 12) (As := [.int x2, .int (3 : Int32)]) (rest := []) (c_X8_requireIndex l hfl v S2 x2 (3 : Int32)) mw_X8_requireIndex bw_125 bw_126 (fit_of rfl) rfl rfl (Nat.le_of_ble_eq_true rfl) dX8_event_9 h (fun S4 h => ?_) (fun En S9 h => z_out C T N (by decide) (by decide) h)
  refine z_iload_n C (pc := 12) dX8_event_12 4 rfl ?_
  refine z_iconst C (pc := 13) (x := (0 : Int32)) dX8_event_13 kic_0 ?_
  refine z_iconst C (pc := 14) (x := (3 : Int32)) dX8_event_14 kic_3 ?_
  refine z_Sv C (pc := 15) (kc' := 3) (ks' := 18) (As := [.int x3, .int (0 : Int32), .int (3 : Int32)]) (rest := []) (c_X8_requireRange l hfl v S4 x3 (0 : Int32) (3 : Int32)) mw_X8_requireRange bw_281 bw_282 (fit_of rfl) rfl rfl (Nat.le_of_ble_eq_true rfl) dX8_event_15 h (fun S5 h => ?_) (fun En S9 h => z_out C T N (by decide) (by decide) h)
  refine z_iload C (pc := 18) dX8_event_18 5 rfl ?_
  refine z_aload_n C (pc := 20) dX8_event_20 1 rfl ?_
  obtain ⟨o6, h⟩ := h
  refine z_getI C (pc := 21) kf8 5 (by decide) rfl bw_79 (fun _ _ _ _ h => h) dX8_event_21 rfl o6 ?_
  refine z_sipush C (pc := 24) (x := (9999 : Int32)) dX8_event_24 ksp_9999 ?_
  refine z_Sv C (pc := 27) (kc' := 4) (ks' := 24) (As := [.int x4, .int (g_I S5 805 x0), .int (9999 : Int32)]) (rest := []) (c_X8_requireRange l hfl v S5 x4 (g_I S5 805 x0) (9999 : Int32)) mw_X8_requireRange bw_281 bw_282 (fit_of rfl) rfl rfl (Nat.le_of_ble_eq_true rfl) dX8_event_27 h (fun S7 h => ?_) (fun En S9 h => z_out C T N (by decide) (by decide) h)
  refine z_iload C (pc := 30) dX8_event_30 6 rfl ?_
  refine z_iconst C (pc := 32) (x := (0 : Int32)) dX8_event_32 kic_0 ?_
  refine z_bipush C (pc := 33) (x := (23 : Int32)) dX8_event_33 kbp_23 ?_
  refine z_Sv C (pc := 35) (kc' := 5) (ks' := 30) (As := [.int x5, .int (0 : Int32), .int (23 : Int32)]) (rest := []) (c_X8_requireRange l hfl v S7 x5 (0 : Int32) (23 : Int32)) mw_X8_requireRange bw_281 bw_282 (fit_of rfl) rfl rfl (Nat.le_of_ble_eq_true rfl) dX8_event_35 h (fun S8 h => ?_) (fun En S9 h => z_out C T N (by decide) (by decide) h)
  refine z_iload C (pc := 38) dX8_event_38 7 rfl ?_
  refine z_iconst C (pc := 40) (x := (1 : Int32)) dX8_event_40 kic_1 ?_
  refine z_bipush C (pc := 41) (x := (24 : Int32)) dX8_event_41 kbp_24 ?_
  refine z_iload C (pc := 43) dX8_event_43 6 rfl ?_
  refine z_isub C (pc := 45) dX8_event_45 ?_
  refine z_Sv C (pc := 46) (kc' := 6) (ks' := 36) (As := [.int x6, .int (1 : Int32), .int ((24 : Int32) - x5)]) (rest := []) (c_X8_requireRange l hfl v S8 x6 (1 : Int32) ((24 : Int32) - x5)) mw_X8_requireRange bw_281 bw_282 (fit_of rfl) rfl rfl (Nat.le_of_ble_eq_true rfl) dX8_event_46 h (fun S9 h => ?_) (fun En S9 h => z_out C T N (by decide) (by decide) h)
  refine z_aload_n C (pc := 49) dX8_event_49 1 rfl ?_
  obtain ⟨o10, h⟩ := h
  refine z_getP C (pc := 50) kf8 3 (by decide) rfl bw_77 (fun _ _ _ _ h => h) dX8_event_50 rfl o10 ?_
  obtain ⟨a11, e12, o13, h⟩ := h
  refine z_Vi C (pc := 53) (KX := fun _ _ => False) (kc' := 6) (ks' := 36) (As := []) (rest := []) e12 (c_Jx4a65c_size_8abf5 l v S9 a11) mw_Jx4a65c_size_8abf5 bw_121 bw_122 bw_123 (fit_of rfl) rfl rfl (Nat.le_of_ble_eq_true rfl) (by decide) rfl o13 dX8_event_53 h (fun r15 S14 h => ?_) (fun En S9 h => h.elim)
  refine z_bipush C (pc := 56) (x := (20 : Int32)) dX8_event_56 kbp_20 ?_
  refine z_Sv C (pc := 58) (kc' := 7) (ks' := 42) (As := [.int r15, .int (20 : Int32)]) (rest := []) (c_X8_requireRoom l hfl v S14 r15 (20 : Int32)) mw_X8_requireRoom bw_380 bw_381 (fit_of rfl) rfl rfl (Nat.le_of_ble_eq_true rfl) dX8_event_58 h (fun S16 h => ?_) (fun En S9 h => z_out C T N (by decide) (by decide) h)
  refine z_aload_n C (pc := 61) dX8_event_61 1 rfl ?_
  obtain ⟨o17, h⟩ := h
  refine z_getP C (pc := 62) kf8 3 (by decide) rfl bw_77 (fun _ _ _ _ h => h) dX8_event_62 rfl o17 ?_
  refine z_new C (pc := 65) (kc' := 8) (ks' := 49) kf4 bw_306 bw_839 bw_25 dX8_event_65 (by decide) (by decide) (by decide) (by decide) h (fun a18 S19 h => ?_)
  refine z_dup C (pc := 68) dX8_event_68 (cat_rf _) ?_
  refine z_aload C (pc := 69) dX8_event_69 0 rfl ?_
  obtain ⟨a20, e21, o22, h⟩ := h
  refine z_getI C (pc := 71) kf7 0 (by decide) rfl bw_405 (fun _ _ _ _ h => h) dX8_event_71 e21 o22 ?_
  refine z_iload_n C (pc := 74) dX8_event_74 3 rfl ?_
  refine z_iload_n C (pc := 75) dX8_event_75 4 rfl ?_
  refine z_iload C (pc := 76) dX8_event_76 5 rfl ?_
  refine z_iload C (pc := 78) dX8_event_78 6 rfl ?_
  refine z_iload C (pc := 80) dX8_event_80 7 rfl ?_
  refine z_I C (pc := 82) (KX := fun _ _ => False) (kc' := 8) (ks' := 49) (As := [.int (g_I S19 700 a20), .int x2, .int x3, .int x4, .int x5, .int x6]) (rest := [va_rf (some a18), va_rf (g_P S16 803 x0)]) (c_X4_init l v S19 a18 (g_I S19 700 a20) x2 x3 x4 x5 x6) mw_X4_init bw_840 bw_841 rfl (fit_of rfl) rfl rfl (Nat.le_of_ble_eq_true rfl) dX8_event_82 h (fun S23 h => ?_) (fun En S9 h => h.elim)
  obtain ⟨a24, e25, o26, h⟩ := h
  refine z_Vi C (pc := 85) (KX := fun _ _ => False) (kc' := 9) (ks' := 113) (As := [va_rf (some a18)]) (rest := []) e25 (c_Jx4a65c_add_9ea2d l v S23 a24 (some a18)) mw_Jx4a65c_add_9ea2d bw_419 bw_420 bw_421 (fit_of rfl) rfl rfl (Nat.le_of_ble_eq_true rfl) (by decide) rfl o26 dX8_event_85 h (fun r28 S27 h => ?_) (fun En S9 h => h.elim)
  refine z_pop C (pc := 88) dX8_event_88 rfl ?_
  refine z_aload_n C (pc := 89) dX8_event_89 1 rfl ?_
  obtain ⟨o29, h⟩ := h
  refine z_getP C (pc := 90) kf8 3 (by decide) rfl bw_77 (fun _ _ _ _ h => h) dX8_event_90 rfl o29 ?_
  obtain ⟨a30, e31, o32, h⟩ := h
  refine z_Vi C (pc := 93) (KX := fun _ _ => False) (kc' := 9) (ks' := 113) (As := []) (rest := []) e31 (c_Jx4a65c_size_8abf5 l v S27 a30) mw_Jx4a65c_size_8abf5 bw_121 bw_122 bw_123 (fit_of rfl) rfl rfl (Nat.le_of_ble_eq_true rfl) (by decide) rfl o32 dX8_event_93 h (fun r34 S33 h => ?_) (fun En S9 h => h.elim)
  refine z_iconst C (pc := 96) (x := (1 : Int32)) dX8_event_96 kic_1 ?_
  refine z_isub C (pc := 97) dX8_event_97 ?_
  exact z_iret C (pc := 98) T dX8_event_98 (by decide) (by decide) h
def wp_X8_eventAt (S : Hp) (x0 : Nat) (x1 : Int32) (Q : Option Nat → Hp → Prop) (EQ : String → Hp → Prop) : Prop :=
  okA S 8 x0 ∧ (rd S 10 (g_P S 803 x0) (fun a2 => wp_Jx4a65c_size_8abf5 S a2 (fun r6 S5 => wp_X8_requireIndex S5 x1 r6 (fun S7 => okA S7 8 x0 ∧ (rd S7 10 (g_P S7 803 x0) (fun a9 => wp_Jx4a65c_get_915e3 S7 a9 x1 (fun r13 S12 => (∀ a, r13 = some a → okA S12 4 a) ∧ (Q r13 S12))))) EQ)))
def rm_X8_eventAt : Room := { frames := 7, cells := 1, slots := 6, locals := 103 }
set_option maxHeartbeats 4000000 in
set_option maxRecDepth 100000 in
theorem c_X8_eventAt (l : Launch) (hfl : l.stackTraces = false) (v : Ev) (S : Hp) (x0 : Nat) (x1 : Int32) : CQ l v yX8_eventAt cX8_eventAt 2 (some (.object "Badgewood$Event")) rm_X8_eventAt [va_rf (some x0), .int x1] S (fun Q EQ => wp_X8_eventAt S x0 x1 Q EQ) := by
  intro Q EQ h
  refine z_start [(0, va_rf (some x0)), (1, .int x1)] (by decide +kernel) (by simp only [la_i, la_r, la_n]) (cat_cr (cat_ci cat_nil)) (by simp only [ls_i, ls_r, ls_n]; decide) (fun z C N T => ?_)
  unfold wp_X8_eventAt at h
  refine z_iload_n C (pc := 0) dX8_eventAt_0 1 rfl ?_
  refine z_aload_n C (pc := 1) dX8_eventAt_1 0 rfl ?_
  obtain ⟨o1, h⟩ := h
  refine z_getP C (pc := 2) kf8 3 (by decide) rfl bw_77 (fun _ _ _ _ h => h) dX8_eventAt_2 rfl o1 ?_
  obtain ⟨a2, e3, o4, h⟩ := h
  refine z_Vi C (pc := 5) (KX := fun _ _ => False) (kc' := 0) (ks' := 0) (As := []) (rest := [.int x1]) e3 (c_Jx4a65c_size_8abf5 l v S a2) mw_Jx4a65c_size_8abf5 bw_121 bw_122 bw_123 (fit_of rfl) rfl rfl (Nat.le_of_ble_eq_true rfl) (by decide) rfl o4 dX8_eventAt_5 h (fun r6 S5 h => ?_) (fun En S9 h => h.elim)
  refine z_Sv C (pc := 8) (kc' := 1) (ks' := 6) (As := [.int x1, .int r6]) (rest := []) (c_X8_requireIndex l hfl v S5 x1 r6) mw_X8_requireIndex bw_125 bw_126 (fit_of rfl) rfl rfl (Nat.le_of_ble_eq_true rfl) dX8_eventAt_8 h (fun S7 h => ?_) (fun En S9 h => z_out C T N (by decide) (by decide) h)
  refine z_aload_n C (pc := 11) dX8_eventAt_11 0 rfl ?_
  obtain ⟨o8, h⟩ := h
  refine z_getP C (pc := 12) kf8 3 (by decide) rfl bw_77 (fun _ _ _ _ h => h) dX8_eventAt_12 rfl o8 ?_
  refine z_iload_n C (pc := 15) dX8_eventAt_15 1 rfl ?_
  obtain ⟨a9, e10, o11, h⟩ := h
  refine z_Vq C (pc := 16) (KX := fun _ _ => False) (kc' := 1) (ks' := 6) (As := [.int x1]) (rest := []) e10 (c_Jx4a65c_get_915e3 l v S7 a9 x1) mw_Jx4a65c_get_915e3 bw_196 bw_197 bw_198 (fit_of rfl) rfl rfl (Nat.le_of_ble_eq_true rfl) (by decide) rfl o11 dX8_eventAt_16 h (fun r13 S12 h => ?_) (fun En S9 h => h.elim)
  obtain ⟨k14, h⟩ := h
  refine z_cast C (pc := 19) (κ := 4) (by decide) rfl bw_306 dX8_eventAt_19 k14 ?_
  exact z_aret C (pc := 22) rfl (Or.inl ⟨_, rfl⟩) T dX8_eventAt_22 (by decide) (by decide) h
def wp_X8_isElsewhere_L2 (f0 : Nat) (f1 : Option Nat) (f2 : Int32) (Q : Int32 → Hp → Prop) : Nat → Hp → Int32 → Prop
  | 0, _, _ => False
  | n + 1, S, w3 => okA S 8 f0 ∧ (rd S 10 (g_P S 803 f0) (fun a2 => wp_Jx4a65c_size_8abf5 S a2 (fun r6 S5 => if r6 ≤ w3 then (bz (0 : Int32) (Q (0 : Int32) S5)) else (okA S5 8 f0 ∧ (rd S5 10 (g_P S5 803 f0) (fun a8 => wp_Jx4a65c_get_915e3 S5 a8 w3 (fun r12 S11 => (∀ a, r12 = some a → okA S11 4 a) ∧ (if r12 = f1 then (wp_X8_isElsewhere_L2 f0 f1 f2 Q n S11 (w3 + (1 : Int32))) else (rd S11 4 r12 (fun a14 => wp_X8_hasBit S11 (g_I S11 406 a14) f2 (fun r18 S17 => if r18 = 0 then (wp_X8_isElsewhere_L2 f0 f1 f2 Q n S17 (w3 + (1 : Int32))) else (rd S17 4 r12 (fun a19 => wp_X4_meets S17 a19 f1 (fun r23 S22 => if r23 = 0 then (wp_X8_isElsewhere_L2 f0 f1 f2 Q n S22 (w3 + (1 : Int32))) else (bz (1 : Int32) (Q (1 : Int32) S22))))))))))))))))
def wp_X8_isElsewhere (S : Hp) (x0 : Nat) (x1 : Option Nat) (x2 : Int32) (Q : Int32 → Hp → Prop) : Prop :=
  ∃ n24, wp_X8_isElsewhere_L2 x0 x1 x2 Q n24 S (0 : Int32)
def rm_X8_isElsewhere : Room := { frames := 3, cells := 0, slots := 0, locals := 64 }
set_option maxHeartbeats 4000000 in
set_option maxRecDepth 100000 in
theorem l_X8_isElsewhere_L2 (l : Launch) (v : Ev) (f0 : Nat) (f1 : Option Nat) (f2 : Int32) (Q : Int32 → Hp → Prop) {EQ : String → Hp → Prop} {z : Z9} (C : Cx l v RX8 cX8_isElsewhere 5 (some .boolean) "isElsewhere" z) (N : NT z) (T : EE v rm_X8_isElsewhere (QI v Q) EQ z) : ∀ (n : Nat) (S : Hp) (w3 : Int32), wp_X8_isElsewhere_L2 f0 f1 f2 Q n S w3 → ZZ l v 5 rm_X8_isElsewhere z 0 0 S 2 [(0, va_rf (some f0)), (1, va_rf f1), (2, .int f2), (3, .int w3)] [] := by
  intro n
  induction n with
  | zero =>
    intro S w3 h
    exact h.elim
  | succ n ih =>
    intro S w3 h
    unfold wp_X8_isElsewhere_L2 at h
    refine z_iload_n C (pc := 2) dX8_isElsewhere_2 3 rfl ?_
    refine z_aload_n C (pc := 3) dX8_isElsewhere_3 0 rfl ?_
    obtain ⟨o1, h⟩ := h
    refine z_getP C (pc := 4) kf8 3 (by decide) rfl bw_77 (fun _ _ _ _ h => h) dX8_isElsewhere_4 rfl o1 ?_
    obtain ⟨a2, e3, o4, h⟩ := h
    refine z_Vi C (pc := 7) (KX := fun _ _ => False) (kc' := 0) (ks' := 0) (As := []) (rest := [.int w3]) e3 (c_Jx4a65c_size_8abf5 l v S a2) mw_Jx4a65c_size_8abf5 bw_121 bw_122 bw_123 (fit_of rfl) rfl rfl (Nat.le_of_ble_eq_true rfl) (by decide) rfl o4 dX8_isElsewhere_7 h (fun r6 S5 h => ?_) (fun En S9 h => h.elim)
    refine z_icmp_ge C (pc := 10) (tgt := 61) dX8_isElsewhere_10 (by decide) h (fun h => ?_) (fun h => ?_)
    · refine z_iconst C (pc := 61) (x := (0 : Int32)) dX8_isElsewhere_61 kic_0 ?_
      exact z_zret C (pc := 62) T dX8_isElsewhere_62 (by decide) (by decide) h
    · refine z_aload_n C (pc := 13) dX8_isElsewhere_13 0 rfl ?_
      obtain ⟨o7, h⟩ := h
      refine z_getP C (pc := 14) kf8 3 (by decide) rfl bw_77 (fun _ _ _ _ h => h) dX8_isElsewhere_14 rfl o7 ?_
      refine z_iload_n C (pc := 17) dX8_isElsewhere_17 3 rfl ?_
      obtain ⟨a8, e9, o10, h⟩ := h
      refine z_Vq C (pc := 18) (KX := fun _ _ => False) (kc' := 0) (ks' := 0) (As := [.int w3]) (rest := []) e9 (c_Jx4a65c_get_915e3 l v S5 a8 w3) mw_Jx4a65c_get_915e3 bw_196 bw_197 bw_198 (fit_of rfl) rfl rfl (Nat.le_of_ble_eq_true rfl) (by decide) rfl o10 dX8_isElsewhere_18 h (fun r12 S11 h => ?_) (fun En S9 h => h.elim)
      obtain ⟨k13, h⟩ := h
      refine z_cast C (pc := 21) (κ := 4) (by decide) rfl bw_306 dX8_isElsewhere_21 k13 ?_
      refine z_astore C (pc := 24) (lv' := [(4, va_rf r12), (0, va_rf (some f0)), (1, va_rf f1), (2, .int f2), (3, .int w3)]) dX8_isElsewhere_24 (by decide) rfl ?_
      refine z_aload C (pc := 26) dX8_isElsewhere_26 0 rfl ?_
      refine z_aload_n C (pc := 28) dX8_isElsewhere_28 2 rfl ?_
      refine z_acmp_eq C (pc := 29) (tgt := 55) dX8_isElsewhere_29 (by decide) h (fun h => ?_) (fun h => ?_)
      · refine z_iinc C (pc := 55) (y := w3 + (1 : Int32)) (lv' := [(3, .int (w3 + (1 : Int32))), (4, va_rf r12), (0, va_rf (some f0)), (1, va_rf f1), (2, .int f2)]) dX8_isElsewhere_55 4 rfl rfl (by decide) rfl ?_
        refine z_goto C (pc := 58) (tgt := 2) dX8_isElsewhere_58 (by decide) ?_
        refine z_sub [2, 3, 4, 0] (lv' := [(0, va_rf (some f0)), (1, va_rf f1), (2, .int f2), (3, .int (w3 + (1 : Int32)))]) rfl ?_
        exact ih S11 (w3 + (1 : Int32)) h
      · refine z_aload C (pc := 32) dX8_isElsewhere_32 0 rfl ?_
        obtain ⟨a14, e15, o16, h⟩ := h
        refine z_getI C (pc := 34) kf4 6 (by decide) rfl bw_854 (fun _ _ _ _ h => h) dX8_isElsewhere_34 e15 o16 ?_
        refine z_iload_n C (pc := 37) dX8_isElsewhere_37 3 rfl ?_
        refine z_Si C (pc := 38) (KX := fun _ _ => False) (kc' := 0) (ks' := 0) (As := [.int (g_I S11 406 a14), .int f2]) (rest := []) (c_X8_hasBit l v S11 (g_I S11 406 a14) f2) mw_X8_hasBit bw_606 bw_607 (fit_of rfl) rfl rfl (Nat.le_of_ble_eq_true rfl) dX8_isElsewhere_38 h (fun r18 S17 h => ?_) (fun En S9 h => h.elim)
        refine z_if_eq C (pc := 41) (tgt := 55) dX8_isElsewhere_41 (by decide) h (fun h => ?_) (fun h => ?_)
        · refine z_iinc C (pc := 55) (y := w3 + (1 : Int32)) (lv' := [(3, .int (w3 + (1 : Int32))), (4, va_rf r12), (0, va_rf (some f0)), (1, va_rf f1), (2, .int f2)]) dX8_isElsewhere_55 4 rfl rfl (by decide) rfl ?_
          refine z_goto C (pc := 58) (tgt := 2) dX8_isElsewhere_58 (by decide) ?_
          refine z_sub [2, 3, 4, 0] (lv' := [(0, va_rf (some f0)), (1, va_rf f1), (2, .int f2), (3, .int (w3 + (1 : Int32)))]) rfl ?_
          exact ih S17 (w3 + (1 : Int32)) h
        · refine z_aload C (pc := 44) dX8_isElsewhere_44 0 rfl ?_
          refine z_aload_n C (pc := 46) dX8_isElsewhere_46 2 rfl ?_
          obtain ⟨a19, e20, o21, h⟩ := h
          refine z_Vi C (pc := 47) (KX := fun _ _ => False) (kc' := 0) (ks' := 0) (As := [va_rf f1]) (rest := []) e20 (c_X4_meets l v S17 a19 f1) mw_X4_meets bw_735 bw_736 bw_737 (fit_of rfl) rfl rfl (Nat.le_of_ble_eq_true rfl) (by decide) rfl o21 dX8_isElsewhere_47 h (fun r23 S22 h => ?_) (fun En S9 h => h.elim)
          refine z_if_eq C (pc := 50) (tgt := 55) dX8_isElsewhere_50 (by decide) h (fun h => ?_) (fun h => ?_)
          · refine z_iinc C (pc := 55) (y := w3 + (1 : Int32)) (lv' := [(3, .int (w3 + (1 : Int32))), (4, va_rf r12), (0, va_rf (some f0)), (1, va_rf f1), (2, .int f2)]) dX8_isElsewhere_55 4 rfl rfl (by decide) rfl ?_
            refine z_goto C (pc := 58) (tgt := 2) dX8_isElsewhere_58 (by decide) ?_
            refine z_sub [2, 3, 4, 0] (lv' := [(0, va_rf (some f0)), (1, va_rf f1), (2, .int f2), (3, .int (w3 + (1 : Int32)))]) rfl ?_
            exact ih S22 (w3 + (1 : Int32)) h
          · refine z_iconst C (pc := 53) (x := (1 : Int32)) dX8_isElsewhere_53 kic_1 ?_
            exact z_zret C (pc := 54) T dX8_isElsewhere_54 (by decide) (by decide) h
set_option maxHeartbeats 4000000 in
set_option maxRecDepth 100000 in
theorem c_X8_isElsewhere (l : Launch) (v : Ev) (S : Hp) (x0 : Nat) (x1 : Option Nat) (x2 : Int32) : CI l v yX8_isElsewhere cX8_isElsewhere 5 (some .boolean) rm_X8_isElsewhere [va_rf (some x0), va_rf x1, .int x2] S (fun Q _ => wp_X8_isElsewhere S x0 x1 x2 Q) := by
  intro Q EQ h
  refine z_start [(0, va_rf (some x0)), (1, va_rf x1), (2, .int x2)] (by decide +kernel) (by simp only [la_i, la_r, la_n]) (cat_cr (cat_cr (cat_ci cat_nil))) (by simp only [ls_i, ls_r, ls_n]; decide) (fun z C N T => ?_)
  unfold wp_X8_isElsewhere at h
  refine z_iconst C (pc := 0) (x := (0 : Int32)) dX8_isElsewhere_0 kic_0 ?_
  refine z_istore_n C (pc := 1) (lv' := [(3, .int (0 : Int32)), (0, va_rf (some x0)), (1, va_rf x1), (2, .int x2)]) dX8_isElsewhere_1 (by decide) rfl ?_
  obtain ⟨n24, h⟩ := h
  refine z_sub [1, 2, 3, 0] (lv' := [(0, va_rf (some x0)), (1, va_rf x1), (2, .int x2), (3, .int (0 : Int32))]) rfl ?_
  exact l_X8_isElsewhere_L2 l v x0 x1 x2 Q C N T n24 S (0 : Int32) h
def wp_X8_staff (S : Hp) (x0 : Nat) (x1 : Int32) (x2 : Int32) (x3 : Int32) (Q : Int32 → Hp → Prop) (EQ : String → Hp → Prop) : Prop :=
  okA S 8 x0 ∧ (wp_X8_eventAt S x0 x1 (fun r3 S2 => okA S2 8 x0 ∧ (rd S2 10 (g_P S2 802 x0) (fun a5 => wp_Jx4a65c_size_8abf5 S2 a5 (fun r9 S8 => wp_X8_requireIndex S8 x2 r9 (fun S10 => if x3 = 0 then (lt ((1 : Int32) <<< (x2 &&& 31)) (fun y11 => if x3 = 0 then (rd S10 4 r3 (fun a12 => rd S10 4 r3 (fun a15 => lt (s_I S10 406 a15 ((g_I S10 406 a12) &&& (y11 ^^^ (-1 : Int32)))) (fun S18 => rd S18 4 r3 (fun a19 => wp_J6_bitCount_0f7a4 S18 (g_I S18 406 a19) (fun r23 S22 => Q r23 S22)))))) else (rd S10 4 r3 (fun a24 => rd S10 4 r3 (fun a27 => lt (s_I S10 406 a27 ((g_I S10 406 a24) ||| y11)) (fun S30 => rd S30 4 r3 (fun a31 => wp_J6_bitCount_0f7a4 S30 (g_I S30 406 a31) (fun r35 S34 => Q r35 S34)))))))) else (okA S10 8 x0 ∧ (wp_X8_isElsewhere S10 x0 r3 x2 (fun r38 S37 => if r38 = 0 then (lt ((1 : Int32) <<< (x2 &&& 31)) (fun y39 => if x3 = 0 then (rd S37 4 r3 (fun a40 => rd S37 4 r3 (fun a43 => lt (s_I S37 406 a43 ((g_I S37 406 a40) &&& (y39 ^^^ (-1 : Int32)))) (fun S46 => rd S46 4 r3 (fun a47 => wp_J6_bitCount_0f7a4 S46 (g_I S46 406 a47) (fun r51 S50 => Q r51 S50)))))) else (rd S37 4 r3 (fun a52 => rd S37 4 r3 (fun a55 => lt (s_I S37 406 a55 ((g_I S37 406 a52) ||| y39)) (fun S58 => rd S58 4 r3 (fun a59 => wp_J6_bitCount_0f7a4 S58 (g_I S58 406 a59) (fun r63 S62 => Q r63 S62)))))))) else (EQ "java/lang/IllegalStateException" S37))))) EQ)))) EQ)
def rm_X8_staff : Room := { frames := 8, cells := 3, slots := 18, locals := 124 }
set_option maxHeartbeats 4000000 in
set_option maxRecDepth 100000 in
theorem c_X8_staff (l : Launch) (hfl : l.stackTraces = false) (v : Ev) (S : Hp) (x0 : Nat) (x1 : Int32) (x2 : Int32) (x3 : Int32) : CI l v yX8_staff cX8_staff 6 (some .int) rm_X8_staff [va_rf (some x0), .int x1, .int x2, .int x3] S (fun Q EQ => wp_X8_staff S x0 x1 x2 x3 Q EQ) := by
  intro Q EQ h
  refine z_start [(0, va_rf (some x0)), (1, .int x1), (2, .int x2), (3, .int x3)] (by decide +kernel) (by simp only [la_i, la_r, la_n]) (cat_cr (cat_ci (cat_ci (cat_ci cat_nil)))) (by simp only [ls_i, ls_r, ls_n]; decide) (fun z C N T => ?_)
  unfold wp_X8_staff at h
  refine z_aload_n C (pc := 0) dX8_staff_0 0 rfl ?_
  refine z_iload_n C (pc := 1) dX8_staff_1 1 rfl ?_
  obtain ⟨o1, h⟩ := h
  refine z_Vq C (pc := 2) (kc' := 1) (ks' := 6) (As := [.int x1]) (rest := []) rfl (c_X8_eventAt l hfl v S x0 x1) mw_X8_eventAt bw_302 bw_304 bw_p8 (fit_of rfl) rfl rfl (Nat.le_of_ble_eq_true rfl) (by decide) rfl o1 dX8_staff_2 h (fun r3 S2 h => ?_) (fun En S9 h => z_out C T N (by decide) (by decide) h)
  refine z_astore C (pc := 5) (lv' := [(4, va_rf r3), (0, va_rf (some x0)), (1, .int x1), (2, .int x2), (3, .int x3)]) dX8_staff_5 (by decide) rfl ?_
  refine z_iload_n C (pc := 7) dX8_staff_7 3 rfl ?_
  refine z_aload_n C (pc := 8) dX8_staff_8 1 rfl ?_
  obtain ⟨o4, h⟩ := h
  refine z_getP C (pc := 9) kf8 2 (by decide) rfl bw_76 (fun _ _ _ _ h => h) dX8_staff_9 rfl o4 ?_
  obtain ⟨a5, e6, o7, h⟩ := h
  refine z_Vi C (pc := 12) (KX := fun _ _ => False) (kc' := 1) (ks' := 6) (As := []) (rest := [.int x2]) e6 (c_Jx4a65c_size_8abf5 l v S2 a5) mw_Jx4a65c_size_8abf5 bw_121 bw_122 bw_123 (fit_of rfl) rfl rfl (Nat.le_of_ble_eq_true rfl) (by decide) rfl o7 dX8_staff_12 h (fun r9 S8 h => ?_) (fun En S9 h => h.elim)
  refine z_Sv C (pc := 15) (kc' := 2) (ks' := 12) (As := [.int x2, .int r9]) (rest := []) (c_X8_requireIndex l hfl v S8 x2 r9) mw_X8_requireIndex bw_125 bw_126 (fit_of rfl) rfl rfl (Nat.le_of_ble_eq_true rfl) dX8_staff_15 h (fun S10 h => ?_) (fun En S9 h => z_out C T N (by decide) (by decide) h)
  refine z_iload_n C (pc := 18) dX8_staff_18 4 rfl ?_
  refine z_if_eq C (pc := 19) (tgt := 42) dX8_staff_19 (by decide) h (fun h => ?_) (fun h => ?_)
  · refine z_iconst C (pc := 42) (x := (1 : Int32)) dX8_staff_42 kic_1 ?_
    refine z_iload_n C (pc := 43) dX8_staff_43 3 rfl ?_
    refine z_ishl C (pc := 44) dX8_staff_44 ?_
    refine z_nI h (fun y11 h => ?_)
    refine z_istore C (pc := 45) (lv' := [(5, .int y11), (4, va_rf r3), (0, va_rf (some x0)), (1, .int x1), (2, .int x2), (3, .int x3)]) dX8_staff_45 (by decide) rfl ?_
    refine z_aload C (pc := 47) dX8_staff_47 1 rfl ?_
    refine z_iload_n C (pc := 49) dX8_staff_49 5 rfl ?_
    refine z_if_eq C (pc := 50) (tgt := 64) dX8_staff_50 (by decide) h (fun h => ?_) (fun h => ?_)
    · refine z_aload C (pc := 64) dX8_staff_64 1 rfl ?_
      obtain ⟨a12, e13, o14, h⟩ := h
      refine z_getI C (pc := 66) kf4 6 (by decide) rfl bw_854 (fun _ _ _ _ h => h) dX8_staff_66 e13 o14 ?_
      refine z_iload C (pc := 69) dX8_staff_69 0 rfl ?_
      refine z_iconst C (pc := 71) (x := (-1 : Int32)) dX8_staff_71 kic_m1 ?_
      refine z_ixor C (pc := 72) dX8_staff_72 ?_
      refine z_iand C (pc := 73) dX8_staff_73 ?_
      obtain ⟨a15, e16, o17, h⟩ := h
      refine z_putI C (pc := 74) kf4 6 (by decide) rfl rfl bw_854 (fun _ _ _ _ h => h) dX8_staff_74 e16 o17 ?_
      refine z_lt h (fun S18 h => ?_)
      refine z_aload C (pc := 77) dX8_staff_77 1 rfl ?_
      obtain ⟨a19, e20, o21, h⟩ := h
      refine z_getI C (pc := 79) kf4 6 (by decide) rfl bw_854 (fun _ _ _ _ h => h) dX8_staff_79 e20 o21 ?_
      refine z_Si C (pc := 82) (KX := fun _ _ => False) (kc' := 2) (ks' := 12) (As := [.int (g_I S18 406 a19)]) (rest := []) (c_J6_bitCount_0f7a4 l v S18 (g_I S18 406 a19)) mw_J6_bitCount_0f7a4 bw_613 bw_359 (fit_of rfl) rfl rfl (Nat.le_of_ble_eq_true rfl) dX8_staff_82 h (fun r23 S22 h => ?_) (fun En S9 h => h.elim)
      exact z_iret C (pc := 85) T dX8_staff_85 (by decide) (by decide) h
    · refine z_aload C (pc := 53) dX8_staff_53 1 rfl ?_
      obtain ⟨a24, e25, o26, h⟩ := h
      refine z_getI C (pc := 55) kf4 6 (by decide) rfl bw_854 (fun _ _ _ _ h => h) dX8_staff_55 e25 o26 ?_
      refine z_iload C (pc := 58) dX8_staff_58 0 rfl ?_
      refine z_ior C (pc := 60) dX8_staff_60 ?_
      refine z_goto C (pc := 61) (tgt := 74) dX8_staff_61 (by decide) ?_
      obtain ⟨a27, e28, o29, h⟩ := h
      refine z_putI C (pc := 74) kf4 6 (by decide) rfl rfl bw_854 (fun _ _ _ _ h => h) dX8_staff_74 e28 o29 ?_
      refine z_lt h (fun S30 h => ?_)
      refine z_aload C (pc := 77) dX8_staff_77 1 rfl ?_
      obtain ⟨a31, e32, o33, h⟩ := h
      refine z_getI C (pc := 79) kf4 6 (by decide) rfl bw_854 (fun _ _ _ _ h => h) dX8_staff_79 e32 o33 ?_
      refine z_Si C (pc := 82) (KX := fun _ _ => False) (kc' := 2) (ks' := 12) (As := [.int (g_I S30 406 a31)]) (rest := []) (c_J6_bitCount_0f7a4 l v S30 (g_I S30 406 a31)) mw_J6_bitCount_0f7a4 bw_613 bw_359 (fit_of rfl) rfl rfl (Nat.le_of_ble_eq_true rfl) dX8_staff_82 h (fun r35 S34 h => ?_) (fun En S9 h => h.elim)
      exact z_iret C (pc := 85) T dX8_staff_85 (by decide) (by decide) h
  · refine z_aload_n C (pc := 22) dX8_staff_22 1 rfl ?_
    refine z_aload C (pc := 23) dX8_staff_23 0 rfl ?_
    refine z_iload_n C (pc := 25) dX8_staff_25 3 rfl ?_
    obtain ⟨o36, h⟩ := h
    refine z_Vi C (pc := 26) (KX := fun _ _ => False) (kc' := 2) (ks' := 12) (As := [va_rf r3, .int x2]) (rest := []) rfl (c_X8_isElsewhere l v S10 x0 r3 x2) mw_X8_isElsewhere bw_731 bw_733 bw_p27 (fit_of rfl) rfl rfl (Nat.le_of_ble_eq_true rfl) (by decide) rfl o36 dX8_staff_26 h (fun r38 S37 h => ?_) (fun En S9 h => h.elim)
    refine z_if_eq C (pc := 29) (tgt := 42) dX8_staff_29 (by decide) h (fun h => ?_) (fun h => ?_)
    · refine z_iconst C (pc := 42) (x := (1 : Int32)) dX8_staff_42 kic_1 ?_
      refine z_iload_n C (pc := 43) dX8_staff_43 3 rfl ?_
      refine z_ishl C (pc := 44) dX8_staff_44 ?_
      refine z_nI h (fun y39 h => ?_)
      refine z_istore C (pc := 45) (lv' := [(5, .int y39), (4, va_rf r3), (0, va_rf (some x0)), (1, .int x1), (2, .int x2), (3, .int x3)]) dX8_staff_45 (by decide) rfl ?_
      refine z_aload C (pc := 47) dX8_staff_47 1 rfl ?_
      refine z_iload_n C (pc := 49) dX8_staff_49 5 rfl ?_
      refine z_if_eq C (pc := 50) (tgt := 64) dX8_staff_50 (by decide) h (fun h => ?_) (fun h => ?_)
      · refine z_aload C (pc := 64) dX8_staff_64 1 rfl ?_
        obtain ⟨a40, e41, o42, h⟩ := h
        refine z_getI C (pc := 66) kf4 6 (by decide) rfl bw_854 (fun _ _ _ _ h => h) dX8_staff_66 e41 o42 ?_
        refine z_iload C (pc := 69) dX8_staff_69 0 rfl ?_
        refine z_iconst C (pc := 71) (x := (-1 : Int32)) dX8_staff_71 kic_m1 ?_
        refine z_ixor C (pc := 72) dX8_staff_72 ?_
        refine z_iand C (pc := 73) dX8_staff_73 ?_
        obtain ⟨a43, e44, o45, h⟩ := h
        refine z_putI C (pc := 74) kf4 6 (by decide) rfl rfl bw_854 (fun _ _ _ _ h => h) dX8_staff_74 e44 o45 ?_
        refine z_lt h (fun S46 h => ?_)
        refine z_aload C (pc := 77) dX8_staff_77 1 rfl ?_
        obtain ⟨a47, e48, o49, h⟩ := h
        refine z_getI C (pc := 79) kf4 6 (by decide) rfl bw_854 (fun _ _ _ _ h => h) dX8_staff_79 e48 o49 ?_
        refine z_Si C (pc := 82) (KX := fun _ _ => False) (kc' := 2) (ks' := 12) (As := [.int (g_I S46 406 a47)]) (rest := []) (c_J6_bitCount_0f7a4 l v S46 (g_I S46 406 a47)) mw_J6_bitCount_0f7a4 bw_613 bw_359 (fit_of rfl) rfl rfl (Nat.le_of_ble_eq_true rfl) dX8_staff_82 h (fun r51 S50 h => ?_) (fun En S9 h => h.elim)
        exact z_iret C (pc := 85) T dX8_staff_85 (by decide) (by decide) h
      · refine z_aload C (pc := 53) dX8_staff_53 1 rfl ?_
        obtain ⟨a52, e53, o54, h⟩ := h
        refine z_getI C (pc := 55) kf4 6 (by decide) rfl bw_854 (fun _ _ _ _ h => h) dX8_staff_55 e53 o54 ?_
        refine z_iload C (pc := 58) dX8_staff_58 0 rfl ?_
        refine z_ior C (pc := 60) dX8_staff_60 ?_
        refine z_goto C (pc := 61) (tgt := 74) dX8_staff_61 (by decide) ?_
        obtain ⟨a55, e56, o57, h⟩ := h
        refine z_putI C (pc := 74) kf4 6 (by decide) rfl rfl bw_854 (fun _ _ _ _ h => h) dX8_staff_74 e56 o57 ?_
        refine z_lt h (fun S58 h => ?_)
        refine z_aload C (pc := 77) dX8_staff_77 1 rfl ?_
        obtain ⟨a59, e60, o61, h⟩ := h
        refine z_getI C (pc := 79) kf4 6 (by decide) rfl bw_854 (fun _ _ _ _ h => h) dX8_staff_79 e60 o61 ?_
        refine z_Si C (pc := 82) (KX := fun _ _ => False) (kc' := 2) (ks' := 12) (As := [.int (g_I S58 406 a59)]) (rest := []) (c_J6_bitCount_0f7a4 l v S58 (g_I S58 406 a59)) mw_J6_bitCount_0f7a4 bw_613 bw_359 (fit_of rfl) rfl rfl (Nat.le_of_ble_eq_true rfl) dX8_staff_82 h (fun r63 S62 h => ?_) (fun En S9 h => h.elim)
        exact z_iret C (pc := 85) T dX8_staff_85 (by decide) (by decide) h
    · exact z_throw C (pc := 32) (text := "the leader is at another event then") (names := ["java/lang/RuntimeException", "java/lang/Exception"]) hfl T N ft_IllegalStateException bw_383 bw_10 st_X8_234 at_X8_82 go_X8_82 ⟨by decide +kernel, by decide +kernel⟩ dX8_staff_32 dX8_staff_35 dX8_staff_36 dX8_staff_38 dX8_staff_41 ⟨by decide, Nat.le_of_ble_eq_true rfl, by decide, by decide⟩ h
def wp_X8_childrenPerLeader (S : Hp) (x0 : Int32) (Q : Int32 → Hp → Prop) : Prop :=
  if x0 = (1 : Int32) then (Q (4 : Int32) S) else (if x0 = (2 : Int32) then (Q (3 : Int32) S) else (if x0 = (3 : Int32) then (Q (6 : Int32) S) else (Q (8 : Int32) S)))
def rm_X8_childrenPerLeader : Room := { frames := 0, cells := 0, slots := 0, locals := 0 }
set_option maxHeartbeats 4000000 in
set_option maxRecDepth 100000 in
theorem c_X8_childrenPerLeader (l : Launch) (v : Ev) (S : Hp) (x0 : Int32) : CI l v yX8_childrenPerLeader cX8_childrenPerLeader 1 (some .int) rm_X8_childrenPerLeader [.int x0] S (fun Q _ => wp_X8_childrenPerLeader S x0 Q) := by
  intro Q EQ h
  refine z_start [(0, .int x0)] (by decide +kernel) (by simp only [la_i, la_r, la_n]) (cat_ci cat_nil) (by simp only [ls_i, ls_r, ls_n]; decide) (fun z C N T => ?_)
  unfold wp_X8_childrenPerLeader at h
  refine z_iload_n C (pc := 0) dX8_childrenPerLeader_0 0 rfl ?_
  refine z_swc C (pc := 1) (x := x0) (c := (1 : Int32)) dX8_childrenPerLeader_1 h (by decide) (by decide) rfl (tgt := 28) (by decide) (fun h => ?_) (fun n1 h => ?_)
  · refine z_iconst C (pc := 28) (x := (4 : Int32)) dX8_childrenPerLeader_28 kic_4 ?_
    exact z_iret C (pc := 29) T dX8_childrenPerLeader_29 (by decide) (by decide) h
  refine z_swc C (pc := 1) (x := x0) (c := (2 : Int32)) dX8_childrenPerLeader_1 h (by decide) (by decide) rfl (tgt := 30) (by decide) (fun h => ?_) (fun n2 h => ?_)
  · refine z_iconst C (pc := 30) (x := (3 : Int32)) dX8_childrenPerLeader_30 kic_3 ?_
    exact z_iret C (pc := 31) T dX8_childrenPerLeader_31 (by decide) (by decide) h
  refine z_swc C (pc := 1) (x := x0) (c := (3 : Int32)) dX8_childrenPerLeader_1 h (by decide) (by decide) rfl (tgt := 32) (by decide) (fun h => ?_) (fun n3 h => ?_)
  · refine z_bipush C (pc := 32) (x := (6 : Int32)) dX8_childrenPerLeader_32 kbp_6 ?_
    exact z_iret C (pc := 34) T dX8_childrenPerLeader_34 (by decide) (by decide) h
  refine z_tabOut C (pc := 1) (tgt := 35) dX8_childrenPerLeader_1 (by have := lv_neT n1 (a := 1) rfl; have := lv_neT n2 (a := 2) rfl; have := lv_neT n3 (a := 3) rfl; omega) (by decide) ?_
  refine z_bipush C (pc := 35) (x := (8 : Int32)) dX8_childrenPerLeader_35 kbp_8 ?_
  exact z_iret C (pc := 37) T dX8_childrenPerLeader_37 (by decide) (by decide) h
def wp_X8_needOf_L7 (f0 : Nat) (f1 : Option Nat) (Q : Option Nat → Hp → Prop) : Nat → Hp → Int32 → Int32 → Int32 → Prop
  | 0, _, _, _, _ => False
  | n + 1, S, w2, w3, w4 => okA S 8 f0 ∧ (rd S 10 (g_P S 802 f0) (fun a2 => wp_Jx4a65c_size_8abf5 S a2 (fun r6 S5 => if r6 ≤ w4 then ((∀ a7, a7 ∉ g_L S5 → lt (n_O 6 S5 a7) (fun S8 => rd S8 4 f1 (fun a9 => okA S8 8 f0 ∧ (wp_X8_childrenIn S8 f0 (g_I S8 400 a9) (fun r14 S13 => rd S13 4 f1 (fun a15 => wp_X8_childrenPerLeader S13 (g_I S13 402 a15) (fun r19 S18 => wp_X6_init S18 a7 r14 r19 w2 w3 (fun S20 => Q (some a7) S20))))))))) else (okA S5 8 f0 ∧ (rd S5 10 (g_P S5 802 f0) (fun a22 => wp_Jx4a65c_get_915e3 S5 a22 w4 (fun r26 S25 => (∀ a, r26 = some a → okA S25 5 a) ∧ (rd S25 4 f1 (fun a28 => rd S25 4 f1 (fun a31 => rd S25 5 r26 (fun a34 => wp_X5_isVetted S25 a34 (g_I S25 401 a28) (g_I S25 403 a31) (fun r38 S37 => if r38 = 0 then (okA S37 8 f0 ∧ (rd S37 10 (g_P S37 802 f0) (fun a40 => wp_Jx4a65c_get_915e3 S37 a40 w4 (fun r44 S43 => (∀ a, r44 = some a → okA S43 5 a) ∧ (rd S43 4 f1 (fun a46 => rd S43 4 f1 (fun a49 => rd S43 5 r44 (fun a52 => wp_X5_mayLead S43 a52 (g_I S43 402 a46) (g_I S43 403 a49) (fun r56 S55 => if r56 = 0 then (wp_X8_needOf_L7 f0 f1 Q n S55 w2 w3 (w4 + (1 : Int32))) else (lt (w3 ||| ((1 : Int32) <<< (w4 &&& 31))) (fun y57 => wp_X8_needOf_L7 f0 f1 Q n S55 w2 y57 (w4 + (1 : Int32))))))))))))) else (lt (w2 ||| ((1 : Int32) <<< (w4 &&& 31))) (fun y58 => okA S37 8 f0 ∧ (rd S37 10 (g_P S37 802 f0) (fun a60 => wp_Jx4a65c_get_915e3 S37 a60 w4 (fun r64 S63 => (∀ a, r64 = some a → okA S63 5 a) ∧ (rd S63 4 f1 (fun a66 => rd S63 4 f1 (fun a69 => rd S63 5 r64 (fun a72 => wp_X5_mayLead S63 a72 (g_I S63 402 a66) (g_I S63 403 a69) (fun r76 S75 => if r76 = 0 then (wp_X8_needOf_L7 f0 f1 Q n S75 y58 w3 (w4 + (1 : Int32))) else (lt (w3 ||| ((1 : Int32) <<< (w4 &&& 31))) (fun y77 => wp_X8_needOf_L7 f0 f1 Q n S75 y58 y77 (w4 + (1 : Int32))))))))))))))))))))))))))
def wp_X8_needOf (S : Hp) (x0 : Nat) (x1 : Option Nat) (Q : Option Nat → Hp → Prop) : Prop :=
  ∃ n78, wp_X8_needOf_L7 x0 x1 Q n78 S (0 : Int32) (0 : Int32) (0 : Int32)
def rm_X8_needOf : Room := { frames := 4, cells := 1, slots := 5, locals := 87 }
set_option maxHeartbeats 4000000 in
set_option maxRecDepth 100000 in
theorem l_X8_needOf_L7 (l : Launch) (v : Ev) (f0 : Nat) (f1 : Option Nat) (Q : Option Nat → Hp → Prop) {EQ : String → Hp → Prop} {z : Z9} (C : Cx l v RX8 cX8_needOf 5 (some (.object "Badgewood$Need")) "needOf" z) (N : NT z) (T : EE v rm_X8_needOf (QQ v Q) EQ z) : ∀ (n : Nat) (S : Hp) (w2 : Int32) (w3 : Int32) (w4 : Int32), wp_X8_needOf_L7 f0 f1 Q n S w2 w3 w4 → ZZ l v 5 rm_X8_needOf z 0 0 S 7 [(0, va_rf (some f0)), (1, va_rf f1), (2, .int w2), (3, .int w3), (4, .int w4)] [] := by
  intro n
  induction n with
  | zero =>
    intro S w2 w3 w4 h
    exact h.elim
  | succ n ih =>
    intro S w2 w3 w4 h
    unfold wp_X8_needOf_L7 at h
    refine z_iload C (pc := 7) dX8_needOf_7 4 rfl ?_
    refine z_aload_n C (pc := 9) dX8_needOf_9 0 rfl ?_
    obtain ⟨o1, h⟩ := h
    refine z_getP C (pc := 10) kf8 2 (by decide) rfl bw_76 (fun _ _ _ _ h => h) dX8_needOf_10 rfl o1 ?_
    obtain ⟨a2, e3, o4, h⟩ := h
    refine z_Vi C (pc := 13) (KX := fun _ _ => False) (kc' := 0) (ks' := 0) (As := []) (rest := [.int w4]) e3 (c_Jx4a65c_size_8abf5 l v S a2) mw_Jx4a65c_size_8abf5 bw_121 bw_122 bw_123 (fit_of rfl) rfl rfl (Nat.le_of_ble_eq_true rfl) (by decide) rfl o4 dX8_needOf_13 h (fun r6 S5 h => ?_) (fun En S9 h => h.elim)
    refine z_icmp_ge C (pc := 16) (tgt := 91) dX8_needOf_16 (by decide) h (fun h => ?_) (fun h => ?_)
    · refine z_new C (pc := 91) (kc' := 1) (ks' := 5) kf6 bw_324 bw_325 bw_23 dX8_needOf_91 (by decide) (by decide) (by decide) (by decide) h (fun a7 S8 h => ?_)
      refine z_dup C (pc := 94) dX8_needOf_94 (cat_rf _) ?_
      refine z_aload_n C (pc := 95) dX8_needOf_95 0 rfl ?_
      refine z_aload_n C (pc := 96) dX8_needOf_96 1 rfl ?_
      obtain ⟨a9, e10, o11, h⟩ := h
      refine z_getI C (pc := 97) kf4 0 (by decide) rfl bw_845 (fun _ _ _ _ h => h) dX8_needOf_97 e10 o11 ?_
      obtain ⟨o12, h⟩ := h
      refine z_Vi C (pc := 100) (KX := fun _ _ => False) (kc' := 1) (ks' := 5) (As := [.int (g_I S8 400 a9)]) (rest := [va_rf (some a7), va_rf (some a7)]) rfl (c_X8_childrenIn l v S8 f0 (g_I S8 400 a9)) mw_X8_childrenIn bw_269 bw_271 bw_p4 (fit_of rfl) rfl rfl (Nat.le_of_ble_eq_true rfl) (by decide) rfl o12 dX8_needOf_100 h (fun r14 S13 h => ?_) (fun En S9 h => h.elim)
      refine z_aload_n C (pc := 103) dX8_needOf_103 1 rfl ?_
      obtain ⟨a15, e16, o17, h⟩ := h
      refine z_getI C (pc := 104) kf4 2 (by decide) rfl bw_849 (fun _ _ _ _ h => h) dX8_needOf_104 e16 o17 ?_
      refine z_Si C (pc := 107) (KX := fun _ _ => False) (kc' := 1) (ks' := 5) (As := [.int (g_I S13 402 a15)]) (rest := [.int r14, va_rf (some a7), va_rf (some a7)]) (c_X8_childrenPerLeader l v S13 (g_I S13 402 a15)) mw_X8_childrenPerLeader bw_326 bw_327 (fit_of rfl) rfl rfl (Nat.le_of_ble_eq_true rfl) dX8_needOf_107 h (fun r19 S18 h => ?_) (fun En S9 h => h.elim)
      refine z_iload_n C (pc := 110) dX8_needOf_110 2 rfl ?_
      refine z_iload_n C (pc := 111) dX8_needOf_111 3 rfl ?_
      refine z_I C (pc := 112) (KX := fun _ _ => False) (kc' := 1) (ks' := 5) (As := [.int r14, .int r19, .int w2, .int w3]) (rest := [va_rf (some a7)]) (c_X6_init l v S18 a7 r14 r19 w2 w3) mw_X6_init bw_329 bw_330 rfl (fit_of rfl) rfl rfl (Nat.le_of_ble_eq_true rfl) dX8_needOf_112 h (fun S20 h => ?_) (fun En S9 h => h.elim)
      exact z_aret C (pc := 115) rfl (Or.inl ⟨_, rfl⟩) T dX8_needOf_115 (by decide) (by decide) h
    · refine z_aload_n C (pc := 19) dX8_needOf_19 0 rfl ?_
      obtain ⟨o21, h⟩ := h
      refine z_getP C (pc := 20) kf8 2 (by decide) rfl bw_76 (fun _ _ _ _ h => h) dX8_needOf_20 rfl o21 ?_
      refine z_iload C (pc := 23) dX8_needOf_23 4 rfl ?_
      obtain ⟨a22, e23, o24, h⟩ := h
      refine z_Vq C (pc := 25) (KX := fun _ _ => False) (kc' := 0) (ks' := 0) (As := [.int w4]) (rest := []) e23 (c_Jx4a65c_get_915e3 l v S5 a22 w4) mw_Jx4a65c_get_915e3 bw_196 bw_197 bw_198 (fit_of rfl) rfl rfl (Nat.le_of_ble_eq_true rfl) (by decide) rfl o24 dX8_needOf_25 h (fun r26 S25 h => ?_) (fun En S9 h => h.elim)
      obtain ⟨k27, h⟩ := h
      refine z_cast C (pc := 28) (κ := 5) (by decide) rfl bw_311 dX8_needOf_28 k27 ?_
      refine z_aload_n C (pc := 31) dX8_needOf_31 1 rfl ?_
      obtain ⟨a28, e29, o30, h⟩ := h
      refine z_getI C (pc := 32) kf4 1 (by decide) rfl bw_847 (fun _ _ _ _ h => h) dX8_needOf_32 e29 o30 ?_
      refine z_aload_n C (pc := 35) dX8_needOf_35 1 rfl ?_
      obtain ⟨a31, e32, o33, h⟩ := h
      refine z_getI C (pc := 36) kf4 3 (by decide) rfl bw_851 (fun _ _ _ _ h => h) dX8_needOf_36 e32 o33 ?_
      obtain ⟨a34, e35, o36, h⟩ := h
      refine z_Vi C (pc := 39) (KX := fun _ _ => False) (kc' := 0) (ks' := 0) (As := [.int (g_I S25 401 a28), .int (g_I S25 403 a31)]) (rest := []) e35 (c_X5_isVetted l v S25 a34 (g_I S25 401 a28) (g_I S25 403 a31)) mw_X5_isVetted bw_312 bw_313 bw_314 (fit_of rfl) rfl rfl (Nat.le_of_ble_eq_true rfl) (by decide) rfl o36 dX8_needOf_39 h (fun r38 S37 h => ?_) (fun En S9 h => h.elim)
      refine z_if_eq C (pc := 42) (tgt := 52) dX8_needOf_42 (by decide) h (fun h => ?_) (fun h => ?_)
      · refine z_aload_n C (pc := 52) dX8_needOf_52 0 rfl ?_
        obtain ⟨o39, h⟩ := h
        refine z_getP C (pc := 53) kf8 2 (by decide) rfl bw_76 (fun _ _ _ _ h => h) dX8_needOf_53 rfl o39 ?_
        refine z_iload C (pc := 56) dX8_needOf_56 4 rfl ?_
        obtain ⟨a40, e41, o42, h⟩ := h
        refine z_Vq C (pc := 58) (KX := fun _ _ => False) (kc' := 0) (ks' := 0) (As := [.int w4]) (rest := []) e41 (c_Jx4a65c_get_915e3 l v S37 a40 w4) mw_Jx4a65c_get_915e3 bw_196 bw_197 bw_198 (fit_of rfl) rfl rfl (Nat.le_of_ble_eq_true rfl) (by decide) rfl o42 dX8_needOf_58 h (fun r44 S43 h => ?_) (fun En S9 h => h.elim)
        obtain ⟨k45, h⟩ := h
        refine z_cast C (pc := 61) (κ := 5) (by decide) rfl bw_311 dX8_needOf_61 k45 ?_
        refine z_aload_n C (pc := 64) dX8_needOf_64 1 rfl ?_
        obtain ⟨a46, e47, o48, h⟩ := h
        refine z_getI C (pc := 65) kf4 2 (by decide) rfl bw_849 (fun _ _ _ _ h => h) dX8_needOf_65 e47 o48 ?_
        refine z_aload_n C (pc := 68) dX8_needOf_68 1 rfl ?_
        obtain ⟨a49, e50, o51, h⟩ := h
        refine z_getI C (pc := 69) kf4 3 (by decide) rfl bw_851 (fun _ _ _ _ h => h) dX8_needOf_69 e50 o51 ?_
        obtain ⟨a52, e53, o54, h⟩ := h
        refine z_Vi C (pc := 72) (KX := fun _ _ => False) (kc' := 0) (ks' := 0) (As := [.int (g_I S43 402 a46), .int (g_I S43 403 a49)]) (rest := []) e53 (c_X5_mayLead l v S43 a52 (g_I S43 402 a46) (g_I S43 403 a49)) mw_X5_mayLead bw_316 bw_317 bw_318 (fit_of rfl) rfl rfl (Nat.le_of_ble_eq_true rfl) (by decide) rfl o54 dX8_needOf_72 h (fun r56 S55 h => ?_) (fun En S9 h => h.elim)
        refine z_if_eq C (pc := 75) (tgt := 85) dX8_needOf_75 (by decide) h (fun h => ?_) (fun h => ?_)
        · refine z_iinc C (pc := 85) (y := w4 + (1 : Int32)) (lv' := [(4, .int (w4 + (1 : Int32))), (0, va_rf (some f0)), (1, va_rf f1), (2, .int w2), (3, .int w3)]) dX8_needOf_85 4 rfl rfl (by decide) rfl ?_
          refine z_goto C (pc := 88) (tgt := 7) dX8_needOf_88 (by decide) ?_
          refine z_sub [1, 2, 3, 4, 0] (lv' := [(0, va_rf (some f0)), (1, va_rf f1), (2, .int w2), (3, .int w3), (4, .int (w4 + (1 : Int32)))]) rfl ?_
          exact ih S55 w2 w3 (w4 + (1 : Int32)) h
        · refine z_iload_n C (pc := 78) dX8_needOf_78 3 rfl ?_
          refine z_iconst C (pc := 79) (x := (1 : Int32)) dX8_needOf_79 kic_1 ?_
          refine z_iload C (pc := 80) dX8_needOf_80 4 rfl ?_
          refine z_ishl C (pc := 82) dX8_needOf_82 ?_
          refine z_ior C (pc := 83) dX8_needOf_83 ?_
          refine z_nI h (fun y57 h => ?_)
          refine z_istore_n C (pc := 84) (lv' := [(3, .int y57), (0, va_rf (some f0)), (1, va_rf f1), (2, .int w2), (4, .int w4)]) dX8_needOf_84 (by decide) rfl ?_
          refine z_iinc C (pc := 85) (y := w4 + (1 : Int32)) (lv' := [(4, .int (w4 + (1 : Int32))), (3, .int y57), (0, va_rf (some f0)), (1, va_rf f1), (2, .int w2)]) dX8_needOf_85 4 rfl rfl (by decide) rfl ?_
          refine z_goto C (pc := 88) (tgt := 7) dX8_needOf_88 (by decide) ?_
          refine z_sub [2, 3, 4, 1, 0] (lv' := [(0, va_rf (some f0)), (1, va_rf f1), (2, .int w2), (3, .int y57), (4, .int (w4 + (1 : Int32)))]) rfl ?_
          exact ih S55 w2 y57 (w4 + (1 : Int32)) h
      · refine z_iload_n C (pc := 45) dX8_needOf_45 2 rfl ?_
        refine z_iconst C (pc := 46) (x := (1 : Int32)) dX8_needOf_46 kic_1 ?_
        refine z_iload C (pc := 47) dX8_needOf_47 4 rfl ?_
        refine z_ishl C (pc := 49) dX8_needOf_49 ?_
        refine z_ior C (pc := 50) dX8_needOf_50 ?_
        refine z_nI h (fun y58 h => ?_)
        refine z_istore_n C (pc := 51) (lv' := [(2, .int y58), (0, va_rf (some f0)), (1, va_rf f1), (3, .int w3), (4, .int w4)]) dX8_needOf_51 (by decide) rfl ?_
        refine z_aload_n C (pc := 52) dX8_needOf_52 1 rfl ?_
        obtain ⟨o59, h⟩ := h
        refine z_getP C (pc := 53) kf8 2 (by decide) rfl bw_76 (fun _ _ _ _ h => h) dX8_needOf_53 rfl o59 ?_
        refine z_iload C (pc := 56) dX8_needOf_56 4 rfl ?_
        obtain ⟨a60, e61, o62, h⟩ := h
        refine z_Vq C (pc := 58) (KX := fun _ _ => False) (kc' := 0) (ks' := 0) (As := [.int w4]) (rest := []) e61 (c_Jx4a65c_get_915e3 l v S37 a60 w4) mw_Jx4a65c_get_915e3 bw_196 bw_197 bw_198 (fit_of rfl) rfl rfl (Nat.le_of_ble_eq_true rfl) (by decide) rfl o62 dX8_needOf_58 h (fun r64 S63 h => ?_) (fun En S9 h => h.elim)
        obtain ⟨k65, h⟩ := h
        refine z_cast C (pc := 61) (κ := 5) (by decide) rfl bw_311 dX8_needOf_61 k65 ?_
        refine z_aload_n C (pc := 64) dX8_needOf_64 2 rfl ?_
        obtain ⟨a66, e67, o68, h⟩ := h
        refine z_getI C (pc := 65) kf4 2 (by decide) rfl bw_849 (fun _ _ _ _ h => h) dX8_needOf_65 e67 o68 ?_
        refine z_aload_n C (pc := 68) dX8_needOf_68 2 rfl ?_
        obtain ⟨a69, e70, o71, h⟩ := h
        refine z_getI C (pc := 69) kf4 3 (by decide) rfl bw_851 (fun _ _ _ _ h => h) dX8_needOf_69 e70 o71 ?_
        obtain ⟨a72, e73, o74, h⟩ := h
        refine z_Vi C (pc := 72) (KX := fun _ _ => False) (kc' := 0) (ks' := 0) (As := [.int (g_I S63 402 a66), .int (g_I S63 403 a69)]) (rest := []) e73 (c_X5_mayLead l v S63 a72 (g_I S63 402 a66) (g_I S63 403 a69)) mw_X5_mayLead bw_316 bw_317 bw_318 (fit_of rfl) rfl rfl (Nat.le_of_ble_eq_true rfl) (by decide) rfl o74 dX8_needOf_72 h (fun r76 S75 h => ?_) (fun En S9 h => h.elim)
        refine z_if_eq C (pc := 75) (tgt := 85) dX8_needOf_75 (by decide) h (fun h => ?_) (fun h => ?_)
        · refine z_iinc C (pc := 85) (y := w4 + (1 : Int32)) (lv' := [(4, .int (w4 + (1 : Int32))), (2, .int y58), (0, va_rf (some f0)), (1, va_rf f1), (3, .int w3)]) dX8_needOf_85 4 rfl rfl (by decide) rfl ?_
          refine z_goto C (pc := 88) (tgt := 7) dX8_needOf_88 (by decide) ?_
          refine z_sub [2, 3, 1, 4, 0] (lv' := [(0, va_rf (some f0)), (1, va_rf f1), (2, .int y58), (3, .int w3), (4, .int (w4 + (1 : Int32)))]) rfl ?_
          exact ih S75 y58 w3 (w4 + (1 : Int32)) h
        · refine z_iload_n C (pc := 78) dX8_needOf_78 3 rfl ?_
          refine z_iconst C (pc := 79) (x := (1 : Int32)) dX8_needOf_79 kic_1 ?_
          refine z_iload C (pc := 80) dX8_needOf_80 4 rfl ?_
          refine z_ishl C (pc := 82) dX8_needOf_82 ?_
          refine z_ior C (pc := 83) dX8_needOf_83 ?_
          refine z_nI h (fun y77 h => ?_)
          refine z_istore_n C (pc := 84) (lv' := [(3, .int y77), (2, .int y58), (0, va_rf (some f0)), (1, va_rf f1), (4, .int w4)]) dX8_needOf_84 (by decide) rfl ?_
          refine z_iinc C (pc := 85) (y := w4 + (1 : Int32)) (lv' := [(4, .int (w4 + (1 : Int32))), (3, .int y77), (2, .int y58), (0, va_rf (some f0)), (1, va_rf f1)]) dX8_needOf_85 4 rfl rfl (by decide) rfl ?_
          refine z_goto C (pc := 88) (tgt := 7) dX8_needOf_88 (by decide) ?_
          refine z_sub [3, 4, 2, 1, 0] (lv' := [(0, va_rf (some f0)), (1, va_rf f1), (2, .int y58), (3, .int y77), (4, .int (w4 + (1 : Int32)))]) rfl ?_
          exact ih S75 y58 y77 (w4 + (1 : Int32)) h
set_option maxHeartbeats 4000000 in
set_option maxRecDepth 100000 in
theorem c_X8_needOf (l : Launch) (v : Ev) (S : Hp) (x0 : Nat) (x1 : Option Nat) : CQ l v yX8_needOf cX8_needOf 5 (some (.object "Badgewood$Need")) rm_X8_needOf [va_rf (some x0), va_rf x1] S (fun Q _ => wp_X8_needOf S x0 x1 Q) := by
  intro Q EQ h
  refine z_start [(0, va_rf (some x0)), (1, va_rf x1)] (by decide +kernel) (by simp only [la_i, la_r, la_n]) (cat_cr (cat_cr cat_nil)) (by simp only [ls_i, ls_r, ls_n]; decide) (fun z C N T => ?_)
  unfold wp_X8_needOf at h
  refine z_iconst C (pc := 0) (x := (0 : Int32)) dX8_needOf_0 kic_0 ?_
  refine z_istore_n C (pc := 1) (lv' := [(2, .int (0 : Int32)), (0, va_rf (some x0)), (1, va_rf x1)]) dX8_needOf_1 (by decide) rfl ?_
  refine z_iconst C (pc := 2) (x := (0 : Int32)) dX8_needOf_2 kic_0 ?_
  refine z_istore_n C (pc := 3) (lv' := [(3, .int (0 : Int32)), (2, .int (0 : Int32)), (0, va_rf (some x0)), (1, va_rf x1)]) dX8_needOf_3 (by decide) rfl ?_
  refine z_iconst C (pc := 4) (x := (0 : Int32)) dX8_needOf_4 kic_0 ?_
  refine z_istore C (pc := 5) (lv' := [(4, .int (0 : Int32)), (3, .int (0 : Int32)), (2, .int (0 : Int32)), (0, va_rf (some x0)), (1, va_rf x1)]) dX8_needOf_5 (by decide) rfl ?_
  obtain ⟨n78, h⟩ := h
  refine z_sub [3, 4, 2, 1, 0] (lv' := [(0, va_rf (some x0)), (1, va_rf x1), (2, .int (0 : Int32)), (3, .int (0 : Int32)), (4, .int (0 : Int32))]) rfl ?_
  exact l_X8_needOf_L7 l v x0 x1 Q C N T n78 S (0 : Int32) (0 : Int32) (0 : Int32) h
def wp_X8_why (S : Hp) (x0 : Nat) (x1 : Int32) (Q : Int32 → Hp → Prop) (EQ : String → Hp → Prop) : Prop :=
  okA S 8 x0 ∧ (wp_X8_eventAt S x0 x1 (fun r3 S2 => okA S2 8 x0 ∧ (wp_X8_needOf S2 x0 r3 (fun r6 S5 => rd S5 4 r3 (fun a7 => rd S5 6 r6 (fun a10 => wp_X6_verdict S5 a10 (g_I S5 406 a7) (fun r14 S13 => Q r14 S13)))))) EQ)
def rm_X8_why : Room := { frames := 8, cells := 2, slots := 11, locals := 124 }
set_option maxHeartbeats 4000000 in
set_option maxRecDepth 100000 in
theorem c_X8_why (l : Launch) (hfl : l.stackTraces = false) (v : Ev) (S : Hp) (x0 : Nat) (x1 : Int32) : CI l v yX8_why cX8_why 3 (some .int) rm_X8_why [va_rf (some x0), .int x1] S (fun Q EQ => wp_X8_why S x0 x1 Q EQ) := by
  intro Q EQ h
  refine z_start [(0, va_rf (some x0)), (1, .int x1)] (by decide +kernel) (by simp only [la_i, la_r, la_n]) (cat_cr (cat_ci cat_nil)) (by simp only [ls_i, ls_r, ls_n]; decide) (fun z C N T => ?_)
  unfold wp_X8_why at h
  refine z_aload_n C (pc := 0) dX8_why_0 0 rfl ?_
  refine z_iload_n C (pc := 1) dX8_why_1 1 rfl ?_
  obtain ⟨o1, h⟩ := h
  refine z_Vq C (pc := 2) (kc' := 1) (ks' := 6) (As := [.int x1]) (rest := []) rfl (c_X8_eventAt l hfl v S x0 x1) mw_X8_eventAt bw_302 bw_304 bw_p8 (fit_of rfl) rfl rfl (Nat.le_of_ble_eq_true rfl) (by decide) rfl o1 dX8_why_2 h (fun r3 S2 h => ?_) (fun En S9 h => z_out C T N (by decide) (by decide) h)
  refine z_astore_n C (pc := 5) (lv' := [(2, va_rf r3), (0, va_rf (some x0)), (1, .int x1)]) dX8_why_5 (by decide) rfl ?_
  refine z_aload_n C (pc := 6) dX8_why_6 1 rfl ?_
  refine z_aload_n C (pc := 7) dX8_why_7 0 rfl ?_
  obtain ⟨o4, h⟩ := h
  refine z_Vq C (pc := 8) (KX := fun _ _ => False) (kc' := 2) (ks' := 11) (As := [va_rf r3]) (rest := []) rfl (c_X8_needOf l v S2 x0 r3) mw_X8_needOf bw_307 bw_309 bw_p9 (fit_of rfl) rfl rfl (Nat.le_of_ble_eq_true rfl) (by decide) rfl o4 dX8_why_8 h (fun r6 S5 h => ?_) (fun En S9 h => h.elim)
  refine z_aload_n C (pc := 11) dX8_why_11 0 rfl ?_
  obtain ⟨a7, e8, o9, h⟩ := h
  refine z_getI C (pc := 12) kf4 6 (by decide) rfl bw_854 (fun _ _ _ _ h => h) dX8_why_12 e8 o9 ?_
  obtain ⟨a10, e11, o12, h⟩ := h
  refine z_Vi C (pc := 15) (KX := fun _ _ => False) (kc' := 2) (ks' := 11) (As := [.int (g_I S5 406 a7)]) (rest := []) e11 (c_X6_verdict l v S5 a10 (g_I S5 406 a7)) mw_X6_verdict bw_354 bw_355 bw_356 (fit_of rfl) rfl rfl (Nat.le_of_ble_eq_true rfl) (by decide) rfl o12 dX8_why_15 h (fun r14 S13 h => ?_) (fun En S9 h => h.elim)
  exact z_iret C (pc := 18) T dX8_why_18 (by decide) (by decide) h
def wp_X8_eventsIn_L5 (f0 : Nat) (f1 : Int32) (f2 : Int32) (Q : Int32 → Hp → Prop) : Nat → Hp → Int32 → Int32 → Prop
  | 0, _, _, _ => False
  | n + 1, S, w3, w4 => okA S 8 f0 ∧ (rd S 10 (g_P S 803 f0) (fun a2 => wp_Jx4a65c_size_8abf5 S a2 (fun r6 S5 => if r6 ≤ w4 then (Q w3 S5) else (okA S5 8 f0 ∧ (rd S5 10 (g_P S5 803 f0) (fun a8 => wp_Jx4a65c_get_915e3 S5 a8 w4 (fun r12 S11 => (∀ a, r12 = some a → okA S11 4 a) ∧ (rd S11 4 r12 (fun a14 => wp_X4_goesOn S11 a14 f1 f2 (fun r18 S17 => if r18 = 0 then (wp_X8_eventsIn_L5 f0 f1 f2 Q n S17 w3 (w4 + (1 : Int32))) else (wp_X8_eventsIn_L5 f0 f1 f2 Q n S17 (w3 + (1 : Int32)) (w4 + (1 : Int32)))))))))))))
def wp_X8_eventsIn (S : Hp) (x0 : Nat) (x1 : Int32) (x2 : Int32) (Q : Int32 → Hp → Prop) : Prop :=
  ∃ n19, wp_X8_eventsIn_L5 x0 x1 x2 Q n19 S (0 : Int32) (0 : Int32)
def rm_X8_eventsIn : Room := { frames := 3, cells := 0, slots := 0, locals := 64 }
set_option maxHeartbeats 4000000 in
set_option maxRecDepth 100000 in
theorem l_X8_eventsIn_L5 (l : Launch) (v : Ev) (f0 : Nat) (f1 : Int32) (f2 : Int32) (Q : Int32 → Hp → Prop) {EQ : String → Hp → Prop} {z : Z9} (C : Cx l v RX8 cX8_eventsIn 5 (some .int) "eventsIn" z) (N : NT z) (T : EE v rm_X8_eventsIn (QI v Q) EQ z) : ∀ (n : Nat) (S : Hp) (w3 : Int32) (w4 : Int32), wp_X8_eventsIn_L5 f0 f1 f2 Q n S w3 w4 → ZZ l v 5 rm_X8_eventsIn z 0 0 S 5 [(0, va_rf (some f0)), (1, .int f1), (2, .int f2), (3, .int w3), (4, .int w4)] [] := by
  intro n
  induction n with
  | zero =>
    intro S w3 w4 h
    exact h.elim
  | succ n ih =>
    intro S w3 w4 h
    unfold wp_X8_eventsIn_L5 at h
    refine z_iload C (pc := 5) dX8_eventsIn_5 4 rfl ?_
    refine z_aload_n C (pc := 7) dX8_eventsIn_7 0 rfl ?_
    obtain ⟨o1, h⟩ := h
    refine z_getP C (pc := 8) kf8 3 (by decide) rfl bw_77 (fun _ _ _ _ h => h) dX8_eventsIn_8 rfl o1 ?_
    obtain ⟨a2, e3, o4, h⟩ := h
    refine z_Vi C (pc := 11) (KX := fun _ _ => False) (kc' := 0) (ks' := 0) (As := []) (rest := [.int w4]) e3 (c_Jx4a65c_size_8abf5 l v S a2) mw_Jx4a65c_size_8abf5 bw_121 bw_122 bw_123 (fit_of rfl) rfl rfl (Nat.le_of_ble_eq_true rfl) (by decide) rfl o4 dX8_eventsIn_11 h (fun r6 S5 h => ?_) (fun En S9 h => h.elim)
    refine z_icmp_ge C (pc := 14) (tgt := 46) dX8_eventsIn_14 (by decide) h (fun h => ?_) (fun h => ?_)
    · refine z_iload_n C (pc := 46) dX8_eventsIn_46 3 rfl ?_
      exact z_iret C (pc := 47) T dX8_eventsIn_47 (by decide) (by decide) h
    · refine z_aload_n C (pc := 17) dX8_eventsIn_17 0 rfl ?_
      obtain ⟨o7, h⟩ := h
      refine z_getP C (pc := 18) kf8 3 (by decide) rfl bw_77 (fun _ _ _ _ h => h) dX8_eventsIn_18 rfl o7 ?_
      refine z_iload C (pc := 21) dX8_eventsIn_21 4 rfl ?_
      obtain ⟨a8, e9, o10, h⟩ := h
      refine z_Vq C (pc := 23) (KX := fun _ _ => False) (kc' := 0) (ks' := 0) (As := [.int w4]) (rest := []) e9 (c_Jx4a65c_get_915e3 l v S5 a8 w4) mw_Jx4a65c_get_915e3 bw_196 bw_197 bw_198 (fit_of rfl) rfl rfl (Nat.le_of_ble_eq_true rfl) (by decide) rfl o10 dX8_eventsIn_23 h (fun r12 S11 h => ?_) (fun En S9 h => h.elim)
      obtain ⟨k13, h⟩ := h
      refine z_cast C (pc := 26) (κ := 4) (by decide) rfl bw_306 dX8_eventsIn_26 k13 ?_
      refine z_iload_n C (pc := 29) dX8_eventsIn_29 1 rfl ?_
      refine z_iload_n C (pc := 30) dX8_eventsIn_30 2 rfl ?_
      obtain ⟨a14, e15, o16, h⟩ := h
      refine z_Vi C (pc := 31) (KX := fun _ _ => False) (kc' := 0) (ks' := 0) (As := [.int f1, .int f2]) (rest := []) e15 (c_X4_goesOn l v S11 a14 f1 f2) mw_X4_goesOn bw_748 bw_749 bw_750 (fit_of rfl) rfl rfl (Nat.le_of_ble_eq_true rfl) (by decide) rfl o16 dX8_eventsIn_31 h (fun r18 S17 h => ?_) (fun En S9 h => h.elim)
      refine z_if_eq C (pc := 34) (tgt := 40) dX8_eventsIn_34 (by decide) h (fun h => ?_) (fun h => ?_)
      · refine z_iinc C (pc := 40) (y := w4 + (1 : Int32)) (lv' := [(4, .int (w4 + (1 : Int32))), (0, va_rf (some f0)), (1, .int f1), (2, .int f2), (3, .int w3)]) dX8_eventsIn_40 4 rfl rfl (by decide) rfl ?_
        refine z_goto C (pc := 43) (tgt := 5) dX8_eventsIn_43 (by decide) ?_
        refine z_sub [1, 2, 3, 4, 0] (lv' := [(0, va_rf (some f0)), (1, .int f1), (2, .int f2), (3, .int w3), (4, .int (w4 + (1 : Int32)))]) rfl ?_
        exact ih S17 w3 (w4 + (1 : Int32)) h
      · refine z_iinc C (pc := 37) (y := w3 + (1 : Int32)) (lv' := [(3, .int (w3 + (1 : Int32))), (0, va_rf (some f0)), (1, .int f1), (2, .int f2), (4, .int w4)]) dX8_eventsIn_37 3 rfl rfl (by decide) rfl ?_
        refine z_iinc C (pc := 40) (y := w4 + (1 : Int32)) (lv' := [(4, .int (w4 + (1 : Int32))), (3, .int (w3 + (1 : Int32))), (0, va_rf (some f0)), (1, .int f1), (2, .int f2)]) dX8_eventsIn_40 4 rfl rfl (by decide) rfl ?_
        refine z_goto C (pc := 43) (tgt := 5) dX8_eventsIn_43 (by decide) ?_
        refine z_sub [2, 3, 4, 1, 0] (lv' := [(0, va_rf (some f0)), (1, .int f1), (2, .int f2), (3, .int (w3 + (1 : Int32))), (4, .int (w4 + (1 : Int32)))]) rfl ?_
        exact ih S17 (w3 + (1 : Int32)) (w4 + (1 : Int32)) h
set_option maxHeartbeats 4000000 in
set_option maxRecDepth 100000 in
theorem c_X8_eventsIn (l : Launch) (v : Ev) (S : Hp) (x0 : Nat) (x1 : Int32) (x2 : Int32) : CI l v yX8_eventsIn cX8_eventsIn 5 (some .int) rm_X8_eventsIn [va_rf (some x0), .int x1, .int x2] S (fun Q _ => wp_X8_eventsIn S x0 x1 x2 Q) := by
  intro Q EQ h
  refine z_start [(0, va_rf (some x0)), (1, .int x1), (2, .int x2)] (by decide +kernel) (by simp only [la_i, la_r, la_n]) (cat_cr (cat_ci (cat_ci cat_nil))) (by simp only [ls_i, ls_r, ls_n]; decide) (fun z C N T => ?_)
  unfold wp_X8_eventsIn at h
  refine z_iconst C (pc := 0) (x := (0 : Int32)) dX8_eventsIn_0 kic_0 ?_
  refine z_istore_n C (pc := 1) (lv' := [(3, .int (0 : Int32)), (0, va_rf (some x0)), (1, .int x1), (2, .int x2)]) dX8_eventsIn_1 (by decide) rfl ?_
  refine z_iconst C (pc := 2) (x := (0 : Int32)) dX8_eventsIn_2 kic_0 ?_
  refine z_istore C (pc := 3) (lv' := [(4, .int (0 : Int32)), (3, .int (0 : Int32)), (0, va_rf (some x0)), (1, .int x1), (2, .int x2)]) dX8_eventsIn_3 (by decide) rfl ?_
  obtain ⟨n19, h⟩ := h
  refine z_sub [2, 3, 4, 1, 0] (lv' := [(0, va_rf (some x0)), (1, .int x1), (2, .int x2), (3, .int (0 : Int32)), (4, .int (0 : Int32))]) rfl ?_
  exact l_X8_eventsIn_L5 l v x0 x1 x2 Q C N T n19 S (0 : Int32) (0 : Int32) h
def wp_X8_needsIn_L11 (f0 : Nat) (f1 : Int32) (f2 : Int32) (f3 : Nat) (Q : Option Nat → Hp → Prop) : Nat → Hp → Int32 → Prop
  | 0, _, _ => False
  | n + 1, S, w4 => okA S 8 f0 ∧ (rd S 10 (g_P S 803 f0) (fun a5 => wp_Jx4a65c_size_8abf5 S a5 (fun r9 S8 => if r9 ≤ w4 then (Q (some f3) S8) else (okA S8 8 f0 ∧ (rd S8 10 (g_P S8 803 f0) (fun a11 => wp_Jx4a65c_get_915e3 S8 a11 w4 (fun r15 S14 => (∀ a, r15 = some a → okA S14 4 a) ∧ (rd S14 4 r15 (fun a17 => wp_X4_goesOn S14 a17 f1 f2 (fun r21 S20 => if r21 = 0 then (wp_X8_needsIn_L11 f0 f1 f2 f3 Q n S20 (w4 + (1 : Int32))) else (okA S20 8 f0 ∧ (rd S20 10 (g_P S20 803 f0) (fun a23 => wp_Jx4a65c_get_915e3 S20 a23 w4 (fun r27 S26 => (∀ a, r27 = some a → okA S26 4 a) ∧ (okA S26 8 f0 ∧ (wp_X8_needOf S26 f0 r27 (fun r31 S30 => okA S30 10 f3 ∧ (wp_Jx4a65c_add_9ea2d S30 f3 r31 (fun r34 S33 => wp_X8_needsIn_L11 f0 f1 f2 f3 Q n S33 (w4 + (1 : Int32)))))))))))))))))))))
def wp_X8_needsIn (S : Hp) (x0 : Nat) (x1 : Int32) (x2 : Int32) (Q : Option Nat → Hp → Prop) : Prop :=
  (∀ a1, a1 ∉ g_L S → lt (n_O 10 S a1) (fun S2 => wp_Jx4a65c_init_da8c8 S2 a1 (fun S3 => ∃ n35, n35 ≤ 21 ∧ wp_X8_needsIn_L11 x0 x1 x2 a1 Q n35 S3 (0 : Int32))))
def rm_X8_needsIn : Room := { frames := 7, cells := 43, slots := 1452, locals := 231 }
set_option maxHeartbeats 4000000 in
set_option maxRecDepth 100000 in
theorem l_X8_needsIn_L11 (l : Launch) (v : Ev) (f0 : Nat) (f1 : Int32) (f2 : Int32) (f3 : Nat) (Q : Option Nat → Hp → Prop) {EQ : String → Hp → Prop} {z : Z9} (C : Cx l v RX8 cX8_needsIn 5 (some (.object "java/util/ArrayList")) "needsIn" z) (N : NT z) (T : EE v rm_X8_needsIn (QQ v Q) EQ z) : ∀ (n : Nat) (S : Hp) (w4 : Int32) (hn : n ≤ 21), wp_X8_needsIn_L11 f0 f1 f2 f3 Q n S w4 → ZZ l v 5 rm_X8_needsIn z (43 - n * 2) (1452 - n * 69) S 11 [(0, va_rf (some f0)), (1, .int f1), (2, .int f2), (3, va_rf (some f3)), (4, .int w4)] [] := by
  intro n
  induction n with
  | zero =>
    intro S w4 hn h
    exact h.elim
  | succ n ih =>
    intro S w4 hn h
    unfold wp_X8_needsIn_L11 at h
    obtain ⟨B, hB⟩ : ∃ B, B = 43 - (n + 1) * 2 := ⟨_, rfl⟩
    obtain ⟨B2, hB2⟩ : ∃ B2, B2 = 1452 - (n + 1) * 69 := ⟨_, rfl⟩
    have hR : rm_X8_needsIn.cells = 43 := rfl
    have hR2 : rm_X8_needsIn.slots = 1452 := rfl
    rw [← hB, ← hB2]
    refine z_wide (kc' := B + 0) (ks' := B2 + 0) (Nat.le_refl _) (Nat.le_refl _) ?_
    refine z_iload C (pc := 11) dX8_needsIn_11 4 rfl ?_
    refine z_aload_n C (pc := 13) dX8_needsIn_13 0 rfl ?_
    obtain ⟨o4, h⟩ := h
    refine z_getP C (pc := 14) kf8 3 (by decide) rfl bw_77 (fun _ _ _ _ h => h) dX8_needsIn_14 rfl o4 ?_
    obtain ⟨a5, e6, o7, h⟩ := h
    refine z_Vi C (pc := 17) (KX := fun _ _ => False) (kc' := (B + 0)) (ks' := (B2 + 0)) (As := []) (rest := [.int w4]) e6 (c_Jx4a65c_size_8abf5 l v S a5) mw_Jx4a65c_size_8abf5 bw_121 bw_122 bw_123 ⟨by have h9 : rm_Jx4a65c_size_8abf5.cells = 0 := rfl; omega, by omega, by have h9 : rm_Jx4a65c_size_8abf5.slots = 0 := rfl; omega, by omega, by decide, by decide⟩ rfl rfl (Nat.le_of_ble_eq_true rfl) (by decide) rfl o7 dX8_needsIn_17 h (fun r9 S8 h => ?_) (fun En S9 h => h.elim)
    refine z_icmp_ge C (pc := 20) (tgt := 70) dX8_needsIn_20 (by decide) h (fun h => ?_) (fun h => ?_)
    · refine z_aload_n C (pc := 70) dX8_needsIn_70 3 rfl ?_
      exact z_aret C (pc := 71) rfl (Or.inl ⟨_, rfl⟩) T dX8_needsIn_71 (by omega) (by omega) h
    · refine z_aload_n C (pc := 23) dX8_needsIn_23 0 rfl ?_
      obtain ⟨o10, h⟩ := h
      refine z_getP C (pc := 24) kf8 3 (by decide) rfl bw_77 (fun _ _ _ _ h => h) dX8_needsIn_24 rfl o10 ?_
      refine z_iload C (pc := 27) dX8_needsIn_27 4 rfl ?_
      obtain ⟨a11, e12, o13, h⟩ := h
      refine z_Vq C (pc := 29) (KX := fun _ _ => False) (kc' := (B + 0)) (ks' := (B2 + 0)) (As := [.int w4]) (rest := []) e12 (c_Jx4a65c_get_915e3 l v S8 a11 w4) mw_Jx4a65c_get_915e3 bw_196 bw_197 bw_198 ⟨by have h9 : rm_Jx4a65c_get_915e3.cells = 0 := rfl; omega, by omega, by have h9 : rm_Jx4a65c_get_915e3.slots = 0 := rfl; omega, by omega, by decide, by decide⟩ rfl rfl (Nat.le_of_ble_eq_true rfl) (by decide) rfl o13 dX8_needsIn_29 h (fun r15 S14 h => ?_) (fun En S9 h => h.elim)
      obtain ⟨k16, h⟩ := h
      refine z_cast C (pc := 32) (κ := 4) (by decide) rfl bw_306 dX8_needsIn_32 k16 ?_
      refine z_iload_n C (pc := 35) dX8_needsIn_35 1 rfl ?_
      refine z_iload_n C (pc := 36) dX8_needsIn_36 2 rfl ?_
      obtain ⟨a17, e18, o19, h⟩ := h
      refine z_Vi C (pc := 37) (KX := fun _ _ => False) (kc' := (B + 0)) (ks' := (B2 + 0)) (As := [.int f1, .int f2]) (rest := []) e18 (c_X4_goesOn l v S14 a17 f1 f2) mw_X4_goesOn bw_748 bw_749 bw_750 ⟨by have h9 : rm_X4_goesOn.cells = 0 := rfl; omega, by omega, by have h9 : rm_X4_goesOn.slots = 0 := rfl; omega, by omega, by decide, by decide⟩ rfl rfl (Nat.le_of_ble_eq_true rfl) (by decide) rfl o19 dX8_needsIn_37 h (fun r21 S20 h => ?_) (fun En S9 h => h.elim)
      refine z_if_eq C (pc := 40) (tgt := 64) dX8_needsIn_40 (by decide) h (fun h => ?_) (fun h => ?_)
      · refine z_iinc C (pc := 64) (y := w4 + (1 : Int32)) (lv' := [(4, .int (w4 + (1 : Int32))), (0, va_rf (some f0)), (1, .int f1), (2, .int f2), (3, va_rf (some f3))]) dX8_needsIn_64 4 rfl rfl (by decide) rfl ?_
        refine z_goto C (pc := 67) (tgt := 11) dX8_needsIn_67 (by decide) ?_
        refine z_sub [1, 2, 3, 4, 0] (lv' := [(0, va_rf (some f0)), (1, .int f1), (2, .int f2), (3, va_rf (some f3)), (4, .int (w4 + (1 : Int32)))]) rfl ?_
        refine z_wide (kc' := 43 - n * 2) (ks' := 1452 - n * 69) (by omega) (by omega) ?_
        exact ih S20 (w4 + (1 : Int32)) (by omega) h
      · refine z_aload_n C (pc := 43) dX8_needsIn_43 3 rfl ?_
        refine z_aload_n C (pc := 44) dX8_needsIn_44 0 rfl ?_
        refine z_aload_n C (pc := 45) dX8_needsIn_45 0 rfl ?_
        obtain ⟨o22, h⟩ := h
        refine z_getP C (pc := 46) kf8 3 (by decide) rfl bw_77 (fun _ _ _ _ h => h) dX8_needsIn_46 rfl o22 ?_
        refine z_iload C (pc := 49) dX8_needsIn_49 4 rfl ?_
        obtain ⟨a23, e24, o25, h⟩ := h
        refine z_Vq C (pc := 51) (KX := fun _ _ => False) (kc' := (B + 0)) (ks' := (B2 + 0)) (As := [.int w4]) (rest := [va_rf (some f0), va_rf (some f3)]) e24 (c_Jx4a65c_get_915e3 l v S20 a23 w4) mw_Jx4a65c_get_915e3 bw_196 bw_197 bw_198 ⟨by have h9 : rm_Jx4a65c_get_915e3.cells = 0 := rfl; omega, by omega, by have h9 : rm_Jx4a65c_get_915e3.slots = 0 := rfl; omega, by omega, by decide, by decide⟩ rfl rfl (Nat.le_of_ble_eq_true rfl) (by decide) rfl o25 dX8_needsIn_51 h (fun r27 S26 h => ?_) (fun En S9 h => h.elim)
        obtain ⟨k28, h⟩ := h
        refine z_cast C (pc := 54) (κ := 4) (by decide) rfl bw_306 dX8_needsIn_54 k28 ?_
        obtain ⟨o29, h⟩ := h
        refine z_Vq C (pc := 57) (KX := fun _ _ => False) (kc' := (B + 1)) (ks' := (B2 + 5)) (As := [va_rf r27]) (rest := [va_rf (some f3)]) rfl (c_X8_needOf l v S26 f0 r27) mw_X8_needOf bw_307 bw_309 bw_p9 ⟨by have h9 : rm_X8_needOf.cells = 1 := rfl; omega, by omega, by have h9 : rm_X8_needOf.slots = 5 := rfl; omega, by omega, by decide, by decide⟩ rfl rfl (Nat.le_of_ble_eq_true rfl) (by decide) rfl o29 dX8_needsIn_57 h (fun r31 S30 h => ?_) (fun En S9 h => h.elim)
        obtain ⟨o32, h⟩ := h
        refine z_Vi C (pc := 60) (KX := fun _ _ => False) (kc' := (B + 2)) (ks' := (B2 + 69)) (As := [va_rf r31]) (rest := []) rfl (c_Jx4a65c_add_9ea2d l v S30 f3 r31) mw_Jx4a65c_add_9ea2d bw_419 bw_420 bw_421 ⟨by have h9 : rm_Jx4a65c_add_9ea2d.cells = 1 := rfl; omega, by omega, by have h9 : rm_Jx4a65c_add_9ea2d.slots = 64 := rfl; omega, by omega, by decide, by decide⟩ rfl rfl (Nat.le_of_ble_eq_true rfl) (by decide) rfl o32 dX8_needsIn_60 h (fun r34 S33 h => ?_) (fun En S9 h => h.elim)
        refine z_pop C (pc := 63) dX8_needsIn_63 rfl ?_
        refine z_iinc C (pc := 64) (y := w4 + (1 : Int32)) (lv' := [(4, .int (w4 + (1 : Int32))), (0, va_rf (some f0)), (1, .int f1), (2, .int f2), (3, va_rf (some f3))]) dX8_needsIn_64 4 rfl rfl (by decide) rfl ?_
        refine z_goto C (pc := 67) (tgt := 11) dX8_needsIn_67 (by decide) ?_
        refine z_sub [1, 2, 3, 4, 0] (lv' := [(0, va_rf (some f0)), (1, .int f1), (2, .int f2), (3, va_rf (some f3)), (4, .int (w4 + (1 : Int32)))]) rfl ?_
        refine z_wide (kc' := 43 - n * 2) (ks' := 1452 - n * 69) (by omega) (by omega) ?_
        exact ih S33 (w4 + (1 : Int32)) (by omega) h
set_option maxHeartbeats 4000000 in
set_option maxRecDepth 100000 in
theorem c_X8_needsIn (l : Launch) (v : Ev) (S : Hp) (x0 : Nat) (x1 : Int32) (x2 : Int32) : CQ l v yX8_needsIn cX8_needsIn 5 (some (.object "java/util/ArrayList")) rm_X8_needsIn [va_rf (some x0), .int x1, .int x2] S (fun Q _ => wp_X8_needsIn S x0 x1 x2 Q) := by
  intro Q EQ h
  refine z_start [(0, va_rf (some x0)), (1, .int x1), (2, .int x2)] (by decide +kernel) (by simp only [la_i, la_r, la_n]) (cat_cr (cat_ci (cat_ci cat_nil))) (by simp only [ls_i, ls_r, ls_n]; decide) (fun z C N T => ?_)
  unfold wp_X8_needsIn at h
  refine z_new C (pc := 0) (kc' := 1) (ks' := 3) kf10 bw_34 bw_35 bw_4 dX8_needsIn_0 (by decide) (by decide) (by decide) (by decide) h (fun a1 S2 h => ?_)
  refine z_dup C (pc := 3) dX8_needsIn_3 (cat_rf _) ?_
  refine z_I C (pc := 4) (KX := fun _ _ => False) (kc' := 1) (ks' := 3) (As := []) (rest := [va_rf (some a1)]) (c_Jx4a65c_init_da8c8 l v S2 a1) mw_Jx4a65c_init_da8c8 bw_36 bw_37 rfl (fit_of rfl) rfl rfl (Nat.le_of_ble_eq_true rfl) dX8_needsIn_4 h (fun S3 h => ?_) (fun En S9 h => h.elim)
  refine z_astore_n C (pc := 7) (lv' := [(3, va_rf (some a1)), (0, va_rf (some x0)), (1, .int x1), (2, .int x2)]) dX8_needsIn_7 (by decide) rfl ?_
  refine z_iconst C (pc := 8) (x := (0 : Int32)) dX8_needsIn_8 kic_0 ?_
  refine z_istore C (pc := 9) (lv' := [(4, .int (0 : Int32)), (3, va_rf (some a1)), (0, va_rf (some x0)), (1, .int x1), (2, .int x2)]) dX8_needsIn_9 (by decide) rfl ?_
  obtain ⟨n35, hn9, h⟩ := h
  refine z_wide (kc' := 43 - n35 * 2) (ks' := 1452 - n35 * 69) (by omega) (by omega) ?_
  refine z_sub [2, 3, 4, 1, 0] (lv' := [(0, va_rf (some x0)), (1, .int x1), (2, .int x2), (3, va_rf (some a1)), (4, .int (0 : Int32))]) rfl ?_
  exact l_X8_needsIn_L11 l v x0 x1 x2 a1 Q C N T n35 S3 (0 : Int32) hn9 h
def wp_X8_canShare_0 (S : Hp) (x0 : Option Nat) (x1 : Int32) (x2 : Int32) (Q : Int32 → Hp → Prop) : Prop := False
def rm_X8_canShare_0 : Room := { frames := 0, cells := 0, slots := 0, locals := 0 }
theorem c_X8_canShare_0 (l : Launch) (v : Ev) (S : Hp) (x0 : Option Nat) (x1 : Int32) (x2 : Int32) : CI l v yX8_canShare cX8_canShare 8 (some .boolean) rm_X8_canShare_0 [va_rf x0, .int x1, .int x2] S (fun Q _ => wp_X8_canShare_0 S x0 x1 x2 Q) := fun _ _ h => h.elim
def wp_X8_canShare_1_L57 (f0 : Option Nat) (f1 : Int32) (f2 : Int32) (f3 : Option Nat) (f4 : Int32) (f5 : Int32) (Q : Int32 → Hp → Prop) : Nat → Hp → Int32 → Int32 → Prop
  | 0, _, _, _ => False
  | n + 1, S, w6, w7 => if f5 ≤ w7 then (bz (0 : Int32) (Q (0 : Int32) S)) else (wp_J6_bitCount_0f7a4 S w6 (fun r25 S24 => rd S24 6 f3 (fun a26 => if r25 = (g_I S24 604 a26) then (rd S24 6 f3 (fun a30 => wp_X6_verdict S24 a30 w6 (fun r34 S33 => if r34 = 0 then (wp_X8_canShare_0 S33 f0 (f1 + (1 : Int32)) (f2 &&& (w6 ^^^ (-1 : Int32))) (fun r37 S36 => if r37 = 0 then (lt ((w6 - f4) &&& f4) (fun y38 => wp_X8_canShare_1_L57 f0 f1 f2 f3 f4 f5 Q n S36 y38 (w7 + (1 : Int32)))) else (bz (1 : Int32) (Q (1 : Int32) S36)))) else (lt ((w6 - f4) &&& f4) (fun y35 => wp_X8_canShare_1_L57 f0 f1 f2 f3 f4 f5 Q n S33 y35 (w7 + (1 : Int32))))))) else (lt ((w6 - f4) &&& f4) (fun y29 => wp_X8_canShare_1_L57 f0 f1 f2 f3 f4 f5 Q n S24 y29 (w7 + (1 : Int32)))))))
def wp_X8_canShare_1 (S : Hp) (x0 : Option Nat) (x1 : Int32) (x2 : Int32) (Q : Int32 → Hp → Prop) : Prop :=
  if x1 < 0 then (bz (1 : Int32) (Q (1 : Int32) S)) else (rd S 10 x0 (fun a1 => wp_Jx4a65c_size_8abf5 S a1 (fun r5 S4 => if x1 < r5 then (rd S4 10 x0 (fun a6 => wp_Jx4a65c_get_915e3 S4 a6 x1 (fun r10 S9 => (∀ a, r10 = some a → okA S9 6 a) ∧ (rd S9 6 r10 (fun a12 => lt (x2 &&& (g_I S9 602 a12)) (fun y15 => rd S9 6 r10 (fun a16 => wp_X6_verdict S9 a16 y15 (fun r20 S19 => if r20 = 0 then (wp_J6_bitCount_0f7a4 S19 y15 (fun r22 S21 => lt ((1 : Int32) <<< (r22 &&& 31)) (fun y23 => ∃ n39, wp_X8_canShare_1_L57 x0 x1 x2 r10 y15 y23 Q n39 S21 (0 : Int32) (0 : Int32)))) else (bz (0 : Int32) (Q (0 : Int32) S19)))))))))) else (bz (1 : Int32) (Q (1 : Int32) S4)))))
def rm_X8_canShare_1 : Room := { frames := 3, cells := 0, slots := 0, locals := 64 }
set_option maxHeartbeats 4000000 in
set_option maxRecDepth 100000 in
theorem l_X8_canShare_1_L57 (l : Launch) (v : Ev) (f0 : Option Nat) (f1 : Int32) (f2 : Int32) (f3 : Option Nat) (f4 : Int32) (f5 : Int32) (Q : Int32 → Hp → Prop) {EQ : String → Hp → Prop} {z : Z9} (C : Cx l v RX8 cX8_canShare 8 (some .boolean) "canShare" z) (N : NT z) (T : EE v rm_X8_canShare_1 (QI v Q) EQ z) : ∀ (n : Nat) (S : Hp) (w6 : Int32) (w7 : Int32), wp_X8_canShare_1_L57 f0 f1 f2 f3 f4 f5 Q n S w6 w7 → ZZ l v 8 rm_X8_canShare_1 z 0 0 S 57 [(0, va_rf f0), (1, .int f1), (2, .int f2), (3, va_rf f3), (4, .int f4), (5, .int f5), (6, .int w6), (7, .int w7)] [] := by
  intro n
  induction n with
  | zero =>
    intro S w6 w7 h
    exact h.elim
  | succ n ih =>
    intro S w6 w7 h
    unfold wp_X8_canShare_1_L57 at h
    refine z_iload C (pc := 57) dX8_canShare_57 7 rfl ?_
    refine z_iload C (pc := 59) dX8_canShare_59 5 rfl ?_
    refine z_icmp_ge C (pc := 61) (tgt := 119) dX8_canShare_61 (by decide) h (fun h => ?_) (fun h => ?_)
    · refine z_iconst C (pc := 119) (x := (0 : Int32)) dX8_canShare_119 kic_0 ?_
      exact z_zret C (pc := 120) T dX8_canShare_120 (by decide) (by decide) h
    · refine z_iload C (pc := 64) dX8_canShare_64 6 rfl ?_
      refine z_Si C (pc := 66) (KX := fun _ _ => False) (kc' := 0) (ks' := 0) (As := [.int w6]) (rest := []) (c_J6_bitCount_0f7a4 l v S w6) mw_J6_bitCount_0f7a4 bw_613 bw_359 (fit_of rfl) rfl rfl (Nat.le_of_ble_eq_true rfl) dX8_canShare_66 h (fun r25 S24 h => ?_) (fun En S9 h => h.elim)
      refine z_aload_n C (pc := 69) dX8_canShare_69 3 rfl ?_
      obtain ⟨a26, e27, o28, h⟩ := h
      refine z_getI C (pc := 70) kf6 4 (by decide) rfl bw_342 (fun _ _ _ _ h => h) dX8_canShare_70 e27 o28 ?_
      refine z_icmp_ne C (pc := 73) (tgt := 103) dX8_canShare_73 (by decide) h (fun h => ?_) (fun h => ?_)
      · refine z_iload C (pc := 103) dX8_canShare_103 6 rfl ?_
        refine z_iload C (pc := 105) dX8_canShare_105 4 rfl ?_
        refine z_isub C (pc := 107) dX8_canShare_107 ?_
        refine z_iload C (pc := 108) dX8_canShare_108 4 rfl ?_
        refine z_iand C (pc := 110) dX8_canShare_110 ?_
        refine z_nI h (fun y29 h => ?_)
        refine z_istore C (pc := 111) (lv' := [(6, .int y29), (0, va_rf f0), (1, .int f1), (2, .int f2), (3, va_rf f3), (4, .int f4), (5, .int f5), (7, .int w7)]) dX8_canShare_111 (by decide) rfl ?_
        refine z_iinc C (pc := 113) (y := w7 + (1 : Int32)) (lv' := [(7, .int (w7 + (1 : Int32))), (6, .int y29), (0, va_rf f0), (1, .int f1), (2, .int f2), (3, va_rf f3), (4, .int f4), (5, .int f5)]) dX8_canShare_113 7 rfl rfl (by decide) rfl ?_
        refine z_goto C (pc := 116) (tgt := 57) dX8_canShare_116 (by decide) ?_
        refine z_sub [2, 3, 4, 5, 6, 7, 1, 0] (lv' := [(0, va_rf f0), (1, .int f1), (2, .int f2), (3, va_rf f3), (4, .int f4), (5, .int f5), (6, .int y29), (7, .int (w7 + (1 : Int32)))]) rfl ?_
        exact ih S24 y29 (w7 + (1 : Int32)) h
      · refine z_aload_n C (pc := 76) dX8_canShare_76 3 rfl ?_
        refine z_iload C (pc := 77) dX8_canShare_77 6 rfl ?_
        obtain ⟨a30, e31, o32, h⟩ := h
        refine z_Vi C (pc := 79) (KX := fun _ _ => False) (kc' := 0) (ks' := 0) (As := [.int w6]) (rest := []) e31 (c_X6_verdict l v S24 a30 w6) mw_X6_verdict bw_354 bw_355 bw_356 (fit_of rfl) rfl rfl (Nat.le_of_ble_eq_true rfl) (by decide) rfl o32 dX8_canShare_79 h (fun r34 S33 h => ?_) (fun En S9 h => h.elim)
        refine z_if_ne C (pc := 82) (tgt := 103) dX8_canShare_82 (by decide) h (fun h => ?_) (fun h => ?_)
        · refine z_iload C (pc := 103) dX8_canShare_103 6 rfl ?_
          refine z_iload C (pc := 105) dX8_canShare_105 4 rfl ?_
          refine z_isub C (pc := 107) dX8_canShare_107 ?_
          refine z_iload C (pc := 108) dX8_canShare_108 4 rfl ?_
          refine z_iand C (pc := 110) dX8_canShare_110 ?_
          refine z_nI h (fun y35 h => ?_)
          refine z_istore C (pc := 111) (lv' := [(6, .int y35), (0, va_rf f0), (1, .int f1), (2, .int f2), (3, va_rf f3), (4, .int f4), (5, .int f5), (7, .int w7)]) dX8_canShare_111 (by decide) rfl ?_
          refine z_iinc C (pc := 113) (y := w7 + (1 : Int32)) (lv' := [(7, .int (w7 + (1 : Int32))), (6, .int y35), (0, va_rf f0), (1, .int f1), (2, .int f2), (3, va_rf f3), (4, .int f4), (5, .int f5)]) dX8_canShare_113 7 rfl rfl (by decide) rfl ?_
          refine z_goto C (pc := 116) (tgt := 57) dX8_canShare_116 (by decide) ?_
          refine z_sub [2, 3, 4, 5, 6, 7, 1, 0] (lv' := [(0, va_rf f0), (1, .int f1), (2, .int f2), (3, va_rf f3), (4, .int f4), (5, .int f5), (6, .int y35), (7, .int (w7 + (1 : Int32)))]) rfl ?_
          exact ih S33 y35 (w7 + (1 : Int32)) h
        · refine z_aload_n C (pc := 85) dX8_canShare_85 0 rfl ?_
          refine z_iload_n C (pc := 86) dX8_canShare_86 1 rfl ?_
          refine z_iconst C (pc := 87) (x := (1 : Int32)) dX8_canShare_87 kic_1 ?_
          refine z_iadd C (pc := 88) dX8_canShare_88 ?_
          refine z_iload_n C (pc := 89) dX8_canShare_89 2 rfl ?_
          refine z_iload C (pc := 90) dX8_canShare_90 6 rfl ?_
          refine z_iconst C (pc := 92) (x := (-1 : Int32)) dX8_canShare_92 kic_m1 ?_
          refine z_ixor C (pc := 93) dX8_canShare_93 ?_
          refine z_iand C (pc := 94) dX8_canShare_94 ?_
          refine z_Si C (pc := 95) (KX := fun _ _ => False) (kc' := 0) (ks' := 0) (As := [va_rf f0, .int (f1 + (1 : Int32)), .int (f2 &&& (w6 ^^^ (-1 : Int32)))]) (rest := []) (c_X8_canShare_0 l v S33 f0 (f1 + (1 : Int32)) (f2 &&& (w6 ^^^ (-1 : Int32)))) mw_X8_canShare bw_757 bw_758 (fit_of rfl) rfl rfl (Nat.le_of_ble_eq_true rfl) dX8_canShare_95 h (fun r37 S36 h => ?_) (fun En S9 h => h.elim)
          refine z_if_eq C (pc := 98) (tgt := 103) dX8_canShare_98 (by decide) h (fun h => ?_) (fun h => ?_)
          · refine z_iload C (pc := 103) dX8_canShare_103 6 rfl ?_
            refine z_iload C (pc := 105) dX8_canShare_105 4 rfl ?_
            refine z_isub C (pc := 107) dX8_canShare_107 ?_
            refine z_iload C (pc := 108) dX8_canShare_108 4 rfl ?_
            refine z_iand C (pc := 110) dX8_canShare_110 ?_
            refine z_nI h (fun y38 h => ?_)
            refine z_istore C (pc := 111) (lv' := [(6, .int y38), (0, va_rf f0), (1, .int f1), (2, .int f2), (3, va_rf f3), (4, .int f4), (5, .int f5), (7, .int w7)]) dX8_canShare_111 (by decide) rfl ?_
            refine z_iinc C (pc := 113) (y := w7 + (1 : Int32)) (lv' := [(7, .int (w7 + (1 : Int32))), (6, .int y38), (0, va_rf f0), (1, .int f1), (2, .int f2), (3, va_rf f3), (4, .int f4), (5, .int f5)]) dX8_canShare_113 7 rfl rfl (by decide) rfl ?_
            refine z_goto C (pc := 116) (tgt := 57) dX8_canShare_116 (by decide) ?_
            refine z_sub [2, 3, 4, 5, 6, 7, 1, 0] (lv' := [(0, va_rf f0), (1, .int f1), (2, .int f2), (3, va_rf f3), (4, .int f4), (5, .int f5), (6, .int y38), (7, .int (w7 + (1 : Int32)))]) rfl ?_
            exact ih S36 y38 (w7 + (1 : Int32)) h
          · refine z_iconst C (pc := 101) (x := (1 : Int32)) dX8_canShare_101 kic_1 ?_
            exact z_zret C (pc := 102) T dX8_canShare_102 (by decide) (by decide) h
set_option maxHeartbeats 4000000 in
set_option maxRecDepth 100000 in
theorem c_X8_canShare_1 (l : Launch) (v : Ev) (S : Hp) (x0 : Option Nat) (x1 : Int32) (x2 : Int32) : CI l v yX8_canShare cX8_canShare 8 (some .boolean) rm_X8_canShare_1 [va_rf x0, .int x1, .int x2] S (fun Q _ => wp_X8_canShare_1 S x0 x1 x2 Q) := by
  intro Q EQ h
  refine z_start [(0, va_rf x0), (1, .int x1), (2, .int x2)] (by decide +kernel) (by simp only [la_i, la_r, la_n]) (cat_cr (cat_ci (cat_ci cat_nil))) (by simp only [ls_i, ls_r, ls_n]; decide) (fun z C N T => ?_)
  unfold wp_X8_canShare_1 at h
  refine z_iload_n C (pc := 0) dX8_canShare_0 1 rfl ?_
  refine z_if_lt C (pc := 1) (tgt := 12) dX8_canShare_1 (by decide) h (fun h => ?_) (fun h => ?_)
  · refine z_iconst C (pc := 12) (x := (1 : Int32)) dX8_canShare_12 kic_1 ?_
    exact z_zret C (pc := 13) T dX8_canShare_13 (by decide) (by decide) h
  · refine z_iload_n C (pc := 4) dX8_canShare_4 1 rfl ?_
    refine z_aload_n C (pc := 5) dX8_canShare_5 0 rfl ?_
    obtain ⟨a1, e2, o3, h⟩ := h
    refine z_Vi C (pc := 6) (KX := fun _ _ => False) (kc' := 0) (ks' := 0) (As := []) (rest := [.int x1]) e2 (c_Jx4a65c_size_8abf5 l v S a1) mw_Jx4a65c_size_8abf5 bw_121 bw_122 bw_123 (fit_of rfl) rfl rfl (Nat.le_of_ble_eq_true rfl) (by decide) rfl o3 dX8_canShare_6 h (fun r5 S4 h => ?_) (fun En S9 h => h.elim)
    refine z_icmp_lt C (pc := 9) (tgt := 14) dX8_canShare_9 (by decide) h (fun h => ?_) (fun h => ?_)
    · refine z_aload_n C (pc := 14) dX8_canShare_14 0 rfl ?_
      refine z_iload_n C (pc := 15) dX8_canShare_15 1 rfl ?_
      obtain ⟨a6, e7, o8, h⟩ := h
      refine z_Vq C (pc := 16) (KX := fun _ _ => False) (kc' := 0) (ks' := 0) (As := [.int x1]) (rest := []) e7 (c_Jx4a65c_get_915e3 l v S4 a6 x1) mw_Jx4a65c_get_915e3 bw_196 bw_197 bw_198 (fit_of rfl) rfl rfl (Nat.le_of_ble_eq_true rfl) (by decide) rfl o8 dX8_canShare_16 h (fun r10 S9 h => ?_) (fun En S9 h => h.elim)
      obtain ⟨k11, h⟩ := h
      refine z_cast C (pc := 19) (κ := 6) (by decide) rfl bw_324 dX8_canShare_19 k11 ?_
      refine z_astore_n C (pc := 22) (lv' := [(3, va_rf r10), (0, va_rf x0), (1, .int x1), (2, .int x2)]) dX8_canShare_22 (by decide) rfl ?_
      refine z_iload_n C (pc := 23) dX8_canShare_23 3 rfl ?_
      refine z_aload_n C (pc := 24) dX8_canShare_24 0 rfl ?_
      obtain ⟨a12, e13, o14, h⟩ := h
      refine z_getI C (pc := 25) kf6 2 (by decide) rfl bw_339 (fun _ _ _ _ h => h) dX8_canShare_25 e13 o14 ?_
      refine z_iand C (pc := 28) dX8_canShare_28 ?_
      refine z_nI h (fun y15 h => ?_)
      refine z_istore C (pc := 29) (lv' := [(4, .int y15), (3, va_rf r10), (0, va_rf x0), (1, .int x1), (2, .int x2)]) dX8_canShare_29 (by decide) rfl ?_
      refine z_aload_n C (pc := 31) dX8_canShare_31 1 rfl ?_
      refine z_iload C (pc := 32) dX8_canShare_32 0 rfl ?_
      obtain ⟨a16, e17, o18, h⟩ := h
      refine z_Vi C (pc := 34) (KX := fun _ _ => False) (kc' := 0) (ks' := 0) (As := [.int y15]) (rest := []) e17 (c_X6_verdict l v S9 a16 y15) mw_X6_verdict bw_354 bw_355 bw_356 (fit_of rfl) rfl rfl (Nat.le_of_ble_eq_true rfl) (by decide) rfl o18 dX8_canShare_34 h (fun r20 S19 h => ?_) (fun En S9 h => h.elim)
      refine z_if_eq C (pc := 37) (tgt := 42) dX8_canShare_37 (by decide) h (fun h => ?_) (fun h => ?_)
      · refine z_iconst C (pc := 42) (x := (1 : Int32)) dX8_canShare_42 kic_1 ?_
        refine z_iload C (pc := 43) dX8_canShare_43 0 rfl ?_
        refine z_Si C (pc := 45) (KX := fun _ _ => False) (kc' := 0) (ks' := 0) (As := [.int y15]) (rest := [.int (1 : Int32)]) (c_J6_bitCount_0f7a4 l v S19 y15) mw_J6_bitCount_0f7a4 bw_613 bw_359 (fit_of rfl) rfl rfl (Nat.le_of_ble_eq_true rfl) dX8_canShare_45 h (fun r22 S21 h => ?_) (fun En S9 h => h.elim)
        refine z_ishl C (pc := 48) dX8_canShare_48 ?_
        refine z_nI h (fun y23 h => ?_)
        refine z_istore C (pc := 49) (lv' := [(5, .int y23), (4, .int y15), (3, va_rf r10), (0, va_rf x0), (1, .int x1), (2, .int x2)]) dX8_canShare_49 (by decide) rfl ?_
        refine z_iconst C (pc := 51) (x := (0 : Int32)) dX8_canShare_51 kic_0 ?_
        refine z_istore C (pc := 52) (lv' := [(6, .int (0 : Int32)), (5, .int y23), (4, .int y15), (3, va_rf r10), (0, va_rf x0), (1, .int x1), (2, .int x2)]) dX8_canShare_52 (by decide) rfl ?_
        refine z_iconst C (pc := 54) (x := (0 : Int32)) dX8_canShare_54 kic_0 ?_
        refine z_istore C (pc := 55) (lv' := [(7, .int (0 : Int32)), (6, .int (0 : Int32)), (5, .int y23), (4, .int y15), (3, va_rf r10), (0, va_rf x0), (1, .int x1), (2, .int x2)]) dX8_canShare_55 (by decide) rfl ?_
        obtain ⟨n39, h⟩ := h
        refine z_sub [5, 6, 7, 4, 3, 2, 1, 0] (lv' := [(0, va_rf x0), (1, .int x1), (2, .int x2), (3, va_rf r10), (4, .int y15), (5, .int y23), (6, .int (0 : Int32)), (7, .int (0 : Int32))]) rfl ?_
        exact l_X8_canShare_1_L57 l v x0 x1 x2 r10 y15 y23 Q C N T n39 S21 (0 : Int32) (0 : Int32) h
      · refine z_iconst C (pc := 40) (x := (0 : Int32)) dX8_canShare_40 kic_0 ?_
        exact z_zret C (pc := 41) T dX8_canShare_41 (by decide) (by decide) h
    · refine z_iconst C (pc := 12) (x := (1 : Int32)) dX8_canShare_12 kic_1 ?_
      exact z_zret C (pc := 13) T dX8_canShare_13 (by decide) (by decide) h
def wp_X8_canShare_2_L57 (f0 : Option Nat) (f1 : Int32) (f2 : Int32) (f3 : Option Nat) (f4 : Int32) (f5 : Int32) (Q : Int32 → Hp → Prop) : Nat → Hp → Int32 → Int32 → Prop
  | 0, _, _, _ => False
  | n + 1, S, w6, w7 => if f5 ≤ w7 then (bz (0 : Int32) (Q (0 : Int32) S)) else (wp_J6_bitCount_0f7a4 S w6 (fun r25 S24 => rd S24 6 f3 (fun a26 => if r25 = (g_I S24 604 a26) then (rd S24 6 f3 (fun a30 => wp_X6_verdict S24 a30 w6 (fun r34 S33 => if r34 = 0 then (wp_X8_canShare_1 S33 f0 (f1 + (1 : Int32)) (f2 &&& (w6 ^^^ (-1 : Int32))) (fun r37 S36 => if r37 = 0 then (lt ((w6 - f4) &&& f4) (fun y38 => wp_X8_canShare_2_L57 f0 f1 f2 f3 f4 f5 Q n S36 y38 (w7 + (1 : Int32)))) else (bz (1 : Int32) (Q (1 : Int32) S36)))) else (lt ((w6 - f4) &&& f4) (fun y35 => wp_X8_canShare_2_L57 f0 f1 f2 f3 f4 f5 Q n S33 y35 (w7 + (1 : Int32))))))) else (lt ((w6 - f4) &&& f4) (fun y29 => wp_X8_canShare_2_L57 f0 f1 f2 f3 f4 f5 Q n S24 y29 (w7 + (1 : Int32)))))))
def wp_X8_canShare_2 (S : Hp) (x0 : Option Nat) (x1 : Int32) (x2 : Int32) (Q : Int32 → Hp → Prop) : Prop :=
  if x1 < 0 then (bz (1 : Int32) (Q (1 : Int32) S)) else (rd S 10 x0 (fun a1 => wp_Jx4a65c_size_8abf5 S a1 (fun r5 S4 => if x1 < r5 then (rd S4 10 x0 (fun a6 => wp_Jx4a65c_get_915e3 S4 a6 x1 (fun r10 S9 => (∀ a, r10 = some a → okA S9 6 a) ∧ (rd S9 6 r10 (fun a12 => lt (x2 &&& (g_I S9 602 a12)) (fun y15 => rd S9 6 r10 (fun a16 => wp_X6_verdict S9 a16 y15 (fun r20 S19 => if r20 = 0 then (wp_J6_bitCount_0f7a4 S19 y15 (fun r22 S21 => lt ((1 : Int32) <<< (r22 &&& 31)) (fun y23 => ∃ n39, wp_X8_canShare_2_L57 x0 x1 x2 r10 y15 y23 Q n39 S21 (0 : Int32) (0 : Int32)))) else (bz (0 : Int32) (Q (0 : Int32) S19)))))))))) else (bz (1 : Int32) (Q (1 : Int32) S4)))))
def rm_X8_canShare_2 : Room := { frames := 4, cells := 0, slots := 0, locals := 91 }
set_option maxHeartbeats 4000000 in
set_option maxRecDepth 100000 in
theorem l_X8_canShare_2_L57 (l : Launch) (v : Ev) (f0 : Option Nat) (f1 : Int32) (f2 : Int32) (f3 : Option Nat) (f4 : Int32) (f5 : Int32) (Q : Int32 → Hp → Prop) {EQ : String → Hp → Prop} {z : Z9} (C : Cx l v RX8 cX8_canShare 8 (some .boolean) "canShare" z) (N : NT z) (T : EE v rm_X8_canShare_2 (QI v Q) EQ z) : ∀ (n : Nat) (S : Hp) (w6 : Int32) (w7 : Int32), wp_X8_canShare_2_L57 f0 f1 f2 f3 f4 f5 Q n S w6 w7 → ZZ l v 8 rm_X8_canShare_2 z 0 0 S 57 [(0, va_rf f0), (1, .int f1), (2, .int f2), (3, va_rf f3), (4, .int f4), (5, .int f5), (6, .int w6), (7, .int w7)] [] := by
  intro n
  induction n with
  | zero =>
    intro S w6 w7 h
    exact h.elim
  | succ n ih =>
    intro S w6 w7 h
    unfold wp_X8_canShare_2_L57 at h
    refine z_iload C (pc := 57) dX8_canShare_57 7 rfl ?_
    refine z_iload C (pc := 59) dX8_canShare_59 5 rfl ?_
    refine z_icmp_ge C (pc := 61) (tgt := 119) dX8_canShare_61 (by decide) h (fun h => ?_) (fun h => ?_)
    · refine z_iconst C (pc := 119) (x := (0 : Int32)) dX8_canShare_119 kic_0 ?_
      exact z_zret C (pc := 120) T dX8_canShare_120 (by decide) (by decide) h
    · refine z_iload C (pc := 64) dX8_canShare_64 6 rfl ?_
      refine z_Si C (pc := 66) (KX := fun _ _ => False) (kc' := 0) (ks' := 0) (As := [.int w6]) (rest := []) (c_J6_bitCount_0f7a4 l v S w6) mw_J6_bitCount_0f7a4 bw_613 bw_359 (fit_of rfl) rfl rfl (Nat.le_of_ble_eq_true rfl) dX8_canShare_66 h (fun r25 S24 h => ?_) (fun En S9 h => h.elim)
      refine z_aload_n C (pc := 69) dX8_canShare_69 3 rfl ?_
      obtain ⟨a26, e27, o28, h⟩ := h
      refine z_getI C (pc := 70) kf6 4 (by decide) rfl bw_342 (fun _ _ _ _ h => h) dX8_canShare_70 e27 o28 ?_
      refine z_icmp_ne C (pc := 73) (tgt := 103) dX8_canShare_73 (by decide) h (fun h => ?_) (fun h => ?_)
      · refine z_iload C (pc := 103) dX8_canShare_103 6 rfl ?_
        refine z_iload C (pc := 105) dX8_canShare_105 4 rfl ?_
        refine z_isub C (pc := 107) dX8_canShare_107 ?_
        refine z_iload C (pc := 108) dX8_canShare_108 4 rfl ?_
        refine z_iand C (pc := 110) dX8_canShare_110 ?_
        refine z_nI h (fun y29 h => ?_)
        refine z_istore C (pc := 111) (lv' := [(6, .int y29), (0, va_rf f0), (1, .int f1), (2, .int f2), (3, va_rf f3), (4, .int f4), (5, .int f5), (7, .int w7)]) dX8_canShare_111 (by decide) rfl ?_
        refine z_iinc C (pc := 113) (y := w7 + (1 : Int32)) (lv' := [(7, .int (w7 + (1 : Int32))), (6, .int y29), (0, va_rf f0), (1, .int f1), (2, .int f2), (3, va_rf f3), (4, .int f4), (5, .int f5)]) dX8_canShare_113 7 rfl rfl (by decide) rfl ?_
        refine z_goto C (pc := 116) (tgt := 57) dX8_canShare_116 (by decide) ?_
        refine z_sub [2, 3, 4, 5, 6, 7, 1, 0] (lv' := [(0, va_rf f0), (1, .int f1), (2, .int f2), (3, va_rf f3), (4, .int f4), (5, .int f5), (6, .int y29), (7, .int (w7 + (1 : Int32)))]) rfl ?_
        exact ih S24 y29 (w7 + (1 : Int32)) h
      · refine z_aload_n C (pc := 76) dX8_canShare_76 3 rfl ?_
        refine z_iload C (pc := 77) dX8_canShare_77 6 rfl ?_
        obtain ⟨a30, e31, o32, h⟩ := h
        refine z_Vi C (pc := 79) (KX := fun _ _ => False) (kc' := 0) (ks' := 0) (As := [.int w6]) (rest := []) e31 (c_X6_verdict l v S24 a30 w6) mw_X6_verdict bw_354 bw_355 bw_356 (fit_of rfl) rfl rfl (Nat.le_of_ble_eq_true rfl) (by decide) rfl o32 dX8_canShare_79 h (fun r34 S33 h => ?_) (fun En S9 h => h.elim)
        refine z_if_ne C (pc := 82) (tgt := 103) dX8_canShare_82 (by decide) h (fun h => ?_) (fun h => ?_)
        · refine z_iload C (pc := 103) dX8_canShare_103 6 rfl ?_
          refine z_iload C (pc := 105) dX8_canShare_105 4 rfl ?_
          refine z_isub C (pc := 107) dX8_canShare_107 ?_
          refine z_iload C (pc := 108) dX8_canShare_108 4 rfl ?_
          refine z_iand C (pc := 110) dX8_canShare_110 ?_
          refine z_nI h (fun y35 h => ?_)
          refine z_istore C (pc := 111) (lv' := [(6, .int y35), (0, va_rf f0), (1, .int f1), (2, .int f2), (3, va_rf f3), (4, .int f4), (5, .int f5), (7, .int w7)]) dX8_canShare_111 (by decide) rfl ?_
          refine z_iinc C (pc := 113) (y := w7 + (1 : Int32)) (lv' := [(7, .int (w7 + (1 : Int32))), (6, .int y35), (0, va_rf f0), (1, .int f1), (2, .int f2), (3, va_rf f3), (4, .int f4), (5, .int f5)]) dX8_canShare_113 7 rfl rfl (by decide) rfl ?_
          refine z_goto C (pc := 116) (tgt := 57) dX8_canShare_116 (by decide) ?_
          refine z_sub [2, 3, 4, 5, 6, 7, 1, 0] (lv' := [(0, va_rf f0), (1, .int f1), (2, .int f2), (3, va_rf f3), (4, .int f4), (5, .int f5), (6, .int y35), (7, .int (w7 + (1 : Int32)))]) rfl ?_
          exact ih S33 y35 (w7 + (1 : Int32)) h
        · refine z_aload_n C (pc := 85) dX8_canShare_85 0 rfl ?_
          refine z_iload_n C (pc := 86) dX8_canShare_86 1 rfl ?_
          refine z_iconst C (pc := 87) (x := (1 : Int32)) dX8_canShare_87 kic_1 ?_
          refine z_iadd C (pc := 88) dX8_canShare_88 ?_
          refine z_iload_n C (pc := 89) dX8_canShare_89 2 rfl ?_
          refine z_iload C (pc := 90) dX8_canShare_90 6 rfl ?_
          refine z_iconst C (pc := 92) (x := (-1 : Int32)) dX8_canShare_92 kic_m1 ?_
          refine z_ixor C (pc := 93) dX8_canShare_93 ?_
          refine z_iand C (pc := 94) dX8_canShare_94 ?_
          refine z_Si C (pc := 95) (KX := fun _ _ => False) (kc' := 0) (ks' := 0) (As := [va_rf f0, .int (f1 + (1 : Int32)), .int (f2 &&& (w6 ^^^ (-1 : Int32)))]) (rest := []) (c_X8_canShare_1 l v S33 f0 (f1 + (1 : Int32)) (f2 &&& (w6 ^^^ (-1 : Int32)))) mw_X8_canShare bw_757 bw_758 (fit_of rfl) rfl rfl (Nat.le_of_ble_eq_true rfl) dX8_canShare_95 h (fun r37 S36 h => ?_) (fun En S9 h => h.elim)
          refine z_if_eq C (pc := 98) (tgt := 103) dX8_canShare_98 (by decide) h (fun h => ?_) (fun h => ?_)
          · refine z_iload C (pc := 103) dX8_canShare_103 6 rfl ?_
            refine z_iload C (pc := 105) dX8_canShare_105 4 rfl ?_
            refine z_isub C (pc := 107) dX8_canShare_107 ?_
            refine z_iload C (pc := 108) dX8_canShare_108 4 rfl ?_
            refine z_iand C (pc := 110) dX8_canShare_110 ?_
            refine z_nI h (fun y38 h => ?_)
            refine z_istore C (pc := 111) (lv' := [(6, .int y38), (0, va_rf f0), (1, .int f1), (2, .int f2), (3, va_rf f3), (4, .int f4), (5, .int f5), (7, .int w7)]) dX8_canShare_111 (by decide) rfl ?_
            refine z_iinc C (pc := 113) (y := w7 + (1 : Int32)) (lv' := [(7, .int (w7 + (1 : Int32))), (6, .int y38), (0, va_rf f0), (1, .int f1), (2, .int f2), (3, va_rf f3), (4, .int f4), (5, .int f5)]) dX8_canShare_113 7 rfl rfl (by decide) rfl ?_
            refine z_goto C (pc := 116) (tgt := 57) dX8_canShare_116 (by decide) ?_
            refine z_sub [2, 3, 4, 5, 6, 7, 1, 0] (lv' := [(0, va_rf f0), (1, .int f1), (2, .int f2), (3, va_rf f3), (4, .int f4), (5, .int f5), (6, .int y38), (7, .int (w7 + (1 : Int32)))]) rfl ?_
            exact ih S36 y38 (w7 + (1 : Int32)) h
          · refine z_iconst C (pc := 101) (x := (1 : Int32)) dX8_canShare_101 kic_1 ?_
            exact z_zret C (pc := 102) T dX8_canShare_102 (by decide) (by decide) h
set_option maxHeartbeats 4000000 in
set_option maxRecDepth 100000 in
theorem c_X8_canShare_2 (l : Launch) (v : Ev) (S : Hp) (x0 : Option Nat) (x1 : Int32) (x2 : Int32) : CI l v yX8_canShare cX8_canShare 8 (some .boolean) rm_X8_canShare_2 [va_rf x0, .int x1, .int x2] S (fun Q _ => wp_X8_canShare_2 S x0 x1 x2 Q) := by
  intro Q EQ h
  refine z_start [(0, va_rf x0), (1, .int x1), (2, .int x2)] (by decide +kernel) (by simp only [la_i, la_r, la_n]) (cat_cr (cat_ci (cat_ci cat_nil))) (by simp only [ls_i, ls_r, ls_n]; decide) (fun z C N T => ?_)
  unfold wp_X8_canShare_2 at h
  refine z_iload_n C (pc := 0) dX8_canShare_0 1 rfl ?_
  refine z_if_lt C (pc := 1) (tgt := 12) dX8_canShare_1 (by decide) h (fun h => ?_) (fun h => ?_)
  · refine z_iconst C (pc := 12) (x := (1 : Int32)) dX8_canShare_12 kic_1 ?_
    exact z_zret C (pc := 13) T dX8_canShare_13 (by decide) (by decide) h
  · refine z_iload_n C (pc := 4) dX8_canShare_4 1 rfl ?_
    refine z_aload_n C (pc := 5) dX8_canShare_5 0 rfl ?_
    obtain ⟨a1, e2, o3, h⟩ := h
    refine z_Vi C (pc := 6) (KX := fun _ _ => False) (kc' := 0) (ks' := 0) (As := []) (rest := [.int x1]) e2 (c_Jx4a65c_size_8abf5 l v S a1) mw_Jx4a65c_size_8abf5 bw_121 bw_122 bw_123 (fit_of rfl) rfl rfl (Nat.le_of_ble_eq_true rfl) (by decide) rfl o3 dX8_canShare_6 h (fun r5 S4 h => ?_) (fun En S9 h => h.elim)
    refine z_icmp_lt C (pc := 9) (tgt := 14) dX8_canShare_9 (by decide) h (fun h => ?_) (fun h => ?_)
    · refine z_aload_n C (pc := 14) dX8_canShare_14 0 rfl ?_
      refine z_iload_n C (pc := 15) dX8_canShare_15 1 rfl ?_
      obtain ⟨a6, e7, o8, h⟩ := h
      refine z_Vq C (pc := 16) (KX := fun _ _ => False) (kc' := 0) (ks' := 0) (As := [.int x1]) (rest := []) e7 (c_Jx4a65c_get_915e3 l v S4 a6 x1) mw_Jx4a65c_get_915e3 bw_196 bw_197 bw_198 (fit_of rfl) rfl rfl (Nat.le_of_ble_eq_true rfl) (by decide) rfl o8 dX8_canShare_16 h (fun r10 S9 h => ?_) (fun En S9 h => h.elim)
      obtain ⟨k11, h⟩ := h
      refine z_cast C (pc := 19) (κ := 6) (by decide) rfl bw_324 dX8_canShare_19 k11 ?_
      refine z_astore_n C (pc := 22) (lv' := [(3, va_rf r10), (0, va_rf x0), (1, .int x1), (2, .int x2)]) dX8_canShare_22 (by decide) rfl ?_
      refine z_iload_n C (pc := 23) dX8_canShare_23 3 rfl ?_
      refine z_aload_n C (pc := 24) dX8_canShare_24 0 rfl ?_
      obtain ⟨a12, e13, o14, h⟩ := h
      refine z_getI C (pc := 25) kf6 2 (by decide) rfl bw_339 (fun _ _ _ _ h => h) dX8_canShare_25 e13 o14 ?_
      refine z_iand C (pc := 28) dX8_canShare_28 ?_
      refine z_nI h (fun y15 h => ?_)
      refine z_istore C (pc := 29) (lv' := [(4, .int y15), (3, va_rf r10), (0, va_rf x0), (1, .int x1), (2, .int x2)]) dX8_canShare_29 (by decide) rfl ?_
      refine z_aload_n C (pc := 31) dX8_canShare_31 1 rfl ?_
      refine z_iload C (pc := 32) dX8_canShare_32 0 rfl ?_
      obtain ⟨a16, e17, o18, h⟩ := h
      refine z_Vi C (pc := 34) (KX := fun _ _ => False) (kc' := 0) (ks' := 0) (As := [.int y15]) (rest := []) e17 (c_X6_verdict l v S9 a16 y15) mw_X6_verdict bw_354 bw_355 bw_356 (fit_of rfl) rfl rfl (Nat.le_of_ble_eq_true rfl) (by decide) rfl o18 dX8_canShare_34 h (fun r20 S19 h => ?_) (fun En S9 h => h.elim)
      refine z_if_eq C (pc := 37) (tgt := 42) dX8_canShare_37 (by decide) h (fun h => ?_) (fun h => ?_)
      · refine z_iconst C (pc := 42) (x := (1 : Int32)) dX8_canShare_42 kic_1 ?_
        refine z_iload C (pc := 43) dX8_canShare_43 0 rfl ?_
        refine z_Si C (pc := 45) (KX := fun _ _ => False) (kc' := 0) (ks' := 0) (As := [.int y15]) (rest := [.int (1 : Int32)]) (c_J6_bitCount_0f7a4 l v S19 y15) mw_J6_bitCount_0f7a4 bw_613 bw_359 (fit_of rfl) rfl rfl (Nat.le_of_ble_eq_true rfl) dX8_canShare_45 h (fun r22 S21 h => ?_) (fun En S9 h => h.elim)
        refine z_ishl C (pc := 48) dX8_canShare_48 ?_
        refine z_nI h (fun y23 h => ?_)
        refine z_istore C (pc := 49) (lv' := [(5, .int y23), (4, .int y15), (3, va_rf r10), (0, va_rf x0), (1, .int x1), (2, .int x2)]) dX8_canShare_49 (by decide) rfl ?_
        refine z_iconst C (pc := 51) (x := (0 : Int32)) dX8_canShare_51 kic_0 ?_
        refine z_istore C (pc := 52) (lv' := [(6, .int (0 : Int32)), (5, .int y23), (4, .int y15), (3, va_rf r10), (0, va_rf x0), (1, .int x1), (2, .int x2)]) dX8_canShare_52 (by decide) rfl ?_
        refine z_iconst C (pc := 54) (x := (0 : Int32)) dX8_canShare_54 kic_0 ?_
        refine z_istore C (pc := 55) (lv' := [(7, .int (0 : Int32)), (6, .int (0 : Int32)), (5, .int y23), (4, .int y15), (3, va_rf r10), (0, va_rf x0), (1, .int x1), (2, .int x2)]) dX8_canShare_55 (by decide) rfl ?_
        obtain ⟨n39, h⟩ := h
        refine z_sub [5, 6, 7, 4, 3, 2, 1, 0] (lv' := [(0, va_rf x0), (1, .int x1), (2, .int x2), (3, va_rf r10), (4, .int y15), (5, .int y23), (6, .int (0 : Int32)), (7, .int (0 : Int32))]) rfl ?_
        exact l_X8_canShare_2_L57 l v x0 x1 x2 r10 y15 y23 Q C N T n39 S21 (0 : Int32) (0 : Int32) h
      · refine z_iconst C (pc := 40) (x := (0 : Int32)) dX8_canShare_40 kic_0 ?_
        exact z_zret C (pc := 41) T dX8_canShare_41 (by decide) (by decide) h
    · refine z_iconst C (pc := 12) (x := (1 : Int32)) dX8_canShare_12 kic_1 ?_
      exact z_zret C (pc := 13) T dX8_canShare_13 (by decide) (by decide) h
def wp_X8_canShare_3_L57 (f0 : Option Nat) (f1 : Int32) (f2 : Int32) (f3 : Option Nat) (f4 : Int32) (f5 : Int32) (Q : Int32 → Hp → Prop) : Nat → Hp → Int32 → Int32 → Prop
  | 0, _, _, _ => False
  | n + 1, S, w6, w7 => if f5 ≤ w7 then (bz (0 : Int32) (Q (0 : Int32) S)) else (wp_J6_bitCount_0f7a4 S w6 (fun r25 S24 => rd S24 6 f3 (fun a26 => if r25 = (g_I S24 604 a26) then (rd S24 6 f3 (fun a30 => wp_X6_verdict S24 a30 w6 (fun r34 S33 => if r34 = 0 then (wp_X8_canShare_2 S33 f0 (f1 + (1 : Int32)) (f2 &&& (w6 ^^^ (-1 : Int32))) (fun r37 S36 => if r37 = 0 then (lt ((w6 - f4) &&& f4) (fun y38 => wp_X8_canShare_3_L57 f0 f1 f2 f3 f4 f5 Q n S36 y38 (w7 + (1 : Int32)))) else (bz (1 : Int32) (Q (1 : Int32) S36)))) else (lt ((w6 - f4) &&& f4) (fun y35 => wp_X8_canShare_3_L57 f0 f1 f2 f3 f4 f5 Q n S33 y35 (w7 + (1 : Int32))))))) else (lt ((w6 - f4) &&& f4) (fun y29 => wp_X8_canShare_3_L57 f0 f1 f2 f3 f4 f5 Q n S24 y29 (w7 + (1 : Int32)))))))
def wp_X8_canShare_3 (S : Hp) (x0 : Option Nat) (x1 : Int32) (x2 : Int32) (Q : Int32 → Hp → Prop) : Prop :=
  if x1 < 0 then (bz (1 : Int32) (Q (1 : Int32) S)) else (rd S 10 x0 (fun a1 => wp_Jx4a65c_size_8abf5 S a1 (fun r5 S4 => if x1 < r5 then (rd S4 10 x0 (fun a6 => wp_Jx4a65c_get_915e3 S4 a6 x1 (fun r10 S9 => (∀ a, r10 = some a → okA S9 6 a) ∧ (rd S9 6 r10 (fun a12 => lt (x2 &&& (g_I S9 602 a12)) (fun y15 => rd S9 6 r10 (fun a16 => wp_X6_verdict S9 a16 y15 (fun r20 S19 => if r20 = 0 then (wp_J6_bitCount_0f7a4 S19 y15 (fun r22 S21 => lt ((1 : Int32) <<< (r22 &&& 31)) (fun y23 => ∃ n39, wp_X8_canShare_3_L57 x0 x1 x2 r10 y15 y23 Q n39 S21 (0 : Int32) (0 : Int32)))) else (bz (0 : Int32) (Q (0 : Int32) S19)))))))))) else (bz (1 : Int32) (Q (1 : Int32) S4)))))
def rm_X8_canShare_3 : Room := { frames := 5, cells := 0, slots := 0, locals := 118 }
set_option maxHeartbeats 4000000 in
set_option maxRecDepth 100000 in
theorem l_X8_canShare_3_L57 (l : Launch) (v : Ev) (f0 : Option Nat) (f1 : Int32) (f2 : Int32) (f3 : Option Nat) (f4 : Int32) (f5 : Int32) (Q : Int32 → Hp → Prop) {EQ : String → Hp → Prop} {z : Z9} (C : Cx l v RX8 cX8_canShare 8 (some .boolean) "canShare" z) (N : NT z) (T : EE v rm_X8_canShare_3 (QI v Q) EQ z) : ∀ (n : Nat) (S : Hp) (w6 : Int32) (w7 : Int32), wp_X8_canShare_3_L57 f0 f1 f2 f3 f4 f5 Q n S w6 w7 → ZZ l v 8 rm_X8_canShare_3 z 0 0 S 57 [(0, va_rf f0), (1, .int f1), (2, .int f2), (3, va_rf f3), (4, .int f4), (5, .int f5), (6, .int w6), (7, .int w7)] [] := by
  intro n
  induction n with
  | zero =>
    intro S w6 w7 h
    exact h.elim
  | succ n ih =>
    intro S w6 w7 h
    unfold wp_X8_canShare_3_L57 at h
    refine z_iload C (pc := 57) dX8_canShare_57 7 rfl ?_
    refine z_iload C (pc := 59) dX8_canShare_59 5 rfl ?_
    refine z_icmp_ge C (pc := 61) (tgt := 119) dX8_canShare_61 (by decide) h (fun h => ?_) (fun h => ?_)
    · refine z_iconst C (pc := 119) (x := (0 : Int32)) dX8_canShare_119 kic_0 ?_
      exact z_zret C (pc := 120) T dX8_canShare_120 (by decide) (by decide) h
    · refine z_iload C (pc := 64) dX8_canShare_64 6 rfl ?_
      refine z_Si C (pc := 66) (KX := fun _ _ => False) (kc' := 0) (ks' := 0) (As := [.int w6]) (rest := []) (c_J6_bitCount_0f7a4 l v S w6) mw_J6_bitCount_0f7a4 bw_613 bw_359 (fit_of rfl) rfl rfl (Nat.le_of_ble_eq_true rfl) dX8_canShare_66 h (fun r25 S24 h => ?_) (fun En S9 h => h.elim)
      refine z_aload_n C (pc := 69) dX8_canShare_69 3 rfl ?_
      obtain ⟨a26, e27, o28, h⟩ := h
      refine z_getI C (pc := 70) kf6 4 (by decide) rfl bw_342 (fun _ _ _ _ h => h) dX8_canShare_70 e27 o28 ?_
      refine z_icmp_ne C (pc := 73) (tgt := 103) dX8_canShare_73 (by decide) h (fun h => ?_) (fun h => ?_)
      · refine z_iload C (pc := 103) dX8_canShare_103 6 rfl ?_
        refine z_iload C (pc := 105) dX8_canShare_105 4 rfl ?_
        refine z_isub C (pc := 107) dX8_canShare_107 ?_
        refine z_iload C (pc := 108) dX8_canShare_108 4 rfl ?_
        refine z_iand C (pc := 110) dX8_canShare_110 ?_
        refine z_nI h (fun y29 h => ?_)
        refine z_istore C (pc := 111) (lv' := [(6, .int y29), (0, va_rf f0), (1, .int f1), (2, .int f2), (3, va_rf f3), (4, .int f4), (5, .int f5), (7, .int w7)]) dX8_canShare_111 (by decide) rfl ?_
        refine z_iinc C (pc := 113) (y := w7 + (1 : Int32)) (lv' := [(7, .int (w7 + (1 : Int32))), (6, .int y29), (0, va_rf f0), (1, .int f1), (2, .int f2), (3, va_rf f3), (4, .int f4), (5, .int f5)]) dX8_canShare_113 7 rfl rfl (by decide) rfl ?_
        refine z_goto C (pc := 116) (tgt := 57) dX8_canShare_116 (by decide) ?_
        refine z_sub [2, 3, 4, 5, 6, 7, 1, 0] (lv' := [(0, va_rf f0), (1, .int f1), (2, .int f2), (3, va_rf f3), (4, .int f4), (5, .int f5), (6, .int y29), (7, .int (w7 + (1 : Int32)))]) rfl ?_
        exact ih S24 y29 (w7 + (1 : Int32)) h
      · refine z_aload_n C (pc := 76) dX8_canShare_76 3 rfl ?_
        refine z_iload C (pc := 77) dX8_canShare_77 6 rfl ?_
        obtain ⟨a30, e31, o32, h⟩ := h
        refine z_Vi C (pc := 79) (KX := fun _ _ => False) (kc' := 0) (ks' := 0) (As := [.int w6]) (rest := []) e31 (c_X6_verdict l v S24 a30 w6) mw_X6_verdict bw_354 bw_355 bw_356 (fit_of rfl) rfl rfl (Nat.le_of_ble_eq_true rfl) (by decide) rfl o32 dX8_canShare_79 h (fun r34 S33 h => ?_) (fun En S9 h => h.elim)
        refine z_if_ne C (pc := 82) (tgt := 103) dX8_canShare_82 (by decide) h (fun h => ?_) (fun h => ?_)
        · refine z_iload C (pc := 103) dX8_canShare_103 6 rfl ?_
          refine z_iload C (pc := 105) dX8_canShare_105 4 rfl ?_
          refine z_isub C (pc := 107) dX8_canShare_107 ?_
          refine z_iload C (pc := 108) dX8_canShare_108 4 rfl ?_
          refine z_iand C (pc := 110) dX8_canShare_110 ?_
          refine z_nI h (fun y35 h => ?_)
          refine z_istore C (pc := 111) (lv' := [(6, .int y35), (0, va_rf f0), (1, .int f1), (2, .int f2), (3, va_rf f3), (4, .int f4), (5, .int f5), (7, .int w7)]) dX8_canShare_111 (by decide) rfl ?_
          refine z_iinc C (pc := 113) (y := w7 + (1 : Int32)) (lv' := [(7, .int (w7 + (1 : Int32))), (6, .int y35), (0, va_rf f0), (1, .int f1), (2, .int f2), (3, va_rf f3), (4, .int f4), (5, .int f5)]) dX8_canShare_113 7 rfl rfl (by decide) rfl ?_
          refine z_goto C (pc := 116) (tgt := 57) dX8_canShare_116 (by decide) ?_
          refine z_sub [2, 3, 4, 5, 6, 7, 1, 0] (lv' := [(0, va_rf f0), (1, .int f1), (2, .int f2), (3, va_rf f3), (4, .int f4), (5, .int f5), (6, .int y35), (7, .int (w7 + (1 : Int32)))]) rfl ?_
          exact ih S33 y35 (w7 + (1 : Int32)) h
        · refine z_aload_n C (pc := 85) dX8_canShare_85 0 rfl ?_
          refine z_iload_n C (pc := 86) dX8_canShare_86 1 rfl ?_
          refine z_iconst C (pc := 87) (x := (1 : Int32)) dX8_canShare_87 kic_1 ?_
          refine z_iadd C (pc := 88) dX8_canShare_88 ?_
          refine z_iload_n C (pc := 89) dX8_canShare_89 2 rfl ?_
          refine z_iload C (pc := 90) dX8_canShare_90 6 rfl ?_
          refine z_iconst C (pc := 92) (x := (-1 : Int32)) dX8_canShare_92 kic_m1 ?_
          refine z_ixor C (pc := 93) dX8_canShare_93 ?_
          refine z_iand C (pc := 94) dX8_canShare_94 ?_
          refine z_Si C (pc := 95) (KX := fun _ _ => False) (kc' := 0) (ks' := 0) (As := [va_rf f0, .int (f1 + (1 : Int32)), .int (f2 &&& (w6 ^^^ (-1 : Int32)))]) (rest := []) (c_X8_canShare_2 l v S33 f0 (f1 + (1 : Int32)) (f2 &&& (w6 ^^^ (-1 : Int32)))) mw_X8_canShare bw_757 bw_758 (fit_of rfl) rfl rfl (Nat.le_of_ble_eq_true rfl) dX8_canShare_95 h (fun r37 S36 h => ?_) (fun En S9 h => h.elim)
          refine z_if_eq C (pc := 98) (tgt := 103) dX8_canShare_98 (by decide) h (fun h => ?_) (fun h => ?_)
          · refine z_iload C (pc := 103) dX8_canShare_103 6 rfl ?_
            refine z_iload C (pc := 105) dX8_canShare_105 4 rfl ?_
            refine z_isub C (pc := 107) dX8_canShare_107 ?_
            refine z_iload C (pc := 108) dX8_canShare_108 4 rfl ?_
            refine z_iand C (pc := 110) dX8_canShare_110 ?_
            refine z_nI h (fun y38 h => ?_)
            refine z_istore C (pc := 111) (lv' := [(6, .int y38), (0, va_rf f0), (1, .int f1), (2, .int f2), (3, va_rf f3), (4, .int f4), (5, .int f5), (7, .int w7)]) dX8_canShare_111 (by decide) rfl ?_
            refine z_iinc C (pc := 113) (y := w7 + (1 : Int32)) (lv' := [(7, .int (w7 + (1 : Int32))), (6, .int y38), (0, va_rf f0), (1, .int f1), (2, .int f2), (3, va_rf f3), (4, .int f4), (5, .int f5)]) dX8_canShare_113 7 rfl rfl (by decide) rfl ?_
            refine z_goto C (pc := 116) (tgt := 57) dX8_canShare_116 (by decide) ?_
            refine z_sub [2, 3, 4, 5, 6, 7, 1, 0] (lv' := [(0, va_rf f0), (1, .int f1), (2, .int f2), (3, va_rf f3), (4, .int f4), (5, .int f5), (6, .int y38), (7, .int (w7 + (1 : Int32)))]) rfl ?_
            exact ih S36 y38 (w7 + (1 : Int32)) h
          · refine z_iconst C (pc := 101) (x := (1 : Int32)) dX8_canShare_101 kic_1 ?_
            exact z_zret C (pc := 102) T dX8_canShare_102 (by decide) (by decide) h
set_option maxHeartbeats 4000000 in
set_option maxRecDepth 100000 in
theorem c_X8_canShare_3 (l : Launch) (v : Ev) (S : Hp) (x0 : Option Nat) (x1 : Int32) (x2 : Int32) : CI l v yX8_canShare cX8_canShare 8 (some .boolean) rm_X8_canShare_3 [va_rf x0, .int x1, .int x2] S (fun Q _ => wp_X8_canShare_3 S x0 x1 x2 Q) := by
  intro Q EQ h
  refine z_start [(0, va_rf x0), (1, .int x1), (2, .int x2)] (by decide +kernel) (by simp only [la_i, la_r, la_n]) (cat_cr (cat_ci (cat_ci cat_nil))) (by simp only [ls_i, ls_r, ls_n]; decide) (fun z C N T => ?_)
  unfold wp_X8_canShare_3 at h
  refine z_iload_n C (pc := 0) dX8_canShare_0 1 rfl ?_
  refine z_if_lt C (pc := 1) (tgt := 12) dX8_canShare_1 (by decide) h (fun h => ?_) (fun h => ?_)
  · refine z_iconst C (pc := 12) (x := (1 : Int32)) dX8_canShare_12 kic_1 ?_
    exact z_zret C (pc := 13) T dX8_canShare_13 (by decide) (by decide) h
  · refine z_iload_n C (pc := 4) dX8_canShare_4 1 rfl ?_
    refine z_aload_n C (pc := 5) dX8_canShare_5 0 rfl ?_
    obtain ⟨a1, e2, o3, h⟩ := h
    refine z_Vi C (pc := 6) (KX := fun _ _ => False) (kc' := 0) (ks' := 0) (As := []) (rest := [.int x1]) e2 (c_Jx4a65c_size_8abf5 l v S a1) mw_Jx4a65c_size_8abf5 bw_121 bw_122 bw_123 (fit_of rfl) rfl rfl (Nat.le_of_ble_eq_true rfl) (by decide) rfl o3 dX8_canShare_6 h (fun r5 S4 h => ?_) (fun En S9 h => h.elim)
    refine z_icmp_lt C (pc := 9) (tgt := 14) dX8_canShare_9 (by decide) h (fun h => ?_) (fun h => ?_)
    · refine z_aload_n C (pc := 14) dX8_canShare_14 0 rfl ?_
      refine z_iload_n C (pc := 15) dX8_canShare_15 1 rfl ?_
      obtain ⟨a6, e7, o8, h⟩ := h
      refine z_Vq C (pc := 16) (KX := fun _ _ => False) (kc' := 0) (ks' := 0) (As := [.int x1]) (rest := []) e7 (c_Jx4a65c_get_915e3 l v S4 a6 x1) mw_Jx4a65c_get_915e3 bw_196 bw_197 bw_198 (fit_of rfl) rfl rfl (Nat.le_of_ble_eq_true rfl) (by decide) rfl o8 dX8_canShare_16 h (fun r10 S9 h => ?_) (fun En S9 h => h.elim)
      obtain ⟨k11, h⟩ := h
      refine z_cast C (pc := 19) (κ := 6) (by decide) rfl bw_324 dX8_canShare_19 k11 ?_
      refine z_astore_n C (pc := 22) (lv' := [(3, va_rf r10), (0, va_rf x0), (1, .int x1), (2, .int x2)]) dX8_canShare_22 (by decide) rfl ?_
      refine z_iload_n C (pc := 23) dX8_canShare_23 3 rfl ?_
      refine z_aload_n C (pc := 24) dX8_canShare_24 0 rfl ?_
      obtain ⟨a12, e13, o14, h⟩ := h
      refine z_getI C (pc := 25) kf6 2 (by decide) rfl bw_339 (fun _ _ _ _ h => h) dX8_canShare_25 e13 o14 ?_
      refine z_iand C (pc := 28) dX8_canShare_28 ?_
      refine z_nI h (fun y15 h => ?_)
      refine z_istore C (pc := 29) (lv' := [(4, .int y15), (3, va_rf r10), (0, va_rf x0), (1, .int x1), (2, .int x2)]) dX8_canShare_29 (by decide) rfl ?_
      refine z_aload_n C (pc := 31) dX8_canShare_31 1 rfl ?_
      refine z_iload C (pc := 32) dX8_canShare_32 0 rfl ?_
      obtain ⟨a16, e17, o18, h⟩ := h
      refine z_Vi C (pc := 34) (KX := fun _ _ => False) (kc' := 0) (ks' := 0) (As := [.int y15]) (rest := []) e17 (c_X6_verdict l v S9 a16 y15) mw_X6_verdict bw_354 bw_355 bw_356 (fit_of rfl) rfl rfl (Nat.le_of_ble_eq_true rfl) (by decide) rfl o18 dX8_canShare_34 h (fun r20 S19 h => ?_) (fun En S9 h => h.elim)
      refine z_if_eq C (pc := 37) (tgt := 42) dX8_canShare_37 (by decide) h (fun h => ?_) (fun h => ?_)
      · refine z_iconst C (pc := 42) (x := (1 : Int32)) dX8_canShare_42 kic_1 ?_
        refine z_iload C (pc := 43) dX8_canShare_43 0 rfl ?_
        refine z_Si C (pc := 45) (KX := fun _ _ => False) (kc' := 0) (ks' := 0) (As := [.int y15]) (rest := [.int (1 : Int32)]) (c_J6_bitCount_0f7a4 l v S19 y15) mw_J6_bitCount_0f7a4 bw_613 bw_359 (fit_of rfl) rfl rfl (Nat.le_of_ble_eq_true rfl) dX8_canShare_45 h (fun r22 S21 h => ?_) (fun En S9 h => h.elim)
        refine z_ishl C (pc := 48) dX8_canShare_48 ?_
        refine z_nI h (fun y23 h => ?_)
        refine z_istore C (pc := 49) (lv' := [(5, .int y23), (4, .int y15), (3, va_rf r10), (0, va_rf x0), (1, .int x1), (2, .int x2)]) dX8_canShare_49 (by decide) rfl ?_
        refine z_iconst C (pc := 51) (x := (0 : Int32)) dX8_canShare_51 kic_0 ?_
        refine z_istore C (pc := 52) (lv' := [(6, .int (0 : Int32)), (5, .int y23), (4, .int y15), (3, va_rf r10), (0, va_rf x0), (1, .int x1), (2, .int x2)]) dX8_canShare_52 (by decide) rfl ?_
        refine z_iconst C (pc := 54) (x := (0 : Int32)) dX8_canShare_54 kic_0 ?_
        refine z_istore C (pc := 55) (lv' := [(7, .int (0 : Int32)), (6, .int (0 : Int32)), (5, .int y23), (4, .int y15), (3, va_rf r10), (0, va_rf x0), (1, .int x1), (2, .int x2)]) dX8_canShare_55 (by decide) rfl ?_
        obtain ⟨n39, h⟩ := h
        refine z_sub [5, 6, 7, 4, 3, 2, 1, 0] (lv' := [(0, va_rf x0), (1, .int x1), (2, .int x2), (3, va_rf r10), (4, .int y15), (5, .int y23), (6, .int (0 : Int32)), (7, .int (0 : Int32))]) rfl ?_
        exact l_X8_canShare_3_L57 l v x0 x1 x2 r10 y15 y23 Q C N T n39 S21 (0 : Int32) (0 : Int32) h
      · refine z_iconst C (pc := 40) (x := (0 : Int32)) dX8_canShare_40 kic_0 ?_
        exact z_zret C (pc := 41) T dX8_canShare_41 (by decide) (by decide) h
    · refine z_iconst C (pc := 12) (x := (1 : Int32)) dX8_canShare_12 kic_1 ?_
      exact z_zret C (pc := 13) T dX8_canShare_13 (by decide) (by decide) h
def wp_X8_canShare_4_L57 (f0 : Option Nat) (f1 : Int32) (f2 : Int32) (f3 : Option Nat) (f4 : Int32) (f5 : Int32) (Q : Int32 → Hp → Prop) : Nat → Hp → Int32 → Int32 → Prop
  | 0, _, _, _ => False
  | n + 1, S, w6, w7 => if f5 ≤ w7 then (bz (0 : Int32) (Q (0 : Int32) S)) else (wp_J6_bitCount_0f7a4 S w6 (fun r25 S24 => rd S24 6 f3 (fun a26 => if r25 = (g_I S24 604 a26) then (rd S24 6 f3 (fun a30 => wp_X6_verdict S24 a30 w6 (fun r34 S33 => if r34 = 0 then (wp_X8_canShare_3 S33 f0 (f1 + (1 : Int32)) (f2 &&& (w6 ^^^ (-1 : Int32))) (fun r37 S36 => if r37 = 0 then (lt ((w6 - f4) &&& f4) (fun y38 => wp_X8_canShare_4_L57 f0 f1 f2 f3 f4 f5 Q n S36 y38 (w7 + (1 : Int32)))) else (bz (1 : Int32) (Q (1 : Int32) S36)))) else (lt ((w6 - f4) &&& f4) (fun y35 => wp_X8_canShare_4_L57 f0 f1 f2 f3 f4 f5 Q n S33 y35 (w7 + (1 : Int32))))))) else (lt ((w6 - f4) &&& f4) (fun y29 => wp_X8_canShare_4_L57 f0 f1 f2 f3 f4 f5 Q n S24 y29 (w7 + (1 : Int32)))))))
def wp_X8_canShare_4 (S : Hp) (x0 : Option Nat) (x1 : Int32) (x2 : Int32) (Q : Int32 → Hp → Prop) : Prop :=
  if x1 < 0 then (bz (1 : Int32) (Q (1 : Int32) S)) else (rd S 10 x0 (fun a1 => wp_Jx4a65c_size_8abf5 S a1 (fun r5 S4 => if x1 < r5 then (rd S4 10 x0 (fun a6 => wp_Jx4a65c_get_915e3 S4 a6 x1 (fun r10 S9 => (∀ a, r10 = some a → okA S9 6 a) ∧ (rd S9 6 r10 (fun a12 => lt (x2 &&& (g_I S9 602 a12)) (fun y15 => rd S9 6 r10 (fun a16 => wp_X6_verdict S9 a16 y15 (fun r20 S19 => if r20 = 0 then (wp_J6_bitCount_0f7a4 S19 y15 (fun r22 S21 => lt ((1 : Int32) <<< (r22 &&& 31)) (fun y23 => ∃ n39, wp_X8_canShare_4_L57 x0 x1 x2 r10 y15 y23 Q n39 S21 (0 : Int32) (0 : Int32)))) else (bz (0 : Int32) (Q (0 : Int32) S19)))))))))) else (bz (1 : Int32) (Q (1 : Int32) S4)))))
def rm_X8_canShare_4 : Room := { frames := 6, cells := 0, slots := 0, locals := 145 }
set_option maxHeartbeats 4000000 in
set_option maxRecDepth 100000 in
theorem l_X8_canShare_4_L57 (l : Launch) (v : Ev) (f0 : Option Nat) (f1 : Int32) (f2 : Int32) (f3 : Option Nat) (f4 : Int32) (f5 : Int32) (Q : Int32 → Hp → Prop) {EQ : String → Hp → Prop} {z : Z9} (C : Cx l v RX8 cX8_canShare 8 (some .boolean) "canShare" z) (N : NT z) (T : EE v rm_X8_canShare_4 (QI v Q) EQ z) : ∀ (n : Nat) (S : Hp) (w6 : Int32) (w7 : Int32), wp_X8_canShare_4_L57 f0 f1 f2 f3 f4 f5 Q n S w6 w7 → ZZ l v 8 rm_X8_canShare_4 z 0 0 S 57 [(0, va_rf f0), (1, .int f1), (2, .int f2), (3, va_rf f3), (4, .int f4), (5, .int f5), (6, .int w6), (7, .int w7)] [] := by
  intro n
  induction n with
  | zero =>
    intro S w6 w7 h
    exact h.elim
  | succ n ih =>
    intro S w6 w7 h
    unfold wp_X8_canShare_4_L57 at h
    refine z_iload C (pc := 57) dX8_canShare_57 7 rfl ?_
    refine z_iload C (pc := 59) dX8_canShare_59 5 rfl ?_
    refine z_icmp_ge C (pc := 61) (tgt := 119) dX8_canShare_61 (by decide) h (fun h => ?_) (fun h => ?_)
    · refine z_iconst C (pc := 119) (x := (0 : Int32)) dX8_canShare_119 kic_0 ?_
      exact z_zret C (pc := 120) T dX8_canShare_120 (by decide) (by decide) h
    · refine z_iload C (pc := 64) dX8_canShare_64 6 rfl ?_
      refine z_Si C (pc := 66) (KX := fun _ _ => False) (kc' := 0) (ks' := 0) (As := [.int w6]) (rest := []) (c_J6_bitCount_0f7a4 l v S w6) mw_J6_bitCount_0f7a4 bw_613 bw_359 (fit_of rfl) rfl rfl (Nat.le_of_ble_eq_true rfl) dX8_canShare_66 h (fun r25 S24 h => ?_) (fun En S9 h => h.elim)
      refine z_aload_n C (pc := 69) dX8_canShare_69 3 rfl ?_
      obtain ⟨a26, e27, o28, h⟩ := h
      refine z_getI C (pc := 70) kf6 4 (by decide) rfl bw_342 (fun _ _ _ _ h => h) dX8_canShare_70 e27 o28 ?_
      refine z_icmp_ne C (pc := 73) (tgt := 103) dX8_canShare_73 (by decide) h (fun h => ?_) (fun h => ?_)
      · refine z_iload C (pc := 103) dX8_canShare_103 6 rfl ?_
        refine z_iload C (pc := 105) dX8_canShare_105 4 rfl ?_
        refine z_isub C (pc := 107) dX8_canShare_107 ?_
        refine z_iload C (pc := 108) dX8_canShare_108 4 rfl ?_
        refine z_iand C (pc := 110) dX8_canShare_110 ?_
        refine z_nI h (fun y29 h => ?_)
        refine z_istore C (pc := 111) (lv' := [(6, .int y29), (0, va_rf f0), (1, .int f1), (2, .int f2), (3, va_rf f3), (4, .int f4), (5, .int f5), (7, .int w7)]) dX8_canShare_111 (by decide) rfl ?_
        refine z_iinc C (pc := 113) (y := w7 + (1 : Int32)) (lv' := [(7, .int (w7 + (1 : Int32))), (6, .int y29), (0, va_rf f0), (1, .int f1), (2, .int f2), (3, va_rf f3), (4, .int f4), (5, .int f5)]) dX8_canShare_113 7 rfl rfl (by decide) rfl ?_
        refine z_goto C (pc := 116) (tgt := 57) dX8_canShare_116 (by decide) ?_
        refine z_sub [2, 3, 4, 5, 6, 7, 1, 0] (lv' := [(0, va_rf f0), (1, .int f1), (2, .int f2), (3, va_rf f3), (4, .int f4), (5, .int f5), (6, .int y29), (7, .int (w7 + (1 : Int32)))]) rfl ?_
        exact ih S24 y29 (w7 + (1 : Int32)) h
      · refine z_aload_n C (pc := 76) dX8_canShare_76 3 rfl ?_
        refine z_iload C (pc := 77) dX8_canShare_77 6 rfl ?_
        obtain ⟨a30, e31, o32, h⟩ := h
        refine z_Vi C (pc := 79) (KX := fun _ _ => False) (kc' := 0) (ks' := 0) (As := [.int w6]) (rest := []) e31 (c_X6_verdict l v S24 a30 w6) mw_X6_verdict bw_354 bw_355 bw_356 (fit_of rfl) rfl rfl (Nat.le_of_ble_eq_true rfl) (by decide) rfl o32 dX8_canShare_79 h (fun r34 S33 h => ?_) (fun En S9 h => h.elim)
        refine z_if_ne C (pc := 82) (tgt := 103) dX8_canShare_82 (by decide) h (fun h => ?_) (fun h => ?_)
        · refine z_iload C (pc := 103) dX8_canShare_103 6 rfl ?_
          refine z_iload C (pc := 105) dX8_canShare_105 4 rfl ?_
          refine z_isub C (pc := 107) dX8_canShare_107 ?_
          refine z_iload C (pc := 108) dX8_canShare_108 4 rfl ?_
          refine z_iand C (pc := 110) dX8_canShare_110 ?_
          refine z_nI h (fun y35 h => ?_)
          refine z_istore C (pc := 111) (lv' := [(6, .int y35), (0, va_rf f0), (1, .int f1), (2, .int f2), (3, va_rf f3), (4, .int f4), (5, .int f5), (7, .int w7)]) dX8_canShare_111 (by decide) rfl ?_
          refine z_iinc C (pc := 113) (y := w7 + (1 : Int32)) (lv' := [(7, .int (w7 + (1 : Int32))), (6, .int y35), (0, va_rf f0), (1, .int f1), (2, .int f2), (3, va_rf f3), (4, .int f4), (5, .int f5)]) dX8_canShare_113 7 rfl rfl (by decide) rfl ?_
          refine z_goto C (pc := 116) (tgt := 57) dX8_canShare_116 (by decide) ?_
          refine z_sub [2, 3, 4, 5, 6, 7, 1, 0] (lv' := [(0, va_rf f0), (1, .int f1), (2, .int f2), (3, va_rf f3), (4, .int f4), (5, .int f5), (6, .int y35), (7, .int (w7 + (1 : Int32)))]) rfl ?_
          exact ih S33 y35 (w7 + (1 : Int32)) h
        · refine z_aload_n C (pc := 85) dX8_canShare_85 0 rfl ?_
          refine z_iload_n C (pc := 86) dX8_canShare_86 1 rfl ?_
          refine z_iconst C (pc := 87) (x := (1 : Int32)) dX8_canShare_87 kic_1 ?_
          refine z_iadd C (pc := 88) dX8_canShare_88 ?_
          refine z_iload_n C (pc := 89) dX8_canShare_89 2 rfl ?_
          refine z_iload C (pc := 90) dX8_canShare_90 6 rfl ?_
          refine z_iconst C (pc := 92) (x := (-1 : Int32)) dX8_canShare_92 kic_m1 ?_
          refine z_ixor C (pc := 93) dX8_canShare_93 ?_
          refine z_iand C (pc := 94) dX8_canShare_94 ?_
          refine z_Si C (pc := 95) (KX := fun _ _ => False) (kc' := 0) (ks' := 0) (As := [va_rf f0, .int (f1 + (1 : Int32)), .int (f2 &&& (w6 ^^^ (-1 : Int32)))]) (rest := []) (c_X8_canShare_3 l v S33 f0 (f1 + (1 : Int32)) (f2 &&& (w6 ^^^ (-1 : Int32)))) mw_X8_canShare bw_757 bw_758 (fit_of rfl) rfl rfl (Nat.le_of_ble_eq_true rfl) dX8_canShare_95 h (fun r37 S36 h => ?_) (fun En S9 h => h.elim)
          refine z_if_eq C (pc := 98) (tgt := 103) dX8_canShare_98 (by decide) h (fun h => ?_) (fun h => ?_)
          · refine z_iload C (pc := 103) dX8_canShare_103 6 rfl ?_
            refine z_iload C (pc := 105) dX8_canShare_105 4 rfl ?_
            refine z_isub C (pc := 107) dX8_canShare_107 ?_
            refine z_iload C (pc := 108) dX8_canShare_108 4 rfl ?_
            refine z_iand C (pc := 110) dX8_canShare_110 ?_
            refine z_nI h (fun y38 h => ?_)
            refine z_istore C (pc := 111) (lv' := [(6, .int y38), (0, va_rf f0), (1, .int f1), (2, .int f2), (3, va_rf f3), (4, .int f4), (5, .int f5), (7, .int w7)]) dX8_canShare_111 (by decide) rfl ?_
            refine z_iinc C (pc := 113) (y := w7 + (1 : Int32)) (lv' := [(7, .int (w7 + (1 : Int32))), (6, .int y38), (0, va_rf f0), (1, .int f1), (2, .int f2), (3, va_rf f3), (4, .int f4), (5, .int f5)]) dX8_canShare_113 7 rfl rfl (by decide) rfl ?_
            refine z_goto C (pc := 116) (tgt := 57) dX8_canShare_116 (by decide) ?_
            refine z_sub [2, 3, 4, 5, 6, 7, 1, 0] (lv' := [(0, va_rf f0), (1, .int f1), (2, .int f2), (3, va_rf f3), (4, .int f4), (5, .int f5), (6, .int y38), (7, .int (w7 + (1 : Int32)))]) rfl ?_
            exact ih S36 y38 (w7 + (1 : Int32)) h
          · refine z_iconst C (pc := 101) (x := (1 : Int32)) dX8_canShare_101 kic_1 ?_
            exact z_zret C (pc := 102) T dX8_canShare_102 (by decide) (by decide) h
set_option maxHeartbeats 4000000 in
set_option maxRecDepth 100000 in
theorem c_X8_canShare_4 (l : Launch) (v : Ev) (S : Hp) (x0 : Option Nat) (x1 : Int32) (x2 : Int32) : CI l v yX8_canShare cX8_canShare 8 (some .boolean) rm_X8_canShare_4 [va_rf x0, .int x1, .int x2] S (fun Q _ => wp_X8_canShare_4 S x0 x1 x2 Q) := by
  intro Q EQ h
  refine z_start [(0, va_rf x0), (1, .int x1), (2, .int x2)] (by decide +kernel) (by simp only [la_i, la_r, la_n]) (cat_cr (cat_ci (cat_ci cat_nil))) (by simp only [ls_i, ls_r, ls_n]; decide) (fun z C N T => ?_)
  unfold wp_X8_canShare_4 at h
  refine z_iload_n C (pc := 0) dX8_canShare_0 1 rfl ?_
  refine z_if_lt C (pc := 1) (tgt := 12) dX8_canShare_1 (by decide) h (fun h => ?_) (fun h => ?_)
  · refine z_iconst C (pc := 12) (x := (1 : Int32)) dX8_canShare_12 kic_1 ?_
    exact z_zret C (pc := 13) T dX8_canShare_13 (by decide) (by decide) h
  · refine z_iload_n C (pc := 4) dX8_canShare_4 1 rfl ?_
    refine z_aload_n C (pc := 5) dX8_canShare_5 0 rfl ?_
    obtain ⟨a1, e2, o3, h⟩ := h
    refine z_Vi C (pc := 6) (KX := fun _ _ => False) (kc' := 0) (ks' := 0) (As := []) (rest := [.int x1]) e2 (c_Jx4a65c_size_8abf5 l v S a1) mw_Jx4a65c_size_8abf5 bw_121 bw_122 bw_123 (fit_of rfl) rfl rfl (Nat.le_of_ble_eq_true rfl) (by decide) rfl o3 dX8_canShare_6 h (fun r5 S4 h => ?_) (fun En S9 h => h.elim)
    refine z_icmp_lt C (pc := 9) (tgt := 14) dX8_canShare_9 (by decide) h (fun h => ?_) (fun h => ?_)
    · refine z_aload_n C (pc := 14) dX8_canShare_14 0 rfl ?_
      refine z_iload_n C (pc := 15) dX8_canShare_15 1 rfl ?_
      obtain ⟨a6, e7, o8, h⟩ := h
      refine z_Vq C (pc := 16) (KX := fun _ _ => False) (kc' := 0) (ks' := 0) (As := [.int x1]) (rest := []) e7 (c_Jx4a65c_get_915e3 l v S4 a6 x1) mw_Jx4a65c_get_915e3 bw_196 bw_197 bw_198 (fit_of rfl) rfl rfl (Nat.le_of_ble_eq_true rfl) (by decide) rfl o8 dX8_canShare_16 h (fun r10 S9 h => ?_) (fun En S9 h => h.elim)
      obtain ⟨k11, h⟩ := h
      refine z_cast C (pc := 19) (κ := 6) (by decide) rfl bw_324 dX8_canShare_19 k11 ?_
      refine z_astore_n C (pc := 22) (lv' := [(3, va_rf r10), (0, va_rf x0), (1, .int x1), (2, .int x2)]) dX8_canShare_22 (by decide) rfl ?_
      refine z_iload_n C (pc := 23) dX8_canShare_23 3 rfl ?_
      refine z_aload_n C (pc := 24) dX8_canShare_24 0 rfl ?_
      obtain ⟨a12, e13, o14, h⟩ := h
      refine z_getI C (pc := 25) kf6 2 (by decide) rfl bw_339 (fun _ _ _ _ h => h) dX8_canShare_25 e13 o14 ?_
      refine z_iand C (pc := 28) dX8_canShare_28 ?_
      refine z_nI h (fun y15 h => ?_)
      refine z_istore C (pc := 29) (lv' := [(4, .int y15), (3, va_rf r10), (0, va_rf x0), (1, .int x1), (2, .int x2)]) dX8_canShare_29 (by decide) rfl ?_
      refine z_aload_n C (pc := 31) dX8_canShare_31 1 rfl ?_
      refine z_iload C (pc := 32) dX8_canShare_32 0 rfl ?_
      obtain ⟨a16, e17, o18, h⟩ := h
      refine z_Vi C (pc := 34) (KX := fun _ _ => False) (kc' := 0) (ks' := 0) (As := [.int y15]) (rest := []) e17 (c_X6_verdict l v S9 a16 y15) mw_X6_verdict bw_354 bw_355 bw_356 (fit_of rfl) rfl rfl (Nat.le_of_ble_eq_true rfl) (by decide) rfl o18 dX8_canShare_34 h (fun r20 S19 h => ?_) (fun En S9 h => h.elim)
      refine z_if_eq C (pc := 37) (tgt := 42) dX8_canShare_37 (by decide) h (fun h => ?_) (fun h => ?_)
      · refine z_iconst C (pc := 42) (x := (1 : Int32)) dX8_canShare_42 kic_1 ?_
        refine z_iload C (pc := 43) dX8_canShare_43 0 rfl ?_
        refine z_Si C (pc := 45) (KX := fun _ _ => False) (kc' := 0) (ks' := 0) (As := [.int y15]) (rest := [.int (1 : Int32)]) (c_J6_bitCount_0f7a4 l v S19 y15) mw_J6_bitCount_0f7a4 bw_613 bw_359 (fit_of rfl) rfl rfl (Nat.le_of_ble_eq_true rfl) dX8_canShare_45 h (fun r22 S21 h => ?_) (fun En S9 h => h.elim)
        refine z_ishl C (pc := 48) dX8_canShare_48 ?_
        refine z_nI h (fun y23 h => ?_)
        refine z_istore C (pc := 49) (lv' := [(5, .int y23), (4, .int y15), (3, va_rf r10), (0, va_rf x0), (1, .int x1), (2, .int x2)]) dX8_canShare_49 (by decide) rfl ?_
        refine z_iconst C (pc := 51) (x := (0 : Int32)) dX8_canShare_51 kic_0 ?_
        refine z_istore C (pc := 52) (lv' := [(6, .int (0 : Int32)), (5, .int y23), (4, .int y15), (3, va_rf r10), (0, va_rf x0), (1, .int x1), (2, .int x2)]) dX8_canShare_52 (by decide) rfl ?_
        refine z_iconst C (pc := 54) (x := (0 : Int32)) dX8_canShare_54 kic_0 ?_
        refine z_istore C (pc := 55) (lv' := [(7, .int (0 : Int32)), (6, .int (0 : Int32)), (5, .int y23), (4, .int y15), (3, va_rf r10), (0, va_rf x0), (1, .int x1), (2, .int x2)]) dX8_canShare_55 (by decide) rfl ?_
        obtain ⟨n39, h⟩ := h
        refine z_sub [5, 6, 7, 4, 3, 2, 1, 0] (lv' := [(0, va_rf x0), (1, .int x1), (2, .int x2), (3, va_rf r10), (4, .int y15), (5, .int y23), (6, .int (0 : Int32)), (7, .int (0 : Int32))]) rfl ?_
        exact l_X8_canShare_4_L57 l v x0 x1 x2 r10 y15 y23 Q C N T n39 S21 (0 : Int32) (0 : Int32) h
      · refine z_iconst C (pc := 40) (x := (0 : Int32)) dX8_canShare_40 kic_0 ?_
        exact z_zret C (pc := 41) T dX8_canShare_41 (by decide) (by decide) h
    · refine z_iconst C (pc := 12) (x := (1 : Int32)) dX8_canShare_12 kic_1 ?_
      exact z_zret C (pc := 13) T dX8_canShare_13 (by decide) (by decide) h
def wp_X8_couldStaff (S : Hp) (x0 : Nat) (x1 : Int32) (x2 : Int32) (x3 : Int32) (Q : Int32 → Hp → Prop) (EQ : String → Hp → Prop) : Prop :=
  wp_X8_requireRange S x1 (0 : Int32) (9999 : Int32) (fun S1 => wp_X8_requireRange S1 x2 (0 : Int32) (23 : Int32) (fun S2 => okA S2 8 x0 ∧ (rd S2 10 (g_P S2 802 x0) (fun a4 => wp_Jx4a65c_size_8abf5 S2 a4 (fun r8 S7 => wp_X8_requireRange S7 x3 (0 : Int32) (((1 : Int32) <<< (r8 &&& 31)) - (1 : Int32)) (fun S9 => okA S9 8 x0 ∧ (wp_X8_eventsIn S9 x0 x1 x2 (fun r12 S11 => if r12 ≤ (3 : Int32) then (okA S11 8 x0 ∧ (wp_X8_needsIn S11 x0 x1 x2 (fun r15 S14 => wp_X8_canShare_4 S14 r15 (0 : Int32) x3 (fun r17 S16 => bz r17 (Q r17 S16))))) else (EQ "java/lang/IllegalStateException" S11)))) EQ)))) EQ) EQ
def rm_X8_couldStaff : Room := { frames := 8, cells := 46, slots := 1470, locals := 255 }
set_option maxHeartbeats 4000000 in
set_option maxRecDepth 100000 in
theorem c_X8_couldStaff (l : Launch) (hfl : l.stackTraces = false) (v : Ev) (S : Hp) (x0 : Nat) (x1 : Int32) (x2 : Int32) (x3 : Int32) : CI l v yX8_couldStaff cX8_couldStaff 4 (some .boolean) rm_X8_couldStaff [va_rf (some x0), .int x1, .int x2, .int x3] S (fun Q EQ => wp_X8_couldStaff S x0 x1 x2 x3 Q EQ) := by
  intro Q EQ h
  refine z_start [(0, va_rf (some x0)), (1, .int x1), (2, .int x2), (3, .int x3)] (by decide +kernel) (by simp only [la_i, la_r, la_n]) (cat_cr (cat_ci (cat_ci (cat_ci cat_nil)))) (by simp only [ls_i, ls_r, ls_n]; decide) (fun z C N T => ?_)
  unfold wp_X8_couldStaff at h
  refine z_iload_n C (pc := 0) dX8_couldStaff_0 1 rfl ?_
  refine z_iconst C (pc := 1) (x := (0 : Int32)) dX8_couldStaff_1 kic_0 ?_
  refine z_sipush C (pc := 2) (x := (9999 : Int32)) dX8_couldStaff_2 ksp_9999 ?_
  refine z_Sv C (pc := 5) (kc' := 1) (ks' := 6) (As := [.int x1, .int (0 : Int32), .int (9999 : Int32)]) (rest := []) (c_X8_requireRange l hfl v S x1 (0 : Int32) (9999 : Int32)) mw_X8_requireRange bw_281 bw_282 (fit_of rfl) rfl rfl (Nat.le_of_ble_eq_true rfl) dX8_couldStaff_5 h (fun S1 h => ?_) (fun En S9 h => z_out C T N (by decide) (by decide) h)
  refine z_iload_n C (pc := 8) dX8_couldStaff_8 2 rfl ?_
  refine z_iconst C (pc := 9) (x := (0 : Int32)) dX8_couldStaff_9 kic_0 ?_
  refine z_bipush C (pc := 10) (x := (23 : Int32)) dX8_couldStaff_10 kbp_23 ?_
  refine z_Sv C (pc := 12) (kc' := 2) (ks' := 12) (As := [.int x2, .int (0 : Int32), .int (23 : Int32)]) (rest := []) (c_X8_requireRange l hfl v S1 x2 (0 : Int32) (23 : Int32)) mw_X8_requireRange bw_281 bw_282 (fit_of rfl) rfl rfl (Nat.le_of_ble_eq_true rfl) dX8_couldStaff_12 h (fun S2 h => ?_) (fun En S9 h => z_out C T N (by decide) (by decide) h)
  refine z_iload_n C (pc := 15) dX8_couldStaff_15 3 rfl ?_
  refine z_iconst C (pc := 16) (x := (0 : Int32)) dX8_couldStaff_16 kic_0 ?_
  refine z_iconst C (pc := 17) (x := (1 : Int32)) dX8_couldStaff_17 kic_1 ?_
  refine z_aload_n C (pc := 18) dX8_couldStaff_18 0 rfl ?_
  obtain ⟨o3, h⟩ := h
  refine z_getP C (pc := 19) kf8 2 (by decide) rfl bw_76 (fun _ _ _ _ h => h) dX8_couldStaff_19 rfl o3 ?_
  obtain ⟨a4, e5, o6, h⟩ := h
  refine z_Vi C (pc := 22) (KX := fun _ _ => False) (kc' := 2) (ks' := 12) (As := []) (rest := [.int (1 : Int32), .int (0 : Int32), .int x3]) e5 (c_Jx4a65c_size_8abf5 l v S2 a4) mw_Jx4a65c_size_8abf5 bw_121 bw_122 bw_123 (fit_of rfl) rfl rfl (Nat.le_of_ble_eq_true rfl) (by decide) rfl o6 dX8_couldStaff_22 h (fun r8 S7 h => ?_) (fun En S9 h => h.elim)
  refine z_ishl C (pc := 25) dX8_couldStaff_25 ?_
  refine z_iconst C (pc := 26) (x := (1 : Int32)) dX8_couldStaff_26 kic_1 ?_
  refine z_isub C (pc := 27) dX8_couldStaff_27 ?_
  refine z_Sv C (pc := 28) (kc' := 3) (ks' := 18) (As := [.int x3, .int (0 : Int32), .int (((1 : Int32) <<< (r8 &&& 31)) - (1 : Int32))]) (rest := []) (c_X8_requireRange l hfl v S7 x3 (0 : Int32) (((1 : Int32) <<< (r8 &&& 31)) - (1 : Int32))) mw_X8_requireRange bw_281 bw_282 (fit_of rfl) rfl rfl (Nat.le_of_ble_eq_true rfl) dX8_couldStaff_28 h (fun S9 h => ?_) (fun En S9 h => z_out C T N (by decide) (by decide) h)
  refine z_aload_n C (pc := 31) dX8_couldStaff_31 0 rfl ?_
  refine z_iload_n C (pc := 32) dX8_couldStaff_32 1 rfl ?_
  refine z_iload_n C (pc := 33) dX8_couldStaff_33 2 rfl ?_
  obtain ⟨o10, h⟩ := h
  refine z_Vi C (pc := 34) (KX := fun _ _ => False) (kc' := 3) (ks' := 18) (As := [.int x1, .int x2]) (rest := []) rfl (c_X8_eventsIn l v S9 x0 x1 x2) mw_X8_eventsIn bw_744 bw_746 bw_p28 (fit_of rfl) rfl rfl (Nat.le_of_ble_eq_true rfl) (by decide) rfl o10 dX8_couldStaff_34 h (fun r12 S11 h => ?_) (fun En S9 h => h.elim)
  refine z_iconst C (pc := 37) (x := (3 : Int32)) dX8_couldStaff_37 kic_3 ?_
  refine z_icmp_le C (pc := 38) (tgt := 51) dX8_couldStaff_38 (by decide) h (fun h => ?_) (fun h => ?_)
  · refine z_aload_n C (pc := 51) dX8_couldStaff_51 0 rfl ?_
    refine z_iload_n C (pc := 52) dX8_couldStaff_52 1 rfl ?_
    refine z_iload_n C (pc := 53) dX8_couldStaff_53 2 rfl ?_
    obtain ⟨o13, h⟩ := h
    refine z_Vq C (pc := 54) (KX := fun _ _ => False) (kc' := 46) (ks' := 1470) (As := [.int x1, .int x2]) (rest := []) rfl (c_X8_needsIn l v S11 x0 x1 x2) mw_X8_needsIn bw_753 bw_755 bw_p29 (fit_of rfl) rfl rfl (Nat.le_of_ble_eq_true rfl) (by decide) rfl o13 dX8_couldStaff_54 h (fun r15 S14 h => ?_) (fun En S9 h => h.elim)
    refine z_iconst C (pc := 57) (x := (0 : Int32)) dX8_couldStaff_57 kic_0 ?_
    refine z_iload_n C (pc := 58) dX8_couldStaff_58 3 rfl ?_
    refine z_Si C (pc := 59) (KX := fun _ _ => False) (kc' := 46) (ks' := 1470) (As := [va_rf r15, .int (0 : Int32), .int x3]) (rest := []) (c_X8_canShare_4 l v S14 r15 (0 : Int32) x3) mw_X8_canShare bw_757 bw_758 (fit_of rfl) rfl rfl (Nat.le_of_ble_eq_true rfl) dX8_couldStaff_59 h (fun r17 S16 h => ?_) (fun En S9 h => h.elim)
    exact z_zret C (pc := 62) T dX8_couldStaff_62 (by decide) (by decide) h
  · exact z_throw C (pc := 41) (text := "too many events go on") (names := ["java/lang/RuntimeException", "java/lang/Exception"]) hfl T N ft_IllegalStateException bw_383 bw_10 st_X8_250 at_X8_82 go_X8_82 ⟨by decide +kernel, by decide +kernel⟩ dX8_couldStaff_41 dX8_couldStaff_44 dX8_couldStaff_45 dX8_couldStaff_47 dX8_couldStaff_50 ⟨by decide, Nat.le_of_ble_eq_true rfl, by decide, by decide⟩ h
def wp_X8_boxes (S : Hp) (x0 : Nat) (x1 : Int32) (x2 : Int32) (Q : Int32 → Hp → Prop) (EQ : String → Hp → Prop) : Prop :=
  okA S 8 x0 ∧ (wp_X8_childAt S x0 x1 (fun r3 S2 => wp_X8_requireRange S2 x2 (1 : Int32) (99 : Int32) (fun S4 => rd S4 1 r3 (fun a5 => if (g_I S4 102 a5) = (-1 : Int32) then (EQ "java/lang/IllegalStateException" S4) else (rd S4 1 r3 (fun a8 => if (g_I S4 107 a8) ≤ 0 then (rd S4 1 r3 (fun a11 => if ((g_I S4 106 a11) + x2) ≤ (9999 : Int32) then (rd S4 1 r3 (fun a14 => rd S4 1 r3 (fun a17 => lt (s_I S4 106 a17 ((g_I S4 106 a14) + x2)) (fun S20 => rd S20 1 r3 (fun a21 => rd S20 1 r3 (fun a24 => lt (s_I S20 107 a24 ((g_I S20 107 a21) + (x2 * (4 : Int32)))) (fun S27 => rd S27 1 r3 (fun a28 => rd S27 1 r3 (fun a31 => lt (s_I S27 108 a31 (g_I S27 102 a28)) (fun S34 => rd S34 1 r3 (fun a35 => Q (g_I S34 107 a35) S34))))))))))) else (EQ "java/lang/IllegalStateException" S4))) else (rd S4 1 r3 (fun a38 => rd S4 1 r3 (fun a41 => if (g_I S4 108 a38) = (g_I S4 102 a41) then (rd S4 1 r3 (fun a44 => if ((g_I S4 106 a44) + x2) ≤ (9999 : Int32) then (rd S4 1 r3 (fun a47 => rd S4 1 r3 (fun a50 => lt (s_I S4 106 a50 ((g_I S4 106 a47) + x2)) (fun S53 => rd S53 1 r3 (fun a54 => rd S53 1 r3 (fun a57 => lt (s_I S53 107 a57 ((g_I S53 107 a54) + (x2 * (4 : Int32)))) (fun S60 => rd S60 1 r3 (fun a61 => rd S60 1 r3 (fun a64 => lt (s_I S60 108 a64 (g_I S60 102 a61)) (fun S67 => rd S67 1 r3 (fun a68 => Q (g_I S67 107 a68) S67))))))))))) else (EQ "java/lang/IllegalStateException" S4))) else (EQ "java/lang/IllegalStateException" S4)))))))) EQ) EQ)
def rm_X8_boxes : Room := { frames := 8, cells := 3, slots := 18, locals := 124 }
set_option maxHeartbeats 4000000 in
set_option maxRecDepth 100000 in
theorem c_X8_boxes (l : Launch) (hfl : l.stackTraces = false) (v : Ev) (S : Hp) (x0 : Nat) (x1 : Int32) (x2 : Int32) : CI l v yX8_boxes cX8_boxes 4 (some .int) rm_X8_boxes [va_rf (some x0), .int x1, .int x2] S (fun Q EQ => wp_X8_boxes S x0 x1 x2 Q EQ) := by
  intro Q EQ h
  refine z_start [(0, va_rf (some x0)), (1, .int x1), (2, .int x2)] (by decide +kernel) (by simp only [la_i, la_r, la_n]) (cat_cr (cat_ci (cat_ci cat_nil))) (by simp only [ls_i, ls_r, ls_n]; decide) (fun z C N T => ?_)
  unfold wp_X8_boxes at h
  refine z_aload_n C (pc := 0) dX8_boxes_0 0 rfl ?_
  refine z_iload_n C (pc := 1) dX8_boxes_1 1 rfl ?_
  obtain ⟨o1, h⟩ := h
  refine z_Vq C (pc := 2) (kc' := 1) (ks' := 6) (As := [.int x1]) (rest := []) rfl (c_X8_childAt l hfl v S x0 x1) mw_X8_childAt bw_117 bw_119 bw_p0 (fit_of rfl) rfl rfl (Nat.le_of_ble_eq_true rfl) (by decide) rfl o1 dX8_boxes_2 h (fun r3 S2 h => ?_) (fun En S9 h => z_out C T N (by decide) (by decide) h)
  refine z_astore_n C (pc := 5) (lv' := [(3, va_rf r3), (0, va_rf (some x0)), (1, .int x1), (2, .int x2)]) dX8_boxes_5 (by decide) rfl ?_
  refine z_iload_n C (pc := 6) dX8_boxes_6 3 rfl ?_
  refine z_iconst C (pc := 7) (x := (1 : Int32)) dX8_boxes_7 kic_1 ?_
  refine z_bipush C (pc := 8) (x := (99 : Int32)) dX8_boxes_8 kbp_99 ?_
  refine z_Sv C (pc := 10) (kc' := 2) (ks' := 12) (As := [.int x2, .int (1 : Int32), .int (99 : Int32)]) (rest := []) (c_X8_requireRange l hfl v S2 x2 (1 : Int32) (99 : Int32)) mw_X8_requireRange bw_281 bw_282 (fit_of rfl) rfl rfl (Nat.le_of_ble_eq_true rfl) dX8_boxes_10 h (fun S4 h => ?_) (fun En S9 h => z_out C T N (by decide) (by decide) h)
  refine z_aload_n C (pc := 13) dX8_boxes_13 0 rfl ?_
  obtain ⟨a5, e6, o7, h⟩ := h
  refine z_getI C (pc := 14) kf1 2 (by decide) rfl bw_495 (fun _ _ _ _ h => h) dX8_boxes_14 e6 o7 ?_
  refine z_iconst C (pc := 17) (x := (-1 : Int32)) dX8_boxes_17 kic_m1 ?_
  refine z_icmp_ne C (pc := 18) (tgt := 31) dX8_boxes_18 (by decide) h (fun h => ?_) (fun h => ?_)
  · refine z_aload_n C (pc := 31) dX8_boxes_31 0 rfl ?_
    obtain ⟨a8, e9, o10, h⟩ := h
    refine z_getI C (pc := 32) kf1 7 (by decide) rfl bw_502 (fun _ _ _ _ h => h) dX8_boxes_32 e9 o10 ?_
    refine z_if_le C (pc := 35) (tgt := 60) dX8_boxes_35 (by decide) h (fun h => ?_) (fun h => ?_)
    · refine z_aload_n C (pc := 60) dX8_boxes_60 0 rfl ?_
      obtain ⟨a11, e12, o13, h⟩ := h
      refine z_getI C (pc := 61) kf1 6 (by decide) rfl bw_501 (fun _ _ _ _ h => h) dX8_boxes_61 e12 o13 ?_
      refine z_iload_n C (pc := 64) dX8_boxes_64 3 rfl ?_
      refine z_iadd C (pc := 65) dX8_boxes_65 ?_
      refine z_sipush C (pc := 66) (x := (9999 : Int32)) dX8_boxes_66 ksp_9999 ?_
      refine z_icmp_le C (pc := 69) (tgt := 83) dX8_boxes_69 (by decide) h (fun h => ?_) (fun h => ?_)
      · refine z_aload_n C (pc := 83) dX8_boxes_83 0 rfl ?_
        refine z_dup C (pc := 84) dX8_boxes_84 (cat_rf _) ?_
        obtain ⟨a14, e15, o16, h⟩ := h
        refine z_getI C (pc := 85) kf1 6 (by decide) rfl bw_501 (fun _ _ _ _ h => h) dX8_boxes_85 e15 o16 ?_
        refine z_iload_n C (pc := 88) dX8_boxes_88 3 rfl ?_
        refine z_iadd C (pc := 89) dX8_boxes_89 ?_
        obtain ⟨a17, e18, o19, h⟩ := h
        refine z_putI C (pc := 90) kf1 6 (by decide) rfl rfl bw_501 (fun _ _ _ _ h => h) dX8_boxes_90 e18 o19 ?_
        refine z_lt h (fun S20 h => ?_)
        refine z_aload_n C (pc := 93) dX8_boxes_93 0 rfl ?_
        refine z_dup C (pc := 94) dX8_boxes_94 (cat_rf _) ?_
        obtain ⟨a21, e22, o23, h⟩ := h
        refine z_getI C (pc := 95) kf1 7 (by decide) rfl bw_502 (fun _ _ _ _ h => h) dX8_boxes_95 e22 o23 ?_
        refine z_iload_n C (pc := 98) dX8_boxes_98 3 rfl ?_
        refine z_iconst C (pc := 99) (x := (4 : Int32)) dX8_boxes_99 kic_4 ?_
        refine z_imul C (pc := 100) dX8_boxes_100 ?_
        refine z_iadd C (pc := 101) dX8_boxes_101 ?_
        obtain ⟨a24, e25, o26, h⟩ := h
        refine z_putI C (pc := 102) kf1 7 (by decide) rfl rfl bw_502 (fun _ _ _ _ h => h) dX8_boxes_102 e25 o26 ?_
        refine z_lt h (fun S27 h => ?_)
        refine z_aload_n C (pc := 105) dX8_boxes_105 0 rfl ?_
        refine z_aload_n C (pc := 106) dX8_boxes_106 0 rfl ?_
        obtain ⟨a28, e29, o30, h⟩ := h
        refine z_getI C (pc := 107) kf1 2 (by decide) rfl bw_495 (fun _ _ _ _ h => h) dX8_boxes_107 e29 o30 ?_
        obtain ⟨a31, e32, o33, h⟩ := h
        refine z_putI C (pc := 110) kf1 8 (by decide) rfl rfl bw_504 (fun _ _ _ _ h => h) dX8_boxes_110 e32 o33 ?_
        refine z_lt h (fun S34 h => ?_)
        refine z_aload_n C (pc := 113) dX8_boxes_113 0 rfl ?_
        obtain ⟨a35, e36, o37, h⟩ := h
        refine z_getI C (pc := 114) kf1 7 (by decide) rfl bw_502 (fun _ _ _ _ h => h) dX8_boxes_114 e36 o37 ?_
        exact z_iret C (pc := 117) T dX8_boxes_117 (by decide) (by decide) h
      · exact z_throwW C (pc := 72) (text := "the child would have taken too many boxes") (names := ["java/lang/RuntimeException", "java/lang/Exception"]) hfl T N ft_IllegalStateException bw_383 bw_10 st_X8_271 at_X8_82 go_X8_82 ⟨by decide +kernel, by decide +kernel⟩ dX8_boxes_72 dX8_boxes_75 dX8_boxes_76 dX8_boxes_79 dX8_boxes_82 ⟨by decide, Nat.le_of_ble_eq_true rfl, by decide, by decide⟩ h
    · refine z_aload_n C (pc := 38) dX8_boxes_38 0 rfl ?_
      obtain ⟨a38, e39, o40, h⟩ := h
      refine z_getI C (pc := 39) kf1 8 (by decide) rfl bw_504 (fun _ _ _ _ h => h) dX8_boxes_39 e39 o40 ?_
      refine z_aload_n C (pc := 42) dX8_boxes_42 0 rfl ?_
      obtain ⟨a41, e42, o43, h⟩ := h
      refine z_getI C (pc := 43) kf1 2 (by decide) rfl bw_495 (fun _ _ _ _ h => h) dX8_boxes_43 e42 o43 ?_
      refine z_icmp_eq C (pc := 46) (tgt := 60) dX8_boxes_46 (by decide) h (fun h => ?_) (fun h => ?_)
      · refine z_aload_n C (pc := 60) dX8_boxes_60 0 rfl ?_
        obtain ⟨a44, e45, o46, h⟩ := h
        refine z_getI C (pc := 61) kf1 6 (by decide) rfl bw_501 (fun _ _ _ _ h => h) dX8_boxes_61 e45 o46 ?_
        refine z_iload_n C (pc := 64) dX8_boxes_64 3 rfl ?_
        refine z_iadd C (pc := 65) dX8_boxes_65 ?_
        refine z_sipush C (pc := 66) (x := (9999 : Int32)) dX8_boxes_66 ksp_9999 ?_
        refine z_icmp_le C (pc := 69) (tgt := 83) dX8_boxes_69 (by decide) h (fun h => ?_) (fun h => ?_)
        · refine z_aload_n C (pc := 83) dX8_boxes_83 0 rfl ?_
          refine z_dup C (pc := 84) dX8_boxes_84 (cat_rf _) ?_
          obtain ⟨a47, e48, o49, h⟩ := h
          refine z_getI C (pc := 85) kf1 6 (by decide) rfl bw_501 (fun _ _ _ _ h => h) dX8_boxes_85 e48 o49 ?_
          refine z_iload_n C (pc := 88) dX8_boxes_88 3 rfl ?_
          refine z_iadd C (pc := 89) dX8_boxes_89 ?_
          obtain ⟨a50, e51, o52, h⟩ := h
          refine z_putI C (pc := 90) kf1 6 (by decide) rfl rfl bw_501 (fun _ _ _ _ h => h) dX8_boxes_90 e51 o52 ?_
          refine z_lt h (fun S53 h => ?_)
          refine z_aload_n C (pc := 93) dX8_boxes_93 0 rfl ?_
          refine z_dup C (pc := 94) dX8_boxes_94 (cat_rf _) ?_
          obtain ⟨a54, e55, o56, h⟩ := h
          refine z_getI C (pc := 95) kf1 7 (by decide) rfl bw_502 (fun _ _ _ _ h => h) dX8_boxes_95 e55 o56 ?_
          refine z_iload_n C (pc := 98) dX8_boxes_98 3 rfl ?_
          refine z_iconst C (pc := 99) (x := (4 : Int32)) dX8_boxes_99 kic_4 ?_
          refine z_imul C (pc := 100) dX8_boxes_100 ?_
          refine z_iadd C (pc := 101) dX8_boxes_101 ?_
          obtain ⟨a57, e58, o59, h⟩ := h
          refine z_putI C (pc := 102) kf1 7 (by decide) rfl rfl bw_502 (fun _ _ _ _ h => h) dX8_boxes_102 e58 o59 ?_
          refine z_lt h (fun S60 h => ?_)
          refine z_aload_n C (pc := 105) dX8_boxes_105 0 rfl ?_
          refine z_aload_n C (pc := 106) dX8_boxes_106 0 rfl ?_
          obtain ⟨a61, e62, o63, h⟩ := h
          refine z_getI C (pc := 107) kf1 2 (by decide) rfl bw_495 (fun _ _ _ _ h => h) dX8_boxes_107 e62 o63 ?_
          obtain ⟨a64, e65, o66, h⟩ := h
          refine z_putI C (pc := 110) kf1 8 (by decide) rfl rfl bw_504 (fun _ _ _ _ h => h) dX8_boxes_110 e65 o66 ?_
          refine z_lt h (fun S67 h => ?_)
          refine z_aload_n C (pc := 113) dX8_boxes_113 0 rfl ?_
          obtain ⟨a68, e69, o70, h⟩ := h
          refine z_getI C (pc := 114) kf1 7 (by decide) rfl bw_502 (fun _ _ _ _ h => h) dX8_boxes_114 e69 o70 ?_
          exact z_iret C (pc := 117) T dX8_boxes_117 (by decide) (by decide) h
        · exact z_throwW C (pc := 72) (text := "the child would have taken too many boxes") (names := ["java/lang/RuntimeException", "java/lang/Exception"]) hfl T N ft_IllegalStateException bw_383 bw_10 st_X8_271 at_X8_82 go_X8_82 ⟨by decide +kernel, by decide +kernel⟩ dX8_boxes_72 dX8_boxes_75 dX8_boxes_76 dX8_boxes_79 dX8_boxes_82 ⟨by decide, Nat.le_of_ble_eq_true rfl, by decide, by decide⟩ h
      · exact z_throwW C (pc := 49) (text := "the child owes to another troop") (names := ["java/lang/RuntimeException", "java/lang/Exception"]) hfl T N ft_IllegalStateException bw_383 bw_10 st_X8_266 at_X8_82 go_X8_82 ⟨by decide +kernel, by decide +kernel⟩ dX8_boxes_49 dX8_boxes_52 dX8_boxes_53 dX8_boxes_56 dX8_boxes_59 ⟨by decide, Nat.le_of_ble_eq_true rfl, by decide, by decide⟩ h
  · exact z_throw C (pc := 21) (text := "the child is in no troop") (names := ["java/lang/RuntimeException", "java/lang/Exception"]) hfl T N ft_IllegalStateException bw_383 bw_10 st_X8_107 at_X8_82 go_X8_82 ⟨by decide +kernel, by decide +kernel⟩ dX8_boxes_21 dX8_boxes_24 dX8_boxes_25 dX8_boxes_27 dX8_boxes_30 ⟨by decide, Nat.le_of_ble_eq_true rfl, by decide, by decide⟩ h
def wp_X8_pay (S : Hp) (x0 : Nat) (x1 : Int32) (x2 : Int32) (Q : Int32 → Hp → Prop) (EQ : String → Hp → Prop) : Prop :=
  okA S 8 x0 ∧ (wp_X8_childAt S x0 x1 (fun r3 S2 => wp_X8_requireRange S2 x2 (1 : Int32) (396 : Int32) (fun S4 => rd S4 1 r3 (fun a5 => if x2 ≤ (g_I S4 107 a5) then (rd S4 1 r3 (fun a8 => rd S4 1 r3 (fun a11 => lt (s_I S4 107 a11 ((g_I S4 107 a8) - x2)) (fun S14 => rd S14 1 r3 (fun a15 => Q (g_I S14 107 a15) S14))))) else (EQ "java/lang/IllegalStateException" S4))) EQ) EQ)
def rm_X8_pay : Room := { frames := 8, cells := 3, slots := 18, locals := 124 }
set_option maxHeartbeats 4000000 in
set_option maxRecDepth 100000 in
theorem c_X8_pay (l : Launch) (hfl : l.stackTraces = false) (v : Ev) (S : Hp) (x0 : Nat) (x1 : Int32) (x2 : Int32) : CI l v yX8_pay cX8_pay 4 (some .int) rm_X8_pay [va_rf (some x0), .int x1, .int x2] S (fun Q EQ => wp_X8_pay S x0 x1 x2 Q EQ) := by
  intro Q EQ h
  refine z_start [(0, va_rf (some x0)), (1, .int x1), (2, .int x2)] (by decide +kernel) (by simp only [la_i, la_r, la_n]) (cat_cr (cat_ci (cat_ci cat_nil))) (by simp only [ls_i, ls_r, ls_n]; decide) (fun z C N T => ?_)
  unfold wp_X8_pay at h
  refine z_aload_n C (pc := 0) dX8_pay_0 0 rfl ?_
  refine z_iload_n C (pc := 1) dX8_pay_1 1 rfl ?_
  obtain ⟨o1, h⟩ := h
  refine z_Vq C (pc := 2) (kc' := 1) (ks' := 6) (As := [.int x1]) (rest := []) rfl (c_X8_childAt l hfl v S x0 x1) mw_X8_childAt bw_117 bw_119 bw_p0 (fit_of rfl) rfl rfl (Nat.le_of_ble_eq_true rfl) (by decide) rfl o1 dX8_pay_2 h (fun r3 S2 h => ?_) (fun En S9 h => z_out C T N (by decide) (by decide) h)
  refine z_astore_n C (pc := 5) (lv' := [(3, va_rf r3), (0, va_rf (some x0)), (1, .int x1), (2, .int x2)]) dX8_pay_5 (by decide) rfl ?_
  refine z_iload_n C (pc := 6) dX8_pay_6 3 rfl ?_
  refine z_iconst C (pc := 7) (x := (1 : Int32)) dX8_pay_7 kic_1 ?_
  refine z_sipush C (pc := 8) (x := (396 : Int32)) dX8_pay_8 ksp_396 ?_
  refine z_Sv C (pc := 11) (kc' := 2) (ks' := 12) (As := [.int x2, .int (1 : Int32), .int (396 : Int32)]) (rest := []) (c_X8_requireRange l hfl v S2 x2 (1 : Int32) (396 : Int32)) mw_X8_requireRange bw_281 bw_282 (fit_of rfl) rfl rfl (Nat.le_of_ble_eq_true rfl) dX8_pay_11 h (fun S4 h => ?_) (fun En S9 h => z_out C T N (by decide) (by decide) h)
  refine z_aload_n C (pc := 14) dX8_pay_14 0 rfl ?_
  obtain ⟨a5, e6, o7, h⟩ := h
  refine z_getI C (pc := 15) kf1 7 (by decide) rfl bw_502 (fun _ _ _ _ h => h) dX8_pay_15 e6 o7 ?_
  refine z_iload_n C (pc := 18) dX8_pay_18 3 rfl ?_
  refine z_icmp_ge C (pc := 19) (tgt := 33) dX8_pay_19 (by decide) h (fun h => ?_) (fun h => ?_)
  · refine z_aload_n C (pc := 33) dX8_pay_33 0 rfl ?_
    refine z_dup C (pc := 34) dX8_pay_34 (cat_rf _) ?_
    obtain ⟨a8, e9, o10, h⟩ := h
    refine z_getI C (pc := 35) kf1 7 (by decide) rfl bw_502 (fun _ _ _ _ h => h) dX8_pay_35 e9 o10 ?_
    refine z_iload_n C (pc := 38) dX8_pay_38 3 rfl ?_
    refine z_isub C (pc := 39) dX8_pay_39 ?_
    obtain ⟨a11, e12, o13, h⟩ := h
    refine z_putI C (pc := 40) kf1 7 (by decide) rfl rfl bw_502 (fun _ _ _ _ h => h) dX8_pay_40 e12 o13 ?_
    refine z_lt h (fun S14 h => ?_)
    refine z_aload_n C (pc := 43) dX8_pay_43 0 rfl ?_
    obtain ⟨a15, e16, o17, h⟩ := h
    refine z_getI C (pc := 44) kf1 7 (by decide) rfl bw_502 (fun _ _ _ _ h => h) dX8_pay_44 e16 o17 ?_
    exact z_iret C (pc := 47) T dX8_pay_47 (by decide) (by decide) h
  · exact z_throwW C (pc := 22) (text := "the child owes fewer coins") (names := ["java/lang/RuntimeException", "java/lang/Exception"]) hfl T N ft_IllegalStateException bw_383 bw_10 st_X8_273 at_X8_82 go_X8_82 ⟨by decide +kernel, by decide +kernel⟩ dX8_pay_22 dX8_pay_25 dX8_pay_26 dX8_pay_29 dX8_pay_32 ⟨by decide, Nat.le_of_ble_eq_true rfl, by decide, by decide⟩ h
def wp_X8_owed_L11 (f0 : Nat) (f1 : Int32) (f2 : Option Nat) (Q : Int32 → Hp → Prop) (EQ : String → Hp → Prop) : Nat → Hp → Int32 → Int32 → Prop
  | 0, _, _, _ => False
  | n + 1, S, w3, w4 => okA S 8 f0 ∧ (rd S 10 (g_P S 801 f0) (fun a5 => wp_Jx4a65c_size_8abf5 S a5 (fun r9 S8 => if r9 ≤ w4 then (Q w3 S8) else (okA S8 8 f0 ∧ (rd S8 10 (g_P S8 801 f0) (fun a11 => wp_Jx4a65c_get_915e3 S8 a11 w4 (fun r15 S14 => (∀ a, r15 = some a → okA S14 1 a) ∧ (rd S14 1 r15 (fun a17 => rd S14 7 f2 (fun a20 => if (g_I S14 108 a17) = (g_I S14 700 a20) then (okA S14 8 f0 ∧ (rd S14 10 (g_P S14 801 f0) (fun a24 => wp_Jx4a65c_get_915e3 S14 a24 w4 (fun r28 S27 => (∀ a, r28 = some a → okA S27 1 a) ∧ (rd S27 1 r28 (fun a30 => lt (w3 + (g_I S27 107 a30)) (fun y33 => wp_X8_owed_L11 f0 f1 f2 Q EQ n S27 y33 (w4 + (1 : Int32))))))))) else (wp_X8_owed_L11 f0 f1 f2 Q EQ n S14 w3 (w4 + (1 : Int32)))))))))))))
def wp_X8_owed (S : Hp) (x0 : Nat) (x1 : Int32) (Q : Int32 → Hp → Prop) (EQ : String → Hp → Prop) : Prop :=
  okA S 8 x0 ∧ (wp_X8_troopAt S x0 x1 (fun r3 S2 => ∃ n34, wp_X8_owed_L11 x0 x1 r3 Q EQ n34 S2 (0 : Int32) (0 : Int32)) EQ)
def rm_X8_owed : Room := { frames := 8, cells := 1, slots := 6, locals := 124 }
set_option maxHeartbeats 4000000 in
set_option maxRecDepth 100000 in
theorem l_X8_owed_L11 (l : Launch) (hfl : l.stackTraces = false) (v : Ev) (f0 : Nat) (f1 : Int32) (f2 : Option Nat) (Q : Int32 → Hp → Prop) (EQ : String → Hp → Prop) {z : Z9} (C : Cx l v RX8 cX8_owed 5 (some .int) "owed" z) (N : NT z) (T : EE v rm_X8_owed (QI v Q) EQ z) : ∀ (n : Nat) (S : Hp) (w3 : Int32) (w4 : Int32), wp_X8_owed_L11 f0 f1 f2 Q EQ n S w3 w4 → ZZ l v 5 rm_X8_owed z 1 6 S 11 [(0, va_rf (some f0)), (1, .int f1), (2, va_rf f2), (3, .int w3), (4, .int w4)] [] := by
  intro n
  induction n with
  | zero =>
    intro S w3 w4 h
    exact h.elim
  | succ n ih =>
    intro S w3 w4 h
    unfold wp_X8_owed_L11 at h
    refine z_iload C (pc := 11) dX8_owed_11 4 rfl ?_
    refine z_aload_n C (pc := 13) dX8_owed_13 0 rfl ?_
    obtain ⟨o4, h⟩ := h
    refine z_getP C (pc := 14) kf8 1 (by decide) rfl bw_75 (fun _ _ _ _ h => h) dX8_owed_14 rfl o4 ?_
    obtain ⟨a5, e6, o7, h⟩ := h
    refine z_Vi C (pc := 17) (KX := fun _ _ => False) (kc' := 1) (ks' := 6) (As := []) (rest := [.int w4]) e6 (c_Jx4a65c_size_8abf5 l v S a5) mw_Jx4a65c_size_8abf5 bw_121 bw_122 bw_123 (fit_of rfl) rfl rfl (Nat.le_of_ble_eq_true rfl) (by decide) rfl o7 dX8_owed_17 h (fun r9 S8 h => ?_) (fun En S9 h => h.elim)
    refine z_icmp_ge C (pc := 20) (tgt := 69) dX8_owed_20 (by decide) h (fun h => ?_) (fun h => ?_)
    · refine z_iload_n C (pc := 69) dX8_owed_69 3 rfl ?_
      exact z_iret C (pc := 70) T dX8_owed_70 (by decide) (by decide) h
    · refine z_aload_n C (pc := 23) dX8_owed_23 0 rfl ?_
      obtain ⟨o10, h⟩ := h
      refine z_getP C (pc := 24) kf8 1 (by decide) rfl bw_75 (fun _ _ _ _ h => h) dX8_owed_24 rfl o10 ?_
      refine z_iload C (pc := 27) dX8_owed_27 4 rfl ?_
      obtain ⟨a11, e12, o13, h⟩ := h
      refine z_Vq C (pc := 29) (KX := fun _ _ => False) (kc' := 1) (ks' := 6) (As := [.int w4]) (rest := []) e12 (c_Jx4a65c_get_915e3 l v S8 a11 w4) mw_Jx4a65c_get_915e3 bw_196 bw_197 bw_198 (fit_of rfl) rfl rfl (Nat.le_of_ble_eq_true rfl) (by decide) rfl o13 dX8_owed_29 h (fun r15 S14 h => ?_) (fun En S9 h => h.elim)
      obtain ⟨k16, h⟩ := h
      refine z_cast C (pc := 32) (κ := 1) (by decide) rfl bw_210 dX8_owed_32 k16 ?_
      obtain ⟨a17, e18, o19, h⟩ := h
      refine z_getI C (pc := 35) kf1 8 (by decide) rfl bw_504 (fun _ _ _ _ h => h) dX8_owed_35 e18 o19 ?_
      refine z_aload_n C (pc := 38) dX8_owed_38 2 rfl ?_
      obtain ⟨a20, e21, o22, h⟩ := h
      refine z_getI C (pc := 39) kf7 0 (by decide) rfl bw_405 (fun _ _ _ _ h => h) dX8_owed_39 e21 o22 ?_
      refine z_icmp_ne C (pc := 42) (tgt := 63) dX8_owed_42 (by decide) h (fun h => ?_) (fun h => ?_)
      · refine z_iinc C (pc := 63) (y := w4 + (1 : Int32)) (lv' := [(4, .int (w4 + (1 : Int32))), (0, va_rf (some f0)), (1, .int f1), (2, va_rf f2), (3, .int w3)]) dX8_owed_63 4 rfl rfl (by decide) rfl ?_
        refine z_goto C (pc := 66) (tgt := 11) dX8_owed_66 (by decide) ?_
        refine z_sub [1, 2, 3, 4, 0] (lv' := [(0, va_rf (some f0)), (1, .int f1), (2, va_rf f2), (3, .int w3), (4, .int (w4 + (1 : Int32)))]) rfl ?_
        exact ih S14 w3 (w4 + (1 : Int32)) h
      · refine z_iload_n C (pc := 45) dX8_owed_45 3 rfl ?_
        refine z_aload_n C (pc := 46) dX8_owed_46 0 rfl ?_
        obtain ⟨o23, h⟩ := h
        refine z_getP C (pc := 47) kf8 1 (by decide) rfl bw_75 (fun _ _ _ _ h => h) dX8_owed_47 rfl o23 ?_
        refine z_iload C (pc := 50) dX8_owed_50 4 rfl ?_
        obtain ⟨a24, e25, o26, h⟩ := h
        refine z_Vq C (pc := 52) (KX := fun _ _ => False) (kc' := 1) (ks' := 6) (As := [.int w4]) (rest := [.int w3]) e25 (c_Jx4a65c_get_915e3 l v S14 a24 w4) mw_Jx4a65c_get_915e3 bw_196 bw_197 bw_198 (fit_of rfl) rfl rfl (Nat.le_of_ble_eq_true rfl) (by decide) rfl o26 dX8_owed_52 h (fun r28 S27 h => ?_) (fun En S9 h => h.elim)
        obtain ⟨k29, h⟩ := h
        refine z_cast C (pc := 55) (κ := 1) (by decide) rfl bw_210 dX8_owed_55 k29 ?_
        obtain ⟨a30, e31, o32, h⟩ := h
        refine z_getI C (pc := 58) kf1 7 (by decide) rfl bw_502 (fun _ _ _ _ h => h) dX8_owed_58 e31 o32 ?_
        refine z_iadd C (pc := 61) dX8_owed_61 ?_
        refine z_nI h (fun y33 h => ?_)
        refine z_istore_n C (pc := 62) (lv' := [(3, .int y33), (0, va_rf (some f0)), (1, .int f1), (2, va_rf f2), (4, .int w4)]) dX8_owed_62 (by decide) rfl ?_
        refine z_iinc C (pc := 63) (y := w4 + (1 : Int32)) (lv' := [(4, .int (w4 + (1 : Int32))), (3, .int y33), (0, va_rf (some f0)), (1, .int f1), (2, va_rf f2)]) dX8_owed_63 4 rfl rfl (by decide) rfl ?_
        refine z_goto C (pc := 66) (tgt := 11) dX8_owed_66 (by decide) ?_
        refine z_sub [2, 3, 4, 1, 0] (lv' := [(0, va_rf (some f0)), (1, .int f1), (2, va_rf f2), (3, .int y33), (4, .int (w4 + (1 : Int32)))]) rfl ?_
        exact ih S27 y33 (w4 + (1 : Int32)) h
set_option maxHeartbeats 4000000 in
set_option maxRecDepth 100000 in
theorem c_X8_owed (l : Launch) (hfl : l.stackTraces = false) (v : Ev) (S : Hp) (x0 : Nat) (x1 : Int32) : CI l v yX8_owed cX8_owed 5 (some .int) rm_X8_owed [va_rf (some x0), .int x1] S (fun Q EQ => wp_X8_owed S x0 x1 Q EQ) := by
  intro Q EQ h
  refine z_start [(0, va_rf (some x0)), (1, .int x1)] (by decide +kernel) (by simp only [la_i, la_r, la_n]) (cat_cr (cat_ci cat_nil)) (by simp only [ls_i, ls_r, ls_n]; decide) (fun z C N T => ?_)
  unfold wp_X8_owed at h
  refine z_aload_n C (pc := 0) dX8_owed_0 0 rfl ?_
  refine z_iload_n C (pc := 1) dX8_owed_1 1 rfl ?_
  obtain ⟨o1, h⟩ := h
  refine z_Vq C (pc := 2) (kc' := 1) (ks' := 6) (As := [.int x1]) (rest := []) rfl (c_X8_troopAt l hfl v S x0 x1) mw_X8_troopAt bw_260 bw_262 bw_p2 (fit_of rfl) rfl rfl (Nat.le_of_ble_eq_true rfl) (by decide) rfl o1 dX8_owed_2 h (fun r3 S2 h => ?_) (fun En S9 h => z_out C T N (by decide) (by decide) h)
  refine z_astore_n C (pc := 5) (lv' := [(2, va_rf r3), (0, va_rf (some x0)), (1, .int x1)]) dX8_owed_5 (by decide) rfl ?_
  refine z_iconst C (pc := 6) (x := (0 : Int32)) dX8_owed_6 kic_0 ?_
  refine z_istore_n C (pc := 7) (lv' := [(3, .int (0 : Int32)), (2, va_rf r3), (0, va_rf (some x0)), (1, .int x1)]) dX8_owed_7 (by decide) rfl ?_
  refine z_iconst C (pc := 8) (x := (0 : Int32)) dX8_owed_8 kic_0 ?_
  refine z_istore C (pc := 9) (lv' := [(4, .int (0 : Int32)), (3, .int (0 : Int32)), (2, va_rf r3), (0, va_rf (some x0)), (1, .int x1)]) dX8_owed_9 (by decide) rfl ?_
  obtain ⟨n34, h⟩ := h
  refine z_sub [3, 4, 2, 1, 0] (lv' := [(0, va_rf (some x0)), (1, .int x1), (2, va_rf r3), (3, .int (0 : Int32)), (4, .int (0 : Int32))]) rfl ?_
  exact l_X8_owed_L11 l hfl v x0 x1 r3 Q EQ C N T n34 S2 (0 : Int32) (0 : Int32) h
def wp_X8_today (S : Hp) (x0 : Nat) (Q : Int32 → Hp → Prop) : Prop :=
  okA S 8 x0 ∧ (Q (g_I S 805 x0) S)
def rm_X8_today : Room := { frames := 0, cells := 0, slots := 0, locals := 0 }
set_option maxHeartbeats 4000000 in
set_option maxRecDepth 100000 in
theorem c_X8_today (l : Launch) (v : Ev) (S : Hp) (x0 : Nat) : CI l v yX8_today cX8_today 1 (some .int) rm_X8_today [va_rf (some x0)] S (fun Q _ => wp_X8_today S x0 Q) := by
  intro Q EQ h
  refine z_start [(0, va_rf (some x0))] (by decide +kernel) (by simp only [la_i, la_r, la_n]) (cat_cr cat_nil) (by simp only [ls_i, ls_r, ls_n]; decide) (fun z C N T => ?_)
  unfold wp_X8_today at h
  refine z_aload_n C (pc := 0) dX8_today_0 0 rfl ?_
  obtain ⟨o1, h⟩ := h
  refine z_getI C (pc := 1) kf8 5 (by decide) rfl bw_79 (fun _ _ _ _ h => h) dX8_today_1 rfl o1 ?_
  exact z_iret C (pc := 4) T dX8_today_4 (by decide) (by decide) h
def wp_X8_ofChild (S : Hp) (x0 : Nat) (x1 : Int32) (x2 : Int32) (Q : Int32 → Hp → Prop) (EQ : String → Hp → Prop) : Prop :=
  okA S 8 x0 ∧ (wp_X8_childAt S x0 x1 (fun r3 S2 => if x2 = (0 : Int32) then (rd S2 1 r3 (fun a4 => Q (g_I S2 101 a4) S2)) else (if x2 = (1 : Int32) then (rd S2 1 r3 (fun a8 => Q (g_I S2 102 a8) S2)) else (if x2 = (2 : Int32) then (rd S2 1 r3 (fun a12 => Q (g_I S2 103 a12) S2)) else (if x2 = (3 : Int32) then (rd S2 1 r3 (fun a16 => Q (g_I S2 104 a16) S2)) else (if x2 = (4 : Int32) then (okA S2 8 x0 ∧ (rd S2 1 r3 (fun a21 => wp_X1_badgesBy S2 a21 (g_I S2 805 x0) (fun r25 S24 => Q r25 S24)))) else (if x2 = (5 : Int32) then (rd S2 1 r3 (fun a27 => Q (g_I S2 107 a27) S2)) else (EQ "java/lang/IllegalArgumentException" S2))))))) EQ)
def rm_X8_ofChild : Room := { frames := 8, cells := 2, slots := 12, locals := 124 }
set_option maxHeartbeats 4000000 in
set_option maxRecDepth 100000 in
theorem c_X8_ofChild (l : Launch) (hfl : l.stackTraces = false) (v : Ev) (S : Hp) (x0 : Nat) (x1 : Int32) (x2 : Int32) : CI l v yX8_ofChild cX8_ofChild 4 (some .int) rm_X8_ofChild [va_rf (some x0), .int x1, .int x2] S (fun Q EQ => wp_X8_ofChild S x0 x1 x2 Q EQ) := by
  intro Q EQ h
  refine z_start [(0, va_rf (some x0)), (1, .int x1), (2, .int x2)] (by decide +kernel) (by simp only [la_i, la_r, la_n]) (cat_cr (cat_ci (cat_ci cat_nil))) (by simp only [ls_i, ls_r, ls_n]; decide) (fun z C N T => ?_)
  unfold wp_X8_ofChild at h
  refine z_aload_n C (pc := 0) dX8_ofChild_0 0 rfl ?_
  refine z_iload_n C (pc := 1) dX8_ofChild_1 1 rfl ?_
  obtain ⟨o1, h⟩ := h
  refine z_Vq C (pc := 2) (kc' := 1) (ks' := 6) (As := [.int x1]) (rest := []) rfl (c_X8_childAt l hfl v S x0 x1) mw_X8_childAt bw_117 bw_119 bw_p0 (fit_of rfl) rfl rfl (Nat.le_of_ble_eq_true rfl) (by decide) rfl o1 dX8_ofChild_2 h (fun r3 S2 h => ?_) (fun En S9 h => z_out C T N (by decide) (by decide) h)
  refine z_astore_n C (pc := 5) (lv' := [(3, va_rf r3), (0, va_rf (some x0)), (1, .int x1), (2, .int x2)]) dX8_ofChild_5 (by decide) rfl ?_
  refine z_iload_n C (pc := 6) dX8_ofChild_6 3 rfl ?_
  refine z_swc C (pc := 7) (x := x2) (c := (0 : Int32)) dX8_ofChild_7 h (by decide) (by decide) rfl (tgt := 44) (by decide) (fun h => ?_) (fun n7 h => ?_)
  · refine z_aload_n C (pc := 44) dX8_ofChild_44 0 rfl ?_
    obtain ⟨a4, e5, o6, h⟩ := h
    refine z_getI C (pc := 45) kf1 1 (by decide) rfl bw_493 (fun _ _ _ _ h => h) dX8_ofChild_45 e5 o6 ?_
    exact z_iret C (pc := 48) T dX8_ofChild_48 (by decide) (by decide) h
  refine z_swc C (pc := 7) (x := x2) (c := (1 : Int32)) dX8_ofChild_7 h (by decide) (by decide) rfl (tgt := 49) (by decide) (fun h => ?_) (fun n11 h => ?_)
  · refine z_aload_n C (pc := 49) dX8_ofChild_49 0 rfl ?_
    obtain ⟨a8, e9, o10, h⟩ := h
    refine z_getI C (pc := 50) kf1 2 (by decide) rfl bw_495 (fun _ _ _ _ h => h) dX8_ofChild_50 e9 o10 ?_
    exact z_iret C (pc := 53) T dX8_ofChild_53 (by decide) (by decide) h
  refine z_swc C (pc := 7) (x := x2) (c := (2 : Int32)) dX8_ofChild_7 h (by decide) (by decide) rfl (tgt := 54) (by decide) (fun h => ?_) (fun n15 h => ?_)
  · refine z_aload_n C (pc := 54) dX8_ofChild_54 0 rfl ?_
    obtain ⟨a12, e13, o14, h⟩ := h
    refine z_getI C (pc := 55) kf1 3 (by decide) rfl bw_497 (fun _ _ _ _ h => h) dX8_ofChild_55 e13 o14 ?_
    exact z_iret C (pc := 58) T dX8_ofChild_58 (by decide) (by decide) h
  refine z_swc C (pc := 7) (x := x2) (c := (3 : Int32)) dX8_ofChild_7 h (by decide) (by decide) rfl (tgt := 59) (by decide) (fun h => ?_) (fun n19 h => ?_)
  · refine z_aload_n C (pc := 59) dX8_ofChild_59 0 rfl ?_
    obtain ⟨a16, e17, o18, h⟩ := h
    refine z_getI C (pc := 60) kf1 4 (by decide) rfl bw_499 (fun _ _ _ _ h => h) dX8_ofChild_60 e17 o18 ?_
    exact z_iret C (pc := 63) T dX8_ofChild_63 (by decide) (by decide) h
  refine z_swc C (pc := 7) (x := x2) (c := (4 : Int32)) dX8_ofChild_7 h (by decide) (by decide) rfl (tgt := 64) (by decide) (fun h => ?_) (fun n26 h => ?_)
  · refine z_aload_n C (pc := 64) dX8_ofChild_64 0 rfl ?_
    refine z_aload_n C (pc := 65) dX8_ofChild_65 1 rfl ?_
    obtain ⟨o20, h⟩ := h
    refine z_getI C (pc := 66) kf8 5 (by decide) rfl bw_79 (fun _ _ _ _ h => h) dX8_ofChild_66 rfl o20 ?_
    obtain ⟨a21, e22, o23, h⟩ := h
    refine z_Vi C (pc := 69) (KX := fun _ _ => False) (kc' := 1) (ks' := 6) (As := [.int (g_I S2 805 x0)]) (rest := []) e22 (c_X1_badgesBy l v S2 a21 (g_I S2 805 x0)) mw_X1_badgesBy bw_211 bw_212 bw_213 (fit_of rfl) rfl rfl (Nat.le_of_ble_eq_true rfl) (by decide) rfl o23 dX8_ofChild_69 h (fun r25 S24 h => ?_) (fun En S9 h => h.elim)
    exact z_iret C (pc := 72) T dX8_ofChild_72 (by decide) (by decide) h
  refine z_swc C (pc := 7) (x := x2) (c := (5 : Int32)) dX8_ofChild_7 h (by decide) (by decide) rfl (tgt := 73) (by decide) (fun h => ?_) (fun n30 h => ?_)
  · refine z_aload_n C (pc := 73) dX8_ofChild_73 0 rfl ?_
    obtain ⟨a27, e28, o29, h⟩ := h
    refine z_getI C (pc := 74) kf1 7 (by decide) rfl bw_502 (fun _ _ _ _ h => h) dX8_ofChild_74 e28 o29 ?_
    exact z_iret C (pc := 77) T dX8_ofChild_77 (by decide) (by decide) h
  refine z_tabOut C (pc := 7) (tgt := 78) dX8_ofChild_7 (by have := lv_neT n7 (a := 0) rfl; have := lv_neT n11 (a := 1) rfl; have := lv_neT n15 (a := 2) rfl; have := lv_neT n19 (a := 3) rfl; have := lv_neT n26 (a := 4) rfl; have := lv_neT n30 (a := 5) rfl; omega) (by decide) ?_
  exact z_throwW C (pc := 78) (text := "there is no such thing to tell of a child") (names := ["java/lang/RuntimeException", "java/lang/Exception"]) hfl T N ft_IllegalArgumentException bw_224 bw_9 st_X8_275 at_X8_179 go_X8_179 ⟨by decide +kernel, by decide +kernel⟩ dX8_ofChild_78 dX8_ofChild_81 dX8_ofChild_82 dX8_ofChild_85 dX8_ofChild_88 ⟨by decide, Nat.le_of_ble_eq_true rfl, by decide, by decide⟩ h
def wp_X8_ofTroop (S : Hp) (x0 : Nat) (x1 : Int32) (x2 : Int32) (Q : Int32 → Hp → Prop) (EQ : String → Hp → Prop) : Prop :=
  okA S 8 x0 ∧ (wp_X8_troopAt S x0 x1 (fun r3 S2 => if x2 = 0 then (rd S2 7 r3 (fun a4 => okA S2 8 x0 ∧ (wp_X8_childrenIn S2 x0 (g_I S2 700 a4) (fun r9 S8 => Q r9 S8)))) else (rd S2 7 r3 (fun a10 => okA S2 8 x0 ∧ (wp_X8_waitingFor S2 x0 (g_I S2 700 a10) (fun r15 S14 => Q r15 S14))))) EQ)
def rm_X8_ofTroop : Room := { frames := 8, cells := 1, slots := 6, locals := 124 }
set_option maxHeartbeats 4000000 in
set_option maxRecDepth 100000 in
theorem c_X8_ofTroop (l : Launch) (hfl : l.stackTraces = false) (v : Ev) (S : Hp) (x0 : Nat) (x1 : Int32) (x2 : Int32) : CI l v yX8_ofTroop cX8_ofTroop 4 (some .int) rm_X8_ofTroop [va_rf (some x0), .int x1, .int x2] S (fun Q EQ => wp_X8_ofTroop S x0 x1 x2 Q EQ) := by
  intro Q EQ h
  refine z_start [(0, va_rf (some x0)), (1, .int x1), (2, .int x2)] (by decide +kernel) (by simp only [la_i, la_r, la_n]) (cat_cr (cat_ci (cat_ci cat_nil))) (by simp only [ls_i, ls_r, ls_n]; decide) (fun z C N T => ?_)
  unfold wp_X8_ofTroop at h
  refine z_aload_n C (pc := 0) dX8_ofTroop_0 0 rfl ?_
  refine z_iload_n C (pc := 1) dX8_ofTroop_1 1 rfl ?_
  obtain ⟨o1, h⟩ := h
  refine z_Vq C (pc := 2) (kc' := 1) (ks' := 6) (As := [.int x1]) (rest := []) rfl (c_X8_troopAt l hfl v S x0 x1) mw_X8_troopAt bw_260 bw_262 bw_p2 (fit_of rfl) rfl rfl (Nat.le_of_ble_eq_true rfl) (by decide) rfl o1 dX8_ofTroop_2 h (fun r3 S2 h => ?_) (fun En S9 h => z_out C T N (by decide) (by decide) h)
  refine z_astore_n C (pc := 5) (lv' := [(3, va_rf r3), (0, va_rf (some x0)), (1, .int x1), (2, .int x2)]) dX8_ofTroop_5 (by decide) rfl ?_
  refine z_iload_n C (pc := 6) dX8_ofTroop_6 3 rfl ?_
  refine z_if_eq C (pc := 7) (tgt := 21) dX8_ofTroop_7 (by decide) h (fun h => ?_) (fun h => ?_)
  · refine z_aload_n C (pc := 21) dX8_ofTroop_21 1 rfl ?_
    refine z_aload_n C (pc := 22) dX8_ofTroop_22 0 rfl ?_
    obtain ⟨a4, e5, o6, h⟩ := h
    refine z_getI C (pc := 23) kf7 0 (by decide) rfl bw_405 (fun _ _ _ _ h => h) dX8_ofTroop_23 e5 o6 ?_
    obtain ⟨o7, h⟩ := h
    refine z_Vi C (pc := 26) (KX := fun _ _ => False) (kc' := 1) (ks' := 6) (As := [.int (g_I S2 700 a4)]) (rest := []) rfl (c_X8_childrenIn l v S2 x0 (g_I S2 700 a4)) mw_X8_childrenIn bw_269 bw_271 bw_p4 (fit_of rfl) rfl rfl (Nat.le_of_ble_eq_true rfl) (by decide) rfl o7 dX8_ofTroop_26 h (fun r9 S8 h => ?_) (fun En S9 h => h.elim)
    exact z_iret C (pc := 29) T dX8_ofTroop_29 (by decide) (by decide) h
  · refine z_aload_n C (pc := 10) dX8_ofTroop_10 1 rfl ?_
    refine z_aload_n C (pc := 11) dX8_ofTroop_11 0 rfl ?_
    obtain ⟨a10, e11, o12, h⟩ := h
    refine z_getI C (pc := 12) kf7 0 (by decide) rfl bw_405 (fun _ _ _ _ h => h) dX8_ofTroop_12 e11 o12 ?_
    obtain ⟨o13, h⟩ := h
    refine z_Vi C (pc := 15) (KX := fun _ _ => False) (kc' := 1) (ks' := 6) (As := [.int (g_I S2 700 a10)]) (rest := []) rfl (c_X8_waitingFor l v S2 x0 (g_I S2 700 a10)) mw_X8_waitingFor bw_265 bw_267 bw_p3 (fit_of rfl) rfl rfl (Nat.le_of_ble_eq_true rfl) (by decide) rfl o13 dX8_ofTroop_15 h (fun r15 S14 h => ?_) (fun En S9 h => h.elim)
    refine z_goto C (pc := 18) (tgt := 29) dX8_ofTroop_18 (by decide) ?_
    exact z_iret C (pc := 29) T dX8_ofTroop_29 (by decide) (by decide) h
def wp_X8_earned (S : Hp) (x0 : Nat) (x1 : Int32) (x2 : Int32) (Q : Int32 → Hp → Prop) (EQ : String → Hp → Prop) : Prop :=
  okA S 8 x0 ∧ (wp_X8_childAt S x0 x1 (fun r3 S2 => wp_X8_requireIndex S2 x2 (8 : Int32) (fun S4 => rd S4 1 r3 (fun a5 => wp_X1_dayEarned S4 a5 x2 (fun r9 S8 => okA S8 8 x0 ∧ (if (g_I S8 805 x0) < r9 then (Q (-1 : Int32) S8) else (Q r9 S8))))) EQ) EQ)
def rm_X8_earned : Room := { frames := 8, cells := 2, slots := 12, locals := 124 }
set_option maxHeartbeats 4000000 in
set_option maxRecDepth 100000 in
theorem c_X8_earned (l : Launch) (hfl : l.stackTraces = false) (v : Ev) (S : Hp) (x0 : Nat) (x1 : Int32) (x2 : Int32) : CI l v yX8_earned cX8_earned 5 (some .int) rm_X8_earned [va_rf (some x0), .int x1, .int x2] S (fun Q EQ => wp_X8_earned S x0 x1 x2 Q EQ) := by
  intro Q EQ h
  refine z_start [(0, va_rf (some x0)), (1, .int x1), (2, .int x2)] (by decide +kernel) (by simp only [la_i, la_r, la_n]) (cat_cr (cat_ci (cat_ci cat_nil))) (by simp only [ls_i, ls_r, ls_n]; decide) (fun z C N T => ?_)
  unfold wp_X8_earned at h
  refine z_aload_n C (pc := 0) dX8_earned_0 0 rfl ?_
  refine z_iload_n C (pc := 1) dX8_earned_1 1 rfl ?_
  obtain ⟨o1, h⟩ := h
  refine z_Vq C (pc := 2) (kc' := 1) (ks' := 6) (As := [.int x1]) (rest := []) rfl (c_X8_childAt l hfl v S x0 x1) mw_X8_childAt bw_117 bw_119 bw_p0 (fit_of rfl) rfl rfl (Nat.le_of_ble_eq_true rfl) (by decide) rfl o1 dX8_earned_2 h (fun r3 S2 h => ?_) (fun En S9 h => z_out C T N (by decide) (by decide) h)
  refine z_astore_n C (pc := 5) (lv' := [(3, va_rf r3), (0, va_rf (some x0)), (1, .int x1), (2, .int x2)]) dX8_earned_5 (by decide) rfl ?_
  refine z_iload_n C (pc := 6) dX8_earned_6 3 rfl ?_
  refine z_bipush C (pc := 7) (x := (8 : Int32)) dX8_earned_7 kbp_8 ?_
  refine z_Sv C (pc := 9) (kc' := 2) (ks' := 12) (As := [.int x2, .int (8 : Int32)]) (rest := []) (c_X8_requireIndex l hfl v S2 x2 (8 : Int32)) mw_X8_requireIndex bw_125 bw_126 (fit_of rfl) rfl rfl (Nat.le_of_ble_eq_true rfl) dX8_earned_9 h (fun S4 h => ?_) (fun En S9 h => z_out C T N (by decide) (by decide) h)
  refine z_aload_n C (pc := 12) dX8_earned_12 0 rfl ?_
  refine z_iload_n C (pc := 13) dX8_earned_13 3 rfl ?_
  obtain ⟨a5, e6, o7, h⟩ := h
  refine z_Vi C (pc := 14) (KX := fun _ _ => False) (kc' := 2) (ks' := 12) (As := [.int x2]) (rest := []) e6 (c_X1_dayEarned l v S4 a5 x2) mw_X1_dayEarned bw_244 bw_216 bw_217 (fit_of rfl) rfl rfl (Nat.le_of_ble_eq_true rfl) (by decide) rfl o7 dX8_earned_14 h (fun r9 S8 h => ?_) (fun En S9 h => h.elim)
  refine z_istore C (pc := 17) (lv' := [(4, .int r9), (3, va_rf r3), (0, va_rf (some x0)), (1, .int x1), (2, .int x2)]) dX8_earned_17 (by decide) rfl ?_
  refine z_iload C (pc := 19) dX8_earned_19 0 rfl ?_
  refine z_aload_n C (pc := 21) dX8_earned_21 2 rfl ?_
  obtain ⟨o10, h⟩ := h
  refine z_getI C (pc := 22) kf8 5 (by decide) rfl bw_79 (fun _ _ _ _ h => h) dX8_earned_22 rfl o10 ?_
  refine z_icmp_gt C (pc := 25) (tgt := 33) dX8_earned_25 (by decide) h (fun h => ?_) (fun h => ?_)
  · refine z_iconst C (pc := 33) (x := (-1 : Int32)) dX8_earned_33 kic_m1 ?_
    exact z_iret C (pc := 34) T dX8_earned_34 (by decide) (by decide) h
  · refine z_iload C (pc := 28) dX8_earned_28 0 rfl ?_
    refine z_goto C (pc := 30) (tgt := 34) dX8_earned_30 (by decide) ?_
    exact z_iret C (pc := 34) T dX8_earned_34 (by decide) (by decide) h
def wp_X8_holds (S : Hp) (x0 : Nat) (x1 : Int32) (x2 : Int32) (Q : Int32 → Hp → Prop) (EQ : String → Hp → Prop) : Prop :=
  okA S 8 x0 ∧ (wp_X8_childAt S x0 x1 (fun r3 S2 => wp_X8_requireIndex S2 x2 (8 : Int32) (fun S4 => rd S4 1 r3 (fun a5 => wp_X1_courseOf S4 a5 x2 (fun r9 S8 => if r9 = none then (bz (0 : Int32) (Q (0 : Int32) S8)) else (okA S8 8 x0 ∧ (rd S8 2 r9 (fun a11 => wp_X2_isHeldOn S8 a11 (g_I S8 805 x0) (fun r15 S14 => if r15 = 0 then (bz (0 : Int32) (Q (0 : Int32) S14)) else (bz (1 : Int32) (Q (1 : Int32) S14))))))))) EQ) EQ)
def rm_X8_holds : Room := { frames := 8, cells := 2, slots := 12, locals := 124 }
set_option maxHeartbeats 4000000 in
set_option maxRecDepth 100000 in
theorem c_X8_holds (l : Launch) (hfl : l.stackTraces = false) (v : Ev) (S : Hp) (x0 : Nat) (x1 : Int32) (x2 : Int32) : CI l v yX8_holds cX8_holds 5 (some .boolean) rm_X8_holds [va_rf (some x0), .int x1, .int x2] S (fun Q EQ => wp_X8_holds S x0 x1 x2 Q EQ) := by
  intro Q EQ h
  refine z_start [(0, va_rf (some x0)), (1, .int x1), (2, .int x2)] (by decide +kernel) (by simp only [la_i, la_r, la_n]) (cat_cr (cat_ci (cat_ci cat_nil))) (by simp only [ls_i, ls_r, ls_n]; decide) (fun z C N T => ?_)
  unfold wp_X8_holds at h
  refine z_aload_n C (pc := 0) dX8_holds_0 0 rfl ?_
  refine z_iload_n C (pc := 1) dX8_holds_1 1 rfl ?_
  obtain ⟨o1, h⟩ := h
  refine z_Vq C (pc := 2) (kc' := 1) (ks' := 6) (As := [.int x1]) (rest := []) rfl (c_X8_childAt l hfl v S x0 x1) mw_X8_childAt bw_117 bw_119 bw_p0 (fit_of rfl) rfl rfl (Nat.le_of_ble_eq_true rfl) (by decide) rfl o1 dX8_holds_2 h (fun r3 S2 h => ?_) (fun En S9 h => z_out C T N (by decide) (by decide) h)
  refine z_astore_n C (pc := 5) (lv' := [(3, va_rf r3), (0, va_rf (some x0)), (1, .int x1), (2, .int x2)]) dX8_holds_5 (by decide) rfl ?_
  refine z_iload_n C (pc := 6) dX8_holds_6 3 rfl ?_
  refine z_bipush C (pc := 7) (x := (8 : Int32)) dX8_holds_7 kbp_8 ?_
  refine z_Sv C (pc := 9) (kc' := 2) (ks' := 12) (As := [.int x2, .int (8 : Int32)]) (rest := []) (c_X8_requireIndex l hfl v S2 x2 (8 : Int32)) mw_X8_requireIndex bw_125 bw_126 (fit_of rfl) rfl rfl (Nat.le_of_ble_eq_true rfl) dX8_holds_9 h (fun S4 h => ?_) (fun En S9 h => z_out C T N (by decide) (by decide) h)
  refine z_aload_n C (pc := 12) dX8_holds_12 0 rfl ?_
  refine z_iload_n C (pc := 13) dX8_holds_13 3 rfl ?_
  obtain ⟨a5, e6, o7, h⟩ := h
  refine z_Vq C (pc := 14) (KX := fun _ _ => False) (kc' := 2) (ks' := 12) (As := [.int x2]) (rest := []) e6 (c_X1_courseOf l v S4 a5 x2) mw_X1_courseOf bw_249 bw_220 bw_221 (fit_of rfl) rfl rfl (Nat.le_of_ble_eq_true rfl) (by decide) rfl o7 dX8_holds_14 h (fun r9 S8 h => ?_) (fun En S9 h => h.elim)
  refine z_astore C (pc := 17) (lv' := [(4, va_rf r9), (3, va_rf r3), (0, va_rf (some x0)), (1, .int x1), (2, .int x2)]) dX8_holds_17 (by decide) rfl ?_
  refine z_aload C (pc := 19) dX8_holds_19 0 rfl ?_
  refine z_ifnull C (pc := 21) (tgt := 40) dX8_holds_21 (by decide) h (fun h => ?_) (fun h => ?_)
  · refine z_iconst C (pc := 40) (x := (0 : Int32)) dX8_holds_40 kic_0 ?_
    exact z_zret C (pc := 41) T dX8_holds_41 (by decide) (by decide) h
  · refine z_aload C (pc := 24) dX8_holds_24 0 rfl ?_
    refine z_aload_n C (pc := 26) dX8_holds_26 2 rfl ?_
    obtain ⟨o10, h⟩ := h
    refine z_getI C (pc := 27) kf8 5 (by decide) rfl bw_79 (fun _ _ _ _ h => h) dX8_holds_27 rfl o10 ?_
    obtain ⟨a11, e12, o13, h⟩ := h
    refine z_Vi C (pc := 30) (KX := fun _ _ => False) (kc' := 2) (ks' := 12) (As := [.int (g_I S8 805 x0)]) (rest := []) e12 (c_X2_isHeldOn l v S8 a11 (g_I S8 805 x0)) mw_X2_isHeldOn bw_250 bw_251 bw_252 (fit_of rfl) rfl rfl (Nat.le_of_ble_eq_true rfl) (by decide) rfl o13 dX8_holds_30 h (fun r15 S14 h => ?_) (fun En S9 h => h.elim)
    refine z_if_eq C (pc := 33) (tgt := 40) dX8_holds_33 (by decide) h (fun h => ?_) (fun h => ?_)
    · refine z_iconst C (pc := 40) (x := (0 : Int32)) dX8_holds_40 kic_0 ?_
      exact z_zret C (pc := 41) T dX8_holds_41 (by decide) (by decide) h
    · refine z_iconst C (pc := 36) (x := (1 : Int32)) dX8_holds_36 kic_1 ?_
      refine z_goto C (pc := 37) (tgt := 41) dX8_holds_37 (by decide) ?_
      exact z_zret C (pc := 41) T dX8_holds_41 (by decide) (by decide) h
def wp_X8_lacks (S : Hp) (x0 : Nat) (x1 : Int32) (x2 : Int32) (Q : Int32 → Hp → Prop) (EQ : String → Hp → Prop) : Prop :=
  okA S 8 x0 ∧ (wp_X8_childAt S x0 x1 (fun r3 S2 => wp_X8_requireIndex S2 x2 (8 : Int32) (fun S4 => rd S4 1 r3 (fun a5 => wp_X1_courseOf S4 a5 x2 (fun r9 S8 => if r9 = none then (EQ "java/lang/IllegalStateException" S8) else (rd S8 2 r9 (fun a10 => rd S8 3 (g_P S8 200 a10) (fun a13 => rd S8 1 r3 (fun a16 => Q ((g_I S8 300 a13) &&& ((g_I S8 109 a16) ^^^ (-1 : Int32))) S8))))))) EQ) EQ)
def rm_X8_lacks : Room := { frames := 8, cells := 3, slots := 18, locals := 124 }
set_option maxHeartbeats 4000000 in
set_option maxRecDepth 100000 in
theorem c_X8_lacks (l : Launch) (hfl : l.stackTraces = false) (v : Ev) (S : Hp) (x0 : Nat) (x1 : Int32) (x2 : Int32) : CI l v yX8_lacks cX8_lacks 5 (some .int) rm_X8_lacks [va_rf (some x0), .int x1, .int x2] S (fun Q EQ => wp_X8_lacks S x0 x1 x2 Q EQ) := by
  intro Q EQ h
  refine z_start [(0, va_rf (some x0)), (1, .int x1), (2, .int x2)] (by decide +kernel) (by simp only [la_i, la_r, la_n]) (cat_cr (cat_ci (cat_ci cat_nil))) (by simp only [ls_i, ls_r, ls_n]; decide) (fun z C N T => ?_)
  unfold wp_X8_lacks at h
  refine z_aload_n C (pc := 0) dX8_lacks_0 0 rfl ?_
  refine z_iload_n C (pc := 1) dX8_lacks_1 1 rfl ?_
  obtain ⟨o1, h⟩ := h
  refine z_Vq C (pc := 2) (kc' := 1) (ks' := 6) (As := [.int x1]) (rest := []) rfl (c_X8_childAt l hfl v S x0 x1) mw_X8_childAt bw_117 bw_119 bw_p0 (fit_of rfl) rfl rfl (Nat.le_of_ble_eq_true rfl) (by decide) rfl o1 dX8_lacks_2 h (fun r3 S2 h => ?_) (fun En S9 h => z_out C T N (by decide) (by decide) h)
  refine z_astore_n C (pc := 5) (lv' := [(3, va_rf r3), (0, va_rf (some x0)), (1, .int x1), (2, .int x2)]) dX8_lacks_5 (by decide) rfl ?_
  refine z_iload_n C (pc := 6) dX8_lacks_6 3 rfl ?_
  refine z_bipush C (pc := 7) (x := (8 : Int32)) dX8_lacks_7 kbp_8 ?_
  refine z_Sv C (pc := 9) (kc' := 2) (ks' := 12) (As := [.int x2, .int (8 : Int32)]) (rest := []) (c_X8_requireIndex l hfl v S2 x2 (8 : Int32)) mw_X8_requireIndex bw_125 bw_126 (fit_of rfl) rfl rfl (Nat.le_of_ble_eq_true rfl) dX8_lacks_9 h (fun S4 h => ?_) (fun En S9 h => z_out C T N (by decide) (by decide) h)
  refine z_aload_n C (pc := 12) dX8_lacks_12 0 rfl ?_
  refine z_iload_n C (pc := 13) dX8_lacks_13 3 rfl ?_
  obtain ⟨a5, e6, o7, h⟩ := h
  refine z_Vq C (pc := 14) (KX := fun _ _ => False) (kc' := 2) (ks' := 12) (As := [.int x2]) (rest := []) e6 (c_X1_courseOf l v S4 a5 x2) mw_X1_courseOf bw_249 bw_220 bw_221 (fit_of rfl) rfl rfl (Nat.le_of_ble_eq_true rfl) (by decide) rfl o7 dX8_lacks_14 h (fun r9 S8 h => ?_) (fun En S9 h => h.elim)
  refine z_astore C (pc := 17) (lv' := [(4, va_rf r9), (3, va_rf r3), (0, va_rf (some x0)), (1, .int x1), (2, .int x2)]) dX8_lacks_17 (by decide) rfl ?_
  refine z_aload C (pc := 19) dX8_lacks_19 0 rfl ?_
  refine z_ifnonnull C (pc := 21) (tgt := 35) dX8_lacks_21 (by decide) h (fun h => ?_) (fun h => ?_)
  · refine z_aload C (pc := 35) dX8_lacks_35 0 rfl ?_
    obtain ⟨a10, e11, o12, h⟩ := h
    refine z_getP C (pc := 37) kf2 0 (by decide) rfl bw_682 (fun _ _ _ _ h => h) dX8_lacks_37 e11 o12 ?_
    obtain ⟨a13, e14, o15, h⟩ := h
    refine z_getI C (pc := 40) kf3 0 (by decide) rfl bw_801 (fun _ _ _ _ h => h) dX8_lacks_40 e14 o15 ?_
    refine z_aload_n C (pc := 43) dX8_lacks_43 1 rfl ?_
    obtain ⟨a16, e17, o18, h⟩ := h
    refine z_getI C (pc := 44) kf1 9 (by decide) rfl bw_506 (fun _ _ _ _ h => h) dX8_lacks_44 e17 o18 ?_
    refine z_iconst C (pc := 47) (x := (-1 : Int32)) dX8_lacks_47 kic_m1 ?_
    refine z_ixor C (pc := 48) dX8_lacks_48 ?_
    refine z_iand C (pc := 49) dX8_lacks_49 ?_
    exact z_iret C (pc := 50) T dX8_lacks_50 (by decide) (by decide) h
  · exact z_throwW C (pc := 24) (text := "the badge was not begun") (names := ["java/lang/RuntimeException", "java/lang/Exception"]) hfl T N ft_IllegalStateException bw_383 bw_10 st_X8_289 at_X8_82 go_X8_82 ⟨by decide +kernel, by decide +kernel⟩ dX8_lacks_24 dX8_lacks_27 dX8_lacks_28 dX8_lacks_31 dX8_lacks_34 ⟨by decide, Nat.le_of_ble_eq_true rfl, by decide, by decide⟩ h
