def wp_L_children_B20 (Q : Int32 → Hp → Hp → Hp → Prop) (S1 S2 S : Hp) (w0 : Nat) (w1 : Nat) (w2 : Nat) (w3 : Int32) (w4 : Int32) (w5 : Int32) : Prop :=
  wp_L_some S w4 (10 : Int32) (fun r4 S3 => wp_L_both S1 S2 S3 w0 w1 (1 : Int32) ((5 : Int32) + r4) (0 : Int32) (0 : Int32) (0 : Int32) (fun r8 S5 S6 S7 => okA S7 11 w2 ∧ (vp_in (0 : Int32) (g_N S7 w2) ∧ (vp_in (0 : Int32) (g_N S7 w2) ∧ (lt (s_R S7 w2 (0 : Int32).toNatClampNeg ((g_R S7 w2 (0 : Int32).toNatClampNeg) + (if r8 < 0 then (0 : Int32) else (1 : Int32)))) (fun S14 => if r8 = (-2000000003 : Int32) then (okA S14 11 w2 ∧ (vp_in (0 : Int32) (g_N S14 w2) ∧ (if (g_R S14 w2 (0 : Int32).toNatClampNeg) = (24 : Int32) then (bz (1 : Int32) (Q (1 : Int32) S5 S6 S14)) else (bz (0 : Int32) (Q (0 : Int32) S5 S6 S14))))) else (okA S14 11 w2 ∧ (vp_in (0 : Int32) (g_N S14 w2) ∧ (if r8 = ((g_R S14 w2 (0 : Int32).toNatClampNeg) - (1 : Int32)) then (okA S5 8 w0 ∧ (wp_X8_ofChild S5 w0 r8 (0 : Int32) (fun r20 S19 => wp_L_some S14 w4 (10 : Int32) (fun r23 S22 => if r20 = ((5 : Int32) + r23) then (okA S19 8 w0 ∧ (wp_X8_ofChild S19 w0 r8 (1 : Int32) (fun r27 S26 => if r27 = (-1 : Int32) then (okA S26 8 w0 ∧ (wp_X8_ofChild S26 w0 r8 (5 : Int32) (fun r32 S31 => bz (if r32 = 0 then (1 : Int32) else (0 : Int32)) (Q (if r32 = 0 then (1 : Int32) else (0 : Int32)) S31 S6 S22)) (fun _ _ => False))) else (bz (0 : Int32) (Q (0 : Int32) S26 S6 S22))) (fun _ _ => False))) else (bz (0 : Int32) (Q (0 : Int32) S19 S6 S22)))) (fun _ _ => False))) else (bz (0 : Int32) (Q (0 : Int32) S5 S6 S14)))))))))))
def wp_L_children_B661 (Q : Int32 → Hp → Hp → Hp → Prop) (S1 S2 S : Hp) (w0 : Nat) (w1 : Nat) (w2 : Nat) (w3 : Int32) (w4 : Int32) (w5 : Int32) (w6 : Int32) (w7 : Int32) (w8 : Int32) (w9 : Int32) (w10 : Int32) : Prop :=
  wp_L_some S (w4 >>> ((5 : Int32) &&& 31)) (396 : Int32) (fun r62 S61 => lt ((1 : Int32) + r62) (fun y63 => wp_L_both S1 S2 S61 w0 w1 (18 : Int32) w6 y63 (0 : Int32) (0 : Int32) (fun r67 S64 S65 S66 => if r67 = (-2000000003 : Int32) then (if y63 ≤ w10 then (bz (0 : Int32) (Q (0 : Int32) S64 S65 S66)) else (bz (1 : Int32) (Q (1 : Int32) S64 S65 S66))) else (bz (if r67 = (w10 - y63) then (1 : Int32) else (0 : Int32)) (Q (if r67 = (w10 - y63) then (1 : Int32) else (0 : Int32)) S64 S65 S66)))))
def wp_L_children_B555 (Q : Int32 → Hp → Hp → Hp → Prop) (S1 S2 S : Hp) (w0 : Nat) (w1 : Nat) (w2 : Nat) (w3 : Int32) (w4 : Int32) (w5 : Int32) (w6 : Int32) (w7 : Int32) (w8 : Int32) (w9 : Int32) (w10 : Int32) : Prop :=
  wp_L_some S (w4 >>> ((5 : Int32) &&& 31)) (99 : Int32) (fun r71 S70 => lt ((1 : Int32) + r71) (fun y72 => wp_L_both S1 S2 S70 w0 w1 (17 : Int32) w6 y72 (0 : Int32) (0 : Int32) (fun r76 S73 S74 S75 => if r76 = (-2000000003 : Int32) then (okA S73 8 w0 ∧ (wp_X8_ofChild S73 w0 w6 (5 : Int32) (fun r87 S86 => if r87 = w10 then (if w7 = (-1 : Int32) then (bz (1 : Int32) (Q (1 : Int32) S86 S74 S75)) else (if 0 < w10 then (bz (1 : Int32) (Q (1 : Int32) S86 S74 S75)) else (if w10 = 0 then (bz (1 : Int32) (Q (1 : Int32) S86 S74 S75)) else (bz (0 : Int32) (Q (0 : Int32) S86 S74 S75))))) else (bz (0 : Int32) (Q (0 : Int32) S86 S74 S75))) (fun _ _ => False))) else (if w7 = (-1 : Int32) then (bz (0 : Int32) (Q (0 : Int32) S73 S74 S75)) else (if r76 = (w10 + ((4 : Int32) * y72)) then (okA S73 8 w0 ∧ (wp_X8_owed S73 w0 w7 (fun r82 S81 => bz (if r82 < r76 then (0 : Int32) else (1 : Int32)) (Q (if r82 < r76 then (0 : Int32) else (1 : Int32)) S81 S74 S75)) (fun _ _ => False))) else (bz (0 : Int32) (Q (0 : Int32) S73 S74 S75)))))))
def wp_L_children_B458 (Q : Int32 → Hp → Hp → Hp → Prop) (S1 S2 S : Hp) (w0 : Nat) (w1 : Nat) (w2 : Nat) (w3 : Int32) (w4 : Int32) (w5 : Int32) (w6 : Int32) (w7 : Int32) (w8 : Int32) (w9 : Int32) : Prop :=
  okA S1 8 w0 ∧ (wp_X8_ofChild S1 w0 w6 (3 : Int32) (fun r92 S91 => wp_L_some S (w4 >>> ((5 : Int32) &&& 31)) (4 : Int32) (fun r95 S94 => wp_L_both S91 S2 S94 w0 w1 (4 : Int32) w6 r95 (0 : Int32) (0 : Int32) (fun r99 S96 S97 S98 => if r99 = (-2000000003 : Int32) then (if w7 = (-1 : Int32) then (bz (1 : Int32) (Q (1 : Int32) S96 S97 S98)) else (bz (0 : Int32) (Q (0 : Int32) S96 S97 S98))) else (if r99 = r92 then (okA S96 8 w0 ∧ (wp_X8_ofChild S96 w0 w6 (3 : Int32) (fun r105 S104 => wp_L_some S98 (w4 >>> ((5 : Int32) &&& 31)) (4 : Int32) (fun r108 S107 => bz (if r105 = r108 then (1 : Int32) else (0 : Int32)) (Q (if r105 = r108 then (1 : Int32) else (0 : Int32)) S104 S97 S107))) (fun _ _ => False))) else (bz (0 : Int32) (Q (0 : Int32) S96 S97 S98)))))) (fun _ _ => False))
def wp_L_children_B327 (Q : Int32 → Hp → Hp → Hp → Prop) (S1 S2 S : Hp) (w0 : Nat) (w1 : Nat) (w2 : Nat) (w3 : Int32) (w4 : Int32) (w5 : Int32) (w6 : Int32) (w7 : Int32) (w8 : Int32) (w9 : Int32) : Prop :=
  okA S1 8 w0 ∧ (wp_X8_ofChild S1 w0 w6 (5 : Int32) (fun r112 S111 => wp_L_both S111 S2 S w0 w1 (3 : Int32) w6 (0 : Int32) (0 : Int32) (0 : Int32) (fun r117 S114 S115 S116 => if r117 = (-2000000003 : Int32) then (if w7 = (-1 : Int32) then (if w8 = (-1 : Int32) then (bz (1 : Int32) (Q (1 : Int32) S114 S115 S116)) else (bz (0 : Int32) (Q (0 : Int32) S114 S115 S116))) else (bz (0 : Int32) (Q (0 : Int32) S114 S115 S116))) else (okA S114 8 w0 ∧ (wp_X8_ofChild S114 w0 w6 (1 : Int32) (fun r123 S122 => if r123 = (-1 : Int32) then (okA S122 8 w0 ∧ (wp_X8_ofChild S122 w0 w6 (2 : Int32) (fun r128 S127 => if r128 = (-1 : Int32) then (okA S127 8 w0 ∧ (wp_X8_ofChild S127 w0 w6 (3 : Int32) (fun r133 S132 => if r133 = (-1 : Int32) then (okA S132 8 w0 ∧ (wp_X8_ofChild S132 w0 w6 (5 : Int32) (fun r138 S137 => if r138 = r112 then (if r117 = (-1 : Int32) then (bz (1 : Int32) (Q (1 : Int32) S137 S115 S116)) else (if w7 = (-1 : Int32) then (bz (0 : Int32) (Q (0 : Int32) S137 S115 S116)) else (okA S137 8 w0 ∧ (wp_X8_ofChild S137 w0 r117 (1 : Int32) (fun r143 S142 => bz (if r143 = w7 then (1 : Int32) else (0 : Int32)) (Q (if r143 = w7 then (1 : Int32) else (0 : Int32)) S142 S115 S116)) (fun _ _ => False))))) else (bz (0 : Int32) (Q (0 : Int32) S137 S115 S116))) (fun _ _ => False))) else (bz (0 : Int32) (Q (0 : Int32) S132 S115 S116))) (fun _ _ => False))) else (bz (0 : Int32) (Q (0 : Int32) S127 S115 S116))) (fun _ _ => False))) else (bz (0 : Int32) (Q (0 : Int32) S122 S115 S116))) (fun _ _ => False))))) (fun _ _ => False))
def wp_L_children_B182 (Q : Int32 → Hp → Hp → Hp → Prop) (S1 S2 S : Hp) (w0 : Nat) (w1 : Nat) (w2 : Nat) (w3 : Int32) (w4 : Int32) (w5 : Int32) (w6 : Int32) (w7 : Int32) (w8 : Int32) (w9 : Int32) : Prop :=
  okA S1 8 w0 ∧ (wp_X8_ofTroop S1 w0 w9 (0 : Int32) (fun r148 S147 => wp_L_both S147 S2 S w0 w1 (2 : Int32) w6 w9 (0 : Int32) (0 : Int32) (fun r153 S150 S151 S152 => if r153 = (-2000000003 : Int32) then (okA S150 8 w0 ∧ (wp_X8_ofChild S150 w0 w6 (1 : Int32) (fun r179 S178 => if r179 = w7 then (okA S178 8 w0 ∧ (wp_X8_ofChild S178 w0 w6 (2 : Int32) (fun r184 S183 => if r184 = w8 then (bz (1 : Int32) (Q (1 : Int32) S183 S151 S152)) else (bz (0 : Int32) (Q (0 : Int32) S183 S151 S152))) (fun _ _ => False))) else (bz (0 : Int32) (Q (0 : Int32) S178 S151 S152))) (fun _ _ => False))) else (if w7 = (-1 : Int32) then (if w8 = (-1 : Int32) then (if r153 = 0 then (okA S150 8 w0 ∧ (wp_X8_ofChild S150 w0 w6 (1 : Int32) (fun r169 S168 => if r169 = w9 then (okA S168 8 w0 ∧ (wp_X8_ofTroop S168 w0 w9 (0 : Int32) (fun r174 S173 => if r174 = (r148 + (1 : Int32)) then (bz (1 : Int32) (Q (1 : Int32) S173 S151 S152)) else (bz (0 : Int32) (Q (0 : Int32) S173 S151 S152))) (fun _ _ => False))) else (bz (0 : Int32) (Q (0 : Int32) S168 S151 S152))) (fun _ _ => False))) else (okA S150 8 w0 ∧ (wp_X8_ofChild S150 w0 w6 (2 : Int32) (fun r159 S158 => if r159 = w9 then (okA S158 8 w0 ∧ (wp_X8_ofTroop S158 w0 w9 (1 : Int32) (fun r164 S163 => bz (if r153 = r164 then (1 : Int32) else (0 : Int32)) (Q (if r153 = r164 then (1 : Int32) else (0 : Int32)) S163 S151 S152)) (fun _ _ => False))) else (bz (0 : Int32) (Q (0 : Int32) S158 S151 S152))) (fun _ _ => False)))) else (bz (0 : Int32) (Q (0 : Int32) S150 S151 S152))) else (bz (0 : Int32) (Q (0 : Int32) S150 S151 S152))))) (fun _ _ => False))
def wp_L_children_B135 (Q : Int32 → Hp → Hp → Hp → Prop) (S1 S2 S : Hp) (w0 : Nat) (w1 : Nat) (w2 : Nat) (w3 : Int32) (w4 : Int32) (w5 : Int32) : Prop :=
  okA S 11 w2 ∧ (vp_in (0 : Int32) (g_N S w2) ∧ (wp_L_some S w4 (g_R S w2 (0 : Int32).toNatClampNeg) (fun r41 S40 => okA S1 8 w0 ∧ (wp_X8_ofChild S1 w0 r41 (1 : Int32) (fun r45 S44 => okA S44 8 w0 ∧ (wp_X8_ofChild S44 w0 r41 (2 : Int32) (fun r50 S49 => okA S40 11 w2 ∧ (vp_in (1 : Int32) (g_N S40 w2) ∧ (wp_L_some S40 (w4 >>> ((5 : Int32) &&& 31)) (g_R S40 w2 (1 : Int32).toNatClampNeg) (fun r55 S54 => if (7 : Int32) ≤ w5 then (if (9 : Int32) ≤ w5 then (if (10 : Int32) ≤ w5 then (okA S49 8 w0 ∧ (wp_X8_ofChild S49 w0 r41 (5 : Int32) (fun r59 S58 => if (11 : Int32) ≤ w5 then (wp_L_children_B661 Q S58 S2 S54 w0 w1 w2 w3 w4 w5 r41 r45 r50 r55 r59) else (wp_L_children_B555 Q S58 S2 S54 w0 w1 w2 w3 w4 w5 r41 r45 r50 r55 r59)) (fun _ _ => False))) else (wp_L_children_B458 Q S49 S2 S54 w0 w1 w2 w3 w4 w5 r41 r45 r50 r55)) else (wp_L_children_B327 Q S49 S2 S54 w0 w1 w2 w3 w4 w5 r41 r45 r50 r55)) else (wp_L_children_B182 Q S49 S2 S54 w0 w1 w2 w3 w4 w5 r41 r45 r50 r55))))) (fun _ _ => False))) (fun _ _ => False)))))
def wp_L_children (S1 S2 S : Hp) (x0 : Nat) (x1 : Nat) (x2 : Nat) (x3 : Int32) (x4 : Int32) (Q : Int32 → Hp → Hp → Hp → Prop) : Prop :=
  wp_L_some S x3 (12 : Int32) (fun r2 S1 => if r2 < (3 : Int32) then (wp_L_children_B20 Q S1 S2 S1 x0 x1 x2 x3 x4 r2) else (okA S1 11 x2 ∧ (vp_in (0 : Int32) (g_N S1 x2) ∧ (if (g_R S1 x2 (0 : Int32).toNatClampNeg) = 0 then (wp_L_children_B20 Q S1 S2 S1 x0 x1 x2 x3 x4 r2) else (wp_L_children_B135 Q S1 S2 S1 x0 x1 x2 x3 x4 r2)))))
def rm_L_children : Room := { frames := 12, cells := 92, slots := 2940, locals := 356 }
set_option maxHeartbeats 4000000 in
set_option maxRecDepth 100000 in
theorem k_L_children_B20 (l : Launch) (hfl : l.stackTraces = false) (v : Ev) {x9 : P9} {A : Nat → Prop} {E : State → Prop} {X0 Y : va_W} (C : ∀ X, Cx l v RL cL_children 13 (some .boolean) "children" (x9, X, A, E)) (Q : Int32 → Hp → Hp → Hp → Prop) (T : E3 v rm_L_children (Q3i v) Q X0 Y A E x9) (S1 S2 S : Hp) (t1 : g_T S1 = v.2.2.1) (t2 : g_T S2 = v.2.2.1) (w0 : Nat) (w1 : Nat) (w2 : Nat) (w3 : Int32) (w4 : Int32) (w5 : Int32) (h : wp_L_children_B20 Q S1 S2 S w0 w1 w2 w3 w4 w5) : ZZ l v 13 rm_L_children (x9, Y3 v.2.1 Y S1 S2, A, E) 0 0 S 20 [(0, va_rf (some w0)), (1, va_rf (some w1)), (2, va_rf (some w2)), (3, .int w3), (4, .int w4), (5, .int w5)] [] := by
  unfold wp_L_children_B20 at h
  refine z_aload_n (C _) (pc := 20) dL_children_20 0 rfl ?_
  refine z_aload_n (C _) (pc := 21) dL_children_21 1 rfl ?_
  refine z_iconst (C _) (pc := 22) (x := (1 : Int32)) dL_children_22 kic_1 ?_
  refine z_iconst (C _) (pc := 23) (x := (5 : Int32)) dL_children_23 kic_5 ?_
  refine z_iload (C _) (pc := 24) dL_children_24 4 rfl ?_
  refine z_bipush (C _) (pc := 26) (x := (10 : Int32)) dL_children_26 kbp_10 ?_
  refine z_Si8 (C _) (pc := 28) (KX := fun _ _ => False) (kc' := 0) (ks' := 0) (As := [.int w4, .int (10 : Int32)]) (rest := [.int (5 : Int32), .int (1 : Int32), va_rf (some w1), va_rf (some w0)]) (c_L_some l v S w4 (10 : Int32)) mw_L_some bw_101 bw_102 (fit_of rfl) rfl rfl (Nat.le_of_ble_eq_true rfl) dL_children_28 h (fun r4 S3 h => ?_) (fun En S9 h => h.elim)
  refine z_iadd (C _) (pc := 31) dL_children_31 ?_
  refine z_iconst (C _) (pc := 32) (x := (0 : Int32)) dL_children_32 kic_0 ?_
  refine z_iconst (C _) (pc := 33) (x := (0 : Int32)) dL_children_33 kic_0 ?_
  refine z_iconst (C _) (pc := 34) (x := (0 : Int32)) dL_children_34 kic_0 ?_
  refine z_S3i (C _) (pc := 35) (kc' := 92) (ks' := 2940) (As := [va_rf (some w0), va_rf (some w1), .int (1 : Int32), .int ((5 : Int32) + r4), .int (0 : Int32), .int (0 : Int32), .int (0 : Int32)]) (rest := []) (c_L_both l hfl v S1 S2 S3 w0 w1 (1 : Int32) ((5 : Int32) + r4) (0 : Int32) (0 : Int32) (0 : Int32)) mw_L_both bw_364 bw_365 (fit_of rfl) rfl rfl (Nat.le_of_ble_eq_true rfl) t1 t2 dL_children_35 h (fun r8 S5 S6 S7 t9 t10 h => ?_)
  refine z_istore (C _) (pc := 38) (lv' := [(6, .int r8), (0, va_rf (some w0)), (1, va_rf (some w1)), (2, va_rf (some w2)), (3, .int w3), (4, .int w4), (5, .int w5)]) dL_children_38 (by decide) rfl ?_
  refine z_aload_n (C _) (pc := 40) dL_children_40 3 rfl ?_
  refine z_iconst (C _) (pc := 41) (x := (0 : Int32)) dL_children_41 kic_0 ?_
  refine z_dup2 (C _) (pc := 42) dL_children_42 rfl (cat_rf _) ?_
  obtain ⟨o11, h⟩ := h
  obtain ⟨v12, h⟩ := h
  refine z_iald (C _) (pc := 43) dL_children_43 rfl o11 v12 ?_
  refine z_iload (C _) (pc := 44) dL_children_44 0 rfl ?_
  refine z_t_if_lt (C _) (pc := 46) dL_children_46 dL_children_49 kic_1 dL_children_50 dL_children_53 kic_0 ?_
  refine z_iadd (C _) (pc := 54) dL_children_54 ?_
  obtain ⟨v13, h⟩ := h
  refine z_iast (C _) (pc := 55) dL_children_55 rfl o11 v13 ?_
  refine z_lt h (fun S14 h => ?_)
  refine z_iload (C _) (pc := 56) dL_children_56 0 rfl ?_
  refine z_ldc (C _) (pc := 58) (x := (-2000000003 : Int32)) dL_children_58 bw_778 ?_
  refine z_icmp_ne (C _) (pc := 60) (tgt := 79) dL_children_60 (by decide) h (fun h => ?_) (fun h => ?_)
  · refine z_iload (C _) (pc := 79) dL_children_79 0 rfl ?_
    refine z_aload_n (C _) (pc := 81) dL_children_81 3 rfl ?_
    refine z_iconst (C _) (pc := 82) (x := (0 : Int32)) dL_children_82 kic_0 ?_
    obtain ⟨o15, h⟩ := h
    obtain ⟨v16, h⟩ := h
    refine z_iald (C _) (pc := 83) dL_children_83 rfl o15 v16 ?_
    refine z_iconst (C _) (pc := 84) (x := (1 : Int32)) dL_children_84 kic_1 ?_
    refine z_isub (C _) (pc := 85) dL_children_85 ?_
    refine z_icmp_ne (C _) (pc := 86) (tgt := 133) dL_children_86 (by decide) h (fun h => ?_) (fun h => ?_)
    · refine z_iconst (C _) (pc := 133) (x := (0 : Int32)) dL_children_133 kic_0 ?_
      exact z_zret3 (C _) (pc := 134) T t9 t10 dL_children_134 (by decide) (by decide) h
    · refine z_aload_n (C _) (pc := 89) dL_children_89 1 rfl ?_
      refine z_iload (C _) (pc := 90) dL_children_90 0 rfl ?_
      refine z_iconst (C _) (pc := 92) (x := (0 : Int32)) dL_children_92 kic_0 ?_
      obtain ⟨o17, h⟩ := h
      refine z_s1 t9 (fun t18 => ?_)
      refine z_Vi (C _) (pc := 93) (KX := fun _ _ => False) (kc' := 92) (ks' := 2940) (As := [.int r8, .int (0 : Int32)]) (rest := []) rfl (c_X8_ofChild_n l v S5 w0 r8 (0 : Int32)) mw_X8_ofChild bw_113 bw_114 bw_115 (fit_of rfl) rfl rfl (Nat.le_of_ble_eq_true rfl) (by decide) rfl o17 dL_children_93 h (fun r20 S19 h => ?_) (fun En S9 h => h.elim)
      refine z_s1' t18 (fun t21 => ?_)
      refine z_iconst (C _) (pc := 96) (x := (5 : Int32)) dL_children_96 kic_5 ?_
      refine z_iload (C _) (pc := 97) dL_children_97 5 rfl ?_
      refine z_bipush (C _) (pc := 99) (x := (10 : Int32)) dL_children_99 kbp_10 ?_
      refine z_Si8 (C _) (pc := 101) (KX := fun _ _ => False) (kc' := 92) (ks' := 2940) (As := [.int w4, .int (10 : Int32)]) (rest := [.int (5 : Int32), .int r20]) (c_L_some l v S14 w4 (10 : Int32)) mw_L_some bw_101 bw_102 (fit_of rfl) rfl rfl (Nat.le_of_ble_eq_true rfl) dL_children_101 h (fun r23 S22 h => ?_) (fun En S9 h => h.elim)
      refine z_iadd (C _) (pc := 104) dL_children_104 ?_
      refine z_icmp_ne (C _) (pc := 105) (tgt := 133) dL_children_105 (by decide) h (fun h => ?_) (fun h => ?_)
      · refine z_iconst (C _) (pc := 133) (x := (0 : Int32)) dL_children_133 kic_0 ?_
        exact z_zret3 (C _) (pc := 134) T t21 t10 dL_children_134 (by decide) (by decide) h
      · refine z_aload_n (C _) (pc := 108) dL_children_108 1 rfl ?_
        refine z_iload (C _) (pc := 109) dL_children_109 0 rfl ?_
        refine z_iconst (C _) (pc := 111) (x := (1 : Int32)) dL_children_111 kic_1 ?_
        obtain ⟨o24, h⟩ := h
        refine z_s1 t21 (fun t25 => ?_)
        refine z_Vi (C _) (pc := 112) (KX := fun _ _ => False) (kc' := 92) (ks' := 2940) (As := [.int r8, .int (1 : Int32)]) (rest := []) rfl (c_X8_ofChild_n l v S19 w0 r8 (1 : Int32)) mw_X8_ofChild bw_113 bw_114 bw_115 (fit_of rfl) rfl rfl (Nat.le_of_ble_eq_true rfl) (by decide) rfl o24 dL_children_112 h (fun r27 S26 h => ?_) (fun En S9 h => h.elim)
        refine z_s1' t25 (fun t28 => ?_)
        refine z_iconst (C _) (pc := 115) (x := (-1 : Int32)) dL_children_115 kic_m1 ?_
        refine z_icmp_ne (C _) (pc := 116) (tgt := 133) dL_children_116 (by decide) h (fun h => ?_) (fun h => ?_)
        · refine z_iconst (C _) (pc := 133) (x := (0 : Int32)) dL_children_133 kic_0 ?_
          exact z_zret3 (C _) (pc := 134) T t28 t10 dL_children_134 (by decide) (by decide) h
        · refine z_aload_n (C _) (pc := 119) dL_children_119 1 rfl ?_
          refine z_iload (C _) (pc := 120) dL_children_120 0 rfl ?_
          refine z_iconst (C _) (pc := 122) (x := (5 : Int32)) dL_children_122 kic_5 ?_
          obtain ⟨o29, h⟩ := h
          refine z_s1 t28 (fun t30 => ?_)
          refine z_Vi (C _) (pc := 123) (KX := fun _ _ => False) (kc' := 92) (ks' := 2940) (As := [.int r8, .int (5 : Int32)]) (rest := []) rfl (c_X8_ofChild_n l v S26 w0 r8 (5 : Int32)) mw_X8_ofChild bw_113 bw_114 bw_115 (fit_of rfl) rfl rfl (Nat.le_of_ble_eq_true rfl) (by decide) rfl o29 dL_children_123 h (fun r32 S31 h => ?_) (fun En S9 h => h.elim)
          refine z_s1' t30 (fun t33 => ?_)
          refine z_t_if_ne (C _) (pc := 126) dL_children_126 dL_children_129 kic_1 dL_children_130 dL_children_133 kic_0 ?_
          exact z_zret3 (C _) (pc := 134) T t33 t10 dL_children_134 (by decide) (by decide) h
  · refine z_aload_n (C _) (pc := 63) dL_children_63 3 rfl ?_
    refine z_iconst (C _) (pc := 64) (x := (0 : Int32)) dL_children_64 kic_0 ?_
    obtain ⟨o34, h⟩ := h
    obtain ⟨v35, h⟩ := h
    refine z_iald (C _) (pc := 65) dL_children_65 rfl o34 v35 ?_
    refine z_bipush (C _) (pc := 66) (x := (24 : Int32)) dL_children_66 kbp_24 ?_
    refine z_icmp_ne (C _) (pc := 68) (tgt := 75) dL_children_68 (by decide) h (fun h => ?_) (fun h => ?_)
    · refine z_iconst (C _) (pc := 75) (x := (0 : Int32)) dL_children_75 kic_0 ?_
      refine z_goto (C _) (pc := 76) (tgt := 134) dL_children_76 (by decide) ?_
      exact z_zret3 (C _) (pc := 134) T t9 t10 dL_children_134 (by decide) (by decide) h
    · refine z_iconst (C _) (pc := 71) (x := (1 : Int32)) dL_children_71 kic_1 ?_
      refine z_goto (C _) (pc := 72) (tgt := 134) dL_children_72 (by decide) ?_
      exact z_zret3 (C _) (pc := 134) T t9 t10 dL_children_134 (by decide) (by decide) h
set_option maxHeartbeats 4000000 in
set_option maxRecDepth 100000 in
theorem k_L_children_B661 (l : Launch) (hfl : l.stackTraces = false) (v : Ev) {x9 : P9} {A : Nat → Prop} {E : State → Prop} {X0 Y : va_W} (C : ∀ X, Cx l v RL cL_children 13 (some .boolean) "children" (x9, X, A, E)) (Q : Int32 → Hp → Hp → Hp → Prop) (T : E3 v rm_L_children (Q3i v) Q X0 Y A E x9) (S1 S2 S : Hp) (t1 : g_T S1 = v.2.2.1) (t2 : g_T S2 = v.2.2.1) (w0 : Nat) (w1 : Nat) (w2 : Nat) (w3 : Int32) (w4 : Int32) (w5 : Int32) (w6 : Int32) (w7 : Int32) (w8 : Int32) (w9 : Int32) (w10 : Int32) (h : wp_L_children_B661 Q S1 S2 S w0 w1 w2 w3 w4 w5 w6 w7 w8 w9 w10) : ZZ l v 13 rm_L_children (x9, Y3 v.2.1 Y S1 S2, A, E) 0 0 S 661 [(0, va_rf (some w0)), (1, va_rf (some w1)), (2, va_rf (some w2)), (3, .int w3), (4, .int w4), (5, .int w5), (6, .int w6), (7, .int w7), (8, .int w8), (9, .int w9), (10, .int w10)] [] := by
  unfold wp_L_children_B661 at h
  refine z_iconst (C _) (pc := 661) (x := (1 : Int32)) dL_children_661 kic_1 ?_
  refine z_iload (C _) (pc := 662) dL_children_662 4 rfl ?_
  refine z_iconst (C _) (pc := 664) (x := (5 : Int32)) dL_children_664 kic_5 ?_
  refine z_ishr (C _) (pc := 665) dL_children_665 ?_
  refine z_sipush (C _) (pc := 666) (x := (396 : Int32)) dL_children_666 ksp_396 ?_
  refine z_Si8 (C _) (pc := 669) (KX := fun _ _ => False) (kc' := 0) (ks' := 0) (As := [.int (w4 >>> ((5 : Int32) &&& 31)), .int (396 : Int32)]) (rest := [.int (1 : Int32)]) (c_L_some l v S (w4 >>> ((5 : Int32) &&& 31)) (396 : Int32)) mw_L_some bw_101 bw_102 (fit_of rfl) rfl rfl (Nat.le_of_ble_eq_true rfl) dL_children_669 h (fun r62 S61 h => ?_) (fun En S9 h => h.elim)
  refine z_iadd (C _) (pc := 672) dL_children_672 ?_
  refine z_nI h (fun y63 h => ?_)
  refine z_istore (C _) (pc := 673) (lv' := [(11, .int y63), (0, va_rf (some w0)), (1, va_rf (some w1)), (2, va_rf (some w2)), (3, .int w3), (4, .int w4), (5, .int w5), (6, .int w6), (7, .int w7), (8, .int w8), (9, .int w9), (10, .int w10)]) dL_children_673 (by decide) rfl ?_
  refine z_aload_n (C _) (pc := 675) dL_children_675 1 rfl ?_
  refine z_aload_n (C _) (pc := 676) dL_children_676 2 rfl ?_
  refine z_bipush (C _) (pc := 677) (x := (18 : Int32)) dL_children_677 kbp_18 ?_
  refine z_iload (C _) (pc := 679) dL_children_679 7 rfl ?_
  refine z_iload (C _) (pc := 681) dL_children_681 0 rfl ?_
  refine z_iconst (C _) (pc := 683) (x := (0 : Int32)) dL_children_683 kic_0 ?_
  refine z_iconst (C _) (pc := 684) (x := (0 : Int32)) dL_children_684 kic_0 ?_
  refine z_S3i (C _) (pc := 685) (kc' := 92) (ks' := 2940) (As := [va_rf (some w0), va_rf (some w1), .int (18 : Int32), .int w6, .int y63, .int (0 : Int32), .int (0 : Int32)]) (rest := []) (c_L_both l hfl v S1 S2 S61 w0 w1 (18 : Int32) w6 y63 (0 : Int32) (0 : Int32)) mw_L_both bw_364 bw_365 (fit_of rfl) rfl rfl (Nat.le_of_ble_eq_true rfl) t1 t2 dL_children_685 h (fun r67 S64 S65 S66 t68 t69 h => ?_)
  refine z_istore (C _) (pc := 688) (lv' := [(12, .int r67), (11, .int y63), (0, va_rf (some w0)), (1, va_rf (some w1)), (2, va_rf (some w2)), (3, .int w3), (4, .int w4), (5, .int w5), (6, .int w6), (7, .int w7), (8, .int w8), (9, .int w9), (10, .int w10)]) dL_children_688 (by decide) rfl ?_
  refine z_iload (C _) (pc := 690) dL_children_690 0 rfl ?_
  refine z_ldc (C _) (pc := 692) (x := (-2000000003 : Int32)) dL_children_692 bw_778 ?_
  refine z_icmp_ne (C _) (pc := 694) (tgt := 712) dL_children_694 (by decide) h (fun h => ?_) (fun h => ?_)
  · refine z_iload (C _) (pc := 712) dL_children_712 0 rfl ?_
    refine z_iload (C _) (pc := 714) dL_children_714 12 rfl ?_
    refine z_iload (C _) (pc := 716) dL_children_716 1 rfl ?_
    refine z_isub (C _) (pc := 718) dL_children_718 ?_
    refine z_t_icmp_ne (C _) (pc := 719) dL_children_719 dL_children_722 kic_1 dL_children_723 dL_children_726 kic_0 ?_
    exact z_zret3 (C _) (pc := 727) T t68 t69 dL_children_727 (by decide) (by decide) h
  · refine z_iload (C _) (pc := 697) dL_children_697 12 rfl ?_
    refine z_iload (C _) (pc := 699) dL_children_699 1 rfl ?_
    refine z_icmp_ge (C _) (pc := 701) (tgt := 708) dL_children_701 (by decide) h (fun h => ?_) (fun h => ?_)
    · refine z_iconst (C _) (pc := 708) (x := (0 : Int32)) dL_children_708 kic_0 ?_
      refine z_goto (C _) (pc := 709) (tgt := 727) dL_children_709 (by decide) ?_
      exact z_zret3 (C _) (pc := 727) T t68 t69 dL_children_727 (by decide) (by decide) h
    · refine z_iconst (C _) (pc := 704) (x := (1 : Int32)) dL_children_704 kic_1 ?_
      refine z_goto (C _) (pc := 705) (tgt := 727) dL_children_705 (by decide) ?_
      exact z_zret3 (C _) (pc := 727) T t68 t69 dL_children_727 (by decide) (by decide) h
set_option maxHeartbeats 4000000 in
set_option maxRecDepth 100000 in
theorem k_L_children_B555 (l : Launch) (hfl : l.stackTraces = false) (v : Ev) {x9 : P9} {A : Nat → Prop} {E : State → Prop} {X0 Y : va_W} (C : ∀ X, Cx l v RL cL_children 13 (some .boolean) "children" (x9, X, A, E)) (Q : Int32 → Hp → Hp → Hp → Prop) (T : E3 v rm_L_children (Q3i v) Q X0 Y A E x9) (S1 S2 S : Hp) (t1 : g_T S1 = v.2.2.1) (t2 : g_T S2 = v.2.2.1) (w0 : Nat) (w1 : Nat) (w2 : Nat) (w3 : Int32) (w4 : Int32) (w5 : Int32) (w6 : Int32) (w7 : Int32) (w8 : Int32) (w9 : Int32) (w10 : Int32) (h : wp_L_children_B555 Q S1 S2 S w0 w1 w2 w3 w4 w5 w6 w7 w8 w9 w10) : ZZ l v 13 rm_L_children (x9, Y3 v.2.1 Y S1 S2, A, E) 0 0 S 555 [(0, va_rf (some w0)), (1, va_rf (some w1)), (2, va_rf (some w2)), (3, .int w3), (4, .int w4), (5, .int w5), (6, .int w6), (7, .int w7), (8, .int w8), (9, .int w9), (10, .int w10)] [] := by
  unfold wp_L_children_B555 at h
  refine z_iconst (C _) (pc := 555) (x := (1 : Int32)) dL_children_555 kic_1 ?_
  refine z_iload (C _) (pc := 556) dL_children_556 4 rfl ?_
  refine z_iconst (C _) (pc := 558) (x := (5 : Int32)) dL_children_558 kic_5 ?_
  refine z_ishr (C _) (pc := 559) dL_children_559 ?_
  refine z_bipush (C _) (pc := 560) (x := (99 : Int32)) dL_children_560 kbp_99 ?_
  refine z_Si8 (C _) (pc := 562) (KX := fun _ _ => False) (kc' := 0) (ks' := 0) (As := [.int (w4 >>> ((5 : Int32) &&& 31)), .int (99 : Int32)]) (rest := [.int (1 : Int32)]) (c_L_some l v S (w4 >>> ((5 : Int32) &&& 31)) (99 : Int32)) mw_L_some bw_101 bw_102 (fit_of rfl) rfl rfl (Nat.le_of_ble_eq_true rfl) dL_children_562 h (fun r71 S70 h => ?_) (fun En S9 h => h.elim)
  refine z_iadd (C _) (pc := 565) dL_children_565 ?_
  refine z_nI h (fun y72 h => ?_)
  refine z_istore (C _) (pc := 566) (lv' := [(11, .int y72), (0, va_rf (some w0)), (1, va_rf (some w1)), (2, va_rf (some w2)), (3, .int w3), (4, .int w4), (5, .int w5), (6, .int w6), (7, .int w7), (8, .int w8), (9, .int w9), (10, .int w10)]) dL_children_566 (by decide) rfl ?_
  refine z_aload_n (C _) (pc := 568) dL_children_568 1 rfl ?_
  refine z_aload_n (C _) (pc := 569) dL_children_569 2 rfl ?_
  refine z_bipush (C _) (pc := 570) (x := (17 : Int32)) dL_children_570 kbp_17 ?_
  refine z_iload (C _) (pc := 572) dL_children_572 7 rfl ?_
  refine z_iload (C _) (pc := 574) dL_children_574 0 rfl ?_
  refine z_iconst (C _) (pc := 576) (x := (0 : Int32)) dL_children_576 kic_0 ?_
  refine z_iconst (C _) (pc := 577) (x := (0 : Int32)) dL_children_577 kic_0 ?_
  refine z_S3i (C _) (pc := 578) (kc' := 92) (ks' := 2940) (As := [va_rf (some w0), va_rf (some w1), .int (17 : Int32), .int w6, .int y72, .int (0 : Int32), .int (0 : Int32)]) (rest := []) (c_L_both l hfl v S1 S2 S70 w0 w1 (17 : Int32) w6 y72 (0 : Int32) (0 : Int32)) mw_L_both bw_364 bw_365 (fit_of rfl) rfl rfl (Nat.le_of_ble_eq_true rfl) t1 t2 dL_children_578 h (fun r76 S73 S74 S75 t77 t78 h => ?_)
  refine z_istore (C _) (pc := 581) (lv' := [(12, .int r76), (11, .int y72), (0, va_rf (some w0)), (1, va_rf (some w1)), (2, va_rf (some w2)), (3, .int w3), (4, .int w4), (5, .int w5), (6, .int w6), (7, .int w7), (8, .int w8), (9, .int w9), (10, .int w10)]) dL_children_581 (by decide) rfl ?_
  refine z_iload (C _) (pc := 583) dL_children_583 0 rfl ?_
  refine z_ldc (C _) (pc := 585) (x := (-2000000003 : Int32)) dL_children_585 bw_778 ?_
  refine z_icmp_ne (C _) (pc := 587) (tgt := 626) dL_children_587 (by decide) h (fun h => ?_) (fun h => ?_)
  · refine z_iload (C _) (pc := 626) dL_children_626 9 rfl ?_
    refine z_iconst (C _) (pc := 628) (x := (-1 : Int32)) dL_children_628 kic_m1 ?_
    refine z_icmp_eq (C _) (pc := 629) (tgt := 659) dL_children_629 (by decide) h (fun h => ?_) (fun h => ?_)
    · refine z_iconst (C _) (pc := 659) (x := (0 : Int32)) dL_children_659 kic_0 ?_
      exact z_zret3 (C _) (pc := 660) T t77 t78 dL_children_660 (by decide) (by decide) h
    · refine z_iload (C _) (pc := 632) dL_children_632 0 rfl ?_
      refine z_iload (C _) (pc := 634) dL_children_634 12 rfl ?_
      refine z_iconst (C _) (pc := 636) (x := (4 : Int32)) dL_children_636 kic_4 ?_
      refine z_iload (C _) (pc := 637) dL_children_637 1 rfl ?_
      refine z_imul (C _) (pc := 639) dL_children_639 ?_
      refine z_iadd (C _) (pc := 640) dL_children_640 ?_
      refine z_icmp_ne (C _) (pc := 641) (tgt := 659) dL_children_641 (by decide) h (fun h => ?_) (fun h => ?_)
      · refine z_iconst (C _) (pc := 659) (x := (0 : Int32)) dL_children_659 kic_0 ?_
        exact z_zret3 (C _) (pc := 660) T t77 t78 dL_children_660 (by decide) (by decide) h
      · refine z_aload_n (C _) (pc := 644) dL_children_644 2 rfl ?_
        refine z_iload (C _) (pc := 645) dL_children_645 9 rfl ?_
        obtain ⟨o79, h⟩ := h
        refine z_s1 t77 (fun t80 => ?_)
        refine z_Vi (C _) (pc := 647) (KX := fun _ _ => False) (kc' := 92) (ks' := 2940) (As := [.int w7]) (rest := []) rfl (c_X8_owed_n l v S73 w0 w7) mw_X8_owed bw_273 bw_274 bw_275 (fit_of rfl) rfl rfl (Nat.le_of_ble_eq_true rfl) (by decide) rfl o79 dL_children_647 h (fun r82 S81 h => ?_) (fun En S9 h => h.elim)
        refine z_s1' t80 (fun t83 => ?_)
        refine z_iload (C _) (pc := 650) dL_children_650 0 rfl ?_
        refine z_t_icmp_lt (C _) (pc := 652) dL_children_652 dL_children_655 kic_1 dL_children_656 dL_children_659 kic_0 ?_
        exact z_zret3 (C _) (pc := 660) T t83 t78 dL_children_660 (by decide) (by decide) h
  · refine z_aload_n (C _) (pc := 590) dL_children_590 2 rfl ?_
    refine z_iload (C _) (pc := 591) dL_children_591 8 rfl ?_
    refine z_iconst (C _) (pc := 593) (x := (5 : Int32)) dL_children_593 kic_5 ?_
    obtain ⟨o84, h⟩ := h
    refine z_s1 t77 (fun t85 => ?_)
    refine z_Vi (C _) (pc := 594) (KX := fun _ _ => False) (kc' := 92) (ks' := 2940) (As := [.int w6, .int (5 : Int32)]) (rest := []) rfl (c_X8_ofChild_n l v S73 w0 w6 (5 : Int32)) mw_X8_ofChild bw_113 bw_114 bw_115 (fit_of rfl) rfl rfl (Nat.le_of_ble_eq_true rfl) (by decide) rfl o84 dL_children_594 h (fun r87 S86 h => ?_) (fun En S9 h => h.elim)
    refine z_s1' t85 (fun t88 => ?_)
    refine z_iload (C _) (pc := 597) dL_children_597 12 rfl ?_
    refine z_icmp_ne (C _) (pc := 599) (tgt := 622) dL_children_599 (by decide) h (fun h => ?_) (fun h => ?_)
    · refine z_iconst (C _) (pc := 622) (x := (0 : Int32)) dL_children_622 kic_0 ?_
      refine z_goto (C _) (pc := 623) (tgt := 660) dL_children_623 (by decide) ?_
      exact z_zret3 (C _) (pc := 660) T t88 t78 dL_children_660 (by decide) (by decide) h
    · refine z_iload (C _) (pc := 602) dL_children_602 9 rfl ?_
      refine z_iconst (C _) (pc := 604) (x := (-1 : Int32)) dL_children_604 kic_m1 ?_
      refine z_icmp_eq (C _) (pc := 605) (tgt := 618) dL_children_605 (by decide) h (fun h => ?_) (fun h => ?_)
      · refine z_iconst (C _) (pc := 618) (x := (1 : Int32)) dL_children_618 kic_1 ?_
        refine z_goto (C _) (pc := 619) (tgt := 660) dL_children_619 (by decide) ?_
        exact z_zret3 (C _) (pc := 660) T t88 t78 dL_children_660 (by decide) (by decide) h
      · refine z_iload (C _) (pc := 608) dL_children_608 12 rfl ?_
        refine z_if_gt (C _) (pc := 610) (tgt := 618) dL_children_610 (by decide) h (fun h => ?_) (fun h => ?_)
        · refine z_iconst (C _) (pc := 618) (x := (1 : Int32)) dL_children_618 kic_1 ?_
          refine z_goto (C _) (pc := 619) (tgt := 660) dL_children_619 (by decide) ?_
          exact z_zret3 (C _) (pc := 660) T t88 t78 dL_children_660 (by decide) (by decide) h
        · refine z_iload (C _) (pc := 613) dL_children_613 12 rfl ?_
          refine z_if_ne (C _) (pc := 615) (tgt := 622) dL_children_615 (by decide) h (fun h => ?_) (fun h => ?_)
          · refine z_iconst (C _) (pc := 622) (x := (0 : Int32)) dL_children_622 kic_0 ?_
            refine z_goto (C _) (pc := 623) (tgt := 660) dL_children_623 (by decide) ?_
            exact z_zret3 (C _) (pc := 660) T t88 t78 dL_children_660 (by decide) (by decide) h
          · refine z_iconst (C _) (pc := 618) (x := (1 : Int32)) dL_children_618 kic_1 ?_
            refine z_goto (C _) (pc := 619) (tgt := 660) dL_children_619 (by decide) ?_
            exact z_zret3 (C _) (pc := 660) T t88 t78 dL_children_660 (by decide) (by decide) h
set_option maxHeartbeats 4000000 in
set_option maxRecDepth 100000 in
theorem k_L_children_B458 (l : Launch) (hfl : l.stackTraces = false) (v : Ev) {x9 : P9} {A : Nat → Prop} {E : State → Prop} {X0 Y : va_W} (C : ∀ X, Cx l v RL cL_children 13 (some .boolean) "children" (x9, X, A, E)) (Q : Int32 → Hp → Hp → Hp → Prop) (T : E3 v rm_L_children (Q3i v) Q X0 Y A E x9) (S1 S2 S : Hp) (t1 : g_T S1 = v.2.2.1) (t2 : g_T S2 = v.2.2.1) (w0 : Nat) (w1 : Nat) (w2 : Nat) (w3 : Int32) (w4 : Int32) (w5 : Int32) (w6 : Int32) (w7 : Int32) (w8 : Int32) (w9 : Int32) (h : wp_L_children_B458 Q S1 S2 S w0 w1 w2 w3 w4 w5 w6 w7 w8 w9) : ZZ l v 13 rm_L_children (x9, Y3 v.2.1 Y S1 S2, A, E) 0 0 S 458 [(0, va_rf (some w0)), (1, va_rf (some w1)), (2, va_rf (some w2)), (3, .int w3), (4, .int w4), (5, .int w5), (6, .int w6), (7, .int w7), (8, .int w8), (9, .int w9)] [] := by
  unfold wp_L_children_B458 at h
  refine z_aload_n (C _) (pc := 458) dL_children_458 0 rfl ?_
  refine z_iload (C _) (pc := 459) dL_children_459 6 rfl ?_
  refine z_iconst (C _) (pc := 461) (x := (3 : Int32)) dL_children_461 kic_3 ?_
  obtain ⟨o89, h⟩ := h
  refine z_s1 t1 (fun t90 => ?_)
  refine z_Vi (C _) (pc := 462) (KX := fun _ _ => False) (kc' := 0) (ks' := 0) (As := [.int w6, .int (3 : Int32)]) (rest := []) rfl (c_X8_ofChild_n l v S1 w0 w6 (3 : Int32)) mw_X8_ofChild bw_113 bw_114 bw_115 (fit_of rfl) rfl rfl (Nat.le_of_ble_eq_true rfl) (by decide) rfl o89 dL_children_462 h (fun r92 S91 h => ?_) (fun En S9 h => h.elim)
  refine z_s1' t90 (fun t93 => ?_)
  refine z_istore (C _) (pc := 465) (lv' := [(10, .int r92), (0, va_rf (some w0)), (1, va_rf (some w1)), (2, va_rf (some w2)), (3, .int w3), (4, .int w4), (5, .int w5), (6, .int w6), (7, .int w7), (8, .int w8), (9, .int w9)]) dL_children_465 (by decide) rfl ?_
  refine z_aload_n (C _) (pc := 467) dL_children_467 1 rfl ?_
  refine z_aload_n (C _) (pc := 468) dL_children_468 2 rfl ?_
  refine z_iconst (C _) (pc := 469) (x := (4 : Int32)) dL_children_469 kic_4 ?_
  refine z_iload (C _) (pc := 470) dL_children_470 7 rfl ?_
  refine z_iload (C _) (pc := 472) dL_children_472 5 rfl ?_
  refine z_iconst (C _) (pc := 474) (x := (5 : Int32)) dL_children_474 kic_5 ?_
  refine z_ishr (C _) (pc := 475) dL_children_475 ?_
  refine z_iconst (C _) (pc := 476) (x := (4 : Int32)) dL_children_476 kic_4 ?_
  refine z_Si8 (C _) (pc := 477) (KX := fun _ _ => False) (kc' := 0) (ks' := 0) (As := [.int (w4 >>> ((5 : Int32) &&& 31)), .int (4 : Int32)]) (rest := [.int w6, .int (4 : Int32), va_rf (some w1), va_rf (some w0)]) (c_L_some l v S (w4 >>> ((5 : Int32) &&& 31)) (4 : Int32)) mw_L_some bw_101 bw_102 (fit_of rfl) rfl rfl (Nat.le_of_ble_eq_true rfl) dL_children_477 h (fun r95 S94 h => ?_) (fun En S9 h => h.elim)
  refine z_iconst (C _) (pc := 480) (x := (0 : Int32)) dL_children_480 kic_0 ?_
  refine z_iconst (C _) (pc := 481) (x := (0 : Int32)) dL_children_481 kic_0 ?_
  refine z_S3i (C _) (pc := 482) (kc' := 92) (ks' := 2940) (As := [va_rf (some w0), va_rf (some w1), .int (4 : Int32), .int w6, .int r95, .int (0 : Int32), .int (0 : Int32)]) (rest := []) (c_L_both l hfl v S91 S2 S94 w0 w1 (4 : Int32) w6 r95 (0 : Int32) (0 : Int32)) mw_L_both bw_364 bw_365 (fit_of rfl) rfl rfl (Nat.le_of_ble_eq_true rfl) t93 t2 dL_children_482 h (fun r99 S96 S97 S98 t100 t101 h => ?_)
  refine z_istore (C _) (pc := 485) (lv' := [(11, .int r99), (10, .int r92), (0, va_rf (some w0)), (1, va_rf (some w1)), (2, va_rf (some w2)), (3, .int w3), (4, .int w4), (5, .int w5), (6, .int w6), (7, .int w7), (8, .int w8), (9, .int w9)]) dL_children_485 (by decide) rfl ?_
  refine z_iload (C _) (pc := 487) dL_children_487 0 rfl ?_
  refine z_ldc (C _) (pc := 489) (x := (-2000000003 : Int32)) dL_children_489 bw_778 ?_
  refine z_icmp_ne (C _) (pc := 491) (tgt := 508) dL_children_491 (by decide) h (fun h => ?_) (fun h => ?_)
  · refine z_iload (C _) (pc := 508) dL_children_508 0 rfl ?_
    refine z_iload (C _) (pc := 510) dL_children_510 1 rfl ?_
    refine z_icmp_ne (C _) (pc := 512) (tgt := 537) dL_children_512 (by decide) h (fun h => ?_) (fun h => ?_)
    · refine z_iconst (C _) (pc := 537) (x := (0 : Int32)) dL_children_537 kic_0 ?_
      exact z_zret3 (C _) (pc := 538) T t100 t101 dL_children_538 (by decide) (by decide) h
    · refine z_aload_n (C _) (pc := 515) dL_children_515 2 rfl ?_
      refine z_iload (C _) (pc := 516) dL_children_516 8 rfl ?_
      refine z_iconst (C _) (pc := 518) (x := (3 : Int32)) dL_children_518 kic_3 ?_
      obtain ⟨o102, h⟩ := h
      refine z_s1 t100 (fun t103 => ?_)
      refine z_Vi (C _) (pc := 519) (KX := fun _ _ => False) (kc' := 92) (ks' := 2940) (As := [.int w6, .int (3 : Int32)]) (rest := []) rfl (c_X8_ofChild_n l v S96 w0 w6 (3 : Int32)) mw_X8_ofChild bw_113 bw_114 bw_115 (fit_of rfl) rfl rfl (Nat.le_of_ble_eq_true rfl) (by decide) rfl o102 dL_children_519 h (fun r105 S104 h => ?_) (fun En S9 h => h.elim)
      refine z_s1' t103 (fun t106 => ?_)
      refine z_iload (C _) (pc := 522) dL_children_522 6 rfl ?_
      refine z_iconst (C _) (pc := 524) (x := (5 : Int32)) dL_children_524 kic_5 ?_
      refine z_ishr (C _) (pc := 525) dL_children_525 ?_
      refine z_iconst (C _) (pc := 526) (x := (4 : Int32)) dL_children_526 kic_4 ?_
      refine z_Si8 (C _) (pc := 527) (KX := fun _ _ => False) (kc' := 92) (ks' := 2940) (As := [.int (w4 >>> ((5 : Int32) &&& 31)), .int (4 : Int32)]) (rest := [.int r105]) (c_L_some l v S98 (w4 >>> ((5 : Int32) &&& 31)) (4 : Int32)) mw_L_some bw_101 bw_102 (fit_of rfl) rfl rfl (Nat.le_of_ble_eq_true rfl) dL_children_527 h (fun r108 S107 h => ?_) (fun En S9 h => h.elim)
      refine z_t_icmp_ne (C _) (pc := 530) dL_children_530 dL_children_533 kic_1 dL_children_534 dL_children_537 kic_0 ?_
      exact z_zret3 (C _) (pc := 538) T t106 t101 dL_children_538 (by decide) (by decide) h
  · refine z_iload (C _) (pc := 494) dL_children_494 9 rfl ?_
    refine z_iconst (C _) (pc := 496) (x := (-1 : Int32)) dL_children_496 kic_m1 ?_
    refine z_icmp_ne (C _) (pc := 497) (tgt := 504) dL_children_497 (by decide) h (fun h => ?_) (fun h => ?_)
    · refine z_iconst (C _) (pc := 504) (x := (0 : Int32)) dL_children_504 kic_0 ?_
      refine z_goto (C _) (pc := 505) (tgt := 538) dL_children_505 (by decide) ?_
      exact z_zret3 (C _) (pc := 538) T t100 t101 dL_children_538 (by decide) (by decide) h
    · refine z_iconst (C _) (pc := 500) (x := (1 : Int32)) dL_children_500 kic_1 ?_
      refine z_goto (C _) (pc := 501) (tgt := 538) dL_children_501 (by decide) ?_
      exact z_zret3 (C _) (pc := 538) T t100 t101 dL_children_538 (by decide) (by decide) h
set_option maxHeartbeats 4000000 in
set_option maxRecDepth 100000 in
theorem k_L_children_B327 (l : Launch) (hfl : l.stackTraces = false) (v : Ev) {x9 : P9} {A : Nat → Prop} {E : State → Prop} {X0 Y : va_W} (C : ∀ X, Cx l v RL cL_children 13 (some .boolean) "children" (x9, X, A, E)) (Q : Int32 → Hp → Hp → Hp → Prop) (T : E3 v rm_L_children (Q3i v) Q X0 Y A E x9) (S1 S2 S : Hp) (t1 : g_T S1 = v.2.2.1) (t2 : g_T S2 = v.2.2.1) (w0 : Nat) (w1 : Nat) (w2 : Nat) (w3 : Int32) (w4 : Int32) (w5 : Int32) (w6 : Int32) (w7 : Int32) (w8 : Int32) (w9 : Int32) (h : wp_L_children_B327 Q S1 S2 S w0 w1 w2 w3 w4 w5 w6 w7 w8 w9) : ZZ l v 13 rm_L_children (x9, Y3 v.2.1 Y S1 S2, A, E) 0 0 S 327 [(0, va_rf (some w0)), (1, va_rf (some w1)), (2, va_rf (some w2)), (3, .int w3), (4, .int w4), (5, .int w5), (6, .int w6), (7, .int w7), (8, .int w8), (9, .int w9)] [] := by
  unfold wp_L_children_B327 at h
  refine z_aload_n (C _) (pc := 327) dL_children_327 0 rfl ?_
  refine z_iload (C _) (pc := 328) dL_children_328 6 rfl ?_
  refine z_iconst (C _) (pc := 330) (x := (5 : Int32)) dL_children_330 kic_5 ?_
  obtain ⟨o109, h⟩ := h
  refine z_s1 t1 (fun t110 => ?_)
  refine z_Vi (C _) (pc := 331) (KX := fun _ _ => False) (kc' := 0) (ks' := 0) (As := [.int w6, .int (5 : Int32)]) (rest := []) rfl (c_X8_ofChild_n l v S1 w0 w6 (5 : Int32)) mw_X8_ofChild bw_113 bw_114 bw_115 (fit_of rfl) rfl rfl (Nat.le_of_ble_eq_true rfl) (by decide) rfl o109 dL_children_331 h (fun r112 S111 h => ?_) (fun En S9 h => h.elim)
  refine z_s1' t110 (fun t113 => ?_)
  refine z_istore (C _) (pc := 334) (lv' := [(10, .int r112), (0, va_rf (some w0)), (1, va_rf (some w1)), (2, va_rf (some w2)), (3, .int w3), (4, .int w4), (5, .int w5), (6, .int w6), (7, .int w7), (8, .int w8), (9, .int w9)]) dL_children_334 (by decide) rfl ?_
  refine z_aload_n (C _) (pc := 336) dL_children_336 1 rfl ?_
  refine z_aload_n (C _) (pc := 337) dL_children_337 2 rfl ?_
  refine z_iconst (C _) (pc := 338) (x := (3 : Int32)) dL_children_338 kic_3 ?_
  refine z_iload (C _) (pc := 339) dL_children_339 7 rfl ?_
  refine z_iconst (C _) (pc := 341) (x := (0 : Int32)) dL_children_341 kic_0 ?_
  refine z_iconst (C _) (pc := 342) (x := (0 : Int32)) dL_children_342 kic_0 ?_
  refine z_iconst (C _) (pc := 343) (x := (0 : Int32)) dL_children_343 kic_0 ?_
  refine z_S3i (C _) (pc := 344) (kc' := 92) (ks' := 2940) (As := [va_rf (some w0), va_rf (some w1), .int (3 : Int32), .int w6, .int (0 : Int32), .int (0 : Int32), .int (0 : Int32)]) (rest := []) (c_L_both l hfl v S111 S2 S w0 w1 (3 : Int32) w6 (0 : Int32) (0 : Int32) (0 : Int32)) mw_L_both bw_364 bw_365 (fit_of rfl) rfl rfl (Nat.le_of_ble_eq_true rfl) t113 t2 dL_children_344 h (fun r117 S114 S115 S116 t118 t119 h => ?_)
  refine z_istore (C _) (pc := 347) (lv' := [(11, .int r117), (10, .int r112), (0, va_rf (some w0)), (1, va_rf (some w1)), (2, va_rf (some w2)), (3, .int w3), (4, .int w4), (5, .int w5), (6, .int w6), (7, .int w7), (8, .int w8), (9, .int w9)]) dL_children_347 (by decide) rfl ?_
  refine z_iload (C _) (pc := 349) dL_children_349 0 rfl ?_
  refine z_ldc (C _) (pc := 351) (x := (-2000000003 : Int32)) dL_children_351 bw_778 ?_
  refine z_icmp_ne (C _) (pc := 353) (tgt := 376) dL_children_353 (by decide) h (fun h => ?_) (fun h => ?_)
  · refine z_aload_n (C _) (pc := 376) dL_children_376 2 rfl ?_
    refine z_iload (C _) (pc := 377) dL_children_377 8 rfl ?_
    refine z_iconst (C _) (pc := 379) (x := (1 : Int32)) dL_children_379 kic_1 ?_
    obtain ⟨o120, h⟩ := h
    refine z_s1 t118 (fun t121 => ?_)
    refine z_Vi (C _) (pc := 380) (KX := fun _ _ => False) (kc' := 92) (ks' := 2940) (As := [.int w6, .int (1 : Int32)]) (rest := []) rfl (c_X8_ofChild_n l v S114 w0 w6 (1 : Int32)) mw_X8_ofChild bw_113 bw_114 bw_115 (fit_of rfl) rfl rfl (Nat.le_of_ble_eq_true rfl) (by decide) rfl o120 dL_children_380 h (fun r123 S122 h => ?_) (fun En S9 h => h.elim)
    refine z_s1' t121 (fun t124 => ?_)
    refine z_iconst (C _) (pc := 383) (x := (-1 : Int32)) dL_children_383 kic_m1 ?_
    refine z_icmp_ne (C _) (pc := 384) (tgt := 449) dL_children_384 (by decide) h (fun h => ?_) (fun h => ?_)
    · refine z_iconst (C _) (pc := 449) (x := (0 : Int32)) dL_children_449 kic_0 ?_
      exact z_zret3 (C _) (pc := 450) T t124 t119 dL_children_450 (by decide) (by decide) h
    · refine z_aload_n (C _) (pc := 387) dL_children_387 2 rfl ?_
      refine z_iload (C _) (pc := 388) dL_children_388 8 rfl ?_
      refine z_iconst (C _) (pc := 390) (x := (2 : Int32)) dL_children_390 kic_2 ?_
      obtain ⟨o125, h⟩ := h
      refine z_s1 t124 (fun t126 => ?_)
      refine z_Vi (C _) (pc := 391) (KX := fun _ _ => False) (kc' := 92) (ks' := 2940) (As := [.int w6, .int (2 : Int32)]) (rest := []) rfl (c_X8_ofChild_n l v S122 w0 w6 (2 : Int32)) mw_X8_ofChild bw_113 bw_114 bw_115 (fit_of rfl) rfl rfl (Nat.le_of_ble_eq_true rfl) (by decide) rfl o125 dL_children_391 h (fun r128 S127 h => ?_) (fun En S9 h => h.elim)
      refine z_s1' t126 (fun t129 => ?_)
      refine z_iconst (C _) (pc := 394) (x := (-1 : Int32)) dL_children_394 kic_m1 ?_
      refine z_icmp_ne (C _) (pc := 395) (tgt := 449) dL_children_395 (by decide) h (fun h => ?_) (fun h => ?_)
      · refine z_iconst (C _) (pc := 449) (x := (0 : Int32)) dL_children_449 kic_0 ?_
        exact z_zret3 (C _) (pc := 450) T t129 t119 dL_children_450 (by decide) (by decide) h
      · refine z_aload_n (C _) (pc := 398) dL_children_398 2 rfl ?_
        refine z_iload (C _) (pc := 399) dL_children_399 8 rfl ?_
        refine z_iconst (C _) (pc := 401) (x := (3 : Int32)) dL_children_401 kic_3 ?_
        obtain ⟨o130, h⟩ := h
        refine z_s1 t129 (fun t131 => ?_)
        refine z_Vi (C _) (pc := 402) (KX := fun _ _ => False) (kc' := 92) (ks' := 2940) (As := [.int w6, .int (3 : Int32)]) (rest := []) rfl (c_X8_ofChild_n l v S127 w0 w6 (3 : Int32)) mw_X8_ofChild bw_113 bw_114 bw_115 (fit_of rfl) rfl rfl (Nat.le_of_ble_eq_true rfl) (by decide) rfl o130 dL_children_402 h (fun r133 S132 h => ?_) (fun En S9 h => h.elim)
        refine z_s1' t131 (fun t134 => ?_)
        refine z_iconst (C _) (pc := 405) (x := (-1 : Int32)) dL_children_405 kic_m1 ?_
        refine z_icmp_ne (C _) (pc := 406) (tgt := 449) dL_children_406 (by decide) h (fun h => ?_) (fun h => ?_)
        · refine z_iconst (C _) (pc := 449) (x := (0 : Int32)) dL_children_449 kic_0 ?_
          exact z_zret3 (C _) (pc := 450) T t134 t119 dL_children_450 (by decide) (by decide) h
        · refine z_aload_n (C _) (pc := 409) dL_children_409 2 rfl ?_
          refine z_iload (C _) (pc := 410) dL_children_410 8 rfl ?_
          refine z_iconst (C _) (pc := 412) (x := (5 : Int32)) dL_children_412 kic_5 ?_
          obtain ⟨o135, h⟩ := h
          refine z_s1 t134 (fun t136 => ?_)
          refine z_Vi (C _) (pc := 413) (KX := fun _ _ => False) (kc' := 92) (ks' := 2940) (As := [.int w6, .int (5 : Int32)]) (rest := []) rfl (c_X8_ofChild_n l v S132 w0 w6 (5 : Int32)) mw_X8_ofChild bw_113 bw_114 bw_115 (fit_of rfl) rfl rfl (Nat.le_of_ble_eq_true rfl) (by decide) rfl o135 dL_children_413 h (fun r138 S137 h => ?_) (fun En S9 h => h.elim)
          refine z_s1' t136 (fun t139 => ?_)
          refine z_iload (C _) (pc := 416) dL_children_416 1 rfl ?_
          refine z_icmp_ne (C _) (pc := 418) (tgt := 449) dL_children_418 (by decide) h (fun h => ?_) (fun h => ?_)
          · refine z_iconst (C _) (pc := 449) (x := (0 : Int32)) dL_children_449 kic_0 ?_
            exact z_zret3 (C _) (pc := 450) T t139 t119 dL_children_450 (by decide) (by decide) h
          · refine z_iload (C _) (pc := 421) dL_children_421 0 rfl ?_
            refine z_iconst (C _) (pc := 423) (x := (-1 : Int32)) dL_children_423 kic_m1 ?_
            refine z_icmp_eq (C _) (pc := 424) (tgt := 445) dL_children_424 (by decide) h (fun h => ?_) (fun h => ?_)
            · refine z_iconst (C _) (pc := 445) (x := (1 : Int32)) dL_children_445 kic_1 ?_
              refine z_goto (C _) (pc := 446) (tgt := 450) dL_children_446 (by decide) ?_
              exact z_zret3 (C _) (pc := 450) T t139 t119 dL_children_450 (by decide) (by decide) h
            · refine z_iload (C _) (pc := 427) dL_children_427 9 rfl ?_
              refine z_iconst (C _) (pc := 429) (x := (-1 : Int32)) dL_children_429 kic_m1 ?_
              refine z_icmp_eq (C _) (pc := 430) (tgt := 449) dL_children_430 (by decide) h (fun h => ?_) (fun h => ?_)
              · refine z_iconst (C _) (pc := 449) (x := (0 : Int32)) dL_children_449 kic_0 ?_
                exact z_zret3 (C _) (pc := 450) T t139 t119 dL_children_450 (by decide) (by decide) h
              · refine z_aload_n (C _) (pc := 433) dL_children_433 2 rfl ?_
                refine z_iload (C _) (pc := 434) dL_children_434 0 rfl ?_
                refine z_iconst (C _) (pc := 436) (x := (1 : Int32)) dL_children_436 kic_1 ?_
                obtain ⟨o140, h⟩ := h
                refine z_s1 t139 (fun t141 => ?_)
                refine z_Vi (C _) (pc := 437) (KX := fun _ _ => False) (kc' := 92) (ks' := 2940) (As := [.int r117, .int (1 : Int32)]) (rest := []) rfl (c_X8_ofChild_n l v S137 w0 r117 (1 : Int32)) mw_X8_ofChild bw_113 bw_114 bw_115 (fit_of rfl) rfl rfl (Nat.le_of_ble_eq_true rfl) (by decide) rfl o140 dL_children_437 h (fun r143 S142 h => ?_) (fun En S9 h => h.elim)
                refine z_s1' t141 (fun t144 => ?_)
                refine z_iload (C _) (pc := 440) dL_children_440 9 rfl ?_
                refine z_t_icmp_ne (C _) (pc := 442) dL_children_442 dL_children_445 kic_1 dL_children_446 dL_children_449 kic_0 ?_
                exact z_zret3 (C _) (pc := 450) T t144 t119 dL_children_450 (by decide) (by decide) h
  · refine z_iload (C _) (pc := 356) dL_children_356 9 rfl ?_
    refine z_iconst (C _) (pc := 358) (x := (-1 : Int32)) dL_children_358 kic_m1 ?_
    refine z_icmp_ne (C _) (pc := 359) (tgt := 372) dL_children_359 (by decide) h (fun h => ?_) (fun h => ?_)
    · refine z_iconst (C _) (pc := 372) (x := (0 : Int32)) dL_children_372 kic_0 ?_
      refine z_goto (C _) (pc := 373) (tgt := 450) dL_children_373 (by decide) ?_
      exact z_zret3 (C _) (pc := 450) T t118 t119 dL_children_450 (by decide) (by decide) h
    · refine z_iload (C _) (pc := 362) dL_children_362 10 rfl ?_
      refine z_iconst (C _) (pc := 364) (x := (-1 : Int32)) dL_children_364 kic_m1 ?_
      refine z_icmp_ne (C _) (pc := 365) (tgt := 372) dL_children_365 (by decide) h (fun h => ?_) (fun h => ?_)
      · refine z_iconst (C _) (pc := 372) (x := (0 : Int32)) dL_children_372 kic_0 ?_
        refine z_goto (C _) (pc := 373) (tgt := 450) dL_children_373 (by decide) ?_
        exact z_zret3 (C _) (pc := 450) T t118 t119 dL_children_450 (by decide) (by decide) h
      · refine z_iconst (C _) (pc := 368) (x := (1 : Int32)) dL_children_368 kic_1 ?_
        refine z_goto (C _) (pc := 369) (tgt := 450) dL_children_369 (by decide) ?_
        exact z_zret3 (C _) (pc := 450) T t118 t119 dL_children_450 (by decide) (by decide) h
set_option maxHeartbeats 4000000 in
set_option maxRecDepth 100000 in
theorem k_L_children_B182 (l : Launch) (hfl : l.stackTraces = false) (v : Ev) {x9 : P9} {A : Nat → Prop} {E : State → Prop} {X0 Y : va_W} (C : ∀ X, Cx l v RL cL_children 13 (some .boolean) "children" (x9, X, A, E)) (Q : Int32 → Hp → Hp → Hp → Prop) (T : E3 v rm_L_children (Q3i v) Q X0 Y A E x9) (S1 S2 S : Hp) (t1 : g_T S1 = v.2.2.1) (t2 : g_T S2 = v.2.2.1) (w0 : Nat) (w1 : Nat) (w2 : Nat) (w3 : Int32) (w4 : Int32) (w5 : Int32) (w6 : Int32) (w7 : Int32) (w8 : Int32) (w9 : Int32) (h : wp_L_children_B182 Q S1 S2 S w0 w1 w2 w3 w4 w5 w6 w7 w8 w9) : ZZ l v 13 rm_L_children (x9, Y3 v.2.1 Y S1 S2, A, E) 0 0 S 182 [(0, va_rf (some w0)), (1, va_rf (some w1)), (2, va_rf (some w2)), (3, .int w3), (4, .int w4), (5, .int w5), (6, .int w6), (7, .int w7), (8, .int w8), (9, .int w9)] [] := by
  unfold wp_L_children_B182 at h
  refine z_aload_n (C _) (pc := 182) dL_children_182 0 rfl ?_
  refine z_iload (C _) (pc := 183) dL_children_183 9 rfl ?_
  refine z_iconst (C _) (pc := 185) (x := (0 : Int32)) dL_children_185 kic_0 ?_
  obtain ⟨o145, h⟩ := h
  refine z_s1 t1 (fun t146 => ?_)
  refine z_Vi (C _) (pc := 186) (KX := fun _ _ => False) (kc' := 0) (ks' := 0) (As := [.int w9, .int (0 : Int32)]) (rest := []) rfl (c_X8_ofTroop_n l v S1 w0 w9 (0 : Int32)) mw_X8_ofTroop bw_256 bw_257 bw_258 (fit_of rfl) rfl rfl (Nat.le_of_ble_eq_true rfl) (by decide) rfl o145 dL_children_186 h (fun r148 S147 h => ?_) (fun En S9 h => h.elim)
  refine z_s1' t146 (fun t149 => ?_)
  refine z_istore (C _) (pc := 189) (lv' := [(10, .int r148), (0, va_rf (some w0)), (1, va_rf (some w1)), (2, va_rf (some w2)), (3, .int w3), (4, .int w4), (5, .int w5), (6, .int w6), (7, .int w7), (8, .int w8), (9, .int w9)]) dL_children_189 (by decide) rfl ?_
  refine z_aload_n (C _) (pc := 191) dL_children_191 1 rfl ?_
  refine z_aload_n (C _) (pc := 192) dL_children_192 2 rfl ?_
  refine z_iconst (C _) (pc := 193) (x := (2 : Int32)) dL_children_193 kic_2 ?_
  refine z_iload (C _) (pc := 194) dL_children_194 7 rfl ?_
  refine z_iload (C _) (pc := 196) dL_children_196 10 rfl ?_
  refine z_iconst (C _) (pc := 198) (x := (0 : Int32)) dL_children_198 kic_0 ?_
  refine z_iconst (C _) (pc := 199) (x := (0 : Int32)) dL_children_199 kic_0 ?_
  refine z_S3i (C _) (pc := 200) (kc' := 92) (ks' := 2940) (As := [va_rf (some w0), va_rf (some w1), .int (2 : Int32), .int w6, .int w9, .int (0 : Int32), .int (0 : Int32)]) (rest := []) (c_L_both l hfl v S147 S2 S w0 w1 (2 : Int32) w6 w9 (0 : Int32) (0 : Int32)) mw_L_both bw_364 bw_365 (fit_of rfl) rfl rfl (Nat.le_of_ble_eq_true rfl) t149 t2 dL_children_200 h (fun r153 S150 S151 S152 t154 t155 h => ?_)
  refine z_istore (C _) (pc := 203) (lv' := [(11, .int r153), (10, .int r148), (0, va_rf (some w0)), (1, va_rf (some w1)), (2, va_rf (some w2)), (3, .int w3), (4, .int w4), (5, .int w5), (6, .int w6), (7, .int w7), (8, .int w8), (9, .int w9)]) dL_children_203 (by decide) rfl ?_
  refine z_iload (C _) (pc := 205) dL_children_205 0 rfl ?_
  refine z_ldc (C _) (pc := 207) (x := (-2000000003 : Int32)) dL_children_207 bw_778 ?_
  refine z_icmp_ne (C _) (pc := 209) (tgt := 244) dL_children_209 (by decide) h (fun h => ?_) (fun h => ?_)
  · refine z_iload (C _) (pc := 244) dL_children_244 9 rfl ?_
    refine z_iconst (C _) (pc := 246) (x := (-1 : Int32)) dL_children_246 kic_m1 ?_
    refine z_icmp_ne (C _) (pc := 247) (tgt := 318) dL_children_247 (by decide) h (fun h => ?_) (fun h => ?_)
    · refine z_iconst (C _) (pc := 318) (x := (0 : Int32)) dL_children_318 kic_0 ?_
      exact z_zret3 (C _) (pc := 319) T t154 t155 dL_children_319 (by decide) (by decide) h
    · refine z_iload (C _) (pc := 250) dL_children_250 10 rfl ?_
      refine z_iconst (C _) (pc := 252) (x := (-1 : Int32)) dL_children_252 kic_m1 ?_
      refine z_icmp_ne (C _) (pc := 253) (tgt := 318) dL_children_253 (by decide) h (fun h => ?_) (fun h => ?_)
      · refine z_iconst (C _) (pc := 318) (x := (0 : Int32)) dL_children_318 kic_0 ?_
        exact z_zret3 (C _) (pc := 319) T t154 t155 dL_children_319 (by decide) (by decide) h
      · refine z_iload (C _) (pc := 256) dL_children_256 0 rfl ?_
        refine z_if_ne (C _) (pc := 258) (tgt := 290) dL_children_258 (by decide) h (fun h => ?_) (fun h => ?_)
        · refine z_aload_n (C _) (pc := 290) dL_children_290 2 rfl ?_
          refine z_iload (C _) (pc := 291) dL_children_291 8 rfl ?_
          refine z_iconst (C _) (pc := 293) (x := (2 : Int32)) dL_children_293 kic_2 ?_
          obtain ⟨o156, h⟩ := h
          refine z_s1 t154 (fun t157 => ?_)
          refine z_Vi (C _) (pc := 294) (KX := fun _ _ => False) (kc' := 92) (ks' := 2940) (As := [.int w6, .int (2 : Int32)]) (rest := []) rfl (c_X8_ofChild_n l v S150 w0 w6 (2 : Int32)) mw_X8_ofChild bw_113 bw_114 bw_115 (fit_of rfl) rfl rfl (Nat.le_of_ble_eq_true rfl) (by decide) rfl o156 dL_children_294 h (fun r159 S158 h => ?_) (fun En S9 h => h.elim)
          refine z_s1' t157 (fun t160 => ?_)
          refine z_iload (C _) (pc := 297) dL_children_297 11 rfl ?_
          refine z_icmp_ne (C _) (pc := 299) (tgt := 318) dL_children_299 (by decide) h (fun h => ?_) (fun h => ?_)
          · refine z_iconst (C _) (pc := 318) (x := (0 : Int32)) dL_children_318 kic_0 ?_
            exact z_zret3 (C _) (pc := 319) T t160 t155 dL_children_319 (by decide) (by decide) h
          · refine z_iload (C _) (pc := 302) dL_children_302 0 rfl ?_
            refine z_aload_n (C _) (pc := 304) dL_children_304 2 rfl ?_
            refine z_iload (C _) (pc := 305) dL_children_305 11 rfl ?_
            refine z_iconst (C _) (pc := 307) (x := (1 : Int32)) dL_children_307 kic_1 ?_
            obtain ⟨o161, h⟩ := h
            refine z_s1 t160 (fun t162 => ?_)
            refine z_Vi (C _) (pc := 308) (KX := fun _ _ => False) (kc' := 92) (ks' := 2940) (As := [.int w9, .int (1 : Int32)]) (rest := [.int r153]) rfl (c_X8_ofTroop_n l v S158 w0 w9 (1 : Int32)) mw_X8_ofTroop bw_256 bw_257 bw_258 (fit_of rfl) rfl rfl (Nat.le_of_ble_eq_true rfl) (by decide) rfl o161 dL_children_308 h (fun r164 S163 h => ?_) (fun En S9 h => h.elim)
            refine z_s1' t162 (fun t165 => ?_)
            refine z_t_icmp_ne (C _) (pc := 311) dL_children_311 dL_children_314 kic_1 dL_children_315 dL_children_318 kic_0 ?_
            exact z_zret3 (C _) (pc := 319) T t165 t155 dL_children_319 (by decide) (by decide) h
        · refine z_aload_n (C _) (pc := 261) dL_children_261 2 rfl ?_
          refine z_iload (C _) (pc := 262) dL_children_262 8 rfl ?_
          refine z_iconst (C _) (pc := 264) (x := (1 : Int32)) dL_children_264 kic_1 ?_
          obtain ⟨o166, h⟩ := h
          refine z_s1 t154 (fun t167 => ?_)
          refine z_Vi (C _) (pc := 265) (KX := fun _ _ => False) (kc' := 92) (ks' := 2940) (As := [.int w6, .int (1 : Int32)]) (rest := []) rfl (c_X8_ofChild_n l v S150 w0 w6 (1 : Int32)) mw_X8_ofChild bw_113 bw_114 bw_115 (fit_of rfl) rfl rfl (Nat.le_of_ble_eq_true rfl) (by decide) rfl o166 dL_children_265 h (fun r169 S168 h => ?_) (fun En S9 h => h.elim)
          refine z_s1' t167 (fun t170 => ?_)
          refine z_iload (C _) (pc := 268) dL_children_268 11 rfl ?_
          refine z_icmp_ne (C _) (pc := 270) (tgt := 318) dL_children_270 (by decide) h (fun h => ?_) (fun h => ?_)
          · refine z_iconst (C _) (pc := 318) (x := (0 : Int32)) dL_children_318 kic_0 ?_
            exact z_zret3 (C _) (pc := 319) T t170 t155 dL_children_319 (by decide) (by decide) h
          · refine z_aload_n (C _) (pc := 273) dL_children_273 2 rfl ?_
            refine z_iload (C _) (pc := 274) dL_children_274 11 rfl ?_
            refine z_iconst (C _) (pc := 276) (x := (0 : Int32)) dL_children_276 kic_0 ?_
            obtain ⟨o171, h⟩ := h
            refine z_s1 t170 (fun t172 => ?_)
            refine z_Vi (C _) (pc := 277) (KX := fun _ _ => False) (kc' := 92) (ks' := 2940) (As := [.int w9, .int (0 : Int32)]) (rest := []) rfl (c_X8_ofTroop_n l v S168 w0 w9 (0 : Int32)) mw_X8_ofTroop bw_256 bw_257 bw_258 (fit_of rfl) rfl rfl (Nat.le_of_ble_eq_true rfl) (by decide) rfl o171 dL_children_277 h (fun r174 S173 h => ?_) (fun En S9 h => h.elim)
            refine z_s1' t172 (fun t175 => ?_)
            refine z_iload (C _) (pc := 280) dL_children_280 1 rfl ?_
            refine z_iconst (C _) (pc := 282) (x := (1 : Int32)) dL_children_282 kic_1 ?_
            refine z_iadd (C _) (pc := 283) dL_children_283 ?_
            refine z_icmp_ne (C _) (pc := 284) (tgt := 318) dL_children_284 (by decide) h (fun h => ?_) (fun h => ?_)
            · refine z_iconst (C _) (pc := 318) (x := (0 : Int32)) dL_children_318 kic_0 ?_
              exact z_zret3 (C _) (pc := 319) T t175 t155 dL_children_319 (by decide) (by decide) h
            · refine z_goto (C _) (pc := 287) (tgt := 314) dL_children_287 (by decide) ?_
              refine z_iconst (C _) (pc := 314) (x := (1 : Int32)) dL_children_314 kic_1 ?_
              refine z_goto (C _) (pc := 315) (tgt := 319) dL_children_315 (by decide) ?_
              exact z_zret3 (C _) (pc := 319) T t175 t155 dL_children_319 (by decide) (by decide) h
  · refine z_aload_n (C _) (pc := 212) dL_children_212 2 rfl ?_
    refine z_iload (C _) (pc := 213) dL_children_213 8 rfl ?_
    refine z_iconst (C _) (pc := 215) (x := (1 : Int32)) dL_children_215 kic_1 ?_
    obtain ⟨o176, h⟩ := h
    refine z_s1 t154 (fun t177 => ?_)
    refine z_Vi (C _) (pc := 216) (KX := fun _ _ => False) (kc' := 92) (ks' := 2940) (As := [.int w6, .int (1 : Int32)]) (rest := []) rfl (c_X8_ofChild_n l v S150 w0 w6 (1 : Int32)) mw_X8_ofChild bw_113 bw_114 bw_115 (fit_of rfl) rfl rfl (Nat.le_of_ble_eq_true rfl) (by decide) rfl o176 dL_children_216 h (fun r179 S178 h => ?_) (fun En S9 h => h.elim)
    refine z_s1' t177 (fun t180 => ?_)
    refine z_iload (C _) (pc := 219) dL_children_219 9 rfl ?_
    refine z_icmp_ne (C _) (pc := 221) (tgt := 240) dL_children_221 (by decide) h (fun h => ?_) (fun h => ?_)
    · refine z_iconst (C _) (pc := 240) (x := (0 : Int32)) dL_children_240 kic_0 ?_
      refine z_goto (C _) (pc := 241) (tgt := 319) dL_children_241 (by decide) ?_
      exact z_zret3 (C _) (pc := 319) T t180 t155 dL_children_319 (by decide) (by decide) h
    · refine z_aload_n (C _) (pc := 224) dL_children_224 2 rfl ?_
      refine z_iload (C _) (pc := 225) dL_children_225 8 rfl ?_
      refine z_iconst (C _) (pc := 227) (x := (2 : Int32)) dL_children_227 kic_2 ?_
      obtain ⟨o181, h⟩ := h
      refine z_s1 t180 (fun t182 => ?_)
      refine z_Vi (C _) (pc := 228) (KX := fun _ _ => False) (kc' := 92) (ks' := 2940) (As := [.int w6, .int (2 : Int32)]) (rest := []) rfl (c_X8_ofChild_n l v S178 w0 w6 (2 : Int32)) mw_X8_ofChild bw_113 bw_114 bw_115 (fit_of rfl) rfl rfl (Nat.le_of_ble_eq_true rfl) (by decide) rfl o181 dL_children_228 h (fun r184 S183 h => ?_) (fun En S9 h => h.elim)
      refine z_s1' t182 (fun t185 => ?_)
      refine z_iload (C _) (pc := 231) dL_children_231 10 rfl ?_
      refine z_icmp_ne (C _) (pc := 233) (tgt := 240) dL_children_233 (by decide) h (fun h => ?_) (fun h => ?_)
      · refine z_iconst (C _) (pc := 240) (x := (0 : Int32)) dL_children_240 kic_0 ?_
        refine z_goto (C _) (pc := 241) (tgt := 319) dL_children_241 (by decide) ?_
        exact z_zret3 (C _) (pc := 319) T t185 t155 dL_children_319 (by decide) (by decide) h
      · refine z_iconst (C _) (pc := 236) (x := (1 : Int32)) dL_children_236 kic_1 ?_
        refine z_goto (C _) (pc := 237) (tgt := 319) dL_children_237 (by decide) ?_
        exact z_zret3 (C _) (pc := 319) T t185 t155 dL_children_319 (by decide) (by decide) h
set_option maxHeartbeats 4000000 in
set_option maxRecDepth 100000 in
theorem k_L_children_B135 (l : Launch) (hfl : l.stackTraces = false) (v : Ev) {x9 : P9} {A : Nat → Prop} {E : State → Prop} {X0 Y : va_W} (C : ∀ X, Cx l v RL cL_children 13 (some .boolean) "children" (x9, X, A, E)) (Q : Int32 → Hp → Hp → Hp → Prop) (T : E3 v rm_L_children (Q3i v) Q X0 Y A E x9) (S1 S2 S : Hp) (t1 : g_T S1 = v.2.2.1) (t2 : g_T S2 = v.2.2.1) (w0 : Nat) (w1 : Nat) (w2 : Nat) (w3 : Int32) (w4 : Int32) (w5 : Int32) (h : wp_L_children_B135 Q S1 S2 S w0 w1 w2 w3 w4 w5) : ZZ l v 13 rm_L_children (x9, Y3 v.2.1 Y S1 S2, A, E) 0 0 S 135 [(0, va_rf (some w0)), (1, va_rf (some w1)), (2, va_rf (some w2)), (3, .int w3), (4, .int w4), (5, .int w5)] [] := by
  unfold wp_L_children_B135 at h
  refine z_iload (C _) (pc := 135) dL_children_135 4 rfl ?_
  refine z_aload_n (C _) (pc := 137) dL_children_137 2 rfl ?_
  refine z_iconst (C _) (pc := 138) (x := (0 : Int32)) dL_children_138 kic_0 ?_
  obtain ⟨o38, h⟩ := h
  obtain ⟨v39, h⟩ := h
  refine z_iald (C _) (pc := 139) dL_children_139 rfl o38 v39 ?_
  refine z_Si8 (C _) (pc := 140) (KX := fun _ _ => False) (kc' := 0) (ks' := 0) (As := [.int w4, .int (g_R S w2 (0 : Int32).toNatClampNeg)]) (rest := []) (c_L_some l v S w4 (g_R S w2 (0 : Int32).toNatClampNeg)) mw_L_some bw_101 bw_102 (fit_of rfl) rfl rfl (Nat.le_of_ble_eq_true rfl) dL_children_140 h (fun r41 S40 h => ?_) (fun En S9 h => h.elim)
  refine z_istore (C _) (pc := 143) (lv' := [(6, .int r41), (0, va_rf (some w0)), (1, va_rf (some w1)), (2, va_rf (some w2)), (3, .int w3), (4, .int w4), (5, .int w5)]) dL_children_143 (by decide) rfl ?_
  refine z_aload_n (C _) (pc := 145) dL_children_145 1 rfl ?_
  refine z_iload (C _) (pc := 146) dL_children_146 0 rfl ?_
  refine z_iconst (C _) (pc := 148) (x := (1 : Int32)) dL_children_148 kic_1 ?_
  obtain ⟨o42, h⟩ := h
  refine z_s1 t1 (fun t43 => ?_)
  refine z_Vi (C _) (pc := 149) (KX := fun _ _ => False) (kc' := 0) (ks' := 0) (As := [.int r41, .int (1 : Int32)]) (rest := []) rfl (c_X8_ofChild_n l v S1 w0 r41 (1 : Int32)) mw_X8_ofChild bw_113 bw_114 bw_115 (fit_of rfl) rfl rfl (Nat.le_of_ble_eq_true rfl) (by decide) rfl o42 dL_children_149 h (fun r45 S44 h => ?_) (fun En S9 h => h.elim)
  refine z_s1' t43 (fun t46 => ?_)
  refine z_istore (C _) (pc := 152) (lv' := [(7, .int r45), (6, .int r41), (0, va_rf (some w0)), (1, va_rf (some w1)), (2, va_rf (some w2)), (3, .int w3), (4, .int w4), (5, .int w5)]) dL_children_152 (by decide) rfl ?_
  refine z_aload_n (C _) (pc := 154) dL_children_154 2 rfl ?_
  refine z_iload (C _) (pc := 155) dL_children_155 1 rfl ?_
  refine z_iconst (C _) (pc := 157) (x := (2 : Int32)) dL_children_157 kic_2 ?_
  obtain ⟨o47, h⟩ := h
  refine z_s1 t46 (fun t48 => ?_)
  refine z_Vi (C _) (pc := 158) (KX := fun _ _ => False) (kc' := 0) (ks' := 0) (As := [.int r41, .int (2 : Int32)]) (rest := []) rfl (c_X8_ofChild_n l v S44 w0 r41 (2 : Int32)) mw_X8_ofChild bw_113 bw_114 bw_115 (fit_of rfl) rfl rfl (Nat.le_of_ble_eq_true rfl) (by decide) rfl o47 dL_children_158 h (fun r50 S49 h => ?_) (fun En S9 h => h.elim)
  refine z_s1' t48 (fun t51 => ?_)
  refine z_istore (C _) (pc := 161) (lv' := [(8, .int r50), (7, .int r45), (6, .int r41), (0, va_rf (some w0)), (1, va_rf (some w1)), (2, va_rf (some w2)), (3, .int w3), (4, .int w4), (5, .int w5)]) dL_children_161 (by decide) rfl ?_
  refine z_iload (C _) (pc := 163) dL_children_163 7 rfl ?_
  refine z_iconst (C _) (pc := 165) (x := (5 : Int32)) dL_children_165 kic_5 ?_
  refine z_ishr (C _) (pc := 166) dL_children_166 ?_
  refine z_aload_n (C _) (pc := 167) dL_children_167 5 rfl ?_
  refine z_iconst (C _) (pc := 168) (x := (1 : Int32)) dL_children_168 kic_1 ?_
  obtain ⟨o52, h⟩ := h
  obtain ⟨v53, h⟩ := h
  refine z_iald (C _) (pc := 169) dL_children_169 rfl o52 v53 ?_
  refine z_Si8 (C _) (pc := 170) (KX := fun _ _ => False) (kc' := 0) (ks' := 0) (As := [.int (w4 >>> ((5 : Int32) &&& 31)), .int (g_R S40 w2 (1 : Int32).toNatClampNeg)]) (rest := []) (c_L_some l v S40 (w4 >>> ((5 : Int32) &&& 31)) (g_R S40 w2 (1 : Int32).toNatClampNeg)) mw_L_some bw_101 bw_102 (fit_of rfl) rfl rfl (Nat.le_of_ble_eq_true rfl) dL_children_170 h (fun r55 S54 h => ?_) (fun En S9 h => h.elim)
  refine z_istore (C _) (pc := 173) (lv' := [(9, .int r55), (8, .int r50), (7, .int r45), (6, .int r41), (0, va_rf (some w0)), (1, va_rf (some w1)), (2, va_rf (some w2)), (3, .int w3), (4, .int w4), (5, .int w5)]) dL_children_173 (by decide) rfl ?_
  refine z_iload (C _) (pc := 175) dL_children_175 9 rfl ?_
  refine z_bipush (C _) (pc := 177) (x := (7 : Int32)) dL_children_177 kbp_7 ?_
  refine z_icmp_ge (C _) (pc := 179) (tgt := 320) dL_children_179 (by decide) h (fun h => ?_) (fun h => ?_)
  · refine z_iload (C _) (pc := 320) dL_children_320 9 rfl ?_
    refine z_bipush (C _) (pc := 322) (x := (9 : Int32)) dL_children_322 kbp_9 ?_
    refine z_icmp_ge (C _) (pc := 324) (tgt := 451) dL_children_324 (by decide) h (fun h => ?_) (fun h => ?_)
    · refine z_iload (C _) (pc := 451) dL_children_451 9 rfl ?_
      refine z_bipush (C _) (pc := 453) (x := (10 : Int32)) dL_children_453 kbp_10 ?_
      refine z_icmp_ge (C _) (pc := 455) (tgt := 539) dL_children_455 (by decide) h (fun h => ?_) (fun h => ?_)
      · refine z_aload_n (C _) (pc := 539) dL_children_539 4 rfl ?_
        refine z_iload (C _) (pc := 540) dL_children_540 3 rfl ?_
        refine z_iconst (C _) (pc := 542) (x := (5 : Int32)) dL_children_542 kic_5 ?_
        obtain ⟨o56, h⟩ := h
        refine z_s1 t51 (fun t57 => ?_)
        refine z_Vi (C _) (pc := 543) (KX := fun _ _ => False) (kc' := 0) (ks' := 0) (As := [.int r41, .int (5 : Int32)]) (rest := []) rfl (c_X8_ofChild_n l v S49 w0 r41 (5 : Int32)) mw_X8_ofChild bw_113 bw_114 bw_115 (fit_of rfl) rfl rfl (Nat.le_of_ble_eq_true rfl) (by decide) rfl o56 dL_children_543 h (fun r59 S58 h => ?_) (fun En S9 h => h.elim)
        refine z_s1' t57 (fun t60 => ?_)
        refine z_istore (C _) (pc := 546) (lv' := [(10, .int r59), (9, .int r55), (8, .int r50), (7, .int r45), (6, .int r41), (0, va_rf (some w0)), (1, va_rf (some w1)), (2, va_rf (some w2)), (3, .int w3), (4, .int w4), (5, .int w5)]) dL_children_546 (by decide) rfl ?_
        refine z_iload (C _) (pc := 548) dL_children_548 10 rfl ?_
        refine z_bipush (C _) (pc := 550) (x := (11 : Int32)) dL_children_550 kbp_11 ?_
        refine z_icmp_ge (C _) (pc := 552) (tgt := 661) dL_children_552 (by decide) h (fun h => ?_) (fun h => ?_)
        · refine z_sub [5, 6, 7, 8, 9, 10, 4, 3, 2, 1, 0] (lv' := [(0, va_rf (some w0)), (1, va_rf (some w1)), (2, va_rf (some w2)), (3, .int w3), (4, .int w4), (5, .int w5), (6, .int r41), (7, .int r45), (8, .int r50), (9, .int r55), (10, .int r59)]) rfl ?_
          exact k_L_children_B661 l hfl v C Q T S58 S2 S54 t60 t2 w0 w1 w2 w3 w4 w5 r41 r45 r50 r55 r59 h
        · refine z_sub [5, 6, 7, 8, 9, 10, 4, 3, 2, 1, 0] (lv' := [(0, va_rf (some w0)), (1, va_rf (some w1)), (2, va_rf (some w2)), (3, .int w3), (4, .int w4), (5, .int w5), (6, .int r41), (7, .int r45), (8, .int r50), (9, .int r55), (10, .int r59)]) rfl ?_
          exact k_L_children_B555 l hfl v C Q T S58 S2 S54 t60 t2 w0 w1 w2 w3 w4 w5 r41 r45 r50 r55 r59 h
      · refine z_sub [4, 5, 6, 7, 8, 9, 3, 2, 1, 0] (lv' := [(0, va_rf (some w0)), (1, va_rf (some w1)), (2, va_rf (some w2)), (3, .int w3), (4, .int w4), (5, .int w5), (6, .int r41), (7, .int r45), (8, .int r50), (9, .int r55)]) rfl ?_
        exact k_L_children_B458 l hfl v C Q T S49 S2 S54 t51 t2 w0 w1 w2 w3 w4 w5 r41 r45 r50 r55 h
    · refine z_sub [4, 5, 6, 7, 8, 9, 3, 2, 1, 0] (lv' := [(0, va_rf (some w0)), (1, va_rf (some w1)), (2, va_rf (some w2)), (3, .int w3), (4, .int w4), (5, .int w5), (6, .int r41), (7, .int r45), (8, .int r50), (9, .int r55)]) rfl ?_
      exact k_L_children_B327 l hfl v C Q T S49 S2 S54 t51 t2 w0 w1 w2 w3 w4 w5 r41 r45 r50 r55 h
  · refine z_sub [4, 5, 6, 7, 8, 9, 3, 2, 1, 0] (lv' := [(0, va_rf (some w0)), (1, va_rf (some w1)), (2, va_rf (some w2)), (3, .int w3), (4, .int w4), (5, .int w5), (6, .int r41), (7, .int r45), (8, .int r50), (9, .int r55)]) rfl ?_
    exact k_L_children_B182 l hfl v C Q T S49 S2 S54 t51 t2 w0 w1 w2 w3 w4 w5 r41 r45 r50 r55 h
set_option maxHeartbeats 4000000 in
set_option maxRecDepth 100000 in
theorem c_L_children (l : Launch) (hfl : l.stackTraces = false) (v : Ev) (S1 S2 S : Hp) (x0 : Nat) (x1 : Nat) (x2 : Nat) (x3 : Int32) (x4 : Int32) : C3 l v yL_children cL_children 13 (some .boolean) rm_L_children [va_rf (some x0), va_rf (some x1), va_rf (some x2), .int x3, .int x4] S1 S2 S (Q3i v) (fun Q => wp_L_children S1 S2 S x0 x1 x2 x3 x4 Q) := by
  refine z_start3 [(0, va_rf (some x0)), (1, va_rf (some x1)), (2, va_rf (some x2)), (3, .int x3), (4, .int x4)] (by decide +kernel) (by simp only [la_i, la_r, la_n]) (cat_cr (cat_cr (cat_cr (cat_ci (cat_ci cat_nil))))) (by simp only [ls_i, ls_r, ls_n]; decide) (fun x9 A E Y Q h t1 t2 C T => ?_)
  unfold wp_L_children at h
  refine z_iload_n (C _) (pc := 0) dL_children_0 3 rfl ?_
  refine z_bipush (C _) (pc := 1) (x := (12 : Int32)) dL_children_1 kbp_12 ?_
  refine z_Si8 (C _) (pc := 3) (KX := fun _ _ => False) (kc' := 0) (ks' := 0) (As := [.int x3, .int (12 : Int32)]) (rest := []) (c_L_some l v S x3 (12 : Int32)) mw_L_some bw_101 bw_102 (fit_of rfl) rfl rfl (Nat.le_of_ble_eq_true rfl) dL_children_3 h (fun r2 S1 h => ?_) (fun En S9 h => h.elim)
  refine z_istore (C _) (pc := 6) (lv' := [(5, .int r2), (0, va_rf (some x0)), (1, va_rf (some x1)), (2, va_rf (some x2)), (3, .int x3), (4, .int x4)]) dL_children_6 (by decide) rfl ?_
  refine z_iload (C _) (pc := 8) dL_children_8 0 rfl ?_
  refine z_iconst (C _) (pc := 10) (x := (3 : Int32)) dL_children_10 kic_3 ?_
  refine z_icmp_lt (C _) (pc := 11) (tgt := 20) dL_children_11 (by decide) h (fun h => ?_) (fun h => ?_)
  · refine z_sub [1, 2, 3, 4, 5, 0] (lv' := [(0, va_rf (some x0)), (1, va_rf (some x1)), (2, va_rf (some x2)), (3, .int x3), (4, .int x4), (5, .int r2)]) rfl ?_
    exact k_L_children_B20 l hfl v C Q T S1 S2 S1 t1 t2 x0 x1 x2 x3 x4 r2 h
  · refine z_aload_n (C _) (pc := 14) dL_children_14 3 rfl ?_
    refine z_iconst (C _) (pc := 15) (x := (0 : Int32)) dL_children_15 kic_0 ?_
    obtain ⟨o36, h⟩ := h
    obtain ⟨v37, h⟩ := h
    refine z_iald (C _) (pc := 16) dL_children_16 rfl o36 v37 ?_
    refine z_if_ne (C _) (pc := 17) (tgt := 135) dL_children_17 (by decide) h (fun h => ?_) (fun h => ?_)
    · refine z_sub [1, 2, 3, 4, 5, 0] (lv' := [(0, va_rf (some x0)), (1, va_rf (some x1)), (2, va_rf (some x2)), (3, .int x3), (4, .int x4), (5, .int r2)]) rfl ?_
      exact k_L_children_B135 l hfl v C Q T S1 S2 S1 t1 t2 x0 x1 x2 x3 x4 r2 h
    · refine z_sub [1, 2, 3, 4, 5, 0] (lv' := [(0, va_rf (some x0)), (1, va_rf (some x1)), (2, va_rf (some x2)), (3, .int x3), (4, .int x4), (5, .int r2)]) rfl ?_
      exact k_L_children_B20 l hfl v C Q T S1 S2 S1 t1 t2 x0 x1 x2 x3 x4 r2 h
