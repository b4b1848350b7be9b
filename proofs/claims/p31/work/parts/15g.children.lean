def wp_L_children_B20 (Q : Int32 → Hp → Hp → Hp → Prop) (S1 S2 S : Hp) (w0 : Nat) (w1 : Nat) (w2 : Nat) (w3 : Int32) (w4 : Int32) (w5 : Int32) : Prop :=
  wp_L_some S w4 (10 : Int32) (fun r104 S103 => wp_L_both S1 S2 S103 w0 w1 (1 : Int32) ((5 : Int32) + r104) (0 : Int32) (0 : Int32) (0 : Int32) (fun r108 S105 S106 S107 => okA S107 11 w2 ∧ (vp_in (0 : Int32) (g_N S107 w2) ∧ (vp_in (0 : Int32) (g_N S107 w2) ∧ (lt (s_R S107 w2 (0 : Int32).toNatClampNeg ((g_R S107 w2 (0 : Int32).toNatClampNeg) + (if r108 < 0 then (0 : Int32) else (1 : Int32)))) (fun S114 => if r108 = (-2000000003 : Int32) then (okA S114 11 w2 ∧ (vp_in (0 : Int32) (g_N S114 w2) ∧ (if (g_R S114 w2 (0 : Int32).toNatClampNeg) = (24 : Int32) then (bz (1 : Int32) (Q (1 : Int32) S105 S106 S114)) else (bz (0 : Int32) (Q (0 : Int32) S105 S106 S114))))) else (okA S114 11 w2 ∧ (vp_in (0 : Int32) (g_N S114 w2) ∧ (if r108 = ((g_R S114 w2 (0 : Int32).toNatClampNeg) - (1 : Int32)) then (okA S105 8 w0 ∧ (wp_X8_ofChild S105 w0 r108 (0 : Int32) (fun r120 S119 => wp_L_some S114 w4 (10 : Int32) (fun r123 S122 => if r120 = ((5 : Int32) + r123) then (okA S119 8 w0 ∧ (wp_X8_ofChild S119 w0 r108 (1 : Int32) (fun r127 S126 => if r127 = (-1 : Int32) then (okA S126 8 w0 ∧ (wp_X8_ofChild S126 w0 r108 (5 : Int32) (fun r132 S131 => bz (if r132 = 0 then (1 : Int32) else (0 : Int32)) (Q (if r132 = 0 then (1 : Int32) else (0 : Int32)) S131 S106 S122)) (fun _ _ => False))) else (bz (0 : Int32) (Q (0 : Int32) S126 S106 S122))) (fun _ _ => False))) else (bz (0 : Int32) (Q (0 : Int32) S119 S106 S122)))) (fun _ _ => False))) else (bz (0 : Int32) (Q (0 : Int32) S105 S106 S114)))))))))))
def wp_L_children_B661 (Q : Int32 → Hp → Hp → Hp → Prop) (S1 S2 S : Hp) (w0 : Nat) (w1 : Nat) (w2 : Nat) (w3 : Int32) (w4 : Int32) (w5 : Int32) (w6 : Int32) (w7 : Int32) (w8 : Int32) (w9 : Int32) (w10 : Int32) : Prop :=
  wp_L_some S (w4 >>> ((5 : Int32) &&& 31)) (396 : Int32) (fun r162 S161 => lt ((1 : Int32) + r162) (fun y163 => wp_L_both S1 S2 S161 w0 w1 (18 : Int32) w6 y163 (0 : Int32) (0 : Int32) (fun r167 S164 S165 S166 => if r167 = (-2000000003 : Int32) then (if y163 ≤ w10 then (bz (0 : Int32) (Q (0 : Int32) S164 S165 S166)) else (bz (1 : Int32) (Q (1 : Int32) S164 S165 S166))) else (bz (if r167 = (w10 - y163) then (1 : Int32) else (0 : Int32)) (Q (if r167 = (w10 - y163) then (1 : Int32) else (0 : Int32)) S164 S165 S166)))))
def wp_L_children_B555 (Q : Int32 → Hp → Hp → Hp → Prop) (S1 S2 S : Hp) (w0 : Nat) (w1 : Nat) (w2 : Nat) (w3 : Int32) (w4 : Int32) (w5 : Int32) (w6 : Int32) (w7 : Int32) (w8 : Int32) (w9 : Int32) (w10 : Int32) : Prop :=
  wp_L_some S (w4 >>> ((5 : Int32) &&& 31)) (99 : Int32) (fun r171 S170 => lt ((1 : Int32) + r171) (fun y172 => wp_L_both S1 S2 S170 w0 w1 (17 : Int32) w6 y172 (0 : Int32) (0 : Int32) (fun r176 S173 S174 S175 => if r176 = (-2000000003 : Int32) then (okA S173 8 w0 ∧ (wp_X8_ofChild S173 w0 w6 (5 : Int32) (fun r187 S186 => if r187 = w10 then (if w7 = (-1 : Int32) then (bz (1 : Int32) (Q (1 : Int32) S186 S174 S175)) else (if 0 < w10 then (bz (1 : Int32) (Q (1 : Int32) S186 S174 S175)) else (if w10 = 0 then (bz (1 : Int32) (Q (1 : Int32) S186 S174 S175)) else (bz (0 : Int32) (Q (0 : Int32) S186 S174 S175))))) else (bz (0 : Int32) (Q (0 : Int32) S186 S174 S175))) (fun _ _ => False))) else (if w7 = (-1 : Int32) then (bz (0 : Int32) (Q (0 : Int32) S173 S174 S175)) else (if r176 = (w10 + ((4 : Int32) * y172)) then (okA S173 8 w0 ∧ (wp_X8_owed S173 w0 w7 (fun r182 S181 => bz (if r182 < r176 then (0 : Int32) else (1 : Int32)) (Q (if r182 < r176 then (0 : Int32) else (1 : Int32)) S181 S174 S175)) (fun _ _ => False))) else (bz (0 : Int32) (Q (0 : Int32) S173 S174 S175)))))))
def wp_L_children_B458 (Q : Int32 → Hp → Hp → Hp → Prop) (S1 S2 S : Hp) (w0 : Nat) (w1 : Nat) (w2 : Nat) (w3 : Int32) (w4 : Int32) (w5 : Int32) (w6 : Int32) (w7 : Int32) (w8 : Int32) (w9 : Int32) : Prop :=
  okA S1 8 w0 ∧ (wp_X8_ofChild S1 w0 w6 (3 : Int32) (fun r192 S191 => wp_L_some S (w4 >>> ((5 : Int32) &&& 31)) (4 : Int32) (fun r195 S194 => wp_L_both S191 S2 S194 w0 w1 (4 : Int32) w6 r195 (0 : Int32) (0 : Int32) (fun r199 S196 S197 S198 => if r199 = (-2000000003 : Int32) then (if w7 = (-1 : Int32) then (bz (1 : Int32) (Q (1 : Int32) S196 S197 S198)) else (bz (0 : Int32) (Q (0 : Int32) S196 S197 S198))) else (if r199 = r192 then (okA S196 8 w0 ∧ (wp_X8_ofChild S196 w0 w6 (3 : Int32) (fun r205 S204 => wp_L_some S198 (w4 >>> ((5 : Int32) &&& 31)) (4 : Int32) (fun r208 S207 => bz (if r205 = r208 then (1 : Int32) else (0 : Int32)) (Q (if r205 = r208 then (1 : Int32) else (0 : Int32)) S204 S197 S207))) (fun _ _ => False))) else (bz (0 : Int32) (Q (0 : Int32) S196 S197 S198)))))) (fun _ _ => False))
def wp_L_children_B327 (Q : Int32 → Hp → Hp → Hp → Prop) (S1 S2 S : Hp) (w0 : Nat) (w1 : Nat) (w2 : Nat) (w3 : Int32) (w4 : Int32) (w5 : Int32) (w6 : Int32) (w7 : Int32) (w8 : Int32) (w9 : Int32) : Prop :=
  okA S1 8 w0 ∧ (wp_X8_ofChild S1 w0 w6 (5 : Int32) (fun r212 S211 => wp_L_both S211 S2 S w0 w1 (3 : Int32) w6 (0 : Int32) (0 : Int32) (0 : Int32) (fun r217 S214 S215 S216 => if r217 = (-2000000003 : Int32) then (if w7 = (-1 : Int32) then (if w8 = (-1 : Int32) then (bz (1 : Int32) (Q (1 : Int32) S214 S215 S216)) else (bz (0 : Int32) (Q (0 : Int32) S214 S215 S216))) else (bz (0 : Int32) (Q (0 : Int32) S214 S215 S216))) else (okA S214 8 w0 ∧ (wp_X8_ofChild S214 w0 w6 (1 : Int32) (fun r223 S222 => if r223 = (-1 : Int32) then (okA S222 8 w0 ∧ (wp_X8_ofChild S222 w0 w6 (2 : Int32) (fun r228 S227 => if r228 = (-1 : Int32) then (okA S227 8 w0 ∧ (wp_X8_ofChild S227 w0 w6 (3 : Int32) (fun r233 S232 => if r233 = (-1 : Int32) then (okA S232 8 w0 ∧ (wp_X8_ofChild S232 w0 w6 (5 : Int32) (fun r238 S237 => if r238 = r212 then (if r217 = (-1 : Int32) then (bz (1 : Int32) (Q (1 : Int32) S237 S215 S216)) else (if w7 = (-1 : Int32) then (bz (0 : Int32) (Q (0 : Int32) S237 S215 S216)) else (okA S237 8 w0 ∧ (wp_X8_ofChild S237 w0 r217 (1 : Int32) (fun r243 S242 => bz (if r243 = w7 then (1 : Int32) else (0 : Int32)) (Q (if r243 = w7 then (1 : Int32) else (0 : Int32)) S242 S215 S216)) (fun _ _ => False))))) else (bz (0 : Int32) (Q (0 : Int32) S237 S215 S216))) (fun _ _ => False))) else (bz (0 : Int32) (Q (0 : Int32) S232 S215 S216))) (fun _ _ => False))) else (bz (0 : Int32) (Q (0 : Int32) S227 S215 S216))) (fun _ _ => False))) else (bz (0 : Int32) (Q (0 : Int32) S222 S215 S216))) (fun _ _ => False))))) (fun _ _ => False))
def wp_L_children_B182 (Q : Int32 → Hp → Hp → Hp → Prop) (S1 S2 S : Hp) (w0 : Nat) (w1 : Nat) (w2 : Nat) (w3 : Int32) (w4 : Int32) (w5 : Int32) (w6 : Int32) (w7 : Int32) (w8 : Int32) (w9 : Int32) : Prop :=
  okA S1 8 w0 ∧ (wp_X8_ofTroop S1 w0 w9 (0 : Int32) (fun r248 S247 => wp_L_both S247 S2 S w0 w1 (2 : Int32) w6 w9 (0 : Int32) (0 : Int32) (fun r253 S250 S251 S252 => if r253 = (-2000000003 : Int32) then (okA S250 8 w0 ∧ (wp_X8_ofChild S250 w0 w6 (1 : Int32) (fun r279 S278 => if r279 = w7 then (okA S278 8 w0 ∧ (wp_X8_ofChild S278 w0 w6 (2 : Int32) (fun r284 S283 => if r284 = w8 then (bz (1 : Int32) (Q (1 : Int32) S283 S251 S252)) else (bz (0 : Int32) (Q (0 : Int32) S283 S251 S252))) (fun _ _ => False))) else (bz (0 : Int32) (Q (0 : Int32) S278 S251 S252))) (fun _ _ => False))) else (if w7 = (-1 : Int32) then (if w8 = (-1 : Int32) then (if r253 = 0 then (okA S250 8 w0 ∧ (wp_X8_ofChild S250 w0 w6 (1 : Int32) (fun r269 S268 => if r269 = w9 then (okA S268 8 w0 ∧ (wp_X8_ofTroop S268 w0 w9 (0 : Int32) (fun r274 S273 => if r274 = (r248 + (1 : Int32)) then (bz (1 : Int32) (Q (1 : Int32) S273 S251 S252)) else (bz (0 : Int32) (Q (0 : Int32) S273 S251 S252))) (fun _ _ => False))) else (bz (0 : Int32) (Q (0 : Int32) S268 S251 S252))) (fun _ _ => False))) else (okA S250 8 w0 ∧ (wp_X8_ofChild S250 w0 w6 (2 : Int32) (fun r259 S258 => if r259 = w9 then (okA S258 8 w0 ∧ (wp_X8_ofTroop S258 w0 w9 (1 : Int32) (fun r264 S263 => bz (if r253 = r264 then (1 : Int32) else (0 : Int32)) (Q (if r253 = r264 then (1 : Int32) else (0 : Int32)) S263 S251 S252)) (fun _ _ => False))) else (bz (0 : Int32) (Q (0 : Int32) S258 S251 S252))) (fun _ _ => False)))) else (bz (0 : Int32) (Q (0 : Int32) S250 S251 S252))) else (bz (0 : Int32) (Q (0 : Int32) S250 S251 S252))))) (fun _ _ => False))
def wp_L_children_B135 (Q : Int32 → Hp → Hp → Hp → Prop) (S1 S2 S : Hp) (w0 : Nat) (w1 : Nat) (w2 : Nat) (w3 : Int32) (w4 : Int32) (w5 : Int32) : Prop :=
  okA S 11 w2 ∧ (vp_in (0 : Int32) (g_N S w2) ∧ (wp_L_some S w4 (g_R S w2 (0 : Int32).toNatClampNeg) (fun r141 S140 => okA S1 8 w0 ∧ (wp_X8_ofChild S1 w0 r141 (1 : Int32) (fun r145 S144 => okA S144 8 w0 ∧ (wp_X8_ofChild S144 w0 r141 (2 : Int32) (fun r150 S149 => okA S140 11 w2 ∧ (vp_in (1 : Int32) (g_N S140 w2) ∧ (wp_L_some S140 (w4 >>> ((5 : Int32) &&& 31)) (g_R S140 w2 (1 : Int32).toNatClampNeg) (fun r155 S154 => if (7 : Int32) ≤ w5 then (if (9 : Int32) ≤ w5 then (if (10 : Int32) ≤ w5 then (okA S149 8 w0 ∧ (wp_X8_ofChild S149 w0 r141 (5 : Int32) (fun r159 S158 => if (11 : Int32) ≤ w5 then (wp_L_children_B661 Q S158 S2 S154 w0 w1 w2 w3 w4 w5 r141 r145 r150 r155 r159) else (wp_L_children_B555 Q S158 S2 S154 w0 w1 w2 w3 w4 w5 r141 r145 r150 r155 r159)) (fun _ _ => False))) else (wp_L_children_B458 Q S149 S2 S154 w0 w1 w2 w3 w4 w5 r141 r145 r150 r155)) else (wp_L_children_B327 Q S149 S2 S154 w0 w1 w2 w3 w4 w5 r141 r145 r150 r155)) else (wp_L_children_B182 Q S149 S2 S154 w0 w1 w2 w3 w4 w5 r141 r145 r150 r155))))) (fun _ _ => False))) (fun _ _ => False)))))
def wp_L_children (S1 S2 S : Hp) (x0 : Nat) (x1 : Nat) (x2 : Nat) (x3 : Int32) (x4 : Int32) (Q : Int32 → Hp → Hp → Hp → Prop) : Prop :=
  wp_L_some S x3 (12 : Int32) (fun r102 S101 => if r102 < (3 : Int32) then (wp_L_children_B20 Q S1 S2 S101 x0 x1 x2 x3 x4 r102) else (okA S101 11 x2 ∧ (vp_in (0 : Int32) (g_N S101 x2) ∧ (if (g_R S101 x2 (0 : Int32).toNatClampNeg) = 0 then (wp_L_children_B20 Q S1 S2 S101 x0 x1 x2 x3 x4 r102) else (wp_L_children_B135 Q S1 S2 S101 x0 x1 x2 x3 x4 r102)))))
def rm_L_children : Room := { frames := 12, cells := 92, slots := 2940, locals := 356 }
set_option maxHeartbeats 4000000 in
set_option maxRecDepth 100000 in
theorem k_L_children_B20 (l : Launch) (hfl : l.stackTraces = false) (v : Ev) {x9 : P9} {A : Nat → Prop} {E : State → Prop} {X0 Y : va_W} (C : ∀ X, Cx l v RL cL_children 13 (some .boolean) "children" (x9, X, A, E)) (Q : Int32 → Hp → Hp → Hp → Prop) (T : E3 v rm_L_children (Q3i v) Q X0 Y A E x9) (S1 S2 S : Hp) (t1 : g_T S1 = v.2.2.1) (t2 : g_T S2 = v.2.2.1) (w0 : Nat) (w1 : Nat) (w2 : Nat) (w3 : Int32) (w4 : Int32) (w5 : Int32) (h : wp_L_children_B20 Q S1 S2 S w0 w1 w2 w3 w4 w5) : ZZ l v 13 rm_L_children (x9, Y3 v.2.1 Y S1 S2, A, E) 0 0 S 20 [(0, va_rf (some w0)), (1, va_rf (some w1)), (2, va_rf (some w2)), (3, .int w3), (4, .int w4), (5, .int w5)] [] := by
  unfold wp_L_children_B20 at h
  refine z_aload_n (C _) (pc := 20) dL_children_20 0 rfl ?_
  refine z_aload_n (C _) (pc := 21) dL_children_21 1 rfl ?_
  refine z_iconst (C _) (pc := 22) (x := (1 : Int32)) dL_children_22 kic_1 ?_
  refine z_iconst (C _) (pc := 23) (x := (5 : Int32)) dL_children_23 kic_5 ?_
  refine z_iload (C _) (pc := 24) dL_children_24 4 rfl ?_
  refine z_bipush (C _) (pc := 26) (x := (10 : Int32)) dL_children_26 kbp_10 ?_
  refine z_Si8 (C _) (pc := 28) (KX := fun _ _ => False) (kc' := 0) (ks' := 0) (As := [.int w4, .int (10 : Int32)]) (rest := [.int (5 : Int32), .int (1 : Int32), va_rf (some w1), va_rf (some w0)]) (c_L_some l v S w4 (10 : Int32)) mw_L_some bw_101 bw_102 (fit_of rfl) rfl rfl (Nat.le_of_ble_eq_true rfl) dL_children_28 h (fun r104 S103 h => ?_) (fun En S9 h => h.elim)
  refine z_iadd (C _) (pc := 31) dL_children_31 ?_
  refine z_iconst (C _) (pc := 32) (x := (0 : Int32)) dL_children_32 kic_0 ?_
  refine z_iconst (C _) (pc := 33) (x := (0 : Int32)) dL_children_33 kic_0 ?_
  refine z_iconst (C _) (pc := 34) (x := (0 : Int32)) dL_children_34 kic_0 ?_
  refine z_S3i (C []) (pc := 35) (kc' := 92) (ks' := 2940) (As := [va_rf (some w0), va_rf (some w1), .int (1 : Int32), .int ((5 : Int32) + r104), .int (0 : Int32), .int (0 : Int32), .int (0 : Int32)]) (rest := []) (c_L_both l hfl v S1 S2 S103 w0 w1 (1 : Int32) ((5 : Int32) + r104) (0 : Int32) (0 : Int32) (0 : Int32)) mw_L_both bw_364 bw_365 (fit_of rfl) rfl rfl (Nat.le_of_ble_eq_true rfl) t1 t2 dL_children_35 h (fun r108 S105 S106 S107 t109 t110 h => ?_)
  refine z_istore (C _) (pc := 38) (lv' := [(6, .int r108), (0, va_rf (some w0)), (1, va_rf (some w1)), (2, va_rf (some w2)), (3, .int w3), (4, .int w4), (5, .int w5)]) dL_children_38 (by decide) rfl ?_
  refine z_aload_n (C _) (pc := 40) dL_children_40 3 rfl ?_
  refine z_iconst (C _) (pc := 41) (x := (0 : Int32)) dL_children_41 kic_0 ?_
  refine z_dup2 (C _) (pc := 42) dL_children_42 rfl (cat_rf _) ?_
  obtain ⟨o111, h⟩ := h
  obtain ⟨v112, h⟩ := h
  refine z_iald (C _) (pc := 43) dL_children_43 rfl o111 v112 ?_
  refine z_iload (C _) (pc := 44) dL_children_44 0 rfl ?_
  refine z_t_if_lt (C _) (pc := 46) dL_children_46 dL_children_49 kic_1 dL_children_50 dL_children_53 kic_0 ?_
  refine z_iadd (C _) (pc := 54) dL_children_54 ?_
  obtain ⟨v113, h⟩ := h
  refine z_iast (C _) (pc := 55) dL_children_55 rfl o111 v113 ?_
  refine z_lt h (fun S114 h => ?_)
  refine z_iload (C _) (pc := 56) dL_children_56 0 rfl ?_
  refine z_ldc (C _) (pc := 58) (x := (-2000000003 : Int32)) dL_children_58 bw_778 ?_
  refine z_icmp_ne (C _) (pc := 60) (tgt := 79) dL_children_60 (by decide) h (fun h => ?_) (fun h => ?_)
  · refine z_iload (C _) (pc := 79) dL_children_79 0 rfl ?_
    refine z_aload_n (C _) (pc := 81) dL_children_81 3 rfl ?_
    refine z_iconst (C _) (pc := 82) (x := (0 : Int32)) dL_children_82 kic_0 ?_
    obtain ⟨o115, h⟩ := h
    obtain ⟨v116, h⟩ := h
    refine z_iald (C _) (pc := 83) dL_children_83 rfl o115 v116 ?_
    refine z_iconst (C _) (pc := 84) (x := (1 : Int32)) dL_children_84 kic_1 ?_
    refine z_isub (C _) (pc := 85) dL_children_85 ?_
    refine z_icmp_ne (C _) (pc := 86) (tgt := 133) dL_children_86 (by decide) h (fun h => ?_) (fun h => ?_)
    · refine z_iconst (C _) (pc := 133) (x := (0 : Int32)) dL_children_133 kic_0 ?_
      exact z_zret3 (C []) (pc := 134) T t109 t110 dL_children_134 (by decide) (by decide) h
    · refine z_aload_n (C _) (pc := 89) dL_children_89 1 rfl ?_
      refine z_iload (C _) (pc := 90) dL_children_90 0 rfl ?_
      refine z_iconst (C _) (pc := 92) (x := (0 : Int32)) dL_children_92 kic_0 ?_
      obtain ⟨o117, h⟩ := h
      refine z_s1 t109 (fun t118 => ?_)
      refine z_Vi (C _) (pc := 93) (KX := fun _ _ => False) (kc' := 92) (ks' := 2940) (As := [.int r108, .int (0 : Int32)]) (rest := []) rfl (c_X8_ofChild_n l v S105 w0 r108 (0 : Int32)) mw_X8_ofChild bw_113 bw_114 bw_115 (fit_of rfl) rfl rfl (Nat.le_of_ble_eq_true rfl) (by decide) rfl o117 dL_children_93 h (fun r120 S119 h => ?_) (fun En S9 h => h.elim)
      refine z_s1' t118 (fun t121 => ?_)
      refine z_iconst (C _) (pc := 96) (x := (5 : Int32)) dL_children_96 kic_5 ?_
      refine z_iload (C _) (pc := 97) dL_children_97 5 rfl ?_
      refine z_bipush (C _) (pc := 99) (x := (10 : Int32)) dL_children_99 kbp_10 ?_
      refine z_Si8 (C _) (pc := 101) (KX := fun _ _ => False) (kc' := 92) (ks' := 2940) (As := [.int w4, .int (10 : Int32)]) (rest := [.int (5 : Int32), .int r120]) (c_L_some l v S114 w4 (10 : Int32)) mw_L_some bw_101 bw_102 (fit_of rfl) rfl rfl (Nat.le_of_ble_eq_true rfl) dL_children_101 h (fun r123 S122 h => ?_) (fun En S9 h => h.elim)
      refine z_iadd (C _) (pc := 104) dL_children_104 ?_
      refine z_icmp_ne (C _) (pc := 105) (tgt := 133) dL_children_105 (by decide) h (fun h => ?_) (fun h => ?_)
      · refine z_iconst (C _) (pc := 133) (x := (0 : Int32)) dL_children_133 kic_0 ?_
        exact z_zret3 (C []) (pc := 134) T t121 t110 dL_children_134 (by decide) (by decide) h
      · refine z_aload_n (C _) (pc := 108) dL_children_108 1 rfl ?_
        refine z_iload (C _) (pc := 109) dL_children_109 0 rfl ?_
        refine z_iconst (C _) (pc := 111) (x := (1 : Int32)) dL_children_111 kic_1 ?_
        obtain ⟨o124, h⟩ := h
        refine z_s1 t121 (fun t125 => ?_)
        refine z_Vi (C _) (pc := 112) (KX := fun _ _ => False) (kc' := 92) (ks' := 2940) (As := [.int r108, .int (1 : Int32)]) (rest := []) rfl (c_X8_ofChild_n l v S119 w0 r108 (1 : Int32)) mw_X8_ofChild bw_113 bw_114 bw_115 (fit_of rfl) rfl rfl (Nat.le_of_ble_eq_true rfl) (by decide) rfl o124 dL_children_112 h (fun r127 S126 h => ?_) (fun En S9 h => h.elim)
        refine z_s1' t125 (fun t128 => ?_)
        refine z_iconst (C _) (pc := 115) (x := (-1 : Int32)) dL_children_115 kic_m1 ?_
        refine z_icmp_ne (C _) (pc := 116) (tgt := 133) dL_children_116 (by decide) h (fun h => ?_) (fun h => ?_)
        · refine z_iconst (C _) (pc := 133) (x := (0 : Int32)) dL_children_133 kic_0 ?_
          exact z_zret3 (C []) (pc := 134) T t128 t110 dL_children_134 (by decide) (by decide) h
        · refine z_aload_n (C _) (pc := 119) dL_children_119 1 rfl ?_
          refine z_iload (C _) (pc := 120) dL_children_120 0 rfl ?_
          refine z_iconst (C _) (pc := 122) (x := (5 : Int32)) dL_children_122 kic_5 ?_
          obtain ⟨o129, h⟩ := h
          refine z_s1 t128 (fun t130 => ?_)
          refine z_Vi (C _) (pc := 123) (KX := fun _ _ => False) (kc' := 92) (ks' := 2940) (As := [.int r108, .int (5 : Int32)]) (rest := []) rfl (c_X8_ofChild_n l v S126 w0 r108 (5 : Int32)) mw_X8_ofChild bw_113 bw_114 bw_115 (fit_of rfl) rfl rfl (Nat.le_of_ble_eq_true rfl) (by decide) rfl o129 dL_children_123 h (fun r132 S131 h => ?_) (fun En S9 h => h.elim)
          refine z_s1' t130 (fun t133 => ?_)
          refine z_t_if_ne (C _) (pc := 126) dL_children_126 dL_children_129 kic_1 dL_children_130 dL_children_133 kic_0 ?_
          exact z_zret3 (C []) (pc := 134) T t133 t110 dL_children_134 (by decide) (by decide) h
  · refine z_aload_n (C _) (pc := 63) dL_children_63 3 rfl ?_
    refine z_iconst (C _) (pc := 64) (x := (0 : Int32)) dL_children_64 kic_0 ?_
    obtain ⟨o134, h⟩ := h
    obtain ⟨v135, h⟩ := h
    refine z_iald (C _) (pc := 65) dL_children_65 rfl o134 v135 ?_
    refine z_bipush (C _) (pc := 66) (x := (24 : Int32)) dL_children_66 kbp_24 ?_
    refine z_icmp_ne (C _) (pc := 68) (tgt := 75) dL_children_68 (by decide) h (fun h => ?_) (fun h => ?_)
    · refine z_iconst (C _) (pc := 75) (x := (0 : Int32)) dL_children_75 kic_0 ?_
      refine z_goto (C _) (pc := 76) (tgt := 134) dL_children_76 (by decide) ?_
      exact z_zret3 (C []) (pc := 134) T t109 t110 dL_children_134 (by decide) (by decide) h
    · refine z_iconst (C _) (pc := 71) (x := (1 : Int32)) dL_children_71 kic_1 ?_
      refine z_goto (C _) (pc := 72) (tgt := 134) dL_children_72 (by decide) ?_
      exact z_zret3 (C []) (pc := 134) T t109 t110 dL_children_134 (by decide) (by decide) h
set_option maxHeartbeats 4000000 in
set_option maxRecDepth 100000 in
theorem k_L_children_B661 (l : Launch) (hfl : l.stackTraces = false) (v : Ev) {x9 : P9} {A : Nat → Prop} {E : State → Prop} {X0 Y : va_W} (C : ∀ X, Cx l v RL cL_children 13 (some .boolean) "children" (x9, X, A, E)) (Q : Int32 → Hp → Hp → Hp → Prop) (T : E3 v rm_L_children (Q3i v) Q X0 Y A E x9) (S1 S2 S : Hp) (t1 : g_T S1 = v.2.2.1) (t2 : g_T S2 = v.2.2.1) (w0 : Nat) (w1 : Nat) (w2 : Nat) (w3 : Int32) (w4 : Int32) (w5 : Int32) (w6 : Int32) (w7 : Int32) (w8 : Int32) (w9 : Int32) (w10 : Int32) (h : wp_L_children_B661 Q S1 S2 S w0 w1 w2 w3 w4 w5 w6 w7 w8 w9 w10) : ZZ l v 13 rm_L_children (x9, Y3 v.2.1 Y S1 S2, A, E) 0 0 S 661 [(0, va_rf (some w0)), (1, va_rf (some w1)), (2, va_rf (some w2)), (3, .int w3), (4, .int w4), (5, .int w5), (6, .int w6), (7, .int w7), (8, .int w8), (9, .int w9), (10, .int w10)] [] := by
  unfold wp_L_children_B661 at h
  refine z_iconst (C _) (pc := 661) (x := (1 : Int32)) dL_children_661 kic_1 ?_
  refine z_iload (C _) (pc := 662) dL_children_662 4 rfl ?_
  refine z_iconst (C _) (pc := 664) (x := (5 : Int32)) dL_children_664 kic_5 ?_
  refine z_ishr (C _) (pc := 665) dL_children_665 ?_
  refine z_sipush (C _) (pc := 666) (x := (396 : Int32)) dL_children_666 ksp_396 ?_
  refine z_Si8 (C _) (pc := 669) (KX := fun _ _ => False) (kc' := 0) (ks' := 0) (As := [.int (w4 >>> ((5 : Int32) &&& 31)), .int (396 : Int32)]) (rest := [.int (1 : Int32)]) (c_L_some l v S (w4 >>> ((5 : Int32) &&& 31)) (396 : Int32)) mw_L_some bw_101 bw_102 (fit_of rfl) rfl rfl (Nat.le_of_ble_eq_true rfl) dL_children_669 h (fun r162 S161 h => ?_) (fun En S9 h => h.elim)
  refine z_iadd (C _) (pc := 672) dL_children_672 ?_
  refine z_nI h (fun y163 h => ?_)
  refine z_istore (C _) (pc := 673) (lv' := [(11, .int y163), (0, va_rf (some w0)), (1, va_rf (some w1)), (2, va_rf (some w2)), (3, .int w3), (4, .int w4), (5, .int w5), (6, .int w6), (7, .int w7), (8, .int w8), (9, .int w9), (10, .int w10)]) dL_children_673 (by decide) rfl ?_
  refine z_aload_n (C _) (pc := 675) dL_children_675 1 rfl ?_
  refine z_aload_n (C _) (pc := 676) dL_children_676 2 rfl ?_
  refine z_bipush (C _) (pc := 677) (x := (18 : Int32)) dL_children_677 kbp_18 ?_
  refine z_iload (C _) (pc := 679) dL_children_679 7 rfl ?_
  refine z_iload (C _) (pc := 681) dL_children_681 0 rfl ?_
  refine z_iconst (C _) (pc := 683) (x := (0 : Int32)) dL_children_683 kic_0 ?_
  refine z_iconst (C _) (pc := 684) (x := (0 : Int32)) dL_children_684 kic_0 ?_
  refine z_S3i (C []) (pc := 685) (kc' := 92) (ks' := 2940) (As := [va_rf (some w0), va_rf (some w1), .int (18 : Int32), .int w6, .int y163, .int (0 : Int32), .int (0 : Int32)]) (rest := []) (c_L_both l hfl v S1 S2 S161 w0 w1 (18 : Int32) w6 y163 (0 : Int32) (0 : Int32)) mw_L_both bw_364 bw_365 (fit_of rfl) rfl rfl (Nat.le_of_ble_eq_true rfl) t1 t2 dL_children_685 h (fun r167 S164 S165 S166 t168 t169 h => ?_)
  refine z_istore (C _) (pc := 688) (lv' := [(12, .int r167), (11, .int y163), (0, va_rf (some w0)), (1, va_rf (some w1)), (2, va_rf (some w2)), (3, .int w3), (4, .int w4), (5, .int w5), (6, .int w6), (7, .int w7), (8, .int w8), (9, .int w9), (10, .int w10)]) dL_children_688 (by decide) rfl ?_
  refine z_iload (C _) (pc := 690) dL_children_690 0 rfl ?_
  refine z_ldc (C _) (pc := 692) (x := (-2000000003 : Int32)) dL_children_692 bw_778 ?_
  refine z_icmp_ne (C _) (pc := 694) (tgt := 712) dL_children_694 (by decide) h (fun h => ?_) (fun h => ?_)
  · refine z_iload (C _) (pc := 712) dL_children_712 0 rfl ?_
    refine z_iload (C _) (pc := 714) dL_children_714 12 rfl ?_
    refine z_iload (C _) (pc := 716) dL_children_716 1 rfl ?_
    refine z_isub (C _) (pc := 718) dL_children_718 ?_
    refine z_t_icmp_ne (C _) (pc := 719) dL_children_719 dL_children_722 kic_1 dL_children_723 dL_children_726 kic_0 ?_
    exact z_zret3 (C []) (pc := 727) T t168 t169 dL_children_727 (by decide) (by decide) h
  · refine z_iload (C _) (pc := 697) dL_children_697 12 rfl ?_
    refine z_iload (C _) (pc := 699) dL_children_699 1 rfl ?_
    refine z_icmp_ge (C _) (pc := 701) (tgt := 708) dL_children_701 (by decide) h (fun h => ?_) (fun h => ?_)
    · refine z_iconst (C _) (pc := 708) (x := (0 : Int32)) dL_children_708 kic_0 ?_
      refine z_goto (C _) (pc := 709) (tgt := 727) dL_children_709 (by decide) ?_
      exact z_zret3 (C []) (pc := 727) T t168 t169 dL_children_727 (by decide) (by decide) h
    · refine z_iconst (C _) (pc := 704) (x := (1 : Int32)) dL_children_704 kic_1 ?_
      refine z_goto (C _) (pc := 705) (tgt := 727) dL_children_705 (by decide) ?_
      exact z_zret3 (C []) (pc := 727) T t168 t169 dL_children_727 (by decide) (by decide) h
set_option maxHeartbeats 4000000 in
set_option maxRecDepth 100000 in
theorem k_L_children_B555 (l : Launch) (hfl : l.stackTraces = false) (v : Ev) {x9 : P9} {A : Nat → Prop} {E : State → Prop} {X0 Y : va_W} (C : ∀ X, Cx l v RL cL_children 13 (some .boolean) "children" (x9, X, A, E)) (Q : Int32 → Hp → Hp → Hp → Prop) (T : E3 v rm_L_children (Q3i v) Q X0 Y A E x9) (S1 S2 S : Hp) (t1 : g_T S1 = v.2.2.1) (t2 : g_T S2 = v.2.2.1) (w0 : Nat) (w1 : Nat) (w2 : Nat) (w3 : Int32) (w4 : Int32) (w5 : Int32) (w6 : Int32) (w7 : Int32) (w8 : Int32) (w9 : Int32) (w10 : Int32) (h : wp_L_children_B555 Q S1 S2 S w0 w1 w2 w3 w4 w5 w6 w7 w8 w9 w10) : ZZ l v 13 rm_L_children (x9, Y3 v.2.1 Y S1 S2, A, E) 0 0 S 555 [(0, va_rf (some w0)), (1, va_rf (some w1)), (2, va_rf (some w2)), (3, .int w3), (4, .int w4), (5, .int w5), (6, .int w6), (7, .int w7), (8, .int w8), (9, .int w9), (10, .int w10)] [] := by
  unfold wp_L_children_B555 at h
  refine z_iconst (C _) (pc := 555) (x := (1 : Int32)) dL_children_555 kic_1 ?_
  refine z_iload (C _) (pc := 556) dL_children_556 4 rfl ?_
  refine z_iconst (C _) (pc := 558) (x := (5 : Int32)) dL_children_558 kic_5 ?_
  refine z_ishr (C _) (pc := 559) dL_children_559 ?_
  refine z_bipush (C _) (pc := 560) (x := (99 : Int32)) dL_children_560 kbp_99 ?_
  refine z_Si8 (C _) (pc := 562) (KX := fun _ _ => False) (kc' := 0) (ks' := 0) (As := [.int (w4 >>> ((5 : Int32) &&& 31)), .int (99 : Int32)]) (rest := [.int (1 : Int32)]) (c_L_some l v S (w4 >>> ((5 : Int32) &&& 31)) (99 : Int32)) mw_L_some bw_101 bw_102 (fit_of rfl) rfl rfl (Nat.le_of_ble_eq_true rfl) dL_children_562 h (fun r171 S170 h => ?_) (fun En S9 h => h.elim)
  refine z_iadd (C _) (pc := 565) dL_children_565 ?_
  refine z_nI h (fun y172 h => ?_)
  refine z_istore (C _) (pc := 566) (lv' := [(11, .int y172), (0, va_rf (some w0)), (1, va_rf (some w1)), (2, va_rf (some w2)), (3, .int w3), (4, .int w4), (5, .int w5), (6, .int w6), (7, .int w7), (8, .int w8), (9, .int w9), (10, .int w10)]) dL_children_566 (by decide) rfl ?_
  refine z_aload_n (C _) (pc := 568) dL_children_568 1 rfl ?_
  refine z_aload_n (C _) (pc := 569) dL_children_569 2 rfl ?_
  refine z_bipush (C _) (pc := 570) (x := (17 : Int32)) dL_children_570 kbp_17 ?_
  refine z_iload (C _) (pc := 572) dL_children_572 7 rfl ?_
  refine z_iload (C _) (pc := 574) dL_children_574 0 rfl ?_
  refine z_iconst (C _) (pc := 576) (x := (0 : Int32)) dL_children_576 kic_0 ?_
  refine z_iconst (C _) (pc := 577) (x := (0 : Int32)) dL_children_577 kic_0 ?_
  refine z_S3i (C []) (pc := 578) (kc' := 92) (ks' := 2940) (As := [va_rf (some w0), va_rf (some w1), .int (17 : Int32), .int w6, .int y172, .int (0 : Int32), .int (0 : Int32)]) (rest := []) (c_L_both l hfl v S1 S2 S170 w0 w1 (17 : Int32) w6 y172 (0 : Int32) (0 : Int32)) mw_L_both bw_364 bw_365 (fit_of rfl) rfl rfl (Nat.le_of_ble_eq_true rfl) t1 t2 dL_children_578 h (fun r176 S173 S174 S175 t177 t178 h => ?_)
  refine z_istore (C _) (pc := 581) (lv' := [(12, .int r176), (11, .int y172), (0, va_rf (some w0)), (1, va_rf (some w1)), (2, va_rf (some w2)), (3, .int w3), (4, .int w4), (5, .int w5), (6, .int w6), (7, .int w7), (8, .int w8), (9, .int w9), (10, .int w10)]) dL_children_581 (by decide) rfl ?_
  refine z_iload (C _) (pc := 583) dL_children_583 0 rfl ?_
  refine z_ldc (C _) (pc := 585) (x := (-2000000003 : Int32)) dL_children_585 bw_778 ?_
  refine z_icmp_ne (C _) (pc := 587) (tgt := 626) dL_children_587 (by decide) h (fun h => ?_) (fun h => ?_)
  · refine z_iload (C _) (pc := 626) dL_children_626 9 rfl ?_
    refine z_iconst (C _) (pc := 628) (x := (-1 : Int32)) dL_children_628 kic_m1 ?_
    refine z_icmp_eq (C _) (pc := 629) (tgt := 659) dL_children_629 (by decide) h (fun h => ?_) (fun h => ?_)
    · refine z_iconst (C _) (pc := 659) (x := (0 : Int32)) dL_children_659 kic_0 ?_
      exact z_zret3 (C []) (pc := 660) T t177 t178 dL_children_660 (by decide) (by decide) h
    · refine z_iload (C _) (pc := 632) dL_children_632 0 rfl ?_
      refine z_iload (C _) (pc := 634) dL_children_634 12 rfl ?_
      refine z_iconst (C _) (pc := 636) (x := (4 : Int32)) dL_children_636 kic_4 ?_
      refine z_iload (C _) (pc := 637) dL_children_637 1 rfl ?_
      refine z_imul (C _) (pc := 639) dL_children_639 ?_
      refine z_iadd (C _) (pc := 640) dL_children_640 ?_
      refine z_icmp_ne (C _) (pc := 641) (tgt := 659) dL_children_641 (by decide) h (fun h => ?_) (fun h => ?_)
      · refine z_iconst (C _) (pc := 659) (x := (0 : Int32)) dL_children_659 kic_0 ?_
        exact z_zret3 (C []) (pc := 660) T t177 t178 dL_children_660 (by decide) (by decide) h
      · refine z_aload_n (C _) (pc := 644) dL_children_644 2 rfl ?_
        refine z_iload (C _) (pc := 645) dL_children_645 9 rfl ?_
        obtain ⟨o179, h⟩ := h
        refine z_s1 t177 (fun t180 => ?_)
        refine z_Vi (C _) (pc := 647) (KX := fun _ _ => False) (kc' := 92) (ks' := 2940) (As := [.int w7]) (rest := []) rfl (c_X8_owed_n l v S173 w0 w7) mw_X8_owed bw_273 bw_274 bw_275 (fit_of rfl) rfl rfl (Nat.le_of_ble_eq_true rfl) (by decide) rfl o179 dL_children_647 h (fun r182 S181 h => ?_) (fun En S9 h => h.elim)
        refine z_s1' t180 (fun t183 => ?_)
        refine z_iload (C _) (pc := 650) dL_children_650 0 rfl ?_
        refine z_t_icmp_lt (C _) (pc := 652) dL_children_652 dL_children_655 kic_1 dL_children_656 dL_children_659 kic_0 ?_
        exact z_zret3 (C []) (pc := 660) T t183 t178 dL_children_660 (by decide) (by decide) h
  · refine z_aload_n (C _) (pc := 590) dL_children_590 2 rfl ?_
    refine z_iload (C _) (pc := 591) dL_children_591 8 rfl ?_
    refine z_iconst (C _) (pc := 593) (x := (5 : Int32)) dL_children_593 kic_5 ?_
    obtain ⟨o184, h⟩ := h
    refine z_s1 t177 (fun t185 => ?_)
    refine z_Vi (C _) (pc := 594) (KX := fun _ _ => False) (kc' := 92) (ks' := 2940) (As := [.int w6, .int (5 : Int32)]) (rest := []) rfl (c_X8_ofChild_n l v S173 w0 w6 (5 : Int32)) mw_X8_ofChild bw_113 bw_114 bw_115 (fit_of rfl) rfl rfl (Nat.le_of_ble_eq_true rfl) (by decide) rfl o184 dL_children_594 h (fun r187 S186 h => ?_) (fun En S9 h => h.elim)
    refine z_s1' t185 (fun t188 => ?_)
    refine z_iload (C _) (pc := 597) dL_children_597 12 rfl ?_
    refine z_icmp_ne (C _) (pc := 599) (tgt := 622) dL_children_599 (by decide) h (fun h => ?_) (fun h => ?_)
    · refine z_iconst (C _) (pc := 622) (x := (0 : Int32)) dL_children_622 kic_0 ?_
      refine z_goto (C _) (pc := 623) (tgt := 660) dL_children_623 (by decide) ?_
      exact z_zret3 (C []) (pc := 660) T t188 t178 dL_children_660 (by decide) (by decide) h
    · refine z_iload (C _) (pc := 602) dL_children_602 9 rfl ?_
      refine z_iconst (C _) (pc := 604) (x := (-1 : Int32)) dL_children_604 kic_m1 ?_
      refine z_icmp_eq (C _) (pc := 605) (tgt := 618) dL_children_605 (by decide) h (fun h => ?_) (fun h => ?_)
      · refine z_iconst (C _) (pc := 618) (x := (1 : Int32)) dL_children_618 kic_1 ?_
        refine z_goto (C _) (pc := 619) (tgt := 660) dL_children_619 (by decide) ?_
        exact z_zret3 (C []) (pc := 660) T t188 t178 dL_children_660 (by decide) (by decide) h
      · refine z_iload (C _) (pc := 608) dL_children_608 12 rfl ?_
        refine z_if_gt (C _) (pc := 610) (tgt := 618) dL_children_610 (by decide) h (fun h => ?_) (fun h => ?_)
        · refine z_iconst (C _) (pc := 618) (x := (1 : Int32)) dL_children_618 kic_1 ?_
          refine z_goto (C _) (pc := 619) (tgt := 660) dL_children_619 (by decide) ?_
          exact z_zret3 (C []) (pc := 660) T t188 t178 dL_children_660 (by decide) (by decide) h
        · refine z_iload (C _) (pc := 613) dL_children_613 12 rfl ?_
          refine z_if_ne (C _) (pc := 615) (tgt := 622) dL_children_615 (by decide) h (fun h => ?_) (fun h => ?_)
          · refine z_iconst (C _) (pc := 622) (x := (0 : Int32)) dL_children_622 kic_0 ?_
            refine z_goto (C _) (pc := 623) (tgt := 660) dL_children_623 (by decide) ?_
            exact z_zret3 (C []) (pc := 660) T t188 t178 dL_children_660 (by decide) (by decide) h
          · refine z_iconst (C _) (pc := 618) (x := (1 : Int32)) dL_children_618 kic_1 ?_
            refine z_goto (C _) (pc := 619) (tgt := 660) dL_children_619 (by decide) ?_
            exact z_zret3 (C []) (pc := 660) T t188 t178 dL_children_660 (by decide) (by decide) h
set_option maxHeartbeats 4000000 in
set_option maxRecDepth 100000 in
theorem k_L_children_B458 (l : Launch) (hfl : l.stackTraces = false) (v : Ev) {x9 : P9} {A : Nat → Prop} {E : State → Prop} {X0 Y : va_W} (C : ∀ X, Cx l v RL cL_children 13 (some .boolean) "children" (x9, X, A, E)) (Q : Int32 → Hp → Hp → Hp → Prop) (T : E3 v rm_L_children (Q3i v) Q X0 Y A E x9) (S1 S2 S : Hp) (t1 : g_T S1 = v.2.2.1) (t2 : g_T S2 = v.2.2.1) (w0 : Nat) (w1 : Nat) (w2 : Nat) (w3 : Int32) (w4 : Int32) (w5 : Int32) (w6 : Int32) (w7 : Int32) (w8 : Int32) (w9 : Int32) (h : wp_L_children_B458 Q S1 S2 S w0 w1 w2 w3 w4 w5 w6 w7 w8 w9) : ZZ l v 13 rm_L_children (x9, Y3 v.2.1 Y S1 S2, A, E) 0 0 S 458 [(0, va_rf (some w0)), (1, va_rf (some w1)), (2, va_rf (some w2)), (3, .int w3), (4, .int w4), (5, .int w5), (6, .int w6), (7, .int w7), (8, .int w8), (9, .int w9)] [] := by
  unfold wp_L_children_B458 at h
  refine z_aload_n (C _) (pc := 458) dL_children_458 0 rfl ?_
  refine z_iload (C _) (pc := 459) dL_children_459 6 rfl ?_
  refine z_iconst (C _) (pc := 461) (x := (3 : Int32)) dL_children_461 kic_3 ?_
  obtain ⟨o189, h⟩ := h
  refine z_s1 t1 (fun t190 => ?_)
  refine z_Vi (C _) (pc := 462) (KX := fun _ _ => False) (kc' := 0) (ks' := 0) (As := [.int w6, .int (3 : Int32)]) (rest := []) rfl (c_X8_ofChild_n l v S1 w0 w6 (3 : Int32)) mw_X8_ofChild bw_113 bw_114 bw_115 (fit_of rfl) rfl rfl (Nat.le_of_ble_eq_true rfl) (by decide) rfl o189 dL_children_462 h (fun r192 S191 h => ?_) (fun En S9 h => h.elim)
  refine z_s1' t190 (fun t193 => ?_)
  refine z_istore (C _) (pc := 465) (lv' := [(10, .int r192), (0, va_rf (some w0)), (1, va_rf (some w1)), (2, va_rf (some w2)), (3, .int w3), (4, .int w4), (5, .int w5), (6, .int w6), (7, .int w7), (8, .int w8), (9, .int w9)]) dL_children_465 (by decide) rfl ?_
  refine z_aload_n (C _) (pc := 467) dL_children_467 1 rfl ?_
  refine z_aload_n (C _) (pc := 468) dL_children_468 2 rfl ?_
  refine z_iconst (C _) (pc := 469) (x := (4 : Int32)) dL_children_469 kic_4 ?_
  refine z_iload (C _) (pc := 470) dL_children_470 7 rfl ?_
  refine z_iload (C _) (pc := 472) dL_children_472 5 rfl ?_
  refine z_iconst (C _) (pc := 474) (x := (5 : Int32)) dL_children_474 kic_5 ?_
  refine z_ishr (C _) (pc := 475) dL_children_475 ?_
  refine z_iconst (C _) (pc := 476) (x := (4 : Int32)) dL_children_476 kic_4 ?_
  refine z_Si8 (C _) (pc := 477) (KX := fun _ _ => False) (kc' := 0) (ks' := 0) (As := [.int (w4 >>> ((5 : Int32) &&& 31)), .int (4 : Int32)]) (rest := [.int w6, .int (4 : Int32), va_rf (some w1), va_rf (some w0)]) (c_L_some l v S (w4 >>> ((5 : Int32) &&& 31)) (4 : Int32)) mw_L_some bw_101 bw_102 (fit_of rfl) rfl rfl (Nat.le_of_ble_eq_true rfl) dL_children_477 h (fun r195 S194 h => ?_) (fun En S9 h => h.elim)
  refine z_iconst (C _) (pc := 480) (x := (0 : Int32)) dL_children_480 kic_0 ?_
  refine z_iconst (C _) (pc := 481) (x := (0 : Int32)) dL_children_481 kic_0 ?_
  refine z_S3i (C []) (pc := 482) (kc' := 92) (ks' := 2940) (As := [va_rf (some w0), va_rf (some w1), .int (4 : Int32), .int w6, .int r195, .int (0 : Int32), .int (0 : Int32)]) (rest := []) (c_L_both l hfl v S191 S2 S194 w0 w1 (4 : Int32) w6 r195 (0 : Int32) (0 : Int32)) mw_L_both bw_364 bw_365 (fit_of rfl) rfl rfl (Nat.le_of_ble_eq_true rfl) t193 t2 dL_children_482 h (fun r199 S196 S197 S198 t200 t201 h => ?_)
  refine z_istore (C _) (pc := 485) (lv' := [(11, .int r199), (10, .int r192), (0, va_rf (some w0)), (1, va_rf (some w1)), (2, va_rf (some w2)), (3, .int w3), (4, .int w4), (5, .int w5), (6, .int w6), (7, .int w7), (8, .int w8), (9, .int w9)]) dL_children_485 (by decide) rfl ?_
  refine z_iload (C _) (pc := 487) dL_children_487 0 rfl ?_
  refine z_ldc (C _) (pc := 489) (x := (-2000000003 : Int32)) dL_children_489 bw_778 ?_
  refine z_icmp_ne (C _) (pc := 491) (tgt := 508) dL_children_491 (by decide) h (fun h => ?_) (fun h => ?_)
  · refine z_iload (C _) (pc := 508) dL_children_508 0 rfl ?_
    refine z_iload (C _) (pc := 510) dL_children_510 1 rfl ?_
    refine z_icmp_ne (C _) (pc := 512) (tgt := 537) dL_children_512 (by decide) h (fun h => ?_) (fun h => ?_)
    · refine z_iconst (C _) (pc := 537) (x := (0 : Int32)) dL_children_537 kic_0 ?_
      exact z_zret3 (C []) (pc := 538) T t200 t201 dL_children_538 (by decide) (by decide) h
    · refine z_aload_n (C _) (pc := 515) dL_children_515 2 rfl ?_
      refine z_iload (C _) (pc := 516) dL_children_516 8 rfl ?_
      refine z_iconst (C _) (pc := 518) (x := (3 : Int32)) dL_children_518 kic_3 ?_
      obtain ⟨o202, h⟩ := h
      refine z_s1 t200 (fun t203 => ?_)
      refine z_Vi (C _) (pc := 519) (KX := fun _ _ => False) (kc' := 92) (ks' := 2940) (As := [.int w6, .int (3 : Int32)]) (rest := []) rfl (c_X8_ofChild_n l v S196 w0 w6 (3 : Int32)) mw_X8_ofChild bw_113 bw_114 bw_115 (fit_of rfl) rfl rfl (Nat.le_of_ble_eq_true rfl) (by decide) rfl o202 dL_children_519 h (fun r205 S204 h => ?_) (fun En S9 h => h.elim)
      refine z_s1' t203 (fun t206 => ?_)
      refine z_iload (C _) (pc := 522) dL_children_522 6 rfl ?_
      refine z_iconst (C _) (pc := 524) (x := (5 : Int32)) dL_children_524 kic_5 ?_
      refine z_ishr (C _) (pc := 525) dL_children_525 ?_
      refine z_iconst (C _) (pc := 526) (x := (4 : Int32)) dL_children_526 kic_4 ?_
      refine z_Si8 (C _) (pc := 527) (KX := fun _ _ => False) (kc' := 92) (ks' := 2940) (As := [.int (w4 >>> ((5 : Int32) &&& 31)), .int (4 : Int32)]) (rest := [.int r205]) (c_L_some l v S198 (w4 >>> ((5 : Int32) &&& 31)) (4 : Int32)) mw_L_some bw_101 bw_102 (fit_of rfl) rfl rfl (Nat.le_of_ble_eq_true rfl) dL_children_527 h (fun r208 S207 h => ?_) (fun En S9 h => h.elim)
      refine z_t_icmp_ne (C _) (pc := 530) dL_children_530 dL_children_533 kic_1 dL_children_534 dL_children_537 kic_0 ?_
      exact z_zret3 (C []) (pc := 538) T t206 t201 dL_children_538 (by decide) (by decide) h
  · refine z_iload (C _) (pc := 494) dL_children_494 9 rfl ?_
    refine z_iconst (C _) (pc := 496) (x := (-1 : Int32)) dL_children_496 kic_m1 ?_
    refine z_icmp_ne (C _) (pc := 497) (tgt := 504) dL_children_497 (by decide) h (fun h => ?_) (fun h => ?_)
    · refine z_iconst (C _) (pc := 504) (x := (0 : Int32)) dL_children_504 kic_0 ?_
      refine z_goto (C _) (pc := 505) (tgt := 538) dL_children_505 (by decide) ?_
      exact z_zret3 (C []) (pc := 538) T t200 t201 dL_children_538 (by decide) (by decide) h
    · refine z_iconst (C _) (pc := 500) (x := (1 : Int32)) dL_children_500 kic_1 ?_
      refine z_goto (C _) (pc := 501) (tgt := 538) dL_children_501 (by decide) ?_
      exact z_zret3 (C []) (pc := 538) T t200 t201 dL_children_538 (by decide) (by decide) h
set_option maxHeartbeats 4000000 in
set_option maxRecDepth 100000 in
theorem k_L_children_B327 (l : Launch) (hfl : l.stackTraces = false) (v : Ev) {x9 : P9} {A : Nat → Prop} {E : State → Prop} {X0 Y : va_W} (C : ∀ X, Cx l v RL cL_children 13 (some .boolean) "children" (x9, X, A, E)) (Q : Int32 → Hp → Hp → Hp → Prop) (T : E3 v rm_L_children (Q3i v) Q X0 Y A E x9) (S1 S2 S : Hp) (t1 : g_T S1 = v.2.2.1) (t2 : g_T S2 = v.2.2.1) (w0 : Nat) (w1 : Nat) (w2 : Nat) (w3 : Int32) (w4 : Int32) (w5 : Int32) (w6 : Int32) (w7 : Int32) (w8 : Int32) (w9 : Int32) (h : wp_L_children_B327 Q S1 S2 S w0 w1 w2 w3 w4 w5 w6 w7 w8 w9) : ZZ l v 13 rm_L_children (x9, Y3 v.2.1 Y S1 S2, A, E) 0 0 S 327 [(0, va_rf (some w0)), (1, va_rf (some w1)), (2, va_rf (some w2)), (3, .int w3), (4, .int w4), (5, .int w5), (6, .int w6), (7, .int w7), (8, .int w8), (9, .int w9)] [] := by
  unfold wp_L_children_B327 at h
  refine z_aload_n (C _) (pc := 327) dL_children_327 0 rfl ?_
  refine z_iload (C _) (pc := 328) dL_children_328 6 rfl ?_
  refine z_iconst (C _) (pc := 330) (x := (5 : Int32)) dL_children_330 kic_5 ?_
  obtain ⟨o209, h⟩ := h
  refine z_s1 t1 (fun t210 => ?_)
  refine z_Vi (C _) (pc := 331) (KX := fun _ _ => False) (kc' := 0) (ks' := 0) (As := [.int w6, .int (5 : Int32)]) (rest := []) rfl (c_X8_ofChild_n l v S1 w0 w6 (5 : Int32)) mw_X8_ofChild bw_113 bw_114 bw_115 (fit_of rfl) rfl rfl (Nat.le_of_ble_eq_true rfl) (by decide) rfl o209 dL_children_331 h (fun r212 S211 h => ?_) (fun En S9 h => h.elim)
  refine z_s1' t210 (fun t213 => ?_)
  refine z_istore (C _) (pc := 334) (lv' := [(10, .int r212), (0, va_rf (some w0)), (1, va_rf (some w1)), (2, va_rf (some w2)), (3, .int w3), (4, .int w4), (5, .int w5), (6, .int w6), (7, .int w7), (8, .int w8), (9, .int w9)]) dL_children_334 (by decide) rfl ?_
  refine z_aload_n (C _) (pc := 336) dL_children_336 1 rfl ?_
  refine z_aload_n (C _) (pc := 337) dL_children_337 2 rfl ?_
  refine z_iconst (C _) (pc := 338) (x := (3 : Int32)) dL_children_338 kic_3 ?_
  refine z_iload (C _) (pc := 339) dL_children_339 7 rfl ?_
  refine z_iconst (C _) (pc := 341) (x := (0 : Int32)) dL_children_341 kic_0 ?_
  refine z_iconst (C _) (pc := 342) (x := (0 : Int32)) dL_children_342 kic_0 ?_
  refine z_iconst (C _) (pc := 343) (x := (0 : Int32)) dL_children_343 kic_0 ?_
  refine z_S3i (C []) (pc := 344) (kc' := 92) (ks' := 2940) (As := [va_rf (some w0), va_rf (some w1), .int (3 : Int32), .int w6, .int (0 : Int32), .int (0 : Int32), .int (0 : Int32)]) (rest := []) (c_L_both l hfl v S211 S2 S w0 w1 (3 : Int32) w6 (0 : Int32) (0 : Int32) (0 : Int32)) mw_L_both bw_364 bw_365 (fit_of rfl) rfl rfl (Nat.le_of_ble_eq_true rfl) t213 t2 dL_children_344 h (fun r217 S214 S215 S216 t218 t219 h => ?_)
  refine z_istore (C _) (pc := 347) (lv' := [(11, .int r217), (10, .int r212), (0, va_rf (some w0)), (1, va_rf (some w1)), (2, va_rf (some w2)), (3, .int w3), (4, .int w4), (5, .int w5), (6, .int w6), (7, .int w7), (8, .int w8), (9, .int w9)]) dL_children_347 (by decide) rfl ?_
  refine z_iload (C _) (pc := 349) dL_children_349 0 rfl ?_
  refine z_ldc (C _) (pc := 351) (x := (-2000000003 : Int32)) dL_children_351 bw_778 ?_
  refine z_icmp_ne (C _) (pc := 353) (tgt := 376) dL_children_353 (by decide) h (fun h => ?_) (fun h => ?_)
  · refine z_aload_n (C _) (pc := 376) dL_children_376 2 rfl ?_
    refine z_iload (C _) (pc := 377) dL_children_377 8 rfl ?_
    refine z_iconst (C _) (pc := 379) (x := (1 : Int32)) dL_children_379 kic_1 ?_
    obtain ⟨o220, h⟩ := h
    refine z_s1 t218 (fun t221 => ?_)
    refine z_Vi (C _) (pc := 380) (KX := fun _ _ => False) (kc' := 92) (ks' := 2940) (As := [.int w6, .int (1 : Int32)]) (rest := []) rfl (c_X8_ofChild_n l v S214 w0 w6 (1 : Int32)) mw_X8_ofChild bw_113 bw_114 bw_115 (fit_of rfl) rfl rfl (Nat.le_of_ble_eq_true rfl) (by decide) rfl o220 dL_children_380 h (fun r223 S222 h => ?_) (fun En S9 h => h.elim)
    refine z_s1' t221 (fun t224 => ?_)
    refine z_iconst (C _) (pc := 383) (x := (-1 : Int32)) dL_children_383 kic_m1 ?_
    refine z_icmp_ne (C _) (pc := 384) (tgt := 449) dL_children_384 (by decide) h (fun h => ?_) (fun h => ?_)
    · refine z_iconst (C _) (pc := 449) (x := (0 : Int32)) dL_children_449 kic_0 ?_
      exact z_zret3 (C []) (pc := 450) T t224 t219 dL_children_450 (by decide) (by decide) h
    · refine z_aload_n (C _) (pc := 387) dL_children_387 2 rfl ?_
      refine z_iload (C _) (pc := 388) dL_children_388 8 rfl ?_
      refine z_iconst (C _) (pc := 390) (x := (2 : Int32)) dL_children_390 kic_2 ?_
      obtain ⟨o225, h⟩ := h
      refine z_s1 t224 (fun t226 => ?_)
      refine z_Vi (C _) (pc := 391) (KX := fun _ _ => False) (kc' := 92) (ks' := 2940) (As := [.int w6, .int (2 : Int32)]) (rest := []) rfl (c_X8_ofChild_n l v S222 w0 w6 (2 : Int32)) mw_X8_ofChild bw_113 bw_114 bw_115 (fit_of rfl) rfl rfl (Nat.le_of_ble_eq_true rfl) (by decide) rfl o225 dL_children_391 h (fun r228 S227 h => ?_) (fun En S9 h => h.elim)
      refine z_s1' t226 (fun t229 => ?_)
      refine z_iconst (C _) (pc := 394) (x := (-1 : Int32)) dL_children_394 kic_m1 ?_
      refine z_icmp_ne (C _) (pc := 395) (tgt := 449) dL_children_395 (by decide) h (fun h => ?_) (fun h => ?_)
      · refine z_iconst (C _) (pc := 449) (x := (0 : Int32)) dL_children_449 kic_0 ?_
        exact z_zret3 (C []) (pc := 450) T t229 t219 dL_children_450 (by decide) (by decide) h
      · refine z_aload_n (C _) (pc := 398) dL_children_398 2 rfl ?_
        refine z_iload (C _) (pc := 399) dL_children_399 8 rfl ?_
        refine z_iconst (C _) (pc := 401) (x := (3 : Int32)) dL_children_401 kic_3 ?_
        obtain ⟨o230, h⟩ := h
        refine z_s1 t229 (fun t231 => ?_)
        refine z_Vi (C _) (pc := 402) (KX := fun _ _ => False) (kc' := 92) (ks' := 2940) (As := [.int w6, .int (3 : Int32)]) (rest := []) rfl (c_X8_ofChild_n l v S227 w0 w6 (3 : Int32)) mw_X8_ofChild bw_113 bw_114 bw_115 (fit_of rfl) rfl rfl (Nat.le_of_ble_eq_true rfl) (by decide) rfl o230 dL_children_402 h (fun r233 S232 h => ?_) (fun En S9 h => h.elim)
        refine z_s1' t231 (fun t234 => ?_)
        refine z_iconst (C _) (pc := 405) (x := (-1 : Int32)) dL_children_405 kic_m1 ?_
        refine z_icmp_ne (C _) (pc := 406) (tgt := 449) dL_children_406 (by decide) h (fun h => ?_) (fun h => ?_)
        · refine z_iconst (C _) (pc := 449) (x := (0 : Int32)) dL_children_449 kic_0 ?_
          exact z_zret3 (C []) (pc := 450) T t234 t219 dL_children_450 (by decide) (by decide) h
        · refine z_aload_n (C _) (pc := 409) dL_children_409 2 rfl ?_
          refine z_iload (C _) (pc := 410) dL_children_410 8 rfl ?_
          refine z_iconst (C _) (pc := 412) (x := (5 : Int32)) dL_children_412 kic_5 ?_
          obtain ⟨o235, h⟩ := h
          refine z_s1 t234 (fun t236 => ?_)
          refine z_Vi (C _) (pc := 413) (KX := fun _ _ => False) (kc' := 92) (ks' := 2940) (As := [.int w6, .int (5 : Int32)]) (rest := []) rfl (c_X8_ofChild_n l v S232 w0 w6 (5 : Int32)) mw_X8_ofChild bw_113 bw_114 bw_115 (fit_of rfl) rfl rfl (Nat.le_of_ble_eq_true rfl) (by decide) rfl o235 dL_children_413 h (fun r238 S237 h => ?_) (fun En S9 h => h.elim)
          refine z_s1' t236 (fun t239 => ?_)
          refine z_iload (C _) (pc := 416) dL_children_416 1 rfl ?_
          refine z_icmp_ne (C _) (pc := 418) (tgt := 449) dL_children_418 (by decide) h (fun h => ?_) (fun h => ?_)
          · refine z_iconst (C _) (pc := 449) (x := (0 : Int32)) dL_children_449 kic_0 ?_
            exact z_zret3 (C []) (pc := 450) T t239 t219 dL_children_450 (by decide) (by decide) h
          · refine z_iload (C _) (pc := 421) dL_children_421 0 rfl ?_
            refine z_iconst (C _) (pc := 423) (x := (-1 : Int32)) dL_children_423 kic_m1 ?_
            refine z_icmp_eq (C _) (pc := 424) (tgt := 445) dL_children_424 (by decide) h (fun h => ?_) (fun h => ?_)
            · refine z_iconst (C _) (pc := 445) (x := (1 : Int32)) dL_children_445 kic_1 ?_
              refine z_goto (C _) (pc := 446) (tgt := 450) dL_children_446 (by decide) ?_
              exact z_zret3 (C []) (pc := 450) T t239 t219 dL_children_450 (by decide) (by decide) h
            · refine z_iload (C _) (pc := 427) dL_children_427 9 rfl ?_
              refine z_iconst (C _) (pc := 429) (x := (-1 : Int32)) dL_children_429 kic_m1 ?_
              refine z_icmp_eq (C _) (pc := 430) (tgt := 449) dL_children_430 (by decide) h (fun h => ?_) (fun h => ?_)
              · refine z_iconst (C _) (pc := 449) (x := (0 : Int32)) dL_children_449 kic_0 ?_
                exact z_zret3 (C []) (pc := 450) T t239 t219 dL_children_450 (by decide) (by decide) h
              · refine z_aload_n (C _) (pc := 433) dL_children_433 2 rfl ?_
                refine z_iload (C _) (pc := 434) dL_children_434 0 rfl ?_
                refine z_iconst (C _) (pc := 436) (x := (1 : Int32)) dL_children_436 kic_1 ?_
                obtain ⟨o240, h⟩ := h
                refine z_s1 t239 (fun t241 => ?_)
                refine z_Vi (C _) (pc := 437) (KX := fun _ _ => False) (kc' := 92) (ks' := 2940) (As := [.int r217, .int (1 : Int32)]) (rest := []) rfl (c_X8_ofChild_n l v S237 w0 r217 (1 : Int32)) mw_X8_ofChild bw_113 bw_114 bw_115 (fit_of rfl) rfl rfl (Nat.le_of_ble_eq_true rfl) (by decide) rfl o240 dL_children_437 h (fun r243 S242 h => ?_) (fun En S9 h => h.elim)
                refine z_s1' t241 (fun t244 => ?_)
                refine z_iload (C _) (pc := 440) dL_children_440 9 rfl ?_
                refine z_t_icmp_ne (C _) (pc := 442) dL_children_442 dL_children_445 kic_1 dL_children_446 dL_children_449 kic_0 ?_
                exact z_zret3 (C []) (pc := 450) T t244 t219 dL_children_450 (by decide) (by decide) h
  · refine z_iload (C _) (pc := 356) dL_children_356 9 rfl ?_
    refine z_iconst (C _) (pc := 358) (x := (-1 : Int32)) dL_children_358 kic_m1 ?_
    refine z_icmp_ne (C _) (pc := 359) (tgt := 372) dL_children_359 (by decide) h (fun h => ?_) (fun h => ?_)
    · refine z_iconst (C _) (pc := 372) (x := (0 : Int32)) dL_children_372 kic_0 ?_
      refine z_goto (C _) (pc := 373) (tgt := 450) dL_children_373 (by decide) ?_
      exact z_zret3 (C []) (pc := 450) T t218 t219 dL_children_450 (by decide) (by decide) h
    · refine z_iload (C _) (pc := 362) dL_children_362 10 rfl ?_
      refine z_iconst (C _) (pc := 364) (x := (-1 : Int32)) dL_children_364 kic_m1 ?_
      refine z_icmp_ne (C _) (pc := 365) (tgt := 372) dL_children_365 (by decide) h (fun h => ?_) (fun h => ?_)
      · refine z_iconst (C _) (pc := 372) (x := (0 : Int32)) dL_children_372 kic_0 ?_
        refine z_goto (C _) (pc := 373) (tgt := 450) dL_children_373 (by decide) ?_
        exact z_zret3 (C []) (pc := 450) T t218 t219 dL_children_450 (by decide) (by decide) h
      · refine z_iconst (C _) (pc := 368) (x := (1 : Int32)) dL_children_368 kic_1 ?_
        refine z_goto (C _) (pc := 369) (tgt := 450) dL_children_369 (by decide) ?_
        exact z_zret3 (C []) (pc := 450) T t218 t219 dL_children_450 (by decide) (by decide) h
set_option maxHeartbeats 4000000 in
set_option maxRecDepth 100000 in
theorem k_L_children_B182 (l : Launch) (hfl : l.stackTraces = false) (v : Ev) {x9 : P9} {A : Nat → Prop} {E : State → Prop} {X0 Y : va_W} (C : ∀ X, Cx l v RL cL_children 13 (some .boolean) "children" (x9, X, A, E)) (Q : Int32 → Hp → Hp → Hp → Prop) (T : E3 v rm_L_children (Q3i v) Q X0 Y A E x9) (S1 S2 S : Hp) (t1 : g_T S1 = v.2.2.1) (t2 : g_T S2 = v.2.2.1) (w0 : Nat) (w1 : Nat) (w2 : Nat) (w3 : Int32) (w4 : Int32) (w5 : Int32) (w6 : Int32) (w7 : Int32) (w8 : Int32) (w9 : Int32) (h : wp_L_children_B182 Q S1 S2 S w0 w1 w2 w3 w4 w5 w6 w7 w8 w9) : ZZ l v 13 rm_L_children (x9, Y3 v.2.1 Y S1 S2, A, E) 0 0 S 182 [(0, va_rf (some w0)), (1, va_rf (some w1)), (2, va_rf (some w2)), (3, .int w3), (4, .int w4), (5, .int w5), (6, .int w6), (7, .int w7), (8, .int w8), (9, .int w9)] [] := by
  unfold wp_L_children_B182 at h
  refine z_aload_n (C _) (pc := 182) dL_children_182 0 rfl ?_
  refine z_iload (C _) (pc := 183) dL_children_183 9 rfl ?_
  refine z_iconst (C _) (pc := 185) (x := (0 : Int32)) dL_children_185 kic_0 ?_
  obtain ⟨o245, h⟩ := h
  refine z_s1 t1 (fun t246 => ?_)
  refine z_Vi (C _) (pc := 186) (KX := fun _ _ => False) (kc' := 0) (ks' := 0) (As := [.int w9, .int (0 : Int32)]) (rest := []) rfl (c_X8_ofTroop_n l v S1 w0 w9 (0 : Int32)) mw_X8_ofTroop bw_256 bw_257 bw_258 (fit_of rfl) rfl rfl (Nat.le_of_ble_eq_true rfl) (by decide) rfl o245 dL_children_186 h (fun r248 S247 h => ?_) (fun En S9 h => h.elim)
  refine z_s1' t246 (fun t249 => ?_)
  refine z_istore (C _) (pc := 189) (lv' := [(10, .int r248), (0, va_rf (some w0)), (1, va_rf (some w1)), (2, va_rf (some w2)), (3, .int w3), (4, .int w4), (5, .int w5), (6, .int w6), (7, .int w7), (8, .int w8), (9, .int w9)]) dL_children_189 (by decide) rfl ?_
  refine z_aload_n (C _) (pc := 191) dL_children_191 1 rfl ?_
  refine z_aload_n (C _) (pc := 192) dL_children_192 2 rfl ?_
  refine z_iconst (C _) (pc := 193) (x := (2 : Int32)) dL_children_193 kic_2 ?_
  refine z_iload (C _) (pc := 194) dL_children_194 7 rfl ?_
  refine z_iload (C _) (pc := 196) dL_children_196 10 rfl ?_
  refine z_iconst (C _) (pc := 198) (x := (0 : Int32)) dL_children_198 kic_0 ?_
  refine z_iconst (C _) (pc := 199) (x := (0 : Int32)) dL_children_199 kic_0 ?_
  refine z_S3i (C []) (pc := 200) (kc' := 92) (ks' := 2940) (As := [va_rf (some w0), va_rf (some w1), .int (2 : Int32), .int w6, .int w9, .int (0 : Int32), .int (0 : Int32)]) (rest := []) (c_L_both l hfl v S247 S2 S w0 w1 (2 : Int32) w6 w9 (0 : Int32) (0 : Int32)) mw_L_both bw_364 bw_365 (fit_of rfl) rfl rfl (Nat.le_of_ble_eq_true rfl) t249 t2 dL_children_200 h (fun r253 S250 S251 S252 t254 t255 h => ?_)
  refine z_istore (C _) (pc := 203) (lv' := [(11, .int r253), (10, .int r248), (0, va_rf (some w0)), (1, va_rf (some w1)), (2, va_rf (some w2)), (3, .int w3), (4, .int w4), (5, .int w5), (6, .int w6), (7, .int w7), (8, .int w8), (9, .int w9)]) dL_children_203 (by decide) rfl ?_
  refine z_iload (C _) (pc := 205) dL_children_205 0 rfl ?_
  refine z_ldc (C _) (pc := 207) (x := (-2000000003 : Int32)) dL_children_207 bw_778 ?_
  refine z_icmp_ne (C _) (pc := 209) (tgt := 244) dL_children_209 (by decide) h (fun h => ?_) (fun h => ?_)
  · refine z_iload (C _) (pc := 244) dL_children_244 9 rfl ?_
    refine z_iconst (C _) (pc := 246) (x := (-1 : Int32)) dL_children_246 kic_m1 ?_
    refine z_icmp_ne (C _) (pc := 247) (tgt := 318) dL_children_247 (by decide) h (fun h => ?_) (fun h => ?_)
    · refine z_iconst (C _) (pc := 318) (x := (0 : Int32)) dL_children_318 kic_0 ?_
      exact z_zret3 (C []) (pc := 319) T t254 t255 dL_children_319 (by decide) (by decide) h
    · refine z_iload (C _) (pc := 250) dL_children_250 10 rfl ?_
      refine z_iconst (C _) (pc := 252) (x := (-1 : Int32)) dL_children_252 kic_m1 ?_
      refine z_icmp_ne (C _) (pc := 253) (tgt := 318) dL_children_253 (by decide) h (fun h => ?_) (fun h => ?_)
      · refine z_iconst (C _) (pc := 318) (x := (0 : Int32)) dL_children_318 kic_0 ?_
        exact z_zret3 (C []) (pc := 319) T t254 t255 dL_children_319 (by decide) (by decide) h
      · refine z_iload (C _) (pc := 256) dL_children_256 0 rfl ?_
        refine z_if_ne (C _) (pc := 258) (tgt := 290) dL_children_258 (by decide) h (fun h => ?_) (fun h => ?_)
        · refine z_aload_n (C _) (pc := 290) dL_children_290 2 rfl ?_
          refine z_iload (C _) (pc := 291) dL_children_291 8 rfl ?_
          refine z_iconst (C _) (pc := 293) (x := (2 : Int32)) dL_children_293 kic_2 ?_
          obtain ⟨o256, h⟩ := h
          refine z_s1 t254 (fun t257 => ?_)
          refine z_Vi (C _) (pc := 294) (KX := fun _ _ => False) (kc' := 92) (ks' := 2940) (As := [.int w6, .int (2 : Int32)]) (rest := []) rfl (c_X8_ofChild_n l v S250 w0 w6 (2 : Int32)) mw_X8_ofChild bw_113 bw_114 bw_115 (fit_of rfl) rfl rfl (Nat.le_of_ble_eq_true rfl) (by decide) rfl o256 dL_children_294 h (fun r259 S258 h => ?_) (fun En S9 h => h.elim)
          refine z_s1' t257 (fun t260 => ?_)
          refine z_iload (C _) (pc := 297) dL_children_297 11 rfl ?_
          refine z_icmp_ne (C _) (pc := 299) (tgt := 318) dL_children_299 (by decide) h (fun h => ?_) (fun h => ?_)
          · refine z_iconst (C _) (pc := 318) (x := (0 : Int32)) dL_children_318 kic_0 ?_
            exact z_zret3 (C []) (pc := 319) T t260 t255 dL_children_319 (by decide) (by decide) h
          · refine z_iload (C _) (pc := 302) dL_children_302 0 rfl ?_
            refine z_aload_n (C _) (pc := 304) dL_children_304 2 rfl ?_
            refine z_iload (C _) (pc := 305) dL_children_305 11 rfl ?_
            refine z_iconst (C _) (pc := 307) (x := (1 : Int32)) dL_children_307 kic_1 ?_
            obtain ⟨o261, h⟩ := h
            refine z_s1 t260 (fun t262 => ?_)
            refine z_Vi (C _) (pc := 308) (KX := fun _ _ => False) (kc' := 92) (ks' := 2940) (As := [.int w9, .int (1 : Int32)]) (rest := [.int r253]) rfl (c_X8_ofTroop_n l v S258 w0 w9 (1 : Int32)) mw_X8_ofTroop bw_256 bw_257 bw_258 (fit_of rfl) rfl rfl (Nat.le_of_ble_eq_true rfl) (by decide) rfl o261 dL_children_308 h (fun r264 S263 h => ?_) (fun En S9 h => h.elim)
            refine z_s1' t262 (fun t265 => ?_)
            refine z_t_icmp_ne (C _) (pc := 311) dL_children_311 dL_children_314 kic_1 dL_children_315 dL_children_318 kic_0 ?_
            exact z_zret3 (C []) (pc := 319) T t265 t255 dL_children_319 (by decide) (by decide) h
        · refine z_aload_n (C _) (pc := 261) dL_children_261 2 rfl ?_
          refine z_iload (C _) (pc := 262) dL_children_262 8 rfl ?_
          refine z_iconst (C _) (pc := 264) (x := (1 : Int32)) dL_children_264 kic_1 ?_
          obtain ⟨o266, h⟩ := h
          refine z_s1 t254 (fun t267 => ?_)
          refine z_Vi (C _) (pc := 265) (KX := fun _ _ => False) (kc' := 92) (ks' := 2940) (As := [.int w6, .int (1 : Int32)]) (rest := []) rfl (c_X8_ofChild_n l v S250 w0 w6 (1 : Int32)) mw_X8_ofChild bw_113 bw_114 bw_115 (fit_of rfl) rfl rfl (Nat.le_of_ble_eq_true rfl) (by decide) rfl o266 dL_children_265 h (fun r269 S268 h => ?_) (fun En S9 h => h.elim)
          refine z_s1' t267 (fun t270 => ?_)
          refine z_iload (C _) (pc := 268) dL_children_268 11 rfl ?_
          refine z_icmp_ne (C _) (pc := 270) (tgt := 318) dL_children_270 (by decide) h (fun h => ?_) (fun h => ?_)
          · refine z_iconst (C _) (pc := 318) (x := (0 : Int32)) dL_children_318 kic_0 ?_
            exact z_zret3 (C []) (pc := 319) T t270 t255 dL_children_319 (by decide) (by decide) h
          · refine z_aload_n (C _) (pc := 273) dL_children_273 2 rfl ?_
            refine z_iload (C _) (pc := 274) dL_children_274 11 rfl ?_
            refine z_iconst (C _) (pc := 276) (x := (0 : Int32)) dL_children_276 kic_0 ?_
            obtain ⟨o271, h⟩ := h
            refine z_s1 t270 (fun t272 => ?_)
            refine z_Vi (C _) (pc := 277) (KX := fun _ _ => False) (kc' := 92) (ks' := 2940) (As := [.int w9, .int (0 : Int32)]) (rest := []) rfl (c_X8_ofTroop_n l v S268 w0 w9 (0 : Int32)) mw_X8_ofTroop bw_256 bw_257 bw_258 (fit_of rfl) rfl rfl (Nat.le_of_ble_eq_true rfl) (by decide) rfl o271 dL_children_277 h (fun r274 S273 h => ?_) (fun En S9 h => h.elim)
            refine z_s1' t272 (fun t275 => ?_)
            refine z_iload (C _) (pc := 280) dL_children_280 1 rfl ?_
            refine z_iconst (C _) (pc := 282) (x := (1 : Int32)) dL_children_282 kic_1 ?_
            refine z_iadd (C _) (pc := 283) dL_children_283 ?_
            refine z_icmp_ne (C _) (pc := 284) (tgt := 318) dL_children_284 (by decide) h (fun h => ?_) (fun h => ?_)
            · refine z_iconst (C _) (pc := 318) (x := (0 : Int32)) dL_children_318 kic_0 ?_
              exact z_zret3 (C []) (pc := 319) T t275 t255 dL_children_319 (by decide) (by decide) h
            · refine z_goto (C _) (pc := 287) (tgt := 314) dL_children_287 (by decide) ?_
              refine z_iconst (C _) (pc := 314) (x := (1 : Int32)) dL_children_314 kic_1 ?_
              refine z_goto (C _) (pc := 315) (tgt := 319) dL_children_315 (by decide) ?_
              exact z_zret3 (C []) (pc := 319) T t275 t255 dL_children_319 (by decide) (by decide) h
  · refine z_aload_n (C _) (pc := 212) dL_children_212 2 rfl ?_
    refine z_iload (C _) (pc := 213) dL_children_213 8 rfl ?_
    refine z_iconst (C _) (pc := 215) (x := (1 : Int32)) dL_children_215 kic_1 ?_
    obtain ⟨o276, h⟩ := h
    refine z_s1 t254 (fun t277 => ?_)
    refine z_Vi (C _) (pc := 216) (KX := fun _ _ => False) (kc' := 92) (ks' := 2940) (As := [.int w6, .int (1 : Int32)]) (rest := []) rfl (c_X8_ofChild_n l v S250 w0 w6 (1 : Int32)) mw_X8_ofChild bw_113 bw_114 bw_115 (fit_of rfl) rfl rfl (Nat.le_of_ble_eq_true rfl) (by decide) rfl o276 dL_children_216 h (fun r279 S278 h => ?_) (fun En S9 h => h.elim)
    refine z_s1' t277 (fun t280 => ?_)
    refine z_iload (C _) (pc := 219) dL_children_219 9 rfl ?_
    refine z_icmp_ne (C _) (pc := 221) (tgt := 240) dL_children_221 (by decide) h (fun h => ?_) (fun h => ?_)
    · refine z_iconst (C _) (pc := 240) (x := (0 : Int32)) dL_children_240 kic_0 ?_
      refine z_goto (C _) (pc := 241) (tgt := 319) dL_children_241 (by decide) ?_
      exact z_zret3 (C []) (pc := 319) T t280 t255 dL_children_319 (by decide) (by decide) h
    · refine z_aload_n (C _) (pc := 224) dL_children_224 2 rfl ?_
      refine z_iload (C _) (pc := 225) dL_children_225 8 rfl ?_
      refine z_iconst (C _) (pc := 227) (x := (2 : Int32)) dL_children_227 kic_2 ?_
      obtain ⟨o281, h⟩ := h
      refine z_s1 t280 (fun t282 => ?_)
      refine z_Vi (C _) (pc := 228) (KX := fun _ _ => False) (kc' := 92) (ks' := 2940) (As := [.int w6, .int (2 : Int32)]) (rest := []) rfl (c_X8_ofChild_n l v S278 w0 w6 (2 : Int32)) mw_X8_ofChild bw_113 bw_114 bw_115 (fit_of rfl) rfl rfl (Nat.le_of_ble_eq_true rfl) (by decide) rfl o281 dL_children_228 h (fun r284 S283 h => ?_) (fun En S9 h => h.elim)
      refine z_s1' t282 (fun t285 => ?_)
      refine z_iload (C _) (pc := 231) dL_children_231 10 rfl ?_
      refine z_icmp_ne (C _) (pc := 233) (tgt := 240) dL_children_233 (by decide) h (fun h => ?_) (fun h => ?_)
      · refine z_iconst (C _) (pc := 240) (x := (0 : Int32)) dL_children_240 kic_0 ?_
        refine z_goto (C _) (pc := 241) (tgt := 319) dL_children_241 (by decide) ?_
        exact z_zret3 (C []) (pc := 319) T t285 t255 dL_children_319 (by decide) (by decide) h
      · refine z_iconst (C _) (pc := 236) (x := (1 : Int32)) dL_children_236 kic_1 ?_
        refine z_goto (C _) (pc := 237) (tgt := 319) dL_children_237 (by decide) ?_
        exact z_zret3 (C []) (pc := 319) T t285 t255 dL_children_319 (by decide) (by decide) h
set_option maxHeartbeats 4000000 in
set_option maxRecDepth 100000 in
theorem k_L_children_B135 (l : Launch) (hfl : l.stackTraces = false) (v : Ev) {x9 : P9} {A : Nat → Prop} {E : State → Prop} {X0 Y : va_W} (C : ∀ X, Cx l v RL cL_children 13 (some .boolean) "children" (x9, X, A, E)) (Q : Int32 → Hp → Hp → Hp → Prop) (T : E3 v rm_L_children (Q3i v) Q X0 Y A E x9) (S1 S2 S : Hp) (t1 : g_T S1 = v.2.2.1) (t2 : g_T S2 = v.2.2.1) (w0 : Nat) (w1 : Nat) (w2 : Nat) (w3 : Int32) (w4 : Int32) (w5 : Int32) (h : wp_L_children_B135 Q S1 S2 S w0 w1 w2 w3 w4 w5) : ZZ l v 13 rm_L_children (x9, Y3 v.2.1 Y S1 S2, A, E) 0 0 S 135 [(0, va_rf (some w0)), (1, va_rf (some w1)), (2, va_rf (some w2)), (3, .int w3), (4, .int w4), (5, .int w5)] [] := by
  unfold wp_L_children_B135 at h
  refine z_iload (C _) (pc := 135) dL_children_135 4 rfl ?_
  refine z_aload_n (C _) (pc := 137) dL_children_137 2 rfl ?_
  refine z_iconst (C _) (pc := 138) (x := (0 : Int32)) dL_children_138 kic_0 ?_
  obtain ⟨o138, h⟩ := h
  obtain ⟨v139, h⟩ := h
  refine z_iald (C _) (pc := 139) dL_children_139 rfl o138 v139 ?_
  refine z_Si8 (C _) (pc := 140) (KX := fun _ _ => False) (kc' := 0) (ks' := 0) (As := [.int w4, .int (g_R S w2 (0 : Int32).toNatClampNeg)]) (rest := []) (c_L_some l v S w4 (g_R S w2 (0 : Int32).toNatClampNeg)) mw_L_some bw_101 bw_102 (fit_of rfl) rfl rfl (Nat.le_of_ble_eq_true rfl) dL_children_140 h (fun r141 S140 h => ?_) (fun En S9 h => h.elim)
  refine z_istore (C _) (pc := 143) (lv' := [(6, .int r141), (0, va_rf (some w0)), (1, va_rf (some w1)), (2, va_rf (some w2)), (3, .int w3), (4, .int w4), (5, .int w5)]) dL_children_143 (by decide) rfl ?_
  refine z_aload_n (C _) (pc := 145) dL_children_145 1 rfl ?_
  refine z_iload (C _) (pc := 146) dL_children_146 0 rfl ?_
  refine z_iconst (C _) (pc := 148) (x := (1 : Int32)) dL_children_148 kic_1 ?_
  obtain ⟨o142, h⟩ := h
  refine z_s1 t1 (fun t143 => ?_)
  refine z_Vi (C _) (pc := 149) (KX := fun _ _ => False) (kc' := 0) (ks' := 0) (As := [.int r141, .int (1 : Int32)]) (rest := []) rfl (c_X8_ofChild_n l v S1 w0 r141 (1 : Int32)) mw_X8_ofChild bw_113 bw_114 bw_115 (fit_of rfl) rfl rfl (Nat.le_of_ble_eq_true rfl) (by decide) rfl o142 dL_children_149 h (fun r145 S144 h => ?_) (fun En S9 h => h.elim)
  refine z_s1' t143 (fun t146 => ?_)
  refine z_istore (C _) (pc := 152) (lv' := [(7, .int r145), (6, .int r141), (0, va_rf (some w0)), (1, va_rf (some w1)), (2, va_rf (some w2)), (3, .int w3), (4, .int w4), (5, .int w5)]) dL_children_152 (by decide) rfl ?_
  refine z_aload_n (C _) (pc := 154) dL_children_154 2 rfl ?_
  refine z_iload (C _) (pc := 155) dL_children_155 1 rfl ?_
  refine z_iconst (C _) (pc := 157) (x := (2 : Int32)) dL_children_157 kic_2 ?_
  obtain ⟨o147, h⟩ := h
  refine z_s1 t146 (fun t148 => ?_)
  refine z_Vi (C _) (pc := 158) (KX := fun _ _ => False) (kc' := 0) (ks' := 0) (As := [.int r141, .int (2 : Int32)]) (rest := []) rfl (c_X8_ofChild_n l v S144 w0 r141 (2 : Int32)) mw_X8_ofChild bw_113 bw_114 bw_115 (fit_of rfl) rfl rfl (Nat.le_of_ble_eq_true rfl) (by decide) rfl o147 dL_children_158 h (fun r150 S149 h => ?_) (fun En S9 h => h.elim)
  refine z_s1' t148 (fun t151 => ?_)
  refine z_istore (C _) (pc := 161) (lv' := [(8, .int r150), (7, .int r145), (6, .int r141), (0, va_rf (some w0)), (1, va_rf (some w1)), (2, va_rf (some w2)), (3, .int w3), (4, .int w4), (5, .int w5)]) dL_children_161 (by decide) rfl ?_
  refine z_iload (C _) (pc := 163) dL_children_163 7 rfl ?_
  refine z_iconst (C _) (pc := 165) (x := (5 : Int32)) dL_children_165 kic_5 ?_
  refine z_ishr (C _) (pc := 166) dL_children_166 ?_
  refine z_aload_n (C _) (pc := 167) dL_children_167 5 rfl ?_
  refine z_iconst (C _) (pc := 168) (x := (1 : Int32)) dL_children_168 kic_1 ?_
  obtain ⟨o152, h⟩ := h
  obtain ⟨v153, h⟩ := h
  refine z_iald (C _) (pc := 169) dL_children_169 rfl o152 v153 ?_
  refine z_Si8 (C _) (pc := 170) (KX := fun _ _ => False) (kc' := 0) (ks' := 0) (As := [.int (w4 >>> ((5 : Int32) &&& 31)), .int (g_R S140 w2 (1 : Int32).toNatClampNeg)]) (rest := []) (c_L_some l v S140 (w4 >>> ((5 : Int32) &&& 31)) (g_R S140 w2 (1 : Int32).toNatClampNeg)) mw_L_some bw_101 bw_102 (fit_of rfl) rfl rfl (Nat.le_of_ble_eq_true rfl) dL_children_170 h (fun r155 S154 h => ?_) (fun En S9 h => h.elim)
  refine z_istore (C _) (pc := 173) (lv' := [(9, .int r155), (8, .int r150), (7, .int r145), (6, .int r141), (0, va_rf (some w0)), (1, va_rf (some w1)), (2, va_rf (some w2)), (3, .int w3), (4, .int w4), (5, .int w5)]) dL_children_173 (by decide) rfl ?_
  refine z_iload (C _) (pc := 175) dL_children_175 9 rfl ?_
  refine z_bipush (C _) (pc := 177) (x := (7 : Int32)) dL_children_177 kbp_7 ?_
  refine z_icmp_ge (C _) (pc := 179) (tgt := 320) dL_children_179 (by decide) h (fun h => ?_) (fun h => ?_)
  · refine z_iload (C _) (pc := 320) dL_children_320 9 rfl ?_
    refine z_bipush (C _) (pc := 322) (x := (9 : Int32)) dL_children_322 kbp_9 ?_
    refine z_icmp_ge (C _) (pc := 324) (tgt := 451) dL_children_324 (by decide) h (fun h => ?_) (fun h => ?_)
    · refine z_iload (C _) (pc := 451) dL_children_451 9 rfl ?_
      refine z_bipush (C _) (pc := 453) (x := (10 : Int32)) dL_children_453 kbp_10 ?_
      refine z_icmp_ge (C _) (pc := 455) (tgt := 539) dL_children_455 (by decide) h (fun h => ?_) (fun h => ?_)
      · refine z_aload_n (C _) (pc := 539) dL_children_539 4 rfl ?_
        refine z_iload (C _) (pc := 540) dL_children_540 3 rfl ?_
        refine z_iconst (C _) (pc := 542) (x := (5 : Int32)) dL_children_542 kic_5 ?_
        obtain ⟨o156, h⟩ := h
        refine z_s1 t151 (fun t157 => ?_)
        refine z_Vi (C _) (pc := 543) (KX := fun _ _ => False) (kc' := 0) (ks' := 0) (As := [.int r141, .int (5 : Int32)]) (rest := []) rfl (c_X8_ofChild_n l v S149 w0 r141 (5 : Int32)) mw_X8_ofChild bw_113 bw_114 bw_115 (fit_of rfl) rfl rfl (Nat.le_of_ble_eq_true rfl) (by decide) rfl o156 dL_children_543 h (fun r159 S158 h => ?_) (fun En S9 h => h.elim)
        refine z_s1' t157 (fun t160 => ?_)
        refine z_istore (C _) (pc := 546) (lv' := [(10, .int r159), (9, .int r155), (8, .int r150), (7, .int r145), (6, .int r141), (0, va_rf (some w0)), (1, va_rf (some w1)), (2, va_rf (some w2)), (3, .int w3), (4, .int w4), (5, .int w5)]) dL_children_546 (by decide) rfl ?_
        refine z_iload (C _) (pc := 548) dL_children_548 10 rfl ?_
        refine z_bipush (C _) (pc := 550) (x := (11 : Int32)) dL_children_550 kbp_11 ?_
        refine z_icmp_ge (C _) (pc := 552) (tgt := 661) dL_children_552 (by decide) h (fun h => ?_) (fun h => ?_)
        · refine z_sub [5, 6, 7, 8, 9, 10, 4, 3, 2, 1, 0] (lv' := [(0, va_rf (some w0)), (1, va_rf (some w1)), (2, va_rf (some w2)), (3, .int w3), (4, .int w4), (5, .int w5), (6, .int r141), (7, .int r145), (8, .int r150), (9, .int r155), (10, .int r159)]) rfl ?_
          exact k_L_children_B661 l hfl v C Q T S158 S2 S154 t160 t2 w0 w1 w2 w3 w4 w5 r141 r145 r150 r155 r159 h
        · refine z_sub [5, 6, 7, 8, 9, 10, 4, 3, 2, 1, 0] (lv' := [(0, va_rf (some w0)), (1, va_rf (some w1)), (2, va_rf (some w2)), (3, .int w3), (4, .int w4), (5, .int w5), (6, .int r141), (7, .int r145), (8, .int r150), (9, .int r155), (10, .int r159)]) rfl ?_
          exact k_L_children_B555 l hfl v C Q T S158 S2 S154 t160 t2 w0 w1 w2 w3 w4 w5 r141 r145 r150 r155 r159 h
      · refine z_sub [4, 5, 6, 7, 8, 9, 3, 2, 1, 0] (lv' := [(0, va_rf (some w0)), (1, va_rf (some w1)), (2, va_rf (some w2)), (3, .int w3), (4, .int w4), (5, .int w5), (6, .int r141), (7, .int r145), (8, .int r150), (9, .int r155)]) rfl ?_
        exact k_L_children_B458 l hfl v C Q T S149 S2 S154 t151 t2 w0 w1 w2 w3 w4 w5 r141 r145 r150 r155 h
    · refine z_sub [4, 5, 6, 7, 8, 9, 3, 2, 1, 0] (lv' := [(0, va_rf (some w0)), (1, va_rf (some w1)), (2, va_rf (some w2)), (3, .int w3), (4, .int w4), (5, .int w5), (6, .int r141), (7, .int r145), (8, .int r150), (9, .int r155)]) rfl ?_
      exact k_L_children_B327 l hfl v C Q T S149 S2 S154 t151 t2 w0 w1 w2 w3 w4 w5 r141 r145 r150 r155 h
  · refine z_sub [4, 5, 6, 7, 8, 9, 3, 2, 1, 0] (lv' := [(0, va_rf (some w0)), (1, va_rf (some w1)), (2, va_rf (some w2)), (3, .int w3), (4, .int w4), (5, .int w5), (6, .int r141), (7, .int r145), (8, .int r150), (9, .int r155)]) rfl ?_
    exact k_L_children_B182 l hfl v C Q T S149 S2 S154 t151 t2 w0 w1 w2 w3 w4 w5 r141 r145 r150 r155 h
set_option maxHeartbeats 4000000 in
set_option maxRecDepth 100000 in
theorem c_L_children (l : Launch) (hfl : l.stackTraces = false) (v : Ev) (S1 S2 S : Hp) (x0 : Nat) (x1 : Nat) (x2 : Nat) (x3 : Int32) (x4 : Int32) : C3 l v yL_children cL_children 13 (some .boolean) rm_L_children [va_rf (some x0), va_rf (some x1), va_rf (some x2), .int x3, .int x4] S1 S2 S (Q3i v) (fun Q => wp_L_children S1 S2 S x0 x1 x2 x3 x4 Q) := by
  refine z_start3 [(0, va_rf (some x0)), (1, va_rf (some x1)), (2, va_rf (some x2)), (3, .int x3), (4, .int x4)] (by decide +kernel) (by simp only [la_i, la_r, la_n]) (cat_cr (cat_cr (cat_cr (cat_ci (cat_ci cat_nil))))) (by simp only [ls_i, ls_r, ls_n]; decide) (fun x9 A E Y Q h t1 t2 C T => ?_)
  unfold wp_L_children at h
  refine z_iload_n (C _) (pc := 0) dL_children_0 3 rfl ?_
  refine z_bipush (C _) (pc := 1) (x := (12 : Int32)) dL_children_1 kbp_12 ?_
  refine z_Si8 (C _) (pc := 3) (KX := fun _ _ => False) (kc' := 0) (ks' := 0) (As := [.int x3, .int (12 : Int32)]) (rest := []) (c_L_some l v S x3 (12 : Int32)) mw_L_some bw_101 bw_102 (fit_of rfl) rfl rfl (Nat.le_of_ble_eq_true rfl) dL_children_3 h (fun r102 S101 h => ?_) (fun En S9 h => h.elim)
  refine z_istore (C _) (pc := 6) (lv' := [(5, .int r102), (0, va_rf (some x0)), (1, va_rf (some x1)), (2, va_rf (some x2)), (3, .int x3), (4, .int x4)]) dL_children_6 (by decide) rfl ?_
  refine z_iload (C _) (pc := 8) dL_children_8 0 rfl ?_
  refine z_iconst (C _) (pc := 10) (x := (3 : Int32)) dL_children_10 kic_3 ?_
  refine z_icmp_lt (C _) (pc := 11) (tgt := 20) dL_children_11 (by decide) h (fun h => ?_) (fun h => ?_)
  · refine z_sub [1, 2, 3, 4, 5, 0] (lv' := [(0, va_rf (some x0)), (1, va_rf (some x1)), (2, va_rf (some x2)), (3, .int x3), (4, .int x4), (5, .int r102)]) rfl ?_
    exact k_L_children_B20 l hfl v C Q T S1 S2 S101 t1 t2 x0 x1 x2 x3 x4 r102 h
  · refine z_aload_n (C _) (pc := 14) dL_children_14 3 rfl ?_
    refine z_iconst (C _) (pc := 15) (x := (0 : Int32)) dL_children_15 kic_0 ?_
    obtain ⟨o136, h⟩ := h
    obtain ⟨v137, h⟩ := h
    refine z_iald (C _) (pc := 16) dL_children_16 rfl o136 v137 ?_
    refine z_if_ne (C _) (pc := 17) (tgt := 135) dL_children_17 (by decide) h (fun h => ?_) (fun h => ?_)
    · refine z_sub [1, 2, 3, 4, 5, 0] (lv' := [(0, va_rf (some x0)), (1, va_rf (some x1)), (2, va_rf (some x2)), (3, .int x3), (4, .int x4), (5, .int r102)]) rfl ?_
      exact k_L_children_B135 l hfl v C Q T S1 S2 S101 t1 t2 x0 x1 x2 x3 x4 r102 h
    · refine z_sub [1, 2, 3, 4, 5, 0] (lv' := [(0, va_rf (some x0)), (1, va_rf (some x1)), (2, va_rf (some x2)), (3, .int x3), (4, .int x4), (5, .int r102)]) rfl ?_
      exact k_L_children_B20 l hfl v C Q T S1 S2 S101 t1 t2 x0 x1 x2 x3 x4 r102 h
