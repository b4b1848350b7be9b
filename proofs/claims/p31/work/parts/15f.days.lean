def wp_L_days_L220 (Q : Int32 → Hp → Hp → Hp → Prop) (f0 : Nat) (f1 : Nat) (f2 : Nat) (f3 : Int32) (f4 : Int32) (f5 : Int32) (f6 : Nat) (f7 : Int32) (f8 : Int32) : Nat → Hp → Hp → Hp → Int32 → Int32 → Prop
  | 0, _, _, _, _, _ => False
  | n + 1, S1, S2, S, w9, w10 => okA S 11 f2 ∧ (vp_in (0 : Int32) (g_N S f2) ∧ (if (g_R S f2 (0 : Int32).toNatClampNeg) ≤ w10 then (bz w9 (Q w9 S1 S2 S)) else (if w9 = 0 then (bz w9 (Q w9 S1 S2 S)) else (okA S1 8 f0 ∧ (wp_X8_ofChild S1 f0 w10 (4 : Int32) (fun r127 S126 => okA S 11 f6 ∧ (vp_in w10 (g_N S f6) ∧ (lt (if r127 < (g_R S f6 w10.toNatClampNeg) then (0 : Int32) else (1 : Int32)) (fun y131 => wp_L_days_L220 Q f0 f1 f2 f3 f4 f5 f6 f7 f8 n S126 S2 S y131 (w10 + (1 : Int32)))))) (fun _ _ => False))))))
def wp_L_days_B149 (Q : Int32 → Hp → Hp → Hp → Prop) (S1 S2 S : Hp) (w0 : Nat) (w1 : Nat) (w2 : Nat) (w3 : Int32) (w4 : Int32) (w5 : Int32) (w6 : Nat) (w7 : Int32) : Prop :=
  wp_L_some S w4 (20 : Int32) (fun r113 S112 => lt ((1 : Int32) + r113) (fun y114 => wp_L_both S1 S2 S112 w0 w1 (6 : Int32) y114 (0 : Int32) (0 : Int32) (0 : Int32) (fun r118 S115 S116 S117 => if r118 = (-2000000003 : Int32) then (if (w5 + y114) ≤ (9999 : Int32) then (∃ n133, wp_L_days_L220 Q w0 w1 w2 w3 w4 w5 w6 y114 r118 n133 S115 S116 S117 (0 : Int32) (0 : Int32)) else (∃ n134, wp_L_days_L220 Q w0 w1 w2 w3 w4 w5 w6 y114 r118 n134 S115 S116 S117 (1 : Int32) (0 : Int32))) else (lt (if r118 = (w5 + y114) then (1 : Int32) else (0 : Int32)) (fun y121 => ∃ n132, wp_L_days_L220 Q w0 w1 w2 w3 w4 w5 w6 y114 r118 n132 S115 S116 S117 y121 (0 : Int32))))))
def wp_L_days_L123 (Q : Int32 → Hp → Hp → Hp → Prop) (f0 : Nat) (f1 : Nat) (f2 : Nat) (f3 : Int32) (f4 : Int32) (f5 : Int32) (f6 : Nat) : Nat → Hp → Hp → Hp → Int32 → Prop
  | 0, _, _, _, _ => False
  | n + 1, S1, S2, S, w7 => okA S 11 f2 ∧ (vp_in (0 : Int32) (g_N S f2) ∧ (if (g_R S f2 (0 : Int32).toNatClampNeg) ≤ w7 then (wp_L_days_B149 Q S1 S2 S f0 f1 f2 f3 f4 f5 f6 w7) else (okA S1 8 f0 ∧ (wp_X8_ofChild S1 f0 w7 (4 : Int32) (fun r138 S137 => okA S 11 f6 ∧ (vp_in w7 (g_N S f6) ∧ (lt (s_R S f6 w7.toNatClampNeg r138) (fun S142 => wp_L_days_L123 Q f0 f1 f2 f3 f4 f5 f6 n S137 S2 S142 (w7 + (1 : Int32)))))) (fun _ _ => False)))))
def wp_L_days_B108 (Q : Int32 → Hp → Hp → Hp → Prop) (S1 S2 S : Hp) (w0 : Nat) (w1 : Nat) (w2 : Nat) (w3 : Int32) (w4 : Int32) : Prop :=
  okA S1 8 w0 ∧ (wp_X8_today S1 w0 (fun r106 S105 => (∀ a108, a108 ∉ g_L S → lt (n_A 11 S a108 24) (fun S109 => ∃ n143, wp_L_days_L123 Q w0 w1 w2 w3 w4 r106 a108 n143 S105 S2 S109 (0 : Int32)))))
def wp_L_days_L56 (Q : Int32 → Hp → Hp → Hp → Prop) (f0 : Nat) (f1 : Nat) (f2 : Nat) (f3 : Int32) (f4 : Int32) (f6 : Int32) : Nat → Hp → Hp → Hp → Int32 → Int32 → Prop
  | 0, _, _, _, _, _ => False
  | n + 1, S1, S2, S, w5, w7 => okA S 11 f2 ∧ (vp_in (0 : Int32) (g_N S f2) ∧ (if (g_R S f2 (0 : Int32).toNatClampNeg) ≤ w7 then (if f6 < 0 then (bz (0 : Int32) (Q (0 : Int32) S1 S2 S)) else (vp_in (0 : Int32) (g_N S f2) ∧ (if (g_R S f2 (0 : Int32).toNatClampNeg) < f6 then (bz (0 : Int32) (Q (0 : Int32) S1 S2 S)) else (bz (if w5 = 0 then (1 : Int32) else (0 : Int32)) (Q (if w5 = 0 then (1 : Int32) else (0 : Int32)) S1 S2 S))))) else (okA S1 8 f0 ∧ (wp_X8_ofChild S1 f0 w7 (0 : Int32) (fun r158 S157 => lt (w5 - (r158 - (1 : Int32))) (fun y160 => wp_L_days_L56 Q f0 f1 f2 f3 f4 f6 n S157 S2 S y160 (w7 + (1 : Int32)))) (fun _ _ => False)))))
def wp_L_days_L14 (Q : Int32 → Hp → Hp → Hp → Prop) (f0 : Nat) (f1 : Nat) (f2 : Nat) (f3 : Int32) (f4 : Int32) : Nat → Hp → Hp → Hp → Int32 → Int32 → Prop
  | 0, _, _, _, _, _ => False
  | n + 1, S1, S2, S, w5, w6 => okA S 11 f2 ∧ (vp_in (0 : Int32) (g_N S f2) ∧ (if (g_R S f2 (0 : Int32).toNatClampNeg) ≤ w6 then (wp_L_both S1 S2 S f0 f1 (7 : Int32) (0 : Int32) (0 : Int32) (0 : Int32) (0 : Int32) (fun r149 S146 S147 S148 => ∃ n161, wp_L_days_L56 Q f0 f1 f2 f3 f4 r149 n161 S146 S147 S148 w5 (0 : Int32))) else (okA S1 8 f0 ∧ (wp_X8_ofChild S1 f0 w6 (0 : Int32) (fun r165 S164 => lt (w5 + r165) (fun y167 => wp_L_days_L14 Q f0 f1 f2 f3 f4 n S164 S2 S y167 (w6 + (1 : Int32)))) (fun _ _ => False)))))
def wp_L_days_B8 (Q : Int32 → Hp → Hp → Hp → Prop) (S1 S2 S : Hp) (w0 : Nat) (w1 : Nat) (w2 : Nat) (w3 : Int32) (w4 : Int32) : Prop :=
  ∃ n168, wp_L_days_L14 Q w0 w1 w2 w3 w4 n168 S1 S2 S (0 : Int32) (0 : Int32)
def wp_L_days (S1 S2 S : Hp) (x0 : Nat) (x1 : Nat) (x2 : Nat) (x3 : Int32) (x4 : Int32) (Q : Int32 → Hp → Hp → Hp → Prop) : Prop :=
  wp_L_some S x3 (3 : Int32) (fun r102 S101 => if r102 = 0 then (wp_L_days_B8 Q S1 S2 S101 x0 x1 x2 x3 x4) else (wp_L_days_B108 Q S1 S2 S101 x0 x1 x2 x3 x4))
def rm_L_days : Room := { frames := 12, cells := 93, slots := 2964, locals := 356 }
set_option maxHeartbeats 4000000 in
set_option maxRecDepth 100000 in
theorem l_L_days_L220 (l : Launch) (hfl : l.stackTraces = false) (v : Ev) {x9 : P9} {A : Nat → Prop} {E : State → Prop} {X0 Y : va_W} (C : ∀ X, Cx l v RL cL_days 11 (some .boolean) "days" (x9, X, A, E)) (Q : Int32 → Hp → Hp → Hp → Prop) (T : E3 v rm_L_days (Q3i v) Q X0 Y A E x9) (f0 : Nat) (f1 : Nat) (f2 : Nat) (f3 : Int32) (f4 : Int32) (f5 : Int32) (f6 : Nat) (f7 : Int32) (f8 : Int32) : ∀ (n : Nat) (S1 S2 S : Hp) (w9 : Int32) (w10 : Int32), g_T S1 = v.2.2.1 → g_T S2 = v.2.2.1 → wp_L_days_L220 Q f0 f1 f2 f3 f4 f5 f6 f7 f8 n S1 S2 S w9 w10 → ZZ l v 11 rm_L_days (x9, Y3 v.2.1 Y S1 S2, A, E) 93 2964 S 220 [(0, va_rf (some f0)), (1, va_rf (some f1)), (2, va_rf (some f2)), (3, .int f3), (4, .int f4), (5, .int f5), (6, va_rf (some f6)), (7, .int f7), (8, .int f8), (9, .int w9), (10, .int w10)] [] := by
  intro n
  induction n with
  | zero =>
    intro S1 S2 S w9 w10 t1 t2 h
    exact h.elim
  | succ n ih =>
    intro S1 S2 S w9 w10 t1 t2 h
    unfold wp_L_days_L220 at h
    refine z_iload (C _) (pc := 220) dL_days_220 10 rfl ?_
    refine z_aload_n (C _) (pc := 222) dL_days_222 2 rfl ?_
    refine z_iconst (C _) (pc := 223) (x := (0 : Int32)) dL_days_223 kic_0 ?_
    obtain ⟨o122, h⟩ := h
    obtain ⟨v123, h⟩ := h
    refine z_iald (C _) (pc := 224) dL_days_224 rfl o122 v123 ?_
    refine z_icmp_ge (C _) (pc := 225) (tgt := 261) dL_days_225 (by decide) h (fun h => ?_) (fun h => ?_)
    · refine z_iload (C _) (pc := 261) dL_days_261 9 rfl ?_
      exact z_zret3 (C []) (pc := 263) T t1 t2 dL_days_263 (by decide) (by decide) h
    · refine z_iload (C _) (pc := 228) dL_days_228 9 rfl ?_
      refine z_if_eq (C _) (pc := 230) (tgt := 261) dL_days_230 (by decide) h (fun h => ?_) (fun h => ?_)
      · refine z_iload (C _) (pc := 261) dL_days_261 9 rfl ?_
        exact z_zret3 (C []) (pc := 263) T t1 t2 dL_days_263 (by decide) (by decide) h
      · refine z_aload_n (C _) (pc := 233) dL_days_233 0 rfl ?_
        refine z_iload (C _) (pc := 234) dL_days_234 10 rfl ?_
        refine z_iconst (C _) (pc := 236) (x := (4 : Int32)) dL_days_236 kic_4 ?_
        obtain ⟨o124, h⟩ := h
        refine z_s1 t1 (fun t125 => ?_)
        refine z_Vi (C _) (pc := 237) (KX := fun _ _ => False) (kc' := 93) (ks' := 2964) (As := [.int w10, .int (4 : Int32)]) (rest := []) rfl (c_X8_ofChild_n l v S1 f0 w10 (4 : Int32)) mw_X8_ofChild bw_113 bw_114 bw_115 (fit_of rfl) rfl rfl (Nat.le_of_ble_eq_true rfl) (by decide) rfl o124 dL_days_237 h (fun r127 S126 h => ?_) (fun En S9 h => h.elim)
        refine z_s1' t125 (fun t128 => ?_)
        refine z_aload (C _) (pc := 240) dL_days_240 6 rfl ?_
        refine z_iload (C _) (pc := 242) dL_days_242 10 rfl ?_
        obtain ⟨o129, h⟩ := h
        obtain ⟨v130, h⟩ := h
        refine z_iald (C _) (pc := 244) dL_days_244 rfl o129 v130 ?_
        refine z_t_icmp_lt (C _) (pc := 245) dL_days_245 dL_days_248 kic_1 dL_days_249 dL_days_252 kic_0 ?_
        refine z_nI h (fun y131 h => ?_)
        refine z_istore (C _) (pc := 253) (lv' := [(9, .int y131), (0, va_rf (some f0)), (1, va_rf (some f1)), (2, va_rf (some f2)), (3, .int f3), (4, .int f4), (5, .int f5), (6, va_rf (some f6)), (7, .int f7), (8, .int f8), (10, .int w10)]) dL_days_253 (by decide) rfl ?_
        refine z_iinc (C _) (pc := 255) (y := w10 + (1 : Int32)) (lv' := [(10, .int (w10 + (1 : Int32))), (9, .int y131), (0, va_rf (some f0)), (1, va_rf (some f1)), (2, va_rf (some f2)), (3, .int f3), (4, .int f4), (5, .int f5), (6, va_rf (some f6)), (7, .int f7), (8, .int f8)]) dL_days_255 10 rfl rfl (by decide) rfl ?_
        refine z_goto (C _) (pc := 258) (tgt := 220) dL_days_258 (by decide) ?_
        refine z_sub [2, 3, 4, 5, 6, 7, 8, 9, 10, 1, 0] (lv' := [(0, va_rf (some f0)), (1, va_rf (some f1)), (2, va_rf (some f2)), (3, .int f3), (4, .int f4), (5, .int f5), (6, va_rf (some f6)), (7, .int f7), (8, .int f8), (9, .int y131), (10, .int (w10 + (1 : Int32)))]) rfl ?_
        exact ih S126 S2 S y131 (w10 + (1 : Int32)) t128 t2 h
set_option maxHeartbeats 4000000 in
set_option maxRecDepth 100000 in
theorem k_L_days_B149 (l : Launch) (hfl : l.stackTraces = false) (v : Ev) {x9 : P9} {A : Nat → Prop} {E : State → Prop} {X0 Y : va_W} (C : ∀ X, Cx l v RL cL_days 11 (some .boolean) "days" (x9, X, A, E)) (Q : Int32 → Hp → Hp → Hp → Prop) (T : E3 v rm_L_days (Q3i v) Q X0 Y A E x9) (S1 S2 S : Hp) (t1 : g_T S1 = v.2.2.1) (t2 : g_T S2 = v.2.2.1) (w0 : Nat) (w1 : Nat) (w2 : Nat) (w3 : Int32) (w4 : Int32) (w5 : Int32) (w6 : Nat) (w7 : Int32) (h : wp_L_days_B149 Q S1 S2 S w0 w1 w2 w3 w4 w5 w6 w7) : ZZ l v 11 rm_L_days (x9, Y3 v.2.1 Y S1 S2, A, E) 1 24 S 149 [(0, va_rf (some w0)), (1, va_rf (some w1)), (2, va_rf (some w2)), (3, .int w3), (4, .int w4), (5, .int w5), (6, va_rf (some w6)), (7, .int w7)] [] := by
  unfold wp_L_days_B149 at h
  refine z_iconst (C _) (pc := 149) (x := (1 : Int32)) dL_days_149 kic_1 ?_
  refine z_iload (C _) (pc := 150) dL_days_150 4 rfl ?_
  refine z_bipush (C _) (pc := 152) (x := (20 : Int32)) dL_days_152 kbp_20 ?_
  refine z_Si8 (C _) (pc := 154) (KX := fun _ _ => False) (kc' := 1) (ks' := 24) (As := [.int w4, .int (20 : Int32)]) (rest := [.int (1 : Int32)]) (c_L_some l v S w4 (20 : Int32)) mw_L_some bw_101 bw_102 (fit_of rfl) rfl rfl (Nat.le_of_ble_eq_true rfl) dL_days_154 h (fun r113 S112 h => ?_) (fun En S9 h => h.elim)
  refine z_iadd (C _) (pc := 157) dL_days_157 ?_
  refine z_nI h (fun y114 h => ?_)
  refine z_istore (C _) (pc := 158) (lv' := [(7, .int y114), (0, va_rf (some w0)), (1, va_rf (some w1)), (2, va_rf (some w2)), (3, .int w3), (4, .int w4), (5, .int w5), (6, va_rf (some w6))]) dL_days_158 (by decide) rfl ?_
  refine z_aload_n (C _) (pc := 160) dL_days_160 1 rfl ?_
  refine z_aload_n (C _) (pc := 161) dL_days_161 2 rfl ?_
  refine z_bipush (C _) (pc := 162) (x := (6 : Int32)) dL_days_162 kbp_6 ?_
  refine z_iload (C _) (pc := 164) dL_days_164 0 rfl ?_
  refine z_iconst (C _) (pc := 166) (x := (0 : Int32)) dL_days_166 kic_0 ?_
  refine z_iconst (C _) (pc := 167) (x := (0 : Int32)) dL_days_167 kic_0 ?_
  refine z_iconst (C _) (pc := 168) (x := (0 : Int32)) dL_days_168 kic_0 ?_
  refine z_S3i (C []) (pc := 169) (kc' := 93) (ks' := 2964) (As := [va_rf (some w0), va_rf (some w1), .int (6 : Int32), .int y114, .int (0 : Int32), .int (0 : Int32), .int (0 : Int32)]) (rest := []) (c_L_both l hfl v S1 S2 S112 w0 w1 (6 : Int32) y114 (0 : Int32) (0 : Int32) (0 : Int32)) mw_L_both bw_364 bw_365 (fit_of rfl) rfl rfl (Nat.le_of_ble_eq_true rfl) t1 t2 dL_days_169 h (fun r118 S115 S116 S117 t119 t120 h => ?_)
  refine z_istore (C _) (pc := 172) (lv' := [(8, .int r118), (7, .int y114), (0, va_rf (some w0)), (1, va_rf (some w1)), (2, va_rf (some w2)), (3, .int w3), (4, .int w4), (5, .int w5), (6, va_rf (some w6))]) dL_days_172 (by decide) rfl ?_
  refine z_iload (C _) (pc := 174) dL_days_174 0 rfl ?_
  refine z_ldc (C _) (pc := 176) (x := (-2000000003 : Int32)) dL_days_176 bw_778 ?_
  refine z_icmp_ne (C _) (pc := 178) (tgt := 200) dL_days_178 (by decide) h (fun h => ?_) (fun h => ?_)
  · refine z_iload (C _) (pc := 200) dL_days_200 0 rfl ?_
    refine z_iload (C _) (pc := 202) dL_days_202 7 rfl ?_
    refine z_iload (C _) (pc := 204) dL_days_204 1 rfl ?_
    refine z_iadd (C _) (pc := 206) dL_days_206 ?_
    refine z_t_icmp_ne (C _) (pc := 207) dL_days_207 dL_days_210 kic_1 dL_days_211 dL_days_214 kic_0 ?_
    refine z_nI h (fun y121 h => ?_)
    refine z_istore (C _) (pc := 215) (lv' := [(9, .int y121), (8, .int r118), (7, .int y114), (0, va_rf (some w0)), (1, va_rf (some w1)), (2, va_rf (some w2)), (3, .int w3), (4, .int w4), (5, .int w5), (6, va_rf (some w6))]) dL_days_215 (by decide) rfl ?_
    refine z_iconst (C _) (pc := 217) (x := (0 : Int32)) dL_days_217 kic_0 ?_
    refine z_istore (C _) (pc := 218) (lv' := [(10, .int (0 : Int32)), (9, .int y121), (8, .int r118), (7, .int y114), (0, va_rf (some w0)), (1, va_rf (some w1)), (2, va_rf (some w2)), (3, .int w3), (4, .int w4), (5, .int w5), (6, va_rf (some w6))]) dL_days_218 (by decide) rfl ?_
    obtain ⟨n132, h⟩ := h
    refine z_sub [4, 5, 6, 7, 8, 9, 10, 3, 2, 1, 0] (lv' := [(0, va_rf (some w0)), (1, va_rf (some w1)), (2, va_rf (some w2)), (3, .int w3), (4, .int w4), (5, .int w5), (6, va_rf (some w6)), (7, .int y114), (8, .int r118), (9, .int y121), (10, .int (0 : Int32))]) rfl ?_
    exact l_L_days_L220 l hfl v C Q T w0 w1 w2 w3 w4 w5 w6 y114 r118 n132 S115 S116 S117 y121 (0 : Int32) t119 t120 h
  · refine z_iload (C _) (pc := 181) dL_days_181 7 rfl ?_
    refine z_iload (C _) (pc := 183) dL_days_183 1 rfl ?_
    refine z_iadd (C _) (pc := 185) dL_days_185 ?_
    refine z_sipush (C _) (pc := 186) (x := (9999 : Int32)) dL_days_186 ksp_9999 ?_
    refine z_icmp_le (C _) (pc := 189) (tgt := 196) dL_days_189 (by decide) h (fun h => ?_) (fun h => ?_)
    · refine z_iconst (C _) (pc := 196) (x := (0 : Int32)) dL_days_196 kic_0 ?_
      refine z_goto (C _) (pc := 197) (tgt := 215) dL_days_197 (by decide) ?_
      refine z_istore (C _) (pc := 215) (lv' := [(9, .int (0 : Int32)), (8, .int r118), (7, .int y114), (0, va_rf (some w0)), (1, va_rf (some w1)), (2, va_rf (some w2)), (3, .int w3), (4, .int w4), (5, .int w5), (6, va_rf (some w6))]) dL_days_215 (by decide) rfl ?_
      refine z_iconst (C _) (pc := 217) (x := (0 : Int32)) dL_days_217 kic_0 ?_
      refine z_istore (C _) (pc := 218) (lv' := [(10, .int (0 : Int32)), (9, .int (0 : Int32)), (8, .int r118), (7, .int y114), (0, va_rf (some w0)), (1, va_rf (some w1)), (2, va_rf (some w2)), (3, .int w3), (4, .int w4), (5, .int w5), (6, va_rf (some w6))]) dL_days_218 (by decide) rfl ?_
      obtain ⟨n133, h⟩ := h
      refine z_sub [4, 5, 6, 7, 8, 9, 10, 3, 2, 1, 0] (lv' := [(0, va_rf (some w0)), (1, va_rf (some w1)), (2, va_rf (some w2)), (3, .int w3), (4, .int w4), (5, .int w5), (6, va_rf (some w6)), (7, .int y114), (8, .int r118), (9, .int (0 : Int32)), (10, .int (0 : Int32))]) rfl ?_
      exact l_L_days_L220 l hfl v C Q T w0 w1 w2 w3 w4 w5 w6 y114 r118 n133 S115 S116 S117 (0 : Int32) (0 : Int32) t119 t120 h
    · refine z_iconst (C _) (pc := 192) (x := (1 : Int32)) dL_days_192 kic_1 ?_
      refine z_goto (C _) (pc := 193) (tgt := 215) dL_days_193 (by decide) ?_
      refine z_istore (C _) (pc := 215) (lv' := [(9, .int (1 : Int32)), (8, .int r118), (7, .int y114), (0, va_rf (some w0)), (1, va_rf (some w1)), (2, va_rf (some w2)), (3, .int w3), (4, .int w4), (5, .int w5), (6, va_rf (some w6))]) dL_days_215 (by decide) rfl ?_
      refine z_iconst (C _) (pc := 217) (x := (0 : Int32)) dL_days_217 kic_0 ?_
      refine z_istore (C _) (pc := 218) (lv' := [(10, .int (0 : Int32)), (9, .int (1 : Int32)), (8, .int r118), (7, .int y114), (0, va_rf (some w0)), (1, va_rf (some w1)), (2, va_rf (some w2)), (3, .int w3), (4, .int w4), (5, .int w5), (6, va_rf (some w6))]) dL_days_218 (by decide) rfl ?_
      obtain ⟨n134, h⟩ := h
      refine z_sub [4, 5, 6, 7, 8, 9, 10, 3, 2, 1, 0] (lv' := [(0, va_rf (some w0)), (1, va_rf (some w1)), (2, va_rf (some w2)), (3, .int w3), (4, .int w4), (5, .int w5), (6, va_rf (some w6)), (7, .int y114), (8, .int r118), (9, .int (1 : Int32)), (10, .int (0 : Int32))]) rfl ?_
      exact l_L_days_L220 l hfl v C Q T w0 w1 w2 w3 w4 w5 w6 y114 r118 n134 S115 S116 S117 (1 : Int32) (0 : Int32) t119 t120 h
set_option maxHeartbeats 4000000 in
set_option maxRecDepth 100000 in
theorem l_L_days_L123 (l : Launch) (hfl : l.stackTraces = false) (v : Ev) {x9 : P9} {A : Nat → Prop} {E : State → Prop} {X0 Y : va_W} (C : ∀ X, Cx l v RL cL_days 11 (some .boolean) "days" (x9, X, A, E)) (Q : Int32 → Hp → Hp → Hp → Prop) (T : E3 v rm_L_days (Q3i v) Q X0 Y A E x9) (f0 : Nat) (f1 : Nat) (f2 : Nat) (f3 : Int32) (f4 : Int32) (f5 : Int32) (f6 : Nat) : ∀ (n : Nat) (S1 S2 S : Hp) (w7 : Int32), g_T S1 = v.2.2.1 → g_T S2 = v.2.2.1 → wp_L_days_L123 Q f0 f1 f2 f3 f4 f5 f6 n S1 S2 S w7 → ZZ l v 11 rm_L_days (x9, Y3 v.2.1 Y S1 S2, A, E) 1 24 S 123 [(0, va_rf (some f0)), (1, va_rf (some f1)), (2, va_rf (some f2)), (3, .int f3), (4, .int f4), (5, .int f5), (6, va_rf (some f6)), (7, .int w7)] [] := by
  intro n
  induction n with
  | zero =>
    intro S1 S2 S w7 t1 t2 h
    exact h.elim
  | succ n ih =>
    intro S1 S2 S w7 t1 t2 h
    unfold wp_L_days_L123 at h
    refine z_iload (C _) (pc := 123) dL_days_123 7 rfl ?_
    refine z_aload_n (C _) (pc := 125) dL_days_125 2 rfl ?_
    refine z_iconst (C _) (pc := 126) (x := (0 : Int32)) dL_days_126 kic_0 ?_
    obtain ⟨o110, h⟩ := h
    obtain ⟨v111, h⟩ := h
    refine z_iald (C _) (pc := 127) dL_days_127 rfl o110 v111 ?_
    refine z_icmp_ge (C _) (pc := 128) (tgt := 149) dL_days_128 (by decide) h (fun h => ?_) (fun h => ?_)
    · refine z_sub [0, 1, 2, 3, 4, 5, 6, 7] (lv' := [(0, va_rf (some f0)), (1, va_rf (some f1)), (2, va_rf (some f2)), (3, .int f3), (4, .int f4), (5, .int f5), (6, va_rf (some f6)), (7, .int w7)]) rfl ?_
      exact k_L_days_B149 l hfl v C Q T S1 S2 S t1 t2 f0 f1 f2 f3 f4 f5 f6 w7 h
    · refine z_aload (C _) (pc := 131) dL_days_131 6 rfl ?_
      refine z_iload (C _) (pc := 133) dL_days_133 7 rfl ?_
      refine z_aload_n (C _) (pc := 135) dL_days_135 0 rfl ?_
      refine z_iload (C _) (pc := 136) dL_days_136 7 rfl ?_
      refine z_iconst (C _) (pc := 138) (x := (4 : Int32)) dL_days_138 kic_4 ?_
      obtain ⟨o135, h⟩ := h
      refine z_s1 t1 (fun t136 => ?_)
      refine z_Vi (C _) (pc := 139) (KX := fun _ _ => False) (kc' := 1) (ks' := 24) (As := [.int w7, .int (4 : Int32)]) (rest := [.int w7, va_rf (some f6)]) rfl (c_X8_ofChild_n l v S1 f0 w7 (4 : Int32)) mw_X8_ofChild bw_113 bw_114 bw_115 (fit_of rfl) rfl rfl (Nat.le_of_ble_eq_true rfl) (by decide) rfl o135 dL_days_139 h (fun r138 S137 h => ?_) (fun En S9 h => h.elim)
      refine z_s1' t136 (fun t139 => ?_)
      obtain ⟨o140, h⟩ := h
      obtain ⟨v141, h⟩ := h
      refine z_iast (C _) (pc := 142) dL_days_142 rfl o140 v141 ?_
      refine z_lt h (fun S142 h => ?_)
      refine z_iinc (C _) (pc := 143) (y := w7 + (1 : Int32)) (lv' := [(7, .int (w7 + (1 : Int32))), (0, va_rf (some f0)), (1, va_rf (some f1)), (2, va_rf (some f2)), (3, .int f3), (4, .int f4), (5, .int f5), (6, va_rf (some f6))]) dL_days_143 7 rfl rfl (by decide) rfl ?_
      refine z_goto (C _) (pc := 146) (tgt := 123) dL_days_146 (by decide) ?_
      refine z_sub [1, 2, 3, 4, 5, 6, 7, 0] (lv' := [(0, va_rf (some f0)), (1, va_rf (some f1)), (2, va_rf (some f2)), (3, .int f3), (4, .int f4), (5, .int f5), (6, va_rf (some f6)), (7, .int (w7 + (1 : Int32)))]) rfl ?_
      exact ih S137 S2 S142 (w7 + (1 : Int32)) t139 t2 h
set_option maxHeartbeats 4000000 in
set_option maxRecDepth 100000 in
theorem k_L_days_B108 (l : Launch) (hfl : l.stackTraces = false) (v : Ev) {x9 : P9} {A : Nat → Prop} {E : State → Prop} {X0 Y : va_W} (C : ∀ X, Cx l v RL cL_days 11 (some .boolean) "days" (x9, X, A, E)) (Q : Int32 → Hp → Hp → Hp → Prop) (T : E3 v rm_L_days (Q3i v) Q X0 Y A E x9) (S1 S2 S : Hp) (t1 : g_T S1 = v.2.2.1) (t2 : g_T S2 = v.2.2.1) (w0 : Nat) (w1 : Nat) (w2 : Nat) (w3 : Int32) (w4 : Int32) (h : wp_L_days_B108 Q S1 S2 S w0 w1 w2 w3 w4) : ZZ l v 11 rm_L_days (x9, Y3 v.2.1 Y S1 S2, A, E) 0 0 S 108 [(0, va_rf (some w0)), (1, va_rf (some w1)), (2, va_rf (some w2)), (3, .int w3), (4, .int w4)] [] := by
  unfold wp_L_days_B108 at h
  refine z_aload_n (C _) (pc := 108) dL_days_108 0 rfl ?_
  obtain ⟨o103, h⟩ := h
  refine z_s1 t1 (fun t104 => ?_)
  refine z_Vi (C _) (pc := 109) (KX := fun _ _ => False) (kc' := 0) (ks' := 0) (As := []) (rest := []) rfl (c_X8_today l v S1 w0) mw_X8_today bw_108 bw_109 bw_110 (fit_of rfl) rfl rfl (Nat.le_of_ble_eq_true rfl) (by decide) rfl o103 dL_days_109 h (fun r106 S105 h => ?_) (fun En S9 h => h.elim)
  refine z_s1' t104 (fun t107 => ?_)
  refine z_istore (C _) (pc := 112) (lv' := [(5, .int r106), (0, va_rf (some w0)), (1, va_rf (some w1)), (2, va_rf (some w2)), (3, .int w3), (4, .int w4)]) dL_days_112 (by decide) rfl ?_
  refine z_bipush (C _) (pc := 114) (x := (24 : Int32)) dL_days_114 kbp_24 ?_
  refine z_newI (C _) (pc := 116) (kc' := 1) (ks' := 24) (lim := 24) bw_540 dL_days_116 (by decide) (by decide) (by decide) (by decide) (by decide) ⟨by decide, by decide, h⟩ (fun a108 S109 h => ?_)
  refine z_astore (C _) (pc := 118) (lv' := [(6, va_rf (some a108)), (5, .int r106), (0, va_rf (some w0)), (1, va_rf (some w1)), (2, va_rf (some w2)), (3, .int w3), (4, .int w4)]) dL_days_118 (by decide) rfl ?_
  refine z_iconst (C _) (pc := 120) (x := (0 : Int32)) dL_days_120 kic_0 ?_
  refine z_istore (C _) (pc := 121) (lv' := [(7, .int (0 : Int32)), (6, va_rf (some a108)), (5, .int r106), (0, va_rf (some w0)), (1, va_rf (some w1)), (2, va_rf (some w2)), (3, .int w3), (4, .int w4)]) dL_days_121 (by decide) rfl ?_
  obtain ⟨n143, h⟩ := h
  refine z_sub [3, 4, 5, 6, 7, 2, 1, 0] (lv' := [(0, va_rf (some w0)), (1, va_rf (some w1)), (2, va_rf (some w2)), (3, .int w3), (4, .int w4), (5, .int r106), (6, va_rf (some a108)), (7, .int (0 : Int32))]) rfl ?_
  exact l_L_days_L123 l hfl v C Q T w0 w1 w2 w3 w4 r106 a108 n143 S105 S2 S109 (0 : Int32) t107 t2 h
set_option maxHeartbeats 4000000 in
set_option maxRecDepth 100000 in
theorem l_L_days_L56 (l : Launch) (hfl : l.stackTraces = false) (v : Ev) {x9 : P9} {A : Nat → Prop} {E : State → Prop} {X0 Y : va_W} (C : ∀ X, Cx l v RL cL_days 11 (some .boolean) "days" (x9, X, A, E)) (Q : Int32 → Hp → Hp → Hp → Prop) (T : E3 v rm_L_days (Q3i v) Q X0 Y A E x9) (f0 : Nat) (f1 : Nat) (f2 : Nat) (f3 : Int32) (f4 : Int32) (f6 : Int32) : ∀ (n : Nat) (S1 S2 S : Hp) (w5 : Int32) (w7 : Int32), g_T S1 = v.2.2.1 → g_T S2 = v.2.2.1 → wp_L_days_L56 Q f0 f1 f2 f3 f4 f6 n S1 S2 S w5 w7 → ZZ l v 11 rm_L_days (x9, Y3 v.2.1 Y S1 S2, A, E) 92 2940 S 56 [(0, va_rf (some f0)), (1, va_rf (some f1)), (2, va_rf (some f2)), (3, .int f3), (4, .int f4), (5, .int w5), (6, .int f6), (7, .int w7)] [] := by
  intro n
  induction n with
  | zero =>
    intro S1 S2 S w5 w7 t1 t2 h
    exact h.elim
  | succ n ih =>
    intro S1 S2 S w5 w7 t1 t2 h
    unfold wp_L_days_L56 at h
    refine z_iload (C _) (pc := 56) dL_days_56 7 rfl ?_
    refine z_aload_n (C _) (pc := 58) dL_days_58 2 rfl ?_
    refine z_iconst (C _) (pc := 59) (x := (0 : Int32)) dL_days_59 kic_0 ?_
    obtain ⟨o152, h⟩ := h
    obtain ⟨v153, h⟩ := h
    refine z_iald (C _) (pc := 60) dL_days_60 rfl o152 v153 ?_
    refine z_icmp_ge (C _) (pc := 61) (tgt := 84) dL_days_61 (by decide) h (fun h => ?_) (fun h => ?_)
    · refine z_iload (C _) (pc := 84) dL_days_84 6 rfl ?_
      refine z_if_lt (C _) (pc := 86) (tgt := 106) dL_days_86 (by decide) h (fun h => ?_) (fun h => ?_)
      · refine z_iconst (C _) (pc := 106) (x := (0 : Int32)) dL_days_106 kic_0 ?_
        exact z_zret3 (C []) (pc := 107) T t1 t2 dL_days_107 (by decide) (by decide) h
      · refine z_iload (C _) (pc := 89) dL_days_89 6 rfl ?_
        refine z_aload_n (C _) (pc := 91) dL_days_91 2 rfl ?_
        refine z_iconst (C _) (pc := 92) (x := (0 : Int32)) dL_days_92 kic_0 ?_
        obtain ⟨v154, h⟩ := h
        refine z_iald (C _) (pc := 93) dL_days_93 rfl o152 v154 ?_
        refine z_icmp_gt (C _) (pc := 94) (tgt := 106) dL_days_94 (by decide) h (fun h => ?_) (fun h => ?_)
        · refine z_iconst (C _) (pc := 106) (x := (0 : Int32)) dL_days_106 kic_0 ?_
          exact z_zret3 (C []) (pc := 107) T t1 t2 dL_days_107 (by decide) (by decide) h
        · refine z_iload (C _) (pc := 97) dL_days_97 5 rfl ?_
          refine z_t_if_ne (C _) (pc := 99) dL_days_99 dL_days_102 kic_1 dL_days_103 dL_days_106 kic_0 ?_
          exact z_zret3 (C []) (pc := 107) T t1 t2 dL_days_107 (by decide) (by decide) h
    · refine z_iload (C _) (pc := 64) dL_days_64 5 rfl ?_
      refine z_aload_n (C _) (pc := 66) dL_days_66 0 rfl ?_
      refine z_iload (C _) (pc := 67) dL_days_67 7 rfl ?_
      refine z_iconst (C _) (pc := 69) (x := (0 : Int32)) dL_days_69 kic_0 ?_
      obtain ⟨o155, h⟩ := h
      refine z_s1 t1 (fun t156 => ?_)
      refine z_Vi (C _) (pc := 70) (KX := fun _ _ => False) (kc' := 92) (ks' := 2940) (As := [.int w7, .int (0 : Int32)]) (rest := [.int w5]) rfl (c_X8_ofChild_n l v S1 f0 w7 (0 : Int32)) mw_X8_ofChild bw_113 bw_114 bw_115 (fit_of rfl) rfl rfl (Nat.le_of_ble_eq_true rfl) (by decide) rfl o155 dL_days_70 h (fun r158 S157 h => ?_) (fun En S9 h => h.elim)
      refine z_s1' t156 (fun t159 => ?_)
      refine z_iconst (C _) (pc := 73) (x := (1 : Int32)) dL_days_73 kic_1 ?_
      refine z_isub (C _) (pc := 74) dL_days_74 ?_
      refine z_isub (C _) (pc := 75) dL_days_75 ?_
      refine z_nI h (fun y160 h => ?_)
      refine z_istore (C _) (pc := 76) (lv' := [(5, .int y160), (0, va_rf (some f0)), (1, va_rf (some f1)), (2, va_rf (some f2)), (3, .int f3), (4, .int f4), (6, .int f6), (7, .int w7)]) dL_days_76 (by decide) rfl ?_
      refine z_iinc (C _) (pc := 78) (y := w7 + (1 : Int32)) (lv' := [(7, .int (w7 + (1 : Int32))), (5, .int y160), (0, va_rf (some f0)), (1, va_rf (some f1)), (2, va_rf (some f2)), (3, .int f3), (4, .int f4), (6, .int f6)]) dL_days_78 7 rfl rfl (by decide) rfl ?_
      refine z_goto (C _) (pc := 81) (tgt := 56) dL_days_81 (by decide) ?_
      refine z_sub [2, 3, 4, 5, 6, 1, 7, 0] (lv' := [(0, va_rf (some f0)), (1, va_rf (some f1)), (2, va_rf (some f2)), (3, .int f3), (4, .int f4), (5, .int y160), (6, .int f6), (7, .int (w7 + (1 : Int32)))]) rfl ?_
      exact ih S157 S2 S y160 (w7 + (1 : Int32)) t159 t2 h
set_option maxHeartbeats 4000000 in
set_option maxRecDepth 100000 in
theorem l_L_days_L14 (l : Launch) (hfl : l.stackTraces = false) (v : Ev) {x9 : P9} {A : Nat → Prop} {E : State → Prop} {X0 Y : va_W} (C : ∀ X, Cx l v RL cL_days 11 (some .boolean) "days" (x9, X, A, E)) (Q : Int32 → Hp → Hp → Hp → Prop) (T : E3 v rm_L_days (Q3i v) Q X0 Y A E x9) (f0 : Nat) (f1 : Nat) (f2 : Nat) (f3 : Int32) (f4 : Int32) : ∀ (n : Nat) (S1 S2 S : Hp) (w5 : Int32) (w6 : Int32), g_T S1 = v.2.2.1 → g_T S2 = v.2.2.1 → wp_L_days_L14 Q f0 f1 f2 f3 f4 n S1 S2 S w5 w6 → ZZ l v 11 rm_L_days (x9, Y3 v.2.1 Y S1 S2, A, E) 0 0 S 14 [(0, va_rf (some f0)), (1, va_rf (some f1)), (2, va_rf (some f2)), (3, .int f3), (4, .int f4), (5, .int w5), (6, .int w6)] [] := by
  intro n
  induction n with
  | zero =>
    intro S1 S2 S w5 w6 t1 t2 h
    exact h.elim
  | succ n ih =>
    intro S1 S2 S w5 w6 t1 t2 h
    unfold wp_L_days_L14 at h
    refine z_iload (C _) (pc := 14) dL_days_14 6 rfl ?_
    refine z_aload_n (C _) (pc := 16) dL_days_16 2 rfl ?_
    refine z_iconst (C _) (pc := 17) (x := (0 : Int32)) dL_days_17 kic_0 ?_
    obtain ⟨o144, h⟩ := h
    obtain ⟨v145, h⟩ := h
    refine z_iald (C _) (pc := 18) dL_days_18 rfl o144 v145 ?_
    refine z_icmp_ge (C _) (pc := 19) (tgt := 40) dL_days_19 (by decide) h (fun h => ?_) (fun h => ?_)
    · refine z_aload_n (C _) (pc := 40) dL_days_40 0 rfl ?_
      refine z_aload_n (C _) (pc := 41) dL_days_41 1 rfl ?_
      refine z_bipush (C _) (pc := 42) (x := (7 : Int32)) dL_days_42 kbp_7 ?_
      refine z_iconst (C _) (pc := 44) (x := (0 : Int32)) dL_days_44 kic_0 ?_
      refine z_iconst (C _) (pc := 45) (x := (0 : Int32)) dL_days_45 kic_0 ?_
      refine z_iconst (C _) (pc := 46) (x := (0 : Int32)) dL_days_46 kic_0 ?_
      refine z_iconst (C _) (pc := 47) (x := (0 : Int32)) dL_days_47 kic_0 ?_
      refine z_S3i (C []) (pc := 48) (kc' := 92) (ks' := 2940) (As := [va_rf (some f0), va_rf (some f1), .int (7 : Int32), .int (0 : Int32), .int (0 : Int32), .int (0 : Int32), .int (0 : Int32)]) (rest := []) (c_L_both l hfl v S1 S2 S f0 f1 (7 : Int32) (0 : Int32) (0 : Int32) (0 : Int32) (0 : Int32)) mw_L_both bw_364 bw_365 (fit_of rfl) rfl rfl (Nat.le_of_ble_eq_true rfl) t1 t2 dL_days_48 h (fun r149 S146 S147 S148 t150 t151 h => ?_)
      refine z_istore (C _) (pc := 51) (lv' := [(6, .int r149), (0, va_rf (some f0)), (1, va_rf (some f1)), (2, va_rf (some f2)), (3, .int f3), (4, .int f4), (5, .int w5)]) dL_days_51 (by decide) rfl ?_
      refine z_iconst (C _) (pc := 53) (x := (0 : Int32)) dL_days_53 kic_0 ?_
      refine z_istore (C _) (pc := 54) (lv' := [(7, .int (0 : Int32)), (6, .int r149), (0, va_rf (some f0)), (1, va_rf (some f1)), (2, va_rf (some f2)), (3, .int f3), (4, .int f4), (5, .int w5)]) dL_days_54 (by decide) rfl ?_
      obtain ⟨n161, h⟩ := h
      refine z_sub [2, 3, 4, 5, 6, 7, 1, 0] (lv' := [(0, va_rf (some f0)), (1, va_rf (some f1)), (2, va_rf (some f2)), (3, .int f3), (4, .int f4), (5, .int w5), (6, .int r149), (7, .int (0 : Int32))]) rfl ?_
      exact l_L_days_L56 l hfl v C Q T f0 f1 f2 f3 f4 r149 n161 S146 S147 S148 w5 (0 : Int32) t150 t151 h
    · refine z_iload (C _) (pc := 22) dL_days_22 5 rfl ?_
      refine z_aload_n (C _) (pc := 24) dL_days_24 0 rfl ?_
      refine z_iload (C _) (pc := 25) dL_days_25 6 rfl ?_
      refine z_iconst (C _) (pc := 27) (x := (0 : Int32)) dL_days_27 kic_0 ?_
      obtain ⟨o162, h⟩ := h
      refine z_s1 t1 (fun t163 => ?_)
      refine z_Vi (C _) (pc := 28) (KX := fun _ _ => False) (kc' := 0) (ks' := 0) (As := [.int w6, .int (0 : Int32)]) (rest := [.int w5]) rfl (c_X8_ofChild_n l v S1 f0 w6 (0 : Int32)) mw_X8_ofChild bw_113 bw_114 bw_115 (fit_of rfl) rfl rfl (Nat.le_of_ble_eq_true rfl) (by decide) rfl o162 dL_days_28 h (fun r165 S164 h => ?_) (fun En S9 h => h.elim)
      refine z_s1' t163 (fun t166 => ?_)
      refine z_iadd (C _) (pc := 31) dL_days_31 ?_
      refine z_nI h (fun y167 h => ?_)
      refine z_istore (C _) (pc := 32) (lv' := [(5, .int y167), (0, va_rf (some f0)), (1, va_rf (some f1)), (2, va_rf (some f2)), (3, .int f3), (4, .int f4), (6, .int w6)]) dL_days_32 (by decide) rfl ?_
      refine z_iinc (C _) (pc := 34) (y := w6 + (1 : Int32)) (lv' := [(6, .int (w6 + (1 : Int32))), (5, .int y167), (0, va_rf (some f0)), (1, va_rf (some f1)), (2, va_rf (some f2)), (3, .int f3), (4, .int f4)]) dL_days_34 6 rfl rfl (by decide) rfl ?_
      refine z_goto (C _) (pc := 37) (tgt := 14) dL_days_37 (by decide) ?_
      refine z_sub [2, 3, 4, 5, 6, 1, 0] (lv' := [(0, va_rf (some f0)), (1, va_rf (some f1)), (2, va_rf (some f2)), (3, .int f3), (4, .int f4), (5, .int y167), (6, .int (w6 + (1 : Int32)))]) rfl ?_
      exact ih S164 S2 S y167 (w6 + (1 : Int32)) t166 t2 h
set_option maxHeartbeats 4000000 in
set_option maxRecDepth 100000 in
theorem k_L_days_B8 (l : Launch) (hfl : l.stackTraces = false) (v : Ev) {x9 : P9} {A : Nat → Prop} {E : State → Prop} {X0 Y : va_W} (C : ∀ X, Cx l v RL cL_days 11 (some .boolean) "days" (x9, X, A, E)) (Q : Int32 → Hp → Hp → Hp → Prop) (T : E3 v rm_L_days (Q3i v) Q X0 Y A E x9) (S1 S2 S : Hp) (t1 : g_T S1 = v.2.2.1) (t2 : g_T S2 = v.2.2.1) (w0 : Nat) (w1 : Nat) (w2 : Nat) (w3 : Int32) (w4 : Int32) (h : wp_L_days_B8 Q S1 S2 S w0 w1 w2 w3 w4) : ZZ l v 11 rm_L_days (x9, Y3 v.2.1 Y S1 S2, A, E) 0 0 S 8 [(0, va_rf (some w0)), (1, va_rf (some w1)), (2, va_rf (some w2)), (3, .int w3), (4, .int w4)] [] := by
  unfold wp_L_days_B8 at h
  refine z_iconst (C _) (pc := 8) (x := (0 : Int32)) dL_days_8 kic_0 ?_
  refine z_istore (C _) (pc := 9) (lv' := [(5, .int (0 : Int32)), (0, va_rf (some w0)), (1, va_rf (some w1)), (2, va_rf (some w2)), (3, .int w3), (4, .int w4)]) dL_days_9 (by decide) rfl ?_
  refine z_iconst (C _) (pc := 11) (x := (0 : Int32)) dL_days_11 kic_0 ?_
  refine z_istore (C _) (pc := 12) (lv' := [(6, .int (0 : Int32)), (5, .int (0 : Int32)), (0, va_rf (some w0)), (1, va_rf (some w1)), (2, va_rf (some w2)), (3, .int w3), (4, .int w4)]) dL_days_12 (by decide) rfl ?_
  obtain ⟨n168, h⟩ := h
  refine z_sub [2, 3, 4, 5, 6, 1, 0] (lv' := [(0, va_rf (some w0)), (1, va_rf (some w1)), (2, va_rf (some w2)), (3, .int w3), (4, .int w4), (5, .int (0 : Int32)), (6, .int (0 : Int32))]) rfl ?_
  exact l_L_days_L14 l hfl v C Q T w0 w1 w2 w3 w4 n168 S1 S2 S (0 : Int32) (0 : Int32) t1 t2 h
set_option maxHeartbeats 4000000 in
set_option maxRecDepth 100000 in
theorem c_L_days (l : Launch) (hfl : l.stackTraces = false) (v : Ev) (S1 S2 S : Hp) (x0 : Nat) (x1 : Nat) (x2 : Nat) (x3 : Int32) (x4 : Int32) : C3 l v yL_days cL_days 11 (some .boolean) rm_L_days [va_rf (some x0), va_rf (some x1), va_rf (some x2), .int x3, .int x4] S1 S2 S (Q3i v) (fun Q => wp_L_days S1 S2 S x0 x1 x2 x3 x4 Q) := by
  refine z_start3 [(0, va_rf (some x0)), (1, va_rf (some x1)), (2, va_rf (some x2)), (3, .int x3), (4, .int x4)] (by decide +kernel) (by simp only [la_i, la_r, la_n]) (cat_cr (cat_cr (cat_cr (cat_ci (cat_ci cat_nil))))) (by simp only [ls_i, ls_r, ls_n]; decide) (fun x9 A E Y Q h t1 t2 C T => ?_)
  unfold wp_L_days at h
  refine z_iload_n (C _) (pc := 0) dL_days_0 3 rfl ?_
  refine z_iconst (C _) (pc := 1) (x := (3 : Int32)) dL_days_1 kic_3 ?_
  refine z_Si8 (C _) (pc := 2) (KX := fun _ _ => False) (kc' := 0) (ks' := 0) (As := [.int x3, .int (3 : Int32)]) (rest := []) (c_L_some l v S x3 (3 : Int32)) mw_L_some bw_101 bw_102 (fit_of rfl) rfl rfl (Nat.le_of_ble_eq_true rfl) dL_days_2 h (fun r102 S101 h => ?_) (fun En S9 h => h.elim)
  refine z_if_ne (C _) (pc := 5) (tgt := 108) dL_days_5 (by decide) h (fun h => ?_) (fun h => ?_)
  · refine z_sub [0, 1, 2, 3, 4] (lv' := [(0, va_rf (some x0)), (1, va_rf (some x1)), (2, va_rf (some x2)), (3, .int x3), (4, .int x4)]) rfl ?_
    exact k_L_days_B108 l hfl v C Q T S1 S2 S101 t1 t2 x0 x1 x2 x3 x4 h
  · refine z_sub [0, 1, 2, 3, 4] (lv' := [(0, va_rf (some x0)), (1, va_rf (some x1)), (2, va_rf (some x2)), (3, .int x3), (4, .int x4)]) rfl ?_
    exact k_L_days_B8 l hfl v C Q T S1 S2 S101 t1 t2 x0 x1 x2 x3 x4 h
