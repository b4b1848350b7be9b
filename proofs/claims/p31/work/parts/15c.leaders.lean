def wp_L_leaders_B20 (Q : Int32 → Hp → Hp → Hp → Prop) (S1 S2 S : Hp) (w0 : Nat) (w1 : Nat) (w2 : Nat) (w3 : Int32) (w4 : Int32) (w5 : Int32) : Prop :=
  wp_L_both S1 S2 S w0 w1 (8 : Int32) (0 : Int32) (0 : Int32) (0 : Int32) (0 : Int32) (fun r106 S103 S104 S105 => okA S105 11 w2 ∧ (vp_in (2 : Int32) (g_N S105 w2) ∧ (vp_in (2 : Int32) (g_N S105 w2) ∧ (lt (s_R S105 w2 (2 : Int32).toNatClampNeg ((g_R S105 w2 (2 : Int32).toNatClampNeg) + (if r106 < 0 then (0 : Int32) else (1 : Int32)))) (fun S112 => if r106 = (-2000000003 : Int32) then (okA S112 11 w2 ∧ (vp_in (2 : Int32) (g_N S112 w2) ∧ (if (g_R S112 w2 (2 : Int32).toNatClampNeg) = (8 : Int32) then (bz (1 : Int32) (Q (1 : Int32) S103 S104 S112)) else (bz (0 : Int32) (Q (0 : Int32) S103 S104 S112))))) else (okA S112 11 w2 ∧ (vp_in (2 : Int32) (g_N S112 w2) ∧ (bz (if r106 = ((g_R S112 w2 (2 : Int32).toNatClampNeg) - (1 : Int32)) then (1 : Int32) else (0 : Int32)) (Q (if r106 = ((g_R S112 w2 (2 : Int32).toNatClampNeg) - (1 : Int32)) then (1 : Int32) else (0 : Int32)) S103 S104 S112)))))))))
def wp_L_leaders_B239 (Q : Int32 → Hp → Hp → Hp → Prop) (S1 S2 S : Hp) (w0 : Nat) (w1 : Nat) (w2 : Nat) (w3 : Int32) (w4 : Int32) (w5 : Int32) (w6 : Int32) : Prop :=
  wp_L_some S (w4 >>> ((3 : Int32) &&& 31)) (65536 : Int32) (fun r124 S123 => wp_L_both S1 S2 S123 w0 w1 (11 : Int32) w6 r124 (0 : Int32) (0 : Int32) (fun r128 S125 S126 S127 => if r128 < 0 then (bz (0 : Int32) (Q (0 : Int32) S125 S126 S127)) else (wp_L_both S125 S126 S127 w0 w1 (11 : Int32) w6 r124 (0 : Int32) (0 : Int32) (fun r134 S131 S132 S133 => bz (if r134 = r124 then (1 : Int32) else (0 : Int32)) (Q (if r134 = r124 then (1 : Int32) else (0 : Int32)) S131 S132 S133)))))
def wp_L_leaders_B166 (Q : Int32 → Hp → Hp → Hp → Prop) (S1 S2 S : Hp) (w0 : Nat) (w1 : Nat) (w2 : Nat) (w3 : Int32) (w4 : Int32) (w5 : Int32) (w6 : Int32) : Prop :=
  wp_L_some S (w4 >>> ((3 : Int32) &&& 31)) (3 : Int32) (fun r138 S137 => lt ((1 : Int32) + r138) (fun y139 => wp_L_some S137 (w4 >>> ((5 : Int32) &&& 31)) (400 : Int32) (fun r141 S140 => lt (r141 - (1 : Int32)) (fun y142 => wp_L_both S1 S2 S140 w0 w1 (10 : Int32) w6 y139 y142 (0 : Int32) (fun r146 S143 S144 S145 => if r146 < (-1 : Int32) then (bz (0 : Int32) (Q (0 : Int32) S143 S144 S145)) else (wp_L_both S143 S144 S145 w0 w1 (10 : Int32) w6 y139 y142 (0 : Int32) (fun r152 S149 S150 S151 => bz (if r152 = y142 then (1 : Int32) else (0 : Int32)) (Q (if r152 = y142 then (1 : Int32) else (0 : Int32)) S149 S150 S151))))))))
def wp_L_leaders_B105 (Q : Int32 → Hp → Hp → Hp → Prop) (S1 S2 S : Hp) (w0 : Nat) (w1 : Nat) (w2 : Nat) (w3 : Int32) (w4 : Int32) (w5 : Int32) (w6 : Int32) : Prop :=
  wp_L_some S (w4 >>> ((3 : Int32) &&& 31)) (20 : Int32) (fun r156 S155 => wp_L_some S155 (w4 >>> ((6 : Int32) &&& 31)) (3 : Int32) (fun r158 S157 => wp_L_some S157 (w4 >>> ((8 : Int32) &&& 31)) (400 : Int32) (fun r160 S159 => wp_L_both S1 S2 S159 w0 w1 (9 : Int32) w6 r158 r156 (r156 + r160) (fun r164 S161 S162 S163 => bz (if r164 = 0 then (1 : Int32) else (0 : Int32)) (Q (if r164 = 0 then (1 : Int32) else (0 : Int32)) S161 S162 S163)))))
def wp_L_leaders_B88 (Q : Int32 → Hp → Hp → Hp → Prop) (S1 S2 S : Hp) (w0 : Nat) (w1 : Nat) (w2 : Nat) (w3 : Int32) (w4 : Int32) (w5 : Int32) : Prop :=
  okA S 11 w2 ∧ (vp_in (2 : Int32) (g_N S w2) ∧ (wp_L_some S w4 (g_R S w2 (2 : Int32).toNatClampNeg) (fun r122 S121 => if (6 : Int32) ≤ w5 then (if (8 : Int32) ≤ w5 then (wp_L_leaders_B239 Q S1 S2 S121 w0 w1 w2 w3 w4 w5 r122) else (wp_L_leaders_B166 Q S1 S2 S121 w0 w1 w2 w3 w4 w5 r122)) else (wp_L_leaders_B105 Q S1 S2 S121 w0 w1 w2 w3 w4 w5 r122))))
def wp_L_leaders (S1 S2 S : Hp) (x0 : Nat) (x1 : Nat) (x2 : Nat) (x3 : Int32) (x4 : Int32) (Q : Int32 → Hp → Hp → Hp → Prop) : Prop :=
  wp_L_some S x3 (10 : Int32) (fun r102 S101 => if r102 < (2 : Int32) then (wp_L_leaders_B20 Q S1 S2 S101 x0 x1 x2 x3 x4 r102) else (okA S101 11 x2 ∧ (vp_in (2 : Int32) (g_N S101 x2) ∧ (if (g_R S101 x2 (2 : Int32).toNatClampNeg) = 0 then (wp_L_leaders_B20 Q S1 S2 S101 x0 x1 x2 x3 x4 r102) else (wp_L_leaders_B88 Q S1 S2 S101 x0 x1 x2 x3 x4 r102)))))
def rm_L_leaders : Room := { frames := 12, cells := 184, slots := 5880, locals := 356 }
set_option maxHeartbeats 4000000 in
set_option maxRecDepth 100000 in
theorem k_L_leaders_B20 (l : Launch) (hfl : l.stackTraces = false) (v : Ev) {x9 : P9} {A : Nat → Prop} {E : State → Prop} {X0 Y : va_W} (C : ∀ X, Cx l v RL cL_leaders 10 (some .boolean) "leaders" (x9, X, A, E)) (Q : Int32 → Hp → Hp → Hp → Prop) (T : E3 v rm_L_leaders (Q3i v) Q X0 Y A E x9) (S1 S2 S : Hp) (t1 : g_T S1 = v.2.2.1) (t2 : g_T S2 = v.2.2.1) (w0 : Nat) (w1 : Nat) (w2 : Nat) (w3 : Int32) (w4 : Int32) (w5 : Int32) (h : wp_L_leaders_B20 Q S1 S2 S w0 w1 w2 w3 w4 w5) : ZZ l v 10 rm_L_leaders (x9, Y3 v.2.1 Y S1 S2, A, E) 0 0 S 20 [(0, va_rf (some w0)), (1, va_rf (some w1)), (2, va_rf (some w2)), (3, .int w3), (4, .int w4), (5, .int w5)] [] := by
  unfold wp_L_leaders_B20 at h
  refine z_aload_n (C _) (pc := 20) dL_leaders_20 0 rfl ?_
  refine z_aload_n (C _) (pc := 21) dL_leaders_21 1 rfl ?_
  refine z_bipush (C _) (pc := 22) (x := (8 : Int32)) dL_leaders_22 kbp_8 ?_
  refine z_iconst (C _) (pc := 24) (x := (0 : Int32)) dL_leaders_24 kic_0 ?_
  refine z_iconst (C _) (pc := 25) (x := (0 : Int32)) dL_leaders_25 kic_0 ?_
  refine z_iconst (C _) (pc := 26) (x := (0 : Int32)) dL_leaders_26 kic_0 ?_
  refine z_iconst (C _) (pc := 27) (x := (0 : Int32)) dL_leaders_27 kic_0 ?_
  refine z_S3i (C []) (pc := 28) (kc' := 92) (ks' := 2940) (As := [va_rf (some w0), va_rf (some w1), .int (8 : Int32), .int (0 : Int32), .int (0 : Int32), .int (0 : Int32), .int (0 : Int32)]) (rest := []) (c_L_both l hfl v S1 S2 S w0 w1 (8 : Int32) (0 : Int32) (0 : Int32) (0 : Int32) (0 : Int32)) mw_L_both bw_364 bw_365 (fit_of rfl) rfl rfl (Nat.le_of_ble_eq_true rfl) t1 t2 dL_leaders_28 h (fun r106 S103 S104 S105 t107 t108 h => ?_)
  refine z_istore (C _) (pc := 31) (lv' := [(6, .int r106), (0, va_rf (some w0)), (1, va_rf (some w1)), (2, va_rf (some w2)), (3, .int w3), (4, .int w4), (5, .int w5)]) dL_leaders_31 (by decide) rfl ?_
  refine z_aload_n (C _) (pc := 33) dL_leaders_33 3 rfl ?_
  refine z_iconst (C _) (pc := 34) (x := (2 : Int32)) dL_leaders_34 kic_2 ?_
  refine z_dup2 (C _) (pc := 35) dL_leaders_35 rfl (cat_rf _) ?_
  obtain ⟨o109, h⟩ := h
  obtain ⟨v110, h⟩ := h
  refine z_iald (C _) (pc := 36) dL_leaders_36 rfl o109 v110 ?_
  refine z_iload (C _) (pc := 37) dL_leaders_37 0 rfl ?_
  refine z_t_if_lt (C _) (pc := 39) dL_leaders_39 dL_leaders_42 kic_1 dL_leaders_43 dL_leaders_46 kic_0 ?_
  refine z_iadd (C _) (pc := 47) dL_leaders_47 ?_
  obtain ⟨v111, h⟩ := h
  refine z_iast (C _) (pc := 48) dL_leaders_48 rfl o109 v111 ?_
  refine z_lt h (fun S112 h => ?_)
  refine z_iload (C _) (pc := 49) dL_leaders_49 0 rfl ?_
  refine z_ldc (C _) (pc := 51) (x := (-2000000003 : Int32)) dL_leaders_51 bw_778 ?_
  refine z_icmp_ne (C _) (pc := 53) (tgt := 72) dL_leaders_53 (by decide) h (fun h => ?_) (fun h => ?_)
  · refine z_iload (C _) (pc := 72) dL_leaders_72 0 rfl ?_
    refine z_aload_n (C _) (pc := 74) dL_leaders_74 3 rfl ?_
    refine z_iconst (C _) (pc := 75) (x := (2 : Int32)) dL_leaders_75 kic_2 ?_
    obtain ⟨o113, h⟩ := h
    obtain ⟨v114, h⟩ := h
    refine z_iald (C _) (pc := 76) dL_leaders_76 rfl o113 v114 ?_
    refine z_iconst (C _) (pc := 77) (x := (1 : Int32)) dL_leaders_77 kic_1 ?_
    refine z_isub (C _) (pc := 78) dL_leaders_78 ?_
    refine z_t_icmp_ne (C _) (pc := 79) dL_leaders_79 dL_leaders_82 kic_1 dL_leaders_83 dL_leaders_86 kic_0 ?_
    exact z_zret3 (C []) (pc := 87) T t107 t108 dL_leaders_87 (by decide) (by decide) h
  · refine z_aload_n (C _) (pc := 56) dL_leaders_56 3 rfl ?_
    refine z_iconst (C _) (pc := 57) (x := (2 : Int32)) dL_leaders_57 kic_2 ?_
    obtain ⟨o115, h⟩ := h
    obtain ⟨v116, h⟩ := h
    refine z_iald (C _) (pc := 58) dL_leaders_58 rfl o115 v116 ?_
    refine z_bipush (C _) (pc := 59) (x := (8 : Int32)) dL_leaders_59 kbp_8 ?_
    refine z_icmp_ne (C _) (pc := 61) (tgt := 68) dL_leaders_61 (by decide) h (fun h => ?_) (fun h => ?_)
    · refine z_iconst (C _) (pc := 68) (x := (0 : Int32)) dL_leaders_68 kic_0 ?_
      refine z_goto (C _) (pc := 69) (tgt := 87) dL_leaders_69 (by decide) ?_
      exact z_zret3 (C []) (pc := 87) T t107 t108 dL_leaders_87 (by decide) (by decide) h
    · refine z_iconst (C _) (pc := 64) (x := (1 : Int32)) dL_leaders_64 kic_1 ?_
      refine z_goto (C _) (pc := 65) (tgt := 87) dL_leaders_65 (by decide) ?_
      exact z_zret3 (C []) (pc := 87) T t107 t108 dL_leaders_87 (by decide) (by decide) h
set_option maxHeartbeats 4000000 in
set_option maxRecDepth 100000 in
theorem k_L_leaders_B239 (l : Launch) (hfl : l.stackTraces = false) (v : Ev) {x9 : P9} {A : Nat → Prop} {E : State → Prop} {X0 Y : va_W} (C : ∀ X, Cx l v RL cL_leaders 10 (some .boolean) "leaders" (x9, X, A, E)) (Q : Int32 → Hp → Hp → Hp → Prop) (T : E3 v rm_L_leaders (Q3i v) Q X0 Y A E x9) (S1 S2 S : Hp) (t1 : g_T S1 = v.2.2.1) (t2 : g_T S2 = v.2.2.1) (w0 : Nat) (w1 : Nat) (w2 : Nat) (w3 : Int32) (w4 : Int32) (w5 : Int32) (w6 : Int32) (h : wp_L_leaders_B239 Q S1 S2 S w0 w1 w2 w3 w4 w5 w6) : ZZ l v 10 rm_L_leaders (x9, Y3 v.2.1 Y S1 S2, A, E) 0 0 S 239 [(0, va_rf (some w0)), (1, va_rf (some w1)), (2, va_rf (some w2)), (3, .int w3), (4, .int w4), (5, .int w5), (6, .int w6)] [] := by
  unfold wp_L_leaders_B239 at h
  refine z_iload (C _) (pc := 239) dL_leaders_239 4 rfl ?_
  refine z_iconst (C _) (pc := 241) (x := (3 : Int32)) dL_leaders_241 kic_3 ?_
  refine z_ishr (C _) (pc := 242) dL_leaders_242 ?_
  refine z_ldc (C _) (pc := 243) (x := (65536 : Int32)) dL_leaders_243 bw_828 ?_
  refine z_Si8 (C _) (pc := 245) (KX := fun _ _ => False) (kc' := 0) (ks' := 0) (As := [.int (w4 >>> ((3 : Int32) &&& 31)), .int (65536 : Int32)]) (rest := []) (c_L_some l v S (w4 >>> ((3 : Int32) &&& 31)) (65536 : Int32)) mw_L_some bw_101 bw_102 (fit_of rfl) rfl rfl (Nat.le_of_ble_eq_true rfl) dL_leaders_245 h (fun r124 S123 h => ?_) (fun En S9 h => h.elim)
  refine z_istore (C _) (pc := 248) (lv' := [(7, .int r124), (0, va_rf (some w0)), (1, va_rf (some w1)), (2, va_rf (some w2)), (3, .int w3), (4, .int w4), (5, .int w5), (6, .int w6)]) dL_leaders_248 (by decide) rfl ?_
  refine z_aload_n (C _) (pc := 250) dL_leaders_250 1 rfl ?_
  refine z_aload_n (C _) (pc := 251) dL_leaders_251 2 rfl ?_
  refine z_bipush (C _) (pc := 252) (x := (11 : Int32)) dL_leaders_252 kbp_11 ?_
  refine z_iload (C _) (pc := 254) dL_leaders_254 7 rfl ?_
  refine z_iload (C _) (pc := 256) dL_leaders_256 0 rfl ?_
  refine z_iconst (C _) (pc := 258) (x := (0 : Int32)) dL_leaders_258 kic_0 ?_
  refine z_iconst (C _) (pc := 259) (x := (0 : Int32)) dL_leaders_259 kic_0 ?_
  refine z_S3i (C []) (pc := 260) (kc' := 92) (ks' := 2940) (As := [va_rf (some w0), va_rf (some w1), .int (11 : Int32), .int w6, .int r124, .int (0 : Int32), .int (0 : Int32)]) (rest := []) (c_L_both l hfl v S1 S2 S123 w0 w1 (11 : Int32) w6 r124 (0 : Int32) (0 : Int32)) mw_L_both bw_364 bw_365 (fit_of rfl) rfl rfl (Nat.le_of_ble_eq_true rfl) t1 t2 dL_leaders_260 h (fun r128 S125 S126 S127 t129 t130 h => ?_)
  refine z_if_lt (C _) (pc := 263) (tgt := 288) dL_leaders_263 (by decide) h (fun h => ?_) (fun h => ?_)
  · refine z_iconst (C _) (pc := 288) (x := (0 : Int32)) dL_leaders_288 kic_0 ?_
    exact z_zret3 (C []) (pc := 289) T t129 t130 dL_leaders_289 (by decide) (by decide) h
  · refine z_aload_n (C _) (pc := 266) dL_leaders_266 1 rfl ?_
    refine z_aload_n (C _) (pc := 267) dL_leaders_267 2 rfl ?_
    refine z_bipush (C _) (pc := 268) (x := (11 : Int32)) dL_leaders_268 kbp_11 ?_
    refine z_iload (C _) (pc := 270) dL_leaders_270 7 rfl ?_
    refine z_iload (C _) (pc := 272) dL_leaders_272 0 rfl ?_
    refine z_iconst (C _) (pc := 274) (x := (0 : Int32)) dL_leaders_274 kic_0 ?_
    refine z_iconst (C _) (pc := 275) (x := (0 : Int32)) dL_leaders_275 kic_0 ?_
    refine z_S3i (C []) (pc := 276) (kc' := 184) (ks' := 5880) (As := [va_rf (some w0), va_rf (some w1), .int (11 : Int32), .int w6, .int r124, .int (0 : Int32), .int (0 : Int32)]) (rest := []) (c_L_both l hfl v S125 S126 S127 w0 w1 (11 : Int32) w6 r124 (0 : Int32) (0 : Int32)) mw_L_both bw_364 bw_365 (fit_of rfl) rfl rfl (Nat.le_of_ble_eq_true rfl) t129 t130 dL_leaders_276 h (fun r134 S131 S132 S133 t135 t136 h => ?_)
    refine z_iload (C _) (pc := 279) dL_leaders_279 0 rfl ?_
    refine z_t_icmp_ne (C _) (pc := 281) dL_leaders_281 dL_leaders_284 kic_1 dL_leaders_285 dL_leaders_288 kic_0 ?_
    exact z_zret3 (C []) (pc := 289) T t135 t136 dL_leaders_289 (by decide) (by decide) h
set_option maxHeartbeats 4000000 in
set_option maxRecDepth 100000 in
theorem k_L_leaders_B166 (l : Launch) (hfl : l.stackTraces = false) (v : Ev) {x9 : P9} {A : Nat → Prop} {E : State → Prop} {X0 Y : va_W} (C : ∀ X, Cx l v RL cL_leaders 10 (some .boolean) "leaders" (x9, X, A, E)) (Q : Int32 → Hp → Hp → Hp → Prop) (T : E3 v rm_L_leaders (Q3i v) Q X0 Y A E x9) (S1 S2 S : Hp) (t1 : g_T S1 = v.2.2.1) (t2 : g_T S2 = v.2.2.1) (w0 : Nat) (w1 : Nat) (w2 : Nat) (w3 : Int32) (w4 : Int32) (w5 : Int32) (w6 : Int32) (h : wp_L_leaders_B166 Q S1 S2 S w0 w1 w2 w3 w4 w5 w6) : ZZ l v 10 rm_L_leaders (x9, Y3 v.2.1 Y S1 S2, A, E) 0 0 S 166 [(0, va_rf (some w0)), (1, va_rf (some w1)), (2, va_rf (some w2)), (3, .int w3), (4, .int w4), (5, .int w5), (6, .int w6)] [] := by
  unfold wp_L_leaders_B166 at h
  refine z_iconst (C _) (pc := 166) (x := (1 : Int32)) dL_leaders_166 kic_1 ?_
  refine z_iload (C _) (pc := 167) dL_leaders_167 4 rfl ?_
  refine z_iconst (C _) (pc := 169) (x := (3 : Int32)) dL_leaders_169 kic_3 ?_
  refine z_ishr (C _) (pc := 170) dL_leaders_170 ?_
  refine z_iconst (C _) (pc := 171) (x := (3 : Int32)) dL_leaders_171 kic_3 ?_
  refine z_Si8 (C _) (pc := 172) (KX := fun _ _ => False) (kc' := 0) (ks' := 0) (As := [.int (w4 >>> ((3 : Int32) &&& 31)), .int (3 : Int32)]) (rest := [.int (1 : Int32)]) (c_L_some l v S (w4 >>> ((3 : Int32) &&& 31)) (3 : Int32)) mw_L_some bw_101 bw_102 (fit_of rfl) rfl rfl (Nat.le_of_ble_eq_true rfl) dL_leaders_172 h (fun r138 S137 h => ?_) (fun En S9 h => h.elim)
  refine z_iadd (C _) (pc := 175) dL_leaders_175 ?_
  refine z_nI h (fun y139 h => ?_)
  refine z_istore (C _) (pc := 176) (lv' := [(7, .int y139), (0, va_rf (some w0)), (1, va_rf (some w1)), (2, va_rf (some w2)), (3, .int w3), (4, .int w4), (5, .int w5), (6, .int w6)]) dL_leaders_176 (by decide) rfl ?_
  refine z_iload (C _) (pc := 178) dL_leaders_178 5 rfl ?_
  refine z_iconst (C _) (pc := 180) (x := (5 : Int32)) dL_leaders_180 kic_5 ?_
  refine z_ishr (C _) (pc := 181) dL_leaders_181 ?_
  refine z_sipush (C _) (pc := 182) (x := (400 : Int32)) dL_leaders_182 ksp_400 ?_
  refine z_Si8 (C _) (pc := 185) (KX := fun _ _ => False) (kc' := 0) (ks' := 0) (As := [.int (w4 >>> ((5 : Int32) &&& 31)), .int (400 : Int32)]) (rest := []) (c_L_some l v S137 (w4 >>> ((5 : Int32) &&& 31)) (400 : Int32)) mw_L_some bw_101 bw_102 (fit_of rfl) rfl rfl (Nat.le_of_ble_eq_true rfl) dL_leaders_185 h (fun r141 S140 h => ?_) (fun En S9 h => h.elim)
  refine z_iconst (C _) (pc := 188) (x := (1 : Int32)) dL_leaders_188 kic_1 ?_
  refine z_isub (C _) (pc := 189) dL_leaders_189 ?_
  refine z_nI h (fun y142 h => ?_)
  refine z_istore (C _) (pc := 190) (lv' := [(8, .int y142), (7, .int y139), (0, va_rf (some w0)), (1, va_rf (some w1)), (2, va_rf (some w2)), (3, .int w3), (4, .int w4), (5, .int w5), (6, .int w6)]) dL_leaders_190 (by decide) rfl ?_
  refine z_aload_n (C _) (pc := 192) dL_leaders_192 2 rfl ?_
  refine z_aload_n (C _) (pc := 193) dL_leaders_193 3 rfl ?_
  refine z_bipush (C _) (pc := 194) (x := (10 : Int32)) dL_leaders_194 kbp_10 ?_
  refine z_iload (C _) (pc := 196) dL_leaders_196 8 rfl ?_
  refine z_iload (C _) (pc := 198) dL_leaders_198 1 rfl ?_
  refine z_iload (C _) (pc := 200) dL_leaders_200 0 rfl ?_
  refine z_iconst (C _) (pc := 202) (x := (0 : Int32)) dL_leaders_202 kic_0 ?_
  refine z_S3i (C []) (pc := 203) (kc' := 92) (ks' := 2940) (As := [va_rf (some w0), va_rf (some w1), .int (10 : Int32), .int w6, .int y139, .int y142, .int (0 : Int32)]) (rest := []) (c_L_both l hfl v S1 S2 S140 w0 w1 (10 : Int32) w6 y139 y142 (0 : Int32)) mw_L_both bw_364 bw_365 (fit_of rfl) rfl rfl (Nat.le_of_ble_eq_true rfl) t1 t2 dL_leaders_203 h (fun r146 S143 S144 S145 t147 t148 h => ?_)
  refine z_istore (C _) (pc := 206) (lv' := [(9, .int r146), (8, .int y142), (7, .int y139), (0, va_rf (some w0)), (1, va_rf (some w1)), (2, va_rf (some w2)), (3, .int w3), (4, .int w4), (5, .int w5), (6, .int w6)]) dL_leaders_206 (by decide) rfl ?_
  refine z_iload (C _) (pc := 208) dL_leaders_208 0 rfl ?_
  refine z_iconst (C _) (pc := 210) (x := (-1 : Int32)) dL_leaders_210 kic_m1 ?_
  refine z_icmp_lt (C _) (pc := 211) (tgt := 237) dL_leaders_211 (by decide) h (fun h => ?_) (fun h => ?_)
  · refine z_iconst (C _) (pc := 237) (x := (0 : Int32)) dL_leaders_237 kic_0 ?_
    exact z_zret3 (C []) (pc := 238) T t147 t148 dL_leaders_238 (by decide) (by decide) h
  · refine z_aload_n (C _) (pc := 214) dL_leaders_214 3 rfl ?_
    refine z_aload_n (C _) (pc := 215) dL_leaders_215 4 rfl ?_
    refine z_bipush (C _) (pc := 216) (x := (10 : Int32)) dL_leaders_216 kbp_10 ?_
    refine z_iload (C _) (pc := 218) dL_leaders_218 9 rfl ?_
    refine z_iload (C _) (pc := 220) dL_leaders_220 2 rfl ?_
    refine z_iload (C _) (pc := 222) dL_leaders_222 1 rfl ?_
    refine z_iconst (C _) (pc := 224) (x := (0 : Int32)) dL_leaders_224 kic_0 ?_
    refine z_S3i (C []) (pc := 225) (kc' := 184) (ks' := 5880) (As := [va_rf (some w0), va_rf (some w1), .int (10 : Int32), .int w6, .int y139, .int y142, .int (0 : Int32)]) (rest := []) (c_L_both l hfl v S143 S144 S145 w0 w1 (10 : Int32) w6 y139 y142 (0 : Int32)) mw_L_both bw_364 bw_365 (fit_of rfl) rfl rfl (Nat.le_of_ble_eq_true rfl) t147 t148 dL_leaders_225 h (fun r152 S149 S150 S151 t153 t154 h => ?_)
    refine z_iload (C _) (pc := 228) dL_leaders_228 1 rfl ?_
    refine z_t_icmp_ne (C _) (pc := 230) dL_leaders_230 dL_leaders_233 kic_1 dL_leaders_234 dL_leaders_237 kic_0 ?_
    exact z_zret3 (C []) (pc := 238) T t153 t154 dL_leaders_238 (by decide) (by decide) h
set_option maxHeartbeats 4000000 in
set_option maxRecDepth 100000 in
theorem k_L_leaders_B105 (l : Launch) (hfl : l.stackTraces = false) (v : Ev) {x9 : P9} {A : Nat → Prop} {E : State → Prop} {X0 Y : va_W} (C : ∀ X, Cx l v RL cL_leaders 10 (some .boolean) "leaders" (x9, X, A, E)) (Q : Int32 → Hp → Hp → Hp → Prop) (T : E3 v rm_L_leaders (Q3i v) Q X0 Y A E x9) (S1 S2 S : Hp) (t1 : g_T S1 = v.2.2.1) (t2 : g_T S2 = v.2.2.1) (w0 : Nat) (w1 : Nat) (w2 : Nat) (w3 : Int32) (w4 : Int32) (w5 : Int32) (w6 : Int32) (h : wp_L_leaders_B105 Q S1 S2 S w0 w1 w2 w3 w4 w5 w6) : ZZ l v 10 rm_L_leaders (x9, Y3 v.2.1 Y S1 S2, A, E) 0 0 S 105 [(0, va_rf (some w0)), (1, va_rf (some w1)), (2, va_rf (some w2)), (3, .int w3), (4, .int w4), (5, .int w5), (6, .int w6)] [] := by
  unfold wp_L_leaders_B105 at h
  refine z_iload (C _) (pc := 105) dL_leaders_105 4 rfl ?_
  refine z_iconst (C _) (pc := 107) (x := (3 : Int32)) dL_leaders_107 kic_3 ?_
  refine z_ishr (C _) (pc := 108) dL_leaders_108 ?_
  refine z_bipush (C _) (pc := 109) (x := (20 : Int32)) dL_leaders_109 kbp_20 ?_
  refine z_Si8 (C _) (pc := 111) (KX := fun _ _ => False) (kc' := 0) (ks' := 0) (As := [.int (w4 >>> ((3 : Int32) &&& 31)), .int (20 : Int32)]) (rest := []) (c_L_some l v S (w4 >>> ((3 : Int32) &&& 31)) (20 : Int32)) mw_L_some bw_101 bw_102 (fit_of rfl) rfl rfl (Nat.le_of_ble_eq_true rfl) dL_leaders_111 h (fun r156 S155 h => ?_) (fun En S9 h => h.elim)
  refine z_istore (C _) (pc := 114) (lv' := [(7, .int r156), (0, va_rf (some w0)), (1, va_rf (some w1)), (2, va_rf (some w2)), (3, .int w3), (4, .int w4), (5, .int w5), (6, .int w6)]) dL_leaders_114 (by decide) rfl ?_
  refine z_aload_n (C _) (pc := 116) dL_leaders_116 1 rfl ?_
  refine z_aload_n (C _) (pc := 117) dL_leaders_117 2 rfl ?_
  refine z_bipush (C _) (pc := 118) (x := (9 : Int32)) dL_leaders_118 kbp_9 ?_
  refine z_iload (C _) (pc := 120) dL_leaders_120 7 rfl ?_
  refine z_iload (C _) (pc := 122) dL_leaders_122 5 rfl ?_
  refine z_bipush (C _) (pc := 124) (x := (6 : Int32)) dL_leaders_124 kbp_6 ?_
  refine z_ishr (C _) (pc := 126) dL_leaders_126 ?_
  refine z_iconst (C _) (pc := 127) (x := (3 : Int32)) dL_leaders_127 kic_3 ?_
  refine z_Si8 (C _) (pc := 128) (KX := fun _ _ => False) (kc' := 0) (ks' := 0) (As := [.int (w4 >>> ((6 : Int32) &&& 31)), .int (3 : Int32)]) (rest := [.int w6, .int (9 : Int32), va_rf (some w1), va_rf (some w0)]) (c_L_some l v S155 (w4 >>> ((6 : Int32) &&& 31)) (3 : Int32)) mw_L_some bw_101 bw_102 (fit_of rfl) rfl rfl (Nat.le_of_ble_eq_true rfl) dL_leaders_128 h (fun r158 S157 h => ?_) (fun En S9 h => h.elim)
  refine z_iload (C _) (pc := 131) dL_leaders_131 0 rfl ?_
  refine z_iload (C _) (pc := 133) dL_leaders_133 0 rfl ?_
  refine z_iload (C _) (pc := 135) dL_leaders_135 5 rfl ?_
  refine z_bipush (C _) (pc := 137) (x := (8 : Int32)) dL_leaders_137 kbp_8 ?_
  refine z_ishr (C _) (pc := 139) dL_leaders_139 ?_
  refine z_sipush (C _) (pc := 140) (x := (400 : Int32)) dL_leaders_140 ksp_400 ?_
  refine z_Si8 (C _) (pc := 143) (KX := fun _ _ => False) (kc' := 0) (ks' := 0) (As := [.int (w4 >>> ((8 : Int32) &&& 31)), .int (400 : Int32)]) (rest := [.int r156, .int r156, .int r158, .int w6, .int (9 : Int32), va_rf (some w1), va_rf (some w0)]) (c_L_some l v S157 (w4 >>> ((8 : Int32) &&& 31)) (400 : Int32)) mw_L_some bw_101 bw_102 (fit_of rfl) rfl rfl (Nat.le_of_ble_eq_true rfl) dL_leaders_143 h (fun r160 S159 h => ?_) (fun En S9 h => h.elim)
  refine z_iadd (C _) (pc := 146) dL_leaders_146 ?_
  refine z_S3i (C []) (pc := 147) (kc' := 92) (ks' := 2940) (As := [va_rf (some w0), va_rf (some w1), .int (9 : Int32), .int w6, .int r158, .int r156, .int (r156 + r160)]) (rest := []) (c_L_both l hfl v S1 S2 S159 w0 w1 (9 : Int32) w6 r158 r156 (r156 + r160)) mw_L_both bw_364 bw_365 (fit_of rfl) rfl rfl (Nat.le_of_ble_eq_true rfl) t1 t2 dL_leaders_147 h (fun r164 S161 S162 S163 t165 t166 h => ?_)
  refine z_t_if_ne (C _) (pc := 150) dL_leaders_150 dL_leaders_153 kic_1 dL_leaders_154 dL_leaders_157 kic_0 ?_
  exact z_zret3 (C []) (pc := 158) T t165 t166 dL_leaders_158 (by decide) (by decide) h
set_option maxHeartbeats 4000000 in
set_option maxRecDepth 100000 in
theorem k_L_leaders_B88 (l : Launch) (hfl : l.stackTraces = false) (v : Ev) {x9 : P9} {A : Nat → Prop} {E : State → Prop} {X0 Y : va_W} (C : ∀ X, Cx l v RL cL_leaders 10 (some .boolean) "leaders" (x9, X, A, E)) (Q : Int32 → Hp → Hp → Hp → Prop) (T : E3 v rm_L_leaders (Q3i v) Q X0 Y A E x9) (S1 S2 S : Hp) (t1 : g_T S1 = v.2.2.1) (t2 : g_T S2 = v.2.2.1) (w0 : Nat) (w1 : Nat) (w2 : Nat) (w3 : Int32) (w4 : Int32) (w5 : Int32) (h : wp_L_leaders_B88 Q S1 S2 S w0 w1 w2 w3 w4 w5) : ZZ l v 10 rm_L_leaders (x9, Y3 v.2.1 Y S1 S2, A, E) 0 0 S 88 [(0, va_rf (some w0)), (1, va_rf (some w1)), (2, va_rf (some w2)), (3, .int w3), (4, .int w4), (5, .int w5)] [] := by
  unfold wp_L_leaders_B88 at h
  refine z_iload (C _) (pc := 88) dL_leaders_88 4 rfl ?_
  refine z_aload_n (C _) (pc := 90) dL_leaders_90 2 rfl ?_
  refine z_iconst (C _) (pc := 91) (x := (2 : Int32)) dL_leaders_91 kic_2 ?_
  obtain ⟨o119, h⟩ := h
  obtain ⟨v120, h⟩ := h
  refine z_iald (C _) (pc := 92) dL_leaders_92 rfl o119 v120 ?_
  refine z_Si8 (C _) (pc := 93) (KX := fun _ _ => False) (kc' := 0) (ks' := 0) (As := [.int w4, .int (g_R S w2 (2 : Int32).toNatClampNeg)]) (rest := []) (c_L_some l v S w4 (g_R S w2 (2 : Int32).toNatClampNeg)) mw_L_some bw_101 bw_102 (fit_of rfl) rfl rfl (Nat.le_of_ble_eq_true rfl) dL_leaders_93 h (fun r122 S121 h => ?_) (fun En S9 h => h.elim)
  refine z_istore (C _) (pc := 96) (lv' := [(6, .int r122), (0, va_rf (some w0)), (1, va_rf (some w1)), (2, va_rf (some w2)), (3, .int w3), (4, .int w4), (5, .int w5)]) dL_leaders_96 (by decide) rfl ?_
  refine z_iload (C _) (pc := 98) dL_leaders_98 6 rfl ?_
  refine z_bipush (C _) (pc := 100) (x := (6 : Int32)) dL_leaders_100 kbp_6 ?_
  refine z_icmp_ge (C _) (pc := 102) (tgt := 159) dL_leaders_102 (by decide) h (fun h => ?_) (fun h => ?_)
  · refine z_iload (C _) (pc := 159) dL_leaders_159 6 rfl ?_
    refine z_bipush (C _) (pc := 161) (x := (8 : Int32)) dL_leaders_161 kbp_8 ?_
    refine z_icmp_ge (C _) (pc := 163) (tgt := 239) dL_leaders_163 (by decide) h (fun h => ?_) (fun h => ?_)
    · refine z_sub [1, 2, 3, 4, 5, 6, 0] (lv' := [(0, va_rf (some w0)), (1, va_rf (some w1)), (2, va_rf (some w2)), (3, .int w3), (4, .int w4), (5, .int w5), (6, .int r122)]) rfl ?_
      exact k_L_leaders_B239 l hfl v C Q T S1 S2 S121 t1 t2 w0 w1 w2 w3 w4 w5 r122 h
    · refine z_sub [1, 2, 3, 4, 5, 6, 0] (lv' := [(0, va_rf (some w0)), (1, va_rf (some w1)), (2, va_rf (some w2)), (3, .int w3), (4, .int w4), (5, .int w5), (6, .int r122)]) rfl ?_
      exact k_L_leaders_B166 l hfl v C Q T S1 S2 S121 t1 t2 w0 w1 w2 w3 w4 w5 r122 h
  · refine z_sub [1, 2, 3, 4, 5, 6, 0] (lv' := [(0, va_rf (some w0)), (1, va_rf (some w1)), (2, va_rf (some w2)), (3, .int w3), (4, .int w4), (5, .int w5), (6, .int r122)]) rfl ?_
    exact k_L_leaders_B105 l hfl v C Q T S1 S2 S121 t1 t2 w0 w1 w2 w3 w4 w5 r122 h
set_option maxHeartbeats 4000000 in
set_option maxRecDepth 100000 in
theorem c_L_leaders (l : Launch) (hfl : l.stackTraces = false) (v : Ev) (S1 S2 S : Hp) (x0 : Nat) (x1 : Nat) (x2 : Nat) (x3 : Int32) (x4 : Int32) : C3 l v yL_leaders cL_leaders 10 (some .boolean) rm_L_leaders [va_rf (some x0), va_rf (some x1), va_rf (some x2), .int x3, .int x4] S1 S2 S (Q3i v) (fun Q => wp_L_leaders S1 S2 S x0 x1 x2 x3 x4 Q) := by
  refine z_start3 [(0, va_rf (some x0)), (1, va_rf (some x1)), (2, va_rf (some x2)), (3, .int x3), (4, .int x4)] (by decide +kernel) (by simp only [la_i, la_r, la_n]) (cat_cr (cat_cr (cat_cr (cat_ci (cat_ci cat_nil))))) (by simp only [ls_i, ls_r, ls_n]; decide) (fun x9 A E Y Q h t1 t2 C T => ?_)
  unfold wp_L_leaders at h
  refine z_iload_n (C _) (pc := 0) dL_leaders_0 3 rfl ?_
  refine z_bipush (C _) (pc := 1) (x := (10 : Int32)) dL_leaders_1 kbp_10 ?_
  refine z_Si8 (C _) (pc := 3) (KX := fun _ _ => False) (kc' := 0) (ks' := 0) (As := [.int x3, .int (10 : Int32)]) (rest := []) (c_L_some l v S x3 (10 : Int32)) mw_L_some bw_101 bw_102 (fit_of rfl) rfl rfl (Nat.le_of_ble_eq_true rfl) dL_leaders_3 h (fun r102 S101 h => ?_) (fun En S9 h => h.elim)
  refine z_istore (C _) (pc := 6) (lv' := [(5, .int r102), (0, va_rf (some x0)), (1, va_rf (some x1)), (2, va_rf (some x2)), (3, .int x3), (4, .int x4)]) dL_leaders_6 (by decide) rfl ?_
  refine z_iload (C _) (pc := 8) dL_leaders_8 0 rfl ?_
  refine z_iconst (C _) (pc := 10) (x := (2 : Int32)) dL_leaders_10 kic_2 ?_
  refine z_icmp_lt (C _) (pc := 11) (tgt := 20) dL_leaders_11 (by decide) h (fun h => ?_) (fun h => ?_)
  · refine z_sub [1, 2, 3, 4, 5, 0] (lv' := [(0, va_rf (some x0)), (1, va_rf (some x1)), (2, va_rf (some x2)), (3, .int x3), (4, .int x4), (5, .int r102)]) rfl ?_
    exact k_L_leaders_B20 l hfl v C Q T S1 S2 S101 t1 t2 x0 x1 x2 x3 x4 r102 h
  · refine z_aload_n (C _) (pc := 14) dL_leaders_14 3 rfl ?_
    refine z_iconst (C _) (pc := 15) (x := (2 : Int32)) dL_leaders_15 kic_2 ?_
    obtain ⟨o117, h⟩ := h
    obtain ⟨v118, h⟩ := h
    refine z_iald (C _) (pc := 16) dL_leaders_16 rfl o117 v118 ?_
    refine z_if_ne (C _) (pc := 17) (tgt := 88) dL_leaders_17 (by decide) h (fun h => ?_) (fun h => ?_)
    · refine z_sub [1, 2, 3, 4, 5, 0] (lv' := [(0, va_rf (some x0)), (1, va_rf (some x1)), (2, va_rf (some x2)), (3, .int x3), (4, .int x4), (5, .int r102)]) rfl ?_
      exact k_L_leaders_B88 l hfl v C Q T S1 S2 S101 t1 t2 x0 x1 x2 x3 x4 r102 h
    · refine z_sub [1, 2, 3, 4, 5, 0] (lv' := [(0, va_rf (some x0)), (1, va_rf (some x1)), (2, va_rf (some x2)), (3, .int x3), (4, .int x4), (5, .int r102)]) rfl ?_
      exact k_L_leaders_B20 l hfl v C Q T S1 S2 S101 t1 t2 x0 x1 x2 x3 x4 r102 h
