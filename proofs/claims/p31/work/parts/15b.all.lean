def wp_L_all_L186 (Q : Int64 → Hp → Hp → Hp → Prop) (f0 : Nat) (f1 : Nat) : Nat → Hp → Hp → Hp → Int64 → Int32 → Prop
  | 0, _, _, _, _, _ => False
  | n + 1, S1, S2, S, w2, w4 => okA S 11 f1 ∧ (vp_in (3 : Int32) (g_N S f1) ∧ (if (g_R S f1 (3 : Int32).toNatClampNeg) ≤ w4 then (Q w2 S1 S2 S) else (okA S1 8 f0 ∧ (wp_X8_why S1 f0 w4 (fun r115 S114 => wp_L_all_L186 Q f0 f1 n S114 S2 S ((w2 * (11 : Int64)) + r115.toInt64) (w4 + (1 : Int32))) (fun _ _ => False)))))
def wp_L_all_L113 (Q : Int64 → Hp → Hp → Hp → Prop) (f0 : Nat) (f1 : Nat) : Nat → Hp → Hp → Hp → Int64 → Int32 → Prop
  | 0, _, _, _, _, _ => False
  | n + 1, S1, S2, S, w2, w4 => okA S 11 f1 ∧ (vp_in (1 : Int32) (g_N S f1) ∧ (if (g_R S f1 (1 : Int32).toNatClampNeg) ≤ w4 then (∃ n117, n117 ≤ 21 ∧ wp_L_all_L186 Q f0 f1 n117 S1 S2 S w2 (0 : Int32)) else (okA S1 8 f0 ∧ (wp_X8_ofTroop S1 f0 w4 (0 : Int32) (fun r121 S120 => okA S120 8 f0 ∧ (wp_X8_ofTroop S120 f0 w4 (1 : Int32) (fun r126 S125 => okA S125 8 f0 ∧ (wp_X8_owed S125 f0 w4 (fun r131 S130 => okA S130 8 f0 ∧ (wp_X8_duty S130 f0 w4 (77 : Int32) (fun r136 S135 => wp_L_all_L113 Q f0 f1 n S135 S2 S ((((((((w2 * (31 : Int64)) + r121.toInt64) * (31 : Int64)) + r126.toInt64) * (1009 : Int64)) + r131.toInt64) * (31 : Int64)) + r136.toInt64) (w4 + (1 : Int32))) (fun _ _ => False))) (fun _ _ => False))) (fun _ _ => False))) (fun _ _ => False)))))
def wp_L_all_L56 (Q : Int64 → Hp → Hp → Hp → Prop) (f0 : Nat) (f1 : Nat) (f4 : Int32) (K13 : Hp → Hp → Hp → Int64 → Int32 → Prop) : Nat → Hp → Hp → Hp → Int64 → Int32 → Prop
  | 0, _, _, _, _, _ => False
  | n + 1, S1, S2, S, w2, w5 => if (8 : Int32) ≤ w5 then (K13 S1 S2 S w2 (f4 + (1 : Int32))) else (okA S1 8 f0 ∧ (wp_X8_earned S1 f0 f4 w5 (fun r142 S141 => okA S141 8 f0 ∧ (wp_X8_holds S141 f0 f4 w5 (fun r147 S146 => if r147 = 0 then (wp_L_all_L56 Q f0 f1 f4 K13 n S146 S2 S (((w2 * (1009 : Int64)) + r142.toInt64) + (0 : Int64)) (w5 + (1 : Int32))) else (wp_L_all_L56 Q f0 f1 f4 K13 n S146 S2 S (((w2 * (1009 : Int64)) + r142.toInt64) + (7 : Int64)) (w5 + (1 : Int32)))) (fun _ _ => False))) (fun _ _ => False)))
def wp_L_all_L24 (Q : Int64 → Hp → Hp → Hp → Prop) (f0 : Nat) (f1 : Nat) (f4 : Int32) (K13 : Hp → Hp → Hp → Int64 → Int32 → Prop) : Nat → Hp → Hp → Hp → Int64 → Int32 → Prop
  | 0, _, _, _, _, _ => False
  | n + 1, S1, S2, S, w2, w5 => if (6 : Int32) ≤ w5 then (∃ n149, wp_L_all_L56 Q f0 f1 f4 K13 n149 S1 S2 S w2 (0 : Int32)) else (okA S1 8 f0 ∧ (wp_X8_ofChild S1 f0 f4 w5 (fun r153 S152 => wp_L_all_L24 Q f0 f1 f4 K13 n S152 S2 S ((w2 * (1009 : Int64)) + r153.toInt64) (w5 + (1 : Int32))) (fun _ _ => False)))
def wp_L_all_L13 (Q : Int64 → Hp → Hp → Hp → Prop) (f0 : Nat) (f1 : Nat) : Nat → Hp → Hp → Hp → Int64 → Int32 → Prop
  | 0, _, _, _, _, _ => False
  | n + 1, S1, S2, S, w2, w4 => okA S 11 f1 ∧ (vp_in (0 : Int32) (g_N S f1) ∧ (if (g_R S f1 (0 : Int32).toNatClampNeg) ≤ w4 then (∃ n138, wp_L_all_L113 Q f0 f1 n138 S1 S2 S w2 (0 : Int32)) else (∃ n155, wp_L_all_L24 Q f0 f1 w4 (wp_L_all_L13 Q f0 f1 n) n155 S1 S2 S w2 (0 : Int32))))
def wp_L_all (S1 S2 S : Hp) (x0 : Nat) (x1 : Nat) (Q : Int64 → Hp → Hp → Hp → Prop) : Prop :=
  okA S1 8 x0 ∧ (wp_X8_today S1 x0 (fun r104 S103 => ∃ n156, wp_L_all_L13 Q x0 x1 n156 S103 S2 S ((17 : Int64) + r104.toInt64) (0 : Int32)))
def rm_L_all : Room := { frames := 6, cells := 21, slots := 105, locals := 137 }
set_option maxHeartbeats 4000000 in
set_option maxRecDepth 100000 in
theorem l_L_all_L186 (l : Launch) (hfl : l.stackTraces = false) (v : Ev) {x9 : P9} {A : Nat → Prop} {E : State → Prop} {X0 Y : va_W} (C : ∀ X, Cx l v RL cL_all 6 (some .long) "all" (x9, X, A, E)) (Q : Int64 → Hp → Hp → Hp → Prop) (T : E3 v rm_L_all (Q3l v) Q X0 Y A E x9) (f0 : Nat) (f1 : Nat) : ∀ (n : Nat) (S1 S2 S : Hp) (w2 : Int64) (w4 : Int32) (hn : n ≤ 21), g_T S1 = v.2.2.1 → g_T S2 = v.2.2.1 → wp_L_all_L186 Q f0 f1 n S1 S2 S w2 w4 → ZZ l v 6 rm_L_all (x9, Y3 v.2.1 Y S1 S2, A, E) (21 - n * 1) (105 - n * 5) S 186 [(0, va_rf (some f0)), (1, va_rf (some f1)), (2, .long w2), (4, .int w4)] [] := by
  intro n
  induction n with
  | zero =>
    intro S1 S2 S w2 w4 hn t1 t2 h
    exact h.elim
  | succ n ih =>
    intro S1 S2 S w2 w4 hn t1 t2 h
    unfold wp_L_all_L186 at h
    obtain ⟨B, hB⟩ : ∃ B, B = 21 - (n + 1) * 1 := ⟨_, rfl⟩
    obtain ⟨B2, hB2⟩ : ∃ B2, B2 = 105 - (n + 1) * 5 := ⟨_, rfl⟩
    have hR : rm_L_all.cells = 21 := rfl
    have hR2 : rm_L_all.slots = 105 := rfl
    rw [← hB, ← hB2]
    refine z_wide (kc' := B + 0) (ks' := B2 + 0) (Nat.le_refl _) (Nat.le_refl _) ?_
    refine z_iload (C _) (pc := 186) dL_all_186 3 rfl ?_
    refine z_aload_n (C _) (pc := 188) dL_all_188 1 rfl ?_
    refine z_iconst (C _) (pc := 189) (x := (3 : Int32)) dL_all_189 kic_3 ?_
    obtain ⟨o110, h⟩ := h
    obtain ⟨v111, h⟩ := h
    refine z_iald (C _) (pc := 190) dL_all_190 rfl o110 v111 ?_
    refine z_icmp_ge (C _) (pc := 191) (tgt := 214) dL_all_191 (by decide) h (fun h => ?_) (fun h => ?_)
    · refine z_lload_n (C _) (pc := 214) dL_all_214 2 rfl ?_
      exact z_lret3 (C []) (pc := 215) T t1 t2 dL_all_215 (by omega) (by omega) h
    · refine z_lload_n (C _) (pc := 194) dL_all_194 2 rfl ?_
      refine z_ldc2 (C _) (pc := 195) (x := (11 : Int64)) dL_all_195 bw_297 ?_
      refine z_lmul (C _) (pc := 198) dL_all_198 ?_
      refine z_aload_n (C _) (pc := 199) dL_all_199 0 rfl ?_
      refine z_iload (C _) (pc := 200) dL_all_200 3 rfl ?_
      obtain ⟨o112, h⟩ := h
      refine z_s1 t1 (fun t113 => ?_)
      refine z_Vi (C _) (pc := 202) (KX := fun _ _ => False) (kc' := (B + 1)) (ks' := (B2 + 5)) (As := [.int w4]) (rest := [.long (w2 * (11 : Int64))]) rfl (c_X8_why_n l v S1 f0 w4) mw_X8_why bw_298 bw_299 bw_300 ⟨by have h9 : rm_X8_why_n.cells = 1 := rfl; omega, by omega, by have h9 : rm_X8_why_n.slots = 5 := rfl; omega, by omega, by decide, by decide⟩ rfl rfl (Nat.le_of_ble_eq_true rfl) (by decide) rfl o112 dL_all_202 h (fun r115 S114 h => ?_) (fun En S9 h => h.elim)
      refine z_s1' t113 (fun t116 => ?_)
      refine z_i2l (C _) (pc := 205) dL_all_205 ?_
      refine z_ladd (C _) (pc := 206) dL_all_206 ?_
      refine z_lstore_n (C _) (pc := 207) (lv' := [(2, .long ((w2 * (11 : Int64)) + r115.toInt64)), (0, va_rf (some f0)), (1, va_rf (some f1)), (4, .int w4)]) dL_all_207 (by decide) rfl ?_
      refine z_iinc (C _) (pc := 208) (y := w4 + (1 : Int32)) (lv' := [(4, .int (w4 + (1 : Int32))), (2, .long ((w2 * (11 : Int64)) + r115.toInt64)), (0, va_rf (some f0)), (1, va_rf (some f1))]) dL_all_208 3 rfl rfl (by decide) rfl ?_
      refine z_goto (C _) (pc := 211) (tgt := 186) dL_all_211 (by decide) ?_
      refine z_sub [2, 3, 1, 0] (lv' := [(0, va_rf (some f0)), (1, va_rf (some f1)), (2, .long ((w2 * (11 : Int64)) + r115.toInt64)), (4, .int (w4 + (1 : Int32)))]) rfl ?_
      refine z_wide (kc' := 21 - n * 1) (ks' := 105 - n * 5) (by omega) (by omega) ?_
      exact ih S114 S2 S ((w2 * (11 : Int64)) + r115.toInt64) (w4 + (1 : Int32)) (by omega) t116 t2 h
set_option maxHeartbeats 4000000 in
set_option maxRecDepth 100000 in
theorem l_L_all_L113 (l : Launch) (hfl : l.stackTraces = false) (v : Ev) {x9 : P9} {A : Nat → Prop} {E : State → Prop} {X0 Y : va_W} (C : ∀ X, Cx l v RL cL_all 6 (some .long) "all" (x9, X, A, E)) (Q : Int64 → Hp → Hp → Hp → Prop) (T : E3 v rm_L_all (Q3l v) Q X0 Y A E x9) (f0 : Nat) (f1 : Nat) : ∀ (n : Nat) (S1 S2 S : Hp) (w2 : Int64) (w4 : Int32), g_T S1 = v.2.2.1 → g_T S2 = v.2.2.1 → wp_L_all_L113 Q f0 f1 n S1 S2 S w2 w4 → ZZ l v 6 rm_L_all (x9, Y3 v.2.1 Y S1 S2, A, E) 0 0 S 113 [(0, va_rf (some f0)), (1, va_rf (some f1)), (2, .long w2), (4, .int w4)] [] := by
  intro n
  induction n with
  | zero =>
    intro S1 S2 S w2 w4 t1 t2 h
    exact h.elim
  | succ n ih =>
    intro S1 S2 S w2 w4 t1 t2 h
    unfold wp_L_all_L113 at h
    refine z_iload (C _) (pc := 113) dL_all_113 3 rfl ?_
    refine z_aload_n (C _) (pc := 115) dL_all_115 1 rfl ?_
    refine z_iconst (C _) (pc := 116) (x := (1 : Int32)) dL_all_116 kic_1 ?_
    obtain ⟨o108, h⟩ := h
    obtain ⟨v109, h⟩ := h
    refine z_iald (C _) (pc := 117) dL_all_117 rfl o108 v109 ?_
    refine z_icmp_ge (C _) (pc := 118) (tgt := 183) dL_all_118 (by decide) h (fun h => ?_) (fun h => ?_)
    · refine z_iconst (C _) (pc := 183) (x := (0 : Int32)) dL_all_183 kic_0 ?_
      refine z_istore (C _) (pc := 184) (lv' := [(4, .int (0 : Int32)), (0, va_rf (some f0)), (1, va_rf (some f1)), (2, .long w2)]) dL_all_184 (by decide) rfl ?_
      obtain ⟨n117, hn9, h⟩ := h
      refine z_sub [1, 2, 3, 0] (lv' := [(0, va_rf (some f0)), (1, va_rf (some f1)), (2, .long w2), (4, .int (0 : Int32))]) rfl ?_
      refine z_wide (kc' := 21 - n117 * 1) (ks' := 105 - n117 * 5) (by omega) (by omega) ?_
      exact l_L_all_L186 l hfl v C Q T f0 f1 n117 S1 S2 S w2 (0 : Int32) hn9 t1 t2 h
    · refine z_lload_n (C _) (pc := 121) dL_all_121 2 rfl ?_
      refine z_ldc2 (C _) (pc := 122) (x := (31 : Int64)) dL_all_122 bw_255 ?_
      refine z_lmul (C _) (pc := 125) dL_all_125 ?_
      refine z_aload_n (C _) (pc := 126) dL_all_126 0 rfl ?_
      refine z_iload (C _) (pc := 127) dL_all_127 3 rfl ?_
      refine z_iconst (C _) (pc := 129) (x := (0 : Int32)) dL_all_129 kic_0 ?_
      obtain ⟨o118, h⟩ := h
      refine z_s1 t1 (fun t119 => ?_)
      refine z_Vi (C _) (pc := 130) (KX := fun _ _ => False) (kc' := 0) (ks' := 0) (As := [.int w4, .int (0 : Int32)]) (rest := [.long (w2 * (31 : Int64))]) rfl (c_X8_ofTroop_n l v S1 f0 w4 (0 : Int32)) mw_X8_ofTroop bw_256 bw_257 bw_258 (fit_of rfl) rfl rfl (Nat.le_of_ble_eq_true rfl) (by decide) rfl o118 dL_all_130 h (fun r121 S120 h => ?_) (fun En S9 h => h.elim)
      refine z_s1' t119 (fun t122 => ?_)
      refine z_i2l (C _) (pc := 133) dL_all_133 ?_
      refine z_ladd (C _) (pc := 134) dL_all_134 ?_
      refine z_ldc2 (C _) (pc := 135) (x := (31 : Int64)) dL_all_135 bw_255 ?_
      refine z_lmul (C _) (pc := 138) dL_all_138 ?_
      refine z_aload_n (C _) (pc := 139) dL_all_139 0 rfl ?_
      refine z_iload (C _) (pc := 140) dL_all_140 3 rfl ?_
      refine z_iconst (C _) (pc := 142) (x := (1 : Int32)) dL_all_142 kic_1 ?_
      obtain ⟨o123, h⟩ := h
      refine z_s1 t122 (fun t124 => ?_)
      refine z_Vi (C _) (pc := 143) (KX := fun _ _ => False) (kc' := 0) (ks' := 0) (As := [.int w4, .int (1 : Int32)]) (rest := [.long (((w2 * (31 : Int64)) + r121.toInt64) * (31 : Int64))]) rfl (c_X8_ofTroop_n l v S120 f0 w4 (1 : Int32)) mw_X8_ofTroop bw_256 bw_257 bw_258 (fit_of rfl) rfl rfl (Nat.le_of_ble_eq_true rfl) (by decide) rfl o123 dL_all_143 h (fun r126 S125 h => ?_) (fun En S9 h => h.elim)
      refine z_s1' t124 (fun t127 => ?_)
      refine z_i2l (C _) (pc := 146) dL_all_146 ?_
      refine z_ladd (C _) (pc := 147) dL_all_147 ?_
      refine z_ldc2 (C _) (pc := 148) (x := (1009 : Int64)) dL_all_148 bw_112 ?_
      refine z_lmul (C _) (pc := 151) dL_all_151 ?_
      refine z_aload_n (C _) (pc := 152) dL_all_152 0 rfl ?_
      refine z_iload (C _) (pc := 153) dL_all_153 3 rfl ?_
      obtain ⟨o128, h⟩ := h
      refine z_s1 t127 (fun t129 => ?_)
      refine z_Vi (C _) (pc := 155) (KX := fun _ _ => False) (kc' := 0) (ks' := 0) (As := [.int w4]) (rest := [.long (((((w2 * (31 : Int64)) + r121.toInt64) * (31 : Int64)) + r126.toInt64) * (1009 : Int64))]) rfl (c_X8_owed_n l v S125 f0 w4) mw_X8_owed bw_273 bw_274 bw_275 (fit_of rfl) rfl rfl (Nat.le_of_ble_eq_true rfl) (by decide) rfl o128 dL_all_155 h (fun r131 S130 h => ?_) (fun En S9 h => h.elim)
      refine z_s1' t129 (fun t132 => ?_)
      refine z_i2l (C _) (pc := 158) dL_all_158 ?_
      refine z_ladd (C _) (pc := 159) dL_all_159 ?_
      refine z_lstore_n (C _) (pc := 160) (lv' := [(2, .long ((((((w2 * (31 : Int64)) + r121.toInt64) * (31 : Int64)) + r126.toInt64) * (1009 : Int64)) + r131.toInt64)), (0, va_rf (some f0)), (1, va_rf (some f1)), (4, .int w4)]) dL_all_160 (by decide) rfl ?_
      refine z_lload_n (C _) (pc := 161) dL_all_161 0 rfl ?_
      refine z_ldc2 (C _) (pc := 162) (x := (31 : Int64)) dL_all_162 bw_255 ?_
      refine z_lmul (C _) (pc := 165) dL_all_165 ?_
      refine z_aload_n (C _) (pc := 166) dL_all_166 1 rfl ?_
      refine z_iload (C _) (pc := 167) dL_all_167 3 rfl ?_
      refine z_bipush (C _) (pc := 169) (x := (77 : Int32)) dL_all_169 kbp_77 ?_
      obtain ⟨o133, h⟩ := h
      refine z_s1 t132 (fun t134 => ?_)
      refine z_Vi (C _) (pc := 171) (KX := fun _ _ => False) (kc' := 0) (ks' := 0) (As := [.int w4, .int (77 : Int32)]) (rest := [.long (((((((w2 * (31 : Int64)) + r121.toInt64) * (31 : Int64)) + r126.toInt64) * (1009 : Int64)) + r131.toInt64) * (31 : Int64))]) rfl (c_X8_duty_n l v S130 f0 w4 (77 : Int32)) mw_X8_duty bw_277 bw_278 bw_279 (fit_of rfl) rfl rfl (Nat.le_of_ble_eq_true rfl) (by decide) rfl o133 dL_all_171 h (fun r136 S135 h => ?_) (fun En S9 h => h.elim)
      refine z_s1' t134 (fun t137 => ?_)
      refine z_i2l (C _) (pc := 174) dL_all_174 ?_
      refine z_ladd (C _) (pc := 175) dL_all_175 ?_
      refine z_lstore_n (C _) (pc := 176) (lv' := [(2, .long ((((((((w2 * (31 : Int64)) + r121.toInt64) * (31 : Int64)) + r126.toInt64) * (1009 : Int64)) + r131.toInt64) * (31 : Int64)) + r136.toInt64)), (0, va_rf (some f0)), (1, va_rf (some f1)), (4, .int w4)]) dL_all_176 (by decide) rfl ?_
      refine z_iinc (C _) (pc := 177) (y := w4 + (1 : Int32)) (lv' := [(4, .int (w4 + (1 : Int32))), (2, .long ((((((((w2 * (31 : Int64)) + r121.toInt64) * (31 : Int64)) + r126.toInt64) * (1009 : Int64)) + r131.toInt64) * (31 : Int64)) + r136.toInt64)), (0, va_rf (some f0)), (1, va_rf (some f1))]) dL_all_177 3 rfl rfl (by decide) rfl ?_
      refine z_goto (C _) (pc := 180) (tgt := 113) dL_all_180 (by decide) ?_
      refine z_sub [2, 3, 1, 0] (lv' := [(0, va_rf (some f0)), (1, va_rf (some f1)), (2, .long ((((((((w2 * (31 : Int64)) + r121.toInt64) * (31 : Int64)) + r126.toInt64) * (1009 : Int64)) + r131.toInt64) * (31 : Int64)) + r136.toInt64)), (4, .int (w4 + (1 : Int32)))]) rfl ?_
      exact ih S135 S2 S ((((((((w2 * (31 : Int64)) + r121.toInt64) * (31 : Int64)) + r126.toInt64) * (1009 : Int64)) + r131.toInt64) * (31 : Int64)) + r136.toInt64) (w4 + (1 : Int32)) t137 t2 h
set_option maxHeartbeats 4000000 in
set_option maxRecDepth 100000 in
theorem l_L_all_L56 (l : Launch) (hfl : l.stackTraces = false) (v : Ev) {x9 : P9} {A : Nat → Prop} {E : State → Prop} {X0 Y : va_W} (C : ∀ X, Cx l v RL cL_all 6 (some .long) "all" (x9, X, A, E)) (Q : Int64 → Hp → Hp → Hp → Prop) (T : E3 v rm_L_all (Q3l v) Q X0 Y A E x9) (f0 : Nat) (f1 : Nat) (f4 : Int32) (K13 : Hp → Hp → Hp → Int64 → Int32 → Prop) (hK13 : ∀ (S1 S2 S : Hp) (u2 : Int64) (u4 : Int32), g_T S1 = v.2.2.1 → g_T S2 = v.2.2.1 → K13 S1 S2 S u2 u4 → ZZ l v 6 rm_L_all (x9, Y3 v.2.1 Y S1 S2, A, E) 0 0 S 13 [(0, va_rf (some f0)), (1, va_rf (some f1)), (2, .long u2), (4, .int u4)] []) : ∀ (n : Nat) (S1 S2 S : Hp) (w2 : Int64) (w5 : Int32), g_T S1 = v.2.2.1 → g_T S2 = v.2.2.1 → wp_L_all_L56 Q f0 f1 f4 K13 n S1 S2 S w2 w5 → ZZ l v 6 rm_L_all (x9, Y3 v.2.1 Y S1 S2, A, E) 0 0 S 56 [(0, va_rf (some f0)), (1, va_rf (some f1)), (2, .long w2), (4, .int f4), (5, .int w5)] [] := by
  intro n
  induction n with
  | zero =>
    intro S1 S2 S w2 w5 t1 t2 h
    exact h.elim
  | succ n ih =>
    intro S1 S2 S w2 w5 t1 t2 h
    unfold wp_L_all_L56 at h
    refine z_iload (C _) (pc := 56) dL_all_56 4 rfl ?_
    refine z_bipush (C _) (pc := 58) (x := (8 : Int32)) dL_all_58 kbp_8 ?_
    refine z_icmp_ge (C _) (pc := 60) (tgt := 104) dL_all_60 (by decide) h (fun h => ?_) (fun h => ?_)
    · refine z_iinc (C _) (pc := 104) (y := f4 + (1 : Int32)) (lv' := [(4, .int (f4 + (1 : Int32))), (0, va_rf (some f0)), (1, va_rf (some f1)), (2, .long w2), (5, .int w5)]) dL_all_104 3 rfl rfl (by decide) rfl ?_
      refine z_goto (C _) (pc := 107) (tgt := 13) dL_all_107 (by decide) ?_
      refine z_sub [1, 2, 3, 0] (lv' := [(0, va_rf (some f0)), (1, va_rf (some f1)), (2, .long w2), (4, .int (f4 + (1 : Int32)))]) rfl ?_
      exact hK13 S1 S2 S w2 (f4 + (1 : Int32)) t1 t2 h
    · refine z_lload_n (C _) (pc := 63) dL_all_63 2 rfl ?_
      refine z_ldc2 (C _) (pc := 64) (x := (1009 : Int64)) dL_all_64 bw_112 ?_
      refine z_lmul (C _) (pc := 67) dL_all_67 ?_
      refine z_aload_n (C _) (pc := 68) dL_all_68 0 rfl ?_
      refine z_iload (C _) (pc := 69) dL_all_69 3 rfl ?_
      refine z_iload (C _) (pc := 71) dL_all_71 4 rfl ?_
      obtain ⟨o139, h⟩ := h
      refine z_s1 t1 (fun t140 => ?_)
      refine z_Vi (C _) (pc := 73) (KX := fun _ _ => False) (kc' := 0) (ks' := 0) (As := [.int f4, .int w5]) (rest := [.long (w2 * (1009 : Int64))]) rfl (c_X8_earned_n l v S1 f0 f4 w5) mw_X8_earned bw_240 bw_241 bw_242 (fit_of rfl) rfl rfl (Nat.le_of_ble_eq_true rfl) (by decide) rfl o139 dL_all_73 h (fun r142 S141 h => ?_) (fun En S9 h => h.elim)
      refine z_s1' t140 (fun t143 => ?_)
      refine z_i2l (C _) (pc := 76) dL_all_76 ?_
      refine z_ladd (C _) (pc := 77) dL_all_77 ?_
      refine z_aload_n (C _) (pc := 78) dL_all_78 0 rfl ?_
      refine z_iload (C _) (pc := 79) dL_all_79 3 rfl ?_
      refine z_iload (C _) (pc := 81) dL_all_81 4 rfl ?_
      obtain ⟨o144, h⟩ := h
      refine z_s1 t143 (fun t145 => ?_)
      refine z_Vi (C _) (pc := 83) (KX := fun _ _ => False) (kc' := 0) (ks' := 0) (As := [.int f4, .int w5]) (rest := [.long ((w2 * (1009 : Int64)) + r142.toInt64)]) rfl (c_X8_holds_n l v S141 f0 f4 w5) mw_X8_holds bw_245 bw_246 bw_247 (fit_of rfl) rfl rfl (Nat.le_of_ble_eq_true rfl) (by decide) rfl o144 dL_all_83 h (fun r147 S146 h => ?_) (fun En S9 h => h.elim)
      refine z_s1' t145 (fun t148 => ?_)
      refine z_if_eq (C _) (pc := 86) (tgt := 95) dL_all_86 (by decide) h (fun h => ?_) (fun h => ?_)
      · refine z_lconst (C _) (pc := 95) (x := (0 : Int64)) dL_all_95 rfl ?_
        refine z_ladd (C _) (pc := 96) dL_all_96 ?_
        refine z_lstore_n (C _) (pc := 97) (lv' := [(2, .long (((w2 * (1009 : Int64)) + r142.toInt64) + (0 : Int64))), (0, va_rf (some f0)), (1, va_rf (some f1)), (4, .int f4), (5, .int w5)]) dL_all_97 (by decide) rfl ?_
        refine z_iinc (C _) (pc := 98) (y := w5 + (1 : Int32)) (lv' := [(5, .int (w5 + (1 : Int32))), (2, .long (((w2 * (1009 : Int64)) + r142.toInt64) + (0 : Int64))), (0, va_rf (some f0)), (1, va_rf (some f1)), (4, .int f4)]) dL_all_98 4 rfl rfl (by decide) rfl ?_
        refine z_goto (C _) (pc := 101) (tgt := 56) dL_all_101 (by decide) ?_
        refine z_sub [2, 3, 1, 4, 0] (lv' := [(0, va_rf (some f0)), (1, va_rf (some f1)), (2, .long (((w2 * (1009 : Int64)) + r142.toInt64) + (0 : Int64))), (4, .int f4), (5, .int (w5 + (1 : Int32)))]) rfl ?_
        exact ih S146 S2 S (((w2 * (1009 : Int64)) + r142.toInt64) + (0 : Int64)) (w5 + (1 : Int32)) t148 t2 h
      · refine z_ldc2 (C _) (pc := 89) (x := (7 : Int64)) dL_all_89 bw_254 ?_
        refine z_goto (C _) (pc := 92) (tgt := 96) dL_all_92 (by decide) ?_
        refine z_ladd (C _) (pc := 96) dL_all_96 ?_
        refine z_lstore_n (C _) (pc := 97) (lv' := [(2, .long (((w2 * (1009 : Int64)) + r142.toInt64) + (7 : Int64))), (0, va_rf (some f0)), (1, va_rf (some f1)), (4, .int f4), (5, .int w5)]) dL_all_97 (by decide) rfl ?_
        refine z_iinc (C _) (pc := 98) (y := w5 + (1 : Int32)) (lv' := [(5, .int (w5 + (1 : Int32))), (2, .long (((w2 * (1009 : Int64)) + r142.toInt64) + (7 : Int64))), (0, va_rf (some f0)), (1, va_rf (some f1)), (4, .int f4)]) dL_all_98 4 rfl rfl (by decide) rfl ?_
        refine z_goto (C _) (pc := 101) (tgt := 56) dL_all_101 (by decide) ?_
        refine z_sub [2, 3, 1, 4, 0] (lv' := [(0, va_rf (some f0)), (1, va_rf (some f1)), (2, .long (((w2 * (1009 : Int64)) + r142.toInt64) + (7 : Int64))), (4, .int f4), (5, .int (w5 + (1 : Int32)))]) rfl ?_
        exact ih S146 S2 S (((w2 * (1009 : Int64)) + r142.toInt64) + (7 : Int64)) (w5 + (1 : Int32)) t148 t2 h
set_option maxHeartbeats 4000000 in
set_option maxRecDepth 100000 in
theorem l_L_all_L24 (l : Launch) (hfl : l.stackTraces = false) (v : Ev) {x9 : P9} {A : Nat → Prop} {E : State → Prop} {X0 Y : va_W} (C : ∀ X, Cx l v RL cL_all 6 (some .long) "all" (x9, X, A, E)) (Q : Int64 → Hp → Hp → Hp → Prop) (T : E3 v rm_L_all (Q3l v) Q X0 Y A E x9) (f0 : Nat) (f1 : Nat) (f4 : Int32) (K13 : Hp → Hp → Hp → Int64 → Int32 → Prop) (hK13 : ∀ (S1 S2 S : Hp) (u2 : Int64) (u4 : Int32), g_T S1 = v.2.2.1 → g_T S2 = v.2.2.1 → K13 S1 S2 S u2 u4 → ZZ l v 6 rm_L_all (x9, Y3 v.2.1 Y S1 S2, A, E) 0 0 S 13 [(0, va_rf (some f0)), (1, va_rf (some f1)), (2, .long u2), (4, .int u4)] []) : ∀ (n : Nat) (S1 S2 S : Hp) (w2 : Int64) (w5 : Int32), g_T S1 = v.2.2.1 → g_T S2 = v.2.2.1 → wp_L_all_L24 Q f0 f1 f4 K13 n S1 S2 S w2 w5 → ZZ l v 6 rm_L_all (x9, Y3 v.2.1 Y S1 S2, A, E) 0 0 S 24 [(0, va_rf (some f0)), (1, va_rf (some f1)), (2, .long w2), (4, .int f4), (5, .int w5)] [] := by
  intro n
  induction n with
  | zero =>
    intro S1 S2 S w2 w5 t1 t2 h
    exact h.elim
  | succ n ih =>
    intro S1 S2 S w2 w5 t1 t2 h
    unfold wp_L_all_L24 at h
    refine z_iload (C _) (pc := 24) dL_all_24 4 rfl ?_
    refine z_bipush (C _) (pc := 26) (x := (6 : Int32)) dL_all_26 kbp_6 ?_
    refine z_icmp_ge (C _) (pc := 28) (tgt := 53) dL_all_28 (by decide) h (fun h => ?_) (fun h => ?_)
    · refine z_iconst (C _) (pc := 53) (x := (0 : Int32)) dL_all_53 kic_0 ?_
      refine z_istore (C _) (pc := 54) (lv' := [(5, .int (0 : Int32)), (0, va_rf (some f0)), (1, va_rf (some f1)), (2, .long w2), (4, .int f4)]) dL_all_54 (by decide) rfl ?_
      obtain ⟨n149, h⟩ := h
      refine z_sub [1, 2, 3, 4, 0] (lv' := [(0, va_rf (some f0)), (1, va_rf (some f1)), (2, .long w2), (4, .int f4), (5, .int (0 : Int32))]) rfl ?_
      exact l_L_all_L56 l hfl v C Q T f0 f1 f4 K13 hK13 n149 S1 S2 S w2 (0 : Int32) t1 t2 h
    · refine z_lload_n (C _) (pc := 31) dL_all_31 2 rfl ?_
      refine z_ldc2 (C _) (pc := 32) (x := (1009 : Int64)) dL_all_32 bw_112 ?_
      refine z_lmul (C _) (pc := 35) dL_all_35 ?_
      refine z_aload_n (C _) (pc := 36) dL_all_36 0 rfl ?_
      refine z_iload (C _) (pc := 37) dL_all_37 3 rfl ?_
      refine z_iload (C _) (pc := 39) dL_all_39 4 rfl ?_
      obtain ⟨o150, h⟩ := h
      refine z_s1 t1 (fun t151 => ?_)
      refine z_Vi (C _) (pc := 41) (KX := fun _ _ => False) (kc' := 0) (ks' := 0) (As := [.int f4, .int w5]) (rest := [.long (w2 * (1009 : Int64))]) rfl (c_X8_ofChild_n l v S1 f0 f4 w5) mw_X8_ofChild bw_113 bw_114 bw_115 (fit_of rfl) rfl rfl (Nat.le_of_ble_eq_true rfl) (by decide) rfl o150 dL_all_41 h (fun r153 S152 h => ?_) (fun En S9 h => h.elim)
      refine z_s1' t151 (fun t154 => ?_)
      refine z_i2l (C _) (pc := 44) dL_all_44 ?_
      refine z_ladd (C _) (pc := 45) dL_all_45 ?_
      refine z_lstore_n (C _) (pc := 46) (lv' := [(2, .long ((w2 * (1009 : Int64)) + r153.toInt64)), (0, va_rf (some f0)), (1, va_rf (some f1)), (4, .int f4), (5, .int w5)]) dL_all_46 (by decide) rfl ?_
      refine z_iinc (C _) (pc := 47) (y := w5 + (1 : Int32)) (lv' := [(5, .int (w5 + (1 : Int32))), (2, .long ((w2 * (1009 : Int64)) + r153.toInt64)), (0, va_rf (some f0)), (1, va_rf (some f1)), (4, .int f4)]) dL_all_47 4 rfl rfl (by decide) rfl ?_
      refine z_goto (C _) (pc := 50) (tgt := 24) dL_all_50 (by decide) ?_
      refine z_sub [2, 3, 1, 4, 0] (lv' := [(0, va_rf (some f0)), (1, va_rf (some f1)), (2, .long ((w2 * (1009 : Int64)) + r153.toInt64)), (4, .int f4), (5, .int (w5 + (1 : Int32)))]) rfl ?_
      exact ih S152 S2 S ((w2 * (1009 : Int64)) + r153.toInt64) (w5 + (1 : Int32)) t154 t2 h
set_option maxHeartbeats 4000000 in
set_option maxRecDepth 100000 in
theorem l_L_all_L13 (l : Launch) (hfl : l.stackTraces = false) (v : Ev) {x9 : P9} {A : Nat → Prop} {E : State → Prop} {X0 Y : va_W} (C : ∀ X, Cx l v RL cL_all 6 (some .long) "all" (x9, X, A, E)) (Q : Int64 → Hp → Hp → Hp → Prop) (T : E3 v rm_L_all (Q3l v) Q X0 Y A E x9) (f0 : Nat) (f1 : Nat) : ∀ (n : Nat) (S1 S2 S : Hp) (w2 : Int64) (w4 : Int32), g_T S1 = v.2.2.1 → g_T S2 = v.2.2.1 → wp_L_all_L13 Q f0 f1 n S1 S2 S w2 w4 → ZZ l v 6 rm_L_all (x9, Y3 v.2.1 Y S1 S2, A, E) 0 0 S 13 [(0, va_rf (some f0)), (1, va_rf (some f1)), (2, .long w2), (4, .int w4)] [] := by
  intro n
  induction n with
  | zero =>
    intro S1 S2 S w2 w4 t1 t2 h
    exact h.elim
  | succ n ih =>
    intro S1 S2 S w2 w4 t1 t2 h
    unfold wp_L_all_L13 at h
    refine z_iload (C _) (pc := 13) dL_all_13 3 rfl ?_
    refine z_aload_n (C _) (pc := 15) dL_all_15 1 rfl ?_
    refine z_iconst (C _) (pc := 16) (x := (0 : Int32)) dL_all_16 kic_0 ?_
    obtain ⟨o106, h⟩ := h
    obtain ⟨v107, h⟩ := h
    refine z_iald (C _) (pc := 17) dL_all_17 rfl o106 v107 ?_
    refine z_icmp_ge (C _) (pc := 18) (tgt := 110) dL_all_18 (by decide) h (fun h => ?_) (fun h => ?_)
    · refine z_iconst (C _) (pc := 110) (x := (0 : Int32)) dL_all_110 kic_0 ?_
      refine z_istore (C _) (pc := 111) (lv' := [(4, .int (0 : Int32)), (0, va_rf (some f0)), (1, va_rf (some f1)), (2, .long w2)]) dL_all_111 (by decide) rfl ?_
      obtain ⟨n138, h⟩ := h
      refine z_sub [1, 2, 3, 0] (lv' := [(0, va_rf (some f0)), (1, va_rf (some f1)), (2, .long w2), (4, .int (0 : Int32))]) rfl ?_
      exact l_L_all_L113 l hfl v C Q T f0 f1 n138 S1 S2 S w2 (0 : Int32) t1 t2 h
    · refine z_iconst (C _) (pc := 21) (x := (0 : Int32)) dL_all_21 kic_0 ?_
      refine z_istore (C _) (pc := 22) (lv' := [(5, .int (0 : Int32)), (0, va_rf (some f0)), (1, va_rf (some f1)), (2, .long w2), (4, .int w4)]) dL_all_22 (by decide) rfl ?_
      obtain ⟨n155, h⟩ := h
      refine z_sub [1, 2, 3, 4, 0] (lv' := [(0, va_rf (some f0)), (1, va_rf (some f1)), (2, .long w2), (4, .int w4), (5, .int (0 : Int32))]) rfl ?_
      exact l_L_all_L24 l hfl v C Q T f0 f1 w4 (wp_L_all_L13 Q f0 f1 n) ih n155 S1 S2 S w2 (0 : Int32) t1 t2 h
set_option maxHeartbeats 4000000 in
set_option maxRecDepth 100000 in
theorem c_L_all (l : Launch) (hfl : l.stackTraces = false) (v : Ev) (S1 S2 S : Hp) (x0 : Nat) (x1 : Nat) : C3 l v yL_all cL_all 6 (some .long) rm_L_all [va_rf (some x0), va_rf (some x1)] S1 S2 S (Q3l v) (fun Q => wp_L_all S1 S2 S x0 x1 Q) := by
  refine z_start3 [(0, va_rf (some x0)), (1, va_rf (some x1))] (by decide +kernel) (by simp only [la_i, la_r, la_n]) (cat_cr (cat_cr cat_nil)) (by simp only [ls_i, ls_r, ls_n]; decide) (fun x9 A E Y Q h t1 t2 C T => ?_)
  unfold wp_L_all at h
  refine z_ldc2 (C _) (pc := 0) (x := (17 : Int64)) dL_all_0 bw_107 ?_
  refine z_aload_n (C _) (pc := 3) dL_all_3 0 rfl ?_
  obtain ⟨o101, h⟩ := h
  refine z_s1 t1 (fun t102 => ?_)
  refine z_Vi (C _) (pc := 4) (KX := fun _ _ => False) (kc' := 0) (ks' := 0) (As := []) (rest := [.long (17 : Int64)]) rfl (c_X8_today l v S1 x0) mw_X8_today bw_108 bw_109 bw_110 (fit_of rfl) rfl rfl (Nat.le_of_ble_eq_true rfl) (by decide) rfl o101 dL_all_4 h (fun r104 S103 h => ?_) (fun En S9 h => h.elim)
  refine z_s1' t102 (fun t105 => ?_)
  refine z_i2l (C _) (pc := 7) dL_all_7 ?_
  refine z_ladd (C _) (pc := 8) dL_all_8 ?_
  refine z_lstore_n (C _) (pc := 9) (lv' := [(2, .long ((17 : Int64) + r104.toInt64)), (0, va_rf (some x0)), (1, va_rf (some x1))]) dL_all_9 (by decide) rfl ?_
  refine z_iconst (C _) (pc := 10) (x := (0 : Int32)) dL_all_10 kic_0 ?_
  refine z_istore (C _) (pc := 11) (lv' := [(4, .int (0 : Int32)), (2, .long ((17 : Int64) + r104.toInt64)), (0, va_rf (some x0)), (1, va_rf (some x1))]) dL_all_11 (by decide) rfl ?_
  obtain ⟨n156, h⟩ := h
  refine z_sub [2, 3, 1, 0] (lv' := [(0, va_rf (some x0)), (1, va_rf (some x1)), (2, .long ((17 : Int64) + r104.toInt64)), (4, .int (0 : Int32))]) rfl ?_
  exact l_L_all_L13 l hfl v C Q T x0 x1 n156 S103 S2 S ((17 : Int64) + r104.toInt64) (0 : Int32) t105 t2 h
