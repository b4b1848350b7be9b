def wp_L_events_B175 (Q : Int32 → Hp → Hp → Hp → Prop) (S1 S2 S : Hp) (w0 : Nat) (w1 : Nat) (w2 : Nat) (w3 : Int32) (w4 : Int32) (w5 : Int32) (w6 : Int32) (w7 : Int32) (w8 : Int32) (w9 : Int32) : Prop :=
  okA S 11 w2 ∧ (vp_in (3 : Int32) (g_N S w2) ∧ (vp_in (3 : Int32) (g_N S w2) ∧ (lt (s_R S w2 (3 : Int32).toNatClampNeg ((g_R S w2 (3 : Int32).toNatClampNeg) + (if w8 < 0 then (0 : Int32) else (1 : Int32)))) (fun S148 => if w9 = 0 then (bz (0 : Int32) (Q (0 : Int32) S1 S2 S148)) else (if w8 = (-2000000003 : Int32) then (okA S148 11 w2 ∧ (vp_in (3 : Int32) (g_N S148 w2) ∧ (if (g_R S148 w2 (3 : Int32).toNatClampNeg) = (20 : Int32) then (bz (1 : Int32) (Q (1 : Int32) S1 S2 S148)) else (bz (0 : Int32) (Q (0 : Int32) S1 S2 S148))))) else (if w8 = (-2000000002 : Int32) then (if w7 ≤ (9999 : Int32) then (bz (0 : Int32) (Q (0 : Int32) S1 S2 S148)) else (bz (1 : Int32) (Q (1 : Int32) S1 S2 S148))) else (okA S148 11 w2 ∧ (vp_in (3 : Int32) (g_N S148 w2) ∧ (if w8 = ((g_R S148 w2 (3 : Int32).toNatClampNeg) - (1 : Int32)) then (okA S1 8 w0 ∧ (wp_X8_why S1 w0 w8 (fun r154 S153 => if r154 = (1 : Int32) then (bz (1 : Int32) (Q (1 : Int32) S153 S2 S148)) else (okA S153 8 w0 ∧ (wp_X8_why S153 w0 w8 (fun r159 S158 => bz (if r159 = 0 then (1 : Int32) else (0 : Int32)) (Q (if r159 = 0 then (1 : Int32) else (0 : Int32)) S158 S2 S148)) (fun _ _ => False)))) (fun _ _ => False))) else (bz (0 : Int32) (Q (0 : Int32) S1 S2 S148)))))))))))
def wp_L_events_B20 (Q : Int32 → Hp → Hp → Hp → Prop) (S1 S2 S : Hp) (w0 : Nat) (w1 : Nat) (w2 : Nat) (w3 : Int32) (w4 : Int32) (w5 : Int32) : Prop :=
  wp_L_some S (w4 >>> ((4 : Int32) &&& 31)) (24 : Int32) (fun r104 S103 => okA S1 8 w0 ∧ (wp_X8_today S1 w0 (fun r108 S107 => wp_L_some S103 (w4 >>> ((8 : Int32) &&& 31)) (3 : Int32) (fun r111 S110 => lt (r108 + r111) (fun y112 => okA S110 11 w2 ∧ (vp_in (1 : Int32) (g_N S110 w2) ∧ (wp_L_some S110 w4 (g_R S110 w2 (1 : Int32).toNatClampNeg) (fun r116 S115 => wp_L_some S115 (w4 >>> ((3 : Int32) &&& 31)) (3 : Int32) (fun r118 S117 => wp_L_some S117 (w4 >>> ((6 : Int32) &&& 31)) (4 : Int32) (fun r120 S119 => wp_L_some S119 (w4 >>> ((9 : Int32) &&& 31)) ((24 : Int32) - r104) (fun r122 S121 => wp_L_event S107 w0 r116 r118 r120 y112 r104 ((1 : Int32) + r122) (fun r125 S124 => okA S121 11 w2 ∧ (vp_in (1 : Int32) (g_N S121 w2) ∧ (wp_L_some S121 w4 (g_R S121 w2 (1 : Int32).toNatClampNeg) (fun r130 S129 => wp_L_some S129 (w4 >>> ((3 : Int32) &&& 31)) (3 : Int32) (fun r132 S131 => wp_L_some S131 (w4 >>> ((6 : Int32) &&& 31)) (4 : Int32) (fun r134 S133 => wp_L_some S133 (w4 >>> ((9 : Int32) &&& 31)) ((24 : Int32) - r104) (fun r136 S135 => wp_L_event S2 w1 r130 r132 r134 y112 r104 ((1 : Int32) + r136) (fun r139 S138 => lt (if r125 = r139 then (1 : Int32) else (0 : Int32)) (fun y141 => if r125 < 0 then (okA S135 11 w2 ∧ (vp_in ((12 : Int32) + (20 : Int32)) (g_N S135 w2) ∧ (lt (s_R S135 w2 ((12 : Int32) + (20 : Int32)).toNatClampNeg (0 : Int32)) (fun S144 => wp_L_events_B175 Q S124 S138 S144 w0 w1 w2 w3 w4 w5 r104 y112 r125 y141)))) else (okA S135 11 w2 ∧ (vp_in ((12 : Int32) + r125) (g_N S135 w2) ∧ (lt (s_R S135 w2 ((12 : Int32) + r125).toNatClampNeg (0 : Int32)) (fun S165 => wp_L_events_B175 Q S124 S138 S165 w0 w1 w2 w3 w4 w5 r104 y112 r125 y141))))))))))))))))))))))))
def wp_L_events_B540 (Q : Int32 → Hp → Hp → Hp → Prop) (S1 S2 S : Hp) (w0 : Nat) (w1 : Nat) (w2 : Nat) (w3 : Int32) (w4 : Int32) (w5 : Int32) (w6 : Int32) (w7 : Int32) (w8 : Int32) : Prop :=
  okA S 11 w2 ∧ (vp_in (2 : Int32) (g_N S w2) ∧ (lt (((1 : Int32) <<< ((g_R S w2 (2 : Int32).toNatClampNeg) &&& 31)) - (1 : Int32)) (fun y184 => wp_L_some S (w3 >>> ((4 : Int32) &&& 31)) (256 : Int32) (fun r186 S185 => lt ((r186 &&& y184) &&& (31 : Int32)) (fun y187 => wp_L_both S1 S2 S185 w0 w1 (16 : Int32) w7 w8 y187 (0 : Int32) (fun r191 S188 S189 S190 => if r191 = (-2000000003 : Int32) then (wp_L_call S188 w0 (16 : Int32) w7 w8 (0 : Int32) (0 : Int32) (fun r200 S199 => if r200 = (-2000000003 : Int32) then (bz (1 : Int32) (Q (1 : Int32) S199 S189 S190)) else (bz (0 : Int32) (Q (0 : Int32) S199 S189 S190)))) else (if r191 = (1 : Int32) then (bz (1 : Int32) (Q (1 : Int32) S188 S189 S190)) else (if r191 = 0 then (wp_L_call S188 w0 (16 : Int32) w7 w8 (y187 &&& (5 : Int32)) (0 : Int32) (fun r196 S195 => bz (if r196 = 0 then (1 : Int32) else (0 : Int32)) (Q (if r196 = 0 then (1 : Int32) else (0 : Int32)) S195 S189 S190))) else (bz (0 : Int32) (Q (0 : Int32) S188 S189 S190))))))))))
def wp_L_events_B503 (Q : Int32 → Hp → Hp → Hp → Prop) (S1 S2 S : Hp) (w0 : Nat) (w1 : Nat) (w2 : Nat) (w3 : Int32) (w4 : Int32) (w5 : Int32) (w6 : Int32) : Prop :=
  okA S1 8 w0 ∧ (wp_X8_today S1 w0 (fun r175 S174 => wp_L_some S (w4 >>> ((4 : Int32) &&& 31)) (3 : Int32) (fun r178 S177 => lt (r175 + r178) (fun y179 => wp_L_some S177 (w4 >>> ((7 : Int32) &&& 31)) (24 : Int32) (fun r181 S180 => if y179 ≤ (9999 : Int32) then (wp_L_events_B540 Q S174 S2 S180 w0 w1 w2 w3 w4 w5 w6 y179 r181) else (bz (1 : Int32) (Q (1 : Int32) S174 S2 S180)))))))
def wp_L_events_L417 (Q : Int32 → Hp → Hp → Hp → Prop) (f0 : Nat) (f1 : Nat) (f2 : Nat) (f3 : Int32) (f4 : Int32) (f5 : Int32) (f6 : Int32) (f7 : Int32) (f8 : Int32) (f9 : Int32) : Nat → Hp → Hp → Hp → Int32 → Int32 → Prop
  | 0, _, _, _, _, _ => False
  | n + 1, S1, S2, S, w10, w11 => if (8 : Int32) ≤ w11 then (if f9 = w10 then (okA S1 8 f0 ∧ (wp_X8_why S1 f0 f6 (fun r224 S223 => if r224 < 0 then (bz (0 : Int32) (Q (0 : Int32) S223 S2 S)) else (okA S223 8 f0 ∧ (wp_X8_why S223 f0 f6 (fun r229 S228 => if (4 : Int32) < r229 then (bz (0 : Int32) (Q (0 : Int32) S228 S2 S)) else (if 0 < w10 then (bz (1 : Int32) (Q (1 : Int32) S228 S2 S)) else (okA S228 8 f0 ∧ (wp_X8_why S228 f0 f6 (fun r234 S233 => if r234 = (1 : Int32) then (bz (1 : Int32) (Q (1 : Int32) S233 S2 S)) else (okA S233 8 f0 ∧ (wp_X8_why S233 f0 f6 (fun r239 S238 => bz (if r239 = 0 then (1 : Int32) else (0 : Int32)) (Q (if r239 = 0 then (1 : Int32) else (0 : Int32)) S238 S2 S)) (fun _ _ => False)))) (fun _ _ => False))))) (fun _ _ => False)))) (fun _ _ => False))) else (bz (0 : Int32) (Q (0 : Int32) S1 S2 S))) else (okA S 11 f2 ∧ (vp_in ((12 : Int32) + f6) (g_N S f2) ∧ (lt (w10 + (((g_R S f2 ((12 : Int32) + f6).toNatClampNeg) >>> (w11 &&& 31)) &&& (1 : Int32))) (fun y243 => wp_L_events_L417 Q f0 f1 f2 f3 f4 f5 f6 f7 f8 f9 n S1 S2 S y243 (w11 + (1 : Int32))))))
def wp_L_events_B411 (Q : Int32 → Hp → Hp → Hp → Prop) (S1 S2 S : Hp) (w0 : Nat) (w1 : Nat) (w2 : Nat) (w3 : Int32) (w4 : Int32) (w5 : Int32) (w6 : Int32) (w7 : Int32) (w8 : Int32) (w9 : Int32) : Prop :=
  ∃ n244, wp_L_events_L417 Q w0 w1 w2 w3 w4 w5 w6 w7 w8 w9 n244 S1 S2 S (0 : Int32) (0 : Int32)
def wp_L_events_B290 (Q : Int32 → Hp → Hp → Hp → Prop) (S1 S2 S : Hp) (w0 : Nat) (w1 : Nat) (w2 : Nat) (w3 : Int32) (w4 : Int32) (w5 : Int32) (w6 : Int32) : Prop :=
  okA S 11 w2 ∧ (vp_in (2 : Int32) (g_N S w2) ∧ (wp_L_some S (w4 >>> ((5 : Int32) &&& 31)) (g_R S w2 (2 : Int32).toNatClampNeg) (fun r207 S206 => wp_L_some S206 (w3 >>> ((4 : Int32) &&& 31)) (4 : Int32) (fun r209 S208 => lt (if r209 ≤ 0 then (0 : Int32) else (1 : Int32)) (fun y210 => wp_L_both S1 S2 S208 w0 w1 (14 : Int32) w6 r207 y210 (0 : Int32) (fun r214 S211 S212 S213 => if r214 = (-2000000003 : Int32) then (if y210 = (1 : Int32) then (okA S213 11 w2 ∧ (vp_in ((12 : Int32) + w6) (g_N S213 w2) ∧ (bz (if (((g_R S213 w2 ((12 : Int32) + w6).toNatClampNeg) >>> (r207 &&& 31)) &&& (1 : Int32)) = 0 then (1 : Int32) else (0 : Int32)) (Q (if (((g_R S213 w2 ((12 : Int32) + w6).toNatClampNeg) >>> (r207 &&& 31)) &&& (1 : Int32)) = 0 then (1 : Int32) else (0 : Int32)) S211 S212 S213)))) else (bz (0 : Int32) (Q (0 : Int32) S211 S212 S213))) else (if y210 = (1 : Int32) then (okA S213 11 w2 ∧ (vp_in ((12 : Int32) + w6) (g_N S213 w2) ∧ (vp_in ((12 : Int32) + w6) (g_N S213 w2) ∧ (lt (s_R S213 w2 ((12 : Int32) + w6).toNatClampNeg ((g_R S213 w2 ((12 : Int32) + w6).toNatClampNeg) ||| ((1 : Int32) <<< (r207 &&& 31)))) (fun S248 => wp_L_events_B411 Q S211 S212 S248 w0 w1 w2 w3 w4 w5 w6 r207 y210 r214))))) else (okA S213 11 w2 ∧ (vp_in ((12 : Int32) + w6) (g_N S213 w2) ∧ (vp_in ((12 : Int32) + w6) (g_N S213 w2) ∧ (lt (s_R S213 w2 ((12 : Int32) + w6).toNatClampNeg ((g_R S213 w2 ((12 : Int32) + w6).toNatClampNeg) &&& (((1 : Int32) <<< (r207 &&& 31)) ^^^ (-1 : Int32)))) (fun S220 => wp_L_events_B411 Q S211 S212 S220 w0 w1 w2 w3 w4 w5 w6 r207 y210 r214))))))))))))
def wp_L_events_B267 (Q : Int32 → Hp → Hp → Hp → Prop) (S1 S2 S : Hp) (w0 : Nat) (w1 : Nat) (w2 : Nat) (w3 : Int32) (w4 : Int32) (w5 : Int32) : Prop :=
  okA S 11 w2 ∧ (vp_in (3 : Int32) (g_N S w2) ∧ (wp_L_some S w4 (g_R S w2 (3 : Int32).toNatClampNeg) (fun r171 S170 => if (7 : Int32) ≤ w5 then (wp_L_events_B503 Q S1 S2 S170 w0 w1 w2 w3 w4 w5 r171) else (okA S170 11 w2 ∧ (vp_in (2 : Int32) (g_N S170 w2) ∧ (if (g_R S170 w2 (2 : Int32).toNatClampNeg) ≤ 0 then (wp_L_events_B503 Q S1 S2 S170 w0 w1 w2 w3 w4 w5 r171) else (wp_L_events_B290 Q S1 S2 S170 w0 w1 w2 w3 w4 w5 r171)))))))
def wp_L_events (S1 S2 S : Hp) (x0 : Nat) (x1 : Nat) (x2 : Nat) (x3 : Int32) (x4 : Int32) (Q : Int32 → Hp → Hp → Hp → Prop) : Prop :=
  wp_L_some S x3 (9 : Int32) (fun r102 S101 => if r102 < (3 : Int32) then (wp_L_events_B20 Q S1 S2 S101 x0 x1 x2 x3 x4 r102) else (okA S101 11 x2 ∧ (vp_in (3 : Int32) (g_N S101 x2) ∧ (if (g_R S101 x2 (3 : Int32).toNatClampNeg) = 0 then (wp_L_events_B20 Q S1 S2 S101 x0 x1 x2 x3 x4 r102) else (wp_L_events_B267 Q S1 S2 S101 x0 x1 x2 x3 x4 r102)))))
def rm_L_events : Room := { frames := 12, cells := 138, slots := 4410, locals := 356 }
set_option maxHeartbeats 4000000 in
set_option maxRecDepth 100000 in
theorem k_L_events_B175 (l : Launch) (hfl : l.stackTraces = false) (v : Ev) {x9 : P9} {A : Nat → Prop} {E : State → Prop} {X0 Y : va_W} (C : ∀ X, Cx l v RL cL_events 12 (some .boolean) "events" (x9, X, A, E)) (Q : Int32 → Hp → Hp → Hp → Prop) (T : E3 v rm_L_events (Q3i v) Q X0 Y A E x9) (S1 S2 S : Hp) (t1 : g_T S1 = v.2.2.1) (t2 : g_T S2 = v.2.2.1) (w0 : Nat) (w1 : Nat) (w2 : Nat) (w3 : Int32) (w4 : Int32) (w5 : Int32) (w6 : Int32) (w7 : Int32) (w8 : Int32) (w9 : Int32) (h : wp_L_events_B175 Q S1 S2 S w0 w1 w2 w3 w4 w5 w6 w7 w8 w9) : ZZ l v 12 rm_L_events (x9, Y3 v.2.1 Y S1 S2, A, E) 18 226 S 175 [(0, va_rf (some w0)), (1, va_rf (some w1)), (2, va_rf (some w2)), (3, .int w3), (4, .int w4), (5, .int w5), (6, .int w6), (7, .int w7), (8, .int w8), (9, .int w9)] [] := by
  unfold wp_L_events_B175 at h
  refine z_aload_n (C _) (pc := 175) dL_events_175 2 rfl ?_
  refine z_iconst (C _) (pc := 176) (x := (3 : Int32)) dL_events_176 kic_3 ?_
  refine z_dup2 (C _) (pc := 177) dL_events_177 rfl (cat_rf _) ?_
  obtain ⟨o145, h⟩ := h
  obtain ⟨v146, h⟩ := h
  refine z_iald (C _) (pc := 178) dL_events_178 rfl o145 v146 ?_
  refine z_iload (C _) (pc := 179) dL_events_179 8 rfl ?_
  refine z_t_if_lt (C _) (pc := 181) dL_events_181 dL_events_184 kic_1 dL_events_185 dL_events_188 kic_0 ?_
  refine z_iadd (C _) (pc := 189) dL_events_189 ?_
  obtain ⟨v147, h⟩ := h
  refine z_iast (C _) (pc := 190) dL_events_190 rfl o145 v147 ?_
  refine z_lt h (fun S148 h => ?_)
  refine z_iload (C _) (pc := 191) dL_events_191 9 rfl ?_
  refine z_if_eq (C _) (pc := 193) (tgt := 265) dL_events_193 (by decide) h (fun h => ?_) (fun h => ?_)
  · refine z_iconst (C _) (pc := 265) (x := (0 : Int32)) dL_events_265 kic_0 ?_
    exact z_zret3 (C []) (pc := 266) T t1 t2 dL_events_266 (by decide) (by decide) h
  · refine z_iload (C _) (pc := 196) dL_events_196 8 rfl ?_
    refine z_ldc (C _) (pc := 198) (x := (-2000000003 : Int32)) dL_events_198 bw_778 ?_
    refine z_icmp_ne (C _) (pc := 200) (tgt := 214) dL_events_200 (by decide) h (fun h => ?_) (fun h => ?_)
    · refine z_iload (C _) (pc := 214) dL_events_214 8 rfl ?_
      refine z_ldc (C _) (pc := 216) (x := (-2000000002 : Int32)) dL_events_216 bw_777 ?_
      refine z_icmp_ne (C _) (pc := 218) (tgt := 232) dL_events_218 (by decide) h (fun h => ?_) (fun h => ?_)
      · refine z_iload (C _) (pc := 232) dL_events_232 8 rfl ?_
        refine z_aload_n (C _) (pc := 234) dL_events_234 2 rfl ?_
        refine z_iconst (C _) (pc := 235) (x := (3 : Int32)) dL_events_235 kic_3 ?_
        obtain ⟨o149, h⟩ := h
        obtain ⟨v150, h⟩ := h
        refine z_iald (C _) (pc := 236) dL_events_236 rfl o149 v150 ?_
        refine z_iconst (C _) (pc := 237) (x := (1 : Int32)) dL_events_237 kic_1 ?_
        refine z_isub (C _) (pc := 238) dL_events_238 ?_
        refine z_icmp_ne (C _) (pc := 239) (tgt := 265) dL_events_239 (by decide) h (fun h => ?_) (fun h => ?_)
        · refine z_iconst (C _) (pc := 265) (x := (0 : Int32)) dL_events_265 kic_0 ?_
          exact z_zret3 (C []) (pc := 266) T t1 t2 dL_events_266 (by decide) (by decide) h
        · refine z_aload_n (C _) (pc := 242) dL_events_242 0 rfl ?_
          refine z_iload (C _) (pc := 243) dL_events_243 8 rfl ?_
          obtain ⟨o151, h⟩ := h
          refine z_s1 t1 (fun t152 => ?_)
          refine z_Vi (C _) (pc := 245) (KX := fun _ _ => False) (kc' := 19) (ks' := 231) (As := [.int w8]) (rest := []) rfl (c_X8_why_n l v S1 w0 w8) mw_X8_why bw_298 bw_299 bw_300 (fit_of rfl) rfl rfl (Nat.le_of_ble_eq_true rfl) (by decide) rfl o151 dL_events_245 h (fun r154 S153 h => ?_) (fun En S9 h => h.elim)
          refine z_s1' t152 (fun t155 => ?_)
          refine z_iconst (C _) (pc := 248) (x := (1 : Int32)) dL_events_248 kic_1 ?_
          refine z_icmp_eq (C _) (pc := 249) (tgt := 261) dL_events_249 (by decide) h (fun h => ?_) (fun h => ?_)
          · refine z_iconst (C _) (pc := 261) (x := (1 : Int32)) dL_events_261 kic_1 ?_
            refine z_goto (C _) (pc := 262) (tgt := 266) dL_events_262 (by decide) ?_
            exact z_zret3 (C []) (pc := 266) T t155 t2 dL_events_266 (by decide) (by decide) h
          · refine z_aload_n (C _) (pc := 252) dL_events_252 0 rfl ?_
            refine z_iload (C _) (pc := 253) dL_events_253 8 rfl ?_
            obtain ⟨o156, h⟩ := h
            refine z_s1 t155 (fun t157 => ?_)
            refine z_Vi (C _) (pc := 255) (KX := fun _ _ => False) (kc' := 20) (ks' := 236) (As := [.int w8]) (rest := []) rfl (c_X8_why_n l v S153 w0 w8) mw_X8_why bw_298 bw_299 bw_300 (fit_of rfl) rfl rfl (Nat.le_of_ble_eq_true rfl) (by decide) rfl o156 dL_events_255 h (fun r159 S158 h => ?_) (fun En S9 h => h.elim)
            refine z_s1' t157 (fun t160 => ?_)
            refine z_t_if_ne (C _) (pc := 258) dL_events_258 dL_events_261 kic_1 dL_events_262 dL_events_265 kic_0 ?_
            exact z_zret3 (C []) (pc := 266) T t160 t2 dL_events_266 (by decide) (by decide) h
      · refine z_iload (C _) (pc := 221) dL_events_221 7 rfl ?_
        refine z_sipush (C _) (pc := 223) (x := (9999 : Int32)) dL_events_223 ksp_9999 ?_
        refine z_icmp_le (C _) (pc := 226) (tgt := 265) dL_events_226 (by decide) h (fun h => ?_) (fun h => ?_)
        · refine z_iconst (C _) (pc := 265) (x := (0 : Int32)) dL_events_265 kic_0 ?_
          exact z_zret3 (C []) (pc := 266) T t1 t2 dL_events_266 (by decide) (by decide) h
        · refine z_goto (C _) (pc := 229) (tgt := 261) dL_events_229 (by decide) ?_
          refine z_iconst (C _) (pc := 261) (x := (1 : Int32)) dL_events_261 kic_1 ?_
          refine z_goto (C _) (pc := 262) (tgt := 266) dL_events_262 (by decide) ?_
          exact z_zret3 (C []) (pc := 266) T t1 t2 dL_events_266 (by decide) (by decide) h
    · refine z_aload_n (C _) (pc := 203) dL_events_203 2 rfl ?_
      refine z_iconst (C _) (pc := 204) (x := (3 : Int32)) dL_events_204 kic_3 ?_
      obtain ⟨o161, h⟩ := h
      obtain ⟨v162, h⟩ := h
      refine z_iald (C _) (pc := 205) dL_events_205 rfl o161 v162 ?_
      refine z_bipush (C _) (pc := 206) (x := (20 : Int32)) dL_events_206 kbp_20 ?_
      refine z_icmp_ne (C _) (pc := 208) (tgt := 265) dL_events_208 (by decide) h (fun h => ?_) (fun h => ?_)
      · refine z_iconst (C _) (pc := 265) (x := (0 : Int32)) dL_events_265 kic_0 ?_
        exact z_zret3 (C []) (pc := 266) T t1 t2 dL_events_266 (by decide) (by decide) h
      · refine z_goto (C _) (pc := 211) (tgt := 261) dL_events_211 (by decide) ?_
        refine z_iconst (C _) (pc := 261) (x := (1 : Int32)) dL_events_261 kic_1 ?_
        refine z_goto (C _) (pc := 262) (tgt := 266) dL_events_262 (by decide) ?_
        exact z_zret3 (C []) (pc := 266) T t1 t2 dL_events_266 (by decide) (by decide) h
set_option maxHeartbeats 4000000 in
set_option maxRecDepth 100000 in
theorem k_L_events_B20 (l : Launch) (hfl : l.stackTraces = false) (v : Ev) {x9 : P9} {A : Nat → Prop} {E : State → Prop} {X0 Y : va_W} (C : ∀ X, Cx l v RL cL_events 12 (some .boolean) "events" (x9, X, A, E)) (Q : Int32 → Hp → Hp → Hp → Prop) (T : E3 v rm_L_events (Q3i v) Q X0 Y A E x9) (S1 S2 S : Hp) (t1 : g_T S1 = v.2.2.1) (t2 : g_T S2 = v.2.2.1) (w0 : Nat) (w1 : Nat) (w2 : Nat) (w3 : Int32) (w4 : Int32) (w5 : Int32) (h : wp_L_events_B20 Q S1 S2 S w0 w1 w2 w3 w4 w5) : ZZ l v 12 rm_L_events (x9, Y3 v.2.1 Y S1 S2, A, E) 0 0 S 20 [(0, va_rf (some w0)), (1, va_rf (some w1)), (2, va_rf (some w2)), (3, .int w3), (4, .int w4), (5, .int w5)] [] := by
  unfold wp_L_events_B20 at h
  refine z_iload (C _) (pc := 20) dL_events_20 4 rfl ?_
  refine z_iconst (C _) (pc := 22) (x := (4 : Int32)) dL_events_22 kic_4 ?_
  refine z_ishr (C _) (pc := 23) dL_events_23 ?_
  refine z_bipush (C _) (pc := 24) (x := (24 : Int32)) dL_events_24 kbp_24 ?_
  refine z_Si8 (C _) (pc := 26) (KX := fun _ _ => False) (kc' := 0) (ks' := 0) (As := [.int (w4 >>> ((4 : Int32) &&& 31)), .int (24 : Int32)]) (rest := []) (c_L_some l v S (w4 >>> ((4 : Int32) &&& 31)) (24 : Int32)) mw_L_some bw_101 bw_102 (fit_of rfl) rfl rfl (Nat.le_of_ble_eq_true rfl) dL_events_26 h (fun r104 S103 h => ?_) (fun En S9 h => h.elim)
  refine z_istore (C _) (pc := 29) (lv' := [(6, .int r104), (0, va_rf (some w0)), (1, va_rf (some w1)), (2, va_rf (some w2)), (3, .int w3), (4, .int w4), (5, .int w5)]) dL_events_29 (by decide) rfl ?_
  refine z_aload_n (C _) (pc := 31) dL_events_31 1 rfl ?_
  obtain ⟨o105, h⟩ := h
  refine z_s1 t1 (fun t106 => ?_)
  refine z_Vi (C _) (pc := 32) (KX := fun _ _ => False) (kc' := 0) (ks' := 0) (As := []) (rest := []) rfl (c_X8_today l v S1 w0) mw_X8_today bw_108 bw_109 bw_110 (fit_of rfl) rfl rfl (Nat.le_of_ble_eq_true rfl) (by decide) rfl o105 dL_events_32 h (fun r108 S107 h => ?_) (fun En S9 h => h.elim)
  refine z_s1' t106 (fun t109 => ?_)
  refine z_iload (C _) (pc := 35) dL_events_35 5 rfl ?_
  refine z_bipush (C _) (pc := 37) (x := (8 : Int32)) dL_events_37 kbp_8 ?_
  refine z_ishr (C _) (pc := 39) dL_events_39 ?_
  refine z_iconst (C _) (pc := 40) (x := (3 : Int32)) dL_events_40 kic_3 ?_
  refine z_Si8 (C _) (pc := 41) (KX := fun _ _ => False) (kc' := 0) (ks' := 0) (As := [.int (w4 >>> ((8 : Int32) &&& 31)), .int (3 : Int32)]) (rest := [.int r108]) (c_L_some l v S103 (w4 >>> ((8 : Int32) &&& 31)) (3 : Int32)) mw_L_some bw_101 bw_102 (fit_of rfl) rfl rfl (Nat.le_of_ble_eq_true rfl) dL_events_41 h (fun r111 S110 h => ?_) (fun En S9 h => h.elim)
  refine z_iadd (C _) (pc := 44) dL_events_44 ?_
  refine z_nI h (fun y112 h => ?_)
  refine z_istore (C _) (pc := 45) (lv' := [(7, .int y112), (6, .int r104), (0, va_rf (some w0)), (1, va_rf (some w1)), (2, va_rf (some w2)), (3, .int w3), (4, .int w4), (5, .int w5)]) dL_events_45 (by decide) rfl ?_
  refine z_aload_n (C _) (pc := 47) dL_events_47 2 rfl ?_
  refine z_iload (C _) (pc := 48) dL_events_48 6 rfl ?_
  refine z_aload_n (C _) (pc := 50) dL_events_50 4 rfl ?_
  refine z_iconst (C _) (pc := 51) (x := (1 : Int32)) dL_events_51 kic_1 ?_
  obtain ⟨o113, h⟩ := h
  obtain ⟨v114, h⟩ := h
  refine z_iald (C _) (pc := 52) dL_events_52 rfl o113 v114 ?_
  refine z_Si8 (C _) (pc := 53) (KX := fun _ _ => False) (kc' := 0) (ks' := 0) (As := [.int w4, .int (g_R S110 w2 (1 : Int32).toNatClampNeg)]) (rest := [va_rf (some w0)]) (c_L_some l v S110 w4 (g_R S110 w2 (1 : Int32).toNatClampNeg)) mw_L_some bw_101 bw_102 (fit_of rfl) rfl rfl (Nat.le_of_ble_eq_true rfl) dL_events_53 h (fun r116 S115 h => ?_) (fun En S9 h => h.elim)
  refine z_iload (C _) (pc := 56) dL_events_56 6 rfl ?_
  refine z_iconst (C _) (pc := 58) (x := (3 : Int32)) dL_events_58 kic_3 ?_
  refine z_ishr (C _) (pc := 59) dL_events_59 ?_
  refine z_iconst (C _) (pc := 60) (x := (3 : Int32)) dL_events_60 kic_3 ?_
  refine z_Si8 (C _) (pc := 61) (KX := fun _ _ => False) (kc' := 0) (ks' := 0) (As := [.int (w4 >>> ((3 : Int32) &&& 31)), .int (3 : Int32)]) (rest := [.int r116, va_rf (some w0)]) (c_L_some l v S115 (w4 >>> ((3 : Int32) &&& 31)) (3 : Int32)) mw_L_some bw_101 bw_102 (fit_of rfl) rfl rfl (Nat.le_of_ble_eq_true rfl) dL_events_61 h (fun r118 S117 h => ?_) (fun En S9 h => h.elim)
  refine z_iload (C _) (pc := 64) dL_events_64 6 rfl ?_
  refine z_bipush (C _) (pc := 66) (x := (6 : Int32)) dL_events_66 kbp_6 ?_
  refine z_ishr (C _) (pc := 68) dL_events_68 ?_
  refine z_iconst (C _) (pc := 69) (x := (4 : Int32)) dL_events_69 kic_4 ?_
  refine z_Si8 (C _) (pc := 70) (KX := fun _ _ => False) (kc' := 0) (ks' := 0) (As := [.int (w4 >>> ((6 : Int32) &&& 31)), .int (4 : Int32)]) (rest := [.int r118, .int r116, va_rf (some w0)]) (c_L_some l v S117 (w4 >>> ((6 : Int32) &&& 31)) (4 : Int32)) mw_L_some bw_101 bw_102 (fit_of rfl) rfl rfl (Nat.le_of_ble_eq_true rfl) dL_events_70 h (fun r120 S119 h => ?_) (fun En S9 h => h.elim)
  refine z_iload (C _) (pc := 73) dL_events_73 0 rfl ?_
  refine z_iload (C _) (pc := 75) dL_events_75 1 rfl ?_
  refine z_iconst (C _) (pc := 77) (x := (1 : Int32)) dL_events_77 kic_1 ?_
  refine z_iload (C _) (pc := 78) dL_events_78 6 rfl ?_
  refine z_bipush (C _) (pc := 80) (x := (9 : Int32)) dL_events_80 kbp_9 ?_
  refine z_ishr (C _) (pc := 82) dL_events_82 ?_
  refine z_bipush (C _) (pc := 83) (x := (24 : Int32)) dL_events_83 kbp_24 ?_
  refine z_iload (C _) (pc := 85) dL_events_85 1 rfl ?_
  refine z_isub (C _) (pc := 87) dL_events_87 ?_
  refine z_Si8 (C _) (pc := 88) (KX := fun _ _ => False) (kc' := 0) (ks' := 0) (As := [.int (w4 >>> ((9 : Int32) &&& 31)), .int ((24 : Int32) - r104)]) (rest := [.int (1 : Int32), .int r104, .int y112, .int r120, .int r118, .int r116, va_rf (some w0)]) (c_L_some l v S119 (w4 >>> ((9 : Int32) &&& 31)) ((24 : Int32) - r104)) mw_L_some bw_101 bw_102 (fit_of rfl) rfl rfl (Nat.le_of_ble_eq_true rfl) dL_events_88 h (fun r122 S121 h => ?_) (fun En S9 h => h.elim)
  refine z_iadd (C _) (pc := 91) dL_events_91 ?_
  refine z_s1 t109 (fun t123 => ?_)
  refine z_SW (C _) (pc := 92) (kc' := 9) (ks' := 113) (As := [va_rf (some w0), .int r116, .int r118, .int r120, .int y112, .int r104, .int ((1 : Int32) + r122)]) (rest := []) (c_L_event l hfl v S107 w0 r116 r118 r120 y112 r104 ((1 : Int32) + r122)) bw_834 bw_0 (by decide +kernel) (n := 7) (by decide +kernel) bw_832 bw_833 (fit_of rfl) rfl rfl (Nat.le_of_ble_eq_true rfl) dL_events_92 h (fun r125 S124 h => ?_)
  refine z_s1' t123 (fun t126 => ?_)
  refine z_istore (C _) (pc := 95) (lv' := [(8, .int r125), (7, .int y112), (6, .int r104), (0, va_rf (some w0)), (1, va_rf (some w1)), (2, va_rf (some w2)), (3, .int w3), (4, .int w4), (5, .int w5)]) dL_events_95 (by decide) rfl ?_
  refine z_iload (C _) (pc := 97) dL_events_97 0 rfl ?_
  refine z_aload_n (C _) (pc := 99) dL_events_99 4 rfl ?_
  refine z_iload (C _) (pc := 100) dL_events_100 7 rfl ?_
  refine z_aload_n (C _) (pc := 102) dL_events_102 5 rfl ?_
  refine z_iconst (C _) (pc := 103) (x := (1 : Int32)) dL_events_103 kic_1 ?_
  obtain ⟨o127, h⟩ := h
  obtain ⟨v128, h⟩ := h
  refine z_iald (C _) (pc := 104) dL_events_104 rfl o127 v128 ?_
  refine z_Si8 (C _) (pc := 105) (KX := fun _ _ => False) (kc' := 9) (ks' := 113) (As := [.int w4, .int (g_R S121 w2 (1 : Int32).toNatClampNeg)]) (rest := [va_rf (some w1), .int r125]) (c_L_some l v S121 w4 (g_R S121 w2 (1 : Int32).toNatClampNeg)) mw_L_some bw_101 bw_102 (fit_of rfl) rfl rfl (Nat.le_of_ble_eq_true rfl) dL_events_105 h (fun r130 S129 h => ?_) (fun En S9 h => h.elim)
  refine z_iload (C _) (pc := 108) dL_events_108 7 rfl ?_
  refine z_iconst (C _) (pc := 110) (x := (3 : Int32)) dL_events_110 kic_3 ?_
  refine z_ishr (C _) (pc := 111) dL_events_111 ?_
  refine z_iconst (C _) (pc := 112) (x := (3 : Int32)) dL_events_112 kic_3 ?_
  refine z_Si8 (C _) (pc := 113) (KX := fun _ _ => False) (kc' := 9) (ks' := 113) (As := [.int (w4 >>> ((3 : Int32) &&& 31)), .int (3 : Int32)]) (rest := [.int r130, va_rf (some w1), .int r125]) (c_L_some l v S129 (w4 >>> ((3 : Int32) &&& 31)) (3 : Int32)) mw_L_some bw_101 bw_102 (fit_of rfl) rfl rfl (Nat.le_of_ble_eq_true rfl) dL_events_113 h (fun r132 S131 h => ?_) (fun En S9 h => h.elim)
  refine z_iload (C _) (pc := 116) dL_events_116 7 rfl ?_
  refine z_bipush (C _) (pc := 118) (x := (6 : Int32)) dL_events_118 kbp_6 ?_
  refine z_ishr (C _) (pc := 120) dL_events_120 ?_
  refine z_iconst (C _) (pc := 121) (x := (4 : Int32)) dL_events_121 kic_4 ?_
  refine z_Si8 (C _) (pc := 122) (KX := fun _ _ => False) (kc' := 9) (ks' := 113) (As := [.int (w4 >>> ((6 : Int32) &&& 31)), .int (4 : Int32)]) (rest := [.int r132, .int r130, va_rf (some w1), .int r125]) (c_L_some l v S131 (w4 >>> ((6 : Int32) &&& 31)) (4 : Int32)) mw_L_some bw_101 bw_102 (fit_of rfl) rfl rfl (Nat.le_of_ble_eq_true rfl) dL_events_122 h (fun r134 S133 h => ?_) (fun En S9 h => h.elim)
  refine z_iload (C _) (pc := 125) dL_events_125 1 rfl ?_
  refine z_iload (C _) (pc := 127) dL_events_127 2 rfl ?_
  refine z_iconst (C _) (pc := 129) (x := (1 : Int32)) dL_events_129 kic_1 ?_
  refine z_iload (C _) (pc := 130) dL_events_130 7 rfl ?_
  refine z_bipush (C _) (pc := 132) (x := (9 : Int32)) dL_events_132 kbp_9 ?_
  refine z_ishr (C _) (pc := 134) dL_events_134 ?_
  refine z_bipush (C _) (pc := 135) (x := (24 : Int32)) dL_events_135 kbp_24 ?_
  refine z_iload (C _) (pc := 137) dL_events_137 2 rfl ?_
  refine z_isub (C _) (pc := 139) dL_events_139 ?_
  refine z_Si8 (C _) (pc := 140) (KX := fun _ _ => False) (kc' := 9) (ks' := 113) (As := [.int (w4 >>> ((9 : Int32) &&& 31)), .int ((24 : Int32) - r104)]) (rest := [.int (1 : Int32), .int r104, .int y112, .int r134, .int r132, .int r130, va_rf (some w1), .int r125]) (c_L_some l v S133 (w4 >>> ((9 : Int32) &&& 31)) ((24 : Int32) - r104)) mw_L_some bw_101 bw_102 (fit_of rfl) rfl rfl (Nat.le_of_ble_eq_true rfl) dL_events_140 h (fun r136 S135 h => ?_) (fun En S9 h => h.elim)
  refine z_iadd (C _) (pc := 143) dL_events_143 ?_
  refine z_s2 t2 (fun t137 => ?_)
  refine z_SW (C _) (pc := 144) (kc' := 18) (ks' := 226) (As := [va_rf (some w1), .int r130, .int r132, .int r134, .int y112, .int r104, .int ((1 : Int32) + r136)]) (rest := [.int r125]) (c_L_event l hfl v S2 w1 r130 r132 r134 y112 r104 ((1 : Int32) + r136)) bw_834 bw_0 (by decide +kernel) (n := 7) (by decide +kernel) bw_832 bw_833 (fit_of rfl) rfl rfl (Nat.le_of_ble_eq_true rfl) dL_events_144 h (fun r139 S138 h => ?_)
  refine z_s2' t137 (fun t140 => ?_)
  refine z_t_icmp_ne (C _) (pc := 147) dL_events_147 dL_events_150 kic_1 dL_events_151 dL_events_154 kic_0 ?_
  refine z_nI h (fun y141 h => ?_)
  refine z_istore (C _) (pc := 155) (lv' := [(9, .int y141), (8, .int r125), (7, .int y112), (6, .int r104), (0, va_rf (some w0)), (1, va_rf (some w1)), (2, va_rf (some w2)), (3, .int w3), (4, .int w4), (5, .int w5)]) dL_events_155 (by decide) rfl ?_
  refine z_aload_n (C _) (pc := 157) dL_events_157 6 rfl ?_
  refine z_bipush (C _) (pc := 158) (x := (12 : Int32)) dL_events_158 kbp_12 ?_
  refine z_iload (C _) (pc := 160) dL_events_160 1 rfl ?_
  refine z_if_lt (C _) (pc := 162) (tgt := 170) dL_events_162 (by decide) h (fun h => ?_) (fun h => ?_)
  · refine z_bipush (C _) (pc := 170) (x := (20 : Int32)) dL_events_170 kbp_20 ?_
    refine z_iadd (C _) (pc := 172) dL_events_172 ?_
    refine z_iconst (C _) (pc := 173) (x := (0 : Int32)) dL_events_173 kic_0 ?_
    obtain ⟨o142, h⟩ := h
    obtain ⟨v143, h⟩ := h
    refine z_iast (C _) (pc := 174) dL_events_174 rfl o142 v143 ?_
    refine z_lt h (fun S144 h => ?_)
    refine z_sub [4, 5, 6, 7, 8, 9, 3, 2, 1, 0] (lv' := [(0, va_rf (some w0)), (1, va_rf (some w1)), (2, va_rf (some w2)), (3, .int w3), (4, .int w4), (5, .int w5), (6, .int r104), (7, .int y112), (8, .int r125), (9, .int y141)]) rfl ?_
    exact k_L_events_B175 l hfl v C Q T S124 S138 S144 t126 t140 w0 w1 w2 w3 w4 w5 r104 y112 r125 y141 h
  · refine z_iload (C _) (pc := 165) dL_events_165 1 rfl ?_
    refine z_goto (C _) (pc := 167) (tgt := 172) dL_events_167 (by decide) ?_
    refine z_iadd (C _) (pc := 172) dL_events_172 ?_
    refine z_iconst (C _) (pc := 173) (x := (0 : Int32)) dL_events_173 kic_0 ?_
    obtain ⟨o163, h⟩ := h
    obtain ⟨v164, h⟩ := h
    refine z_iast (C _) (pc := 174) dL_events_174 rfl o163 v164 ?_
    refine z_lt h (fun S165 h => ?_)
    refine z_sub [4, 5, 6, 7, 8, 9, 3, 2, 1, 0] (lv' := [(0, va_rf (some w0)), (1, va_rf (some w1)), (2, va_rf (some w2)), (3, .int w3), (4, .int w4), (5, .int w5), (6, .int r104), (7, .int y112), (8, .int r125), (9, .int y141)]) rfl ?_
    exact k_L_events_B175 l hfl v C Q T S124 S138 S165 t126 t140 w0 w1 w2 w3 w4 w5 r104 y112 r125 y141 h
set_option maxHeartbeats 4000000 in
set_option maxRecDepth 100000 in
theorem k_L_events_B540 (l : Launch) (hfl : l.stackTraces = false) (v : Ev) {x9 : P9} {A : Nat → Prop} {E : State → Prop} {X0 Y : va_W} (C : ∀ X, Cx l v RL cL_events 12 (some .boolean) "events" (x9, X, A, E)) (Q : Int32 → Hp → Hp → Hp → Prop) (T : E3 v rm_L_events (Q3i v) Q X0 Y A E x9) (S1 S2 S : Hp) (t1 : g_T S1 = v.2.2.1) (t2 : g_T S2 = v.2.2.1) (w0 : Nat) (w1 : Nat) (w2 : Nat) (w3 : Int32) (w4 : Int32) (w5 : Int32) (w6 : Int32) (w7 : Int32) (w8 : Int32) (h : wp_L_events_B540 Q S1 S2 S w0 w1 w2 w3 w4 w5 w6 w7 w8) : ZZ l v 12 rm_L_events (x9, Y3 v.2.1 Y S1 S2, A, E) 0 0 S 540 [(0, va_rf (some w0)), (1, va_rf (some w1)), (2, va_rf (some w2)), (3, .int w3), (4, .int w4), (5, .int w5), (6, .int w6), (7, .int w7), (8, .int w8)] [] := by
  unfold wp_L_events_B540 at h
  refine z_iconst (C _) (pc := 540) (x := (1 : Int32)) dL_events_540 kic_1 ?_
  refine z_aload_n (C _) (pc := 541) dL_events_541 2 rfl ?_
  refine z_iconst (C _) (pc := 542) (x := (2 : Int32)) dL_events_542 kic_2 ?_
  obtain ⟨o182, h⟩ := h
  obtain ⟨v183, h⟩ := h
  refine z_iald (C _) (pc := 543) dL_events_543 rfl o182 v183 ?_
  refine z_ishl (C _) (pc := 544) dL_events_544 ?_
  refine z_iconst (C _) (pc := 545) (x := (1 : Int32)) dL_events_545 kic_1 ?_
  refine z_isub (C _) (pc := 546) dL_events_546 ?_
  refine z_nI h (fun y184 h => ?_)
  refine z_istore (C _) (pc := 547) (lv' := [(9, .int y184), (0, va_rf (some w0)), (1, va_rf (some w1)), (2, va_rf (some w2)), (3, .int w3), (4, .int w4), (5, .int w5), (6, .int w6), (7, .int w7), (8, .int w8)]) dL_events_547 (by decide) rfl ?_
  refine z_iload_n (C _) (pc := 549) dL_events_549 4 rfl ?_
  refine z_iconst (C _) (pc := 550) (x := (4 : Int32)) dL_events_550 kic_4 ?_
  refine z_ishr (C _) (pc := 551) dL_events_551 ?_
  refine z_sipush (C _) (pc := 552) (x := (256 : Int32)) dL_events_552 ksp_256 ?_
  refine z_Si8 (C _) (pc := 555) (KX := fun _ _ => False) (kc' := 0) (ks' := 0) (As := [.int (w3 >>> ((4 : Int32) &&& 31)), .int (256 : Int32)]) (rest := []) (c_L_some l v S (w3 >>> ((4 : Int32) &&& 31)) (256 : Int32)) mw_L_some bw_101 bw_102 (fit_of rfl) rfl rfl (Nat.le_of_ble_eq_true rfl) dL_events_555 h (fun r186 S185 h => ?_) (fun En S9 h => h.elim)
  refine z_iload (C _) (pc := 558) dL_events_558 0 rfl ?_
  refine z_iand (C _) (pc := 560) dL_events_560 ?_
  refine z_bipush (C _) (pc := 561) (x := (31 : Int32)) dL_events_561 kbp_31 ?_
  refine z_iand (C _) (pc := 563) dL_events_563 ?_
  refine z_nI h (fun y187 h => ?_)
  refine z_istore (C _) (pc := 564) (lv' := [(10, .int y187), (9, .int y184), (0, va_rf (some w0)), (1, va_rf (some w1)), (2, va_rf (some w2)), (3, .int w3), (4, .int w4), (5, .int w5), (6, .int w6), (7, .int w7), (8, .int w8)]) dL_events_564 (by decide) rfl ?_
  refine z_aload_n (C _) (pc := 566) dL_events_566 2 rfl ?_
  refine z_aload_n (C _) (pc := 567) dL_events_567 3 rfl ?_
  refine z_bipush (C _) (pc := 568) (x := (16 : Int32)) dL_events_568 kbp_16 ?_
  refine z_iload (C _) (pc := 570) dL_events_570 9 rfl ?_
  refine z_iload (C _) (pc := 572) dL_events_572 10 rfl ?_
  refine z_iload (C _) (pc := 574) dL_events_574 0 rfl ?_
  refine z_iconst (C _) (pc := 576) (x := (0 : Int32)) dL_events_576 kic_0 ?_
  refine z_S3i (C []) (pc := 577) (kc' := 92) (ks' := 2940) (As := [va_rf (some w0), va_rf (some w1), .int (16 : Int32), .int w7, .int w8, .int y187, .int (0 : Int32)]) (rest := []) (c_L_both l hfl v S1 S2 S185 w0 w1 (16 : Int32) w7 w8 y187 (0 : Int32)) mw_L_both bw_364 bw_365 (fit_of rfl) rfl rfl (Nat.le_of_ble_eq_true rfl) t1 t2 dL_events_577 h (fun r191 S188 S189 S190 t192 t193 h => ?_)
  refine z_istore (C _) (pc := 580) (lv' := [(11, .int r191), (10, .int y187), (9, .int y184), (0, va_rf (some w0)), (1, va_rf (some w1)), (2, va_rf (some w2)), (3, .int w3), (4, .int w4), (5, .int w5), (6, .int w6), (7, .int w7), (8, .int w8)]) dL_events_580 (by decide) rfl ?_
  refine z_iload (C _) (pc := 582) dL_events_582 0 rfl ?_
  refine z_ldc (C _) (pc := 584) (x := (-2000000003 : Int32)) dL_events_584 bw_778 ?_
  refine z_icmp_ne (C _) (pc := 586) (tgt := 614) dL_events_586 (by decide) h (fun h => ?_) (fun h => ?_)
  · refine z_iload (C _) (pc := 614) dL_events_614 0 rfl ?_
    refine z_iconst (C _) (pc := 616) (x := (1 : Int32)) dL_events_616 kic_1 ?_
    refine z_icmp_eq (C _) (pc := 617) (tgt := 643) dL_events_617 (by decide) h (fun h => ?_) (fun h => ?_)
    · refine z_iconst (C _) (pc := 643) (x := (1 : Int32)) dL_events_643 kic_1 ?_
      refine z_goto (C _) (pc := 644) (tgt := 648) dL_events_644 (by decide) ?_
      exact z_zret3 (C []) (pc := 648) T t192 t193 dL_events_648 (by decide) (by decide) h
    · refine z_iload (C _) (pc := 620) dL_events_620 0 rfl ?_
      refine z_if_ne (C _) (pc := 622) (tgt := 647) dL_events_622 (by decide) h (fun h => ?_) (fun h => ?_)
      · refine z_iconst (C _) (pc := 647) (x := (0 : Int32)) dL_events_647 kic_0 ?_
        exact z_zret3 (C []) (pc := 648) T t192 t193 dL_events_648 (by decide) (by decide) h
      · refine z_aload_n (C _) (pc := 625) dL_events_625 3 rfl ?_
        refine z_bipush (C _) (pc := 626) (x := (16 : Int32)) dL_events_626 kbp_16 ?_
        refine z_iload (C _) (pc := 628) dL_events_628 10 rfl ?_
        refine z_iload (C _) (pc := 630) dL_events_630 11 rfl ?_
        refine z_iload (C _) (pc := 632) dL_events_632 1 rfl ?_
        refine z_iconst (C _) (pc := 634) (x := (5 : Int32)) dL_events_634 kic_5 ?_
        refine z_iand (C _) (pc := 635) dL_events_635 ?_
        refine z_iconst (C _) (pc := 636) (x := (0 : Int32)) dL_events_636 kic_0 ?_
        refine z_s1 t192 (fun t194 => ?_)
        refine z_SW (C _) (pc := 637) (kc' := 138) (ks' := 4410) (As := [va_rf (some w0), .int (16 : Int32), .int w7, .int w8, .int (y187 &&& (5 : Int32)), .int (0 : Int32)]) (rest := []) (c_L_call l hfl v S188 w0 (16 : Int32) w7 w8 (y187 &&& (5 : Int32)) (0 : Int32)) bw_369 bw_0 (by decide +kernel) (n := 6) (by decide +kernel) bw_367 bw_368 (fit_of rfl) rfl rfl (Nat.le_of_ble_eq_true rfl) dL_events_637 h (fun r196 S195 h => ?_)
        refine z_s1' t194 (fun t197 => ?_)
        refine z_t_if_ne (C _) (pc := 640) dL_events_640 dL_events_643 kic_1 dL_events_644 dL_events_647 kic_0 ?_
        exact z_zret3 (C []) (pc := 648) T t197 t193 dL_events_648 (by decide) (by decide) h
  · refine z_aload_n (C _) (pc := 589) dL_events_589 3 rfl ?_
    refine z_bipush (C _) (pc := 590) (x := (16 : Int32)) dL_events_590 kbp_16 ?_
    refine z_iload (C _) (pc := 592) dL_events_592 10 rfl ?_
    refine z_iload (C _) (pc := 594) dL_events_594 11 rfl ?_
    refine z_iconst (C _) (pc := 596) (x := (0 : Int32)) dL_events_596 kic_0 ?_
    refine z_iconst (C _) (pc := 597) (x := (0 : Int32)) dL_events_597 kic_0 ?_
    refine z_s1 t192 (fun t198 => ?_)
    refine z_SW (C _) (pc := 598) (kc' := 138) (ks' := 4410) (As := [va_rf (some w0), .int (16 : Int32), .int w7, .int w8, .int (0 : Int32), .int (0 : Int32)]) (rest := []) (c_L_call l hfl v S188 w0 (16 : Int32) w7 w8 (0 : Int32) (0 : Int32)) bw_369 bw_0 (by decide +kernel) (n := 6) (by decide +kernel) bw_367 bw_368 (fit_of rfl) rfl rfl (Nat.le_of_ble_eq_true rfl) dL_events_598 h (fun r200 S199 h => ?_)
    refine z_s1' t198 (fun t201 => ?_)
    refine z_ldc (C _) (pc := 601) (x := (-2000000003 : Int32)) dL_events_601 bw_778 ?_
    refine z_icmp_ne (C _) (pc := 603) (tgt := 610) dL_events_603 (by decide) h (fun h => ?_) (fun h => ?_)
    · refine z_iconst (C _) (pc := 610) (x := (0 : Int32)) dL_events_610 kic_0 ?_
      refine z_goto (C _) (pc := 611) (tgt := 648) dL_events_611 (by decide) ?_
      exact z_zret3 (C []) (pc := 648) T t201 t193 dL_events_648 (by decide) (by decide) h
    · refine z_iconst (C _) (pc := 606) (x := (1 : Int32)) dL_events_606 kic_1 ?_
      refine z_goto (C _) (pc := 607) (tgt := 648) dL_events_607 (by decide) ?_
      exact z_zret3 (C []) (pc := 648) T t201 t193 dL_events_648 (by decide) (by decide) h
set_option maxHeartbeats 4000000 in
set_option maxRecDepth 100000 in
theorem k_L_events_B503 (l : Launch) (hfl : l.stackTraces = false) (v : Ev) {x9 : P9} {A : Nat → Prop} {E : State → Prop} {X0 Y : va_W} (C : ∀ X, Cx l v RL cL_events 12 (some .boolean) "events" (x9, X, A, E)) (Q : Int32 → Hp → Hp → Hp → Prop) (T : E3 v rm_L_events (Q3i v) Q X0 Y A E x9) (S1 S2 S : Hp) (t1 : g_T S1 = v.2.2.1) (t2 : g_T S2 = v.2.2.1) (w0 : Nat) (w1 : Nat) (w2 : Nat) (w3 : Int32) (w4 : Int32) (w5 : Int32) (w6 : Int32) (h : wp_L_events_B503 Q S1 S2 S w0 w1 w2 w3 w4 w5 w6) : ZZ l v 12 rm_L_events (x9, Y3 v.2.1 Y S1 S2, A, E) 0 0 S 503 [(0, va_rf (some w0)), (1, va_rf (some w1)), (2, va_rf (some w2)), (3, .int w3), (4, .int w4), (5, .int w5), (6, .int w6)] [] := by
  unfold wp_L_events_B503 at h
  refine z_aload_n (C _) (pc := 503) dL_events_503 0 rfl ?_
  obtain ⟨o172, h⟩ := h
  refine z_s1 t1 (fun t173 => ?_)
  refine z_Vi (C _) (pc := 504) (KX := fun _ _ => False) (kc' := 0) (ks' := 0) (As := []) (rest := []) rfl (c_X8_today l v S1 w0) mw_X8_today bw_108 bw_109 bw_110 (fit_of rfl) rfl rfl (Nat.le_of_ble_eq_true rfl) (by decide) rfl o172 dL_events_504 h (fun r175 S174 h => ?_) (fun En S9 h => h.elim)
  refine z_s1' t173 (fun t176 => ?_)
  refine z_iload (C _) (pc := 507) dL_events_507 4 rfl ?_
  refine z_iconst (C _) (pc := 509) (x := (4 : Int32)) dL_events_509 kic_4 ?_
  refine z_ishr (C _) (pc := 510) dL_events_510 ?_
  refine z_iconst (C _) (pc := 511) (x := (3 : Int32)) dL_events_511 kic_3 ?_
  refine z_Si8 (C _) (pc := 512) (KX := fun _ _ => False) (kc' := 0) (ks' := 0) (As := [.int (w4 >>> ((4 : Int32) &&& 31)), .int (3 : Int32)]) (rest := [.int r175]) (c_L_some l v S (w4 >>> ((4 : Int32) &&& 31)) (3 : Int32)) mw_L_some bw_101 bw_102 (fit_of rfl) rfl rfl (Nat.le_of_ble_eq_true rfl) dL_events_512 h (fun r178 S177 h => ?_) (fun En S9 h => h.elim)
  refine z_iadd (C _) (pc := 515) dL_events_515 ?_
  refine z_nI h (fun y179 h => ?_)
  refine z_istore (C _) (pc := 516) (lv' := [(7, .int y179), (0, va_rf (some w0)), (1, va_rf (some w1)), (2, va_rf (some w2)), (3, .int w3), (4, .int w4), (5, .int w5), (6, .int w6)]) dL_events_516 (by decide) rfl ?_
  refine z_iload (C _) (pc := 518) dL_events_518 5 rfl ?_
  refine z_bipush (C _) (pc := 520) (x := (7 : Int32)) dL_events_520 kbp_7 ?_
  refine z_ishr (C _) (pc := 522) dL_events_522 ?_
  refine z_bipush (C _) (pc := 523) (x := (24 : Int32)) dL_events_523 kbp_24 ?_
  refine z_Si8 (C _) (pc := 525) (KX := fun _ _ => False) (kc' := 0) (ks' := 0) (As := [.int (w4 >>> ((7 : Int32) &&& 31)), .int (24 : Int32)]) (rest := []) (c_L_some l v S177 (w4 >>> ((7 : Int32) &&& 31)) (24 : Int32)) mw_L_some bw_101 bw_102 (fit_of rfl) rfl rfl (Nat.le_of_ble_eq_true rfl) dL_events_525 h (fun r181 S180 h => ?_) (fun En S9 h => h.elim)
  refine z_istore (C _) (pc := 528) (lv' := [(8, .int r181), (7, .int y179), (0, va_rf (some w0)), (1, va_rf (some w1)), (2, va_rf (some w2)), (3, .int w3), (4, .int w4), (5, .int w5), (6, .int w6)]) dL_events_528 (by decide) rfl ?_
  refine z_iload (C _) (pc := 530) dL_events_530 1 rfl ?_
  refine z_sipush (C _) (pc := 532) (x := (9999 : Int32)) dL_events_532 ksp_9999 ?_
  refine z_icmp_le (C _) (pc := 535) (tgt := 540) dL_events_535 (by decide) h (fun h => ?_) (fun h => ?_)
  · refine z_sub [2, 3, 4, 5, 6, 7, 8, 1, 0] (lv' := [(0, va_rf (some w0)), (1, va_rf (some w1)), (2, va_rf (some w2)), (3, .int w3), (4, .int w4), (5, .int w5), (6, .int w6), (7, .int y179), (8, .int r181)]) rfl ?_
    exact k_L_events_B540 l hfl v C Q T S174 S2 S180 t176 t2 w0 w1 w2 w3 w4 w5 w6 y179 r181 h
  · refine z_iconst (C _) (pc := 538) (x := (1 : Int32)) dL_events_538 kic_1 ?_
    exact z_zret3 (C []) (pc := 539) T t176 t2 dL_events_539 (by decide) (by decide) h
set_option maxHeartbeats 4000000 in
set_option maxRecDepth 100000 in
theorem l_L_events_L417 (l : Launch) (hfl : l.stackTraces = false) (v : Ev) {x9 : P9} {A : Nat → Prop} {E : State → Prop} {X0 Y : va_W} (C : ∀ X, Cx l v RL cL_events 12 (some .boolean) "events" (x9, X, A, E)) (Q : Int32 → Hp → Hp → Hp → Prop) (T : E3 v rm_L_events (Q3i v) Q X0 Y A E x9) (f0 : Nat) (f1 : Nat) (f2 : Nat) (f3 : Int32) (f4 : Int32) (f5 : Int32) (f6 : Int32) (f7 : Int32) (f8 : Int32) (f9 : Int32) : ∀ (n : Nat) (S1 S2 S : Hp) (w10 : Int32) (w11 : Int32), g_T S1 = v.2.2.1 → g_T S2 = v.2.2.1 → wp_L_events_L417 Q f0 f1 f2 f3 f4 f5 f6 f7 f8 f9 n S1 S2 S w10 w11 → ZZ l v 12 rm_L_events (x9, Y3 v.2.1 Y S1 S2, A, E) 92 2940 S 417 [(0, va_rf (some f0)), (1, va_rf (some f1)), (2, va_rf (some f2)), (3, .int f3), (4, .int f4), (5, .int f5), (6, .int f6), (7, .int f7), (8, .int f8), (9, .int f9), (10, .int w10), (11, .int w11)] [] := by
  intro n
  induction n with
  | zero =>
    intro S1 S2 S w10 w11 t1 t2 h
    exact h.elim
  | succ n ih =>
    intro S1 S2 S w10 w11 t1 t2 h
    unfold wp_L_events_L417 at h
    refine z_iload (C _) (pc := 417) dL_events_417 11 rfl ?_
    refine z_bipush (C _) (pc := 419) (x := (8 : Int32)) dL_events_419 kbp_8 ?_
    refine z_icmp_ge (C _) (pc := 421) (tgt := 447) dL_events_421 (by decide) h (fun h => ?_) (fun h => ?_)
    · refine z_iload (C _) (pc := 447) dL_events_447 9 rfl ?_
      refine z_iload (C _) (pc := 449) dL_events_449 10 rfl ?_
      refine z_icmp_ne (C _) (pc := 451) (tgt := 501) dL_events_451 (by decide) h (fun h => ?_) (fun h => ?_)
      · refine z_iconst (C _) (pc := 501) (x := (0 : Int32)) dL_events_501 kic_0 ?_
        exact z_zret3 (C []) (pc := 502) T t1 t2 dL_events_502 (by decide) (by decide) h
      · refine z_aload_n (C _) (pc := 454) dL_events_454 0 rfl ?_
        refine z_iload (C _) (pc := 455) dL_events_455 6 rfl ?_
        obtain ⟨o221, h⟩ := h
        refine z_s1 t1 (fun t222 => ?_)
        refine z_Vi (C _) (pc := 457) (KX := fun _ _ => False) (kc' := 93) (ks' := 2945) (As := [.int f6]) (rest := []) rfl (c_X8_why_n l v S1 f0 f6) mw_X8_why bw_298 bw_299 bw_300 (fit_of rfl) rfl rfl (Nat.le_of_ble_eq_true rfl) (by decide) rfl o221 dL_events_457 h (fun r224 S223 h => ?_) (fun En S9 h => h.elim)
        refine z_s1' t222 (fun t225 => ?_)
        refine z_if_lt (C _) (pc := 460) (tgt := 501) dL_events_460 (by decide) h (fun h => ?_) (fun h => ?_)
        · refine z_iconst (C _) (pc := 501) (x := (0 : Int32)) dL_events_501 kic_0 ?_
          exact z_zret3 (C []) (pc := 502) T t225 t2 dL_events_502 (by decide) (by decide) h
        · refine z_aload_n (C _) (pc := 463) dL_events_463 0 rfl ?_
          refine z_iload (C _) (pc := 464) dL_events_464 6 rfl ?_
          obtain ⟨o226, h⟩ := h
          refine z_s1 t225 (fun t227 => ?_)
          refine z_Vi (C _) (pc := 466) (KX := fun _ _ => False) (kc' := 94) (ks' := 2950) (As := [.int f6]) (rest := []) rfl (c_X8_why_n l v S223 f0 f6) mw_X8_why bw_298 bw_299 bw_300 (fit_of rfl) rfl rfl (Nat.le_of_ble_eq_true rfl) (by decide) rfl o226 dL_events_466 h (fun r229 S228 h => ?_) (fun En S9 h => h.elim)
          refine z_s1' t227 (fun t230 => ?_)
          refine z_iconst (C _) (pc := 469) (x := (4 : Int32)) dL_events_469 kic_4 ?_
          refine z_icmp_gt (C _) (pc := 470) (tgt := 501) dL_events_470 (by decide) h (fun h => ?_) (fun h => ?_)
          · refine z_iconst (C _) (pc := 501) (x := (0 : Int32)) dL_events_501 kic_0 ?_
            exact z_zret3 (C []) (pc := 502) T t230 t2 dL_events_502 (by decide) (by decide) h
          · refine z_iload (C _) (pc := 473) dL_events_473 10 rfl ?_
            refine z_if_gt (C _) (pc := 475) (tgt := 497) dL_events_475 (by decide) h (fun h => ?_) (fun h => ?_)
            · refine z_iconst (C _) (pc := 497) (x := (1 : Int32)) dL_events_497 kic_1 ?_
              refine z_goto (C _) (pc := 498) (tgt := 502) dL_events_498 (by decide) ?_
              exact z_zret3 (C []) (pc := 502) T t230 t2 dL_events_502 (by decide) (by decide) h
            · refine z_aload_n (C _) (pc := 478) dL_events_478 0 rfl ?_
              refine z_iload (C _) (pc := 479) dL_events_479 6 rfl ?_
              obtain ⟨o231, h⟩ := h
              refine z_s1 t230 (fun t232 => ?_)
              refine z_Vi (C _) (pc := 481) (KX := fun _ _ => False) (kc' := 95) (ks' := 2955) (As := [.int f6]) (rest := []) rfl (c_X8_why_n l v S228 f0 f6) mw_X8_why bw_298 bw_299 bw_300 (fit_of rfl) rfl rfl (Nat.le_of_ble_eq_true rfl) (by decide) rfl o231 dL_events_481 h (fun r234 S233 h => ?_) (fun En S9 h => h.elim)
              refine z_s1' t232 (fun t235 => ?_)
              refine z_iconst (C _) (pc := 484) (x := (1 : Int32)) dL_events_484 kic_1 ?_
              refine z_icmp_eq (C _) (pc := 485) (tgt := 497) dL_events_485 (by decide) h (fun h => ?_) (fun h => ?_)
              · refine z_iconst (C _) (pc := 497) (x := (1 : Int32)) dL_events_497 kic_1 ?_
                refine z_goto (C _) (pc := 498) (tgt := 502) dL_events_498 (by decide) ?_
                exact z_zret3 (C []) (pc := 502) T t235 t2 dL_events_502 (by decide) (by decide) h
              · refine z_aload_n (C _) (pc := 488) dL_events_488 0 rfl ?_
                refine z_iload (C _) (pc := 489) dL_events_489 6 rfl ?_
                obtain ⟨o236, h⟩ := h
                refine z_s1 t235 (fun t237 => ?_)
                refine z_Vi (C _) (pc := 491) (KX := fun _ _ => False) (kc' := 96) (ks' := 2960) (As := [.int f6]) (rest := []) rfl (c_X8_why_n l v S233 f0 f6) mw_X8_why bw_298 bw_299 bw_300 (fit_of rfl) rfl rfl (Nat.le_of_ble_eq_true rfl) (by decide) rfl o236 dL_events_491 h (fun r239 S238 h => ?_) (fun En S9 h => h.elim)
                refine z_s1' t237 (fun t240 => ?_)
                refine z_t_if_ne (C _) (pc := 494) dL_events_494 dL_events_497 kic_1 dL_events_498 dL_events_501 kic_0 ?_
                exact z_zret3 (C []) (pc := 502) T t240 t2 dL_events_502 (by decide) (by decide) h
    · refine z_iload (C _) (pc := 424) dL_events_424 10 rfl ?_
      refine z_aload_n (C _) (pc := 426) dL_events_426 2 rfl ?_
      refine z_bipush (C _) (pc := 427) (x := (12 : Int32)) dL_events_427 kbp_12 ?_
      refine z_iload (C _) (pc := 429) dL_events_429 6 rfl ?_
      refine z_iadd (C _) (pc := 431) dL_events_431 ?_
      obtain ⟨o241, h⟩ := h
      obtain ⟨v242, h⟩ := h
      refine z_iald (C _) (pc := 432) dL_events_432 rfl o241 v242 ?_
      refine z_iload (C _) (pc := 433) dL_events_433 11 rfl ?_
      refine z_ishr (C _) (pc := 435) dL_events_435 ?_
      refine z_iconst (C _) (pc := 436) (x := (1 : Int32)) dL_events_436 kic_1 ?_
      refine z_iand (C _) (pc := 437) dL_events_437 ?_
      refine z_iadd (C _) (pc := 438) dL_events_438 ?_
      refine z_nI h (fun y243 h => ?_)
      refine z_istore (C _) (pc := 439) (lv' := [(10, .int y243), (0, va_rf (some f0)), (1, va_rf (some f1)), (2, va_rf (some f2)), (3, .int f3), (4, .int f4), (5, .int f5), (6, .int f6), (7, .int f7), (8, .int f8), (9, .int f9), (11, .int w11)]) dL_events_439 (by decide) rfl ?_
      refine z_iinc (C _) (pc := 441) (y := w11 + (1 : Int32)) (lv' := [(11, .int (w11 + (1 : Int32))), (10, .int y243), (0, va_rf (some f0)), (1, va_rf (some f1)), (2, va_rf (some f2)), (3, .int f3), (4, .int f4), (5, .int f5), (6, .int f6), (7, .int f7), (8, .int f8), (9, .int f9)]) dL_events_441 11 rfl rfl (by decide) rfl ?_
      refine z_goto (C _) (pc := 444) (tgt := 417) dL_events_444 (by decide) ?_
      refine z_sub [2, 3, 4, 5, 6, 7, 8, 9, 10, 11, 1, 0] (lv' := [(0, va_rf (some f0)), (1, va_rf (some f1)), (2, va_rf (some f2)), (3, .int f3), (4, .int f4), (5, .int f5), (6, .int f6), (7, .int f7), (8, .int f8), (9, .int f9), (10, .int y243), (11, .int (w11 + (1 : Int32)))]) rfl ?_
      exact ih S1 S2 S y243 (w11 + (1 : Int32)) t1 t2 h
set_option maxHeartbeats 4000000 in
set_option maxRecDepth 100000 in
theorem k_L_events_B411 (l : Launch) (hfl : l.stackTraces = false) (v : Ev) {x9 : P9} {A : Nat → Prop} {E : State → Prop} {X0 Y : va_W} (C : ∀ X, Cx l v RL cL_events 12 (some .boolean) "events" (x9, X, A, E)) (Q : Int32 → Hp → Hp → Hp → Prop) (T : E3 v rm_L_events (Q3i v) Q X0 Y A E x9) (S1 S2 S : Hp) (t1 : g_T S1 = v.2.2.1) (t2 : g_T S2 = v.2.2.1) (w0 : Nat) (w1 : Nat) (w2 : Nat) (w3 : Int32) (w4 : Int32) (w5 : Int32) (w6 : Int32) (w7 : Int32) (w8 : Int32) (w9 : Int32) (h : wp_L_events_B411 Q S1 S2 S w0 w1 w2 w3 w4 w5 w6 w7 w8 w9) : ZZ l v 12 rm_L_events (x9, Y3 v.2.1 Y S1 S2, A, E) 92 2940 S 411 [(0, va_rf (some w0)), (1, va_rf (some w1)), (2, va_rf (some w2)), (3, .int w3), (4, .int w4), (5, .int w5), (6, .int w6), (7, .int w7), (8, .int w8), (9, .int w9)] [] := by
  unfold wp_L_events_B411 at h
  refine z_iconst (C _) (pc := 411) (x := (0 : Int32)) dL_events_411 kic_0 ?_
  refine z_istore (C _) (pc := 412) (lv' := [(10, .int (0 : Int32)), (0, va_rf (some w0)), (1, va_rf (some w1)), (2, va_rf (some w2)), (3, .int w3), (4, .int w4), (5, .int w5), (6, .int w6), (7, .int w7), (8, .int w8), (9, .int w9)]) dL_events_412 (by decide) rfl ?_
  refine z_iconst (C _) (pc := 414) (x := (0 : Int32)) dL_events_414 kic_0 ?_
  refine z_istore (C _) (pc := 415) (lv' := [(11, .int (0 : Int32)), (10, .int (0 : Int32)), (0, va_rf (some w0)), (1, va_rf (some w1)), (2, va_rf (some w2)), (3, .int w3), (4, .int w4), (5, .int w5), (6, .int w6), (7, .int w7), (8, .int w8), (9, .int w9)]) dL_events_415 (by decide) rfl ?_
  obtain ⟨n244, h⟩ := h
  refine z_sub [2, 3, 4, 5, 6, 7, 8, 9, 10, 11, 1, 0] (lv' := [(0, va_rf (some w0)), (1, va_rf (some w1)), (2, va_rf (some w2)), (3, .int w3), (4, .int w4), (5, .int w5), (6, .int w6), (7, .int w7), (8, .int w8), (9, .int w9), (10, .int (0 : Int32)), (11, .int (0 : Int32))]) rfl ?_
  exact l_L_events_L417 l hfl v C Q T w0 w1 w2 w3 w4 w5 w6 w7 w8 w9 n244 S1 S2 S (0 : Int32) (0 : Int32) t1 t2 h
set_option maxHeartbeats 4000000 in
set_option maxRecDepth 100000 in
theorem k_L_events_B290 (l : Launch) (hfl : l.stackTraces = false) (v : Ev) {x9 : P9} {A : Nat → Prop} {E : State → Prop} {X0 Y : va_W} (C : ∀ X, Cx l v RL cL_events 12 (some .boolean) "events" (x9, X, A, E)) (Q : Int32 → Hp → Hp → Hp → Prop) (T : E3 v rm_L_events (Q3i v) Q X0 Y A E x9) (S1 S2 S : Hp) (t1 : g_T S1 = v.2.2.1) (t2 : g_T S2 = v.2.2.1) (w0 : Nat) (w1 : Nat) (w2 : Nat) (w3 : Int32) (w4 : Int32) (w5 : Int32) (w6 : Int32) (h : wp_L_events_B290 Q S1 S2 S w0 w1 w2 w3 w4 w5 w6) : ZZ l v 12 rm_L_events (x9, Y3 v.2.1 Y S1 S2, A, E) 0 0 S 290 [(0, va_rf (some w0)), (1, va_rf (some w1)), (2, va_rf (some w2)), (3, .int w3), (4, .int w4), (5, .int w5), (6, .int w6)] [] := by
  unfold wp_L_events_B290 at h
  refine z_iload (C _) (pc := 290) dL_events_290 4 rfl ?_
  refine z_iconst (C _) (pc := 292) (x := (5 : Int32)) dL_events_292 kic_5 ?_
  refine z_ishr (C _) (pc := 293) dL_events_293 ?_
  refine z_aload_n (C _) (pc := 294) dL_events_294 2 rfl ?_
  refine z_iconst (C _) (pc := 295) (x := (2 : Int32)) dL_events_295 kic_2 ?_
  obtain ⟨o204, h⟩ := h
  obtain ⟨v205, h⟩ := h
  refine z_iald (C _) (pc := 296) dL_events_296 rfl o204 v205 ?_
  refine z_Si8 (C _) (pc := 297) (KX := fun _ _ => False) (kc' := 0) (ks' := 0) (As := [.int (w4 >>> ((5 : Int32) &&& 31)), .int (g_R S w2 (2 : Int32).toNatClampNeg)]) (rest := []) (c_L_some l v S (w4 >>> ((5 : Int32) &&& 31)) (g_R S w2 (2 : Int32).toNatClampNeg)) mw_L_some bw_101 bw_102 (fit_of rfl) rfl rfl (Nat.le_of_ble_eq_true rfl) dL_events_297 h (fun r207 S206 h => ?_) (fun En S9 h => h.elim)
  refine z_istore (C _) (pc := 300) (lv' := [(7, .int r207), (0, va_rf (some w0)), (1, va_rf (some w1)), (2, va_rf (some w2)), (3, .int w3), (4, .int w4), (5, .int w5), (6, .int w6)]) dL_events_300 (by decide) rfl ?_
  refine z_iload_n (C _) (pc := 302) dL_events_302 4 rfl ?_
  refine z_iconst (C _) (pc := 303) (x := (4 : Int32)) dL_events_303 kic_4 ?_
  refine z_ishr (C _) (pc := 304) dL_events_304 ?_
  refine z_iconst (C _) (pc := 305) (x := (4 : Int32)) dL_events_305 kic_4 ?_
  refine z_Si8 (C _) (pc := 306) (KX := fun _ _ => False) (kc' := 0) (ks' := 0) (As := [.int (w3 >>> ((4 : Int32) &&& 31)), .int (4 : Int32)]) (rest := []) (c_L_some l v S206 (w3 >>> ((4 : Int32) &&& 31)) (4 : Int32)) mw_L_some bw_101 bw_102 (fit_of rfl) rfl rfl (Nat.le_of_ble_eq_true rfl) dL_events_306 h (fun r209 S208 h => ?_) (fun En S9 h => h.elim)
  refine z_t_if_le (C _) (pc := 309) dL_events_309 dL_events_312 kic_1 dL_events_313 dL_events_316 kic_0 ?_
  refine z_nI h (fun y210 h => ?_)
  refine z_istore (C _) (pc := 317) (lv' := [(8, .int y210), (7, .int r207), (0, va_rf (some w0)), (1, va_rf (some w1)), (2, va_rf (some w2)), (3, .int w3), (4, .int w4), (5, .int w5), (6, .int w6)]) dL_events_317 (by decide) rfl ?_
  refine z_aload_n (C _) (pc := 319) dL_events_319 2 rfl ?_
  refine z_aload_n (C _) (pc := 320) dL_events_320 3 rfl ?_
  refine z_bipush (C _) (pc := 321) (x := (14 : Int32)) dL_events_321 kbp_14 ?_
  refine z_iload (C _) (pc := 323) dL_events_323 8 rfl ?_
  refine z_iload (C _) (pc := 325) dL_events_325 1 rfl ?_
  refine z_iload (C _) (pc := 327) dL_events_327 0 rfl ?_
  refine z_iconst (C _) (pc := 329) (x := (0 : Int32)) dL_events_329 kic_0 ?_
  refine z_S3i (C []) (pc := 330) (kc' := 92) (ks' := 2940) (As := [va_rf (some w0), va_rf (some w1), .int (14 : Int32), .int w6, .int r207, .int y210, .int (0 : Int32)]) (rest := []) (c_L_both l hfl v S1 S2 S208 w0 w1 (14 : Int32) w6 r207 y210 (0 : Int32)) mw_L_both bw_364 bw_365 (fit_of rfl) rfl rfl (Nat.le_of_ble_eq_true rfl) t1 t2 dL_events_330 h (fun r214 S211 S212 S213 t215 t216 h => ?_)
  refine z_istore (C _) (pc := 333) (lv' := [(9, .int r214), (8, .int y210), (7, .int r207), (0, va_rf (some w0)), (1, va_rf (some w1)), (2, va_rf (some w2)), (3, .int w3), (4, .int w4), (5, .int w5), (6, .int w6)]) dL_events_333 (by decide) rfl ?_
  refine z_iload (C _) (pc := 335) dL_events_335 0 rfl ?_
  refine z_ldc (C _) (pc := 337) (x := (-2000000003 : Int32)) dL_events_337 bw_778 ?_
  refine z_icmp_ne (C _) (pc := 339) (tgt := 369) dL_events_339 (by decide) h (fun h => ?_) (fun h => ?_)
  · refine z_aload_n (C _) (pc := 369) dL_events_369 5 rfl ?_
    refine z_bipush (C _) (pc := 370) (x := (12 : Int32)) dL_events_370 kbp_12 ?_
    refine z_iload (C _) (pc := 372) dL_events_372 9 rfl ?_
    refine z_iadd (C _) (pc := 374) dL_events_374 ?_
    refine z_iload (C _) (pc := 375) dL_events_375 1 rfl ?_
    refine z_iconst (C _) (pc := 377) (x := (1 : Int32)) dL_events_377 kic_1 ?_
    refine z_icmp_ne (C _) (pc := 378) (tgt := 396) dL_events_378 (by decide) h (fun h => ?_) (fun h => ?_)
    · refine z_aload_n (C _) (pc := 396) dL_events_396 5 rfl ?_
      refine z_bipush (C _) (pc := 397) (x := (12 : Int32)) dL_events_397 kbp_12 ?_
      refine z_iload (C _) (pc := 399) dL_events_399 9 rfl ?_
      refine z_iadd (C _) (pc := 401) dL_events_401 ?_
      obtain ⟨o217, h⟩ := h
      obtain ⟨v218, h⟩ := h
      refine z_iald (C _) (pc := 402) dL_events_402 rfl o217 v218 ?_
      refine z_iconst (C _) (pc := 403) (x := (1 : Int32)) dL_events_403 kic_1 ?_
      refine z_iload (C _) (pc := 404) dL_events_404 2 rfl ?_
      refine z_ishl (C _) (pc := 406) dL_events_406 ?_
      refine z_iconst (C _) (pc := 407) (x := (-1 : Int32)) dL_events_407 kic_m1 ?_
      refine z_ixor (C _) (pc := 408) dL_events_408 ?_
      refine z_iand (C _) (pc := 409) dL_events_409 ?_
      obtain ⟨v219, h⟩ := h
      refine z_iast (C _) (pc := 410) dL_events_410 rfl o217 v219 ?_
      refine z_lt h (fun S220 h => ?_)
      refine z_sub [3, 4, 5, 6, 7, 8, 9, 2, 1, 0] (lv' := [(0, va_rf (some w0)), (1, va_rf (some w1)), (2, va_rf (some w2)), (3, .int w3), (4, .int w4), (5, .int w5), (6, .int w6), (7, .int r207), (8, .int y210), (9, .int r214)]) rfl ?_
      exact k_L_events_B411 l hfl v C Q T S211 S212 S220 t215 t216 w0 w1 w2 w3 w4 w5 w6 r207 y210 r214 h
    · refine z_aload_n (C _) (pc := 381) dL_events_381 5 rfl ?_
      refine z_bipush (C _) (pc := 382) (x := (12 : Int32)) dL_events_382 kbp_12 ?_
      refine z_iload (C _) (pc := 384) dL_events_384 9 rfl ?_
      refine z_iadd (C _) (pc := 386) dL_events_386 ?_
      obtain ⟨o245, h⟩ := h
      obtain ⟨v246, h⟩ := h
      refine z_iald (C _) (pc := 387) dL_events_387 rfl o245 v246 ?_
      refine z_iconst (C _) (pc := 388) (x := (1 : Int32)) dL_events_388 kic_1 ?_
      refine z_iload (C _) (pc := 389) dL_events_389 2 rfl ?_
      refine z_ishl (C _) (pc := 391) dL_events_391 ?_
      refine z_ior (C _) (pc := 392) dL_events_392 ?_
      refine z_goto (C _) (pc := 393) (tgt := 410) dL_events_393 (by decide) ?_
      obtain ⟨v247, h⟩ := h
      refine z_iast (C _) (pc := 410) dL_events_410 rfl o245 v247 ?_
      refine z_lt h (fun S248 h => ?_)
      refine z_sub [3, 4, 5, 6, 7, 8, 9, 2, 1, 0] (lv' := [(0, va_rf (some w0)), (1, va_rf (some w1)), (2, va_rf (some w2)), (3, .int w3), (4, .int w4), (5, .int w5), (6, .int w6), (7, .int r207), (8, .int y210), (9, .int r214)]) rfl ?_
      exact k_L_events_B411 l hfl v C Q T S211 S212 S248 t215 t216 w0 w1 w2 w3 w4 w5 w6 r207 y210 r214 h
  · refine z_iload (C _) (pc := 342) dL_events_342 1 rfl ?_
    refine z_iconst (C _) (pc := 344) (x := (1 : Int32)) dL_events_344 kic_1 ?_
    refine z_icmp_ne (C _) (pc := 345) (tgt := 367) dL_events_345 (by decide) h (fun h => ?_) (fun h => ?_)
    · refine z_iconst (C _) (pc := 367) (x := (0 : Int32)) dL_events_367 kic_0 ?_
      exact z_zret3 (C []) (pc := 368) T t215 t216 dL_events_368 (by decide) (by decide) h
    · refine z_aload_n (C _) (pc := 348) dL_events_348 5 rfl ?_
      refine z_bipush (C _) (pc := 349) (x := (12 : Int32)) dL_events_349 kbp_12 ?_
      refine z_iload (C _) (pc := 351) dL_events_351 9 rfl ?_
      refine z_iadd (C _) (pc := 353) dL_events_353 ?_
      obtain ⟨o249, h⟩ := h
      obtain ⟨v250, h⟩ := h
      refine z_iald (C _) (pc := 354) dL_events_354 rfl o249 v250 ?_
      refine z_iload (C _) (pc := 355) dL_events_355 2 rfl ?_
      refine z_ishr (C _) (pc := 357) dL_events_357 ?_
      refine z_iconst (C _) (pc := 358) (x := (1 : Int32)) dL_events_358 kic_1 ?_
      refine z_iand (C _) (pc := 359) dL_events_359 ?_
      refine z_t_if_ne (C _) (pc := 360) dL_events_360 dL_events_363 kic_1 dL_events_364 dL_events_367 kic_0 ?_
      exact z_zret3 (C []) (pc := 368) T t215 t216 dL_events_368 (by decide) (by decide) h
set_option maxHeartbeats 4000000 in
set_option maxRecDepth 100000 in
theorem k_L_events_B267 (l : Launch) (hfl : l.stackTraces = false) (v : Ev) {x9 : P9} {A : Nat → Prop} {E : State → Prop} {X0 Y : va_W} (C : ∀ X, Cx l v RL cL_events 12 (some .boolean) "events" (x9, X, A, E)) (Q : Int32 → Hp → Hp → Hp → Prop) (T : E3 v rm_L_events (Q3i v) Q X0 Y A E x9) (S1 S2 S : Hp) (t1 : g_T S1 = v.2.2.1) (t2 : g_T S2 = v.2.2.1) (w0 : Nat) (w1 : Nat) (w2 : Nat) (w3 : Int32) (w4 : Int32) (w5 : Int32) (h : wp_L_events_B267 Q S1 S2 S w0 w1 w2 w3 w4 w5) : ZZ l v 12 rm_L_events (x9, Y3 v.2.1 Y S1 S2, A, E) 0 0 S 267 [(0, va_rf (some w0)), (1, va_rf (some w1)), (2, va_rf (some w2)), (3, .int w3), (4, .int w4), (5, .int w5)] [] := by
  unfold wp_L_events_B267 at h
  refine z_iload (C _) (pc := 267) dL_events_267 4 rfl ?_
  refine z_aload_n (C _) (pc := 269) dL_events_269 2 rfl ?_
  refine z_iconst (C _) (pc := 270) (x := (3 : Int32)) dL_events_270 kic_3 ?_
  obtain ⟨o168, h⟩ := h
  obtain ⟨v169, h⟩ := h
  refine z_iald (C _) (pc := 271) dL_events_271 rfl o168 v169 ?_
  refine z_Si8 (C _) (pc := 272) (KX := fun _ _ => False) (kc' := 0) (ks' := 0) (As := [.int w4, .int (g_R S w2 (3 : Int32).toNatClampNeg)]) (rest := []) (c_L_some l v S w4 (g_R S w2 (3 : Int32).toNatClampNeg)) mw_L_some bw_101 bw_102 (fit_of rfl) rfl rfl (Nat.le_of_ble_eq_true rfl) dL_events_272 h (fun r171 S170 h => ?_) (fun En S9 h => h.elim)
  refine z_istore (C _) (pc := 275) (lv' := [(6, .int r171), (0, va_rf (some w0)), (1, va_rf (some w1)), (2, va_rf (some w2)), (3, .int w3), (4, .int w4), (5, .int w5)]) dL_events_275 (by decide) rfl ?_
  refine z_iload (C _) (pc := 277) dL_events_277 6 rfl ?_
  refine z_bipush (C _) (pc := 279) (x := (7 : Int32)) dL_events_279 kbp_7 ?_
  refine z_icmp_ge (C _) (pc := 281) (tgt := 503) dL_events_281 (by decide) h (fun h => ?_) (fun h => ?_)
  · refine z_sub [1, 2, 3, 4, 5, 6, 0] (lv' := [(0, va_rf (some w0)), (1, va_rf (some w1)), (2, va_rf (some w2)), (3, .int w3), (4, .int w4), (5, .int w5), (6, .int r171)]) rfl ?_
    exact k_L_events_B503 l hfl v C Q T S1 S2 S170 t1 t2 w0 w1 w2 w3 w4 w5 r171 h
  · refine z_aload_n (C _) (pc := 284) dL_events_284 3 rfl ?_
    refine z_iconst (C _) (pc := 285) (x := (2 : Int32)) dL_events_285 kic_2 ?_
    obtain ⟨o202, h⟩ := h
    obtain ⟨v203, h⟩ := h
    refine z_iald (C _) (pc := 286) dL_events_286 rfl o202 v203 ?_
    refine z_if_le (C _) (pc := 287) (tgt := 503) dL_events_287 (by decide) h (fun h => ?_) (fun h => ?_)
    · refine z_sub [1, 2, 3, 4, 5, 6, 0] (lv' := [(0, va_rf (some w0)), (1, va_rf (some w1)), (2, va_rf (some w2)), (3, .int w3), (4, .int w4), (5, .int w5), (6, .int r171)]) rfl ?_
      exact k_L_events_B503 l hfl v C Q T S1 S2 S170 t1 t2 w0 w1 w2 w3 w4 w5 r171 h
    · refine z_sub [1, 2, 3, 4, 5, 6, 0] (lv' := [(0, va_rf (some w0)), (1, va_rf (some w1)), (2, va_rf (some w2)), (3, .int w3), (4, .int w4), (5, .int w5), (6, .int r171)]) rfl ?_
      exact k_L_events_B290 l hfl v C Q T S1 S2 S170 t1 t2 w0 w1 w2 w3 w4 w5 r171 h
set_option maxHeartbeats 4000000 in
set_option maxRecDepth 100000 in
theorem c_L_events (l : Launch) (hfl : l.stackTraces = false) (v : Ev) (S1 S2 S : Hp) (x0 : Nat) (x1 : Nat) (x2 : Nat) (x3 : Int32) (x4 : Int32) : C3 l v yL_events cL_events 12 (some .boolean) rm_L_events [va_rf (some x0), va_rf (some x1), va_rf (some x2), .int x3, .int x4] S1 S2 S (Q3i v) (fun Q => wp_L_events S1 S2 S x0 x1 x2 x3 x4 Q) := by
  refine z_start3 [(0, va_rf (some x0)), (1, va_rf (some x1)), (2, va_rf (some x2)), (3, .int x3), (4, .int x4)] (by decide +kernel) (by simp only [la_i, la_r, la_n]) (cat_cr (cat_cr (cat_cr (cat_ci (cat_ci cat_nil))))) (by simp only [ls_i, ls_r, ls_n]; decide) (fun x9 A E Y Q h t1 t2 C T => ?_)
  unfold wp_L_events at h
  refine z_iload_n (C _) (pc := 0) dL_events_0 3 rfl ?_
  refine z_bipush (C _) (pc := 1) (x := (9 : Int32)) dL_events_1 kbp_9 ?_
  refine z_Si8 (C _) (pc := 3) (KX := fun _ _ => False) (kc' := 0) (ks' := 0) (As := [.int x3, .int (9 : Int32)]) (rest := []) (c_L_some l v S x3 (9 : Int32)) mw_L_some bw_101 bw_102 (fit_of rfl) rfl rfl (Nat.le_of_ble_eq_true rfl) dL_events_3 h (fun r102 S101 h => ?_) (fun En S9 h => h.elim)
  refine z_istore (C _) (pc := 6) (lv' := [(5, .int r102), (0, va_rf (some x0)), (1, va_rf (some x1)), (2, va_rf (some x2)), (3, .int x3), (4, .int x4)]) dL_events_6 (by decide) rfl ?_
  refine z_iload (C _) (pc := 8) dL_events_8 0 rfl ?_
  refine z_iconst (C _) (pc := 10) (x := (3 : Int32)) dL_events_10 kic_3 ?_
  refine z_icmp_lt (C _) (pc := 11) (tgt := 20) dL_events_11 (by decide) h (fun h => ?_) (fun h => ?_)
  · refine z_sub [1, 2, 3, 4, 5, 0] (lv' := [(0, va_rf (some x0)), (1, va_rf (some x1)), (2, va_rf (some x2)), (3, .int x3), (4, .int x4), (5, .int r102)]) rfl ?_
    exact k_L_events_B20 l hfl v C Q T S1 S2 S101 t1 t2 x0 x1 x2 x3 x4 r102 h
  · refine z_aload_n (C _) (pc := 14) dL_events_14 3 rfl ?_
    refine z_iconst (C _) (pc := 15) (x := (3 : Int32)) dL_events_15 kic_3 ?_
    obtain ⟨o166, h⟩ := h
    obtain ⟨v167, h⟩ := h
    refine z_iald (C _) (pc := 16) dL_events_16 rfl o166 v167 ?_
    refine z_if_ne (C _) (pc := 17) (tgt := 267) dL_events_17 (by decide) h (fun h => ?_) (fun h => ?_)
    · refine z_sub [1, 2, 3, 4, 5, 0] (lv' := [(0, va_rf (some x0)), (1, va_rf (some x1)), (2, va_rf (some x2)), (3, .int x3), (4, .int x4), (5, .int r102)]) rfl ?_
      exact k_L_events_B267 l hfl v C Q T S1 S2 S101 t1 t2 x0 x1 x2 x3 x4 r102 h
    · refine z_sub [1, 2, 3, 4, 5, 0] (lv' := [(0, va_rf (some x0)), (1, va_rf (some x1)), (2, va_rf (some x2)), (3, .int x3), (4, .int x4), (5, .int r102)]) rfl ?_
      exact k_L_events_B20 l hfl v C Q T S1 S2 S101 t1 t2 x0 x1 x2 x3 x4 r102 h
