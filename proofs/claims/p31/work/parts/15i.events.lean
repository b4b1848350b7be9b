def wp_L_events_B175 (Q : Int32 → Hp → Hp → Hp → Prop) (S1 S2 S : Hp) (w0 : Nat) (w1 : Nat) (w2 : Nat) (w3 : Int32) (w4 : Int32) (w5 : Int32) (w6 : Int32) (w7 : Int32) (w8 : Int32) (w9 : Int32) : Prop :=
  okA S 11 w2 ∧ (vp_in (3 : Int32) (g_N S w2) ∧ (vp_in (3 : Int32) (g_N S w2) ∧ (lt (s_R S w2 (3 : Int32).toNatClampNeg ((g_R S w2 (3 : Int32).toNatClampNeg) + (if w8 < 0 then (0 : Int32) else (1 : Int32)))) (fun S48 => if w9 = 0 then (bz (0 : Int32) (Q (0 : Int32) S1 S2 S48)) else (if w8 = (-2000000003 : Int32) then (okA S48 11 w2 ∧ (vp_in (3 : Int32) (g_N S48 w2) ∧ (if (g_R S48 w2 (3 : Int32).toNatClampNeg) = (20 : Int32) then (bz (1 : Int32) (Q (1 : Int32) S1 S2 S48)) else (bz (0 : Int32) (Q (0 : Int32) S1 S2 S48))))) else (if w8 = (-2000000002 : Int32) then (if w7 ≤ (9999 : Int32) then (bz (0 : Int32) (Q (0 : Int32) S1 S2 S48)) else (bz (1 : Int32) (Q (1 : Int32) S1 S2 S48))) else (okA S48 11 w2 ∧ (vp_in (3 : Int32) (g_N S48 w2) ∧ (if w8 = ((g_R S48 w2 (3 : Int32).toNatClampNeg) - (1 : Int32)) then (okA S1 8 w0 ∧ (wp_X8_why S1 w0 w8 (fun r54 S53 => if r54 = (1 : Int32) then (bz (1 : Int32) (Q (1 : Int32) S53 S2 S48)) else (okA S53 8 w0 ∧ (wp_X8_why S53 w0 w8 (fun r59 S58 => bz (if r59 = 0 then (1 : Int32) else (0 : Int32)) (Q (if r59 = 0 then (1 : Int32) else (0 : Int32)) S58 S2 S48)) (fun _ _ => False)))) (fun _ _ => False))) else (bz (0 : Int32) (Q (0 : Int32) S1 S2 S48)))))))))))
def wp_L_events_B20 (Q : Int32 → Hp → Hp → Hp → Prop) (S1 S2 S : Hp) (w0 : Nat) (w1 : Nat) (w2 : Nat) (w3 : Int32) (w4 : Int32) (w5 : Int32) : Prop :=
  wp_L_some S (w4 >>> ((4 : Int32) &&& 31)) (24 : Int32) (fun r4 S3 => okA S1 8 w0 ∧ (wp_X8_today S1 w0 (fun r8 S7 => wp_L_some S3 (w4 >>> ((8 : Int32) &&& 31)) (3 : Int32) (fun r11 S10 => lt (r8 + r11) (fun y12 => okA S10 11 w2 ∧ (vp_in (1 : Int32) (g_N S10 w2) ∧ (wp_L_some S10 w4 (g_R S10 w2 (1 : Int32).toNatClampNeg) (fun r16 S15 => wp_L_some S15 (w4 >>> ((3 : Int32) &&& 31)) (3 : Int32) (fun r18 S17 => wp_L_some S17 (w4 >>> ((6 : Int32) &&& 31)) (4 : Int32) (fun r20 S19 => wp_L_some S19 (w4 >>> ((9 : Int32) &&& 31)) ((24 : Int32) - r4) (fun r22 S21 => wp_L_event S7 w0 r16 r18 r20 y12 r4 ((1 : Int32) + r22) (fun r25 S24 => okA S21 11 w2 ∧ (vp_in (1 : Int32) (g_N S21 w2) ∧ (wp_L_some S21 w4 (g_R S21 w2 (1 : Int32).toNatClampNeg) (fun r30 S29 => wp_L_some S29 (w4 >>> ((3 : Int32) &&& 31)) (3 : Int32) (fun r32 S31 => wp_L_some S31 (w4 >>> ((6 : Int32) &&& 31)) (4 : Int32) (fun r34 S33 => wp_L_some S33 (w4 >>> ((9 : Int32) &&& 31)) ((24 : Int32) - r4) (fun r36 S35 => wp_L_event S2 w1 r30 r32 r34 y12 r4 ((1 : Int32) + r36) (fun r39 S38 => lt (if r25 = r39 then (1 : Int32) else (0 : Int32)) (fun y41 => if r25 < 0 then (okA S35 11 w2 ∧ (vp_in ((12 : Int32) + (20 : Int32)) (g_N S35 w2) ∧ (lt (s_R S35 w2 ((12 : Int32) + (20 : Int32)).toNatClampNeg (0 : Int32)) (fun S44 => wp_L_events_B175 Q S24 S38 S44 w0 w1 w2 w3 w4 w5 r4 y12 r25 y41)))) else (okA S35 11 w2 ∧ (vp_in ((12 : Int32) + r25) (g_N S35 w2) ∧ (lt (s_R S35 w2 ((12 : Int32) + r25).toNatClampNeg (0 : Int32)) (fun S65 => wp_L_events_B175 Q S24 S38 S65 w0 w1 w2 w3 w4 w5 r4 y12 r25 y41))))))))))))))))))))))))
def wp_L_events_B540 (Q : Int32 → Hp → Hp → Hp → Prop) (S1 S2 S : Hp) (w0 : Nat) (w1 : Nat) (w2 : Nat) (w3 : Int32) (w4 : Int32) (w5 : Int32) (w6 : Int32) (w7 : Int32) (w8 : Int32) : Prop :=
  okA S 11 w2 ∧ (vp_in (2 : Int32) (g_N S w2) ∧ (lt (((1 : Int32) <<< ((g_R S w2 (2 : Int32).toNatClampNeg) &&& 31)) - (1 : Int32)) (fun y84 => wp_L_some S (w3 >>> ((4 : Int32) &&& 31)) (256 : Int32) (fun r86 S85 => lt ((r86 &&& y84) &&& (31 : Int32)) (fun y87 => wp_L_both S1 S2 S85 w0 w1 (16 : Int32) w7 w8 y87 (0 : Int32) (fun r91 S88 S89 S90 => if r91 = (-2000000003 : Int32) then (wp_L_call S88 w0 (16 : Int32) w7 w8 (0 : Int32) (0 : Int32) (fun r100 S99 => if r100 = (-2000000003 : Int32) then (bz (1 : Int32) (Q (1 : Int32) S99 S89 S90)) else (bz (0 : Int32) (Q (0 : Int32) S99 S89 S90)))) else (if r91 = (1 : Int32) then (bz (1 : Int32) (Q (1 : Int32) S88 S89 S90)) else (if r91 = 0 then (wp_L_call S88 w0 (16 : Int32) w7 w8 (y87 &&& (5 : Int32)) (0 : Int32) (fun r96 S95 => bz (if r96 = 0 then (1 : Int32) else (0 : Int32)) (Q (if r96 = 0 then (1 : Int32) else (0 : Int32)) S95 S89 S90))) else (bz (0 : Int32) (Q (0 : Int32) S88 S89 S90))))))))))
def wp_L_events_B503 (Q : Int32 → Hp → Hp → Hp → Prop) (S1 S2 S : Hp) (w0 : Nat) (w1 : Nat) (w2 : Nat) (w3 : Int32) (w4 : Int32) (w5 : Int32) (w6 : Int32) : Prop :=
  okA S1 8 w0 ∧ (wp_X8_today S1 w0 (fun r75 S74 => wp_L_some S (w4 >>> ((4 : Int32) &&& 31)) (3 : Int32) (fun r78 S77 => lt (r75 + r78) (fun y79 => wp_L_some S77 (w4 >>> ((7 : Int32) &&& 31)) (24 : Int32) (fun r81 S80 => if y79 ≤ (9999 : Int32) then (wp_L_events_B540 Q S74 S2 S80 w0 w1 w2 w3 w4 w5 w6 y79 r81) else (bz (1 : Int32) (Q (1 : Int32) S74 S2 S80)))))))
def wp_L_events_L417 (Q : Int32 → Hp → Hp → Hp → Prop) (f0 : Nat) (f1 : Nat) (f2 : Nat) (f3 : Int32) (f4 : Int32) (f5 : Int32) (f6 : Int32) (f7 : Int32) (f8 : Int32) (f9 : Int32) : Nat → Hp → Hp → Hp → Int32 → Int32 → Prop
  | 0, _, _, _, _, _ => False
  | n + 1, S1, S2, S, w10, w11 => if (8 : Int32) ≤ w11 then (if f9 = w10 then (okA S1 8 f0 ∧ (wp_X8_why S1 f0 f6 (fun r124 S123 => if r124 < 0 then (bz (0 : Int32) (Q (0 : Int32) S123 S2 S)) else (okA S123 8 f0 ∧ (wp_X8_why S123 f0 f6 (fun r129 S128 => if (4 : Int32) < r129 then (bz (0 : Int32) (Q (0 : Int32) S128 S2 S)) else (if 0 < w10 then (bz (1 : Int32) (Q (1 : Int32) S128 S2 S)) else (okA S128 8 f0 ∧ (wp_X8_why S128 f0 f6 (fun r134 S133 => if r134 = (1 : Int32) then (bz (1 : Int32) (Q (1 : Int32) S133 S2 S)) else (okA S133 8 f0 ∧ (wp_X8_why S133 f0 f6 (fun r139 S138 => bz (if r139 = 0 then (1 : Int32) else (0 : Int32)) (Q (if r139 = 0 then (1 : Int32) else (0 : Int32)) S138 S2 S)) (fun _ _ => False)))) (fun _ _ => False))))) (fun _ _ => False)))) (fun _ _ => False))) else (bz (0 : Int32) (Q (0 : Int32) S1 S2 S))) else (okA S 11 f2 ∧ (vp_in ((12 : Int32) + f6) (g_N S f2) ∧ (lt (w10 + (((g_R S f2 ((12 : Int32) + f6).toNatClampNeg) >>> (w11 &&& 31)) &&& (1 : Int32))) (fun y143 => wp_L_events_L417 Q f0 f1 f2 f3 f4 f5 f6 f7 f8 f9 n S1 S2 S y143 (w11 + (1 : Int32))))))
def wp_L_events_B411 (Q : Int32 → Hp → Hp → Hp → Prop) (S1 S2 S : Hp) (w0 : Nat) (w1 : Nat) (w2 : Nat) (w3 : Int32) (w4 : Int32) (w5 : Int32) (w6 : Int32) (w7 : Int32) (w8 : Int32) (w9 : Int32) : Prop :=
  ∃ n144, wp_L_events_L417 Q w0 w1 w2 w3 w4 w5 w6 w7 w8 w9 n144 S1 S2 S (0 : Int32) (0 : Int32)
def wp_L_events_B290 (Q : Int32 → Hp → Hp → Hp → Prop) (S1 S2 S : Hp) (w0 : Nat) (w1 : Nat) (w2 : Nat) (w3 : Int32) (w4 : Int32) (w5 : Int32) (w6 : Int32) : Prop :=
  okA S 11 w2 ∧ (vp_in (2 : Int32) (g_N S w2) ∧ (wp_L_some S (w4 >>> ((5 : Int32) &&& 31)) (g_R S w2 (2 : Int32).toNatClampNeg) (fun r107 S106 => wp_L_some S106 (w3 >>> ((4 : Int32) &&& 31)) (4 : Int32) (fun r109 S108 => lt (if r109 ≤ 0 then (0 : Int32) else (1 : Int32)) (fun y110 => wp_L_both S1 S2 S108 w0 w1 (14 : Int32) w6 r107 y110 (0 : Int32) (fun r114 S111 S112 S113 => if r114 = (-2000000003 : Int32) then (if y110 = (1 : Int32) then (okA S113 11 w2 ∧ (vp_in ((12 : Int32) + w6) (g_N S113 w2) ∧ (bz (if (((g_R S113 w2 ((12 : Int32) + w6).toNatClampNeg) >>> (r107 &&& 31)) &&& (1 : Int32)) = 0 then (1 : Int32) else (0 : Int32)) (Q (if (((g_R S113 w2 ((12 : Int32) + w6).toNatClampNeg) >>> (r107 &&& 31)) &&& (1 : Int32)) = 0 then (1 : Int32) else (0 : Int32)) S111 S112 S113)))) else (bz (0 : Int32) (Q (0 : Int32) S111 S112 S113))) else (if y110 = (1 : Int32) then (okA S113 11 w2 ∧ (vp_in ((12 : Int32) + w6) (g_N S113 w2) ∧ (vp_in ((12 : Int32) + w6) (g_N S113 w2) ∧ (lt (s_R S113 w2 ((12 : Int32) + w6).toNatClampNeg ((g_R S113 w2 ((12 : Int32) + w6).toNatClampNeg) ||| ((1 : Int32) <<< (r107 &&& 31)))) (fun S148 => wp_L_events_B411 Q S111 S112 S148 w0 w1 w2 w3 w4 w5 w6 r107 y110 r114))))) else (okA S113 11 w2 ∧ (vp_in ((12 : Int32) + w6) (g_N S113 w2) ∧ (vp_in ((12 : Int32) + w6) (g_N S113 w2) ∧ (lt (s_R S113 w2 ((12 : Int32) + w6).toNatClampNeg ((g_R S113 w2 ((12 : Int32) + w6).toNatClampNeg) &&& (((1 : Int32) <<< (r107 &&& 31)) ^^^ (-1 : Int32)))) (fun S120 => wp_L_events_B411 Q S111 S112 S120 w0 w1 w2 w3 w4 w5 w6 r107 y110 r114))))))))))))
def wp_L_events_B267 (Q : Int32 → Hp → Hp → Hp → Prop) (S1 S2 S : Hp) (w0 : Nat) (w1 : Nat) (w2 : Nat) (w3 : Int32) (w4 : Int32) (w5 : Int32) : Prop :=
  okA S 11 w2 ∧ (vp_in (3 : Int32) (g_N S w2) ∧ (wp_L_some S w4 (g_R S w2 (3 : Int32).toNatClampNeg) (fun r71 S70 => if (7 : Int32) ≤ w5 then (wp_L_events_B503 Q S1 S2 S70 w0 w1 w2 w3 w4 w5 r71) else (okA S70 11 w2 ∧ (vp_in (2 : Int32) (g_N S70 w2) ∧ (if (g_R S70 w2 (2 : Int32).toNatClampNeg) ≤ 0 then (wp_L_events_B503 Q S1 S2 S70 w0 w1 w2 w3 w4 w5 r71) else (wp_L_events_B290 Q S1 S2 S70 w0 w1 w2 w3 w4 w5 r71)))))))
def wp_L_events (S1 S2 S : Hp) (x0 : Nat) (x1 : Nat) (x2 : Nat) (x3 : Int32) (x4 : Int32) (Q : Int32 → Hp → Hp → Hp → Prop) : Prop :=
  wp_L_some S x3 (9 : Int32) (fun r2 S1 => if r2 < (3 : Int32) then (wp_L_events_B20 Q S1 S2 S1 x0 x1 x2 x3 x4 r2) else (okA S1 11 x2 ∧ (vp_in (3 : Int32) (g_N S1 x2) ∧ (if (g_R S1 x2 (3 : Int32).toNatClampNeg) = 0 then (wp_L_events_B20 Q S1 S2 S1 x0 x1 x2 x3 x4 r2) else (wp_L_events_B267 Q S1 S2 S1 x0 x1 x2 x3 x4 r2)))))
def rm_L_events : Room := { frames := 12, cells := 138, slots := 4410, locals := 356 }
set_option maxHeartbeats 4000000 in
set_option maxRecDepth 100000 in
theorem k_L_events_B175 (l : Launch) (hfl : l.stackTraces = false) (v : Ev) {x9 : P9} {A : Nat → Prop} {E : State → Prop} {X0 Y : va_W} (C : ∀ X, Cx l v RL cL_events 12 (some .boolean) "events" (x9, X, A, E)) (Q : Int32 → Hp → Hp → Hp → Prop) (T : E3 v rm_L_events (Q3i v) Q X0 Y A E x9) (S1 S2 S : Hp) (t1 : g_T S1 = v.2.2.1) (t2 : g_T S2 = v.2.2.1) (w0 : Nat) (w1 : Nat) (w2 : Nat) (w3 : Int32) (w4 : Int32) (w5 : Int32) (w6 : Int32) (w7 : Int32) (w8 : Int32) (w9 : Int32) (h : wp_L_events_B175 Q S1 S2 S w0 w1 w2 w3 w4 w5 w6 w7 w8 w9) : ZZ l v 12 rm_L_events (x9, Y3 v.2.1 Y S1 S2, A, E) 18 226 S 175 [(0, va_rf (some w0)), (1, va_rf (some w1)), (2, va_rf (some w2)), (3, .int w3), (4, .int w4), (5, .int w5), (6, .int w6), (7, .int w7), (8, .int w8), (9, .int w9)] [] := by
  unfold wp_L_events_B175 at h
  refine z_aload_n (C _) (pc := 175) dL_events_175 2 rfl ?_
  refine z_iconst (C _) (pc := 176) (x := (3 : Int32)) dL_events_176 kic_3 ?_
  refine z_dup2 (C _) (pc := 177) dL_events_177 rfl (cat_rf _) ?_
  obtain ⟨o45, h⟩ := h
  obtain ⟨v46, h⟩ := h
  refine z_iald (C _) (pc := 178) dL_events_178 rfl o45 v46 ?_
  refine z_iload (C _) (pc := 179) dL_events_179 8 rfl ?_
  refine z_t_if_lt (C _) (pc := 181) dL_events_181 dL_events_184 kic_1 dL_events_185 dL_events_188 kic_0 ?_
  refine z_iadd (C _) (pc := 189) dL_events_189 ?_
  obtain ⟨v47, h⟩ := h
  refine z_iast (C _) (pc := 190) dL_events_190 rfl o45 v47 ?_
  refine z_lt h (fun S48 h => ?_)
  refine z_iload (C _) (pc := 191) dL_events_191 9 rfl ?_
  refine z_if_eq (C _) (pc := 193) (tgt := 265) dL_events_193 (by decide) h (fun h => ?_) (fun h => ?_)
  · refine z_iconst (C _) (pc := 265) (x := (0 : Int32)) dL_events_265 kic_0 ?_
    exact z_zret3 (C _) (pc := 266) T t1 t2 dL_events_266 (by decide) (by decide) h
  · refine z_iload (C _) (pc := 196) dL_events_196 8 rfl ?_
    refine z_ldc (C _) (pc := 198) (x := (-2000000003 : Int32)) dL_events_198 bw_778 ?_
    refine z_icmp_ne (C _) (pc := 200) (tgt := 214) dL_events_200 (by decide) h (fun h => ?_) (fun h => ?_)
    · refine z_iload (C _) (pc := 214) dL_events_214 8 rfl ?_
      refine z_ldc (C _) (pc := 216) (x := (-2000000002 : Int32)) dL_events_216 bw_777 ?_
      refine z_icmp_ne (C _) (pc := 218) (tgt := 232) dL_events_218 (by decide) h (fun h => ?_) (fun h => ?_)
      · refine z_iload (C _) (pc := 232) dL_events_232 8 rfl ?_
        refine z_aload_n (C _) (pc := 234) dL_events_234 2 rfl ?_
        refine z_iconst (C _) (pc := 235) (x := (3 : Int32)) dL_events_235 kic_3 ?_
        obtain ⟨o49, h⟩ := h
        obtain ⟨v50, h⟩ := h
        refine z_iald (C _) (pc := 236) dL_events_236 rfl o49 v50 ?_
        refine z_iconst (C _) (pc := 237) (x := (1 : Int32)) dL_events_237 kic_1 ?_
        refine z_isub (C _) (pc := 238) dL_events_238 ?_
        refine z_icmp_ne (C _) (pc := 239) (tgt := 265) dL_events_239 (by decide) h (fun h => ?_) (fun h => ?_)
        · refine z_iconst (C _) (pc := 265) (x := (0 : Int32)) dL_events_265 kic_0 ?_
          exact z_zret3 (C _) (pc := 266) T t1 t2 dL_events_266 (by decide) (by decide) h
        · refine z_aload_n (C _) (pc := 242) dL_events_242 0 rfl ?_
          refine z_iload (C _) (pc := 243) dL_events_243 8 rfl ?_
          obtain ⟨o51, h⟩ := h
          refine z_s1 t1 (fun t52 => ?_)
          refine z_Vi (C _) (pc := 245) (KX := fun _ _ => False) (kc' := 19) (ks' := 231) (As := [.int w8]) (rest := []) rfl (c_X8_why_n l v S1 w0 w8) mw_X8_why bw_298 bw_299 bw_300 (fit_of rfl) rfl rfl (Nat.le_of_ble_eq_true rfl) (by decide) rfl o51 dL_events_245 h (fun r54 S53 h => ?_) (fun En S9 h => h.elim)
          refine z_s1' t52 (fun t55 => ?_)
          refine z_iconst (C _) (pc := 248) (x := (1 : Int32)) dL_events_248 kic_1 ?_
          refine z_icmp_eq (C _) (pc := 249) (tgt := 261) dL_events_249 (by decide) h (fun h => ?_) (fun h => ?_)
          · refine z_iconst (C _) (pc := 261) (x := (1 : Int32)) dL_events_261 kic_1 ?_
            refine z_goto (C _) (pc := 262) (tgt := 266) dL_events_262 (by decide) ?_
            exact z_zret3 (C _) (pc := 266) T t55 t2 dL_events_266 (by decide) (by decide) h
          · refine z_aload_n (C _) (pc := 252) dL_events_252 0 rfl ?_
            refine z_iload (C _) (pc := 253) dL_events_253 8 rfl ?_
            obtain ⟨o56, h⟩ := h
            refine z_s1 t55 (fun t57 => ?_)
            refine z_Vi (C _) (pc := 255) (KX := fun _ _ => False) (kc' := 20) (ks' := 236) (As := [.int w8]) (rest := []) rfl (c_X8_why_n l v S53 w0 w8) mw_X8_why bw_298 bw_299 bw_300 (fit_of rfl) rfl rfl (Nat.le_of_ble_eq_true rfl) (by decide) rfl o56 dL_events_255 h (fun r59 S58 h => ?_) (fun En S9 h => h.elim)
            refine z_s1' t57 (fun t60 => ?_)
            refine z_t_if_ne (C _) (pc := 258) dL_events_258 dL_events_261 kic_1 dL_events_262 dL_events_265 kic_0 ?_
            exact z_zret3 (C _) (pc := 266) T t60 t2 dL_events_266 (by decide) (by decide) h
      · refine z_iload (C _) (pc := 221) dL_events_221 7 rfl ?_
        refine z_sipush (C _) (pc := 223) (x := (9999 : Int32)) dL_events_223 ksp_9999 ?_
        refine z_icmp_le (C _) (pc := 226) (tgt := 265) dL_events_226 (by decide) h (fun h => ?_) (fun h => ?_)
        · refine z_iconst (C _) (pc := 265) (x := (0 : Int32)) dL_events_265 kic_0 ?_
          exact z_zret3 (C _) (pc := 266) T t1 t2 dL_events_266 (by decide) (by decide) h
        · refine z_goto (C _) (pc := 229) (tgt := 261) dL_events_229 (by decide) ?_
          refine z_iconst (C _) (pc := 261) (x := (1 : Int32)) dL_events_261 kic_1 ?_
          refine z_goto (C _) (pc := 262) (tgt := 266) dL_events_262 (by decide) ?_
          exact z_zret3 (C _) (pc := 266) T t1 t2 dL_events_266 (by decide) (by decide) h
    · refine z_aload_n (C _) (pc := 203) dL_events_203 2 rfl ?_
      refine z_iconst (C _) (pc := 204) (x := (3 : Int32)) dL_events_204 kic_3 ?_
      obtain ⟨o61, h⟩ := h
      obtain ⟨v62, h⟩ := h
      refine z_iald (C _) (pc := 205) dL_events_205 rfl o61 v62 ?_
      refine z_bipush (C _) (pc := 206) (x := (20 : Int32)) dL_events_206 kbp_20 ?_
      refine z_icmp_ne (C _) (pc := 208) (tgt := 265) dL_events_208 (by decide) h (fun h => ?_) (fun h => ?_)
      · refine z_iconst (C _) (pc := 265) (x := (0 : Int32)) dL_events_265 kic_0 ?_
        exact z_zret3 (C _) (pc := 266) T t1 t2 dL_events_266 (by decide) (by decide) h
      · refine z_goto (C _) (pc := 211) (tgt := 261) dL_events_211 (by decide) ?_
        refine z_iconst (C _) (pc := 261) (x := (1 : Int32)) dL_events_261 kic_1 ?_
        refine z_goto (C _) (pc := 262) (tgt := 266) dL_events_262 (by decide) ?_
        exact z_zret3 (C _) (pc := 266) T t1 t2 dL_events_266 (by decide) (by decide) h
set_option maxHeartbeats 4000000 in
set_option maxRecDepth 100000 in
theorem k_L_events_B20 (l : Launch) (hfl : l.stackTraces = false) (v : Ev) {x9 : P9} {A : Nat → Prop} {E : State → Prop} {X0 Y : va_W} (C : ∀ X, Cx l v RL cL_events 12 (some .boolean) "events" (x9, X, A, E)) (Q : Int32 → Hp → Hp → Hp → Prop) (T : E3 v rm_L_events (Q3i v) Q X0 Y A E x9) (S1 S2 S : Hp) (t1 : g_T S1 = v.2.2.1) (t2 : g_T S2 = v.2.2.1) (w0 : Nat) (w1 : Nat) (w2 : Nat) (w3 : Int32) (w4 : Int32) (w5 : Int32) (h : wp_L_events_B20 Q S1 S2 S w0 w1 w2 w3 w4 w5) : ZZ l v 12 rm_L_events (x9, Y3 v.2.1 Y S1 S2, A, E) 0 0 S 20 [(0, va_rf (some w0)), (1, va_rf (some w1)), (2, va_rf (some w2)), (3, .int w3), (4, .int w4), (5, .int w5)] [] := by
  unfold wp_L_events_B20 at h
  refine z_iload (C _) (pc := 20) dL_events_20 4 rfl ?_
  refine z_iconst (C _) (pc := 22) (x := (4 : Int32)) dL_events_22 kic_4 ?_
  refine z_ishr (C _) (pc := 23) dL_events_23 ?_
  refine z_bipush (C _) (pc := 24) (x := (24 : Int32)) dL_events_24 kbp_24 ?_
  refine z_Si8 (C _) (pc := 26) (KX := fun _ _ => False) (kc' := 0) (ks' := 0) (As := [.int (w4 >>> ((4 : Int32) &&& 31)), .int (24 : Int32)]) (rest := []) (c_L_some l v S (w4 >>> ((4 : Int32) &&& 31)) (24 : Int32)) mw_L_some bw_101 bw_102 (fit_of rfl) rfl rfl (Nat.le_of_ble_eq_true rfl) dL_events_26 h (fun r4 S3 h => ?_) (fun En S9 h => h.elim)
  refine z_istore (C _) (pc := 29) (lv' := [(6, .int r4), (0, va_rf (some w0)), (1, va_rf (some w1)), (2, va_rf (some w2)), (3, .int w3), (4, .int w4), (5, .int w5)]) dL_events_29 (by decide) rfl ?_
  refine z_aload_n (C _) (pc := 31) dL_events_31 1 rfl ?_
  obtain ⟨o5, h⟩ := h
  refine z_s1 t1 (fun t6 => ?_)
  refine z_Vi (C _) (pc := 32) (KX := fun _ _ => False) (kc' := 0) (ks' := 0) (As := []) (rest := []) rfl (c_X8_today l v S1 w0) mw_X8_today bw_108 bw_109 bw_110 (fit_of rfl) rfl rfl (Nat.le_of_ble_eq_true rfl) (by decide) rfl o5 dL_events_32 h (fun r8 S7 h => ?_) (fun En S9 h => h.elim)
  refine z_s1' t6 (fun t9 => ?_)
  refine z_iload (C _) (pc := 35) dL_events_35 5 rfl ?_
  refine z_bipush (C _) (pc := 37) (x := (8 : Int32)) dL_events_37 kbp_8 ?_
  refine z_ishr (C _) (pc := 39) dL_events_39 ?_
  refine z_iconst (C _) (pc := 40) (x := (3 : Int32)) dL_events_40 kic_3 ?_
  refine z_Si8 (C _) (pc := 41) (KX := fun _ _ => False) (kc' := 0) (ks' := 0) (As := [.int (w4 >>> ((8 : Int32) &&& 31)), .int (3 : Int32)]) (rest := [.int r8]) (c_L_some l v S3 (w4 >>> ((8 : Int32) &&& 31)) (3 : Int32)) mw_L_some bw_101 bw_102 (fit_of rfl) rfl rfl (Nat.le_of_ble_eq_true rfl) dL_events_41 h (fun r11 S10 h => ?_) (fun En S9 h => h.elim)
  refine z_iadd (C _) (pc := 44) dL_events_44 ?_
  refine z_nI h (fun y12 h => ?_)
  refine z_istore (C _) (pc := 45) (lv' := [(7, .int y12), (6, .int r4), (0, va_rf (some w0)), (1, va_rf (some w1)), (2, va_rf (some w2)), (3, .int w3), (4, .int w4), (5, .int w5)]) dL_events_45 (by decide) rfl ?_
  refine z_aload_n (C _) (pc := 47) dL_events_47 2 rfl ?_
  refine z_iload (C _) (pc := 48) dL_events_48 6 rfl ?_
  refine z_aload_n (C _) (pc := 50) dL_events_50 4 rfl ?_
  refine z_iconst (C _) (pc := 51) (x := (1 : Int32)) dL_events_51 kic_1 ?_
  obtain ⟨o13, h⟩ := h
  obtain ⟨v14, h⟩ := h
  refine z_iald (C _) (pc := 52) dL_events_52 rfl o13 v14 ?_
  refine z_Si8 (C _) (pc := 53) (KX := fun _ _ => False) (kc' := 0) (ks' := 0) (As := [.int w4, .int (g_R S10 w2 (1 : Int32).toNatClampNeg)]) (rest := [va_rf (some w0)]) (c_L_some l v S10 w4 (g_R S10 w2 (1 : Int32).toNatClampNeg)) mw_L_some bw_101 bw_102 (fit_of rfl) rfl rfl (Nat.le_of_ble_eq_true rfl) dL_events_53 h (fun r16 S15 h => ?_) (fun En S9 h => h.elim)
  refine z_iload (C _) (pc := 56) dL_events_56 6 rfl ?_
  refine z_iconst (C _) (pc := 58) (x := (3 : Int32)) dL_events_58 kic_3 ?_
  refine z_ishr (C _) (pc := 59) dL_events_59 ?_
  refine z_iconst (C _) (pc := 60) (x := (3 : Int32)) dL_events_60 kic_3 ?_
  refine z_Si8 (C _) (pc := 61) (KX := fun _ _ => False) (kc' := 0) (ks' := 0) (As := [.int (w4 >>> ((3 : Int32) &&& 31)), .int (3 : Int32)]) (rest := [.int r16, va_rf (some w0)]) (c_L_some l v S15 (w4 >>> ((3 : Int32) &&& 31)) (3 : Int32)) mw_L_some bw_101 bw_102 (fit_of rfl) rfl rfl (Nat.le_of_ble_eq_true rfl) dL_events_61 h (fun r18 S17 h => ?_) (fun En S9 h => h.elim)
  refine z_iload (C _) (pc := 64) dL_events_64 6 rfl ?_
  refine z_bipush (C _) (pc := 66) (x := (6 : Int32)) dL_events_66 kbp_6 ?_
  refine z_ishr (C _) (pc := 68) dL_events_68 ?_
  refine z_iconst (C _) (pc := 69) (x := (4 : Int32)) dL_events_69 kic_4 ?_
  refine z_Si8 (C _) (pc := 70) (KX := fun _ _ => False) (kc' := 0) (ks' := 0) (As := [.int (w4 >>> ((6 : Int32) &&& 31)), .int (4 : Int32)]) (rest := [.int r18, .int r16, va_rf (some w0)]) (c_L_some l v S17 (w4 >>> ((6 : Int32) &&& 31)) (4 : Int32)) mw_L_some bw_101 bw_102 (fit_of rfl) rfl rfl (Nat.le_of_ble_eq_true rfl) dL_events_70 h (fun r20 S19 h => ?_) (fun En S9 h => h.elim)
  refine z_iload (C _) (pc := 73) dL_events_73 0 rfl ?_
  refine z_iload (C _) (pc := 75) dL_events_75 1 rfl ?_
  refine z_iconst (C _) (pc := 77) (x := (1 : Int32)) dL_events_77 kic_1 ?_
  refine z_iload (C _) (pc := 78) dL_events_78 6 rfl ?_
  refine z_bipush (C _) (pc := 80) (x := (9 : Int32)) dL_events_80 kbp_9 ?_
  refine z_ishr (C _) (pc := 82) dL_events_82 ?_
  refine z_bipush (C _) (pc := 83) (x := (24 : Int32)) dL_events_83 kbp_24 ?_
  refine z_iload (C _) (pc := 85) dL_events_85 1 rfl ?_
  refine z_isub (C _) (pc := 87) dL_events_87 ?_
  refine z_Si8 (C _) (pc := 88) (KX := fun _ _ => False) (kc' := 0) (ks' := 0) (As := [.int (w4 >>> ((9 : Int32) &&& 31)), .int ((24 : Int32) - r4)]) (rest := [.int (1 : Int32), .int r4, .int y12, .int r20, .int r18, .int r16, va_rf (some w0)]) (c_L_some l v S19 (w4 >>> ((9 : Int32) &&& 31)) ((24 : Int32) - r4)) mw_L_some bw_101 bw_102 (fit_of rfl) rfl rfl (Nat.le_of_ble_eq_true rfl) dL_events_88 h (fun r22 S21 h => ?_) (fun En S9 h => h.elim)
  refine z_iadd (C _) (pc := 91) dL_events_91 ?_
  refine z_s1 t9 (fun t23 => ?_)
  refine z_SW (C _) (pc := 92) (kc' := 9) (ks' := 113) (As := [va_rf (some w0), .int r16, .int r18, .int r20, .int y12, .int r4, .int ((1 : Int32) + r22)]) (rest := []) (c_L_event l hfl v S7 w0 r16 r18 r20 y12 r4 ((1 : Int32) + r22)) bw_834 bw_0 (by decide +kernel) (n := 7) (by decide +kernel) bw_832 bw_833 (fit_of rfl) rfl rfl (Nat.le_of_ble_eq_true rfl) dL_events_92 h (fun r25 S24 h => ?_)
  refine z_s1' t23 (fun t26 => ?_)
  refine z_istore (C _) (pc := 95) (lv' := [(8, .int r25), (7, .int y12), (6, .int r4), (0, va_rf (some w0)), (1, va_rf (some w1)), (2, va_rf (some w2)), (3, .int w3), (4, .int w4), (5, .int w5)]) dL_events_95 (by decide) rfl ?_
  refine z_iload (C _) (pc := 97) dL_events_97 0 rfl ?_
  refine z_aload_n (C _) (pc := 99) dL_events_99 4 rfl ?_
  refine z_iload (C _) (pc := 100) dL_events_100 7 rfl ?_
  refine z_aload_n (C _) (pc := 102) dL_events_102 5 rfl ?_
  refine z_iconst (C _) (pc := 103) (x := (1 : Int32)) dL_events_103 kic_1 ?_
  obtain ⟨o27, h⟩ := h
  obtain ⟨v28, h⟩ := h
  refine z_iald (C _) (pc := 104) dL_events_104 rfl o27 v28 ?_
  refine z_Si8 (C _) (pc := 105) (KX := fun _ _ => False) (kc' := 9) (ks' := 113) (As := [.int w4, .int (g_R S21 w2 (1 : Int32).toNatClampNeg)]) (rest := [va_rf (some w1), .int r25]) (c_L_some l v S21 w4 (g_R S21 w2 (1 : Int32).toNatClampNeg)) mw_L_some bw_101 bw_102 (fit_of rfl) rfl rfl (Nat.le_of_ble_eq_true rfl) dL_events_105 h (fun r30 S29 h => ?_) (fun En S9 h => h.elim)
  refine z_iload (C _) (pc := 108) dL_events_108 7 rfl ?_
  refine z_iconst (C _) (pc := 110) (x := (3 : Int32)) dL_events_110 kic_3 ?_
  refine z_ishr (C _) (pc := 111) dL_events_111 ?_
  refine z_iconst (C _) (pc := 112) (x := (3 : Int32)) dL_events_112 kic_3 ?_
  refine z_Si8 (C _) (pc := 113) (KX := fun _ _ => False) (kc' := 9) (ks' := 113) (As := [.int (w4 >>> ((3 : Int32) &&& 31)), .int (3 : Int32)]) (rest := [.int r30, va_rf (some w1), .int r25]) (c_L_some l v S29 (w4 >>> ((3 : Int32) &&& 31)) (3 : Int32)) mw_L_some bw_101 bw_102 (fit_of rfl) rfl rfl (Nat.le_of_ble_eq_true rfl) dL_events_113 h (fun r32 S31 h => ?_) (fun En S9 h => h.elim)
  refine z_iload (C _) (pc := 116) dL_events_116 7 rfl ?_
  refine z_bipush (C _) (pc := 118) (x := (6 : Int32)) dL_events_118 kbp_6 ?_
  refine z_ishr (C _) (pc := 120) dL_events_120 ?_
  refine z_iconst (C _) (pc := 121) (x := (4 : Int32)) dL_events_121 kic_4 ?_
  refine z_Si8 (C _) (pc := 122) (KX := fun _ _ => False) (kc' := 9) (ks' := 113) (As := [.int (w4 >>> ((6 : Int32) &&& 31)), .int (4 : Int32)]) (rest := [.int r32, .int r30, va_rf (some w1), .int r25]) (c_L_some l v S31 (w4 >>> ((6 : Int32) &&& 31)) (4 : Int32)) mw_L_some bw_101 bw_102 (fit_of rfl) rfl rfl (Nat.le_of_ble_eq_true rfl) dL_events_122 h (fun r34 S33 h => ?_) (fun En S9 h => h.elim)
  refine z_iload (C _) (pc := 125) dL_events_125 1 rfl ?_
  refine z_iload (C _) (pc := 127) dL_events_127 2 rfl ?_
  refine z_iconst (C _) (pc := 129) (x := (1 : Int32)) dL_events_129 kic_1 ?_
  refine z_iload (C _) (pc := 130) dL_events_130 7 rfl ?_
  refine z_bipush (C _) (pc := 132) (x := (9 : Int32)) dL_events_132 kbp_9 ?_
  refine z_ishr (C _) (pc := 134) dL_events_134 ?_
  refine z_bipush (C _) (pc := 135) (x := (24 : Int32)) dL_events_135 kbp_24 ?_
  refine z_iload (C _) (pc := 137) dL_events_137 2 rfl ?_
  refine z_isub (C _) (pc := 139) dL_events_139 ?_
  refine z_Si8 (C _) (pc := 140) (KX := fun _ _ => False) (kc' := 9) (ks' := 113) (As := [.int (w4 >>> ((9 : Int32) &&& 31)), .int ((24 : Int32) - r4)]) (rest := [.int (1 : Int32), .int r4, .int y12, .int r34, .int r32, .int r30, va_rf (some w1), .int r25]) (c_L_some l v S33 (w4 >>> ((9 : Int32) &&& 31)) ((24 : Int32) - r4)) mw_L_some bw_101 bw_102 (fit_of rfl) rfl rfl (Nat.le_of_ble_eq_true rfl) dL_events_140 h (fun r36 S35 h => ?_) (fun En S9 h => h.elim)
  refine z_iadd (C _) (pc := 143) dL_events_143 ?_
  refine z_s2 t2 (fun t37 => ?_)
  refine z_SW (C _) (pc := 144) (kc' := 18) (ks' := 226) (As := [va_rf (some w1), .int r30, .int r32, .int r34, .int y12, .int r4, .int ((1 : Int32) + r36)]) (rest := [.int r25]) (c_L_event l hfl v S2 w1 r30 r32 r34 y12 r4 ((1 : Int32) + r36)) bw_834 bw_0 (by decide +kernel) (n := 7) (by decide +kernel) bw_832 bw_833 (fit_of rfl) rfl rfl (Nat.le_of_ble_eq_true rfl) dL_events_144 h (fun r39 S38 h => ?_)
  refine z_s2' t37 (fun t40 => ?_)
  refine z_t_icmp_ne (C _) (pc := 147) dL_events_147 dL_events_150 kic_1 dL_events_151 dL_events_154 kic_0 ?_
  refine z_nI h (fun y41 h => ?_)
  refine z_istore (C _) (pc := 155) (lv' := [(9, .int y41), (8, .int r25), (7, .int y12), (6, .int r4), (0, va_rf (some w0)), (1, va_rf (some w1)), (2, va_rf (some w2)), (3, .int w3), (4, .int w4), (5, .int w5)]) dL_events_155 (by decide) rfl ?_
  refine z_aload_n (C _) (pc := 157) dL_events_157 6 rfl ?_
  refine z_bipush (C _) (pc := 158) (x := (12 : Int32)) dL_events_158 kbp_12 ?_
  refine z_iload (C _) (pc := 160) dL_events_160 1 rfl ?_
  refine z_if_lt (C _) (pc := 162) (tgt := 170) dL_events_162 (by decide) h (fun h => ?_) (fun h => ?_)
  · refine z_bipush (C _) (pc := 170) (x := (20 : Int32)) dL_events_170 kbp_20 ?_
    refine z_iadd (C _) (pc := 172) dL_events_172 ?_
    refine z_iconst (C _) (pc := 173) (x := (0 : Int32)) dL_events_173 kic_0 ?_
    obtain ⟨o42, h⟩ := h
    obtain ⟨v43, h⟩ := h
    refine z_iast (C _) (pc := 174) dL_events_174 rfl o42 v43 ?_
    refine z_lt h (fun S44 h => ?_)
    refine z_sub [4, 5, 6, 7, 8, 9, 3, 2, 1, 0] (lv' := [(0, va_rf (some w0)), (1, va_rf (some w1)), (2, va_rf (some w2)), (3, .int w3), (4, .int w4), (5, .int w5), (6, .int r4), (7, .int y12), (8, .int r25), (9, .int y41)]) rfl ?_
    exact k_L_events_B175 l hfl v C Q T S24 S38 S44 t26 t40 w0 w1 w2 w3 w4 w5 r4 y12 r25 y41 h
  · refine z_iload (C _) (pc := 165) dL_events_165 1 rfl ?_
    refine z_goto (C _) (pc := 167) (tgt := 172) dL_events_167 (by decide) ?_
    refine z_iadd (C _) (pc := 172) dL_events_172 ?_
    refine z_iconst (C _) (pc := 173) (x := (0 : Int32)) dL_events_173 kic_0 ?_
    obtain ⟨o63, h⟩ := h
    obtain ⟨v64, h⟩ := h
    refine z_iast (C _) (pc := 174) dL_events_174 rfl o63 v64 ?_
    refine z_lt h (fun S65 h => ?_)
    refine z_sub [4, 5, 6, 7, 8, 9, 3, 2, 1, 0] (lv' := [(0, va_rf (some w0)), (1, va_rf (some w1)), (2, va_rf (some w2)), (3, .int w3), (4, .int w4), (5, .int w5), (6, .int r4), (7, .int y12), (8, .int r25), (9, .int y41)]) rfl ?_
    exact k_L_events_B175 l hfl v C Q T S24 S38 S65 t26 t40 w0 w1 w2 w3 w4 w5 r4 y12 r25 y41 h
set_option maxHeartbeats 4000000 in
set_option maxRecDepth 100000 in
theorem k_L_events_B540 (l : Launch) (hfl : l.stackTraces = false) (v : Ev) {x9 : P9} {A : Nat → Prop} {E : State → Prop} {X0 Y : va_W} (C : ∀ X, Cx l v RL cL_events 12 (some .boolean) "events" (x9, X, A, E)) (Q : Int32 → Hp → Hp → Hp → Prop) (T : E3 v rm_L_events (Q3i v) Q X0 Y A E x9) (S1 S2 S : Hp) (t1 : g_T S1 = v.2.2.1) (t2 : g_T S2 = v.2.2.1) (w0 : Nat) (w1 : Nat) (w2 : Nat) (w3 : Int32) (w4 : Int32) (w5 : Int32) (w6 : Int32) (w7 : Int32) (w8 : Int32) (h : wp_L_events_B540 Q S1 S2 S w0 w1 w2 w3 w4 w5 w6 w7 w8) : ZZ l v 12 rm_L_events (x9, Y3 v.2.1 Y S1 S2, A, E) 0 0 S 540 [(0, va_rf (some w0)), (1, va_rf (some w1)), (2, va_rf (some w2)), (3, .int w3), (4, .int w4), (5, .int w5), (6, .int w6), (7, .int w7), (8, .int w8)] [] := by
  unfold wp_L_events_B540 at h
  refine z_iconst (C _) (pc := 540) (x := (1 : Int32)) dL_events_540 kic_1 ?_
  refine z_aload_n (C _) (pc := 541) dL_events_541 2 rfl ?_
  refine z_iconst (C _) (pc := 542) (x := (2 : Int32)) dL_events_542 kic_2 ?_
  obtain ⟨o82, h⟩ := h
  obtain ⟨v83, h⟩ := h
  refine z_iald (C _) (pc := 543) dL_events_543 rfl o82 v83 ?_
  refine z_ishl (C _) (pc := 544) dL_events_544 ?_
  refine z_iconst (C _) (pc := 545) (x := (1 : Int32)) dL_events_545 kic_1 ?_
  refine z_isub (C _) (pc := 546) dL_events_546 ?_
  refine z_nI h (fun y84 h => ?_)
  refine z_istore (C _) (pc := 547) (lv' := [(9, .int y84), (0, va_rf (some w0)), (1, va_rf (some w1)), (2, va_rf (some w2)), (3, .int w3), (4, .int w4), (5, .int w5), (6, .int w6), (7, .int w7), (8, .int w8)]) dL_events_547 (by decide) rfl ?_
  refine z_iload_n (C _) (pc := 549) dL_events_549 4 rfl ?_
  refine z_iconst (C _) (pc := 550) (x := (4 : Int32)) dL_events_550 kic_4 ?_
  refine z_ishr (C _) (pc := 551) dL_events_551 ?_
  refine z_sipush (C _) (pc := 552) (x := (256 : Int32)) dL_events_552 ksp_256 ?_
  refine z_Si8 (C _) (pc := 555) (KX := fun _ _ => False) (kc' := 0) (ks' := 0) (As := [.int (w3 >>> ((4 : Int32) &&& 31)), .int (256 : Int32)]) (rest := []) (c_L_some l v S (w3 >>> ((4 : Int32) &&& 31)) (256 : Int32)) mw_L_some bw_101 bw_102 (fit_of rfl) rfl rfl (Nat.le_of_ble_eq_true rfl) dL_events_555 h (fun r86 S85 h => ?_) (fun En S9 h => h.elim)
  refine z_iload (C _) (pc := 558) dL_events_558 0 rfl ?_
  refine z_iand (C _) (pc := 560) dL_events_560 ?_
  refine z_bipush (C _) (pc := 561) (x := (31 : Int32)) dL_events_561 kbp_31 ?_
  refine z_iand (C _) (pc := 563) dL_events_563 ?_
  refine z_nI h (fun y87 h => ?_)
  refine z_istore (C _) (pc := 564) (lv' := [(10, .int y87), (9, .int y84), (0, va_rf (some w0)), (1, va_rf (some w1)), (2, va_rf (some w2)), (3, .int w3), (4, .int w4), (5, .int w5), (6, .int w6), (7, .int w7), (8, .int w8)]) dL_events_564 (by decide) rfl ?_
  refine z_aload_n (C _) (pc := 566) dL_events_566 2 rfl ?_
  refine z_aload_n (C _) (pc := 567) dL_events_567 3 rfl ?_
  refine z_bipush (C _) (pc := 568) (x := (16 : Int32)) dL_events_568 kbp_16 ?_
  refine z_iload (C _) (pc := 570) dL_events_570 9 rfl ?_
  refine z_iload (C _) (pc := 572) dL_events_572 10 rfl ?_
  refine z_iload (C _) (pc := 574) dL_events_574 0 rfl ?_
  refine z_iconst (C _) (pc := 576) (x := (0 : Int32)) dL_events_576 kic_0 ?_
  refine z_S3i (C _) (pc := 577) (kc' := 92) (ks' := 2940) (As := [va_rf (some w0), va_rf (some w1), .int (16 : Int32), .int w7, .int w8, .int y87, .int (0 : Int32)]) (rest := []) (c_L_both l hfl v S1 S2 S85 w0 w1 (16 : Int32) w7 w8 y87 (0 : Int32)) mw_L_both bw_364 bw_365 (fit_of rfl) rfl rfl (Nat.le_of_ble_eq_true rfl) t1 t2 dL_events_577 h (fun r91 S88 S89 S90 t92 t93 h => ?_)
  refine z_istore (C _) (pc := 580) (lv' := [(11, .int r91), (10, .int y87), (9, .int y84), (0, va_rf (some w0)), (1, va_rf (some w1)), (2, va_rf (some w2)), (3, .int w3), (4, .int w4), (5, .int w5), (6, .int w6), (7, .int w7), (8, .int w8)]) dL_events_580 (by decide) rfl ?_
  refine z_iload (C _) (pc := 582) dL_events_582 0 rfl ?_
  refine z_ldc (C _) (pc := 584) (x := (-2000000003 : Int32)) dL_events_584 bw_778 ?_
  refine z_icmp_ne (C _) (pc := 586) (tgt := 614) dL_events_586 (by decide) h (fun h => ?_) (fun h => ?_)
  · refine z_iload (C _) (pc := 614) dL_events_614 0 rfl ?_
    refine z_iconst (C _) (pc := 616) (x := (1 : Int32)) dL_events_616 kic_1 ?_
    refine z_icmp_eq (C _) (pc := 617) (tgt := 643) dL_events_617 (by decide) h (fun h => ?_) (fun h => ?_)
    · refine z_iconst (C _) (pc := 643) (x := (1 : Int32)) dL_events_643 kic_1 ?_
      refine z_goto (C _) (pc := 644) (tgt := 648) dL_events_644 (by decide) ?_
      exact z_zret3 (C _) (pc := 648) T t92 t93 dL_events_648 (by decide) (by decide) h
    · refine z_iload (C _) (pc := 620) dL_events_620 0 rfl ?_
      refine z_if_ne (C _) (pc := 622) (tgt := 647) dL_events_622 (by decide) h (fun h => ?_) (fun h => ?_)
      · refine z_iconst (C _) (pc := 647) (x := (0 : Int32)) dL_events_647 kic_0 ?_
        exact z_zret3 (C _) (pc := 648) T t92 t93 dL_events_648 (by decide) (by decide) h
      · refine z_aload_n (C _) (pc := 625) dL_events_625 3 rfl ?_
        refine z_bipush (C _) (pc := 626) (x := (16 : Int32)) dL_events_626 kbp_16 ?_
        refine z_iload (C _) (pc := 628) dL_events_628 10 rfl ?_
        refine z_iload (C _) (pc := 630) dL_events_630 11 rfl ?_
        refine z_iload (C _) (pc := 632) dL_events_632 1 rfl ?_
        refine z_iconst (C _) (pc := 634) (x := (5 : Int32)) dL_events_634 kic_5 ?_
        refine z_iand (C _) (pc := 635) dL_events_635 ?_
        refine z_iconst (C _) (pc := 636) (x := (0 : Int32)) dL_events_636 kic_0 ?_
        refine z_s1 t92 (fun t94 => ?_)
        refine z_SW (C _) (pc := 637) (kc' := 138) (ks' := 4410) (As := [va_rf (some w0), .int (16 : Int32), .int w7, .int w8, .int (y87 &&& (5 : Int32)), .int (0 : Int32)]) (rest := []) (c_L_call l hfl v S88 w0 (16 : Int32) w7 w8 (y87 &&& (5 : Int32)) (0 : Int32)) bw_369 bw_0 (by decide +kernel) (n := 6) (by decide +kernel) bw_367 bw_368 (fit_of rfl) rfl rfl (Nat.le_of_ble_eq_true rfl) dL_events_637 h (fun r96 S95 h => ?_)
        refine z_s1' t94 (fun t97 => ?_)
        refine z_t_if_ne (C _) (pc := 640) dL_events_640 dL_events_643 kic_1 dL_events_644 dL_events_647 kic_0 ?_
        exact z_zret3 (C _) (pc := 648) T t97 t93 dL_events_648 (by decide) (by decide) h
  · refine z_aload_n (C _) (pc := 589) dL_events_589 3 rfl ?_
    refine z_bipush (C _) (pc := 590) (x := (16 : Int32)) dL_events_590 kbp_16 ?_
    refine z_iload (C _) (pc := 592) dL_events_592 10 rfl ?_
    refine z_iload (C _) (pc := 594) dL_events_594 11 rfl ?_
    refine z_iconst (C _) (pc := 596) (x := (0 : Int32)) dL_events_596 kic_0 ?_
    refine z_iconst (C _) (pc := 597) (x := (0 : Int32)) dL_events_597 kic_0 ?_
    refine z_s1 t92 (fun t98 => ?_)
    refine z_SW (C _) (pc := 598) (kc' := 138) (ks' := 4410) (As := [va_rf (some w0), .int (16 : Int32), .int w7, .int w8, .int (0 : Int32), .int (0 : Int32)]) (rest := []) (c_L_call l hfl v S88 w0 (16 : Int32) w7 w8 (0 : Int32) (0 : Int32)) bw_369 bw_0 (by decide +kernel) (n := 6) (by decide +kernel) bw_367 bw_368 (fit_of rfl) rfl rfl (Nat.le_of_ble_eq_true rfl) dL_events_598 h (fun r100 S99 h => ?_)
    refine z_s1' t98 (fun t101 => ?_)
    refine z_ldc (C _) (pc := 601) (x := (-2000000003 : Int32)) dL_events_601 bw_778 ?_
    refine z_icmp_ne (C _) (pc := 603) (tgt := 610) dL_events_603 (by decide) h (fun h => ?_) (fun h => ?_)
    · refine z_iconst (C _) (pc := 610) (x := (0 : Int32)) dL_events_610 kic_0 ?_
      refine z_goto (C _) (pc := 611) (tgt := 648) dL_events_611 (by decide) ?_
      exact z_zret3 (C _) (pc := 648) T t101 t93 dL_events_648 (by decide) (by decide) h
    · refine z_iconst (C _) (pc := 606) (x := (1 : Int32)) dL_events_606 kic_1 ?_
      refine z_goto (C _) (pc := 607) (tgt := 648) dL_events_607 (by decide) ?_
      exact z_zret3 (C _) (pc := 648) T t101 t93 dL_events_648 (by decide) (by decide) h
set_option maxHeartbeats 4000000 in
set_option maxRecDepth 100000 in
theorem k_L_events_B503 (l : Launch) (hfl : l.stackTraces = false) (v : Ev) {x9 : P9} {A : Nat → Prop} {E : State → Prop} {X0 Y : va_W} (C : ∀ X, Cx l v RL cL_events 12 (some .boolean) "events" (x9, X, A, E)) (Q : Int32 → Hp → Hp → Hp → Prop) (T : E3 v rm_L_events (Q3i v) Q X0 Y A E x9) (S1 S2 S : Hp) (t1 : g_T S1 = v.2.2.1) (t2 : g_T S2 = v.2.2.1) (w0 : Nat) (w1 : Nat) (w2 : Nat) (w3 : Int32) (w4 : Int32) (w5 : Int32) (w6 : Int32) (h : wp_L_events_B503 Q S1 S2 S w0 w1 w2 w3 w4 w5 w6) : ZZ l v 12 rm_L_events (x9, Y3 v.2.1 Y S1 S2, A, E) 0 0 S 503 [(0, va_rf (some w0)), (1, va_rf (some w1)), (2, va_rf (some w2)), (3, .int w3), (4, .int w4), (5, .int w5), (6, .int w6)] [] := by
  unfold wp_L_events_B503 at h
  refine z_aload_n (C _) (pc := 503) dL_events_503 0 rfl ?_
  obtain ⟨o72, h⟩ := h
  refine z_s1 t1 (fun t73 => ?_)
  refine z_Vi (C _) (pc := 504) (KX := fun _ _ => False) (kc' := 0) (ks' := 0) (As := []) (rest := []) rfl (c_X8_today l v S1 w0) mw_X8_today bw_108 bw_109 bw_110 (fit_of rfl) rfl rfl (Nat.le_of_ble_eq_true rfl) (by decide) rfl o72 dL_events_504 h (fun r75 S74 h => ?_) (fun En S9 h => h.elim)
  refine z_s1' t73 (fun t76 => ?_)
  refine z_iload (C _) (pc := 507) dL_events_507 4 rfl ?_
  refine z_iconst (C _) (pc := 509) (x := (4 : Int32)) dL_events_509 kic_4 ?_
  refine z_ishr (C _) (pc := 510) dL_events_510 ?_
  refine z_iconst (C _) (pc := 511) (x := (3 : Int32)) dL_events_511 kic_3 ?_
  refine z_Si8 (C _) (pc := 512) (KX := fun _ _ => False) (kc' := 0) (ks' := 0) (As := [.int (w4 >>> ((4 : Int32) &&& 31)), .int (3 : Int32)]) (rest := [.int r75]) (c_L_some l v S (w4 >>> ((4 : Int32) &&& 31)) (3 : Int32)) mw_L_some bw_101 bw_102 (fit_of rfl) rfl rfl (Nat.le_of_ble_eq_true rfl) dL_events_512 h (fun r78 S77 h => ?_) (fun En S9 h => h.elim)
  refine z_iadd (C _) (pc := 515) dL_events_515 ?_
  refine z_nI h (fun y79 h => ?_)
  refine z_istore (C _) (pc := 516) (lv' := [(7, .int y79), (0, va_rf (some w0)), (1, va_rf (some w1)), (2, va_rf (some w2)), (3, .int w3), (4, .int w4), (5, .int w5), (6, .int w6)]) dL_events_516 (by decide) rfl ?_
  refine z_iload (C _) (pc := 518) dL_events_518 5 rfl ?_
  refine z_bipush (C _) (pc := 520) (x := (7 : Int32)) dL_events_520 kbp_7 ?_
  refine z_ishr (C _) (pc := 522) dL_events_522 ?_
  refine z_bipush (C _) (pc := 523) (x := (24 : Int32)) dL_events_523 kbp_24 ?_
  refine z_Si8 (C _) (pc := 525) (KX := fun _ _ => False) (kc' := 0) (ks' := 0) (As := [.int (w4 >>> ((7 : Int32) &&& 31)), .int (24 : Int32)]) (rest := []) (c_L_some l v S77 (w4 >>> ((7 : Int32) &&& 31)) (24 : Int32)) mw_L_some bw_101 bw_102 (fit_of rfl) rfl rfl (Nat.le_of_ble_eq_true rfl) dL_events_525 h (fun r81 S80 h => ?_) (fun En S9 h => h.elim)
  refine z_istore (C _) (pc := 528) (lv' := [(8, .int r81), (7, .int y79), (0, va_rf (some w0)), (1, va_rf (some w1)), (2, va_rf (some w2)), (3, .int w3), (4, .int w4), (5, .int w5), (6, .int w6)]) dL_events_528 (by decide) rfl ?_
  refine z_iload (C _) (pc := 530) dL_events_530 1 rfl ?_
  refine z_sipush (C _) (pc := 532) (x := (9999 : Int32)) dL_events_532 ksp_9999 ?_
  refine z_icmp_le (C _) (pc := 535) (tgt := 540) dL_events_535 (by decide) h (fun h => ?_) (fun h => ?_)
  · refine z_sub [2, 3, 4, 5, 6, 7, 8, 1, 0] (lv' := [(0, va_rf (some w0)), (1, va_rf (some w1)), (2, va_rf (some w2)), (3, .int w3), (4, .int w4), (5, .int w5), (6, .int w6), (7, .int y79), (8, .int r81)]) rfl ?_
    exact k_L_events_B540 l hfl v C Q T S74 S2 S80 t76 t2 w0 w1 w2 w3 w4 w5 w6 y79 r81 h
  · refine z_iconst (C _) (pc := 538) (x := (1 : Int32)) dL_events_538 kic_1 ?_
    exact z_zret3 (C _) (pc := 539) T t76 t2 dL_events_539 (by decide) (by decide) h
set_option maxHeartbeats 4000000 in
set_option maxRecDepth 100000 in
theorem l_L_events_L417 (l : Launch) (hfl : l.stackTraces = false) (v : Ev) {x9 : P9} {A : Nat → Prop} {E : State → Prop} {X0 Y : va_W} (C : ∀ X, Cx l v RL cL_events 12 (some .boolean) "events" (x9, X, A, E)) (Q : Int32 → Hp → Hp → Hp → Prop) (T : E3 v rm_L_events (Q3i v) Q X0 Y A E x9) (f0 : Nat) (f1 : Nat) (f2 : Nat) (f3 : Int32) (f4 : Int32) (f5 : Int32) (f6 : Int32) (f7 : Int32) (f8 : Int32) (f9 : Int32) : ∀ (n : Nat) (S1 S2 S : Hp) (w10 : Int32) (w11 : Int32), g_T S1 = v.2.2.1 → g_T S2 = v.2.2.1 → wp_L_events_L417 Q f0 f1 f2 f3 f4 f5 f6 f7 f8 f9 n S1 S2 S w10 w11 → ZZ l v 12 rm_L_events (x9, Y3 v.2.1 Y S1 S2, A, E) 92 2940 S 417 [(0, va_rf (some f0)), (1, va_rf (some f1)), (2, va_rf (some f2)), (3, .int f3), (4, .int f4), (5, .int f5), (6, .int f6), (7, .int f7), (8, .int f8), (9, .int f9), (10, .int w10), (11, .int w11)] [] := by
  intro n
  induction n with
  | zero =>
    intro S1 S2 S w10 w11 t1 t2 h
    exact h.elim
  | succ n ih =>
    intro S1 S2 S w10 w11 t1 t2 h
    unfold wp_L_events_L417 at h
    refine z_iload (C _) (pc := 417) dL_events_417 11 rfl ?_
    refine z_bipush (C _) (pc := 419) (x := (8 : Int32)) dL_events_419 kbp_8 ?_
    refine z_icmp_ge (C _) (pc := 421) (tgt := 447) dL_events_421 (by decide) h (fun h => ?_) (fun h => ?_)
    · refine z_iload (C _) (pc := 447) dL_events_447 9 rfl ?_
      refine z_iload (C _) (pc := 449) dL_events_449 10 rfl ?_
      refine z_icmp_ne (C _) (pc := 451) (tgt := 501) dL_events_451 (by decide) h (fun h => ?_) (fun h => ?_)
      · refine z_iconst (C _) (pc := 501) (x := (0 : Int32)) dL_events_501 kic_0 ?_
        exact z_zret3 (C _) (pc := 502) T t1 t2 dL_events_502 (by decide) (by decide) h
      · refine z_aload_n (C _) (pc := 454) dL_events_454 0 rfl ?_
        refine z_iload (C _) (pc := 455) dL_events_455 6 rfl ?_
        obtain ⟨o121, h⟩ := h
        refine z_s1 t1 (fun t122 => ?_)
        refine z_Vi (C _) (pc := 457) (KX := fun _ _ => False) (kc' := 93) (ks' := 2945) (As := [.int f6]) (rest := []) rfl (c_X8_why_n l v S1 f0 f6) mw_X8_why bw_298 bw_299 bw_300 (fit_of rfl) rfl rfl (Nat.le_of_ble_eq_true rfl) (by decide) rfl o121 dL_events_457 h (fun r124 S123 h => ?_) (fun En S9 h => h.elim)
        refine z_s1' t122 (fun t125 => ?_)
        refine z_if_lt (C _) (pc := 460) (tgt := 501) dL_events_460 (by decide) h (fun h => ?_) (fun h => ?_)
        · refine z_iconst (C _) (pc := 501) (x := (0 : Int32)) dL_events_501 kic_0 ?_
          exact z_zret3 (C _) (pc := 502) T t125 t2 dL_events_502 (by decide) (by decide) h
        · refine z_aload_n (C _) (pc := 463) dL_events_463 0 rfl ?_
          refine z_iload (C _) (pc := 464) dL_events_464 6 rfl ?_
          obtain ⟨o126, h⟩ := h
          refine z_s1 t125 (fun t127 => ?_)
          refine z_Vi (C _) (pc := 466) (KX := fun _ _ => False) (kc' := 94) (ks' := 2950) (As := [.int f6]) (rest := []) rfl (c_X8_why_n l v S123 f0 f6) mw_X8_why bw_298 bw_299 bw_300 (fit_of rfl) rfl rfl (Nat.le_of_ble_eq_true rfl) (by decide) rfl o126 dL_events_466 h (fun r129 S128 h => ?_) (fun En S9 h => h.elim)
          refine z_s1' t127 (fun t130 => ?_)
          refine z_iconst (C _) (pc := 469) (x := (4 : Int32)) dL_events_469 kic_4 ?_
          refine z_icmp_gt (C _) (pc := 470) (tgt := 501) dL_events_470 (by decide) h (fun h => ?_) (fun h => ?_)
          · refine z_iconst (C _) (pc := 501) (x := (0 : Int32)) dL_events_501 kic_0 ?_
            exact z_zret3 (C _) (pc := 502) T t130 t2 dL_events_502 (by decide) (by decide) h
          · refine z_iload (C _) (pc := 473) dL_events_473 10 rfl ?_
            refine z_if_gt (C _) (pc := 475) (tgt := 497) dL_events_475 (by decide) h (fun h => ?_) (fun h => ?_)
            · refine z_iconst (C _) (pc := 497) (x := (1 : Int32)) dL_events_497 kic_1 ?_
              refine z_goto (C _) (pc := 498) (tgt := 502) dL_events_498 (by decide) ?_
              exact z_zret3 (C _) (pc := 502) T t130 t2 dL_events_502 (by decide) (by decide) h
            · refine z_aload_n (C _) (pc := 478) dL_events_478 0 rfl ?_
              refine z_iload (C _) (pc := 479) dL_events_479 6 rfl ?_
              obtain ⟨o131, h⟩ := h
              refine z_s1 t130 (fun t132 => ?_)
              refine z_Vi (C _) (pc := 481) (KX := fun _ _ => False) (kc' := 95) (ks' := 2955) (As := [.int f6]) (rest := []) rfl (c_X8_why_n l v S128 f0 f6) mw_X8_why bw_298 bw_299 bw_300 (fit_of rfl) rfl rfl (Nat.le_of_ble_eq_true rfl) (by decide) rfl o131 dL_events_481 h (fun r134 S133 h => ?_) (fun En S9 h => h.elim)
              refine z_s1' t132 (fun t135 => ?_)
              refine z_iconst (C _) (pc := 484) (x := (1 : Int32)) dL_events_484 kic_1 ?_
              refine z_icmp_eq (C _) (pc := 485) (tgt := 497) dL_events_485 (by decide) h (fun h => ?_) (fun h => ?_)
              · refine z_iconst (C _) (pc := 497) (x := (1 : Int32)) dL_events_497 kic_1 ?_
                refine z_goto (C _) (pc := 498) (tgt := 502) dL_events_498 (by decide) ?_
                exact z_zret3 (C _) (pc := 502) T t135 t2 dL_events_502 (by decide) (by decide) h
              · refine z_aload_n (C _) (pc := 488) dL_events_488 0 rfl ?_
                refine z_iload (C _) (pc := 489) dL_events_489 6 rfl ?_
                obtain ⟨o136, h⟩ := h
                refine z_s1 t135 (fun t137 => ?_)
                refine z_Vi (C _) (pc := 491) (KX := fun _ _ => False) (kc' := 96) (ks' := 2960) (As := [.int f6]) (rest := []) rfl (c_X8_why_n l v S133 f0 f6) mw_X8_why bw_298 bw_299 bw_300 (fit_of rfl) rfl rfl (Nat.le_of_ble_eq_true rfl) (by decide) rfl o136 dL_events_491 h (fun r139 S138 h => ?_) (fun En S9 h => h.elim)
                refine z_s1' t137 (fun t140 => ?_)
                refine z_t_if_ne (C _) (pc := 494) dL_events_494 dL_events_497 kic_1 dL_events_498 dL_events_501 kic_0 ?_
                exact z_zret3 (C _) (pc := 502) T t140 t2 dL_events_502 (by decide) (by decide) h
    · refine z_iload (C _) (pc := 424) dL_events_424 10 rfl ?_
      refine z_aload_n (C _) (pc := 426) dL_events_426 2 rfl ?_
      refine z_bipush (C _) (pc := 427) (x := (12 : Int32)) dL_events_427 kbp_12 ?_
      refine z_iload (C _) (pc := 429) dL_events_429 6 rfl ?_
      refine z_iadd (C _) (pc := 431) dL_events_431 ?_
      obtain ⟨o141, h⟩ := h
      obtain ⟨v142, h⟩ := h
      refine z_iald (C _) (pc := 432) dL_events_432 rfl o141 v142 ?_
      refine z_iload (C _) (pc := 433) dL_events_433 11 rfl ?_
      refine z_ishr (C _) (pc := 435) dL_events_435 ?_
      refine z_iconst (C _) (pc := 436) (x := (1 : Int32)) dL_events_436 kic_1 ?_
      refine z_iand (C _) (pc := 437) dL_events_437 ?_
      refine z_iadd (C _) (pc := 438) dL_events_438 ?_
      refine z_nI h (fun y143 h => ?_)
      refine z_istore (C _) (pc := 439) (lv' := [(10, .int y143), (0, va_rf (some f0)), (1, va_rf (some f1)), (2, va_rf (some f2)), (3, .int f3), (4, .int f4), (5, .int f5), (6, .int f6), (7, .int f7), (8, .int f8), (9, .int f9), (11, .int w11)]) dL_events_439 (by decide) rfl ?_
      refine z_iinc (C _) (pc := 441) (y := w11 + (1 : Int32)) (lv' := [(11, .int (w11 + (1 : Int32))), (10, .int y143), (0, va_rf (some f0)), (1, va_rf (some f1)), (2, va_rf (some f2)), (3, .int f3), (4, .int f4), (5, .int f5), (6, .int f6), (7, .int f7), (8, .int f8), (9, .int f9)]) dL_events_441 11 rfl rfl (by decide) rfl ?_
      refine z_goto (C _) (pc := 444) (tgt := 417) dL_events_444 (by decide) ?_
      refine z_sub [2, 3, 4, 5, 6, 7, 8, 9, 10, 11, 1, 0] (lv' := [(0, va_rf (some f0)), (1, va_rf (some f1)), (2, va_rf (some f2)), (3, .int f3), (4, .int f4), (5, .int f5), (6, .int f6), (7, .int f7), (8, .int f8), (9, .int f9), (10, .int y143), (11, .int (w11 + (1 : Int32)))]) rfl ?_
      exact ih S1 S2 S y143 (w11 + (1 : Int32)) t1 t2 h
set_option maxHeartbeats 4000000 in
set_option maxRecDepth 100000 in
theorem k_L_events_B411 (l : Launch) (hfl : l.stackTraces = false) (v : Ev) {x9 : P9} {A : Nat → Prop} {E : State → Prop} {X0 Y : va_W} (C : ∀ X, Cx l v RL cL_events 12 (some .boolean) "events" (x9, X, A, E)) (Q : Int32 → Hp → Hp → Hp → Prop) (T : E3 v rm_L_events (Q3i v) Q X0 Y A E x9) (S1 S2 S : Hp) (t1 : g_T S1 = v.2.2.1) (t2 : g_T S2 = v.2.2.1) (w0 : Nat) (w1 : Nat) (w2 : Nat) (w3 : Int32) (w4 : Int32) (w5 : Int32) (w6 : Int32) (w7 : Int32) (w8 : Int32) (w9 : Int32) (h : wp_L_events_B411 Q S1 S2 S w0 w1 w2 w3 w4 w5 w6 w7 w8 w9) : ZZ l v 12 rm_L_events (x9, Y3 v.2.1 Y S1 S2, A, E) 92 2940 S 411 [(0, va_rf (some w0)), (1, va_rf (some w1)), (2, va_rf (some w2)), (3, .int w3), (4, .int w4), (5, .int w5), (6, .int w6), (7, .int w7), (8, .int w8), (9, .int w9)] [] := by
  unfold wp_L_events_B411 at h
  refine z_iconst (C _) (pc := 411) (x := (0 : Int32)) dL_events_411 kic_0 ?_
  refine z_istore (C _) (pc := 412) (lv' := [(10, .int (0 : Int32)), (0, va_rf (some w0)), (1, va_rf (some w1)), (2, va_rf (some w2)), (3, .int w3), (4, .int w4), (5, .int w5), (6, .int w6), (7, .int w7), (8, .int w8), (9, .int w9)]) dL_events_412 (by decide) rfl ?_
  refine z_iconst (C _) (pc := 414) (x := (0 : Int32)) dL_events_414 kic_0 ?_
  refine z_istore (C _) (pc := 415) (lv' := [(11, .int (0 : Int32)), (10, .int (0 : Int32)), (0, va_rf (some w0)), (1, va_rf (some w1)), (2, va_rf (some w2)), (3, .int w3), (4, .int w4), (5, .int w5), (6, .int w6), (7, .int w7), (8, .int w8), (9, .int w9)]) dL_events_415 (by decide) rfl ?_
  obtain ⟨n144, h⟩ := h
  refine z_sub [2, 3, 4, 5, 6, 7, 8, 9, 10, 11, 1, 0] (lv' := [(0, va_rf (some w0)), (1, va_rf (some w1)), (2, va_rf (some w2)), (3, .int w3), (4, .int w4), (5, .int w5), (6, .int w6), (7, .int w7), (8, .int w8), (9, .int w9), (10, .int (0 : Int32)), (11, .int (0 : Int32))]) rfl ?_
  exact l_L_events_L417 l hfl v C Q T w0 w1 w2 w3 w4 w5 w6 w7 w8 w9 n144 S1 S2 S (0 : Int32) (0 : Int32) t1 t2 h
set_option maxHeartbeats 4000000 in
set_option maxRecDepth 100000 in
theorem k_L_events_B290 (l : Launch) (hfl : l.stackTraces = false) (v : Ev) {x9 : P9} {A : Nat → Prop} {E : State → Prop} {X0 Y : va_W} (C : ∀ X, Cx l v RL cL_events 12 (some .boolean) "events" (x9, X, A, E)) (Q : Int32 → Hp → Hp → Hp → Prop) (T : E3 v rm_L_events (Q3i v) Q X0 Y A E x9) (S1 S2 S : Hp) (t1 : g_T S1 = v.2.2.1) (t2 : g_T S2 = v.2.2.1) (w0 : Nat) (w1 : Nat) (w2 : Nat) (w3 : Int32) (w4 : Int32) (w5 : Int32) (w6 : Int32) (h : wp_L_events_B290 Q S1 S2 S w0 w1 w2 w3 w4 w5 w6) : ZZ l v 12 rm_L_events (x9, Y3 v.2.1 Y S1 S2, A, E) 0 0 S 290 [(0, va_rf (some w0)), (1, va_rf (some w1)), (2, va_rf (some w2)), (3, .int w3), (4, .int w4), (5, .int w5), (6, .int w6)] [] := by
  unfold wp_L_events_B290 at h
  refine z_iload (C _) (pc := 290) dL_events_290 4 rfl ?_
  refine z_iconst (C _) (pc := 292) (x := (5 : Int32)) dL_events_292 kic_5 ?_
  refine z_ishr (C _) (pc := 293) dL_events_293 ?_
  refine z_aload_n (C _) (pc := 294) dL_events_294 2 rfl ?_
  refine z_iconst (C _) (pc := 295) (x := (2 : Int32)) dL_events_295 kic_2 ?_
  obtain ⟨o104, h⟩ := h
  obtain ⟨v105, h⟩ := h
  refine z_iald (C _) (pc := 296) dL_events_296 rfl o104 v105 ?_
  refine z_Si8 (C _) (pc := 297) (KX := fun _ _ => False) (kc' := 0) (ks' := 0) (As := [.int (w4 >>> ((5 : Int32) &&& 31)), .int (g_R S w2 (2 : Int32).toNatClampNeg)]) (rest := []) (c_L_some l v S (w4 >>> ((5 : Int32) &&& 31)) (g_R S w2 (2 : Int32).toNatClampNeg)) mw_L_some bw_101 bw_102 (fit_of rfl) rfl rfl (Nat.le_of_ble_eq_true rfl) dL_events_297 h (fun r107 S106 h => ?_) (fun En S9 h => h.elim)
  refine z_istore (C _) (pc := 300) (lv' := [(7, .int r107), (0, va_rf (some w0)), (1, va_rf (some w1)), (2, va_rf (some w2)), (3, .int w3), (4, .int w4), (5, .int w5), (6, .int w6)]) dL_events_300 (by decide) rfl ?_
  refine z_iload_n (C _) (pc := 302) dL_events_302 4 rfl ?_
  refine z_iconst (C _) (pc := 303) (x := (4 : Int32)) dL_events_303 kic_4 ?_
  refine z_ishr (C _) (pc := 304) dL_events_304 ?_
  refine z_iconst (C _) (pc := 305) (x := (4 : Int32)) dL_events_305 kic_4 ?_
  refine z_Si8 (C _) (pc := 306) (KX := fun _ _ => False) (kc' := 0) (ks' := 0) (As := [.int (w3 >>> ((4 : Int32) &&& 31)), .int (4 : Int32)]) (rest := []) (c_L_some l v S106 (w3 >>> ((4 : Int32) &&& 31)) (4 : Int32)) mw_L_some bw_101 bw_102 (fit_of rfl) rfl rfl (Nat.le_of_ble_eq_true rfl) dL_events_306 h (fun r109 S108 h => ?_) (fun En S9 h => h.elim)
  refine z_t_if_le (C _) (pc := 309) dL_events_309 dL_events_312 kic_1 dL_events_313 dL_events_316 kic_0 ?_
  refine z_nI h (fun y110 h => ?_)
  refine z_istore (C _) (pc := 317) (lv' := [(8, .int y110), (7, .int r107), (0, va_rf (some w0)), (1, va_rf (some w1)), (2, va_rf (some w2)), (3, .int w3), (4, .int w4), (5, .int w5), (6, .int w6)]) dL_events_317 (by decide) rfl ?_
  refine z_aload_n (C _) (pc := 319) dL_events_319 2 rfl ?_
  refine z_aload_n (C _) (pc := 320) dL_events_320 3 rfl ?_
  refine z_bipush (C _) (pc := 321) (x := (14 : Int32)) dL_events_321 kbp_14 ?_
  refine z_iload (C _) (pc := 323) dL_events_323 8 rfl ?_
  refine z_iload (C _) (pc := 325) dL_events_325 1 rfl ?_
  refine z_iload (C _) (pc := 327) dL_events_327 0 rfl ?_
  refine z_iconst (C _) (pc := 329) (x := (0 : Int32)) dL_events_329 kic_0 ?_
  refine z_S3i (C _) (pc := 330) (kc' := 92) (ks' := 2940) (As := [va_rf (some w0), va_rf (some w1), .int (14 : Int32), .int w6, .int r107, .int y110, .int (0 : Int32)]) (rest := []) (c_L_both l hfl v S1 S2 S108 w0 w1 (14 : Int32) w6 r107 y110 (0 : Int32)) mw_L_both bw_364 bw_365 (fit_of rfl) rfl rfl (Nat.le_of_ble_eq_true rfl) t1 t2 dL_events_330 h (fun r114 S111 S112 S113 t115 t116 h => ?_)
  refine z_istore (C _) (pc := 333) (lv' := [(9, .int r114), (8, .int y110), (7, .int r107), (0, va_rf (some w0)), (1, va_rf (some w1)), (2, va_rf (some w2)), (3, .int w3), (4, .int w4), (5, .int w5), (6, .int w6)]) dL_events_333 (by decide) rfl ?_
  refine z_iload (C _) (pc := 335) dL_events_335 0 rfl ?_
  refine z_ldc (C _) (pc := 337) (x := (-2000000003 : Int32)) dL_events_337 bw_778 ?_
  refine z_icmp_ne (C _) (pc := 339) (tgt := 369) dL_events_339 (by decide) h (fun h => ?_) (fun h => ?_)
  · refine z_aload_n (C _) (pc := 369) dL_events_369 5 rfl ?_
    refine z_bipush (C _) (pc := 370) (x := (12 : Int32)) dL_events_370 kbp_12 ?_
    refine z_iload (C _) (pc := 372) dL_events_372 9 rfl ?_
    refine z_iadd (C _) (pc := 374) dL_events_374 ?_
    refine z_iload (C _) (pc := 375) dL_events_375 1 rfl ?_
    refine z_iconst (C _) (pc := 377) (x := (1 : Int32)) dL_events_377 kic_1 ?_
    refine z_icmp_ne (C _) (pc := 378) (tgt := 396) dL_events_378 (by decide) h (fun h => ?_) (fun h => ?_)
    · refine z_aload_n (C _) (pc := 396) dL_events_396 5 rfl ?_
      refine z_bipush (C _) (pc := 397) (x := (12 : Int32)) dL_events_397 kbp_12 ?_
      refine z_iload (C _) (pc := 399) dL_events_399 9 rfl ?_
      refine z_iadd (C _) (pc := 401) dL_events_401 ?_
      obtain ⟨o117, h⟩ := h
      obtain ⟨v118, h⟩ := h
      refine z_iald (C _) (pc := 402) dL_events_402 rfl o117 v118 ?_
      refine z_iconst (C _) (pc := 403) (x := (1 : Int32)) dL_events_403 kic_1 ?_
      refine z_iload (C _) (pc := 404) dL_events_404 2 rfl ?_
      refine z_ishl (C _) (pc := 406) dL_events_406 ?_
      refine z_iconst (C _) (pc := 407) (x := (-1 : Int32)) dL_events_407 kic_m1 ?_
      refine z_ixor (C _) (pc := 408) dL_events_408 ?_
      refine z_iand (C _) (pc := 409) dL_events_409 ?_
      obtain ⟨v119, h⟩ := h
      refine z_iast (C _) (pc := 410) dL_events_410 rfl o117 v119 ?_
      refine z_lt h (fun S120 h => ?_)
      refine z_sub [3, 4, 5, 6, 7, 8, 9, 2, 1, 0] (lv' := [(0, va_rf (some w0)), (1, va_rf (some w1)), (2, va_rf (some w2)), (3, .int w3), (4, .int w4), (5, .int w5), (6, .int w6), (7, .int r107), (8, .int y110), (9, .int r114)]) rfl ?_
      exact k_L_events_B411 l hfl v C Q T S111 S112 S120 t115 t116 w0 w1 w2 w3 w4 w5 w6 r107 y110 r114 h
    · refine z_aload_n (C _) (pc := 381) dL_events_381 5 rfl ?_
      refine z_bipush (C _) (pc := 382) (x := (12 : Int32)) dL_events_382 kbp_12 ?_
      refine z_iload (C _) (pc := 384) dL_events_384 9 rfl ?_
      refine z_iadd (C _) (pc := 386) dL_events_386 ?_
      obtain ⟨o145, h⟩ := h
      obtain ⟨v146, h⟩ := h
      refine z_iald (C _) (pc := 387) dL_events_387 rfl o145 v146 ?_
      refine z_iconst (C _) (pc := 388) (x := (1 : Int32)) dL_events_388 kic_1 ?_
      refine z_iload (C _) (pc := 389) dL_events_389 2 rfl ?_
      refine z_ishl (C _) (pc := 391) dL_events_391 ?_
      refine z_ior (C _) (pc := 392) dL_events_392 ?_
      refine z_goto (C _) (pc := 393) (tgt := 410) dL_events_393 (by decide) ?_
      obtain ⟨v147, h⟩ := h
      refine z_iast (C _) (pc := 410) dL_events_410 rfl o145 v147 ?_
      refine z_lt h (fun S148 h => ?_)
      refine z_sub [3, 4, 5, 6, 7, 8, 9, 2, 1, 0] (lv' := [(0, va_rf (some w0)), (1, va_rf (some w1)), (2, va_rf (some w2)), (3, .int w3), (4, .int w4), (5, .int w5), (6, .int w6), (7, .int r107), (8, .int y110), (9, .int r114)]) rfl ?_
      exact k_L_events_B411 l hfl v C Q T S111 S112 S148 t115 t116 w0 w1 w2 w3 w4 w5 w6 r107 y110 r114 h
  · refine z_iload (C _) (pc := 342) dL_events_342 1 rfl ?_
    refine z_iconst (C _) (pc := 344) (x := (1 : Int32)) dL_events_344 kic_1 ?_
    refine z_icmp_ne (C _) (pc := 345) (tgt := 367) dL_events_345 (by decide) h (fun h => ?_) (fun h => ?_)
    · refine z_iconst (C _) (pc := 367) (x := (0 : Int32)) dL_events_367 kic_0 ?_
      exact z_zret3 (C _) (pc := 368) T t115 t116 dL_events_368 (by decide) (by decide) h
    · refine z_aload_n (C _) (pc := 348) dL_events_348 5 rfl ?_
      refine z_bipush (C _) (pc := 349) (x := (12 : Int32)) dL_events_349 kbp_12 ?_
      refine z_iload (C _) (pc := 351) dL_events_351 9 rfl ?_
      refine z_iadd (C _) (pc := 353) dL_events_353 ?_
      obtain ⟨o149, h⟩ := h
      obtain ⟨v150, h⟩ := h
      refine z_iald (C _) (pc := 354) dL_events_354 rfl o149 v150 ?_
      refine z_iload (C _) (pc := 355) dL_events_355 2 rfl ?_
      refine z_ishr (C _) (pc := 357) dL_events_357 ?_
      refine z_iconst (C _) (pc := 358) (x := (1 : Int32)) dL_events_358 kic_1 ?_
      refine z_iand (C _) (pc := 359) dL_events_359 ?_
      refine z_t_if_ne (C _) (pc := 360) dL_events_360 dL_events_363 kic_1 dL_events_364 dL_events_367 kic_0 ?_
      exact z_zret3 (C _) (pc := 368) T t115 t116 dL_events_368 (by decide) (by decide) h
set_option maxHeartbeats 4000000 in
set_option maxRecDepth 100000 in
theorem k_L_events_B267 (l : Launch) (hfl : l.stackTraces = false) (v : Ev) {x9 : P9} {A : Nat → Prop} {E : State → Prop} {X0 Y : va_W} (C : ∀ X, Cx l v RL cL_events 12 (some .boolean) "events" (x9, X, A, E)) (Q : Int32 → Hp → Hp → Hp → Prop) (T : E3 v rm_L_events (Q3i v) Q X0 Y A E x9) (S1 S2 S : Hp) (t1 : g_T S1 = v.2.2.1) (t2 : g_T S2 = v.2.2.1) (w0 : Nat) (w1 : Nat) (w2 : Nat) (w3 : Int32) (w4 : Int32) (w5 : Int32) (h : wp_L_events_B267 Q S1 S2 S w0 w1 w2 w3 w4 w5) : ZZ l v 12 rm_L_events (x9, Y3 v.2.1 Y S1 S2, A, E) 0 0 S 267 [(0, va_rf (some w0)), (1, va_rf (some w1)), (2, va_rf (some w2)), (3, .int w3), (4, .int w4), (5, .int w5)] [] := by
  unfold wp_L_events_B267 at h
  refine z_iload (C _) (pc := 267) dL_events_267 4 rfl ?_
  refine z_aload_n (C _) (pc := 269) dL_events_269 2 rfl ?_
  refine z_iconst (C _) (pc := 270) (x := (3 : Int32)) dL_events_270 kic_3 ?_
  obtain ⟨o68, h⟩ := h
  obtain ⟨v69, h⟩ := h
  refine z_iald (C _) (pc := 271) dL_events_271 rfl o68 v69 ?_
  refine z_Si8 (C _) (pc := 272) (KX := fun _ _ => False) (kc' := 0) (ks' := 0) (As := [.int w4, .int (g_R S w2 (3 : Int32).toNatClampNeg)]) (rest := []) (c_L_some l v S w4 (g_R S w2 (3 : Int32).toNatClampNeg)) mw_L_some bw_101 bw_102 (fit_of rfl) rfl rfl (Nat.le_of_ble_eq_true rfl) dL_events_272 h (fun r71 S70 h => ?_) (fun En S9 h => h.elim)
  refine z_istore (C _) (pc := 275) (lv' := [(6, .int r71), (0, va_rf (some w0)), (1, va_rf (some w1)), (2, va_rf (some w2)), (3, .int w3), (4, .int w4), (5, .int w5)]) dL_events_275 (by decide) rfl ?_
  refine z_iload (C _) (pc := 277) dL_events_277 6 rfl ?_
  refine z_bipush (C _) (pc := 279) (x := (7 : Int32)) dL_events_279 kbp_7 ?_
  refine z_icmp_ge (C _) (pc := 281) (tgt := 503) dL_events_281 (by decide) h (fun h => ?_) (fun h => ?_)
  · refine z_sub [1, 2, 3, 4, 5, 6, 0] (lv' := [(0, va_rf (some w0)), (1, va_rf (some w1)), (2, va_rf (some w2)), (3, .int w3), (4, .int w4), (5, .int w5), (6, .int r71)]) rfl ?_
    exact k_L_events_B503 l hfl v C Q T S1 S2 S70 t1 t2 w0 w1 w2 w3 w4 w5 r71 h
  · refine z_aload_n (C _) (pc := 284) dL_events_284 3 rfl ?_
    refine z_iconst (C _) (pc := 285) (x := (2 : Int32)) dL_events_285 kic_2 ?_
    obtain ⟨o102, h⟩ := h
    obtain ⟨v103, h⟩ := h
    refine z_iald (C _) (pc := 286) dL_events_286 rfl o102 v103 ?_
    refine z_if_le (C _) (pc := 287) (tgt := 503) dL_events_287 (by decide) h (fun h => ?_) (fun h => ?_)
    · refine z_sub [1, 2, 3, 4, 5, 6, 0] (lv' := [(0, va_rf (some w0)), (1, va_rf (some w1)), (2, va_rf (some w2)), (3, .int w3), (4, .int w4), (5, .int w5), (6, .int r71)]) rfl ?_
      exact k_L_events_B503 l hfl v C Q T S1 S2 S70 t1 t2 w0 w1 w2 w3 w4 w5 r71 h
    · refine z_sub [1, 2, 3, 4, 5, 6, 0] (lv' := [(0, va_rf (some w0)), (1, va_rf (some w1)), (2, va_rf (some w2)), (3, .int w3), (4, .int w4), (5, .int w5), (6, .int r71)]) rfl ?_
      exact k_L_events_B290 l hfl v C Q T S1 S2 S70 t1 t2 w0 w1 w2 w3 w4 w5 r71 h
set_option maxHeartbeats 4000000 in
set_option maxRecDepth 100000 in
theorem c_L_events (l : Launch) (hfl : l.stackTraces = false) (v : Ev) (S1 S2 S : Hp) (x0 : Nat) (x1 : Nat) (x2 : Nat) (x3 : Int32) (x4 : Int32) : C3 l v yL_events cL_events 12 (some .boolean) rm_L_events [va_rf (some x0), va_rf (some x1), va_rf (some x2), .int x3, .int x4] S1 S2 S (Q3i v) (fun Q => wp_L_events S1 S2 S x0 x1 x2 x3 x4 Q) := by
  refine z_start3 [(0, va_rf (some x0)), (1, va_rf (some x1)), (2, va_rf (some x2)), (3, .int x3), (4, .int x4)] (by decide +kernel) (by simp only [la_i, la_r, la_n]) (cat_cr (cat_cr (cat_cr (cat_ci (cat_ci cat_nil))))) (by simp only [ls_i, ls_r, ls_n]; decide) (fun x9 A E Y Q h t1 t2 C T => ?_)
  unfold wp_L_events at h
  refine z_iload_n (C _) (pc := 0) dL_events_0 3 rfl ?_
  refine z_bipush (C _) (pc := 1) (x := (9 : Int32)) dL_events_1 kbp_9 ?_
  refine z_Si8 (C _) (pc := 3) (KX := fun _ _ => False) (kc' := 0) (ks' := 0) (As := [.int x3, .int (9 : Int32)]) (rest := []) (c_L_some l v S x3 (9 : Int32)) mw_L_some bw_101 bw_102 (fit_of rfl) rfl rfl (Nat.le_of_ble_eq_true rfl) dL_events_3 h (fun r2 S1 h => ?_) (fun En S9 h => h.elim)
  refine z_istore (C _) (pc := 6) (lv' := [(5, .int r2), (0, va_rf (some x0)), (1, va_rf (some x1)), (2, va_rf (some x2)), (3, .int x3), (4, .int x4)]) dL_events_6 (by decide) rfl ?_
  refine z_iload (C _) (pc := 8) dL_events_8 0 rfl ?_
  refine z_iconst (C _) (pc := 10) (x := (3 : Int32)) dL_events_10 kic_3 ?_
  refine z_icmp_lt (C _) (pc := 11) (tgt := 20) dL_events_11 (by decide) h (fun h => ?_) (fun h => ?_)
  · refine z_sub [1, 2, 3, 4, 5, 0] (lv' := [(0, va_rf (some x0)), (1, va_rf (some x1)), (2, va_rf (some x2)), (3, .int x3), (4, .int x4), (5, .int r2)]) rfl ?_
    exact k_L_events_B20 l hfl v C Q T S1 S2 S1 t1 t2 x0 x1 x2 x3 x4 r2 h
  · refine z_aload_n (C _) (pc := 14) dL_events_14 3 rfl ?_
    refine z_iconst (C _) (pc := 15) (x := (3 : Int32)) dL_events_15 kic_3 ?_
    obtain ⟨o66, h⟩ := h
    obtain ⟨v67, h⟩ := h
    refine z_iald (C _) (pc := 16) dL_events_16 rfl o66 v67 ?_
    refine z_if_ne (C _) (pc := 17) (tgt := 267) dL_events_17 (by decide) h (fun h => ?_) (fun h => ?_)
    · refine z_sub [1, 2, 3, 4, 5, 0] (lv' := [(0, va_rf (some x0)), (1, va_rf (some x1)), (2, va_rf (some x2)), (3, .int x3), (4, .int x4), (5, .int r2)]) rfl ?_
      exact k_L_events_B267 l hfl v C Q T S1 S2 S1 t1 t2 x0 x1 x2 x3 x4 r2 h
    · refine z_sub [1, 2, 3, 4, 5, 0] (lv' := [(0, va_rf (some x0)), (1, va_rf (some x1)), (2, va_rf (some x2)), (3, .int x3), (4, .int x4), (5, .int r2)]) rfl ?_
      exact k_L_events_B20 l hfl v C Q T S1 S2 S1 t1 t2 x0 x1 x2 x3 x4 r2 h
