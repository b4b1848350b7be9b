def wp_L_sound_L251 (Q : Int32 → Hp → Hp → Hp → Prop) (f0 : Nat) (f1 : Nat) : Nat → Hp → Hp → Hp → Int32 → Int32 → Int32 → Int32 → Int32 → Prop
  | 0, _, _, _, _, _, _, _, _ => False
  | n + 1, S1, S2, S, w2, w3, w4, w5, w6 => okA S 11 f1 ∧ (vp_in (1 : Int32) (g_N S f1) ∧ (if (g_R S f1 (1 : Int32).toNatClampNeg) ≤ w6 then (if w5 = 0 then (bz (0 : Int32) (Q (0 : Int32) S1 S2 S)) else (if w2 = 0 then (if w3 = 0 then (bz (if w4 = 0 then (1 : Int32) else (0 : Int32)) (Q (if w4 = 0 then (1 : Int32) else (0 : Int32)) S1 S2 S)) else (bz (0 : Int32) (Q (0 : Int32) S1 S2 S))) else (bz (0 : Int32) (Q (0 : Int32) S1 S2 S)))) else (if w5 = 0 then (if w5 = 0 then (bz (0 : Int32) (Q (0 : Int32) S1 S2 S)) else (if w2 = 0 then (if w3 = 0 then (bz (if w4 = 0 then (1 : Int32) else (0 : Int32)) (Q (if w4 = 0 then (1 : Int32) else (0 : Int32)) S1 S2 S)) else (bz (0 : Int32) (Q (0 : Int32) S1 S2 S))) else (bz (0 : Int32) (Q (0 : Int32) S1 S2 S)))) else (okA S1 8 f0 ∧ (wp_X8_ofTroop S1 f0 w6 (0 : Int32) (fun r108 S107 => lt (w2 - r108) (fun y110 => okA S107 8 f0 ∧ (wp_X8_ofTroop S107 f0 w6 (1 : Int32) (fun r114 S113 => lt (w3 - r114) (fun y116 => okA S113 8 f0 ∧ (wp_X8_owed S113 f0 w6 (fun r120 S119 => lt (w4 - r120) (fun y122 => okA S119 8 f0 ∧ (wp_X8_duty S119 f0 w6 (5 : Int32) (fun r126 S125 => okA S125 8 f0 ∧ (wp_X8_ofTroop S125 f0 w6 (0 : Int32) (fun r131 S130 => if (if r126 = (-1 : Int32) then (1 : Int32) else (0 : Int32)) = (if r131 = 0 then (1 : Int32) else (0 : Int32)) then (okA S130 8 f0 ∧ (wp_X8_ofTroop S130 f0 w6 (1 : Int32) (fun r136 S135 => if r136 = 0 then (wp_L_sound_L251 Q f0 f1 n S135 S2 S y110 y116 y122 (1 : Int32) (w6 + (1 : Int32))) else (okA S135 8 f0 ∧ (wp_X8_ofTroop S135 f0 w6 (0 : Int32) (fun r141 S140 => lt (if r141 = ((1 : Int32) + (w6 - w6 / (3 : Int32) * (3 : Int32))) then (1 : Int32) else (0 : Int32)) (fun y143 => wp_L_sound_L251 Q f0 f1 n S140 S2 S y110 y116 y122 y143 (w6 + (1 : Int32)))) (fun _ _ => False)))) (fun _ _ => False))) else (wp_L_sound_L251 Q f0 f1 n S130 S2 S y110 y116 y122 (0 : Int32) (w6 + (1 : Int32)))) (fun _ _ => False))) (fun _ _ => False)))) (fun _ _ => False)))) (fun _ _ => False)))) (fun _ _ => False))))))
def wp_L_sound_L86 (Q : Int32 → Hp → Hp → Hp → Prop) (f0 : Nat) (f1 : Nat) (f2 : Int32) (f3 : Int32) (f4 : Int32) (f6 : Int32) (f7 : Int32) (K13 : Hp → Hp → Hp → Int32 → Int32 → Int32 → Int32 → Int32 → Prop) : Nat → Hp → Hp → Hp → Int32 → Int32 → Int32 → Prop
  | 0, _, _, _, _, _, _ => False
  | n + 1, S1, S2, S, w5, w8, w9 => if (8 : Int32) ≤ w9 then (if w5 = 0 then (K13 S1 S2 S f2 f3 f4 (0 : Int32) (f6 + (1 : Int32))) else (okA S1 8 f0 ∧ (wp_X8_ofChild S1 f0 f6 (4 : Int32) (fun r167 S166 => if w8 = r167 then (okA S166 8 f0 ∧ (wp_X8_ofChild S166 f0 f6 (3 : Int32) (fun r172 S171 => if (if f7 = (-1 : Int32) then (1 : Int32) else (0 : Int32)) = (if r172 = (-1 : Int32) then (1 : Int32) else (0 : Int32)) then (if f7 = (-1 : Int32) then (K13 S171 S2 S f2 f3 f4 (1 : Int32) (f6 + (1 : Int32))) else (okA S171 8 f0 ∧ (wp_X8_ofChild S171 f0 f6 (2 : Int32) (fun r177 S176 => lt (if r177 = (-1 : Int32) then (1 : Int32) else (0 : Int32)) (fun y179 => K13 S176 S2 S f2 f3 f4 y179 (f6 + (1 : Int32)))) (fun _ _ => False)))) else (K13 S171 S2 S f2 f3 f4 (0 : Int32) (f6 + (1 : Int32)))) (fun _ _ => False))) else (K13 S166 S2 S f2 f3 f4 (0 : Int32) (f6 + (1 : Int32)))) (fun _ _ => False)))) else (okA S1 8 f0 ∧ (wp_X8_earned S1 f0 f6 w9 (fun r183 S182 => lt (w8 + (if r183 = (-1 : Int32) then (0 : Int32) else (1 : Int32))) (fun y185 => if w5 = 0 then (wp_L_sound_L86 Q f0 f1 f2 f3 f4 f6 f7 K13 n S182 S2 S (0 : Int32) y185 (w9 + (1 : Int32))) else (okA S182 8 f0 ∧ (wp_X8_earned S182 f0 f6 w9 (fun r189 S188 => okA S188 8 f0 ∧ (wp_X8_today S188 f0 (fun r194 S193 => if r194 < r189 then (wp_L_sound_L86 Q f0 f1 f2 f3 f4 f6 f7 K13 n S193 S2 S (0 : Int32) y185 (w9 + (1 : Int32))) else (okA S193 8 f0 ∧ (wp_X8_holds S193 f0 f6 w9 (fun r199 S198 => if r199 = 0 then (wp_L_sound_L86 Q f0 f1 f2 f3 f4 f6 f7 K13 n S198 S2 S (1 : Int32) y185 (w9 + (1 : Int32))) else (okA S198 8 f0 ∧ (wp_X8_earned S198 f0 f6 w9 (fun r204 S203 => lt (if r204 = (-1 : Int32) then (0 : Int32) else (1 : Int32)) (fun y206 => wp_L_sound_L86 Q f0 f1 f2 f3 f4 f6 f7 K13 n S203 S2 S y206 y185 (w9 + (1 : Int32)))) (fun _ _ => False)))) (fun _ _ => False)))))) (fun _ _ => False))))) (fun _ _ => False)))
def wp_L_sound_L13 (Q : Int32 → Hp → Hp → Hp → Prop) (f0 : Nat) (f1 : Nat) : Nat → Hp → Hp → Hp → Int32 → Int32 → Int32 → Int32 → Int32 → Prop
  | 0, _, _, _, _, _, _, _, _ => False
  | n + 1, S1, S2, S, w2, w3, w4, w5, w6 => okA S 11 f1 ∧ (vp_in (0 : Int32) (g_N S f1) ∧ (if (g_R S f1 (0 : Int32).toNatClampNeg) ≤ w6 then (∃ n144, wp_L_sound_L251 Q f0 f1 n144 S1 S2 S w2 w3 w4 w5 (0 : Int32)) else (if w5 = 0 then (∃ n145, wp_L_sound_L251 Q f0 f1 n145 S1 S2 S w2 w3 w4 w5 (0 : Int32)) else (okA S1 8 f0 ∧ (wp_X8_ofChild S1 f0 w6 (1 : Int32) (fun r149 S148 => lt (w2 + (if r149 = (-1 : Int32) then (0 : Int32) else (1 : Int32))) (fun y151 => okA S148 8 f0 ∧ (wp_X8_ofChild S148 f0 w6 (2 : Int32) (fun r155 S154 => lt (w3 + (if r155 = (-1 : Int32) then (0 : Int32) else (1 : Int32))) (fun y157 => okA S154 8 f0 ∧ (wp_X8_ofChild S154 f0 w6 (5 : Int32) (fun r161 S160 => lt (w4 + r161) (fun y163 => ∃ n207, wp_L_sound_L86 Q f0 f1 y151 y157 y163 w6 r149 (wp_L_sound_L13 Q f0 f1 n) n207 S160 S2 S w5 (0 : Int32) (0 : Int32))) (fun _ _ => False)))) (fun _ _ => False)))) (fun _ _ => False))))))
def wp_L_sound (S1 S2 S : Hp) (x0 : Nat) (x1 : Nat) (Q : Int32 → Hp → Hp → Hp → Prop) : Prop :=
  ∃ n208, wp_L_sound_L13 Q x0 x1 n208 S1 S2 S (0 : Int32) (0 : Int32) (0 : Int32) (1 : Int32) (0 : Int32)
def rm_L_sound : Room := { frames := 6, cells := 0, slots := 0, locals := 137 }
set_option maxHeartbeats 4000000 in
set_option maxRecDepth 100000 in
theorem l_L_sound_L251 (l : Launch) (hfl : l.stackTraces = false) (v : Ev) {x9 : P9} {A : Nat → Prop} {E : State → Prop} {X0 Y : va_W} (C : ∀ X, Cx l v RL cL_sound 10 (some .boolean) "sound" (x9, X, A, E)) (Q : Int32 → Hp → Hp → Hp → Prop) (T : E3 v rm_L_sound (Q3i v) Q X0 Y A E x9) (f0 : Nat) (f1 : Nat) : ∀ (n : Nat) (S1 S2 S : Hp) (w2 : Int32) (w3 : Int32) (w4 : Int32) (w5 : Int32) (w6 : Int32), g_T S1 = v.2.2.1 → g_T S2 = v.2.2.1 → wp_L_sound_L251 Q f0 f1 n S1 S2 S w2 w3 w4 w5 w6 → ZZ l v 10 rm_L_sound (x9, Y3 v.2.1 Y S1 S2, A, E) 0 0 S 251 [(0, va_rf (some f0)), (1, va_rf (some f1)), (2, .int w2), (3, .int w3), (4, .int w4), (5, .int w5), (6, .int w6)] [] := by
  intro n
  induction n with
  | zero =>
    intro S1 S2 S w2 w3 w4 w5 w6 t1 t2 h
    exact h.elim
  | succ n ih =>
    intro S1 S2 S w2 w3 w4 w5 w6 t1 t2 h
    unfold wp_L_sound_L251 at h
    refine z_iload (C _) (pc := 251) dL_sound_251 6 rfl ?_
    refine z_aload_n (C _) (pc := 253) dL_sound_253 1 rfl ?_
    refine z_iconst (C _) (pc := 254) (x := (1 : Int32)) dL_sound_254 kic_1 ?_
    obtain ⟨o103, h⟩ := h
    obtain ⟨v104, h⟩ := h
    refine z_iald (C _) (pc := 255) dL_sound_255 rfl o103 v104 ?_
    refine z_icmp_ge (C _) (pc := 256) (tgt := 368) dL_sound_256 (by decide) h (fun h => ?_) (fun h => ?_)
    · refine z_iload (C _) (pc := 368) dL_sound_368 5 rfl ?_
      refine z_if_eq (C _) (pc := 370) (tgt := 390) dL_sound_370 (by decide) h (fun h => ?_) (fun h => ?_)
      · refine z_iconst (C _) (pc := 390) (x := (0 : Int32)) dL_sound_390 kic_0 ?_
        exact z_zret3 (C []) (pc := 391) T t1 t2 dL_sound_391 (by decide) (by decide) h
      · refine z_iload_n (C _) (pc := 373) dL_sound_373 2 rfl ?_
        refine z_if_ne (C _) (pc := 374) (tgt := 390) dL_sound_374 (by decide) h (fun h => ?_) (fun h => ?_)
        · refine z_iconst (C _) (pc := 390) (x := (0 : Int32)) dL_sound_390 kic_0 ?_
          exact z_zret3 (C []) (pc := 391) T t1 t2 dL_sound_391 (by decide) (by decide) h
        · refine z_iload_n (C _) (pc := 377) dL_sound_377 3 rfl ?_
          refine z_if_ne (C _) (pc := 378) (tgt := 390) dL_sound_378 (by decide) h (fun h => ?_) (fun h => ?_)
          · refine z_iconst (C _) (pc := 390) (x := (0 : Int32)) dL_sound_390 kic_0 ?_
            exact z_zret3 (C []) (pc := 391) T t1 t2 dL_sound_391 (by decide) (by decide) h
          · refine z_iload (C _) (pc := 381) dL_sound_381 4 rfl ?_
            refine z_t_if_ne (C _) (pc := 383) dL_sound_383 dL_sound_386 kic_1 dL_sound_387 dL_sound_390 kic_0 ?_
            exact z_zret3 (C []) (pc := 391) T t1 t2 dL_sound_391 (by decide) (by decide) h
    · refine z_iload (C _) (pc := 259) dL_sound_259 5 rfl ?_
      refine z_if_eq (C _) (pc := 261) (tgt := 368) dL_sound_261 (by decide) h (fun h => ?_) (fun h => ?_)
      · refine z_iload (C _) (pc := 368) dL_sound_368 5 rfl ?_
        refine z_if_eq (C _) (pc := 370) (tgt := 390) dL_sound_370 (by decide) h (fun h => ?_) (fun h => ?_)
        · refine z_iconst (C _) (pc := 390) (x := (0 : Int32)) dL_sound_390 kic_0 ?_
          exact z_zret3 (C []) (pc := 391) T t1 t2 dL_sound_391 (by decide) (by decide) h
        · refine z_iload_n (C _) (pc := 373) dL_sound_373 2 rfl ?_
          refine z_if_ne (C _) (pc := 374) (tgt := 390) dL_sound_374 (by decide) h (fun h => ?_) (fun h => ?_)
          · refine z_iconst (C _) (pc := 390) (x := (0 : Int32)) dL_sound_390 kic_0 ?_
            exact z_zret3 (C []) (pc := 391) T t1 t2 dL_sound_391 (by decide) (by decide) h
          · refine z_iload_n (C _) (pc := 377) dL_sound_377 3 rfl ?_
            refine z_if_ne (C _) (pc := 378) (tgt := 390) dL_sound_378 (by decide) h (fun h => ?_) (fun h => ?_)
            · refine z_iconst (C _) (pc := 390) (x := (0 : Int32)) dL_sound_390 kic_0 ?_
              exact z_zret3 (C []) (pc := 391) T t1 t2 dL_sound_391 (by decide) (by decide) h
            · refine z_iload (C _) (pc := 381) dL_sound_381 4 rfl ?_
              refine z_t_if_ne (C _) (pc := 383) dL_sound_383 dL_sound_386 kic_1 dL_sound_387 dL_sound_390 kic_0 ?_
              exact z_zret3 (C []) (pc := 391) T t1 t2 dL_sound_391 (by decide) (by decide) h
      · refine z_iload_n (C _) (pc := 264) dL_sound_264 2 rfl ?_
        refine z_aload_n (C _) (pc := 265) dL_sound_265 0 rfl ?_
        refine z_iload (C _) (pc := 266) dL_sound_266 6 rfl ?_
        refine z_iconst (C _) (pc := 268) (x := (0 : Int32)) dL_sound_268 kic_0 ?_
        obtain ⟨o105, h⟩ := h
        refine z_s1 t1 (fun t106 => ?_)
        refine z_Vi (C _) (pc := 269) (KX := fun _ _ => False) (kc' := 0) (ks' := 0) (As := [.int w6, .int (0 : Int32)]) (rest := [.int w2]) rfl (c_X8_ofTroop_n l v S1 f0 w6 (0 : Int32)) mw_X8_ofTroop bw_256 bw_257 bw_258 (fit_of rfl) rfl rfl (Nat.le_of_ble_eq_true rfl) (by decide) rfl o105 dL_sound_269 h (fun r108 S107 h => ?_) (fun En S9 h => h.elim)
        refine z_s1' t106 (fun t109 => ?_)
        refine z_isub (C _) (pc := 272) dL_sound_272 ?_
        refine z_nI h (fun y110 h => ?_)
        refine z_istore_n (C _) (pc := 273) (lv' := [(2, .int y110), (0, va_rf (some f0)), (1, va_rf (some f1)), (3, .int w3), (4, .int w4), (5, .int w5), (6, .int w6)]) dL_sound_273 (by decide) rfl ?_
        refine z_iload_n (C _) (pc := 274) dL_sound_274 3 rfl ?_
        refine z_aload_n (C _) (pc := 275) dL_sound_275 1 rfl ?_
        refine z_iload (C _) (pc := 276) dL_sound_276 6 rfl ?_
        refine z_iconst (C _) (pc := 278) (x := (1 : Int32)) dL_sound_278 kic_1 ?_
        obtain ⟨o111, h⟩ := h
        refine z_s1 t109 (fun t112 => ?_)
        refine z_Vi (C _) (pc := 279) (KX := fun _ _ => False) (kc' := 0) (ks' := 0) (As := [.int w6, .int (1 : Int32)]) (rest := [.int w3]) rfl (c_X8_ofTroop_n l v S107 f0 w6 (1 : Int32)) mw_X8_ofTroop bw_256 bw_257 bw_258 (fit_of rfl) rfl rfl (Nat.le_of_ble_eq_true rfl) (by decide) rfl o111 dL_sound_279 h (fun r114 S113 h => ?_) (fun En S9 h => h.elim)
        refine z_s1' t112 (fun t115 => ?_)
        refine z_isub (C _) (pc := 282) dL_sound_282 ?_
        refine z_nI h (fun y116 h => ?_)
        refine z_istore_n (C _) (pc := 283) (lv' := [(3, .int y116), (2, .int y110), (0, va_rf (some f0)), (1, va_rf (some f1)), (4, .int w4), (5, .int w5), (6, .int w6)]) dL_sound_283 (by decide) rfl ?_
        refine z_iload (C _) (pc := 284) dL_sound_284 4 rfl ?_
        refine z_aload_n (C _) (pc := 286) dL_sound_286 2 rfl ?_
        refine z_iload (C _) (pc := 287) dL_sound_287 6 rfl ?_
        obtain ⟨o117, h⟩ := h
        refine z_s1 t115 (fun t118 => ?_)
        refine z_Vi (C _) (pc := 289) (KX := fun _ _ => False) (kc' := 0) (ks' := 0) (As := [.int w6]) (rest := [.int w4]) rfl (c_X8_owed_n l v S113 f0 w6) mw_X8_owed bw_273 bw_274 bw_275 (fit_of rfl) rfl rfl (Nat.le_of_ble_eq_true rfl) (by decide) rfl o117 dL_sound_289 h (fun r120 S119 h => ?_) (fun En S9 h => h.elim)
        refine z_s1' t118 (fun t121 => ?_)
        refine z_isub (C _) (pc := 292) dL_sound_292 ?_
        refine z_nI h (fun y122 h => ?_)
        refine z_istore (C _) (pc := 293) (lv' := [(4, .int y122), (3, .int y116), (2, .int y110), (0, va_rf (some f0)), (1, va_rf (some f1)), (5, .int w5), (6, .int w6)]) dL_sound_293 (by decide) rfl ?_
        refine z_aload_n (C _) (pc := 295) dL_sound_295 3 rfl ?_
        refine z_iload (C _) (pc := 296) dL_sound_296 6 rfl ?_
        refine z_iconst (C _) (pc := 298) (x := (5 : Int32)) dL_sound_298 kic_5 ?_
        obtain ⟨o123, h⟩ := h
        refine z_s1 t121 (fun t124 => ?_)
        refine z_Vi (C _) (pc := 299) (KX := fun _ _ => False) (kc' := 0) (ks' := 0) (As := [.int w6, .int (5 : Int32)]) (rest := []) rfl (c_X8_duty_n l v S119 f0 w6 (5 : Int32)) mw_X8_duty bw_277 bw_278 bw_279 (fit_of rfl) rfl rfl (Nat.le_of_ble_eq_true rfl) (by decide) rfl o123 dL_sound_299 h (fun r126 S125 h => ?_) (fun En S9 h => h.elim)
        refine z_s1' t124 (fun t127 => ?_)
        refine z_iconst (C _) (pc := 302) (x := (-1 : Int32)) dL_sound_302 kic_m1 ?_
        refine z_t_icmp_ne (C _) (pc := 303) dL_sound_303 dL_sound_306 kic_1 dL_sound_307 dL_sound_310 kic_0 ?_
        refine z_aload_n (C _) (pc := 311) dL_sound_311 3 rfl ?_
        refine z_iload (C _) (pc := 312) dL_sound_312 6 rfl ?_
        refine z_iconst (C _) (pc := 314) (x := (0 : Int32)) dL_sound_314 kic_0 ?_
        obtain ⟨o128, h⟩ := h
        refine z_s1 t127 (fun t129 => ?_)
        refine z_Vi (C _) (pc := 315) (KX := fun _ _ => False) (kc' := 0) (ks' := 0) (As := [.int w6, .int (0 : Int32)]) (rest := [.int (if r126 = (-1 : Int32) then (1 : Int32) else (0 : Int32))]) rfl (c_X8_ofTroop_n l v S125 f0 w6 (0 : Int32)) mw_X8_ofTroop bw_256 bw_257 bw_258 (fit_of rfl) rfl rfl (Nat.le_of_ble_eq_true rfl) (by decide) rfl o128 dL_sound_315 h (fun r131 S130 h => ?_) (fun En S9 h => h.elim)
        refine z_s1' t129 (fun t132 => ?_)
        refine z_t_if_ne (C _) (pc := 318) dL_sound_318 dL_sound_321 kic_1 dL_sound_322 dL_sound_325 kic_0 ?_
        refine z_icmp_ne (C _) (pc := 326) (tgt := 359) dL_sound_326 (by decide) h (fun h => ?_) (fun h => ?_)
        · refine z_iconst (C _) (pc := 359) (x := (0 : Int32)) dL_sound_359 kic_0 ?_
          refine z_istore (C _) (pc := 360) (lv' := [(5, .int (0 : Int32)), (4, .int y122), (3, .int y116), (2, .int y110), (0, va_rf (some f0)), (1, va_rf (some f1)), (6, .int w6)]) dL_sound_360 (by decide) rfl ?_
          refine z_iinc (C _) (pc := 362) (y := w6 + (1 : Int32)) (lv' := [(6, .int (w6 + (1 : Int32))), (5, .int (0 : Int32)), (4, .int y122), (3, .int y116), (2, .int y110), (0, va_rf (some f0)), (1, va_rf (some f1))]) dL_sound_362 6 rfl rfl (by decide) rfl ?_
          refine z_goto (C _) (pc := 365) (tgt := 251) dL_sound_365 (by decide) ?_
          refine z_sub [5, 6, 4, 3, 2, 1, 0] (lv' := [(0, va_rf (some f0)), (1, va_rf (some f1)), (2, .int y110), (3, .int y116), (4, .int y122), (5, .int (0 : Int32)), (6, .int (w6 + (1 : Int32)))]) rfl ?_
          exact ih S130 S2 S y110 y116 y122 (0 : Int32) (w6 + (1 : Int32)) t132 t2 h
        · refine z_aload_n (C _) (pc := 329) dL_sound_329 3 rfl ?_
          refine z_iload (C _) (pc := 330) dL_sound_330 6 rfl ?_
          refine z_iconst (C _) (pc := 332) (x := (1 : Int32)) dL_sound_332 kic_1 ?_
          obtain ⟨o133, h⟩ := h
          refine z_s1 t132 (fun t134 => ?_)
          refine z_Vi (C _) (pc := 333) (KX := fun _ _ => False) (kc' := 0) (ks' := 0) (As := [.int w6, .int (1 : Int32)]) (rest := []) rfl (c_X8_ofTroop_n l v S130 f0 w6 (1 : Int32)) mw_X8_ofTroop bw_256 bw_257 bw_258 (fit_of rfl) rfl rfl (Nat.le_of_ble_eq_true rfl) (by decide) rfl o133 dL_sound_333 h (fun r136 S135 h => ?_) (fun En S9 h => h.elim)
          refine z_s1' t134 (fun t137 => ?_)
          refine z_if_eq (C _) (pc := 336) (tgt := 355) dL_sound_336 (by decide) h (fun h => ?_) (fun h => ?_)
          · refine z_iconst (C _) (pc := 355) (x := (1 : Int32)) dL_sound_355 kic_1 ?_
            refine z_goto (C _) (pc := 356) (tgt := 360) dL_sound_356 (by decide) ?_
            refine z_istore (C _) (pc := 360) (lv' := [(5, .int (1 : Int32)), (4, .int y122), (3, .int y116), (2, .int y110), (0, va_rf (some f0)), (1, va_rf (some f1)), (6, .int w6)]) dL_sound_360 (by decide) rfl ?_
            refine z_iinc (C _) (pc := 362) (y := w6 + (1 : Int32)) (lv' := [(6, .int (w6 + (1 : Int32))), (5, .int (1 : Int32)), (4, .int y122), (3, .int y116), (2, .int y110), (0, va_rf (some f0)), (1, va_rf (some f1))]) dL_sound_362 6 rfl rfl (by decide) rfl ?_
            refine z_goto (C _) (pc := 365) (tgt := 251) dL_sound_365 (by decide) ?_
            refine z_sub [5, 6, 4, 3, 2, 1, 0] (lv' := [(0, va_rf (some f0)), (1, va_rf (some f1)), (2, .int y110), (3, .int y116), (4, .int y122), (5, .int (1 : Int32)), (6, .int (w6 + (1 : Int32)))]) rfl ?_
            exact ih S135 S2 S y110 y116 y122 (1 : Int32) (w6 + (1 : Int32)) t137 t2 h
          · refine z_aload_n (C _) (pc := 339) dL_sound_339 3 rfl ?_
            refine z_iload (C _) (pc := 340) dL_sound_340 6 rfl ?_
            refine z_iconst (C _) (pc := 342) (x := (0 : Int32)) dL_sound_342 kic_0 ?_
            obtain ⟨o138, h⟩ := h
            refine z_s1 t137 (fun t139 => ?_)
            refine z_Vi (C _) (pc := 343) (KX := fun _ _ => False) (kc' := 0) (ks' := 0) (As := [.int w6, .int (0 : Int32)]) (rest := []) rfl (c_X8_ofTroop_n l v S135 f0 w6 (0 : Int32)) mw_X8_ofTroop bw_256 bw_257 bw_258 (fit_of rfl) rfl rfl (Nat.le_of_ble_eq_true rfl) (by decide) rfl o138 dL_sound_343 h (fun r141 S140 h => ?_) (fun En S9 h => h.elim)
            refine z_s1' t139 (fun t142 => ?_)
            refine z_iconst (C _) (pc := 346) (x := (1 : Int32)) dL_sound_346 kic_1 ?_
            refine z_iload (C _) (pc := 347) dL_sound_347 6 rfl ?_
            refine z_iconst (C _) (pc := 349) (x := (3 : Int32)) dL_sound_349 kic_3 ?_
            refine z_irem (C _) (pc := 350) dL_sound_350 (by decide) ?_
            refine z_iadd (C _) (pc := 351) dL_sound_351 ?_
            refine z_t_icmp_ne (C _) (pc := 352) dL_sound_352 dL_sound_355 kic_1 dL_sound_356 dL_sound_359 kic_0 ?_
            refine z_nI h (fun y143 h => ?_)
            refine z_istore (C _) (pc := 360) (lv' := [(5, .int y143), (4, .int y122), (3, .int y116), (2, .int y110), (0, va_rf (some f0)), (1, va_rf (some f1)), (6, .int w6)]) dL_sound_360 (by decide) rfl ?_
            refine z_iinc (C _) (pc := 362) (y := w6 + (1 : Int32)) (lv' := [(6, .int (w6 + (1 : Int32))), (5, .int y143), (4, .int y122), (3, .int y116), (2, .int y110), (0, va_rf (some f0)), (1, va_rf (some f1))]) dL_sound_362 6 rfl rfl (by decide) rfl ?_
            refine z_goto (C _) (pc := 365) (tgt := 251) dL_sound_365 (by decide) ?_
            refine z_sub [5, 6, 4, 3, 2, 1, 0] (lv' := [(0, va_rf (some f0)), (1, va_rf (some f1)), (2, .int y110), (3, .int y116), (4, .int y122), (5, .int y143), (6, .int (w6 + (1 : Int32)))]) rfl ?_
            exact ih S140 S2 S y110 y116 y122 y143 (w6 + (1 : Int32)) t142 t2 h
set_option maxHeartbeats 4000000 in
set_option maxRecDepth 100000 in
theorem l_L_sound_L86 (l : Launch) (hfl : l.stackTraces = false) (v : Ev) {x9 : P9} {A : Nat → Prop} {E : State → Prop} {X0 Y : va_W} (C : ∀ X, Cx l v RL cL_sound 10 (some .boolean) "sound" (x9, X, A, E)) (Q : Int32 → Hp → Hp → Hp → Prop) (T : E3 v rm_L_sound (Q3i v) Q X0 Y A E x9) (f0 : Nat) (f1 : Nat) (f2 : Int32) (f3 : Int32) (f4 : Int32) (f6 : Int32) (f7 : Int32) (K13 : Hp → Hp → Hp → Int32 → Int32 → Int32 → Int32 → Int32 → Prop) (hK13 : ∀ (S1 S2 S : Hp) (u2 : Int32) (u3 : Int32) (u4 : Int32) (u5 : Int32) (u6 : Int32), g_T S1 = v.2.2.1 → g_T S2 = v.2.2.1 → K13 S1 S2 S u2 u3 u4 u5 u6 → ZZ l v 10 rm_L_sound (x9, Y3 v.2.1 Y S1 S2, A, E) 0 0 S 13 [(0, va_rf (some f0)), (1, va_rf (some f1)), (2, .int u2), (3, .int u3), (4, .int u4), (5, .int u5), (6, .int u6)] []) : ∀ (n : Nat) (S1 S2 S : Hp) (w5 : Int32) (w8 : Int32) (w9 : Int32), g_T S1 = v.2.2.1 → g_T S2 = v.2.2.1 → wp_L_sound_L86 Q f0 f1 f2 f3 f4 f6 f7 K13 n S1 S2 S w5 w8 w9 → ZZ l v 10 rm_L_sound (x9, Y3 v.2.1 Y S1 S2, A, E) 0 0 S 86 [(0, va_rf (some f0)), (1, va_rf (some f1)), (2, .int f2), (3, .int f3), (4, .int f4), (5, .int w5), (6, .int f6), (7, .int f7), (8, .int w8), (9, .int w9)] [] := by
  intro n
  induction n with
  | zero =>
    intro S1 S2 S w5 w8 w9 t1 t2 h
    exact h.elim
  | succ n ih =>
    intro S1 S2 S w5 w8 w9 t1 t2 h
    unfold wp_L_sound_L86 at h
    refine z_iload (C _) (pc := 86) dL_sound_86 9 rfl ?_
    refine z_bipush (C _) (pc := 88) (x := (8 : Int32)) dL_sound_88 kbp_8 ?_
    refine z_icmp_ge (C _) (pc := 90) (tgt := 171) dL_sound_90 (by decide) h (fun h => ?_) (fun h => ?_)
    · refine z_iload (C _) (pc := 171) dL_sound_171 5 rfl ?_
      refine z_if_eq (C _) (pc := 173) (tgt := 239) dL_sound_173 (by decide) h (fun h => ?_) (fun h => ?_)
      · refine z_iconst (C _) (pc := 239) (x := (0 : Int32)) dL_sound_239 kic_0 ?_
        refine z_istore (C _) (pc := 240) (lv' := [(5, .int (0 : Int32)), (0, va_rf (some f0)), (1, va_rf (some f1)), (2, .int f2), (3, .int f3), (4, .int f4), (6, .int f6), (7, .int f7), (8, .int w8), (9, .int w9)]) dL_sound_240 (by decide) rfl ?_
        refine z_iinc (C _) (pc := 242) (y := f6 + (1 : Int32)) (lv' := [(6, .int (f6 + (1 : Int32))), (5, .int (0 : Int32)), (0, va_rf (some f0)), (1, va_rf (some f1)), (2, .int f2), (3, .int f3), (4, .int f4), (7, .int f7), (8, .int w8), (9, .int w9)]) dL_sound_242 6 rfl rfl (by decide) rfl ?_
        refine z_goto (C _) (pc := 245) (tgt := 13) dL_sound_245 (by decide) ?_
        refine z_sub [2, 3, 4, 5, 6, 1, 0] (lv' := [(0, va_rf (some f0)), (1, va_rf (some f1)), (2, .int f2), (3, .int f3), (4, .int f4), (5, .int (0 : Int32)), (6, .int (f6 + (1 : Int32)))]) rfl ?_
        exact hK13 S1 S2 S f2 f3 f4 (0 : Int32) (f6 + (1 : Int32)) t1 t2 h
      · refine z_iload (C _) (pc := 176) dL_sound_176 8 rfl ?_
        refine z_aload_n (C _) (pc := 178) dL_sound_178 0 rfl ?_
        refine z_iload (C _) (pc := 179) dL_sound_179 6 rfl ?_
        refine z_iconst (C _) (pc := 181) (x := (4 : Int32)) dL_sound_181 kic_4 ?_
        obtain ⟨o164, h⟩ := h
        refine z_s1 t1 (fun t165 => ?_)
        refine z_Vi (C _) (pc := 182) (KX := fun _ _ => False) (kc' := 0) (ks' := 0) (As := [.int f6, .int (4 : Int32)]) (rest := [.int w8]) rfl (c_X8_ofChild_n l v S1 f0 f6 (4 : Int32)) mw_X8_ofChild bw_113 bw_114 bw_115 (fit_of rfl) rfl rfl (Nat.le_of_ble_eq_true rfl) (by decide) rfl o164 dL_sound_182 h (fun r167 S166 h => ?_) (fun En S9 h => h.elim)
        refine z_s1' t165 (fun t168 => ?_)
        refine z_icmp_ne (C _) (pc := 185) (tgt := 239) dL_sound_185 (by decide) h (fun h => ?_) (fun h => ?_)
        · refine z_iconst (C _) (pc := 239) (x := (0 : Int32)) dL_sound_239 kic_0 ?_
          refine z_istore (C _) (pc := 240) (lv' := [(5, .int (0 : Int32)), (0, va_rf (some f0)), (1, va_rf (some f1)), (2, .int f2), (3, .int f3), (4, .int f4), (6, .int f6), (7, .int f7), (8, .int w8), (9, .int w9)]) dL_sound_240 (by decide) rfl ?_
          refine z_iinc (C _) (pc := 242) (y := f6 + (1 : Int32)) (lv' := [(6, .int (f6 + (1 : Int32))), (5, .int (0 : Int32)), (0, va_rf (some f0)), (1, va_rf (some f1)), (2, .int f2), (3, .int f3), (4, .int f4), (7, .int f7), (8, .int w8), (9, .int w9)]) dL_sound_242 6 rfl rfl (by decide) rfl ?_
          refine z_goto (C _) (pc := 245) (tgt := 13) dL_sound_245 (by decide) ?_
          refine z_sub [2, 3, 4, 5, 6, 1, 0] (lv' := [(0, va_rf (some f0)), (1, va_rf (some f1)), (2, .int f2), (3, .int f3), (4, .int f4), (5, .int (0 : Int32)), (6, .int (f6 + (1 : Int32)))]) rfl ?_
          exact hK13 S166 S2 S f2 f3 f4 (0 : Int32) (f6 + (1 : Int32)) t168 t2 h
        · refine z_iload (C _) (pc := 188) dL_sound_188 7 rfl ?_
          refine z_iconst (C _) (pc := 190) (x := (-1 : Int32)) dL_sound_190 kic_m1 ?_
          refine z_t_icmp_ne (C _) (pc := 191) dL_sound_191 dL_sound_194 kic_1 dL_sound_195 dL_sound_198 kic_0 ?_
          refine z_aload_n (C _) (pc := 199) dL_sound_199 0 rfl ?_
          refine z_iload (C _) (pc := 200) dL_sound_200 6 rfl ?_
          refine z_iconst (C _) (pc := 202) (x := (3 : Int32)) dL_sound_202 kic_3 ?_
          obtain ⟨o169, h⟩ := h
          refine z_s1 t168 (fun t170 => ?_)
          refine z_Vi (C _) (pc := 203) (KX := fun _ _ => False) (kc' := 0) (ks' := 0) (As := [.int f6, .int (3 : Int32)]) (rest := [.int (if f7 = (-1 : Int32) then (1 : Int32) else (0 : Int32))]) rfl (c_X8_ofChild_n l v S166 f0 f6 (3 : Int32)) mw_X8_ofChild bw_113 bw_114 bw_115 (fit_of rfl) rfl rfl (Nat.le_of_ble_eq_true rfl) (by decide) rfl o169 dL_sound_203 h (fun r172 S171 h => ?_) (fun En S9 h => h.elim)
          refine z_s1' t170 (fun t173 => ?_)
          refine z_iconst (C _) (pc := 206) (x := (-1 : Int32)) dL_sound_206 kic_m1 ?_
          refine z_t_icmp_ne (C _) (pc := 207) dL_sound_207 dL_sound_210 kic_1 dL_sound_211 dL_sound_214 kic_0 ?_
          refine z_icmp_ne (C _) (pc := 215) (tgt := 239) dL_sound_215 (by decide) h (fun h => ?_) (fun h => ?_)
          · refine z_iconst (C _) (pc := 239) (x := (0 : Int32)) dL_sound_239 kic_0 ?_
            refine z_istore (C _) (pc := 240) (lv' := [(5, .int (0 : Int32)), (0, va_rf (some f0)), (1, va_rf (some f1)), (2, .int f2), (3, .int f3), (4, .int f4), (6, .int f6), (7, .int f7), (8, .int w8), (9, .int w9)]) dL_sound_240 (by decide) rfl ?_
            refine z_iinc (C _) (pc := 242) (y := f6 + (1 : Int32)) (lv' := [(6, .int (f6 + (1 : Int32))), (5, .int (0 : Int32)), (0, va_rf (some f0)), (1, va_rf (some f1)), (2, .int f2), (3, .int f3), (4, .int f4), (7, .int f7), (8, .int w8), (9, .int w9)]) dL_sound_242 6 rfl rfl (by decide) rfl ?_
            refine z_goto (C _) (pc := 245) (tgt := 13) dL_sound_245 (by decide) ?_
            refine z_sub [2, 3, 4, 5, 6, 1, 0] (lv' := [(0, va_rf (some f0)), (1, va_rf (some f1)), (2, .int f2), (3, .int f3), (4, .int f4), (5, .int (0 : Int32)), (6, .int (f6 + (1 : Int32)))]) rfl ?_
            exact hK13 S171 S2 S f2 f3 f4 (0 : Int32) (f6 + (1 : Int32)) t173 t2 h
          · refine z_iload (C _) (pc := 218) dL_sound_218 7 rfl ?_
            refine z_iconst (C _) (pc := 220) (x := (-1 : Int32)) dL_sound_220 kic_m1 ?_
            refine z_icmp_eq (C _) (pc := 221) (tgt := 235) dL_sound_221 (by decide) h (fun h => ?_) (fun h => ?_)
            · refine z_iconst (C _) (pc := 235) (x := (1 : Int32)) dL_sound_235 kic_1 ?_
              refine z_goto (C _) (pc := 236) (tgt := 240) dL_sound_236 (by decide) ?_
              refine z_istore (C _) (pc := 240) (lv' := [(5, .int (1 : Int32)), (0, va_rf (some f0)), (1, va_rf (some f1)), (2, .int f2), (3, .int f3), (4, .int f4), (6, .int f6), (7, .int f7), (8, .int w8), (9, .int w9)]) dL_sound_240 (by decide) rfl ?_
              refine z_iinc (C _) (pc := 242) (y := f6 + (1 : Int32)) (lv' := [(6, .int (f6 + (1 : Int32))), (5, .int (1 : Int32)), (0, va_rf (some f0)), (1, va_rf (some f1)), (2, .int f2), (3, .int f3), (4, .int f4), (7, .int f7), (8, .int w8), (9, .int w9)]) dL_sound_242 6 rfl rfl (by decide) rfl ?_
              refine z_goto (C _) (pc := 245) (tgt := 13) dL_sound_245 (by decide) ?_
              refine z_sub [2, 3, 4, 5, 6, 1, 0] (lv' := [(0, va_rf (some f0)), (1, va_rf (some f1)), (2, .int f2), (3, .int f3), (4, .int f4), (5, .int (1 : Int32)), (6, .int (f6 + (1 : Int32)))]) rfl ?_
              exact hK13 S171 S2 S f2 f3 f4 (1 : Int32) (f6 + (1 : Int32)) t173 t2 h
            · refine z_aload_n (C _) (pc := 224) dL_sound_224 0 rfl ?_
              refine z_iload (C _) (pc := 225) dL_sound_225 6 rfl ?_
              refine z_iconst (C _) (pc := 227) (x := (2 : Int32)) dL_sound_227 kic_2 ?_
              obtain ⟨o174, h⟩ := h
              refine z_s1 t173 (fun t175 => ?_)
              refine z_Vi (C _) (pc := 228) (KX := fun _ _ => False) (kc' := 0) (ks' := 0) (As := [.int f6, .int (2 : Int32)]) (rest := []) rfl (c_X8_ofChild_n l v S171 f0 f6 (2 : Int32)) mw_X8_ofChild bw_113 bw_114 bw_115 (fit_of rfl) rfl rfl (Nat.le_of_ble_eq_true rfl) (by decide) rfl o174 dL_sound_228 h (fun r177 S176 h => ?_) (fun En S9 h => h.elim)
              refine z_s1' t175 (fun t178 => ?_)
              refine z_iconst (C _) (pc := 231) (x := (-1 : Int32)) dL_sound_231 kic_m1 ?_
              refine z_t_icmp_ne (C _) (pc := 232) dL_sound_232 dL_sound_235 kic_1 dL_sound_236 dL_sound_239 kic_0 ?_
              refine z_nI h (fun y179 h => ?_)
              refine z_istore (C _) (pc := 240) (lv' := [(5, .int y179), (0, va_rf (some f0)), (1, va_rf (some f1)), (2, .int f2), (3, .int f3), (4, .int f4), (6, .int f6), (7, .int f7), (8, .int w8), (9, .int w9)]) dL_sound_240 (by decide) rfl ?_
              refine z_iinc (C _) (pc := 242) (y := f6 + (1 : Int32)) (lv' := [(6, .int (f6 + (1 : Int32))), (5, .int y179), (0, va_rf (some f0)), (1, va_rf (some f1)), (2, .int f2), (3, .int f3), (4, .int f4), (7, .int f7), (8, .int w8), (9, .int w9)]) dL_sound_242 6 rfl rfl (by decide) rfl ?_
              refine z_goto (C _) (pc := 245) (tgt := 13) dL_sound_245 (by decide) ?_
              refine z_sub [2, 3, 4, 5, 6, 1, 0] (lv' := [(0, va_rf (some f0)), (1, va_rf (some f1)), (2, .int f2), (3, .int f3), (4, .int f4), (5, .int y179), (6, .int (f6 + (1 : Int32)))]) rfl ?_
              exact hK13 S176 S2 S f2 f3 f4 y179 (f6 + (1 : Int32)) t178 t2 h
    · refine z_iload (C _) (pc := 93) dL_sound_93 8 rfl ?_
      refine z_aload_n (C _) (pc := 95) dL_sound_95 0 rfl ?_
      refine z_iload (C _) (pc := 96) dL_sound_96 6 rfl ?_
      refine z_iload (C _) (pc := 98) dL_sound_98 9 rfl ?_
      obtain ⟨o180, h⟩ := h
      refine z_s1 t1 (fun t181 => ?_)
      refine z_Vi (C _) (pc := 100) (KX := fun _ _ => False) (kc' := 0) (ks' := 0) (As := [.int f6, .int w9]) (rest := [.int w8]) rfl (c_X8_earned_n l v S1 f0 f6 w9) mw_X8_earned bw_240 bw_241 bw_242 (fit_of rfl) rfl rfl (Nat.le_of_ble_eq_true rfl) (by decide) rfl o180 dL_sound_100 h (fun r183 S182 h => ?_) (fun En S9 h => h.elim)
      refine z_s1' t181 (fun t184 => ?_)
      refine z_iconst (C _) (pc := 103) (x := (-1 : Int32)) dL_sound_103 kic_m1 ?_
      refine z_t_icmp_ne (C _) (pc := 104) dL_sound_104 dL_sound_107 kic_0 dL_sound_108 dL_sound_111 kic_1 ?_
      refine z_iadd (C _) (pc := 112) dL_sound_112 ?_
      refine z_nI h (fun y185 h => ?_)
      refine z_istore (C _) (pc := 113) (lv' := [(8, .int y185), (0, va_rf (some f0)), (1, va_rf (some f1)), (2, .int f2), (3, .int f3), (4, .int f4), (5, .int w5), (6, .int f6), (7, .int f7), (9, .int w9)]) dL_sound_113 (by decide) rfl ?_
      refine z_iload (C _) (pc := 115) dL_sound_115 6 rfl ?_
      refine z_if_eq (C _) (pc := 117) (tgt := 162) dL_sound_117 (by decide) h (fun h => ?_) (fun h => ?_)
      · refine z_iconst (C _) (pc := 162) (x := (0 : Int32)) dL_sound_162 kic_0 ?_
        refine z_istore (C _) (pc := 163) (lv' := [(5, .int (0 : Int32)), (8, .int y185), (0, va_rf (some f0)), (1, va_rf (some f1)), (2, .int f2), (3, .int f3), (4, .int f4), (6, .int f6), (7, .int f7), (9, .int w9)]) dL_sound_163 (by decide) rfl ?_
        refine z_iinc (C _) (pc := 165) (y := w9 + (1 : Int32)) (lv' := [(9, .int (w9 + (1 : Int32))), (5, .int (0 : Int32)), (8, .int y185), (0, va_rf (some f0)), (1, va_rf (some f1)), (2, .int f2), (3, .int f3), (4, .int f4), (6, .int f6), (7, .int f7)]) dL_sound_165 9 rfl rfl (by decide) rfl ?_
        refine z_goto (C _) (pc := 168) (tgt := 86) dL_sound_168 (by decide) ?_
        refine z_sub [3, 4, 5, 6, 7, 1, 8, 9, 2, 0] (lv' := [(0, va_rf (some f0)), (1, va_rf (some f1)), (2, .int f2), (3, .int f3), (4, .int f4), (5, .int (0 : Int32)), (6, .int f6), (7, .int f7), (8, .int y185), (9, .int (w9 + (1 : Int32)))]) rfl ?_
        exact ih S182 S2 S (0 : Int32) y185 (w9 + (1 : Int32)) t184 t2 h
      · refine z_aload_n (C _) (pc := 120) dL_sound_120 1 rfl ?_
        refine z_iload (C _) (pc := 121) dL_sound_121 7 rfl ?_
        refine z_iload (C _) (pc := 123) dL_sound_123 9 rfl ?_
        obtain ⟨o186, h⟩ := h
        refine z_s1 t184 (fun t187 => ?_)
        refine z_Vi (C _) (pc := 125) (KX := fun _ _ => False) (kc' := 0) (ks' := 0) (As := [.int f6, .int w9]) (rest := []) rfl (c_X8_earned_n l v S182 f0 f6 w9) mw_X8_earned bw_240 bw_241 bw_242 (fit_of rfl) rfl rfl (Nat.le_of_ble_eq_true rfl) (by decide) rfl o186 dL_sound_125 h (fun r189 S188 h => ?_) (fun En S9 h => h.elim)
        refine z_s1' t187 (fun t190 => ?_)
        refine z_aload_n (C _) (pc := 128) dL_sound_128 1 rfl ?_
        obtain ⟨o191, h⟩ := h
        refine z_s1 t190 (fun t192 => ?_)
        refine z_Vi (C _) (pc := 129) (KX := fun _ _ => False) (kc' := 0) (ks' := 0) (As := []) (rest := [.int r189]) rfl (c_X8_today l v S188 f0) mw_X8_today bw_108 bw_109 bw_110 (fit_of rfl) rfl rfl (Nat.le_of_ble_eq_true rfl) (by decide) rfl o191 dL_sound_129 h (fun r194 S193 h => ?_) (fun En S9 h => h.elim)
        refine z_s1' t192 (fun t195 => ?_)
        refine z_icmp_gt (C _) (pc := 132) (tgt := 162) dL_sound_132 (by decide) h (fun h => ?_) (fun h => ?_)
        · refine z_iconst (C _) (pc := 162) (x := (0 : Int32)) dL_sound_162 kic_0 ?_
          refine z_istore (C _) (pc := 163) (lv' := [(5, .int (0 : Int32)), (8, .int y185), (0, va_rf (some f0)), (1, va_rf (some f1)), (2, .int f2), (3, .int f3), (4, .int f4), (6, .int f6), (7, .int f7), (9, .int w9)]) dL_sound_163 (by decide) rfl ?_
          refine z_iinc (C _) (pc := 165) (y := w9 + (1 : Int32)) (lv' := [(9, .int (w9 + (1 : Int32))), (5, .int (0 : Int32)), (8, .int y185), (0, va_rf (some f0)), (1, va_rf (some f1)), (2, .int f2), (3, .int f3), (4, .int f4), (6, .int f6), (7, .int f7)]) dL_sound_165 9 rfl rfl (by decide) rfl ?_
          refine z_goto (C _) (pc := 168) (tgt := 86) dL_sound_168 (by decide) ?_
          refine z_sub [3, 4, 5, 6, 7, 1, 8, 9, 2, 0] (lv' := [(0, va_rf (some f0)), (1, va_rf (some f1)), (2, .int f2), (3, .int f3), (4, .int f4), (5, .int (0 : Int32)), (6, .int f6), (7, .int f7), (8, .int y185), (9, .int (w9 + (1 : Int32)))]) rfl ?_
          exact ih S193 S2 S (0 : Int32) y185 (w9 + (1 : Int32)) t195 t2 h
        · refine z_aload_n (C _) (pc := 135) dL_sound_135 1 rfl ?_
          refine z_iload (C _) (pc := 136) dL_sound_136 7 rfl ?_
          refine z_iload (C _) (pc := 138) dL_sound_138 9 rfl ?_
          obtain ⟨o196, h⟩ := h
          refine z_s1 t195 (fun t197 => ?_)
          refine z_Vi (C _) (pc := 140) (KX := fun _ _ => False) (kc' := 0) (ks' := 0) (As := [.int f6, .int w9]) (rest := []) rfl (c_X8_holds_n l v S193 f0 f6 w9) mw_X8_holds bw_245 bw_246 bw_247 (fit_of rfl) rfl rfl (Nat.le_of_ble_eq_true rfl) (by decide) rfl o196 dL_sound_140 h (fun r199 S198 h => ?_) (fun En S9 h => h.elim)
          refine z_s1' t197 (fun t200 => ?_)
          refine z_if_eq (C _) (pc := 143) (tgt := 158) dL_sound_143 (by decide) h (fun h => ?_) (fun h => ?_)
          · refine z_iconst (C _) (pc := 158) (x := (1 : Int32)) dL_sound_158 kic_1 ?_
            refine z_goto (C _) (pc := 159) (tgt := 163) dL_sound_159 (by decide) ?_
            refine z_istore (C _) (pc := 163) (lv' := [(5, .int (1 : Int32)), (8, .int y185), (0, va_rf (some f0)), (1, va_rf (some f1)), (2, .int f2), (3, .int f3), (4, .int f4), (6, .int f6), (7, .int f7), (9, .int w9)]) dL_sound_163 (by decide) rfl ?_
            refine z_iinc (C _) (pc := 165) (y := w9 + (1 : Int32)) (lv' := [(9, .int (w9 + (1 : Int32))), (5, .int (1 : Int32)), (8, .int y185), (0, va_rf (some f0)), (1, va_rf (some f1)), (2, .int f2), (3, .int f3), (4, .int f4), (6, .int f6), (7, .int f7)]) dL_sound_165 9 rfl rfl (by decide) rfl ?_
            refine z_goto (C _) (pc := 168) (tgt := 86) dL_sound_168 (by decide) ?_
            refine z_sub [3, 4, 5, 6, 7, 1, 8, 9, 2, 0] (lv' := [(0, va_rf (some f0)), (1, va_rf (some f1)), (2, .int f2), (3, .int f3), (4, .int f4), (5, .int (1 : Int32)), (6, .int f6), (7, .int f7), (8, .int y185), (9, .int (w9 + (1 : Int32)))]) rfl ?_
            exact ih S198 S2 S (1 : Int32) y185 (w9 + (1 : Int32)) t200 t2 h
          · refine z_aload_n (C _) (pc := 146) dL_sound_146 1 rfl ?_
            refine z_iload (C _) (pc := 147) dL_sound_147 7 rfl ?_
            refine z_iload (C _) (pc := 149) dL_sound_149 9 rfl ?_
            obtain ⟨o201, h⟩ := h
            refine z_s1 t200 (fun t202 => ?_)
            refine z_Vi (C _) (pc := 151) (KX := fun _ _ => False) (kc' := 0) (ks' := 0) (As := [.int f6, .int w9]) (rest := []) rfl (c_X8_earned_n l v S198 f0 f6 w9) mw_X8_earned bw_240 bw_241 bw_242 (fit_of rfl) rfl rfl (Nat.le_of_ble_eq_true rfl) (by decide) rfl o201 dL_sound_151 h (fun r204 S203 h => ?_) (fun En S9 h => h.elim)
            refine z_s1' t202 (fun t205 => ?_)
            refine z_iconst (C _) (pc := 154) (x := (-1 : Int32)) dL_sound_154 kic_m1 ?_
            refine z_t_icmp_eq (C _) (pc := 155) dL_sound_155 dL_sound_158 kic_1 dL_sound_159 dL_sound_162 kic_0 ?_
            refine z_nI h (fun y206 h => ?_)
            refine z_istore (C _) (pc := 163) (lv' := [(5, .int y206), (8, .int y185), (0, va_rf (some f0)), (1, va_rf (some f1)), (2, .int f2), (3, .int f3), (4, .int f4), (6, .int f6), (7, .int f7), (9, .int w9)]) dL_sound_163 (by decide) rfl ?_
            refine z_iinc (C _) (pc := 165) (y := w9 + (1 : Int32)) (lv' := [(9, .int (w9 + (1 : Int32))), (5, .int y206), (8, .int y185), (0, va_rf (some f0)), (1, va_rf (some f1)), (2, .int f2), (3, .int f3), (4, .int f4), (6, .int f6), (7, .int f7)]) dL_sound_165 9 rfl rfl (by decide) rfl ?_
            refine z_goto (C _) (pc := 168) (tgt := 86) dL_sound_168 (by decide) ?_
            refine z_sub [3, 4, 5, 6, 7, 1, 8, 9, 2, 0] (lv' := [(0, va_rf (some f0)), (1, va_rf (some f1)), (2, .int f2), (3, .int f3), (4, .int f4), (5, .int y206), (6, .int f6), (7, .int f7), (8, .int y185), (9, .int (w9 + (1 : Int32)))]) rfl ?_
            exact ih S203 S2 S y206 y185 (w9 + (1 : Int32)) t205 t2 h
set_option maxHeartbeats 4000000 in
set_option maxRecDepth 100000 in
theorem l_L_sound_L13 (l : Launch) (hfl : l.stackTraces = false) (v : Ev) {x9 : P9} {A : Nat → Prop} {E : State → Prop} {X0 Y : va_W} (C : ∀ X, Cx l v RL cL_sound 10 (some .boolean) "sound" (x9, X, A, E)) (Q : Int32 → Hp → Hp → Hp → Prop) (T : E3 v rm_L_sound (Q3i v) Q X0 Y A E x9) (f0 : Nat) (f1 : Nat) : ∀ (n : Nat) (S1 S2 S : Hp) (w2 : Int32) (w3 : Int32) (w4 : Int32) (w5 : Int32) (w6 : Int32), g_T S1 = v.2.2.1 → g_T S2 = v.2.2.1 → wp_L_sound_L13 Q f0 f1 n S1 S2 S w2 w3 w4 w5 w6 → ZZ l v 10 rm_L_sound (x9, Y3 v.2.1 Y S1 S2, A, E) 0 0 S 13 [(0, va_rf (some f0)), (1, va_rf (some f1)), (2, .int w2), (3, .int w3), (4, .int w4), (5, .int w5), (6, .int w6)] [] := by
  intro n
  induction n with
  | zero =>
    intro S1 S2 S w2 w3 w4 w5 w6 t1 t2 h
    exact h.elim
  | succ n ih =>
    intro S1 S2 S w2 w3 w4 w5 w6 t1 t2 h
    unfold wp_L_sound_L13 at h
    refine z_iload (C _) (pc := 13) dL_sound_13 6 rfl ?_
    refine z_aload_n (C _) (pc := 15) dL_sound_15 1 rfl ?_
    refine z_iconst (C _) (pc := 16) (x := (0 : Int32)) dL_sound_16 kic_0 ?_
    obtain ⟨o101, h⟩ := h
    obtain ⟨v102, h⟩ := h
    refine z_iald (C _) (pc := 17) dL_sound_17 rfl o101 v102 ?_
    refine z_icmp_ge (C _) (pc := 18) (tgt := 248) dL_sound_18 (by decide) h (fun h => ?_) (fun h => ?_)
    · refine z_iconst (C _) (pc := 248) (x := (0 : Int32)) dL_sound_248 kic_0 ?_
      refine z_istore (C _) (pc := 249) (lv' := [(6, .int (0 : Int32)), (0, va_rf (some f0)), (1, va_rf (some f1)), (2, .int w2), (3, .int w3), (4, .int w4), (5, .int w5)]) dL_sound_249 (by decide) rfl ?_
      obtain ⟨n144, h⟩ := h
      refine z_sub [1, 2, 3, 4, 5, 6, 0] (lv' := [(0, va_rf (some f0)), (1, va_rf (some f1)), (2, .int w2), (3, .int w3), (4, .int w4), (5, .int w5), (6, .int (0 : Int32))]) rfl ?_
      exact l_L_sound_L251 l hfl v C Q T f0 f1 n144 S1 S2 S w2 w3 w4 w5 (0 : Int32) t1 t2 h
    · refine z_iload (C _) (pc := 21) dL_sound_21 5 rfl ?_
      refine z_if_eq (C _) (pc := 23) (tgt := 248) dL_sound_23 (by decide) h (fun h => ?_) (fun h => ?_)
      · refine z_iconst (C _) (pc := 248) (x := (0 : Int32)) dL_sound_248 kic_0 ?_
        refine z_istore (C _) (pc := 249) (lv' := [(6, .int (0 : Int32)), (0, va_rf (some f0)), (1, va_rf (some f1)), (2, .int w2), (3, .int w3), (4, .int w4), (5, .int w5)]) dL_sound_249 (by decide) rfl ?_
        obtain ⟨n145, h⟩ := h
        refine z_sub [1, 2, 3, 4, 5, 6, 0] (lv' := [(0, va_rf (some f0)), (1, va_rf (some f1)), (2, .int w2), (3, .int w3), (4, .int w4), (5, .int w5), (6, .int (0 : Int32))]) rfl ?_
        exact l_L_sound_L251 l hfl v C Q T f0 f1 n145 S1 S2 S w2 w3 w4 w5 (0 : Int32) t1 t2 h
      · refine z_aload_n (C _) (pc := 26) dL_sound_26 0 rfl ?_
        refine z_iload (C _) (pc := 27) dL_sound_27 6 rfl ?_
        refine z_iconst (C _) (pc := 29) (x := (1 : Int32)) dL_sound_29 kic_1 ?_
        obtain ⟨o146, h⟩ := h
        refine z_s1 t1 (fun t147 => ?_)
        refine z_Vi (C _) (pc := 30) (KX := fun _ _ => False) (kc' := 0) (ks' := 0) (As := [.int w6, .int (1 : Int32)]) (rest := []) rfl (c_X8_ofChild_n l v S1 f0 w6 (1 : Int32)) mw_X8_ofChild bw_113 bw_114 bw_115 (fit_of rfl) rfl rfl (Nat.le_of_ble_eq_true rfl) (by decide) rfl o146 dL_sound_30 h (fun r149 S148 h => ?_) (fun En S9 h => h.elim)
        refine z_s1' t147 (fun t150 => ?_)
        refine z_istore (C _) (pc := 33) (lv' := [(7, .int r149), (0, va_rf (some f0)), (1, va_rf (some f1)), (2, .int w2), (3, .int w3), (4, .int w4), (5, .int w5), (6, .int w6)]) dL_sound_33 (by decide) rfl ?_
        refine z_iload_n (C _) (pc := 35) dL_sound_35 3 rfl ?_
        refine z_iload (C _) (pc := 36) dL_sound_36 0 rfl ?_
        refine z_iconst (C _) (pc := 38) (x := (-1 : Int32)) dL_sound_38 kic_m1 ?_
        refine z_t_icmp_ne (C _) (pc := 39) dL_sound_39 dL_sound_42 kic_0 dL_sound_43 dL_sound_46 kic_1 ?_
        refine z_iadd (C _) (pc := 47) dL_sound_47 ?_
        refine z_nI h (fun y151 h => ?_)
        refine z_istore_n (C _) (pc := 48) (lv' := [(2, .int y151), (7, .int r149), (0, va_rf (some f0)), (1, va_rf (some f1)), (3, .int w3), (4, .int w4), (5, .int w5), (6, .int w6)]) dL_sound_48 (by decide) rfl ?_
        refine z_iload_n (C _) (pc := 49) dL_sound_49 4 rfl ?_
        refine z_aload_n (C _) (pc := 50) dL_sound_50 2 rfl ?_
        refine z_iload (C _) (pc := 51) dL_sound_51 7 rfl ?_
        refine z_iconst (C _) (pc := 53) (x := (2 : Int32)) dL_sound_53 kic_2 ?_
        obtain ⟨o152, h⟩ := h
        refine z_s1 t150 (fun t153 => ?_)
        refine z_Vi (C _) (pc := 54) (KX := fun _ _ => False) (kc' := 0) (ks' := 0) (As := [.int w6, .int (2 : Int32)]) (rest := [.int w3]) rfl (c_X8_ofChild_n l v S148 f0 w6 (2 : Int32)) mw_X8_ofChild bw_113 bw_114 bw_115 (fit_of rfl) rfl rfl (Nat.le_of_ble_eq_true rfl) (by decide) rfl o152 dL_sound_54 h (fun r155 S154 h => ?_) (fun En S9 h => h.elim)
        refine z_s1' t153 (fun t156 => ?_)
        refine z_iconst (C _) (pc := 57) (x := (-1 : Int32)) dL_sound_57 kic_m1 ?_
        refine z_t_icmp_ne (C _) (pc := 58) dL_sound_58 dL_sound_61 kic_0 dL_sound_62 dL_sound_65 kic_1 ?_
        refine z_iadd (C _) (pc := 66) dL_sound_66 ?_
        refine z_nI h (fun y157 h => ?_)
        refine z_istore_n (C _) (pc := 67) (lv' := [(3, .int y157), (2, .int y151), (7, .int r149), (0, va_rf (some f0)), (1, va_rf (some f1)), (4, .int w4), (5, .int w5), (6, .int w6)]) dL_sound_67 (by decide) rfl ?_
        refine z_iload (C _) (pc := 68) dL_sound_68 5 rfl ?_
        refine z_aload_n (C _) (pc := 70) dL_sound_70 3 rfl ?_
        refine z_iload (C _) (pc := 71) dL_sound_71 7 rfl ?_
        refine z_iconst (C _) (pc := 73) (x := (5 : Int32)) dL_sound_73 kic_5 ?_
        obtain ⟨o158, h⟩ := h
        refine z_s1 t156 (fun t159 => ?_)
        refine z_Vi (C _) (pc := 74) (KX := fun _ _ => False) (kc' := 0) (ks' := 0) (As := [.int w6, .int (5 : Int32)]) (rest := [.int w4]) rfl (c_X8_ofChild_n l v S154 f0 w6 (5 : Int32)) mw_X8_ofChild bw_113 bw_114 bw_115 (fit_of rfl) rfl rfl (Nat.le_of_ble_eq_true rfl) (by decide) rfl o158 dL_sound_74 h (fun r161 S160 h => ?_) (fun En S9 h => h.elim)
        refine z_s1' t159 (fun t162 => ?_)
        refine z_iadd (C _) (pc := 77) dL_sound_77 ?_
        refine z_nI h (fun y163 h => ?_)
        refine z_istore (C _) (pc := 78) (lv' := [(4, .int y163), (3, .int y157), (2, .int y151), (7, .int r149), (0, va_rf (some f0)), (1, va_rf (some f1)), (5, .int w5), (6, .int w6)]) dL_sound_78 (by decide) rfl ?_
        refine z_iconst (C _) (pc := 80) (x := (0 : Int32)) dL_sound_80 kic_0 ?_
        refine z_istore (C _) (pc := 81) (lv' := [(8, .int (0 : Int32)), (4, .int y163), (3, .int y157), (2, .int y151), (7, .int r149), (0, va_rf (some f0)), (1, va_rf (some f1)), (5, .int w5), (6, .int w6)]) dL_sound_81 (by decide) rfl ?_
        refine z_iconst (C _) (pc := 83) (x := (0 : Int32)) dL_sound_83 kic_0 ?_
        refine z_istore (C _) (pc := 84) (lv' := [(9, .int (0 : Int32)), (8, .int (0 : Int32)), (4, .int y163), (3, .int y157), (2, .int y151), (7, .int r149), (0, va_rf (some f0)), (1, va_rf (some f1)), (5, .int w5), (6, .int w6)]) dL_sound_84 (by decide) rfl ?_
        obtain ⟨n207, h⟩ := h
        refine z_sub [6, 7, 4, 3, 2, 8, 9, 5, 1, 0] (lv' := [(0, va_rf (some f0)), (1, va_rf (some f1)), (2, .int y151), (3, .int y157), (4, .int y163), (5, .int w5), (6, .int w6), (7, .int r149), (8, .int (0 : Int32)), (9, .int (0 : Int32))]) rfl ?_
        exact l_L_sound_L86 l hfl v C Q T f0 f1 y151 y157 y163 w6 r149 (wp_L_sound_L13 Q f0 f1 n) ih n207 S160 S2 S w5 (0 : Int32) (0 : Int32) t162 t2 h
set_option maxHeartbeats 4000000 in
set_option maxRecDepth 100000 in
theorem c_L_sound (l : Launch) (hfl : l.stackTraces = false) (v : Ev) (S1 S2 S : Hp) (x0 : Nat) (x1 : Nat) : C3 l v yL_sound cL_sound 10 (some .boolean) rm_L_sound [va_rf (some x0), va_rf (some x1)] S1 S2 S (Q3i v) (fun Q => wp_L_sound S1 S2 S x0 x1 Q) := by
  refine z_start3 [(0, va_rf (some x0)), (1, va_rf (some x1))] (by decide +kernel) (by simp only [la_i, la_r, la_n]) (cat_cr (cat_cr cat_nil)) (by simp only [ls_i, ls_r, ls_n]; decide) (fun x9 A E Y Q h t1 t2 C T => ?_)
  unfold wp_L_sound at h
  refine z_iconst (C _) (pc := 0) (x := (0 : Int32)) dL_sound_0 kic_0 ?_
  refine z_istore_n (C _) (pc := 1) (lv' := [(2, .int (0 : Int32)), (0, va_rf (some x0)), (1, va_rf (some x1))]) dL_sound_1 (by decide) rfl ?_
  refine z_iconst (C _) (pc := 2) (x := (0 : Int32)) dL_sound_2 kic_0 ?_
  refine z_istore_n (C _) (pc := 3) (lv' := [(3, .int (0 : Int32)), (2, .int (0 : Int32)), (0, va_rf (some x0)), (1, va_rf (some x1))]) dL_sound_3 (by decide) rfl ?_
  refine z_iconst (C _) (pc := 4) (x := (0 : Int32)) dL_sound_4 kic_0 ?_
  refine z_istore (C _) (pc := 5) (lv' := [(4, .int (0 : Int32)), (3, .int (0 : Int32)), (2, .int (0 : Int32)), (0, va_rf (some x0)), (1, va_rf (some x1))]) dL_sound_5 (by decide) rfl ?_
  refine z_iconst (C _) (pc := 7) (x := (1 : Int32)) dL_sound_7 kic_1 ?_
  refine z_istore (C _) (pc := 8) (lv' := [(5, .int (1 : Int32)), (4, .int (0 : Int32)), (3, .int (0 : Int32)), (2, .int (0 : Int32)), (0, va_rf (some x0)), (1, va_rf (some x1))]) dL_sound_8 (by decide) rfl ?_
  refine z_iconst (C _) (pc := 10) (x := (0 : Int32)) dL_sound_10 kic_0 ?_
  refine z_istore (C _) (pc := 11) (lv' := [(6, .int (0 : Int32)), (5, .int (1 : Int32)), (4, .int (0 : Int32)), (3, .int (0 : Int32)), (2, .int (0 : Int32)), (0, va_rf (some x0)), (1, va_rf (some x1))]) dL_sound_11 (by decide) rfl ?_
  obtain ⟨n208, h⟩ := h
  refine z_sub [5, 6, 4, 3, 2, 1, 0] (lv' := [(0, va_rf (some x0)), (1, va_rf (some x1)), (2, .int (0 : Int32)), (3, .int (0 : Int32)), (4, .int (0 : Int32)), (5, .int (1 : Int32)), (6, .int (0 : Int32))]) rfl ?_
  exact l_L_sound_L13 l hfl v C Q T x0 x1 n208 S1 S2 S (0 : Int32) (0 : Int32) (0 : Int32) (1 : Int32) (0 : Int32) t1 t2 h
