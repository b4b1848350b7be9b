def wp_L_refused_B245 (Q : Int32 → Hp → Hp → Hp → Prop) (S1 S2 S : Hp) (w0 : Nat) (w1 : Nat) (w2 : Int64) (w4 : Int32) : Prop :=
  wp_L_edition S1 w0 (8 : Int32) (0 : Int32) (0 : Int32) (0 : Int32) (-1 : Int32) (0 : Int32) (0 : Int32) (fun r170 S169 => if r170 = (-2000000001 : Int32) then (wp_L_edition S169 w0 (0 : Int32) (3 : Int32) (1 : Int32) (0 : Int32) (-1 : Int32) (0 : Int32) (0 : Int32) (fun r174 S173 => if r174 = (-2000000002 : Int32) then (wp_L_event S173 w0 (6 : Int32) (0 : Int32) (0 : Int32) (0 : Int32) (0 : Int32) (1 : Int32) (fun r178 S177 => if r178 = (-2000000001 : Int32) then (wp_L_event S177 w0 (0 : Int32) (0 : Int32) (4 : Int32) (9999 : Int32) (0 : Int32) (1 : Int32) (fun r182 S181 => if r182 = (-2000000002 : Int32) then (wp_L_call S181 w0 (16 : Int32) (0 : Int32) (-1 : Int32) (0 : Int32) (0 : Int32) (fun r186 S185 => if r186 = (-2000000002 : Int32) then (wp_L_call S185 w0 (16 : Int32) (0 : Int32) (0 : Int32) (256 : Int32) (0 : Int32) (fun r190 S189 => if r190 = (-2000000002 : Int32) then (wp_L_call S189 w0 (17 : Int32) (24 : Int32) (1 : Int32) (0 : Int32) (0 : Int32) (fun r194 S193 => if r194 = (-2000000001 : Int32) then (wp_L_call S193 w0 (18 : Int32) (-1 : Int32) (1 : Int32) (0 : Int32) (0 : Int32) (fun r198 S197 => if r198 = (-2000000001 : Int32) then (wp_L_call S197 w0 (19 : Int32) (6 : Int32) (0 : Int32) (0 : Int32) (0 : Int32) (fun r202 S201 => if r202 = (-2000000001 : Int32) then (wp_L_call S201 w0 (20 : Int32) (24 : Int32) (0 : Int32) (0 : Int32) (0 : Int32) (fun r206 S205 => if r206 = (-2000000001 : Int32) then (wp_L_call S205 w0 (21 : Int32) (-1 : Int32) (0 : Int32) (0 : Int32) (0 : Int32) (fun r210 S209 => if r210 = (-2000000001 : Int32) then (wp_L_call S209 w0 (22 : Int32) (24 : Int32) (0 : Int32) (0 : Int32) (0 : Int32) (fun r214 S213 => if r214 = (-2000000001 : Int32) then (wp_L_call S213 w0 (23 : Int32) (0 : Int32) (8 : Int32) (0 : Int32) (0 : Int32) (fun r218 S217 => if r218 = (-2000000001 : Int32) then (wp_L_call S217 w0 (24 : Int32) (0 : Int32) (-1 : Int32) (0 : Int32) (0 : Int32) (fun r222 S221 => if r222 = (-2000000001 : Int32) then (wp_L_all S221 S2 S w0 w1 (fun r227 S224 S225 S226 => bz (if (lg_cmp r227 w2) = 0 then (1 : Int32) else (0 : Int32)) (Q (if (lg_cmp r227 w2) = 0 then (1 : Int32) else (0 : Int32)) S224 S225 S226))) else (bz (0 : Int32) (Q (0 : Int32) S221 S2 S)))) else (bz (0 : Int32) (Q (0 : Int32) S217 S2 S)))) else (bz (0 : Int32) (Q (0 : Int32) S213 S2 S)))) else (bz (0 : Int32) (Q (0 : Int32) S209 S2 S)))) else (bz (0 : Int32) (Q (0 : Int32) S205 S2 S)))) else (bz (0 : Int32) (Q (0 : Int32) S201 S2 S)))) else (bz (0 : Int32) (Q (0 : Int32) S197 S2 S)))) else (bz (0 : Int32) (Q (0 : Int32) S193 S2 S)))) else (bz (0 : Int32) (Q (0 : Int32) S189 S2 S)))) else (bz (0 : Int32) (Q (0 : Int32) S185 S2 S)))) else (bz (0 : Int32) (Q (0 : Int32) S181 S2 S)))) else (bz (0 : Int32) (Q (0 : Int32) S177 S2 S)))) else (bz (0 : Int32) (Q (0 : Int32) S173 S2 S)))) else (bz (0 : Int32) (Q (0 : Int32) S169 S2 S)))
def wp_L_refused (S1 S2 S : Hp) (x0 : Nat) (x1 : Nat) (Q : Int32 → Hp → Hp → Hp → Prop) : Prop :=
  wp_L_all S1 S2 S x0 x1 (fun r104 S101 S102 S103 => wp_L_call S101 x0 (0 : Int32) (4 : Int32) (5 : Int32) (1 : Int32) (0 : Int32) (fun r109 S108 => if r109 = (-2000000002 : Int32) then (wp_L_call S108 x0 (1 : Int32) (18 : Int32) (0 : Int32) (0 : Int32) (0 : Int32) (fun r113 S112 => if r113 = (-2000000002 : Int32) then (wp_L_call S112 x0 (2 : Int32) (24 : Int32) (0 : Int32) (0 : Int32) (0 : Int32) (fun r117 S116 => if r117 = (-2000000001 : Int32) then (wp_L_call S116 x0 (3 : Int32) (-1 : Int32) (0 : Int32) (0 : Int32) (0 : Int32) (fun r121 S120 => if r121 = (-2000000001 : Int32) then (wp_L_call S120 x0 (4 : Int32) (24 : Int32) (0 : Int32) (0 : Int32) (0 : Int32) (fun r125 S124 => if r125 = (-2000000001 : Int32) then (wp_L_call S124 x0 (5 : Int32) (6 : Int32) (0 : Int32) (0 : Int32) (0 : Int32) (fun r129 S128 => if r129 = (-2000000001 : Int32) then (wp_L_call S128 x0 (5 : Int32) (0 : Int32) (-1 : Int32) (0 : Int32) (0 : Int32) (fun r133 S132 => if r133 = (-2000000002 : Int32) then (wp_L_call S132 x0 (6 : Int32) (0 : Int32) (0 : Int32) (0 : Int32) (0 : Int32) (fun r137 S136 => if r137 = (-2000000002 : Int32) then (wp_L_call S136 x0 (9 : Int32) (8 : Int32) (0 : Int32) (0 : Int32) (0 : Int32) (fun r141 S140 => if r141 = (-2000000001 : Int32) then (wp_L_call S140 x0 (10 : Int32) (-1 : Int32) (1 : Int32) (0 : Int32) (0 : Int32) (fun r145 S144 => if r145 = (-2000000001 : Int32) then (wp_L_call S144 x0 (11 : Int32) (8 : Int32) (0 : Int32) (0 : Int32) (0 : Int32) (fun r149 S148 => if r149 = (-2000000001 : Int32) then (wp_L_call S148 x0 (12 : Int32) (24 : Int32) (0 : Int32) (0 : Int32) (0 : Int32) (fun r153 S152 => if r153 = (-2000000001 : Int32) then (wp_L_call S152 x0 (13 : Int32) (24 : Int32) (0 : Int32) (0 : Int32) (0 : Int32) (fun r157 S156 => if r157 = (-2000000001 : Int32) then (wp_L_call S156 x0 (14 : Int32) (20 : Int32) (0 : Int32) (1 : Int32) (0 : Int32) (fun r161 S160 => if r161 = (-2000000001 : Int32) then (wp_L_call S160 x0 (15 : Int32) (-1 : Int32) (0 : Int32) (0 : Int32) (0 : Int32) (fun r165 S164 => lt (if r165 = (-2000000001 : Int32) then (1 : Int32) else (0 : Int32)) (fun y167 => if y167 = 0 then (bz (0 : Int32) (Q (0 : Int32) S164 S102 S103)) else (wp_L_refused_B245 Q S164 S102 S103 x0 x1 r104 y167)))) else (bz (0 : Int32) (Q (0 : Int32) S160 S102 S103)))) else (bz (0 : Int32) (Q (0 : Int32) S156 S102 S103)))) else (bz (0 : Int32) (Q (0 : Int32) S152 S102 S103)))) else (bz (0 : Int32) (Q (0 : Int32) S148 S102 S103)))) else (bz (0 : Int32) (Q (0 : Int32) S144 S102 S103)))) else (bz (0 : Int32) (Q (0 : Int32) S140 S102 S103)))) else (bz (0 : Int32) (Q (0 : Int32) S136 S102 S103)))) else (bz (0 : Int32) (Q (0 : Int32) S132 S102 S103)))) else (bz (0 : Int32) (Q (0 : Int32) S128 S102 S103)))) else (bz (0 : Int32) (Q (0 : Int32) S124 S102 S103)))) else (bz (0 : Int32) (Q (0 : Int32) S120 S102 S103)))) else (bz (0 : Int32) (Q (0 : Int32) S116 S102 S103)))) else (bz (0 : Int32) (Q (0 : Int32) S112 S102 S103)))) else (bz (0 : Int32) (Q (0 : Int32) S108 S102 S103))))
def rm_L_refused : Room := { frames := 11, cells := 1230, slots := 37422, locals := 329 }
set_option maxHeartbeats 4000000 in
set_option maxRecDepth 100000 in
theorem k_L_refused_B245 (l : Launch) (hfl : l.stackTraces = false) (v : Ev) {x9 : P9} {A : Nat → Prop} {E : State → Prop} {X0 Y : va_W} (C : ∀ X, Cx l v RL cL_refused 5 (some .boolean) "refused" (x9, X, A, E)) (Q : Int32 → Hp → Hp → Hp → Prop) (T : E3 v rm_L_refused (Q3i v) Q X0 Y A E x9) (S1 S2 S : Hp) (t1 : g_T S1 = v.2.2.1) (t2 : g_T S2 = v.2.2.1) (w0 : Nat) (w1 : Nat) (w2 : Int64) (w4 : Int32) (h : wp_L_refused_B245 Q S1 S2 S w0 w1 w2 w4) : ZZ l v 5 rm_L_refused (x9, Y3 v.2.1 Y S1 S2, A, E) 711 22155 S 245 [(0, va_rf (some w0)), (1, va_rf (some w1)), (2, .long w2), (4, .int w4)] [] := by
  unfold wp_L_refused_B245 at h
  refine z_aload_n (C _) (pc := 245) dL_refused_245 0 rfl ?_
  refine z_bipush (C _) (pc := 246) (x := (8 : Int32)) dL_refused_246 kbp_8 ?_
  refine z_iconst (C _) (pc := 248) (x := (0 : Int32)) dL_refused_248 kic_0 ?_
  refine z_iconst (C _) (pc := 249) (x := (0 : Int32)) dL_refused_249 kic_0 ?_
  refine z_iconst (C _) (pc := 250) (x := (0 : Int32)) dL_refused_250 kic_0 ?_
  refine z_iconst (C _) (pc := 251) (x := (-1 : Int32)) dL_refused_251 kic_m1 ?_
  refine z_iconst (C _) (pc := 252) (x := (0 : Int32)) dL_refused_252 kic_0 ?_
  refine z_iconst (C _) (pc := 253) (x := (0 : Int32)) dL_refused_253 kic_0 ?_
  refine z_s1 t1 (fun t168 => ?_)
  refine z_SW (C _) (pc := 254) (kc' := 721) (ks' := 22273) (As := [va_rf (some w0), .int (8 : Int32), .int (0 : Int32), .int (0 : Int32), .int (0 : Int32), .int (-1 : Int32), .int (0 : Int32), .int (0 : Int32)]) (rest := []) (c_L_edition l hfl v S1 w0 (8 : Int32) (0 : Int32) (0 : Int32) (0 : Int32) (-1 : Int32) (0 : Int32) (0 : Int32)) bw_788 bw_0 (by decide +kernel) (n := 8) (by decide +kernel) bw_786 bw_787 (fit_of rfl) rfl rfl (Nat.le_of_ble_eq_true rfl) dL_refused_254 h (fun r170 S169 h => ?_)
  refine z_s1' t168 (fun t171 => ?_)
  refine z_ldc (C _) (pc := 257) (x := (-2000000001 : Int32)) dL_refused_257 bw_776 ?_
  refine z_icmp_ne (C _) (pc := 259) (tgt := 482) dL_refused_259 (by decide) h (fun h => ?_) (fun h => ?_)
  · refine z_iconst (C _) (pc := 482) (x := (0 : Int32)) dL_refused_482 kic_0 ?_
    exact z_zret3 (C []) (pc := 483) T t171 t2 dL_refused_483 (by decide) (by decide) h
  · refine z_aload_n (C _) (pc := 262) dL_refused_262 0 rfl ?_
    refine z_iconst (C _) (pc := 263) (x := (0 : Int32)) dL_refused_263 kic_0 ?_
    refine z_iconst (C _) (pc := 264) (x := (3 : Int32)) dL_refused_264 kic_3 ?_
    refine z_iconst (C _) (pc := 265) (x := (1 : Int32)) dL_refused_265 kic_1 ?_
    refine z_iconst (C _) (pc := 266) (x := (0 : Int32)) dL_refused_266 kic_0 ?_
    refine z_iconst (C _) (pc := 267) (x := (-1 : Int32)) dL_refused_267 kic_m1 ?_
    refine z_iconst (C _) (pc := 268) (x := (0 : Int32)) dL_refused_268 kic_0 ?_
    refine z_iconst (C _) (pc := 269) (x := (0 : Int32)) dL_refused_269 kic_0 ?_
    refine z_s1 t171 (fun t172 => ?_)
    refine z_SW (C _) (pc := 270) (kc' := 731) (ks' := 22391) (As := [va_rf (some w0), .int (0 : Int32), .int (3 : Int32), .int (1 : Int32), .int (0 : Int32), .int (-1 : Int32), .int (0 : Int32), .int (0 : Int32)]) (rest := []) (c_L_edition l hfl v S169 w0 (0 : Int32) (3 : Int32) (1 : Int32) (0 : Int32) (-1 : Int32) (0 : Int32) (0 : Int32)) bw_788 bw_0 (by decide +kernel) (n := 8) (by decide +kernel) bw_786 bw_787 (fit_of rfl) rfl rfl (Nat.le_of_ble_eq_true rfl) dL_refused_270 h (fun r174 S173 h => ?_)
    refine z_s1' t172 (fun t175 => ?_)
    refine z_ldc (C _) (pc := 273) (x := (-2000000002 : Int32)) dL_refused_273 bw_777 ?_
    refine z_icmp_ne (C _) (pc := 275) (tgt := 482) dL_refused_275 (by decide) h (fun h => ?_) (fun h => ?_)
    · refine z_iconst (C _) (pc := 482) (x := (0 : Int32)) dL_refused_482 kic_0 ?_
      exact z_zret3 (C []) (pc := 483) T t175 t2 dL_refused_483 (by decide) (by decide) h
    · refine z_aload_n (C _) (pc := 278) dL_refused_278 0 rfl ?_
      refine z_bipush (C _) (pc := 279) (x := (6 : Int32)) dL_refused_279 kbp_6 ?_
      refine z_iconst (C _) (pc := 281) (x := (0 : Int32)) dL_refused_281 kic_0 ?_
      refine z_iconst (C _) (pc := 282) (x := (0 : Int32)) dL_refused_282 kic_0 ?_
      refine z_iconst (C _) (pc := 283) (x := (0 : Int32)) dL_refused_283 kic_0 ?_
      refine z_iconst (C _) (pc := 284) (x := (0 : Int32)) dL_refused_284 kic_0 ?_
      refine z_iconst (C _) (pc := 285) (x := (1 : Int32)) dL_refused_285 kic_1 ?_
      refine z_s1 t175 (fun t176 => ?_)
      refine z_SW (C _) (pc := 286) (kc' := 740) (ks' := 22504) (As := [va_rf (some w0), .int (6 : Int32), .int (0 : Int32), .int (0 : Int32), .int (0 : Int32), .int (0 : Int32), .int (1 : Int32)]) (rest := []) (c_L_event l hfl v S173 w0 (6 : Int32) (0 : Int32) (0 : Int32) (0 : Int32) (0 : Int32) (1 : Int32)) bw_834 bw_0 (by decide +kernel) (n := 7) (by decide +kernel) bw_832 bw_833 (fit_of rfl) rfl rfl (Nat.le_of_ble_eq_true rfl) dL_refused_286 h (fun r178 S177 h => ?_)
      refine z_s1' t176 (fun t179 => ?_)
      refine z_ldc (C _) (pc := 289) (x := (-2000000001 : Int32)) dL_refused_289 bw_776 ?_
      refine z_icmp_ne (C _) (pc := 291) (tgt := 482) dL_refused_291 (by decide) h (fun h => ?_) (fun h => ?_)
      · refine z_iconst (C _) (pc := 482) (x := (0 : Int32)) dL_refused_482 kic_0 ?_
        exact z_zret3 (C []) (pc := 483) T t179 t2 dL_refused_483 (by decide) (by decide) h
      · refine z_aload_n (C _) (pc := 294) dL_refused_294 0 rfl ?_
        refine z_iconst (C _) (pc := 295) (x := (0 : Int32)) dL_refused_295 kic_0 ?_
        refine z_iconst (C _) (pc := 296) (x := (0 : Int32)) dL_refused_296 kic_0 ?_
        refine z_iconst (C _) (pc := 297) (x := (4 : Int32)) dL_refused_297 kic_4 ?_
        refine z_sipush (C _) (pc := 298) (x := (9999 : Int32)) dL_refused_298 ksp_9999 ?_
        refine z_iconst (C _) (pc := 301) (x := (0 : Int32)) dL_refused_301 kic_0 ?_
        refine z_iconst (C _) (pc := 302) (x := (1 : Int32)) dL_refused_302 kic_1 ?_
        refine z_s1 t179 (fun t180 => ?_)
        refine z_SW (C _) (pc := 303) (kc' := 749) (ks' := 22617) (As := [va_rf (some w0), .int (0 : Int32), .int (0 : Int32), .int (4 : Int32), .int (9999 : Int32), .int (0 : Int32), .int (1 : Int32)]) (rest := []) (c_L_event l hfl v S177 w0 (0 : Int32) (0 : Int32) (4 : Int32) (9999 : Int32) (0 : Int32) (1 : Int32)) bw_834 bw_0 (by decide +kernel) (n := 7) (by decide +kernel) bw_832 bw_833 (fit_of rfl) rfl rfl (Nat.le_of_ble_eq_true rfl) dL_refused_303 h (fun r182 S181 h => ?_)
        refine z_s1' t180 (fun t183 => ?_)
        refine z_ldc (C _) (pc := 306) (x := (-2000000002 : Int32)) dL_refused_306 bw_777 ?_
        refine z_icmp_ne (C _) (pc := 308) (tgt := 482) dL_refused_308 (by decide) h (fun h => ?_) (fun h => ?_)
        · refine z_iconst (C _) (pc := 482) (x := (0 : Int32)) dL_refused_482 kic_0 ?_
          exact z_zret3 (C []) (pc := 483) T t183 t2 dL_refused_483 (by decide) (by decide) h
        · refine z_aload_n (C _) (pc := 311) dL_refused_311 0 rfl ?_
          refine z_bipush (C _) (pc := 312) (x := (16 : Int32)) dL_refused_312 kbp_16 ?_
          refine z_iconst (C _) (pc := 314) (x := (0 : Int32)) dL_refused_314 kic_0 ?_
          refine z_iconst (C _) (pc := 315) (x := (-1 : Int32)) dL_refused_315 kic_m1 ?_
          refine z_iconst (C _) (pc := 316) (x := (0 : Int32)) dL_refused_316 kic_0 ?_
          refine z_iconst (C _) (pc := 317) (x := (0 : Int32)) dL_refused_317 kic_0 ?_
          refine z_s1 t183 (fun t184 => ?_)
          refine z_SW (C _) (pc := 318) (kc' := 795) (ks' := 24087) (As := [va_rf (some w0), .int (16 : Int32), .int (0 : Int32), .int (-1 : Int32), .int (0 : Int32), .int (0 : Int32)]) (rest := []) (c_L_call l hfl v S181 w0 (16 : Int32) (0 : Int32) (-1 : Int32) (0 : Int32) (0 : Int32)) bw_369 bw_0 (by decide +kernel) (n := 6) (by decide +kernel) bw_367 bw_368 (fit_of rfl) rfl rfl (Nat.le_of_ble_eq_true rfl) dL_refused_318 h (fun r186 S185 h => ?_)
          refine z_s1' t184 (fun t187 => ?_)
          refine z_ldc (C _) (pc := 321) (x := (-2000000002 : Int32)) dL_refused_321 bw_777 ?_
          refine z_icmp_ne (C _) (pc := 323) (tgt := 482) dL_refused_323 (by decide) h (fun h => ?_) (fun h => ?_)
          · refine z_iconst (C _) (pc := 482) (x := (0 : Int32)) dL_refused_482 kic_0 ?_
            exact z_zret3 (C []) (pc := 483) T t187 t2 dL_refused_483 (by decide) (by decide) h
          · refine z_aload_n (C _) (pc := 326) dL_refused_326 0 rfl ?_
            refine z_bipush (C _) (pc := 327) (x := (16 : Int32)) dL_refused_327 kbp_16 ?_
            refine z_iconst (C _) (pc := 329) (x := (0 : Int32)) dL_refused_329 kic_0 ?_
            refine z_iconst (C _) (pc := 330) (x := (0 : Int32)) dL_refused_330 kic_0 ?_
            refine z_sipush (C _) (pc := 331) (x := (256 : Int32)) dL_refused_331 ksp_256 ?_
            refine z_iconst (C _) (pc := 334) (x := (0 : Int32)) dL_refused_334 kic_0 ?_
            refine z_s1 t187 (fun t188 => ?_)
            refine z_SW (C _) (pc := 335) (kc' := 841) (ks' := 25557) (As := [va_rf (some w0), .int (16 : Int32), .int (0 : Int32), .int (0 : Int32), .int (256 : Int32), .int (0 : Int32)]) (rest := []) (c_L_call l hfl v S185 w0 (16 : Int32) (0 : Int32) (0 : Int32) (256 : Int32) (0 : Int32)) bw_369 bw_0 (by decide +kernel) (n := 6) (by decide +kernel) bw_367 bw_368 (fit_of rfl) rfl rfl (Nat.le_of_ble_eq_true rfl) dL_refused_335 h (fun r190 S189 h => ?_)
            refine z_s1' t188 (fun t191 => ?_)
            refine z_ldc (C _) (pc := 338) (x := (-2000000002 : Int32)) dL_refused_338 bw_777 ?_
            refine z_icmp_ne (C _) (pc := 340) (tgt := 482) dL_refused_340 (by decide) h (fun h => ?_) (fun h => ?_)
            · refine z_iconst (C _) (pc := 482) (x := (0 : Int32)) dL_refused_482 kic_0 ?_
              exact z_zret3 (C []) (pc := 483) T t191 t2 dL_refused_483 (by decide) (by decide) h
            · refine z_aload_n (C _) (pc := 343) dL_refused_343 0 rfl ?_
              refine z_bipush (C _) (pc := 344) (x := (17 : Int32)) dL_refused_344 kbp_17 ?_
              refine z_bipush (C _) (pc := 346) (x := (24 : Int32)) dL_refused_346 kbp_24 ?_
              refine z_iconst (C _) (pc := 348) (x := (1 : Int32)) dL_refused_348 kic_1 ?_
              refine z_iconst (C _) (pc := 349) (x := (0 : Int32)) dL_refused_349 kic_0 ?_
              refine z_iconst (C _) (pc := 350) (x := (0 : Int32)) dL_refused_350 kic_0 ?_
              refine z_s1 t191 (fun t192 => ?_)
              refine z_SW (C _) (pc := 351) (kc' := 887) (ks' := 27027) (As := [va_rf (some w0), .int (17 : Int32), .int (24 : Int32), .int (1 : Int32), .int (0 : Int32), .int (0 : Int32)]) (rest := []) (c_L_call l hfl v S189 w0 (17 : Int32) (24 : Int32) (1 : Int32) (0 : Int32) (0 : Int32)) bw_369 bw_0 (by decide +kernel) (n := 6) (by decide +kernel) bw_367 bw_368 (fit_of rfl) rfl rfl (Nat.le_of_ble_eq_true rfl) dL_refused_351 h (fun r194 S193 h => ?_)
              refine z_s1' t192 (fun t195 => ?_)
              refine z_ldc (C _) (pc := 354) (x := (-2000000001 : Int32)) dL_refused_354 bw_776 ?_
              refine z_icmp_ne (C _) (pc := 356) (tgt := 482) dL_refused_356 (by decide) h (fun h => ?_) (fun h => ?_)
              · refine z_iconst (C _) (pc := 482) (x := (0 : Int32)) dL_refused_482 kic_0 ?_
                exact z_zret3 (C []) (pc := 483) T t195 t2 dL_refused_483 (by decide) (by decide) h
              · refine z_aload_n (C _) (pc := 359) dL_refused_359 0 rfl ?_
                refine z_bipush (C _) (pc := 360) (x := (18 : Int32)) dL_refused_360 kbp_18 ?_
                refine z_iconst (C _) (pc := 362) (x := (-1 : Int32)) dL_refused_362 kic_m1 ?_
                refine z_iconst (C _) (pc := 363) (x := (1 : Int32)) dL_refused_363 kic_1 ?_
                refine z_iconst (C _) (pc := 364) (x := (0 : Int32)) dL_refused_364 kic_0 ?_
                refine z_iconst (C _) (pc := 365) (x := (0 : Int32)) dL_refused_365 kic_0 ?_
                refine z_s1 t195 (fun t196 => ?_)
                refine z_SW (C _) (pc := 366) (kc' := 933) (ks' := 28497) (As := [va_rf (some w0), .int (18 : Int32), .int (-1 : Int32), .int (1 : Int32), .int (0 : Int32), .int (0 : Int32)]) (rest := []) (c_L_call l hfl v S193 w0 (18 : Int32) (-1 : Int32) (1 : Int32) (0 : Int32) (0 : Int32)) bw_369 bw_0 (by decide +kernel) (n := 6) (by decide +kernel) bw_367 bw_368 (fit_of rfl) rfl rfl (Nat.le_of_ble_eq_true rfl) dL_refused_366 h (fun r198 S197 h => ?_)
                refine z_s1' t196 (fun t199 => ?_)
                refine z_ldc (C _) (pc := 369) (x := (-2000000001 : Int32)) dL_refused_369 bw_776 ?_
                refine z_icmp_ne (C _) (pc := 371) (tgt := 482) dL_refused_371 (by decide) h (fun h => ?_) (fun h => ?_)
                · refine z_iconst (C _) (pc := 482) (x := (0 : Int32)) dL_refused_482 kic_0 ?_
                  exact z_zret3 (C []) (pc := 483) T t199 t2 dL_refused_483 (by decide) (by decide) h
                · refine z_aload_n (C _) (pc := 374) dL_refused_374 0 rfl ?_
                  refine z_bipush (C _) (pc := 375) (x := (19 : Int32)) dL_refused_375 kbp_19 ?_
                  refine z_bipush (C _) (pc := 377) (x := (6 : Int32)) dL_refused_377 kbp_6 ?_
                  refine z_iconst (C _) (pc := 379) (x := (0 : Int32)) dL_refused_379 kic_0 ?_
                  refine z_iconst (C _) (pc := 380) (x := (0 : Int32)) dL_refused_380 kic_0 ?_
                  refine z_iconst (C _) (pc := 381) (x := (0 : Int32)) dL_refused_381 kic_0 ?_
                  refine z_s1 t199 (fun t200 => ?_)
                  refine z_SW (C _) (pc := 382) (kc' := 979) (ks' := 29967) (As := [va_rf (some w0), .int (19 : Int32), .int (6 : Int32), .int (0 : Int32), .int (0 : Int32), .int (0 : Int32)]) (rest := []) (c_L_call l hfl v S197 w0 (19 : Int32) (6 : Int32) (0 : Int32) (0 : Int32) (0 : Int32)) bw_369 bw_0 (by decide +kernel) (n := 6) (by decide +kernel) bw_367 bw_368 (fit_of rfl) rfl rfl (Nat.le_of_ble_eq_true rfl) dL_refused_382 h (fun r202 S201 h => ?_)
                  refine z_s1' t200 (fun t203 => ?_)
                  refine z_ldc (C _) (pc := 385) (x := (-2000000001 : Int32)) dL_refused_385 bw_776 ?_
                  refine z_icmp_ne (C _) (pc := 387) (tgt := 482) dL_refused_387 (by decide) h (fun h => ?_) (fun h => ?_)
                  · refine z_iconst (C _) (pc := 482) (x := (0 : Int32)) dL_refused_482 kic_0 ?_
                    exact z_zret3 (C []) (pc := 483) T t203 t2 dL_refused_483 (by decide) (by decide) h
                  · refine z_aload_n (C _) (pc := 390) dL_refused_390 0 rfl ?_
                    refine z_bipush (C _) (pc := 391) (x := (20 : Int32)) dL_refused_391 kbp_20 ?_
                    refine z_bipush (C _) (pc := 393) (x := (24 : Int32)) dL_refused_393 kbp_24 ?_
                    refine z_iconst (C _) (pc := 395) (x := (0 : Int32)) dL_refused_395 kic_0 ?_
                    refine z_iconst (C _) (pc := 396) (x := (0 : Int32)) dL_refused_396 kic_0 ?_
                    refine z_iconst (C _) (pc := 397) (x := (0 : Int32)) dL_refused_397 kic_0 ?_
                    refine z_s1 t203 (fun t204 => ?_)
                    refine z_SW (C _) (pc := 398) (kc' := 1025) (ks' := 31437) (As := [va_rf (some w0), .int (20 : Int32), .int (24 : Int32), .int (0 : Int32), .int (0 : Int32), .int (0 : Int32)]) (rest := []) (c_L_call l hfl v S201 w0 (20 : Int32) (24 : Int32) (0 : Int32) (0 : Int32) (0 : Int32)) bw_369 bw_0 (by decide +kernel) (n := 6) (by decide +kernel) bw_367 bw_368 (fit_of rfl) rfl rfl (Nat.le_of_ble_eq_true rfl) dL_refused_398 h (fun r206 S205 h => ?_)
                    refine z_s1' t204 (fun t207 => ?_)
                    refine z_ldc (C _) (pc := 401) (x := (-2000000001 : Int32)) dL_refused_401 bw_776 ?_
                    refine z_icmp_ne (C _) (pc := 403) (tgt := 482) dL_refused_403 (by decide) h (fun h => ?_) (fun h => ?_)
                    · refine z_iconst (C _) (pc := 482) (x := (0 : Int32)) dL_refused_482 kic_0 ?_
                      exact z_zret3 (C []) (pc := 483) T t207 t2 dL_refused_483 (by decide) (by decide) h
                    · refine z_aload_n (C _) (pc := 406) dL_refused_406 0 rfl ?_
                      refine z_bipush (C _) (pc := 407) (x := (21 : Int32)) dL_refused_407 kbp_21 ?_
                      refine z_iconst (C _) (pc := 409) (x := (-1 : Int32)) dL_refused_409 kic_m1 ?_
                      refine z_iconst (C _) (pc := 410) (x := (0 : Int32)) dL_refused_410 kic_0 ?_
                      refine z_iconst (C _) (pc := 411) (x := (0 : Int32)) dL_refused_411 kic_0 ?_
                      refine z_iconst (C _) (pc := 412) (x := (0 : Int32)) dL_refused_412 kic_0 ?_
                      refine z_s1 t207 (fun t208 => ?_)
                      refine z_SW (C _) (pc := 413) (kc' := 1071) (ks' := 32907) (As := [va_rf (some w0), .int (21 : Int32), .int (-1 : Int32), .int (0 : Int32), .int (0 : Int32), .int (0 : Int32)]) (rest := []) (c_L_call l hfl v S205 w0 (21 : Int32) (-1 : Int32) (0 : Int32) (0 : Int32) (0 : Int32)) bw_369 bw_0 (by decide +kernel) (n := 6) (by decide +kernel) bw_367 bw_368 (fit_of rfl) rfl rfl (Nat.le_of_ble_eq_true rfl) dL_refused_413 h (fun r210 S209 h => ?_)
                      refine z_s1' t208 (fun t211 => ?_)
                      refine z_ldc (C _) (pc := 416) (x := (-2000000001 : Int32)) dL_refused_416 bw_776 ?_
                      refine z_icmp_ne (C _) (pc := 418) (tgt := 482) dL_refused_418 (by decide) h (fun h => ?_) (fun h => ?_)
                      · refine z_iconst (C _) (pc := 482) (x := (0 : Int32)) dL_refused_482 kic_0 ?_
                        exact z_zret3 (C []) (pc := 483) T t211 t2 dL_refused_483 (by decide) (by decide) h
                      · refine z_aload_n (C _) (pc := 421) dL_refused_421 0 rfl ?_
                        refine z_bipush (C _) (pc := 422) (x := (22 : Int32)) dL_refused_422 kbp_22 ?_
                        refine z_bipush (C _) (pc := 424) (x := (24 : Int32)) dL_refused_424 kbp_24 ?_
                        refine z_iconst (C _) (pc := 426) (x := (0 : Int32)) dL_refused_426 kic_0 ?_
                        refine z_iconst (C _) (pc := 427) (x := (0 : Int32)) dL_refused_427 kic_0 ?_
                        refine z_iconst (C _) (pc := 428) (x := (0 : Int32)) dL_refused_428 kic_0 ?_
                        refine z_s1 t211 (fun t212 => ?_)
                        refine z_SW (C _) (pc := 429) (kc' := 1117) (ks' := 34377) (As := [va_rf (some w0), .int (22 : Int32), .int (24 : Int32), .int (0 : Int32), .int (0 : Int32), .int (0 : Int32)]) (rest := []) (c_L_call l hfl v S209 w0 (22 : Int32) (24 : Int32) (0 : Int32) (0 : Int32) (0 : Int32)) bw_369 bw_0 (by decide +kernel) (n := 6) (by decide +kernel) bw_367 bw_368 (fit_of rfl) rfl rfl (Nat.le_of_ble_eq_true rfl) dL_refused_429 h (fun r214 S213 h => ?_)
                        refine z_s1' t212 (fun t215 => ?_)
                        refine z_ldc (C _) (pc := 432) (x := (-2000000001 : Int32)) dL_refused_432 bw_776 ?_
                        refine z_icmp_ne (C _) (pc := 434) (tgt := 482) dL_refused_434 (by decide) h (fun h => ?_) (fun h => ?_)
                        · refine z_iconst (C _) (pc := 482) (x := (0 : Int32)) dL_refused_482 kic_0 ?_
                          exact z_zret3 (C []) (pc := 483) T t215 t2 dL_refused_483 (by decide) (by decide) h
                        · refine z_aload_n (C _) (pc := 437) dL_refused_437 0 rfl ?_
                          refine z_bipush (C _) (pc := 438) (x := (23 : Int32)) dL_refused_438 kbp_23 ?_
                          refine z_iconst (C _) (pc := 440) (x := (0 : Int32)) dL_refused_440 kic_0 ?_
                          refine z_bipush (C _) (pc := 441) (x := (8 : Int32)) dL_refused_441 kbp_8 ?_
                          refine z_iconst (C _) (pc := 443) (x := (0 : Int32)) dL_refused_443 kic_0 ?_
                          refine z_iconst (C _) (pc := 444) (x := (0 : Int32)) dL_refused_444 kic_0 ?_
                          refine z_s1 t215 (fun t216 => ?_)
                          refine z_SW (C _) (pc := 445) (kc' := 1163) (ks' := 35847) (As := [va_rf (some w0), .int (23 : Int32), .int (0 : Int32), .int (8 : Int32), .int (0 : Int32), .int (0 : Int32)]) (rest := []) (c_L_call l hfl v S213 w0 (23 : Int32) (0 : Int32) (8 : Int32) (0 : Int32) (0 : Int32)) bw_369 bw_0 (by decide +kernel) (n := 6) (by decide +kernel) bw_367 bw_368 (fit_of rfl) rfl rfl (Nat.le_of_ble_eq_true rfl) dL_refused_445 h (fun r218 S217 h => ?_)
                          refine z_s1' t216 (fun t219 => ?_)
                          refine z_ldc (C _) (pc := 448) (x := (-2000000001 : Int32)) dL_refused_448 bw_776 ?_
                          refine z_icmp_ne (C _) (pc := 450) (tgt := 482) dL_refused_450 (by decide) h (fun h => ?_) (fun h => ?_)
                          · refine z_iconst (C _) (pc := 482) (x := (0 : Int32)) dL_refused_482 kic_0 ?_
                            exact z_zret3 (C []) (pc := 483) T t219 t2 dL_refused_483 (by decide) (by decide) h
                          · refine z_aload_n (C _) (pc := 453) dL_refused_453 0 rfl ?_
                            refine z_bipush (C _) (pc := 454) (x := (24 : Int32)) dL_refused_454 kbp_24 ?_
                            refine z_iconst (C _) (pc := 456) (x := (0 : Int32)) dL_refused_456 kic_0 ?_
                            refine z_iconst (C _) (pc := 457) (x := (-1 : Int32)) dL_refused_457 kic_m1 ?_
                            refine z_iconst (C _) (pc := 458) (x := (0 : Int32)) dL_refused_458 kic_0 ?_
                            refine z_iconst (C _) (pc := 459) (x := (0 : Int32)) dL_refused_459 kic_0 ?_
                            refine z_s1 t219 (fun t220 => ?_)
                            refine z_SW (C _) (pc := 460) (kc' := 1209) (ks' := 37317) (As := [va_rf (some w0), .int (24 : Int32), .int (0 : Int32), .int (-1 : Int32), .int (0 : Int32), .int (0 : Int32)]) (rest := []) (c_L_call l hfl v S217 w0 (24 : Int32) (0 : Int32) (-1 : Int32) (0 : Int32) (0 : Int32)) bw_369 bw_0 (by decide +kernel) (n := 6) (by decide +kernel) bw_367 bw_368 (fit_of rfl) rfl rfl (Nat.le_of_ble_eq_true rfl) dL_refused_460 h (fun r222 S221 h => ?_)
                            refine z_s1' t220 (fun t223 => ?_)
                            refine z_ldc (C _) (pc := 463) (x := (-2000000001 : Int32)) dL_refused_463 bw_776 ?_
                            refine z_icmp_ne (C _) (pc := 465) (tgt := 482) dL_refused_465 (by decide) h (fun h => ?_) (fun h => ?_)
                            · refine z_iconst (C _) (pc := 482) (x := (0 : Int32)) dL_refused_482 kic_0 ?_
                              exact z_zret3 (C []) (pc := 483) T t223 t2 dL_refused_483 (by decide) (by decide) h
                            · refine z_aload_n (C _) (pc := 468) dL_refused_468 0 rfl ?_
                              refine z_aload_n (C _) (pc := 469) dL_refused_469 1 rfl ?_
                              refine z_S3l (C []) (pc := 470) (kc' := 1230) (ks' := 37422) (As := [va_rf (some w0), va_rf (some w1)]) (rest := []) (c_L_all l hfl v S221 S2 S w0 w1) mw_L_all bw_104 bw_105 (fit_of rfl) rfl rfl (Nat.le_of_ble_eq_true rfl) t223 t2 dL_refused_470 h (fun r227 S224 S225 S226 t228 t229 h => ?_)
                              refine z_lload_n (C _) (pc := 473) dL_refused_473 2 rfl ?_
                              refine z_lcmp (C _) (pc := 474) dL_refused_474 ?_
                              refine z_t_if_ne (C _) (pc := 475) dL_refused_475 dL_refused_478 kic_1 dL_refused_479 dL_refused_482 kic_0 ?_
                              exact z_zret3 (C []) (pc := 483) T t228 t229 dL_refused_483 (by decide) (by decide) h
set_option maxHeartbeats 4000000 in
set_option maxRecDepth 100000 in
theorem c_L_refused (l : Launch) (hfl : l.stackTraces = false) (v : Ev) (S1 S2 S : Hp) (x0 : Nat) (x1 : Nat) : C3 l v yL_refused cL_refused 5 (some .boolean) rm_L_refused [va_rf (some x0), va_rf (some x1)] S1 S2 S (Q3i v) (fun Q => wp_L_refused S1 S2 S x0 x1 Q) := by
  refine z_start3 [(0, va_rf (some x0)), (1, va_rf (some x1))] (by decide +kernel) (by simp only [la_i, la_r, la_n]) (cat_cr (cat_cr cat_nil)) (by simp only [ls_i, ls_r, ls_n]; decide) (fun x9 A E Y Q h t1 t2 C T => ?_)
  unfold wp_L_refused at h
  refine z_aload_n (C _) (pc := 0) dL_refused_0 0 rfl ?_
  refine z_aload_n (C _) (pc := 1) dL_refused_1 1 rfl ?_
  refine z_S3l (C []) (pc := 2) (kc' := 21) (ks' := 105) (As := [va_rf (some x0), va_rf (some x1)]) (rest := []) (c_L_all l hfl v S1 S2 S x0 x1) mw_L_all bw_104 bw_105 (fit_of rfl) rfl rfl (Nat.le_of_ble_eq_true rfl) t1 t2 dL_refused_2 h (fun r104 S101 S102 S103 t105 t106 h => ?_)
  refine z_lstore_n (C _) (pc := 5) (lv' := [(2, .long r104), (0, va_rf (some x0)), (1, va_rf (some x1))]) dL_refused_5 (by decide) rfl ?_
  refine z_aload_n (C _) (pc := 6) dL_refused_6 1 rfl ?_
  refine z_iconst (C _) (pc := 7) (x := (0 : Int32)) dL_refused_7 kic_0 ?_
  refine z_iconst (C _) (pc := 8) (x := (4 : Int32)) dL_refused_8 kic_4 ?_
  refine z_iconst (C _) (pc := 9) (x := (5 : Int32)) dL_refused_9 kic_5 ?_
  refine z_iconst (C _) (pc := 10) (x := (1 : Int32)) dL_refused_10 kic_1 ?_
  refine z_iconst (C _) (pc := 11) (x := (0 : Int32)) dL_refused_11 kic_0 ?_
  refine z_s1 t105 (fun t107 => ?_)
  refine z_SW (C _) (pc := 12) (kc' := 67) (ks' := 1575) (As := [va_rf (some x0), .int (0 : Int32), .int (4 : Int32), .int (5 : Int32), .int (1 : Int32), .int (0 : Int32)]) (rest := []) (c_L_call l hfl v S101 x0 (0 : Int32) (4 : Int32) (5 : Int32) (1 : Int32) (0 : Int32)) bw_369 bw_0 (by decide +kernel) (n := 6) (by decide +kernel) bw_367 bw_368 (fit_of rfl) rfl rfl (Nat.le_of_ble_eq_true rfl) dL_refused_12 h (fun r109 S108 h => ?_)
  refine z_s1' t107 (fun t110 => ?_)
  refine z_ldc (C _) (pc := 15) (x := (-2000000002 : Int32)) dL_refused_15 bw_777 ?_
  refine z_icmp_ne (C _) (pc := 17) (tgt := 237) dL_refused_17 (by decide) h (fun h => ?_) (fun h => ?_)
  · refine z_iconst (C _) (pc := 237) (x := (0 : Int32)) dL_refused_237 kic_0 ?_
    refine z_istore (C _) (pc := 238) (lv' := [(4, .int (0 : Int32)), (2, .long r104), (0, va_rf (some x0)), (1, va_rf (some x1))]) dL_refused_238 (by decide) rfl ?_
    refine z_iload (C _) (pc := 240) dL_refused_240 0 rfl ?_
    refine z_if_eq (C _) (pc := 242) (tgt := 482) dL_refused_242 (by decide) (ifT (c := (0 : Int32) = 0) (by decide) h) (fun h => ?_) (fun h => h.elim)
    refine z_iconst (C _) (pc := 482) (x := (0 : Int32)) dL_refused_482 kic_0 ?_
    exact z_zret3 (C []) (pc := 483) T t110 t106 dL_refused_483 (by decide) (by decide) h
  · refine z_aload_n (C _) (pc := 20) dL_refused_20 1 rfl ?_
    refine z_iconst (C _) (pc := 21) (x := (1 : Int32)) dL_refused_21 kic_1 ?_
    refine z_bipush (C _) (pc := 22) (x := (18 : Int32)) dL_refused_22 kbp_18 ?_
    refine z_iconst (C _) (pc := 24) (x := (0 : Int32)) dL_refused_24 kic_0 ?_
    refine z_iconst (C _) (pc := 25) (x := (0 : Int32)) dL_refused_25 kic_0 ?_
    refine z_iconst (C _) (pc := 26) (x := (0 : Int32)) dL_refused_26 kic_0 ?_
    refine z_s1 t110 (fun t111 => ?_)
    refine z_SW (C _) (pc := 27) (kc' := 113) (ks' := 3045) (As := [va_rf (some x0), .int (1 : Int32), .int (18 : Int32), .int (0 : Int32), .int (0 : Int32), .int (0 : Int32)]) (rest := []) (c_L_call l hfl v S108 x0 (1 : Int32) (18 : Int32) (0 : Int32) (0 : Int32) (0 : Int32)) bw_369 bw_0 (by decide +kernel) (n := 6) (by decide +kernel) bw_367 bw_368 (fit_of rfl) rfl rfl (Nat.le_of_ble_eq_true rfl) dL_refused_27 h (fun r113 S112 h => ?_)
    refine z_s1' t111 (fun t114 => ?_)
    refine z_ldc (C _) (pc := 30) (x := (-2000000002 : Int32)) dL_refused_30 bw_777 ?_
    refine z_icmp_ne (C _) (pc := 32) (tgt := 237) dL_refused_32 (by decide) h (fun h => ?_) (fun h => ?_)
    · refine z_iconst (C _) (pc := 237) (x := (0 : Int32)) dL_refused_237 kic_0 ?_
      refine z_istore (C _) (pc := 238) (lv' := [(4, .int (0 : Int32)), (2, .long r104), (0, va_rf (some x0)), (1, va_rf (some x1))]) dL_refused_238 (by decide) rfl ?_
      refine z_iload (C _) (pc := 240) dL_refused_240 0 rfl ?_
      refine z_if_eq (C _) (pc := 242) (tgt := 482) dL_refused_242 (by decide) (ifT (c := (0 : Int32) = 0) (by decide) h) (fun h => ?_) (fun h => h.elim)
      refine z_iconst (C _) (pc := 482) (x := (0 : Int32)) dL_refused_482 kic_0 ?_
      exact z_zret3 (C []) (pc := 483) T t114 t106 dL_refused_483 (by decide) (by decide) h
    · refine z_aload_n (C _) (pc := 35) dL_refused_35 1 rfl ?_
      refine z_iconst (C _) (pc := 36) (x := (2 : Int32)) dL_refused_36 kic_2 ?_
      refine z_bipush (C _) (pc := 37) (x := (24 : Int32)) dL_refused_37 kbp_24 ?_
      refine z_iconst (C _) (pc := 39) (x := (0 : Int32)) dL_refused_39 kic_0 ?_
      refine z_iconst (C _) (pc := 40) (x := (0 : Int32)) dL_refused_40 kic_0 ?_
      refine z_iconst (C _) (pc := 41) (x := (0 : Int32)) dL_refused_41 kic_0 ?_
      refine z_s1 t114 (fun t115 => ?_)
      refine z_SW (C _) (pc := 42) (kc' := 159) (ks' := 4515) (As := [va_rf (some x0), .int (2 : Int32), .int (24 : Int32), .int (0 : Int32), .int (0 : Int32), .int (0 : Int32)]) (rest := []) (c_L_call l hfl v S112 x0 (2 : Int32) (24 : Int32) (0 : Int32) (0 : Int32) (0 : Int32)) bw_369 bw_0 (by decide +kernel) (n := 6) (by decide +kernel) bw_367 bw_368 (fit_of rfl) rfl rfl (Nat.le_of_ble_eq_true rfl) dL_refused_42 h (fun r117 S116 h => ?_)
      refine z_s1' t115 (fun t118 => ?_)
      refine z_ldc (C _) (pc := 45) (x := (-2000000001 : Int32)) dL_refused_45 bw_776 ?_
      refine z_icmp_ne (C _) (pc := 47) (tgt := 237) dL_refused_47 (by decide) h (fun h => ?_) (fun h => ?_)
      · refine z_iconst (C _) (pc := 237) (x := (0 : Int32)) dL_refused_237 kic_0 ?_
        refine z_istore (C _) (pc := 238) (lv' := [(4, .int (0 : Int32)), (2, .long r104), (0, va_rf (some x0)), (1, va_rf (some x1))]) dL_refused_238 (by decide) rfl ?_
        refine z_iload (C _) (pc := 240) dL_refused_240 0 rfl ?_
        refine z_if_eq (C _) (pc := 242) (tgt := 482) dL_refused_242 (by decide) (ifT (c := (0 : Int32) = 0) (by decide) h) (fun h => ?_) (fun h => h.elim)
        refine z_iconst (C _) (pc := 482) (x := (0 : Int32)) dL_refused_482 kic_0 ?_
        exact z_zret3 (C []) (pc := 483) T t118 t106 dL_refused_483 (by decide) (by decide) h
      · refine z_aload_n (C _) (pc := 50) dL_refused_50 1 rfl ?_
        refine z_iconst (C _) (pc := 51) (x := (3 : Int32)) dL_refused_51 kic_3 ?_
        refine z_iconst (C _) (pc := 52) (x := (-1 : Int32)) dL_refused_52 kic_m1 ?_
        refine z_iconst (C _) (pc := 53) (x := (0 : Int32)) dL_refused_53 kic_0 ?_
        refine z_iconst (C _) (pc := 54) (x := (0 : Int32)) dL_refused_54 kic_0 ?_
        refine z_iconst (C _) (pc := 55) (x := (0 : Int32)) dL_refused_55 kic_0 ?_
        refine z_s1 t118 (fun t119 => ?_)
        refine z_SW (C _) (pc := 56) (kc' := 205) (ks' := 5985) (As := [va_rf (some x0), .int (3 : Int32), .int (-1 : Int32), .int (0 : Int32), .int (0 : Int32), .int (0 : Int32)]) (rest := []) (c_L_call l hfl v S116 x0 (3 : Int32) (-1 : Int32) (0 : Int32) (0 : Int32) (0 : Int32)) bw_369 bw_0 (by decide +kernel) (n := 6) (by decide +kernel) bw_367 bw_368 (fit_of rfl) rfl rfl (Nat.le_of_ble_eq_true rfl) dL_refused_56 h (fun r121 S120 h => ?_)
        refine z_s1' t119 (fun t122 => ?_)
        refine z_ldc (C _) (pc := 59) (x := (-2000000001 : Int32)) dL_refused_59 bw_776 ?_
        refine z_icmp_ne (C _) (pc := 61) (tgt := 237) dL_refused_61 (by decide) h (fun h => ?_) (fun h => ?_)
        · refine z_iconst (C _) (pc := 237) (x := (0 : Int32)) dL_refused_237 kic_0 ?_
          refine z_istore (C _) (pc := 238) (lv' := [(4, .int (0 : Int32)), (2, .long r104), (0, va_rf (some x0)), (1, va_rf (some x1))]) dL_refused_238 (by decide) rfl ?_
          refine z_iload (C _) (pc := 240) dL_refused_240 0 rfl ?_
          refine z_if_eq (C _) (pc := 242) (tgt := 482) dL_refused_242 (by decide) (ifT (c := (0 : Int32) = 0) (by decide) h) (fun h => ?_) (fun h => h.elim)
          refine z_iconst (C _) (pc := 482) (x := (0 : Int32)) dL_refused_482 kic_0 ?_
          exact z_zret3 (C []) (pc := 483) T t122 t106 dL_refused_483 (by decide) (by decide) h
        · refine z_aload_n (C _) (pc := 64) dL_refused_64 1 rfl ?_
          refine z_iconst (C _) (pc := 65) (x := (4 : Int32)) dL_refused_65 kic_4 ?_
          refine z_bipush (C _) (pc := 66) (x := (24 : Int32)) dL_refused_66 kbp_24 ?_
          refine z_iconst (C _) (pc := 68) (x := (0 : Int32)) dL_refused_68 kic_0 ?_
          refine z_iconst (C _) (pc := 69) (x := (0 : Int32)) dL_refused_69 kic_0 ?_
          refine z_iconst (C _) (pc := 70) (x := (0 : Int32)) dL_refused_70 kic_0 ?_
          refine z_s1 t122 (fun t123 => ?_)
          refine z_SW (C _) (pc := 71) (kc' := 251) (ks' := 7455) (As := [va_rf (some x0), .int (4 : Int32), .int (24 : Int32), .int (0 : Int32), .int (0 : Int32), .int (0 : Int32)]) (rest := []) (c_L_call l hfl v S120 x0 (4 : Int32) (24 : Int32) (0 : Int32) (0 : Int32) (0 : Int32)) bw_369 bw_0 (by decide +kernel) (n := 6) (by decide +kernel) bw_367 bw_368 (fit_of rfl) rfl rfl (Nat.le_of_ble_eq_true rfl) dL_refused_71 h (fun r125 S124 h => ?_)
          refine z_s1' t123 (fun t126 => ?_)
          refine z_ldc (C _) (pc := 74) (x := (-2000000001 : Int32)) dL_refused_74 bw_776 ?_
          refine z_icmp_ne (C _) (pc := 76) (tgt := 237) dL_refused_76 (by decide) h (fun h => ?_) (fun h => ?_)
          · refine z_iconst (C _) (pc := 237) (x := (0 : Int32)) dL_refused_237 kic_0 ?_
            refine z_istore (C _) (pc := 238) (lv' := [(4, .int (0 : Int32)), (2, .long r104), (0, va_rf (some x0)), (1, va_rf (some x1))]) dL_refused_238 (by decide) rfl ?_
            refine z_iload (C _) (pc := 240) dL_refused_240 0 rfl ?_
            refine z_if_eq (C _) (pc := 242) (tgt := 482) dL_refused_242 (by decide) (ifT (c := (0 : Int32) = 0) (by decide) h) (fun h => ?_) (fun h => h.elim)
            refine z_iconst (C _) (pc := 482) (x := (0 : Int32)) dL_refused_482 kic_0 ?_
            exact z_zret3 (C []) (pc := 483) T t126 t106 dL_refused_483 (by decide) (by decide) h
          · refine z_aload_n (C _) (pc := 79) dL_refused_79 1 rfl ?_
            refine z_iconst (C _) (pc := 80) (x := (5 : Int32)) dL_refused_80 kic_5 ?_
            refine z_bipush (C _) (pc := 81) (x := (6 : Int32)) dL_refused_81 kbp_6 ?_
            refine z_iconst (C _) (pc := 83) (x := (0 : Int32)) dL_refused_83 kic_0 ?_
            refine z_iconst (C _) (pc := 84) (x := (0 : Int32)) dL_refused_84 kic_0 ?_
            refine z_iconst (C _) (pc := 85) (x := (0 : Int32)) dL_refused_85 kic_0 ?_
            refine z_s1 t126 (fun t127 => ?_)
            refine z_SW (C _) (pc := 86) (kc' := 297) (ks' := 8925) (As := [va_rf (some x0), .int (5 : Int32), .int (6 : Int32), .int (0 : Int32), .int (0 : Int32), .int (0 : Int32)]) (rest := []) (c_L_call l hfl v S124 x0 (5 : Int32) (6 : Int32) (0 : Int32) (0 : Int32) (0 : Int32)) bw_369 bw_0 (by decide +kernel) (n := 6) (by decide +kernel) bw_367 bw_368 (fit_of rfl) rfl rfl (Nat.le_of_ble_eq_true rfl) dL_refused_86 h (fun r129 S128 h => ?_)
            refine z_s1' t127 (fun t130 => ?_)
            refine z_ldc (C _) (pc := 89) (x := (-2000000001 : Int32)) dL_refused_89 bw_776 ?_
            refine z_icmp_ne (C _) (pc := 91) (tgt := 237) dL_refused_91 (by decide) h (fun h => ?_) (fun h => ?_)
            · refine z_iconst (C _) (pc := 237) (x := (0 : Int32)) dL_refused_237 kic_0 ?_
              refine z_istore (C _) (pc := 238) (lv' := [(4, .int (0 : Int32)), (2, .long r104), (0, va_rf (some x0)), (1, va_rf (some x1))]) dL_refused_238 (by decide) rfl ?_
              refine z_iload (C _) (pc := 240) dL_refused_240 0 rfl ?_
              refine z_if_eq (C _) (pc := 242) (tgt := 482) dL_refused_242 (by decide) (ifT (c := (0 : Int32) = 0) (by decide) h) (fun h => ?_) (fun h => h.elim)
              refine z_iconst (C _) (pc := 482) (x := (0 : Int32)) dL_refused_482 kic_0 ?_
              exact z_zret3 (C []) (pc := 483) T t130 t106 dL_refused_483 (by decide) (by decide) h
            · refine z_aload_n (C _) (pc := 94) dL_refused_94 1 rfl ?_
              refine z_iconst (C _) (pc := 95) (x := (5 : Int32)) dL_refused_95 kic_5 ?_
              refine z_iconst (C _) (pc := 96) (x := (0 : Int32)) dL_refused_96 kic_0 ?_
              refine z_iconst (C _) (pc := 97) (x := (-1 : Int32)) dL_refused_97 kic_m1 ?_
              refine z_iconst (C _) (pc := 98) (x := (0 : Int32)) dL_refused_98 kic_0 ?_
              refine z_iconst (C _) (pc := 99) (x := (0 : Int32)) dL_refused_99 kic_0 ?_
              refine z_s1 t130 (fun t131 => ?_)
              refine z_SW (C _) (pc := 100) (kc' := 343) (ks' := 10395) (As := [va_rf (some x0), .int (5 : Int32), .int (0 : Int32), .int (-1 : Int32), .int (0 : Int32), .int (0 : Int32)]) (rest := []) (c_L_call l hfl v S128 x0 (5 : Int32) (0 : Int32) (-1 : Int32) (0 : Int32) (0 : Int32)) bw_369 bw_0 (by decide +kernel) (n := 6) (by decide +kernel) bw_367 bw_368 (fit_of rfl) rfl rfl (Nat.le_of_ble_eq_true rfl) dL_refused_100 h (fun r133 S132 h => ?_)
              refine z_s1' t131 (fun t134 => ?_)
              refine z_ldc (C _) (pc := 103) (x := (-2000000002 : Int32)) dL_refused_103 bw_777 ?_
              refine z_icmp_ne (C _) (pc := 105) (tgt := 237) dL_refused_105 (by decide) h (fun h => ?_) (fun h => ?_)
              · refine z_iconst (C _) (pc := 237) (x := (0 : Int32)) dL_refused_237 kic_0 ?_
                refine z_istore (C _) (pc := 238) (lv' := [(4, .int (0 : Int32)), (2, .long r104), (0, va_rf (some x0)), (1, va_rf (some x1))]) dL_refused_238 (by decide) rfl ?_
                refine z_iload (C _) (pc := 240) dL_refused_240 0 rfl ?_
                refine z_if_eq (C _) (pc := 242) (tgt := 482) dL_refused_242 (by decide) (ifT (c := (0 : Int32) = 0) (by decide) h) (fun h => ?_) (fun h => h.elim)
                refine z_iconst (C _) (pc := 482) (x := (0 : Int32)) dL_refused_482 kic_0 ?_
                exact z_zret3 (C []) (pc := 483) T t134 t106 dL_refused_483 (by decide) (by decide) h
              · refine z_aload_n (C _) (pc := 108) dL_refused_108 1 rfl ?_
                refine z_bipush (C _) (pc := 109) (x := (6 : Int32)) dL_refused_109 kbp_6 ?_
                refine z_iconst (C _) (pc := 111) (x := (0 : Int32)) dL_refused_111 kic_0 ?_
                refine z_iconst (C _) (pc := 112) (x := (0 : Int32)) dL_refused_112 kic_0 ?_
                refine z_iconst (C _) (pc := 113) (x := (0 : Int32)) dL_refused_113 kic_0 ?_
                refine z_iconst (C _) (pc := 114) (x := (0 : Int32)) dL_refused_114 kic_0 ?_
                refine z_s1 t134 (fun t135 => ?_)
                refine z_SW (C _) (pc := 115) (kc' := 389) (ks' := 11865) (As := [va_rf (some x0), .int (6 : Int32), .int (0 : Int32), .int (0 : Int32), .int (0 : Int32), .int (0 : Int32)]) (rest := []) (c_L_call l hfl v S132 x0 (6 : Int32) (0 : Int32) (0 : Int32) (0 : Int32) (0 : Int32)) bw_369 bw_0 (by decide +kernel) (n := 6) (by decide +kernel) bw_367 bw_368 (fit_of rfl) rfl rfl (Nat.le_of_ble_eq_true rfl) dL_refused_115 h (fun r137 S136 h => ?_)
                refine z_s1' t135 (fun t138 => ?_)
                refine z_ldc (C _) (pc := 118) (x := (-2000000002 : Int32)) dL_refused_118 bw_777 ?_
                refine z_icmp_ne (C _) (pc := 120) (tgt := 237) dL_refused_120 (by decide) h (fun h => ?_) (fun h => ?_)
                · refine z_iconst (C _) (pc := 237) (x := (0 : Int32)) dL_refused_237 kic_0 ?_
                  refine z_istore (C _) (pc := 238) (lv' := [(4, .int (0 : Int32)), (2, .long r104), (0, va_rf (some x0)), (1, va_rf (some x1))]) dL_refused_238 (by decide) rfl ?_
                  refine z_iload (C _) (pc := 240) dL_refused_240 0 rfl ?_
                  refine z_if_eq (C _) (pc := 242) (tgt := 482) dL_refused_242 (by decide) (ifT (c := (0 : Int32) = 0) (by decide) h) (fun h => ?_) (fun h => h.elim)
                  refine z_iconst (C _) (pc := 482) (x := (0 : Int32)) dL_refused_482 kic_0 ?_
                  exact z_zret3 (C []) (pc := 483) T t138 t106 dL_refused_483 (by decide) (by decide) h
                · refine z_aload_n (C _) (pc := 123) dL_refused_123 1 rfl ?_
                  refine z_bipush (C _) (pc := 124) (x := (9 : Int32)) dL_refused_124 kbp_9 ?_
                  refine z_bipush (C _) (pc := 126) (x := (8 : Int32)) dL_refused_126 kbp_8 ?_
                  refine z_iconst (C _) (pc := 128) (x := (0 : Int32)) dL_refused_128 kic_0 ?_
                  refine z_iconst (C _) (pc := 129) (x := (0 : Int32)) dL_refused_129 kic_0 ?_
                  refine z_iconst (C _) (pc := 130) (x := (0 : Int32)) dL_refused_130 kic_0 ?_
                  refine z_s1 t138 (fun t139 => ?_)
                  refine z_SW (C _) (pc := 131) (kc' := 435) (ks' := 13335) (As := [va_rf (some x0), .int (9 : Int32), .int (8 : Int32), .int (0 : Int32), .int (0 : Int32), .int (0 : Int32)]) (rest := []) (c_L_call l hfl v S136 x0 (9 : Int32) (8 : Int32) (0 : Int32) (0 : Int32) (0 : Int32)) bw_369 bw_0 (by decide +kernel) (n := 6) (by decide +kernel) bw_367 bw_368 (fit_of rfl) rfl rfl (Nat.le_of_ble_eq_true rfl) dL_refused_131 h (fun r141 S140 h => ?_)
                  refine z_s1' t139 (fun t142 => ?_)
                  refine z_ldc (C _) (pc := 134) (x := (-2000000001 : Int32)) dL_refused_134 bw_776 ?_
                  refine z_icmp_ne (C _) (pc := 136) (tgt := 237) dL_refused_136 (by decide) h (fun h => ?_) (fun h => ?_)
                  · refine z_iconst (C _) (pc := 237) (x := (0 : Int32)) dL_refused_237 kic_0 ?_
                    refine z_istore (C _) (pc := 238) (lv' := [(4, .int (0 : Int32)), (2, .long r104), (0, va_rf (some x0)), (1, va_rf (some x1))]) dL_refused_238 (by decide) rfl ?_
                    refine z_iload (C _) (pc := 240) dL_refused_240 0 rfl ?_
                    refine z_if_eq (C _) (pc := 242) (tgt := 482) dL_refused_242 (by decide) (ifT (c := (0 : Int32) = 0) (by decide) h) (fun h => ?_) (fun h => h.elim)
                    refine z_iconst (C _) (pc := 482) (x := (0 : Int32)) dL_refused_482 kic_0 ?_
                    exact z_zret3 (C []) (pc := 483) T t142 t106 dL_refused_483 (by decide) (by decide) h
                  · refine z_aload_n (C _) (pc := 139) dL_refused_139 1 rfl ?_
                    refine z_bipush (C _) (pc := 140) (x := (10 : Int32)) dL_refused_140 kbp_10 ?_
                    refine z_iconst (C _) (pc := 142) (x := (-1 : Int32)) dL_refused_142 kic_m1 ?_
                    refine z_iconst (C _) (pc := 143) (x := (1 : Int32)) dL_refused_143 kic_1 ?_
                    refine z_iconst (C _) (pc := 144) (x := (0 : Int32)) dL_refused_144 kic_0 ?_
                    refine z_iconst (C _) (pc := 145) (x := (0 : Int32)) dL_refused_145 kic_0 ?_
                    refine z_s1 t142 (fun t143 => ?_)
                    refine z_SW (C _) (pc := 146) (kc' := 481) (ks' := 14805) (As := [va_rf (some x0), .int (10 : Int32), .int (-1 : Int32), .int (1 : Int32), .int (0 : Int32), .int (0 : Int32)]) (rest := []) (c_L_call l hfl v S140 x0 (10 : Int32) (-1 : Int32) (1 : Int32) (0 : Int32) (0 : Int32)) bw_369 bw_0 (by decide +kernel) (n := 6) (by decide +kernel) bw_367 bw_368 (fit_of rfl) rfl rfl (Nat.le_of_ble_eq_true rfl) dL_refused_146 h (fun r145 S144 h => ?_)
                    refine z_s1' t143 (fun t146 => ?_)
                    refine z_ldc (C _) (pc := 149) (x := (-2000000001 : Int32)) dL_refused_149 bw_776 ?_
                    refine z_icmp_ne (C _) (pc := 151) (tgt := 237) dL_refused_151 (by decide) h (fun h => ?_) (fun h => ?_)
                    · refine z_iconst (C _) (pc := 237) (x := (0 : Int32)) dL_refused_237 kic_0 ?_
                      refine z_istore (C _) (pc := 238) (lv' := [(4, .int (0 : Int32)), (2, .long r104), (0, va_rf (some x0)), (1, va_rf (some x1))]) dL_refused_238 (by decide) rfl ?_
                      refine z_iload (C _) (pc := 240) dL_refused_240 0 rfl ?_
                      refine z_if_eq (C _) (pc := 242) (tgt := 482) dL_refused_242 (by decide) (ifT (c := (0 : Int32) = 0) (by decide) h) (fun h => ?_) (fun h => h.elim)
                      refine z_iconst (C _) (pc := 482) (x := (0 : Int32)) dL_refused_482 kic_0 ?_
                      exact z_zret3 (C []) (pc := 483) T t146 t106 dL_refused_483 (by decide) (by decide) h
                    · refine z_aload_n (C _) (pc := 154) dL_refused_154 1 rfl ?_
                      refine z_bipush (C _) (pc := 155) (x := (11 : Int32)) dL_refused_155 kbp_11 ?_
                      refine z_bipush (C _) (pc := 157) (x := (8 : Int32)) dL_refused_157 kbp_8 ?_
                      refine z_iconst (C _) (pc := 159) (x := (0 : Int32)) dL_refused_159 kic_0 ?_
                      refine z_iconst (C _) (pc := 160) (x := (0 : Int32)) dL_refused_160 kic_0 ?_
                      refine z_iconst (C _) (pc := 161) (x := (0 : Int32)) dL_refused_161 kic_0 ?_
                      refine z_s1 t146 (fun t147 => ?_)
                      refine z_SW (C _) (pc := 162) (kc' := 527) (ks' := 16275) (As := [va_rf (some x0), .int (11 : Int32), .int (8 : Int32), .int (0 : Int32), .int (0 : Int32), .int (0 : Int32)]) (rest := []) (c_L_call l hfl v S144 x0 (11 : Int32) (8 : Int32) (0 : Int32) (0 : Int32) (0 : Int32)) bw_369 bw_0 (by decide +kernel) (n := 6) (by decide +kernel) bw_367 bw_368 (fit_of rfl) rfl rfl (Nat.le_of_ble_eq_true rfl) dL_refused_162 h (fun r149 S148 h => ?_)
                      refine z_s1' t147 (fun t150 => ?_)
                      refine z_ldc (C _) (pc := 165) (x := (-2000000001 : Int32)) dL_refused_165 bw_776 ?_
                      refine z_icmp_ne (C _) (pc := 167) (tgt := 237) dL_refused_167 (by decide) h (fun h => ?_) (fun h => ?_)
                      · refine z_iconst (C _) (pc := 237) (x := (0 : Int32)) dL_refused_237 kic_0 ?_
                        refine z_istore (C _) (pc := 238) (lv' := [(4, .int (0 : Int32)), (2, .long r104), (0, va_rf (some x0)), (1, va_rf (some x1))]) dL_refused_238 (by decide) rfl ?_
                        refine z_iload (C _) (pc := 240) dL_refused_240 0 rfl ?_
                        refine z_if_eq (C _) (pc := 242) (tgt := 482) dL_refused_242 (by decide) (ifT (c := (0 : Int32) = 0) (by decide) h) (fun h => ?_) (fun h => h.elim)
                        refine z_iconst (C _) (pc := 482) (x := (0 : Int32)) dL_refused_482 kic_0 ?_
                        exact z_zret3 (C []) (pc := 483) T t150 t106 dL_refused_483 (by decide) (by decide) h
                      · refine z_aload_n (C _) (pc := 170) dL_refused_170 1 rfl ?_
                        refine z_bipush (C _) (pc := 171) (x := (12 : Int32)) dL_refused_171 kbp_12 ?_
                        refine z_bipush (C _) (pc := 173) (x := (24 : Int32)) dL_refused_173 kbp_24 ?_
                        refine z_iconst (C _) (pc := 175) (x := (0 : Int32)) dL_refused_175 kic_0 ?_
                        refine z_iconst (C _) (pc := 176) (x := (0 : Int32)) dL_refused_176 kic_0 ?_
                        refine z_iconst (C _) (pc := 177) (x := (0 : Int32)) dL_refused_177 kic_0 ?_
                        refine z_s1 t150 (fun t151 => ?_)
                        refine z_SW (C _) (pc := 178) (kc' := 573) (ks' := 17745) (As := [va_rf (some x0), .int (12 : Int32), .int (24 : Int32), .int (0 : Int32), .int (0 : Int32), .int (0 : Int32)]) (rest := []) (c_L_call l hfl v S148 x0 (12 : Int32) (24 : Int32) (0 : Int32) (0 : Int32) (0 : Int32)) bw_369 bw_0 (by decide +kernel) (n := 6) (by decide +kernel) bw_367 bw_368 (fit_of rfl) rfl rfl (Nat.le_of_ble_eq_true rfl) dL_refused_178 h (fun r153 S152 h => ?_)
                        refine z_s1' t151 (fun t154 => ?_)
                        refine z_ldc (C _) (pc := 181) (x := (-2000000001 : Int32)) dL_refused_181 bw_776 ?_
                        refine z_icmp_ne (C _) (pc := 183) (tgt := 237) dL_refused_183 (by decide) h (fun h => ?_) (fun h => ?_)
                        · refine z_iconst (C _) (pc := 237) (x := (0 : Int32)) dL_refused_237 kic_0 ?_
                          refine z_istore (C _) (pc := 238) (lv' := [(4, .int (0 : Int32)), (2, .long r104), (0, va_rf (some x0)), (1, va_rf (some x1))]) dL_refused_238 (by decide) rfl ?_
                          refine z_iload (C _) (pc := 240) dL_refused_240 0 rfl ?_
                          refine z_if_eq (C _) (pc := 242) (tgt := 482) dL_refused_242 (by decide) (ifT (c := (0 : Int32) = 0) (by decide) h) (fun h => ?_) (fun h => h.elim)
                          refine z_iconst (C _) (pc := 482) (x := (0 : Int32)) dL_refused_482 kic_0 ?_
                          exact z_zret3 (C []) (pc := 483) T t154 t106 dL_refused_483 (by decide) (by decide) h
                        · refine z_aload_n (C _) (pc := 186) dL_refused_186 1 rfl ?_
                          refine z_bipush (C _) (pc := 187) (x := (13 : Int32)) dL_refused_187 kbp_13 ?_
                          refine z_bipush (C _) (pc := 189) (x := (24 : Int32)) dL_refused_189 kbp_24 ?_
                          refine z_iconst (C _) (pc := 191) (x := (0 : Int32)) dL_refused_191 kic_0 ?_
                          refine z_iconst (C _) (pc := 192) (x := (0 : Int32)) dL_refused_192 kic_0 ?_
                          refine z_iconst (C _) (pc := 193) (x := (0 : Int32)) dL_refused_193 kic_0 ?_
                          refine z_s1 t154 (fun t155 => ?_)
                          refine z_SW (C _) (pc := 194) (kc' := 619) (ks' := 19215) (As := [va_rf (some x0), .int (13 : Int32), .int (24 : Int32), .int (0 : Int32), .int (0 : Int32), .int (0 : Int32)]) (rest := []) (c_L_call l hfl v S152 x0 (13 : Int32) (24 : Int32) (0 : Int32) (0 : Int32) (0 : Int32)) bw_369 bw_0 (by decide +kernel) (n := 6) (by decide +kernel) bw_367 bw_368 (fit_of rfl) rfl rfl (Nat.le_of_ble_eq_true rfl) dL_refused_194 h (fun r157 S156 h => ?_)
                          refine z_s1' t155 (fun t158 => ?_)
                          refine z_ldc (C _) (pc := 197) (x := (-2000000001 : Int32)) dL_refused_197 bw_776 ?_
                          refine z_icmp_ne (C _) (pc := 199) (tgt := 237) dL_refused_199 (by decide) h (fun h => ?_) (fun h => ?_)
                          · refine z_iconst (C _) (pc := 237) (x := (0 : Int32)) dL_refused_237 kic_0 ?_
                            refine z_istore (C _) (pc := 238) (lv' := [(4, .int (0 : Int32)), (2, .long r104), (0, va_rf (some x0)), (1, va_rf (some x1))]) dL_refused_238 (by decide) rfl ?_
                            refine z_iload (C _) (pc := 240) dL_refused_240 0 rfl ?_
                            refine z_if_eq (C _) (pc := 242) (tgt := 482) dL_refused_242 (by decide) (ifT (c := (0 : Int32) = 0) (by decide) h) (fun h => ?_) (fun h => h.elim)
                            refine z_iconst (C _) (pc := 482) (x := (0 : Int32)) dL_refused_482 kic_0 ?_
                            exact z_zret3 (C []) (pc := 483) T t158 t106 dL_refused_483 (by decide) (by decide) h
                          · refine z_aload_n (C _) (pc := 202) dL_refused_202 1 rfl ?_
                            refine z_bipush (C _) (pc := 203) (x := (14 : Int32)) dL_refused_203 kbp_14 ?_
                            refine z_bipush (C _) (pc := 205) (x := (20 : Int32)) dL_refused_205 kbp_20 ?_
                            refine z_iconst (C _) (pc := 207) (x := (0 : Int32)) dL_refused_207 kic_0 ?_
                            refine z_iconst (C _) (pc := 208) (x := (1 : Int32)) dL_refused_208 kic_1 ?_
                            refine z_iconst (C _) (pc := 209) (x := (0 : Int32)) dL_refused_209 kic_0 ?_
                            refine z_s1 t158 (fun t159 => ?_)
                            refine z_SW (C _) (pc := 210) (kc' := 665) (ks' := 20685) (As := [va_rf (some x0), .int (14 : Int32), .int (20 : Int32), .int (0 : Int32), .int (1 : Int32), .int (0 : Int32)]) (rest := []) (c_L_call l hfl v S156 x0 (14 : Int32) (20 : Int32) (0 : Int32) (1 : Int32) (0 : Int32)) bw_369 bw_0 (by decide +kernel) (n := 6) (by decide +kernel) bw_367 bw_368 (fit_of rfl) rfl rfl (Nat.le_of_ble_eq_true rfl) dL_refused_210 h (fun r161 S160 h => ?_)
                            refine z_s1' t159 (fun t162 => ?_)
                            refine z_ldc (C _) (pc := 213) (x := (-2000000001 : Int32)) dL_refused_213 bw_776 ?_
                            refine z_icmp_ne (C _) (pc := 215) (tgt := 237) dL_refused_215 (by decide) h (fun h => ?_) (fun h => ?_)
                            · refine z_iconst (C _) (pc := 237) (x := (0 : Int32)) dL_refused_237 kic_0 ?_
                              refine z_istore (C _) (pc := 238) (lv' := [(4, .int (0 : Int32)), (2, .long r104), (0, va_rf (some x0)), (1, va_rf (some x1))]) dL_refused_238 (by decide) rfl ?_
                              refine z_iload (C _) (pc := 240) dL_refused_240 0 rfl ?_
                              refine z_if_eq (C _) (pc := 242) (tgt := 482) dL_refused_242 (by decide) (ifT (c := (0 : Int32) = 0) (by decide) h) (fun h => ?_) (fun h => h.elim)
                              refine z_iconst (C _) (pc := 482) (x := (0 : Int32)) dL_refused_482 kic_0 ?_
                              exact z_zret3 (C []) (pc := 483) T t162 t106 dL_refused_483 (by decide) (by decide) h
                            · refine z_aload_n (C _) (pc := 218) dL_refused_218 1 rfl ?_
                              refine z_bipush (C _) (pc := 219) (x := (15 : Int32)) dL_refused_219 kbp_15 ?_
                              refine z_iconst (C _) (pc := 221) (x := (-1 : Int32)) dL_refused_221 kic_m1 ?_
                              refine z_iconst (C _) (pc := 222) (x := (0 : Int32)) dL_refused_222 kic_0 ?_
                              refine z_iconst (C _) (pc := 223) (x := (0 : Int32)) dL_refused_223 kic_0 ?_
                              refine z_iconst (C _) (pc := 224) (x := (0 : Int32)) dL_refused_224 kic_0 ?_
                              refine z_s1 t162 (fun t163 => ?_)
                              refine z_SW (C _) (pc := 225) (kc' := 711) (ks' := 22155) (As := [va_rf (some x0), .int (15 : Int32), .int (-1 : Int32), .int (0 : Int32), .int (0 : Int32), .int (0 : Int32)]) (rest := []) (c_L_call l hfl v S160 x0 (15 : Int32) (-1 : Int32) (0 : Int32) (0 : Int32) (0 : Int32)) bw_369 bw_0 (by decide +kernel) (n := 6) (by decide +kernel) bw_367 bw_368 (fit_of rfl) rfl rfl (Nat.le_of_ble_eq_true rfl) dL_refused_225 h (fun r165 S164 h => ?_)
                              refine z_s1' t163 (fun t166 => ?_)
                              refine z_ldc (C _) (pc := 228) (x := (-2000000001 : Int32)) dL_refused_228 bw_776 ?_
                              refine z_t_icmp_ne (C _) (pc := 230) dL_refused_230 dL_refused_233 kic_1 dL_refused_234 dL_refused_237 kic_0 ?_
                              refine z_nI h (fun y167 h => ?_)
                              refine z_istore (C _) (pc := 238) (lv' := [(4, .int y167), (2, .long r104), (0, va_rf (some x0)), (1, va_rf (some x1))]) dL_refused_238 (by decide) rfl ?_
                              refine z_iload (C _) (pc := 240) dL_refused_240 0 rfl ?_
                              refine z_if_eq (C _) (pc := 242) (tgt := 482) dL_refused_242 (by decide) h (fun h => ?_) (fun h => ?_)
                              · refine z_iconst (C _) (pc := 482) (x := (0 : Int32)) dL_refused_482 kic_0 ?_
                                exact z_zret3 (C []) (pc := 483) T t166 t106 dL_refused_483 (by decide) (by decide) h
                              · refine z_sub [2, 3, 1, 0] (lv' := [(0, va_rf (some x0)), (1, va_rf (some x1)), (2, .long r104), (4, .int y167)]) rfl ?_
                                exact k_L_refused_B245 l hfl v C Q T S164 S102 S103 t166 t106 x0 x1 r104 y167 h
