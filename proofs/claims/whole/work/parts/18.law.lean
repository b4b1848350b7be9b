/-- the law's end -/
def LE (b : Nat) (A : Nat → Prop) (E : State → Prop) (x9 : P9) : Prop := match x9 with
  | (_, _, s, _, args, below, _, _) => args = #[Value.ref b] ∧ E = lw_Z below #[Value.ref b] s ∧ ∀ q, A q → s.heap.size ≤ q
theorem z_lawret {l : Launch} {v : Ev} {nm9 : String} {x9 : P9} {X : va_W} {A : Nat → Prop} {E : State → Prop} {kc ks b : Nat} {S : Hp} {pc : Nat} {lv : List (Nat × Value)} (C : Cx l v RL cL_law 7 (some .boolean) nm9 (x9, X, A, E)) (hE : LE b A E x9) (hd : decode cL_law pc = .ok (.ireturn, 1)) (hk : kc ≤ room_1.cells) (hk2 : ks ≤ room_1.slots) : ZZ l v 7 room_1 (x9, X, A, E) kc ks S pc lv [.int (1 : Int32)] := by
  obtain ⟨p, e, s, m, args, below, meth, c⟩ := x9
  obtain ⟨hx, hb, hr, hml, hown, hts, hK, hlocks, hA, hW, -⟩ := C
  intro H locs ls cells slots hP hD hS hc hs hl hT
  obtain ⟨rfl, rfl, hAq⟩ := hE
  refine va_forget (fun q hq => hAq _ (hS.2.2 q hq)) ?_
  refine W.widen (Nat.le_trans hc hk) (Nat.le_trans hs hk2) ?_
  exact lw_ret hx hb hr hlocks hd
def wp_law_C0 (x m : Nat) (xs : Nat → Int32) (L : Nat) (K : Hp → Hp → (Nat → Int64) → Int32 → Prop) (S1 S2 : Hp) (f : Nat → Int64) (w4 : Int32) : Prop := vp_in (w4 + (1 : Int32)) L ∧ (vp_in (w4 + (2 : Int32)) L ∧ (vp_in (w4 + (3 : Int32)) L ∧ (wp_L_troop S1 x (xs (w4 + (1 : Int32)).toNatClampNeg) (xs (w4 + (2 : Int32)).toNatClampNeg) (xs (w4 + (3 : Int32)).toNatClampNeg) f (fun r5 S6 f7 => okA S2 9 m ∧ (wp_X9_troop S2 m (xs (w4 + (1 : Int32)).toNatClampNeg) (xs (w4 + (2 : Int32)).toNatClampNeg) (xs (w4 + (3 : Int32)).toNatClampNeg) (fun r10 S9 => okA S9 9 m ∧ (wp_X9_thrown S9 m (fun r14 S13 => if r14 = r5 then (if r5 = 0 then (if (lg_cmp (f7 (0 : Int32).toNatClampNeg) r10.toInt64) = 0 then (K S6 S13 f7 (w4 + (8 : Int32))) else (False)) else (K S6 S13 f7 (w4 + (8 : Int32)))) else (False)))))))))
set_option maxHeartbeats 4000000 in
set_option maxRecDepth 100000 in
theorem k_law_C0 (l : Launch) (hfl : l.stackTraces = false) (v : Ev) (b x m o L : Nat) (xs : Nat → Int32) {nm9 : String} {x9 : P9} {A : Nat → Prop} {E : State → Prop} (C : ∀ X, Cx l v RL cL_law 7 (some .boolean) nm9 (x9, X, A, E)) (hX : LX b L xs A x9) (hE : LE b A E x9) {n B B2 : Nat} (hB : B = 25850 - (n + 1) * 50) (hB2 : B2 = 773500 - (n + 1) * 1500) (hn : n + 1 ≤ 513) {K : Hp → Hp → (Nat → Int64) → Int32 → Prop} (ih : ∀ (S1 S2 : Hp) (f : Nat → Int64) (w4 : Int32), n ≤ 513 → g_T S2 = v.2.2.1 → K S1 S2 f w4 → ZZ l v 7 room_1 (x9, wl v.2.1 o f (g_w v.2.1 S2), A, E) (25850 - n * 50) (773500 - n * 1500) S1 23 [(0, va_rf (some b)), (1, va_rf (some x)), (2, va_rf (some m)), (3, va_rf (some o)), (4, .int w4)] []) (S1 S2 : Hp) (f : Nat → Int64) (w4 : Int32) (hT2 : g_T S2 = v.2.2.1) (h : wp_law_C0 x m xs L K S1 S2 f w4) : ZZ l v 7 room_1 (x9, wl v.2.1 o f (g_w v.2.1 S2), A, E) (B + 0) (B2 + 0) S1 168 [(0, va_rf (some b)), (1, va_rf (some x)), (2, va_rf (some m)), (3, va_rf (some o)), (4, .int w4)] [] := by
  have hR : 600000 ≤ room_1.cells := Nat.le_of_ble_eq_true rfl
  have hR2 : 7000000 ≤ room_1.slots := Nat.le_of_ble_eq_true rfl
  unfold wp_law_C0 at h
  refine z_aload_n (C _) (pc := 168) dL_law_168 1 rfl ?_
  refine z_aload_n (C _) (pc := 169) dL_law_169 0 rfl ?_
  refine z_iload (C _) (pc := 170) dL_law_170 4 rfl ?_
  refine z_iconst (C _) (pc := 172) (x := (1 : Int32)) dL_law_172 kic_1 ?_
  refine z_iadd (C _) (pc := 173) dL_law_173 ?_
  obtain ⟨v2, h⟩ := h
  refine z_sld (C _) hX (pc := 174) dL_law_174 v2 ?_
  refine z_aload_n (C _) (pc := 175) dL_law_175 0 rfl ?_
  refine z_iload (C _) (pc := 176) dL_law_176 4 rfl ?_
  refine z_iconst (C _) (pc := 178) (x := (2 : Int32)) dL_law_178 kic_2 ?_
  refine z_iadd (C _) (pc := 179) dL_law_179 ?_
  obtain ⟨v3, h⟩ := h
  refine z_sld (C _) hX (pc := 180) dL_law_180 v3 ?_
  refine z_aload_n (C _) (pc := 181) dL_law_181 0 rfl ?_
  refine z_iload (C _) (pc := 182) dL_law_182 4 rfl ?_
  refine z_iconst (C _) (pc := 184) (x := (3 : Int32)) dL_law_184 kic_3 ?_
  refine z_iadd (C _) (pc := 185) dL_law_185 ?_
  obtain ⟨v4, h⟩ := h
  refine z_sld (C _) hX (pc := 186) dL_law_186 v4 ?_
  refine z_aload_n (C _) (pc := 187) dL_law_187 3 rfl ?_
  refine z_SL (C []) (pc := 188) (kc' := B + 6) (ks' := B2 + 92) (As := [va_rf (some x), .int (xs (w4 + (1 : Int32)).toNatClampNeg), .int (xs (w4 + (2 : Int32)).toNatClampNeg), .int (xs (w4 + (3 : Int32)).toNatClampNeg), va_rf (some o)]) (rest := []) (c_L_troop l hfl v S1 x o (xs (w4 + (1 : Int32)).toNatClampNeg) (xs (w4 + (2 : Int32)).toNatClampNeg) (xs (w4 + (3 : Int32)).toNatClampNeg) f) bw_192 bw_0 (by decide +kernel) (n := 5) (by decide +kernel) bw_190 bw_191 ⟨by have h9 : rm_L_troop.cells = 6 := rfl; omega, by omega, by have h9 : rm_L_troop.slots = 92 := rfl; omega, by omega, by decide, by decide⟩ rfl rfl (Nat.le_of_ble_eq_true rfl) dL_law_188 h (fun r5 S6 f7 h => ?_)
  refine z_istore (C _) (pc := 191) (lv' := [(5, .int r5), (0, va_rf (some b)), (1, va_rf (some x)), (2, va_rf (some m)), (3, va_rf (some o)), (4, .int w4)]) dL_law_191 (by decide) rfl ?_
  refine z_aload_n (C _) (pc := 193) dL_law_193 3 rfl ?_
  refine z_aload_n (C _) (pc := 194) dL_law_194 1 rfl ?_
  refine z_iload (C _) (pc := 195) dL_law_195 5 rfl ?_
  refine z_iconst (C _) (pc := 197) (x := (1 : Int32)) dL_law_197 kic_1 ?_
  refine z_iadd (C _) (pc := 198) dL_law_198 ?_
  refine z_sld (C _) hX (pc := 199) dL_law_199 v2 ?_
  refine z_aload_n (C _) (pc := 200) dL_law_200 1 rfl ?_
  refine z_iload (C _) (pc := 201) dL_law_201 5 rfl ?_
  refine z_iconst (C _) (pc := 203) (x := (2 : Int32)) dL_law_203 kic_2 ?_
  refine z_iadd (C _) (pc := 204) dL_law_204 ?_
  refine z_sld (C _) hX (pc := 205) dL_law_205 v3 ?_
  refine z_aload_n (C _) (pc := 206) dL_law_206 1 rfl ?_
  refine z_iload (C _) (pc := 207) dL_law_207 5 rfl ?_
  refine z_iconst (C _) (pc := 209) (x := (3 : Int32)) dL_law_209 kic_3 ?_
  refine z_iadd (C _) (pc := 210) dL_law_210 ?_
  refine z_sld (C _) hX (pc := 211) dL_law_211 v4 ?_
  obtain ⟨o8, h⟩ := h
  refine z_sw hT2 (fun hT1 => ?_)
  refine z_Vi (C _) (pc := 212) (KX := fun _ _ => False) (kc' := B + 6) (ks' := B2 + 92) (As := [.int (xs (w4 + (1 : Int32)).toNatClampNeg), .int (xs (w4 + (2 : Int32)).toNatClampNeg), .int (xs (w4 + (3 : Int32)).toNatClampNeg)]) (rest := []) rfl (c_X9_troop l v S2 m (xs (w4 + (1 : Int32)).toNatClampNeg) (xs (w4 + (2 : Int32)).toNatClampNeg) (xs (w4 + (3 : Int32)).toNatClampNeg)) mw_X9_troop bw_1010 bw_1011 bw_1012 ⟨by have h9 : rm_X9_troop.cells = 0 := rfl; omega, by omega, by have h9 : rm_X9_troop.slots = 0 := rfl; omega, by omega, by decide, by decide⟩ rfl rfl (Nat.le_of_ble_eq_true rfl) (by decide) rfl o8 dL_law_212 h (fun r10 S9 h => ?_) (fun En S9 h => h.elim)
  refine z_sw hT1 (fun t11 => ?_)
  refine z_istore (C _) (pc := 215) (lv' := [(6, .int r10), (5, .int r5), (0, va_rf (some b)), (1, va_rf (some x)), (2, va_rf (some m)), (3, va_rf (some o)), (4, .int w4)]) dL_law_215 (by decide) rfl ?_
  refine z_aload_n (C _) (pc := 217) dL_law_217 4 rfl ?_
  obtain ⟨o12, h⟩ := h
  refine z_sw t11 (fun hT1 => ?_)
  refine z_Vi (C _) (pc := 218) (KX := fun _ _ => False) (kc' := B + 6) (ks' := B2 + 92) (As := []) (rest := []) rfl (c_X9_thrown l v S9 m) mw_X9_thrown bw_1006 bw_1007 bw_1008 ⟨by have h9 : rm_X9_thrown.cells = 0 := rfl; omega, by omega, by have h9 : rm_X9_thrown.slots = 0 := rfl; omega, by omega, by decide, by decide⟩ rfl rfl (Nat.le_of_ble_eq_true rfl) (by decide) rfl o12 dL_law_218 h (fun r14 S13 h => ?_) (fun En S9 h => h.elim)
  refine z_sw hT1 (fun t15 => ?_)
  refine z_iload (C _) (pc := 221) dL_law_221 1 rfl ?_
  refine z_icmp_eq (C _) (pc := 223) (tgt := 228) dL_law_223 (by decide) h (fun h => ?_) (fun h => ?_)
  · refine z_iload (C _) (pc := 228) dL_law_228 1 rfl ?_
    refine z_if_ne (C _) (pc := 230) (tgt := 245) dL_law_230 (by decide) h (fun h => ?_) (fun h => ?_)
    · refine z_goto (C _) (pc := 245) (tgt := 2102) dL_law_245 (by decide) ?_
      refine z_iinc (C _) (pc := 2102) (y := w4 + (8 : Int32)) (lv' := [(4, .int (w4 + (8 : Int32))), (6, .int r10), (5, .int r5), (0, va_rf (some b)), (1, va_rf (some x)), (2, va_rf (some m)), (3, va_rf (some o))]) dL_law_2102 6 rfl rfl (by decide) rfl ?_
      refine z_goto (C _) (pc := 2105) (tgt := 23) dL_law_2105 (by decide) ?_
      refine z_sub [3, 4, 5, 6, 0] (lv' := [(0, va_rf (some b)), (1, va_rf (some x)), (2, va_rf (some m)), (3, va_rf (some o)), (4, .int (w4 + (8 : Int32)))]) rfl ?_
      refine z_wide (kc' := 25850 - n * 50) (ks' := 773500 - n * 1500) (by omega) (by omega) ?_
      exact ih S6 S13 f7 (w4 + (8 : Int32)) (by omega) t15 h
    · refine z_aload_n (C _) (pc := 233) dL_law_233 5 rfl ?_
      refine z_iconst (C _) (pc := 234) (x := (0 : Int32)) dL_law_234 kic_0 ?_
      refine z_lald (C []) (pc := 235) dL_law_235 vin01 ?_
      refine z_iload (C _) (pc := 236) dL_law_236 0 rfl ?_
      refine z_i2l (C _) (pc := 238) dL_law_238 ?_
      refine z_lcmp (C _) (pc := 239) dL_law_239 ?_
      refine z_if_eq (C _) (pc := 240) (tgt := 245) dL_law_240 (by decide) h (fun h => ?_) (fun h => ?_)
      · refine z_goto (C _) (pc := 245) (tgt := 2102) dL_law_245 (by decide) ?_
        refine z_iinc (C _) (pc := 2102) (y := w4 + (8 : Int32)) (lv' := [(4, .int (w4 + (8 : Int32))), (6, .int r10), (5, .int r5), (0, va_rf (some b)), (1, va_rf (some x)), (2, va_rf (some m)), (3, va_rf (some o))]) dL_law_2102 6 rfl rfl (by decide) rfl ?_
        refine z_goto (C _) (pc := 2105) (tgt := 23) dL_law_2105 (by decide) ?_
        refine z_sub [3, 4, 5, 6, 0] (lv' := [(0, va_rf (some b)), (1, va_rf (some x)), (2, va_rf (some m)), (3, va_rf (some o)), (4, .int (w4 + (8 : Int32)))]) rfl ?_
        refine z_wide (kc' := 25850 - n * 50) (ks' := 773500 - n * 1500) (by omega) (by omega) ?_
        exact ih S6 S13 f7 (w4 + (8 : Int32)) (by omega) t15 h
      · refine z_iconst (C _) (pc := 243) (x := (0 : Int32)) dL_law_243 kic_0 ?_
        exact h.elim
  · refine z_iconst (C _) (pc := 226) (x := (0 : Int32)) dL_law_226 kic_0 ?_
    exact h.elim
def wp_law_C1 (x m : Nat) (xs : Nat → Int32) (L : Nat) (K : Hp → Hp → (Nat → Int64) → Int32 → Prop) (S1 S2 : Hp) (f : Nat → Int64) (w4 : Int32) : Prop := vp_in (w4 + (1 : Int32)) L ∧ (wp_L_child S1 x (xs (w4 + (1 : Int32)).toNatClampNeg) f (fun r18 S19 f20 => okA S2 9 m ∧ (wp_X9_child S2 m (xs (w4 + (1 : Int32)).toNatClampNeg) (fun r23 S22 => okA S22 9 m ∧ (wp_X9_thrown S22 m (fun r27 S26 => if r27 = r18 then (if r18 = 0 then (if (lg_cmp (f20 (0 : Int32).toNatClampNeg) r23.toInt64) = 0 then (K S19 S26 f20 (w4 + (8 : Int32))) else (False)) else (K S19 S26 f20 (w4 + (8 : Int32)))) else (False)))))))
set_option maxHeartbeats 4000000 in
set_option maxRecDepth 100000 in
theorem k_law_C1 (l : Launch) (hfl : l.stackTraces = false) (v : Ev) (b x m o L : Nat) (xs : Nat → Int32) {nm9 : String} {x9 : P9} {A : Nat → Prop} {E : State → Prop} (C : ∀ X, Cx l v RL cL_law 7 (some .boolean) nm9 (x9, X, A, E)) (hX : LX b L xs A x9) (hE : LE b A E x9) {n B B2 : Nat} (hB : B = 25850 - (n + 1) * 50) (hB2 : B2 = 773500 - (n + 1) * 1500) (hn : n + 1 ≤ 513) {K : Hp → Hp → (Nat → Int64) → Int32 → Prop} (ih : ∀ (S1 S2 : Hp) (f : Nat → Int64) (w4 : Int32), n ≤ 513 → g_T S2 = v.2.2.1 → K S1 S2 f w4 → ZZ l v 7 room_1 (x9, wl v.2.1 o f (g_w v.2.1 S2), A, E) (25850 - n * 50) (773500 - n * 1500) S1 23 [(0, va_rf (some b)), (1, va_rf (some x)), (2, va_rf (some m)), (3, va_rf (some o)), (4, .int w4)] []) (S1 S2 : Hp) (f : Nat → Int64) (w4 : Int32) (hT2 : g_T S2 = v.2.2.1) (h : wp_law_C1 x m xs L K S1 S2 f w4) : ZZ l v 7 room_1 (x9, wl v.2.1 o f (g_w v.2.1 S2), A, E) (B + 0) (B2 + 0) S1 248 [(0, va_rf (some b)), (1, va_rf (some x)), (2, va_rf (some m)), (3, va_rf (some o)), (4, .int w4)] [] := by
  have hR : 600000 ≤ room_1.cells := Nat.le_of_ble_eq_true rfl
  have hR2 : 7000000 ≤ room_1.slots := Nat.le_of_ble_eq_true rfl
  unfold wp_law_C1 at h
  refine z_aload_n (C _) (pc := 248) dL_law_248 1 rfl ?_
  refine z_aload_n (C _) (pc := 249) dL_law_249 0 rfl ?_
  refine z_iload (C _) (pc := 250) dL_law_250 4 rfl ?_
  refine z_iconst (C _) (pc := 252) (x := (1 : Int32)) dL_law_252 kic_1 ?_
  refine z_iadd (C _) (pc := 253) dL_law_253 ?_
  obtain ⟨v17, h⟩ := h
  refine z_sld (C _) hX (pc := 254) dL_law_254 v17 ?_
  refine z_aload_n (C _) (pc := 255) dL_law_255 3 rfl ?_
  refine z_SL (C []) (pc := 256) (kc' := B + 7) (ks' := B2 + 130) (As := [va_rf (some x), .int (xs (w4 + (1 : Int32)).toNatClampNeg), va_rf (some o)]) (rest := []) (c_L_child l hfl v S1 x o (xs (w4 + (1 : Int32)).toNatClampNeg) f) bw_372 bw_0 (by decide +kernel) (n := 3) (by decide +kernel) bw_370 bw_371 ⟨by have h9 : rm_L_child.cells = 7 := rfl; omega, by omega, by have h9 : rm_L_child.slots = 130 := rfl; omega, by omega, by decide, by decide⟩ rfl rfl (Nat.le_of_ble_eq_true rfl) dL_law_256 h (fun r18 S19 f20 h => ?_)
  refine z_istore (C _) (pc := 259) (lv' := [(5, .int r18), (0, va_rf (some b)), (1, va_rf (some x)), (2, va_rf (some m)), (3, va_rf (some o)), (4, .int w4)]) dL_law_259 (by decide) rfl ?_
  refine z_aload_n (C _) (pc := 261) dL_law_261 3 rfl ?_
  refine z_aload_n (C _) (pc := 262) dL_law_262 1 rfl ?_
  refine z_iload (C _) (pc := 263) dL_law_263 5 rfl ?_
  refine z_iconst (C _) (pc := 265) (x := (1 : Int32)) dL_law_265 kic_1 ?_
  refine z_iadd (C _) (pc := 266) dL_law_266 ?_
  refine z_sld (C _) hX (pc := 267) dL_law_267 v17 ?_
  obtain ⟨o21, h⟩ := h
  refine z_sw hT2 (fun hT1 => ?_)
  refine z_Vi (C _) (pc := 268) (KX := fun _ _ => False) (kc' := B + 7) (ks' := B2 + 130) (As := [.int (xs (w4 + (1 : Int32)).toNatClampNeg)]) (rest := []) rfl (c_X9_child l v S2 m (xs (w4 + (1 : Int32)).toNatClampNeg)) mw_X9_child bw_1025 bw_1026 bw_1027 ⟨by have h9 : rm_X9_child.cells = 0 := rfl; omega, by omega, by have h9 : rm_X9_child.slots = 0 := rfl; omega, by omega, by decide, by decide⟩ rfl rfl (Nat.le_of_ble_eq_true rfl) (by decide) rfl o21 dL_law_268 h (fun r23 S22 h => ?_) (fun En S9 h => h.elim)
  refine z_sw hT1 (fun t24 => ?_)
  refine z_istore (C _) (pc := 271) (lv' := [(6, .int r23), (5, .int r18), (0, va_rf (some b)), (1, va_rf (some x)), (2, va_rf (some m)), (3, va_rf (some o)), (4, .int w4)]) dL_law_271 (by decide) rfl ?_
  refine z_aload_n (C _) (pc := 273) dL_law_273 4 rfl ?_
  obtain ⟨o25, h⟩ := h
  refine z_sw t24 (fun hT1 => ?_)
  refine z_Vi (C _) (pc := 274) (KX := fun _ _ => False) (kc' := B + 7) (ks' := B2 + 130) (As := []) (rest := []) rfl (c_X9_thrown l v S22 m) mw_X9_thrown bw_1006 bw_1007 bw_1008 ⟨by have h9 : rm_X9_thrown.cells = 0 := rfl; omega, by omega, by have h9 : rm_X9_thrown.slots = 0 := rfl; omega, by omega, by decide, by decide⟩ rfl rfl (Nat.le_of_ble_eq_true rfl) (by decide) rfl o25 dL_law_274 h (fun r27 S26 h => ?_) (fun En S9 h => h.elim)
  refine z_sw hT1 (fun t28 => ?_)
  refine z_iload (C _) (pc := 277) dL_law_277 1 rfl ?_
  refine z_icmp_eq (C _) (pc := 279) (tgt := 284) dL_law_279 (by decide) h (fun h => ?_) (fun h => ?_)
  · refine z_iload (C _) (pc := 284) dL_law_284 1 rfl ?_
    refine z_if_ne (C _) (pc := 286) (tgt := 301) dL_law_286 (by decide) h (fun h => ?_) (fun h => ?_)
    · refine z_goto (C _) (pc := 301) (tgt := 2102) dL_law_301 (by decide) ?_
      refine z_iinc (C _) (pc := 2102) (y := w4 + (8 : Int32)) (lv' := [(4, .int (w4 + (8 : Int32))), (6, .int r23), (5, .int r18), (0, va_rf (some b)), (1, va_rf (some x)), (2, va_rf (some m)), (3, va_rf (some o))]) dL_law_2102 6 rfl rfl (by decide) rfl ?_
      refine z_goto (C _) (pc := 2105) (tgt := 23) dL_law_2105 (by decide) ?_
      refine z_sub [3, 4, 5, 6, 0] (lv' := [(0, va_rf (some b)), (1, va_rf (some x)), (2, va_rf (some m)), (3, va_rf (some o)), (4, .int (w4 + (8 : Int32)))]) rfl ?_
      refine z_wide (kc' := 25850 - n * 50) (ks' := 773500 - n * 1500) (by omega) (by omega) ?_
      exact ih S19 S26 f20 (w4 + (8 : Int32)) (by omega) t28 h
    · refine z_aload_n (C _) (pc := 289) dL_law_289 5 rfl ?_
      refine z_iconst (C _) (pc := 290) (x := (0 : Int32)) dL_law_290 kic_0 ?_
      refine z_lald (C []) (pc := 291) dL_law_291 vin01 ?_
      refine z_iload (C _) (pc := 292) dL_law_292 0 rfl ?_
      refine z_i2l (C _) (pc := 294) dL_law_294 ?_
      refine z_lcmp (C _) (pc := 295) dL_law_295 ?_
      refine z_if_eq (C _) (pc := 296) (tgt := 301) dL_law_296 (by decide) h (fun h => ?_) (fun h => ?_)
      · refine z_goto (C _) (pc := 301) (tgt := 2102) dL_law_301 (by decide) ?_
        refine z_iinc (C _) (pc := 2102) (y := w4 + (8 : Int32)) (lv' := [(4, .int (w4 + (8 : Int32))), (6, .int r23), (5, .int r18), (0, va_rf (some b)), (1, va_rf (some x)), (2, va_rf (some m)), (3, va_rf (some o))]) dL_law_2102 6 rfl rfl (by decide) rfl ?_
        refine z_goto (C _) (pc := 2105) (tgt := 23) dL_law_2105 (by decide) ?_
        refine z_sub [3, 4, 5, 6, 0] (lv' := [(0, va_rf (some b)), (1, va_rf (some x)), (2, va_rf (some m)), (3, va_rf (some o)), (4, .int (w4 + (8 : Int32)))]) rfl ?_
        refine z_wide (kc' := 25850 - n * 50) (ks' := 773500 - n * 1500) (by omega) (by omega) ?_
        exact ih S19 S26 f20 (w4 + (8 : Int32)) (by omega) t28 h
      · refine z_iconst (C _) (pc := 299) (x := (0 : Int32)) dL_law_299 kic_0 ?_
        exact h.elim
  · refine z_iconst (C _) (pc := 282) (x := (0 : Int32)) dL_law_282 kic_0 ?_
    exact h.elim
def wp_law_C2 (x m : Nat) (xs : Nat → Int32) (L : Nat) (K : Hp → Hp → (Nat → Int64) → Int32 → Prop) (S1 S2 : Hp) (f : Nat → Int64) (w4 : Int32) : Prop := vp_in (w4 + (1 : Int32)) L ∧ (vp_in (w4 + (2 : Int32)) L ∧ (wp_L_join S1 x (xs (w4 + (1 : Int32)).toNatClampNeg) (xs (w4 + (2 : Int32)).toNatClampNeg) f (fun r32 S33 f34 => okA S2 9 m ∧ (wp_X9_join S2 m (xs (w4 + (1 : Int32)).toNatClampNeg) (xs (w4 + (2 : Int32)).toNatClampNeg) (fun r37 S36 => okA S36 9 m ∧ (wp_X9_thrown S36 m (fun r41 S40 => if r41 = r32 then (if r32 = 0 then (if (lg_cmp (f34 (0 : Int32).toNatClampNeg) r37.toInt64) = 0 then (K S33 S40 f34 (w4 + (8 : Int32))) else (False)) else (K S33 S40 f34 (w4 + (8 : Int32)))) else (False))))))))
set_option maxHeartbeats 4000000 in
set_option maxRecDepth 100000 in
theorem k_law_C2 (l : Launch) (hfl : l.stackTraces = false) (v : Ev) (b x m o L : Nat) (xs : Nat → Int32) {nm9 : String} {x9 : P9} {A : Nat → Prop} {E : State → Prop} (C : ∀ X, Cx l v RL cL_law 7 (some .boolean) nm9 (x9, X, A, E)) (hX : LX b L xs A x9) (hE : LE b A E x9) {n B B2 : Nat} (hB : B = 25850 - (n + 1) * 50) (hB2 : B2 = 773500 - (n + 1) * 1500) (hn : n + 1 ≤ 513) {K : Hp → Hp → (Nat → Int64) → Int32 → Prop} (ih : ∀ (S1 S2 : Hp) (f : Nat → Int64) (w4 : Int32), n ≤ 513 → g_T S2 = v.2.2.1 → K S1 S2 f w4 → ZZ l v 7 room_1 (x9, wl v.2.1 o f (g_w v.2.1 S2), A, E) (25850 - n * 50) (773500 - n * 1500) S1 23 [(0, va_rf (some b)), (1, va_rf (some x)), (2, va_rf (some m)), (3, va_rf (some o)), (4, .int w4)] []) (S1 S2 : Hp) (f : Nat → Int64) (w4 : Int32) (hT2 : g_T S2 = v.2.2.1) (h : wp_law_C2 x m xs L K S1 S2 f w4) : ZZ l v 7 room_1 (x9, wl v.2.1 o f (g_w v.2.1 S2), A, E) (B + 0) (B2 + 0) S1 304 [(0, va_rf (some b)), (1, va_rf (some x)), (2, va_rf (some m)), (3, va_rf (some o)), (4, .int w4)] [] := by
  have hR : 600000 ≤ room_1.cells := Nat.le_of_ble_eq_true rfl
  have hR2 : 7000000 ≤ room_1.slots := Nat.le_of_ble_eq_true rfl
  unfold wp_law_C2 at h
  refine z_aload_n (C _) (pc := 304) dL_law_304 1 rfl ?_
  refine z_aload_n (C _) (pc := 305) dL_law_305 0 rfl ?_
  refine z_iload (C _) (pc := 306) dL_law_306 4 rfl ?_
  refine z_iconst (C _) (pc := 308) (x := (1 : Int32)) dL_law_308 kic_1 ?_
  refine z_iadd (C _) (pc := 309) dL_law_309 ?_
  obtain ⟨v30, h⟩ := h
  refine z_sld (C _) hX (pc := 310) dL_law_310 v30 ?_
  refine z_aload_n (C _) (pc := 311) dL_law_311 0 rfl ?_
  refine z_iload (C _) (pc := 312) dL_law_312 4 rfl ?_
  refine z_iconst (C _) (pc := 314) (x := (2 : Int32)) dL_law_314 kic_2 ?_
  refine z_iadd (C _) (pc := 315) dL_law_315 ?_
  obtain ⟨v31, h⟩ := h
  refine z_sld (C _) hX (pc := 316) dL_law_316 v31 ?_
  refine z_aload_n (C _) (pc := 317) dL_law_317 3 rfl ?_
  refine z_SL (C []) (pc := 318) (kc' := B + 3) (ks' := B2 + 18) (As := [va_rf (some x), .int (xs (w4 + (1 : Int32)).toNatClampNeg), .int (xs (w4 + (2 : Int32)).toNatClampNeg), va_rf (some o)]) (rest := []) (c_L_join l hfl v S1 x o (xs (w4 + (1 : Int32)).toNatClampNeg) (xs (w4 + (2 : Int32)).toNatClampNeg) f) bw_437 bw_0 (by decide +kernel) (n := 4) (by decide +kernel) bw_435 bw_436 ⟨by have h9 : rm_L_join.cells = 3 := rfl; omega, by omega, by have h9 : rm_L_join.slots = 18 := rfl; omega, by omega, by decide, by decide⟩ rfl rfl (Nat.le_of_ble_eq_true rfl) dL_law_318 h (fun r32 S33 f34 h => ?_)
  refine z_istore (C _) (pc := 321) (lv' := [(5, .int r32), (0, va_rf (some b)), (1, va_rf (some x)), (2, va_rf (some m)), (3, va_rf (some o)), (4, .int w4)]) dL_law_321 (by decide) rfl ?_
  refine z_aload_n (C _) (pc := 323) dL_law_323 3 rfl ?_
  refine z_aload_n (C _) (pc := 324) dL_law_324 1 rfl ?_
  refine z_iload (C _) (pc := 325) dL_law_325 5 rfl ?_
  refine z_iconst (C _) (pc := 327) (x := (1 : Int32)) dL_law_327 kic_1 ?_
  refine z_iadd (C _) (pc := 328) dL_law_328 ?_
  refine z_sld (C _) hX (pc := 329) dL_law_329 v30 ?_
  refine z_aload_n (C _) (pc := 330) dL_law_330 1 rfl ?_
  refine z_iload (C _) (pc := 331) dL_law_331 5 rfl ?_
  refine z_iconst (C _) (pc := 333) (x := (2 : Int32)) dL_law_333 kic_2 ?_
  refine z_iadd (C _) (pc := 334) dL_law_334 ?_
  refine z_sld (C _) hX (pc := 335) dL_law_335 v31 ?_
  obtain ⟨o35, h⟩ := h
  refine z_sw hT2 (fun hT1 => ?_)
  refine z_Vi (C _) (pc := 336) (KX := fun _ _ => False) (kc' := B + 3) (ks' := B2 + 18) (As := [.int (xs (w4 + (1 : Int32)).toNatClampNeg), .int (xs (w4 + (2 : Int32)).toNatClampNeg)]) (rest := []) rfl (c_X9_join l v S2 m (xs (w4 + (1 : Int32)).toNatClampNeg) (xs (w4 + (2 : Int32)).toNatClampNeg)) mw_X9_join bw_1029 bw_1030 bw_1031 ⟨by have h9 : rm_X9_join.cells = 0 := rfl; omega, by omega, by have h9 : rm_X9_join.slots = 0 := rfl; omega, by omega, by decide, by decide⟩ rfl rfl (Nat.le_of_ble_eq_true rfl) (by decide) rfl o35 dL_law_336 h (fun r37 S36 h => ?_) (fun En S9 h => h.elim)
  refine z_sw hT1 (fun t38 => ?_)
  refine z_istore (C _) (pc := 339) (lv' := [(6, .int r37), (5, .int r32), (0, va_rf (some b)), (1, va_rf (some x)), (2, va_rf (some m)), (3, va_rf (some o)), (4, .int w4)]) dL_law_339 (by decide) rfl ?_
  refine z_aload_n (C _) (pc := 341) dL_law_341 4 rfl ?_
  obtain ⟨o39, h⟩ := h
  refine z_sw t38 (fun hT1 => ?_)
  refine z_Vi (C _) (pc := 342) (KX := fun _ _ => False) (kc' := B + 3) (ks' := B2 + 18) (As := []) (rest := []) rfl (c_X9_thrown l v S36 m) mw_X9_thrown bw_1006 bw_1007 bw_1008 ⟨by have h9 : rm_X9_thrown.cells = 0 := rfl; omega, by omega, by have h9 : rm_X9_thrown.slots = 0 := rfl; omega, by omega, by decide, by decide⟩ rfl rfl (Nat.le_of_ble_eq_true rfl) (by decide) rfl o39 dL_law_342 h (fun r41 S40 h => ?_) (fun En S9 h => h.elim)
  refine z_sw hT1 (fun t42 => ?_)
  refine z_iload (C _) (pc := 345) dL_law_345 1 rfl ?_
  refine z_icmp_eq (C _) (pc := 347) (tgt := 352) dL_law_347 (by decide) h (fun h => ?_) (fun h => ?_)
  · refine z_iload (C _) (pc := 352) dL_law_352 1 rfl ?_
    refine z_if_ne (C _) (pc := 354) (tgt := 369) dL_law_354 (by decide) h (fun h => ?_) (fun h => ?_)
    · refine z_goto (C _) (pc := 369) (tgt := 2102) dL_law_369 (by decide) ?_
      refine z_iinc (C _) (pc := 2102) (y := w4 + (8 : Int32)) (lv' := [(4, .int (w4 + (8 : Int32))), (6, .int r37), (5, .int r32), (0, va_rf (some b)), (1, va_rf (some x)), (2, va_rf (some m)), (3, va_rf (some o))]) dL_law_2102 6 rfl rfl (by decide) rfl ?_
      refine z_goto (C _) (pc := 2105) (tgt := 23) dL_law_2105 (by decide) ?_
      refine z_sub [3, 4, 5, 6, 0] (lv' := [(0, va_rf (some b)), (1, va_rf (some x)), (2, va_rf (some m)), (3, va_rf (some o)), (4, .int (w4 + (8 : Int32)))]) rfl ?_
      refine z_wide (kc' := 25850 - n * 50) (ks' := 773500 - n * 1500) (by omega) (by omega) ?_
      exact ih S33 S40 f34 (w4 + (8 : Int32)) (by omega) t42 h
    · refine z_aload_n (C _) (pc := 357) dL_law_357 5 rfl ?_
      refine z_iconst (C _) (pc := 358) (x := (0 : Int32)) dL_law_358 kic_0 ?_
      refine z_lald (C []) (pc := 359) dL_law_359 vin01 ?_
      refine z_iload (C _) (pc := 360) dL_law_360 0 rfl ?_
      refine z_i2l (C _) (pc := 362) dL_law_362 ?_
      refine z_lcmp (C _) (pc := 363) dL_law_363 ?_
      refine z_if_eq (C _) (pc := 364) (tgt := 369) dL_law_364 (by decide) h (fun h => ?_) (fun h => ?_)
      · refine z_goto (C _) (pc := 369) (tgt := 2102) dL_law_369 (by decide) ?_
        refine z_iinc (C _) (pc := 2102) (y := w4 + (8 : Int32)) (lv' := [(4, .int (w4 + (8 : Int32))), (6, .int r37), (5, .int r32), (0, va_rf (some b)), (1, va_rf (some x)), (2, va_rf (some m)), (3, va_rf (some o))]) dL_law_2102 6 rfl rfl (by decide) rfl ?_
        refine z_goto (C _) (pc := 2105) (tgt := 23) dL_law_2105 (by decide) ?_
        refine z_sub [3, 4, 5, 6, 0] (lv' := [(0, va_rf (some b)), (1, va_rf (some x)), (2, va_rf (some m)), (3, va_rf (some o)), (4, .int (w4 + (8 : Int32)))]) rfl ?_
        refine z_wide (kc' := 25850 - n * 50) (ks' := 773500 - n * 1500) (by omega) (by omega) ?_
        exact ih S33 S40 f34 (w4 + (8 : Int32)) (by omega) t42 h
      · refine z_iconst (C _) (pc := 367) (x := (0 : Int32)) dL_law_367 kic_0 ?_
        exact h.elim
  · refine z_iconst (C _) (pc := 350) (x := (0 : Int32)) dL_law_350 kic_0 ?_
    exact h.elim
def wp_law_C3 (x m : Nat) (xs : Nat → Int32) (L : Nat) (K : Hp → Hp → (Nat → Int64) → Int32 → Prop) (S1 S2 : Hp) (f : Nat → Int64) (w4 : Int32) : Prop := vp_in (w4 + (1 : Int32)) L ∧ (wp_L_leave S1 x (xs (w4 + (1 : Int32)).toNatClampNeg) f (fun r45 S46 f47 => okA S2 9 m ∧ (wp_X9_leave S2 m (xs (w4 + (1 : Int32)).toNatClampNeg) (fun r50 S49 => okA S49 9 m ∧ (wp_X9_thrown S49 m (fun r54 S53 => if r54 = r45 then (if r45 = 0 then (if (lg_cmp (f47 (0 : Int32).toNatClampNeg) r50.toInt64) = 0 then (K S46 S53 f47 (w4 + (8 : Int32))) else (False)) else (K S46 S53 f47 (w4 + (8 : Int32)))) else (False)))))))
set_option maxHeartbeats 4000000 in
set_option maxRecDepth 100000 in
theorem k_law_C3 (l : Launch) (hfl : l.stackTraces = false) (v : Ev) (b x m o L : Nat) (xs : Nat → Int32) {nm9 : String} {x9 : P9} {A : Nat → Prop} {E : State → Prop} (C : ∀ X, Cx l v RL cL_law 7 (some .boolean) nm9 (x9, X, A, E)) (hX : LX b L xs A x9) (hE : LE b A E x9) {n B B2 : Nat} (hB : B = 25850 - (n + 1) * 50) (hB2 : B2 = 773500 - (n + 1) * 1500) (hn : n + 1 ≤ 513) {K : Hp → Hp → (Nat → Int64) → Int32 → Prop} (ih : ∀ (S1 S2 : Hp) (f : Nat → Int64) (w4 : Int32), n ≤ 513 → g_T S2 = v.2.2.1 → K S1 S2 f w4 → ZZ l v 7 room_1 (x9, wl v.2.1 o f (g_w v.2.1 S2), A, E) (25850 - n * 50) (773500 - n * 1500) S1 23 [(0, va_rf (some b)), (1, va_rf (some x)), (2, va_rf (some m)), (3, va_rf (some o)), (4, .int w4)] []) (S1 S2 : Hp) (f : Nat → Int64) (w4 : Int32) (hT2 : g_T S2 = v.2.2.1) (h : wp_law_C3 x m xs L K S1 S2 f w4) : ZZ l v 7 room_1 (x9, wl v.2.1 o f (g_w v.2.1 S2), A, E) (B + 0) (B2 + 0) S1 372 [(0, va_rf (some b)), (1, va_rf (some x)), (2, va_rf (some m)), (3, va_rf (some o)), (4, .int w4)] [] := by
  have hR : 600000 ≤ room_1.cells := Nat.le_of_ble_eq_true rfl
  have hR2 : 7000000 ≤ room_1.slots := Nat.le_of_ble_eq_true rfl
  unfold wp_law_C3 at h
  refine z_aload_n (C _) (pc := 372) dL_law_372 1 rfl ?_
  refine z_aload_n (C _) (pc := 373) dL_law_373 0 rfl ?_
  refine z_iload (C _) (pc := 374) dL_law_374 4 rfl ?_
  refine z_iconst (C _) (pc := 376) (x := (1 : Int32)) dL_law_376 kic_1 ?_
  refine z_iadd (C _) (pc := 377) dL_law_377 ?_
  obtain ⟨v44, h⟩ := h
  refine z_sld (C _) hX (pc := 378) dL_law_378 v44 ?_
  refine z_aload_n (C _) (pc := 379) dL_law_379 3 rfl ?_
  refine z_SL (C []) (pc := 380) (kc' := B + 2) (ks' := B2 + 12) (As := [va_rf (some x), .int (xs (w4 + (1 : Int32)).toNatClampNeg), va_rf (some o)]) (rest := []) (c_L_leave l hfl v S1 x o (xs (w4 + (1 : Int32)).toNatClampNeg) f) bw_474 bw_0 (by decide +kernel) (n := 3) (by decide +kernel) bw_472 bw_473 ⟨by have h9 : rm_L_leave.cells = 2 := rfl; omega, by omega, by have h9 : rm_L_leave.slots = 12 := rfl; omega, by omega, by decide, by decide⟩ rfl rfl (Nat.le_of_ble_eq_true rfl) dL_law_380 h (fun r45 S46 f47 h => ?_)
  refine z_istore (C _) (pc := 383) (lv' := [(5, .int r45), (0, va_rf (some b)), (1, va_rf (some x)), (2, va_rf (some m)), (3, va_rf (some o)), (4, .int w4)]) dL_law_383 (by decide) rfl ?_
  refine z_aload_n (C _) (pc := 385) dL_law_385 3 rfl ?_
  refine z_aload_n (C _) (pc := 386) dL_law_386 1 rfl ?_
  refine z_iload (C _) (pc := 387) dL_law_387 5 rfl ?_
  refine z_iconst (C _) (pc := 389) (x := (1 : Int32)) dL_law_389 kic_1 ?_
  refine z_iadd (C _) (pc := 390) dL_law_390 ?_
  refine z_sld (C _) hX (pc := 391) dL_law_391 v44 ?_
  obtain ⟨o48, h⟩ := h
  refine z_sw hT2 (fun hT1 => ?_)
  refine z_Vi (C _) (pc := 392) (KX := fun _ _ => False) (kc' := B + 2) (ks' := B2 + 12) (As := [.int (xs (w4 + (1 : Int32)).toNatClampNeg)]) (rest := []) rfl (c_X9_leave l v S2 m (xs (w4 + (1 : Int32)).toNatClampNeg)) mw_X9_leave bw_1065 bw_1066 bw_1067 ⟨by have h9 : rm_X9_leave.cells = 0 := rfl; omega, by omega, by have h9 : rm_X9_leave.slots = 0 := rfl; omega, by omega, by decide, by decide⟩ rfl rfl (Nat.le_of_ble_eq_true rfl) (by decide) rfl o48 dL_law_392 h (fun r50 S49 h => ?_) (fun En S9 h => h.elim)
  refine z_sw hT1 (fun t51 => ?_)
  refine z_istore (C _) (pc := 395) (lv' := [(6, .int r50), (5, .int r45), (0, va_rf (some b)), (1, va_rf (some x)), (2, va_rf (some m)), (3, va_rf (some o)), (4, .int w4)]) dL_law_395 (by decide) rfl ?_
  refine z_aload_n (C _) (pc := 397) dL_law_397 4 rfl ?_
  obtain ⟨o52, h⟩ := h
  refine z_sw t51 (fun hT1 => ?_)
  refine z_Vi (C _) (pc := 398) (KX := fun _ _ => False) (kc' := B + 2) (ks' := B2 + 12) (As := []) (rest := []) rfl (c_X9_thrown l v S49 m) mw_X9_thrown bw_1006 bw_1007 bw_1008 ⟨by have h9 : rm_X9_thrown.cells = 0 := rfl; omega, by omega, by have h9 : rm_X9_thrown.slots = 0 := rfl; omega, by omega, by decide, by decide⟩ rfl rfl (Nat.le_of_ble_eq_true rfl) (by decide) rfl o52 dL_law_398 h (fun r54 S53 h => ?_) (fun En S9 h => h.elim)
  refine z_sw hT1 (fun t55 => ?_)
  refine z_iload (C _) (pc := 401) dL_law_401 1 rfl ?_
  refine z_icmp_eq (C _) (pc := 403) (tgt := 408) dL_law_403 (by decide) h (fun h => ?_) (fun h => ?_)
  · refine z_iload (C _) (pc := 408) dL_law_408 1 rfl ?_
    refine z_if_ne (C _) (pc := 410) (tgt := 425) dL_law_410 (by decide) h (fun h => ?_) (fun h => ?_)
    · refine z_goto (C _) (pc := 425) (tgt := 2102) dL_law_425 (by decide) ?_
      refine z_iinc (C _) (pc := 2102) (y := w4 + (8 : Int32)) (lv' := [(4, .int (w4 + (8 : Int32))), (6, .int r50), (5, .int r45), (0, va_rf (some b)), (1, va_rf (some x)), (2, va_rf (some m)), (3, va_rf (some o))]) dL_law_2102 6 rfl rfl (by decide) rfl ?_
      refine z_goto (C _) (pc := 2105) (tgt := 23) dL_law_2105 (by decide) ?_
      refine z_sub [3, 4, 5, 6, 0] (lv' := [(0, va_rf (some b)), (1, va_rf (some x)), (2, va_rf (some m)), (3, va_rf (some o)), (4, .int (w4 + (8 : Int32)))]) rfl ?_
      refine z_wide (kc' := 25850 - n * 50) (ks' := 773500 - n * 1500) (by omega) (by omega) ?_
      exact ih S46 S53 f47 (w4 + (8 : Int32)) (by omega) t55 h
    · refine z_aload_n (C _) (pc := 413) dL_law_413 5 rfl ?_
      refine z_iconst (C _) (pc := 414) (x := (0 : Int32)) dL_law_414 kic_0 ?_
      refine z_lald (C []) (pc := 415) dL_law_415 vin01 ?_
      refine z_iload (C _) (pc := 416) dL_law_416 0 rfl ?_
      refine z_i2l (C _) (pc := 418) dL_law_418 ?_
      refine z_lcmp (C _) (pc := 419) dL_law_419 ?_
      refine z_if_eq (C _) (pc := 420) (tgt := 425) dL_law_420 (by decide) h (fun h => ?_) (fun h => ?_)
      · refine z_goto (C _) (pc := 425) (tgt := 2102) dL_law_425 (by decide) ?_
        refine z_iinc (C _) (pc := 2102) (y := w4 + (8 : Int32)) (lv' := [(4, .int (w4 + (8 : Int32))), (6, .int r50), (5, .int r45), (0, va_rf (some b)), (1, va_rf (some x)), (2, va_rf (some m)), (3, va_rf (some o))]) dL_law_2102 6 rfl rfl (by decide) rfl ?_
        refine z_goto (C _) (pc := 2105) (tgt := 23) dL_law_2105 (by decide) ?_
        refine z_sub [3, 4, 5, 6, 0] (lv' := [(0, va_rf (some b)), (1, va_rf (some x)), (2, va_rf (some m)), (3, va_rf (some o)), (4, .int (w4 + (8 : Int32)))]) rfl ?_
        refine z_wide (kc' := 25850 - n * 50) (ks' := 773500 - n * 1500) (by omega) (by omega) ?_
        exact ih S46 S53 f47 (w4 + (8 : Int32)) (by omega) t55 h
      · refine z_iconst (C _) (pc := 423) (x := (0 : Int32)) dL_law_423 kic_0 ?_
        exact h.elim
  · refine z_iconst (C _) (pc := 406) (x := (0 : Int32)) dL_law_406 kic_0 ?_
    exact h.elim
def wp_law_C4 (x m : Nat) (xs : Nat → Int32) (L : Nat) (K : Hp → Hp → (Nat → Int64) → Int32 → Prop) (S1 S2 : Hp) (f : Nat → Int64) (w4 : Int32) : Prop := vp_in (w4 + (1 : Int32)) L ∧ (vp_in (w4 + (2 : Int32)) L ∧ (wp_L_patrol S1 x (xs (w4 + (1 : Int32)).toNatClampNeg) (xs (w4 + (2 : Int32)).toNatClampNeg) f (fun r59 S60 f61 => okA S2 9 m ∧ (wp_X9_patrol S2 m (xs (w4 + (1 : Int32)).toNatClampNeg) (xs (w4 + (2 : Int32)).toNatClampNeg) (fun r64 S63 => okA S63 9 m ∧ (wp_X9_thrown S63 m (fun r68 S67 => if r68 = r59 then (if r59 = 0 then (if (lg_cmp (f61 (0 : Int32).toNatClampNeg) r64.toInt64) = 0 then (K S60 S67 f61 (w4 + (8 : Int32))) else (False)) else (K S60 S67 f61 (w4 + (8 : Int32)))) else (False))))))))
set_option maxHeartbeats 4000000 in
set_option maxRecDepth 100000 in
theorem k_law_C4 (l : Launch) (hfl : l.stackTraces = false) (v : Ev) (b x m o L : Nat) (xs : Nat → Int32) {nm9 : String} {x9 : P9} {A : Nat → Prop} {E : State → Prop} (C : ∀ X, Cx l v RL cL_law 7 (some .boolean) nm9 (x9, X, A, E)) (hX : LX b L xs A x9) (hE : LE b A E x9) {n B B2 : Nat} (hB : B = 25850 - (n + 1) * 50) (hB2 : B2 = 773500 - (n + 1) * 1500) (hn : n + 1 ≤ 513) {K : Hp → Hp → (Nat → Int64) → Int32 → Prop} (ih : ∀ (S1 S2 : Hp) (f : Nat → Int64) (w4 : Int32), n ≤ 513 → g_T S2 = v.2.2.1 → K S1 S2 f w4 → ZZ l v 7 room_1 (x9, wl v.2.1 o f (g_w v.2.1 S2), A, E) (25850 - n * 50) (773500 - n * 1500) S1 23 [(0, va_rf (some b)), (1, va_rf (some x)), (2, va_rf (some m)), (3, va_rf (some o)), (4, .int w4)] []) (S1 S2 : Hp) (f : Nat → Int64) (w4 : Int32) (hT2 : g_T S2 = v.2.2.1) (h : wp_law_C4 x m xs L K S1 S2 f w4) : ZZ l v 7 room_1 (x9, wl v.2.1 o f (g_w v.2.1 S2), A, E) (B + 0) (B2 + 0) S1 428 [(0, va_rf (some b)), (1, va_rf (some x)), (2, va_rf (some m)), (3, va_rf (some o)), (4, .int w4)] [] := by
  have hR : 600000 ≤ room_1.cells := Nat.le_of_ble_eq_true rfl
  have hR2 : 7000000 ≤ room_1.slots := Nat.le_of_ble_eq_true rfl
  unfold wp_law_C4 at h
  refine z_aload_n (C _) (pc := 428) dL_law_428 1 rfl ?_
  refine z_aload_n (C _) (pc := 429) dL_law_429 0 rfl ?_
  refine z_iload (C _) (pc := 430) dL_law_430 4 rfl ?_
  refine z_iconst (C _) (pc := 432) (x := (1 : Int32)) dL_law_432 kic_1 ?_
  refine z_iadd (C _) (pc := 433) dL_law_433 ?_
  obtain ⟨v57, h⟩ := h
  refine z_sld (C _) hX (pc := 434) dL_law_434 v57 ?_
  refine z_aload_n (C _) (pc := 435) dL_law_435 0 rfl ?_
  refine z_iload (C _) (pc := 436) dL_law_436 4 rfl ?_
  refine z_iconst (C _) (pc := 438) (x := (2 : Int32)) dL_law_438 kic_2 ?_
  refine z_iadd (C _) (pc := 439) dL_law_439 ?_
  obtain ⟨v58, h⟩ := h
  refine z_sld (C _) hX (pc := 440) dL_law_440 v58 ?_
  refine z_aload_n (C _) (pc := 441) dL_law_441 3 rfl ?_
  refine z_SL (C []) (pc := 442) (kc' := B + 3) (ks' := B2 + 18) (As := [va_rf (some x), .int (xs (w4 + (1 : Int32)).toNatClampNeg), .int (xs (w4 + (2 : Int32)).toNatClampNeg), va_rf (some o)]) (rest := []) (c_L_patrol l hfl v S1 x o (xs (w4 + (1 : Int32)).toNatClampNeg) (xs (w4 + (2 : Int32)).toNatClampNeg) f) bw_482 bw_0 (by decide +kernel) (n := 4) (by decide +kernel) bw_480 bw_481 ⟨by have h9 : rm_L_patrol.cells = 3 := rfl; omega, by omega, by have h9 : rm_L_patrol.slots = 18 := rfl; omega, by omega, by decide, by decide⟩ rfl rfl (Nat.le_of_ble_eq_true rfl) dL_law_442 h (fun r59 S60 f61 h => ?_)
  refine z_istore (C _) (pc := 445) (lv' := [(5, .int r59), (0, va_rf (some b)), (1, va_rf (some x)), (2, va_rf (some m)), (3, va_rf (some o)), (4, .int w4)]) dL_law_445 (by decide) rfl ?_
  refine z_aload_n (C _) (pc := 447) dL_law_447 3 rfl ?_
  refine z_aload_n (C _) (pc := 448) dL_law_448 1 rfl ?_
  refine z_iload (C _) (pc := 449) dL_law_449 5 rfl ?_
  refine z_iconst (C _) (pc := 451) (x := (1 : Int32)) dL_law_451 kic_1 ?_
  refine z_iadd (C _) (pc := 452) dL_law_452 ?_
  refine z_sld (C _) hX (pc := 453) dL_law_453 v57 ?_
  refine z_aload_n (C _) (pc := 454) dL_law_454 1 rfl ?_
  refine z_iload (C _) (pc := 455) dL_law_455 5 rfl ?_
  refine z_iconst (C _) (pc := 457) (x := (2 : Int32)) dL_law_457 kic_2 ?_
  refine z_iadd (C _) (pc := 458) dL_law_458 ?_
  refine z_sld (C _) hX (pc := 459) dL_law_459 v58 ?_
  obtain ⟨o62, h⟩ := h
  refine z_sw hT2 (fun hT1 => ?_)
  refine z_Vi (C _) (pc := 460) (KX := fun _ _ => False) (kc' := B + 3) (ks' := B2 + 18) (As := [.int (xs (w4 + (1 : Int32)).toNatClampNeg), .int (xs (w4 + (2 : Int32)).toNatClampNeg)]) (rest := []) rfl (c_X9_patrol l v S2 m (xs (w4 + (1 : Int32)).toNatClampNeg) (xs (w4 + (2 : Int32)).toNatClampNeg)) mw_X9_patrol bw_1077 bw_1078 bw_1079 ⟨by have h9 : rm_X9_patrol.cells = 0 := rfl; omega, by omega, by have h9 : rm_X9_patrol.slots = 0 := rfl; omega, by omega, by decide, by decide⟩ rfl rfl (Nat.le_of_ble_eq_true rfl) (by decide) rfl o62 dL_law_460 h (fun r64 S63 h => ?_) (fun En S9 h => h.elim)
  refine z_sw hT1 (fun t65 => ?_)
  refine z_istore (C _) (pc := 463) (lv' := [(6, .int r64), (5, .int r59), (0, va_rf (some b)), (1, va_rf (some x)), (2, va_rf (some m)), (3, va_rf (some o)), (4, .int w4)]) dL_law_463 (by decide) rfl ?_
  refine z_aload_n (C _) (pc := 465) dL_law_465 4 rfl ?_
  obtain ⟨o66, h⟩ := h
  refine z_sw t65 (fun hT1 => ?_)
  refine z_Vi (C _) (pc := 466) (KX := fun _ _ => False) (kc' := B + 3) (ks' := B2 + 18) (As := []) (rest := []) rfl (c_X9_thrown l v S63 m) mw_X9_thrown bw_1006 bw_1007 bw_1008 ⟨by have h9 : rm_X9_thrown.cells = 0 := rfl; omega, by omega, by have h9 : rm_X9_thrown.slots = 0 := rfl; omega, by omega, by decide, by decide⟩ rfl rfl (Nat.le_of_ble_eq_true rfl) (by decide) rfl o66 dL_law_466 h (fun r68 S67 h => ?_) (fun En S9 h => h.elim)
  refine z_sw hT1 (fun t69 => ?_)
  refine z_iload (C _) (pc := 469) dL_law_469 1 rfl ?_
  refine z_icmp_eq (C _) (pc := 471) (tgt := 476) dL_law_471 (by decide) h (fun h => ?_) (fun h => ?_)
  · refine z_iload (C _) (pc := 476) dL_law_476 1 rfl ?_
    refine z_if_ne (C _) (pc := 478) (tgt := 493) dL_law_478 (by decide) h (fun h => ?_) (fun h => ?_)
    · refine z_goto (C _) (pc := 493) (tgt := 2102) dL_law_493 (by decide) ?_
      refine z_iinc (C _) (pc := 2102) (y := w4 + (8 : Int32)) (lv' := [(4, .int (w4 + (8 : Int32))), (6, .int r64), (5, .int r59), (0, va_rf (some b)), (1, va_rf (some x)), (2, va_rf (some m)), (3, va_rf (some o))]) dL_law_2102 6 rfl rfl (by decide) rfl ?_
      refine z_goto (C _) (pc := 2105) (tgt := 23) dL_law_2105 (by decide) ?_
      refine z_sub [3, 4, 5, 6, 0] (lv' := [(0, va_rf (some b)), (1, va_rf (some x)), (2, va_rf (some m)), (3, va_rf (some o)), (4, .int (w4 + (8 : Int32)))]) rfl ?_
      refine z_wide (kc' := 25850 - n * 50) (ks' := 773500 - n * 1500) (by omega) (by omega) ?_
      exact ih S60 S67 f61 (w4 + (8 : Int32)) (by omega) t69 h
    · refine z_aload_n (C _) (pc := 481) dL_law_481 5 rfl ?_
      refine z_iconst (C _) (pc := 482) (x := (0 : Int32)) dL_law_482 kic_0 ?_
      refine z_lald (C []) (pc := 483) dL_law_483 vin01 ?_
      refine z_iload (C _) (pc := 484) dL_law_484 0 rfl ?_
      refine z_i2l (C _) (pc := 486) dL_law_486 ?_
      refine z_lcmp (C _) (pc := 487) dL_law_487 ?_
      refine z_if_eq (C _) (pc := 488) (tgt := 493) dL_law_488 (by decide) h (fun h => ?_) (fun h => ?_)
      · refine z_goto (C _) (pc := 493) (tgt := 2102) dL_law_493 (by decide) ?_
        refine z_iinc (C _) (pc := 2102) (y := w4 + (8 : Int32)) (lv' := [(4, .int (w4 + (8 : Int32))), (6, .int r64), (5, .int r59), (0, va_rf (some b)), (1, va_rf (some x)), (2, va_rf (some m)), (3, va_rf (some o))]) dL_law_2102 6 rfl rfl (by decide) rfl ?_
        refine z_goto (C _) (pc := 2105) (tgt := 23) dL_law_2105 (by decide) ?_
        refine z_sub [3, 4, 5, 6, 0] (lv' := [(0, va_rf (some b)), (1, va_rf (some x)), (2, va_rf (some m)), (3, va_rf (some o)), (4, .int (w4 + (8 : Int32)))]) rfl ?_
        refine z_wide (kc' := 25850 - n * 50) (ks' := 773500 - n * 1500) (by omega) (by omega) ?_
        exact ih S60 S67 f61 (w4 + (8 : Int32)) (by omega) t69 h
      · refine z_iconst (C _) (pc := 491) (x := (0 : Int32)) dL_law_491 kic_0 ?_
        exact h.elim
  · refine z_iconst (C _) (pc := 474) (x := (0 : Int32)) dL_law_474 kic_0 ?_
    exact h.elim
def wp_law_C5 (x m : Nat) (xs : Nat → Int32) (L : Nat) (K : Hp → Hp → (Nat → Int64) → Int32 → Prop) (S1 S2 : Hp) (f : Nat → Int64) (w4 : Int32) : Prop := vp_in (w4 + (1 : Int32)) L ∧ (vp_in (w4 + (2 : Int32)) L ∧ (wp_L_duty S1 x (xs (w4 + (1 : Int32)).toNatClampNeg) (xs (w4 + (2 : Int32)).toNatClampNeg) f (fun r73 S74 f75 => okA S2 9 m ∧ (wp_X9_duty S2 m (xs (w4 + (1 : Int32)).toNatClampNeg) (xs (w4 + (2 : Int32)).toNatClampNeg) (fun r78 S77 => okA S77 9 m ∧ (wp_X9_thrown S77 m (fun r82 S81 => if r82 = r73 then (if r73 = 0 then (if (lg_cmp (f75 (0 : Int32).toNatClampNeg) r78.toInt64) = 0 then (K S74 S81 f75 (w4 + (8 : Int32))) else (False)) else (K S74 S81 f75 (w4 + (8 : Int32)))) else (False))))))))
set_option maxHeartbeats 4000000 in
set_option maxRecDepth 100000 in
theorem k_law_C5 (l : Launch) (hfl : l.stackTraces = false) (v : Ev) (b x m o L : Nat) (xs : Nat → Int32) {nm9 : String} {x9 : P9} {A : Nat → Prop} {E : State → Prop} (C : ∀ X, Cx l v RL cL_law 7 (some .boolean) nm9 (x9, X, A, E)) (hX : LX b L xs A x9) (hE : LE b A E x9) {n B B2 : Nat} (hB : B = 25850 - (n + 1) * 50) (hB2 : B2 = 773500 - (n + 1) * 1500) (hn : n + 1 ≤ 513) {K : Hp → Hp → (Nat → Int64) → Int32 → Prop} (ih : ∀ (S1 S2 : Hp) (f : Nat → Int64) (w4 : Int32), n ≤ 513 → g_T S2 = v.2.2.1 → K S1 S2 f w4 → ZZ l v 7 room_1 (x9, wl v.2.1 o f (g_w v.2.1 S2), A, E) (25850 - n * 50) (773500 - n * 1500) S1 23 [(0, va_rf (some b)), (1, va_rf (some x)), (2, va_rf (some m)), (3, va_rf (some o)), (4, .int w4)] []) (S1 S2 : Hp) (f : Nat → Int64) (w4 : Int32) (hT2 : g_T S2 = v.2.2.1) (h : wp_law_C5 x m xs L K S1 S2 f w4) : ZZ l v 7 room_1 (x9, wl v.2.1 o f (g_w v.2.1 S2), A, E) (B + 0) (B2 + 0) S1 496 [(0, va_rf (some b)), (1, va_rf (some x)), (2, va_rf (some m)), (3, va_rf (some o)), (4, .int w4)] [] := by
  have hR : 600000 ≤ room_1.cells := Nat.le_of_ble_eq_true rfl
  have hR2 : 7000000 ≤ room_1.slots := Nat.le_of_ble_eq_true rfl
  unfold wp_law_C5 at h
  refine z_aload_n (C _) (pc := 496) dL_law_496 1 rfl ?_
  refine z_aload_n (C _) (pc := 497) dL_law_497 0 rfl ?_
  refine z_iload (C _) (pc := 498) dL_law_498 4 rfl ?_
  refine z_iconst (C _) (pc := 500) (x := (1 : Int32)) dL_law_500 kic_1 ?_
  refine z_iadd (C _) (pc := 501) dL_law_501 ?_
  obtain ⟨v71, h⟩ := h
  refine z_sld (C _) hX (pc := 502) dL_law_502 v71 ?_
  refine z_aload_n (C _) (pc := 503) dL_law_503 0 rfl ?_
  refine z_iload (C _) (pc := 504) dL_law_504 4 rfl ?_
  refine z_iconst (C _) (pc := 506) (x := (2 : Int32)) dL_law_506 kic_2 ?_
  refine z_iadd (C _) (pc := 507) dL_law_507 ?_
  obtain ⟨v72, h⟩ := h
  refine z_sld (C _) hX (pc := 508) dL_law_508 v72 ?_
  refine z_aload_n (C _) (pc := 509) dL_law_509 3 rfl ?_
  refine z_SL (C []) (pc := 510) (kc' := B + 2) (ks' := B2 + 12) (As := [va_rf (some x), .int (xs (w4 + (1 : Int32)).toNatClampNeg), .int (xs (w4 + (2 : Int32)).toNatClampNeg), va_rf (some o)]) (rest := []) (c_L_duty l hfl v S1 x o (xs (w4 + (1 : Int32)).toNatClampNeg) (xs (w4 + (2 : Int32)).toNatClampNeg) f) bw_490 bw_0 (by decide +kernel) (n := 4) (by decide +kernel) bw_488 bw_489 ⟨by have h9 : rm_L_duty.cells = 2 := rfl; omega, by omega, by have h9 : rm_L_duty.slots = 12 := rfl; omega, by omega, by decide, by decide⟩ rfl rfl (Nat.le_of_ble_eq_true rfl) dL_law_510 h (fun r73 S74 f75 h => ?_)
  refine z_istore (C _) (pc := 513) (lv' := [(5, .int r73), (0, va_rf (some b)), (1, va_rf (some x)), (2, va_rf (some m)), (3, va_rf (some o)), (4, .int w4)]) dL_law_513 (by decide) rfl ?_
  refine z_aload_n (C _) (pc := 515) dL_law_515 3 rfl ?_
  refine z_aload_n (C _) (pc := 516) dL_law_516 1 rfl ?_
  refine z_iload (C _) (pc := 517) dL_law_517 5 rfl ?_
  refine z_iconst (C _) (pc := 519) (x := (1 : Int32)) dL_law_519 kic_1 ?_
  refine z_iadd (C _) (pc := 520) dL_law_520 ?_
  refine z_sld (C _) hX (pc := 521) dL_law_521 v71 ?_
  refine z_aload_n (C _) (pc := 522) dL_law_522 1 rfl ?_
  refine z_iload (C _) (pc := 523) dL_law_523 5 rfl ?_
  refine z_iconst (C _) (pc := 525) (x := (2 : Int32)) dL_law_525 kic_2 ?_
  refine z_iadd (C _) (pc := 526) dL_law_526 ?_
  refine z_sld (C _) hX (pc := 527) dL_law_527 v72 ?_
  obtain ⟨o76, h⟩ := h
  refine z_sw hT2 (fun hT1 => ?_)
  refine z_Vi (C _) (pc := 528) (KX := fun _ _ => False) (kc' := B + 2) (ks' := B2 + 12) (As := [.int (xs (w4 + (1 : Int32)).toNatClampNeg), .int (xs (w4 + (2 : Int32)).toNatClampNeg)]) (rest := []) rfl (c_X9_duty l v S2 m (xs (w4 + (1 : Int32)).toNatClampNeg) (xs (w4 + (2 : Int32)).toNatClampNeg)) mw_X9_duty bw_1081 bw_1082 bw_1083 ⟨by have h9 : rm_X9_duty.cells = 0 := rfl; omega, by omega, by have h9 : rm_X9_duty.slots = 0 := rfl; omega, by omega, by decide, by decide⟩ rfl rfl (Nat.le_of_ble_eq_true rfl) (by decide) rfl o76 dL_law_528 h (fun r78 S77 h => ?_) (fun En S9 h => h.elim)
  refine z_sw hT1 (fun t79 => ?_)
  refine z_istore (C _) (pc := 531) (lv' := [(6, .int r78), (5, .int r73), (0, va_rf (some b)), (1, va_rf (some x)), (2, va_rf (some m)), (3, va_rf (some o)), (4, .int w4)]) dL_law_531 (by decide) rfl ?_
  refine z_aload_n (C _) (pc := 533) dL_law_533 4 rfl ?_
  obtain ⟨o80, h⟩ := h
  refine z_sw t79 (fun hT1 => ?_)
  refine z_Vi (C _) (pc := 534) (KX := fun _ _ => False) (kc' := B + 2) (ks' := B2 + 12) (As := []) (rest := []) rfl (c_X9_thrown l v S77 m) mw_X9_thrown bw_1006 bw_1007 bw_1008 ⟨by have h9 : rm_X9_thrown.cells = 0 := rfl; omega, by omega, by have h9 : rm_X9_thrown.slots = 0 := rfl; omega, by omega, by decide, by decide⟩ rfl rfl (Nat.le_of_ble_eq_true rfl) (by decide) rfl o80 dL_law_534 h (fun r82 S81 h => ?_) (fun En S9 h => h.elim)
  refine z_sw hT1 (fun t83 => ?_)
  refine z_iload (C _) (pc := 537) dL_law_537 1 rfl ?_
  refine z_icmp_eq (C _) (pc := 539) (tgt := 544) dL_law_539 (by decide) h (fun h => ?_) (fun h => ?_)
  · refine z_iload (C _) (pc := 544) dL_law_544 1 rfl ?_
    refine z_if_ne (C _) (pc := 546) (tgt := 561) dL_law_546 (by decide) h (fun h => ?_) (fun h => ?_)
    · refine z_goto (C _) (pc := 561) (tgt := 2102) dL_law_561 (by decide) ?_
      refine z_iinc (C _) (pc := 2102) (y := w4 + (8 : Int32)) (lv' := [(4, .int (w4 + (8 : Int32))), (6, .int r78), (5, .int r73), (0, va_rf (some b)), (1, va_rf (some x)), (2, va_rf (some m)), (3, va_rf (some o))]) dL_law_2102 6 rfl rfl (by decide) rfl ?_
      refine z_goto (C _) (pc := 2105) (tgt := 23) dL_law_2105 (by decide) ?_
      refine z_sub [3, 4, 5, 6, 0] (lv' := [(0, va_rf (some b)), (1, va_rf (some x)), (2, va_rf (some m)), (3, va_rf (some o)), (4, .int (w4 + (8 : Int32)))]) rfl ?_
      refine z_wide (kc' := 25850 - n * 50) (ks' := 773500 - n * 1500) (by omega) (by omega) ?_
      exact ih S74 S81 f75 (w4 + (8 : Int32)) (by omega) t83 h
    · refine z_aload_n (C _) (pc := 549) dL_law_549 5 rfl ?_
      refine z_iconst (C _) (pc := 550) (x := (0 : Int32)) dL_law_550 kic_0 ?_
      refine z_lald (C []) (pc := 551) dL_law_551 vin01 ?_
      refine z_iload (C _) (pc := 552) dL_law_552 0 rfl ?_
      refine z_i2l (C _) (pc := 554) dL_law_554 ?_
      refine z_lcmp (C _) (pc := 555) dL_law_555 ?_
      refine z_if_eq (C _) (pc := 556) (tgt := 561) dL_law_556 (by decide) h (fun h => ?_) (fun h => ?_)
      · refine z_goto (C _) (pc := 561) (tgt := 2102) dL_law_561 (by decide) ?_
        refine z_iinc (C _) (pc := 2102) (y := w4 + (8 : Int32)) (lv' := [(4, .int (w4 + (8 : Int32))), (6, .int r78), (5, .int r73), (0, va_rf (some b)), (1, va_rf (some x)), (2, va_rf (some m)), (3, va_rf (some o))]) dL_law_2102 6 rfl rfl (by decide) rfl ?_
        refine z_goto (C _) (pc := 2105) (tgt := 23) dL_law_2105 (by decide) ?_
        refine z_sub [3, 4, 5, 6, 0] (lv' := [(0, va_rf (some b)), (1, va_rf (some x)), (2, va_rf (some m)), (3, va_rf (some o)), (4, .int (w4 + (8 : Int32)))]) rfl ?_
        refine z_wide (kc' := 25850 - n * 50) (ks' := 773500 - n * 1500) (by omega) (by omega) ?_
        exact ih S74 S81 f75 (w4 + (8 : Int32)) (by omega) t83 h
      · refine z_iconst (C _) (pc := 559) (x := (0 : Int32)) dL_law_559 kic_0 ?_
        exact h.elim
  · refine z_iconst (C _) (pc := 542) (x := (0 : Int32)) dL_law_542 kic_0 ?_
    exact h.elim
def wp_law_C6 (x m : Nat) (xs : Nat → Int32) (L : Nat) (K : Hp → Hp → (Nat → Int64) → Int32 → Prop) (S1 S2 : Hp) (f : Nat → Int64) (w4 : Int32) : Prop := vp_in (w4 + (1 : Int32)) L ∧ (wp_L_pass S1 x (xs (w4 + (1 : Int32)).toNatClampNeg) f (fun r86 S87 f88 => okA S2 9 m ∧ (wp_X9_pass S2 m (xs (w4 + (1 : Int32)).toNatClampNeg) (fun r91 S90 => okA S90 9 m ∧ (wp_X9_thrown S90 m (fun r95 S94 => if r95 = r86 then (if r86 = 0 then (if (lg_cmp (f88 (0 : Int32).toNatClampNeg) r91.toInt64) = 0 then (K S87 S94 f88 (w4 + (8 : Int32))) else (False)) else (K S87 S94 f88 (w4 + (8 : Int32)))) else (False)))))))
set_option maxHeartbeats 4000000 in
set_option maxRecDepth 100000 in
theorem k_law_C6 (l : Launch) (hfl : l.stackTraces = false) (v : Ev) (b x m o L : Nat) (xs : Nat → Int32) {nm9 : String} {x9 : P9} {A : Nat → Prop} {E : State → Prop} (C : ∀ X, Cx l v RL cL_law 7 (some .boolean) nm9 (x9, X, A, E)) (hX : LX b L xs A x9) (hE : LE b A E x9) {n B B2 : Nat} (hB : B = 25850 - (n + 1) * 50) (hB2 : B2 = 773500 - (n + 1) * 1500) (hn : n + 1 ≤ 513) {K : Hp → Hp → (Nat → Int64) → Int32 → Prop} (ih : ∀ (S1 S2 : Hp) (f : Nat → Int64) (w4 : Int32), n ≤ 513 → g_T S2 = v.2.2.1 → K S1 S2 f w4 → ZZ l v 7 room_1 (x9, wl v.2.1 o f (g_w v.2.1 S2), A, E) (25850 - n * 50) (773500 - n * 1500) S1 23 [(0, va_rf (some b)), (1, va_rf (some x)), (2, va_rf (some m)), (3, va_rf (some o)), (4, .int w4)] []) (S1 S2 : Hp) (f : Nat → Int64) (w4 : Int32) (hT2 : g_T S2 = v.2.2.1) (h : wp_law_C6 x m xs L K S1 S2 f w4) : ZZ l v 7 room_1 (x9, wl v.2.1 o f (g_w v.2.1 S2), A, E) (B + 0) (B2 + 0) S1 564 [(0, va_rf (some b)), (1, va_rf (some x)), (2, va_rf (some m)), (3, va_rf (some o)), (4, .int w4)] [] := by
  have hR : 600000 ≤ room_1.cells := Nat.le_of_ble_eq_true rfl
  have hR2 : 7000000 ≤ room_1.slots := Nat.le_of_ble_eq_true rfl
  unfold wp_law_C6 at h
  refine z_aload_n (C _) (pc := 564) dL_law_564 1 rfl ?_
  refine z_aload_n (C _) (pc := 565) dL_law_565 0 rfl ?_
  refine z_iload (C _) (pc := 566) dL_law_566 4 rfl ?_
  refine z_iconst (C _) (pc := 568) (x := (1 : Int32)) dL_law_568 kic_1 ?_
  refine z_iadd (C _) (pc := 569) dL_law_569 ?_
  obtain ⟨v85, h⟩ := h
  refine z_sld (C _) hX (pc := 570) dL_law_570 v85 ?_
  refine z_aload_n (C _) (pc := 571) dL_law_571 3 rfl ?_
  refine z_SL (C []) (pc := 572) (kc' := B + 2) (ks' := B2 + 12) (As := [va_rf (some x), .int (xs (w4 + (1 : Int32)).toNatClampNeg), va_rf (some o)]) (rest := []) (c_L_pass l hfl v S1 x o (xs (w4 + (1 : Int32)).toNatClampNeg) f) bw_505 bw_0 (by decide +kernel) (n := 3) (by decide +kernel) bw_503 bw_504 ⟨by have h9 : rm_L_pass.cells = 2 := rfl; omega, by omega, by have h9 : rm_L_pass.slots = 12 := rfl; omega, by omega, by decide, by decide⟩ rfl rfl (Nat.le_of_ble_eq_true rfl) dL_law_572 h (fun r86 S87 f88 h => ?_)
  refine z_istore (C _) (pc := 575) (lv' := [(5, .int r86), (0, va_rf (some b)), (1, va_rf (some x)), (2, va_rf (some m)), (3, va_rf (some o)), (4, .int w4)]) dL_law_575 (by decide) rfl ?_
  refine z_aload_n (C _) (pc := 577) dL_law_577 3 rfl ?_
  refine z_aload_n (C _) (pc := 578) dL_law_578 1 rfl ?_
  refine z_iload (C _) (pc := 579) dL_law_579 5 rfl ?_
  refine z_iconst (C _) (pc := 581) (x := (1 : Int32)) dL_law_581 kic_1 ?_
  refine z_iadd (C _) (pc := 582) dL_law_582 ?_
  refine z_sld (C _) hX (pc := 583) dL_law_583 v85 ?_
  obtain ⟨o89, h⟩ := h
  refine z_sw hT2 (fun hT1 => ?_)
  refine z_Vi (C _) (pc := 584) (KX := fun _ _ => False) (kc' := B + 2) (ks' := B2 + 12) (As := [.int (xs (w4 + (1 : Int32)).toNatClampNeg)]) (rest := []) rfl (c_X9_pass l v S2 m (xs (w4 + (1 : Int32)).toNatClampNeg)) mw_X9_pass bw_1088 bw_1089 bw_1090 ⟨by have h9 : rm_X9_pass.cells = 0 := rfl; omega, by omega, by have h9 : rm_X9_pass.slots = 0 := rfl; omega, by omega, by decide, by decide⟩ rfl rfl (Nat.le_of_ble_eq_true rfl) (by decide) rfl o89 dL_law_584 h (fun r91 S90 h => ?_) (fun En S9 h => h.elim)
  refine z_sw hT1 (fun t92 => ?_)
  refine z_istore (C _) (pc := 587) (lv' := [(6, .int r91), (5, .int r86), (0, va_rf (some b)), (1, va_rf (some x)), (2, va_rf (some m)), (3, va_rf (some o)), (4, .int w4)]) dL_law_587 (by decide) rfl ?_
  refine z_aload_n (C _) (pc := 589) dL_law_589 4 rfl ?_
  obtain ⟨o93, h⟩ := h
  refine z_sw t92 (fun hT1 => ?_)
  refine z_Vi (C _) (pc := 590) (KX := fun _ _ => False) (kc' := B + 2) (ks' := B2 + 12) (As := []) (rest := []) rfl (c_X9_thrown l v S90 m) mw_X9_thrown bw_1006 bw_1007 bw_1008 ⟨by have h9 : rm_X9_thrown.cells = 0 := rfl; omega, by omega, by have h9 : rm_X9_thrown.slots = 0 := rfl; omega, by omega, by decide, by decide⟩ rfl rfl (Nat.le_of_ble_eq_true rfl) (by decide) rfl o93 dL_law_590 h (fun r95 S94 h => ?_) (fun En S9 h => h.elim)
  refine z_sw hT1 (fun t96 => ?_)
  refine z_iload (C _) (pc := 593) dL_law_593 1 rfl ?_
  refine z_icmp_eq (C _) (pc := 595) (tgt := 600) dL_law_595 (by decide) h (fun h => ?_) (fun h => ?_)
  · refine z_iload (C _) (pc := 600) dL_law_600 1 rfl ?_
    refine z_if_ne (C _) (pc := 602) (tgt := 617) dL_law_602 (by decide) h (fun h => ?_) (fun h => ?_)
    · refine z_goto (C _) (pc := 617) (tgt := 2102) dL_law_617 (by decide) ?_
      refine z_iinc (C _) (pc := 2102) (y := w4 + (8 : Int32)) (lv' := [(4, .int (w4 + (8 : Int32))), (6, .int r91), (5, .int r86), (0, va_rf (some b)), (1, va_rf (some x)), (2, va_rf (some m)), (3, va_rf (some o))]) dL_law_2102 6 rfl rfl (by decide) rfl ?_
      refine z_goto (C _) (pc := 2105) (tgt := 23) dL_law_2105 (by decide) ?_
      refine z_sub [3, 4, 5, 6, 0] (lv' := [(0, va_rf (some b)), (1, va_rf (some x)), (2, va_rf (some m)), (3, va_rf (some o)), (4, .int (w4 + (8 : Int32)))]) rfl ?_
      refine z_wide (kc' := 25850 - n * 50) (ks' := 773500 - n * 1500) (by omega) (by omega) ?_
      exact ih S87 S94 f88 (w4 + (8 : Int32)) (by omega) t96 h
    · refine z_aload_n (C _) (pc := 605) dL_law_605 5 rfl ?_
      refine z_iconst (C _) (pc := 606) (x := (0 : Int32)) dL_law_606 kic_0 ?_
      refine z_lald (C []) (pc := 607) dL_law_607 vin01 ?_
      refine z_iload (C _) (pc := 608) dL_law_608 0 rfl ?_
      refine z_i2l (C _) (pc := 610) dL_law_610 ?_
      refine z_lcmp (C _) (pc := 611) dL_law_611 ?_
      refine z_if_eq (C _) (pc := 612) (tgt := 617) dL_law_612 (by decide) h (fun h => ?_) (fun h => ?_)
      · refine z_goto (C _) (pc := 617) (tgt := 2102) dL_law_617 (by decide) ?_
        refine z_iinc (C _) (pc := 2102) (y := w4 + (8 : Int32)) (lv' := [(4, .int (w4 + (8 : Int32))), (6, .int r91), (5, .int r86), (0, va_rf (some b)), (1, va_rf (some x)), (2, va_rf (some m)), (3, va_rf (some o))]) dL_law_2102 6 rfl rfl (by decide) rfl ?_
        refine z_goto (C _) (pc := 2105) (tgt := 23) dL_law_2105 (by decide) ?_
        refine z_sub [3, 4, 5, 6, 0] (lv' := [(0, va_rf (some b)), (1, va_rf (some x)), (2, va_rf (some m)), (3, va_rf (some o)), (4, .int (w4 + (8 : Int32)))]) rfl ?_
        refine z_wide (kc' := 25850 - n * 50) (ks' := 773500 - n * 1500) (by omega) (by omega) ?_
        exact ih S87 S94 f88 (w4 + (8 : Int32)) (by omega) t96 h
      · refine z_iconst (C _) (pc := 615) (x := (0 : Int32)) dL_law_615 kic_0 ?_
        exact h.elim
  · refine z_iconst (C _) (pc := 598) (x := (0 : Int32)) dL_law_598 kic_0 ?_
    exact h.elim
def wp_law_C7 (x m : Nat) (xs : Nat → Int32) (L : Nat) (K : Hp → Hp → (Nat → Int64) → Int32 → Prop) (S1 S2 : Hp) (f : Nat → Int64) (w4 : Int32) : Prop := okA S1 8 x ∧ (wp_X8_season S1 x (fun r100 S99 => okA S2 9 m ∧ (wp_X9_season S2 m (fun r103 S102 => if r100 = r103 then (K S99 S102 f (w4 + (8 : Int32))) else (False)))))
set_option maxHeartbeats 4000000 in
set_option maxRecDepth 100000 in
theorem k_law_C7 (l : Launch) (hfl : l.stackTraces = false) (v : Ev) (b x m o L : Nat) (xs : Nat → Int32) {nm9 : String} {x9 : P9} {A : Nat → Prop} {E : State → Prop} (C : ∀ X, Cx l v RL cL_law 7 (some .boolean) nm9 (x9, X, A, E)) (hX : LX b L xs A x9) (hE : LE b A E x9) {n B B2 : Nat} (hB : B = 25850 - (n + 1) * 50) (hB2 : B2 = 773500 - (n + 1) * 1500) (hn : n + 1 ≤ 513) {K : Hp → Hp → (Nat → Int64) → Int32 → Prop} (ih : ∀ (S1 S2 : Hp) (f : Nat → Int64) (w4 : Int32), n ≤ 513 → g_T S2 = v.2.2.1 → K S1 S2 f w4 → ZZ l v 7 room_1 (x9, wl v.2.1 o f (g_w v.2.1 S2), A, E) (25850 - n * 50) (773500 - n * 1500) S1 23 [(0, va_rf (some b)), (1, va_rf (some x)), (2, va_rf (some m)), (3, va_rf (some o)), (4, .int w4)] []) (S1 S2 : Hp) (f : Nat → Int64) (w4 : Int32) (hT2 : g_T S2 = v.2.2.1) (h : wp_law_C7 x m xs L K S1 S2 f w4) : ZZ l v 7 room_1 (x9, wl v.2.1 o f (g_w v.2.1 S2), A, E) (B + 0) (B2 + 0) S1 620 [(0, va_rf (some b)), (1, va_rf (some x)), (2, va_rf (some m)), (3, va_rf (some o)), (4, .int w4)] [] := by
  have hR : 600000 ≤ room_1.cells := Nat.le_of_ble_eq_true rfl
  have hR2 : 7000000 ≤ room_1.slots := Nat.le_of_ble_eq_true rfl
  unfold wp_law_C7 at h
  refine z_aload_n (C _) (pc := 620) dL_law_620 1 rfl ?_
  obtain ⟨o98, h⟩ := h
  refine z_Vi (C _) (pc := 621) (KX := fun _ _ => False) (kc' := B + 0) (ks' := B2 + 0) (As := []) (rest := []) rfl (c_X8_season l v S1 x) mw_X8_season bw_97 bw_98 bw_99 ⟨by have h9 : rm_X8_season.cells = 0 := rfl; omega, by omega, by have h9 : rm_X8_season.slots = 0 := rfl; omega, by omega, by decide, by decide⟩ rfl rfl (Nat.le_of_ble_eq_true rfl) (by decide) rfl o98 dL_law_621 h (fun r100 S99 h => ?_) (fun En S9 h => h.elim)
  refine z_aload_n (C _) (pc := 624) dL_law_624 2 rfl ?_
  obtain ⟨o101, h⟩ := h
  refine z_sw hT2 (fun hT1 => ?_)
  refine z_Vi (C _) (pc := 625) (KX := fun _ _ => False) (kc' := B + 0) (ks' := B2 + 0) (As := []) (rest := [.int r100]) rfl (c_X9_season l v S2 m) mw_X9_season bw_1092 bw_1093 bw_1094 ⟨by have h9 : rm_X9_season.cells = 0 := rfl; omega, by omega, by have h9 : rm_X9_season.slots = 0 := rfl; omega, by omega, by decide, by decide⟩ rfl rfl (Nat.le_of_ble_eq_true rfl) (by decide) rfl o101 dL_law_625 h (fun r103 S102 h => ?_) (fun En S9 h => h.elim)
  refine z_sw hT1 (fun t104 => ?_)
  refine z_icmp_eq (C _) (pc := 628) (tgt := 2102) dL_law_628 (by decide) h (fun h => ?_) (fun h => ?_)
  · refine z_iinc (C _) (pc := 2102) (y := w4 + (8 : Int32)) (lv' := [(4, .int (w4 + (8 : Int32))), (0, va_rf (some b)), (1, va_rf (some x)), (2, va_rf (some m)), (3, va_rf (some o))]) dL_law_2102 4 rfl rfl (by decide) rfl ?_
    refine z_goto (C _) (pc := 2105) (tgt := 23) dL_law_2105 (by decide) ?_
    refine z_sub [1, 2, 3, 4, 0] (lv' := [(0, va_rf (some b)), (1, va_rf (some x)), (2, va_rf (some m)), (3, va_rf (some o)), (4, .int (w4 + (8 : Int32)))]) rfl ?_
    refine z_wide (kc' := 25850 - n * 50) (ks' := 773500 - n * 1500) (by omega) (by omega) ?_
    exact ih S99 S102 f (w4 + (8 : Int32)) (by omega) t104 h
  · refine z_iconst (C _) (pc := 631) (x := (0 : Int32)) dL_law_631 kic_0 ?_
    exact h.elim
def wp_law_C8 (x m : Nat) (xs : Nat → Int32) (L : Nat) (K : Hp → Hp → (Nat → Int64) → Int32 → Prop) (S1 S2 : Hp) (f : Nat → Int64) (w4 : Int32) : Prop := wp_L_leader S1 x f (fun r106 S107 f108 => okA S2 9 m ∧ (wp_X9_leader S2 m (fun r111 S110 => okA S110 9 m ∧ (wp_X9_thrown S110 m (fun r115 S114 => if r115 = r106 then (if r106 = 0 then (if (lg_cmp (f108 (0 : Int32).toNatClampNeg) r111.toInt64) = 0 then (K S107 S114 f108 (w4 + (8 : Int32))) else (False)) else (K S107 S114 f108 (w4 + (8 : Int32)))) else (False))))))
set_option maxHeartbeats 4000000 in
set_option maxRecDepth 100000 in
theorem k_law_C8 (l : Launch) (hfl : l.stackTraces = false) (v : Ev) (b x m o L : Nat) (xs : Nat → Int32) {nm9 : String} {x9 : P9} {A : Nat → Prop} {E : State → Prop} (C : ∀ X, Cx l v RL cL_law 7 (some .boolean) nm9 (x9, X, A, E)) (hX : LX b L xs A x9) (hE : LE b A E x9) {n B B2 : Nat} (hB : B = 25850 - (n + 1) * 50) (hB2 : B2 = 773500 - (n + 1) * 1500) (hn : n + 1 ≤ 513) {K : Hp → Hp → (Nat → Int64) → Int32 → Prop} (ih : ∀ (S1 S2 : Hp) (f : Nat → Int64) (w4 : Int32), n ≤ 513 → g_T S2 = v.2.2.1 → K S1 S2 f w4 → ZZ l v 7 room_1 (x9, wl v.2.1 o f (g_w v.2.1 S2), A, E) (25850 - n * 50) (773500 - n * 1500) S1 23 [(0, va_rf (some b)), (1, va_rf (some x)), (2, va_rf (some m)), (3, va_rf (some o)), (4, .int w4)] []) (S1 S2 : Hp) (f : Nat → Int64) (w4 : Int32) (hT2 : g_T S2 = v.2.2.1) (h : wp_law_C8 x m xs L K S1 S2 f w4) : ZZ l v 7 room_1 (x9, wl v.2.1 o f (g_w v.2.1 S2), A, E) (B + 0) (B2 + 0) S1 633 [(0, va_rf (some b)), (1, va_rf (some x)), (2, va_rf (some m)), (3, va_rf (some o)), (4, .int w4)] [] := by
  have hR : 600000 ≤ room_1.cells := Nat.le_of_ble_eq_true rfl
  have hR2 : 7000000 ≤ room_1.slots := Nat.le_of_ble_eq_true rfl
  unfold wp_law_C8 at h
  refine z_aload_n (C _) (pc := 633) dL_law_633 1 rfl ?_
  refine z_aload_n (C _) (pc := 634) dL_law_634 3 rfl ?_
  refine z_SL (C []) (pc := 635) (kc' := B + 6) (ks' := B2 + 84) (As := [va_rf (some x), va_rf (some o)]) (rest := []) (c_L_leader l hfl v S1 x o f) bw_513 bw_0 (by decide +kernel) (n := 2) (by decide +kernel) bw_511 bw_512 ⟨by have h9 : rm_L_leader.cells = 6 := rfl; omega, by omega, by have h9 : rm_L_leader.slots = 84 := rfl; omega, by omega, by decide, by decide⟩ rfl rfl (Nat.le_of_ble_eq_true rfl) dL_law_635 h (fun r106 S107 f108 h => ?_)
  refine z_istore (C _) (pc := 638) (lv' := [(5, .int r106), (0, va_rf (some b)), (1, va_rf (some x)), (2, va_rf (some m)), (3, va_rf (some o)), (4, .int w4)]) dL_law_638 (by decide) rfl ?_
  refine z_aload_n (C _) (pc := 640) dL_law_640 3 rfl ?_
  obtain ⟨o109, h⟩ := h
  refine z_sw hT2 (fun hT1 => ?_)
  refine z_Vi (C _) (pc := 641) (KX := fun _ _ => False) (kc' := B + 6) (ks' := B2 + 84) (As := []) (rest := []) rfl (c_X9_leader l v S2 m) mw_X9_leader bw_1100 bw_1101 bw_1102 ⟨by have h9 : rm_X9_leader.cells = 0 := rfl; omega, by omega, by have h9 : rm_X9_leader.slots = 0 := rfl; omega, by omega, by decide, by decide⟩ rfl rfl (Nat.le_of_ble_eq_true rfl) (by decide) rfl o109 dL_law_641 h (fun r111 S110 h => ?_) (fun En S9 h => h.elim)
  refine z_sw hT1 (fun t112 => ?_)
  refine z_istore (C _) (pc := 644) (lv' := [(6, .int r111), (5, .int r106), (0, va_rf (some b)), (1, va_rf (some x)), (2, va_rf (some m)), (3, va_rf (some o)), (4, .int w4)]) dL_law_644 (by decide) rfl ?_
  refine z_aload_n (C _) (pc := 646) dL_law_646 4 rfl ?_
  obtain ⟨o113, h⟩ := h
  refine z_sw t112 (fun hT1 => ?_)
  refine z_Vi (C _) (pc := 647) (KX := fun _ _ => False) (kc' := B + 6) (ks' := B2 + 84) (As := []) (rest := []) rfl (c_X9_thrown l v S110 m) mw_X9_thrown bw_1006 bw_1007 bw_1008 ⟨by have h9 : rm_X9_thrown.cells = 0 := rfl; omega, by omega, by have h9 : rm_X9_thrown.slots = 0 := rfl; omega, by omega, by decide, by decide⟩ rfl rfl (Nat.le_of_ble_eq_true rfl) (by decide) rfl o113 dL_law_647 h (fun r115 S114 h => ?_) (fun En S9 h => h.elim)
  refine z_sw hT1 (fun t116 => ?_)
  refine z_iload (C _) (pc := 650) dL_law_650 1 rfl ?_
  refine z_icmp_eq (C _) (pc := 652) (tgt := 657) dL_law_652 (by decide) h (fun h => ?_) (fun h => ?_)
  · refine z_iload (C _) (pc := 657) dL_law_657 1 rfl ?_
    refine z_if_ne (C _) (pc := 659) (tgt := 674) dL_law_659 (by decide) h (fun h => ?_) (fun h => ?_)
    · refine z_goto (C _) (pc := 674) (tgt := 2102) dL_law_674 (by decide) ?_
      refine z_iinc (C _) (pc := 2102) (y := w4 + (8 : Int32)) (lv' := [(4, .int (w4 + (8 : Int32))), (6, .int r111), (5, .int r106), (0, va_rf (some b)), (1, va_rf (some x)), (2, va_rf (some m)), (3, va_rf (some o))]) dL_law_2102 6 rfl rfl (by decide) rfl ?_
      refine z_goto (C _) (pc := 2105) (tgt := 23) dL_law_2105 (by decide) ?_
      refine z_sub [3, 4, 5, 6, 0] (lv' := [(0, va_rf (some b)), (1, va_rf (some x)), (2, va_rf (some m)), (3, va_rf (some o)), (4, .int (w4 + (8 : Int32)))]) rfl ?_
      refine z_wide (kc' := 25850 - n * 50) (ks' := 773500 - n * 1500) (by omega) (by omega) ?_
      exact ih S107 S114 f108 (w4 + (8 : Int32)) (by omega) t116 h
    · refine z_aload_n (C _) (pc := 662) dL_law_662 5 rfl ?_
      refine z_iconst (C _) (pc := 663) (x := (0 : Int32)) dL_law_663 kic_0 ?_
      refine z_lald (C []) (pc := 664) dL_law_664 vin01 ?_
      refine z_iload (C _) (pc := 665) dL_law_665 0 rfl ?_
      refine z_i2l (C _) (pc := 667) dL_law_667 ?_
      refine z_lcmp (C _) (pc := 668) dL_law_668 ?_
      refine z_if_eq (C _) (pc := 669) (tgt := 674) dL_law_669 (by decide) h (fun h => ?_) (fun h => ?_)
      · refine z_goto (C _) (pc := 674) (tgt := 2102) dL_law_674 (by decide) ?_
        refine z_iinc (C _) (pc := 2102) (y := w4 + (8 : Int32)) (lv' := [(4, .int (w4 + (8 : Int32))), (6, .int r111), (5, .int r106), (0, va_rf (some b)), (1, va_rf (some x)), (2, va_rf (some m)), (3, va_rf (some o))]) dL_law_2102 6 rfl rfl (by decide) rfl ?_
        refine z_goto (C _) (pc := 2105) (tgt := 23) dL_law_2105 (by decide) ?_
        refine z_sub [3, 4, 5, 6, 0] (lv' := [(0, va_rf (some b)), (1, va_rf (some x)), (2, va_rf (some m)), (3, va_rf (some o)), (4, .int (w4 + (8 : Int32)))]) rfl ?_
        refine z_wide (kc' := 25850 - n * 50) (ks' := 773500 - n * 1500) (by omega) (by omega) ?_
        exact ih S107 S114 f108 (w4 + (8 : Int32)) (by omega) t116 h
      · refine z_iconst (C _) (pc := 672) (x := (0 : Int32)) dL_law_672 kic_0 ?_
        exact h.elim
  · refine z_iconst (C _) (pc := 655) (x := (0 : Int32)) dL_law_655 kic_0 ?_
    exact h.elim
def wp_law_C9 (x m : Nat) (xs : Nat → Int32) (L : Nat) (K : Hp → Hp → (Nat → Int64) → Int32 → Prop) (S1 S2 : Hp) (f : Nat → Int64) (w4 : Int32) : Prop := vp_in (w4 + (1 : Int32)) L ∧ (vp_in (w4 + (2 : Int32)) L ∧ (vp_in (w4 + (3 : Int32)) L ∧ (vp_in (w4 + (4 : Int32)) L ∧ (wp_L_vet S1 x (xs (w4 + (1 : Int32)).toNatClampNeg) (xs (w4 + (2 : Int32)).toNatClampNeg) (xs (w4 + (3 : Int32)).toNatClampNeg) (xs (w4 + (4 : Int32)).toNatClampNeg) f (fun r122 S123 f124 => okA S2 9 m ∧ (wp_X9_vet S2 m (xs (w4 + (1 : Int32)).toNatClampNeg) (xs (w4 + (2 : Int32)).toNatClampNeg) (xs (w4 + (3 : Int32)).toNatClampNeg) (xs (w4 + (4 : Int32)).toNatClampNeg) (fun S126 => okA S126 9 m ∧ (wp_X9_thrown S126 m (fun r130 S129 => if r130 = r122 then (K S123 S129 f124 (w4 + (8 : Int32))) else (False))))))))))
set_option maxHeartbeats 4000000 in
set_option maxRecDepth 100000 in
theorem k_law_C9 (l : Launch) (hfl : l.stackTraces = false) (v : Ev) (b x m o L : Nat) (xs : Nat → Int32) {nm9 : String} {x9 : P9} {A : Nat → Prop} {E : State → Prop} (C : ∀ X, Cx l v RL cL_law 7 (some .boolean) nm9 (x9, X, A, E)) (hX : LX b L xs A x9) (hE : LE b A E x9) {n B B2 : Nat} (hB : B = 25850 - (n + 1) * 50) (hB2 : B2 = 773500 - (n + 1) * 1500) (hn : n + 1 ≤ 513) {K : Hp → Hp → (Nat → Int64) → Int32 → Prop} (ih : ∀ (S1 S2 : Hp) (f : Nat → Int64) (w4 : Int32), n ≤ 513 → g_T S2 = v.2.2.1 → K S1 S2 f w4 → ZZ l v 7 room_1 (x9, wl v.2.1 o f (g_w v.2.1 S2), A, E) (25850 - n * 50) (773500 - n * 1500) S1 23 [(0, va_rf (some b)), (1, va_rf (some x)), (2, va_rf (some m)), (3, va_rf (some o)), (4, .int w4)] []) (S1 S2 : Hp) (f : Nat → Int64) (w4 : Int32) (hT2 : g_T S2 = v.2.2.1) (h : wp_law_C9 x m xs L K S1 S2 f w4) : ZZ l v 7 room_1 (x9, wl v.2.1 o f (g_w v.2.1 S2), A, E) (B + 0) (B2 + 0) S1 677 [(0, va_rf (some b)), (1, va_rf (some x)), (2, va_rf (some m)), (3, va_rf (some o)), (4, .int w4)] [] := by
  have hR : 600000 ≤ room_1.cells := Nat.le_of_ble_eq_true rfl
  have hR2 : 7000000 ≤ room_1.slots := Nat.le_of_ble_eq_true rfl
  unfold wp_law_C9 at h
  refine z_aload_n (C _) (pc := 677) dL_law_677 1 rfl ?_
  refine z_aload_n (C _) (pc := 678) dL_law_678 0 rfl ?_
  refine z_iload (C _) (pc := 679) dL_law_679 4 rfl ?_
  refine z_iconst (C _) (pc := 681) (x := (1 : Int32)) dL_law_681 kic_1 ?_
  refine z_iadd (C _) (pc := 682) dL_law_682 ?_
  obtain ⟨v118, h⟩ := h
  refine z_sld (C _) hX (pc := 683) dL_law_683 v118 ?_
  refine z_aload_n (C _) (pc := 684) dL_law_684 0 rfl ?_
  refine z_iload (C _) (pc := 685) dL_law_685 4 rfl ?_
  refine z_iconst (C _) (pc := 687) (x := (2 : Int32)) dL_law_687 kic_2 ?_
  refine z_iadd (C _) (pc := 688) dL_law_688 ?_
  obtain ⟨v119, h⟩ := h
  refine z_sld (C _) hX (pc := 689) dL_law_689 v119 ?_
  refine z_aload_n (C _) (pc := 690) dL_law_690 0 rfl ?_
  refine z_iload (C _) (pc := 691) dL_law_691 4 rfl ?_
  refine z_iconst (C _) (pc := 693) (x := (3 : Int32)) dL_law_693 kic_3 ?_
  refine z_iadd (C _) (pc := 694) dL_law_694 ?_
  obtain ⟨v120, h⟩ := h
  refine z_sld (C _) hX (pc := 695) dL_law_695 v120 ?_
  refine z_aload_n (C _) (pc := 696) dL_law_696 0 rfl ?_
  refine z_iload (C _) (pc := 697) dL_law_697 4 rfl ?_
  refine z_iconst (C _) (pc := 699) (x := (4 : Int32)) dL_law_699 kic_4 ?_
  refine z_iadd (C _) (pc := 700) dL_law_700 ?_
  obtain ⟨v121, h⟩ := h
  refine z_sld (C _) hX (pc := 701) dL_law_701 v121 ?_
  refine z_SL (C []) (pc := 702) (kc' := B + 4) (ks' := B2 + 24) (As := [va_rf (some x), .int (xs (w4 + (1 : Int32)).toNatClampNeg), .int (xs (w4 + (2 : Int32)).toNatClampNeg), .int (xs (w4 + (3 : Int32)).toNatClampNeg), .int (xs (w4 + (4 : Int32)).toNatClampNeg)]) (rest := []) (c_L_vet l hfl v S1 x o (xs (w4 + (1 : Int32)).toNatClampNeg) (xs (w4 + (2 : Int32)).toNatClampNeg) (xs (w4 + (3 : Int32)).toNatClampNeg) (xs (w4 + (4 : Int32)).toNatClampNeg) f) bw_539 bw_0 (by decide +kernel) (n := 5) (by decide +kernel) bw_537 bw_538 ⟨by have h9 : rm_L_vet.cells = 4 := rfl; omega, by omega, by have h9 : rm_L_vet.slots = 24 := rfl; omega, by omega, by decide, by decide⟩ rfl rfl (Nat.le_of_ble_eq_true rfl) dL_law_702 h (fun r122 S123 f124 h => ?_)
  refine z_istore (C _) (pc := 705) (lv' := [(5, .int r122), (0, va_rf (some b)), (1, va_rf (some x)), (2, va_rf (some m)), (3, va_rf (some o)), (4, .int w4)]) dL_law_705 (by decide) rfl ?_
  refine z_aload_n (C _) (pc := 707) dL_law_707 3 rfl ?_
  refine z_aload_n (C _) (pc := 708) dL_law_708 1 rfl ?_
  refine z_iload (C _) (pc := 709) dL_law_709 5 rfl ?_
  refine z_iconst (C _) (pc := 711) (x := (1 : Int32)) dL_law_711 kic_1 ?_
  refine z_iadd (C _) (pc := 712) dL_law_712 ?_
  refine z_sld (C _) hX (pc := 713) dL_law_713 v118 ?_
  refine z_aload_n (C _) (pc := 714) dL_law_714 1 rfl ?_
  refine z_iload (C _) (pc := 715) dL_law_715 5 rfl ?_
  refine z_iconst (C _) (pc := 717) (x := (2 : Int32)) dL_law_717 kic_2 ?_
  refine z_iadd (C _) (pc := 718) dL_law_718 ?_
  refine z_sld (C _) hX (pc := 719) dL_law_719 v119 ?_
  refine z_aload_n (C _) (pc := 720) dL_law_720 1 rfl ?_
  refine z_iload (C _) (pc := 721) dL_law_721 5 rfl ?_
  refine z_iconst (C _) (pc := 723) (x := (3 : Int32)) dL_law_723 kic_3 ?_
  refine z_iadd (C _) (pc := 724) dL_law_724 ?_
  refine z_sld (C _) hX (pc := 725) dL_law_725 v120 ?_
  refine z_aload_n (C _) (pc := 726) dL_law_726 1 rfl ?_
  refine z_iload (C _) (pc := 727) dL_law_727 5 rfl ?_
  refine z_iconst (C _) (pc := 729) (x := (4 : Int32)) dL_law_729 kic_4 ?_
  refine z_iadd (C _) (pc := 730) dL_law_730 ?_
  refine z_sld (C _) hX (pc := 731) dL_law_731 v121 ?_
  obtain ⟨o125, h⟩ := h
  refine z_sw hT2 (fun hT1 => ?_)
  refine z_Vv (C _) (pc := 732) (KX := fun _ _ => False) (kc' := B + 4) (ks' := B2 + 24) (As := [.int (xs (w4 + (1 : Int32)).toNatClampNeg), .int (xs (w4 + (2 : Int32)).toNatClampNeg), .int (xs (w4 + (3 : Int32)).toNatClampNeg), .int (xs (w4 + (4 : Int32)).toNatClampNeg)]) (rest := []) rfl (c_X9_vet l v S2 m (xs (w4 + (1 : Int32)).toNatClampNeg) (xs (w4 + (2 : Int32)).toNatClampNeg) (xs (w4 + (3 : Int32)).toNatClampNeg) (xs (w4 + (4 : Int32)).toNatClampNeg)) mw_X9_vet bw_1104 bw_1105 bw_1106 ⟨by have h9 : rm_X9_vet.cells = 0 := rfl; omega, by omega, by have h9 : rm_X9_vet.slots = 0 := rfl; omega, by omega, by decide, by decide⟩ rfl rfl (Nat.le_of_ble_eq_true rfl) (by decide) rfl o125 dL_law_732 h (fun S126 h => ?_) (fun En S9 h => h.elim)
  refine z_sw hT1 (fun t127 => ?_)
  refine z_aload_n (C _) (pc := 735) dL_law_735 3 rfl ?_
  obtain ⟨o128, h⟩ := h
  refine z_sw t127 (fun hT1 => ?_)
  refine z_Vi (C _) (pc := 736) (KX := fun _ _ => False) (kc' := B + 4) (ks' := B2 + 24) (As := []) (rest := []) rfl (c_X9_thrown l v S126 m) mw_X9_thrown bw_1006 bw_1007 bw_1008 ⟨by have h9 : rm_X9_thrown.cells = 0 := rfl; omega, by omega, by have h9 : rm_X9_thrown.slots = 0 := rfl; omega, by omega, by decide, by decide⟩ rfl rfl (Nat.le_of_ble_eq_true rfl) (by decide) rfl o128 dL_law_736 h (fun r130 S129 h => ?_) (fun En S9 h => h.elim)
  refine z_sw hT1 (fun t131 => ?_)
  refine z_iload (C _) (pc := 739) dL_law_739 0 rfl ?_
  refine z_icmp_eq (C _) (pc := 741) (tgt := 746) dL_law_741 (by decide) h (fun h => ?_) (fun h => ?_)
  · refine z_goto (C _) (pc := 746) (tgt := 2102) dL_law_746 (by decide) ?_
    refine z_iinc (C _) (pc := 2102) (y := w4 + (8 : Int32)) (lv' := [(4, .int (w4 + (8 : Int32))), (5, .int r122), (0, va_rf (some b)), (1, va_rf (some x)), (2, va_rf (some m)), (3, va_rf (some o))]) dL_law_2102 5 rfl rfl (by decide) rfl ?_
    refine z_goto (C _) (pc := 2105) (tgt := 23) dL_law_2105 (by decide) ?_
    refine z_sub [2, 3, 4, 5, 0] (lv' := [(0, va_rf (some b)), (1, va_rf (some x)), (2, va_rf (some m)), (3, va_rf (some o)), (4, .int (w4 + (8 : Int32)))]) rfl ?_
    refine z_wide (kc' := 25850 - n * 50) (ks' := 773500 - n * 1500) (by omega) (by omega) ?_
    exact ih S123 S129 f124 (w4 + (8 : Int32)) (by omega) t131 h
  · refine z_iconst (C _) (pc := 744) (x := (0 : Int32)) dL_law_744 kic_0 ?_
    exact h.elim
def wp_law_C10 (x m : Nat) (xs : Nat → Int32) (L : Nat) (K : Hp → Hp → (Nat → Int64) → Int32 → Prop) (S1 S2 : Hp) (f : Nat → Int64) (w4 : Int32) : Prop := vp_in (w4 + (1 : Int32)) L ∧ (vp_in (w4 + (2 : Int32)) L ∧ (vp_in (w4 + (3 : Int32)) L ∧ (wp_L_permit S1 x (xs (w4 + (1 : Int32)).toNatClampNeg) (xs (w4 + (2 : Int32)).toNatClampNeg) (xs (w4 + (3 : Int32)).toNatClampNeg) f (fun r136 S137 f138 => okA S2 9 m ∧ (wp_X9_permit S2 m (xs (w4 + (1 : Int32)).toNatClampNeg) (xs (w4 + (2 : Int32)).toNatClampNeg) (xs (w4 + (3 : Int32)).toNatClampNeg) (fun r141 S140 => okA S140 9 m ∧ (wp_X9_thrown S140 m (fun r145 S144 => if r145 = r136 then (if r136 = 0 then (if (lg_cmp (f138 (0 : Int32).toNatClampNeg) r141.toInt64) = 0 then (K S137 S144 f138 (w4 + (8 : Int32))) else (False)) else (K S137 S144 f138 (w4 + (8 : Int32)))) else (False)))))))))
set_option maxHeartbeats 4000000 in
set_option maxRecDepth 100000 in
theorem k_law_C10 (l : Launch) (hfl : l.stackTraces = false) (v : Ev) (b x m o L : Nat) (xs : Nat → Int32) {nm9 : String} {x9 : P9} {A : Nat → Prop} {E : State → Prop} (C : ∀ X, Cx l v RL cL_law 7 (some .boolean) nm9 (x9, X, A, E)) (hX : LX b L xs A x9) (hE : LE b A E x9) {n B B2 : Nat} (hB : B = 25850 - (n + 1) * 50) (hB2 : B2 = 773500 - (n + 1) * 1500) (hn : n + 1 ≤ 513) {K : Hp → Hp → (Nat → Int64) → Int32 → Prop} (ih : ∀ (S1 S2 : Hp) (f : Nat → Int64) (w4 : Int32), n ≤ 513 → g_T S2 = v.2.2.1 → K S1 S2 f w4 → ZZ l v 7 room_1 (x9, wl v.2.1 o f (g_w v.2.1 S2), A, E) (25850 - n * 50) (773500 - n * 1500) S1 23 [(0, va_rf (some b)), (1, va_rf (some x)), (2, va_rf (some m)), (3, va_rf (some o)), (4, .int w4)] []) (S1 S2 : Hp) (f : Nat → Int64) (w4 : Int32) (hT2 : g_T S2 = v.2.2.1) (h : wp_law_C10 x m xs L K S1 S2 f w4) : ZZ l v 7 room_1 (x9, wl v.2.1 o f (g_w v.2.1 S2), A, E) (B + 0) (B2 + 0) S1 749 [(0, va_rf (some b)), (1, va_rf (some x)), (2, va_rf (some m)), (3, va_rf (some o)), (4, .int w4)] [] := by
  have hR : 600000 ≤ room_1.cells := Nat.le_of_ble_eq_true rfl
  have hR2 : 7000000 ≤ room_1.slots := Nat.le_of_ble_eq_true rfl
  unfold wp_law_C10 at h
  refine z_aload_n (C _) (pc := 749) dL_law_749 1 rfl ?_
  refine z_aload_n (C _) (pc := 750) dL_law_750 0 rfl ?_
  refine z_iload (C _) (pc := 751) dL_law_751 4 rfl ?_
  refine z_iconst (C _) (pc := 753) (x := (1 : Int32)) dL_law_753 kic_1 ?_
  refine z_iadd (C _) (pc := 754) dL_law_754 ?_
  obtain ⟨v133, h⟩ := h
  refine z_sld (C _) hX (pc := 755) dL_law_755 v133 ?_
  refine z_aload_n (C _) (pc := 756) dL_law_756 0 rfl ?_
  refine z_iload (C _) (pc := 757) dL_law_757 4 rfl ?_
  refine z_iconst (C _) (pc := 759) (x := (2 : Int32)) dL_law_759 kic_2 ?_
  refine z_iadd (C _) (pc := 760) dL_law_760 ?_
  obtain ⟨v134, h⟩ := h
  refine z_sld (C _) hX (pc := 761) dL_law_761 v134 ?_
  refine z_aload_n (C _) (pc := 762) dL_law_762 0 rfl ?_
  refine z_iload (C _) (pc := 763) dL_law_763 4 rfl ?_
  refine z_iconst (C _) (pc := 765) (x := (3 : Int32)) dL_law_765 kic_3 ?_
  refine z_iadd (C _) (pc := 766) dL_law_766 ?_
  obtain ⟨v135, h⟩ := h
  refine z_sld (C _) hX (pc := 767) dL_law_767 v135 ?_
  refine z_aload_n (C _) (pc := 768) dL_law_768 3 rfl ?_
  refine z_SL (C []) (pc := 769) (kc' := B + 3) (ks' := B2 + 18) (As := [va_rf (some x), .int (xs (w4 + (1 : Int32)).toNatClampNeg), .int (xs (w4 + (2 : Int32)).toNatClampNeg), .int (xs (w4 + (3 : Int32)).toNatClampNeg), va_rf (some o)]) (rest := []) (c_L_permit l hfl v S1 x o (xs (w4 + (1 : Int32)).toNatClampNeg) (xs (w4 + (2 : Int32)).toNatClampNeg) (xs (w4 + (3 : Int32)).toNatClampNeg) f) bw_554 bw_0 (by decide +kernel) (n := 5) (by decide +kernel) bw_552 bw_553 ⟨by have h9 : rm_L_permit.cells = 3 := rfl; omega, by omega, by have h9 : rm_L_permit.slots = 18 := rfl; omega, by omega, by decide, by decide⟩ rfl rfl (Nat.le_of_ble_eq_true rfl) dL_law_769 h (fun r136 S137 f138 h => ?_)
  refine z_istore (C _) (pc := 772) (lv' := [(5, .int r136), (0, va_rf (some b)), (1, va_rf (some x)), (2, va_rf (some m)), (3, va_rf (some o)), (4, .int w4)]) dL_law_772 (by decide) rfl ?_
  refine z_aload_n (C _) (pc := 774) dL_law_774 3 rfl ?_
  refine z_aload_n (C _) (pc := 775) dL_law_775 1 rfl ?_
  refine z_iload (C _) (pc := 776) dL_law_776 5 rfl ?_
  refine z_iconst (C _) (pc := 778) (x := (1 : Int32)) dL_law_778 kic_1 ?_
  refine z_iadd (C _) (pc := 779) dL_law_779 ?_
  refine z_sld (C _) hX (pc := 780) dL_law_780 v133 ?_
  refine z_aload_n (C _) (pc := 781) dL_law_781 1 rfl ?_
  refine z_iload (C _) (pc := 782) dL_law_782 5 rfl ?_
  refine z_iconst (C _) (pc := 784) (x := (2 : Int32)) dL_law_784 kic_2 ?_
  refine z_iadd (C _) (pc := 785) dL_law_785 ?_
  refine z_sld (C _) hX (pc := 786) dL_law_786 v134 ?_
  refine z_aload_n (C _) (pc := 787) dL_law_787 1 rfl ?_
  refine z_iload (C _) (pc := 788) dL_law_788 5 rfl ?_
  refine z_iconst (C _) (pc := 790) (x := (3 : Int32)) dL_law_790 kic_3 ?_
  refine z_iadd (C _) (pc := 791) dL_law_791 ?_
  refine z_sld (C _) hX (pc := 792) dL_law_792 v135 ?_
  obtain ⟨o139, h⟩ := h
  refine z_sw hT2 (fun hT1 => ?_)
  refine z_Vi (C _) (pc := 793) (KX := fun _ _ => False) (kc' := B + 3) (ks' := B2 + 18) (As := [.int (xs (w4 + (1 : Int32)).toNatClampNeg), .int (xs (w4 + (2 : Int32)).toNatClampNeg), .int (xs (w4 + (3 : Int32)).toNatClampNeg)]) (rest := []) rfl (c_X9_permit l v S2 m (xs (w4 + (1 : Int32)).toNatClampNeg) (xs (w4 + (2 : Int32)).toNatClampNeg) (xs (w4 + (3 : Int32)).toNatClampNeg)) mw_X9_permit bw_1115 bw_1116 bw_1117 ⟨by have h9 : rm_X9_permit.cells = 0 := rfl; omega, by omega, by have h9 : rm_X9_permit.slots = 0 := rfl; omega, by omega, by decide, by decide⟩ rfl rfl (Nat.le_of_ble_eq_true rfl) (by decide) rfl o139 dL_law_793 h (fun r141 S140 h => ?_) (fun En S9 h => h.elim)
  refine z_sw hT1 (fun t142 => ?_)
  refine z_istore (C _) (pc := 796) (lv' := [(6, .int r141), (5, .int r136), (0, va_rf (some b)), (1, va_rf (some x)), (2, va_rf (some m)), (3, va_rf (some o)), (4, .int w4)]) dL_law_796 (by decide) rfl ?_
  refine z_aload_n (C _) (pc := 798) dL_law_798 4 rfl ?_
  obtain ⟨o143, h⟩ := h
  refine z_sw t142 (fun hT1 => ?_)
  refine z_Vi (C _) (pc := 799) (KX := fun _ _ => False) (kc' := B + 3) (ks' := B2 + 18) (As := []) (rest := []) rfl (c_X9_thrown l v S140 m) mw_X9_thrown bw_1006 bw_1007 bw_1008 ⟨by have h9 : rm_X9_thrown.cells = 0 := rfl; omega, by omega, by have h9 : rm_X9_thrown.slots = 0 := rfl; omega, by omega, by decide, by decide⟩ rfl rfl (Nat.le_of_ble_eq_true rfl) (by decide) rfl o143 dL_law_799 h (fun r145 S144 h => ?_) (fun En S9 h => h.elim)
  refine z_sw hT1 (fun t146 => ?_)
  refine z_iload (C _) (pc := 802) dL_law_802 1 rfl ?_
  refine z_icmp_eq (C _) (pc := 804) (tgt := 809) dL_law_804 (by decide) h (fun h => ?_) (fun h => ?_)
  · refine z_iload (C _) (pc := 809) dL_law_809 1 rfl ?_
    refine z_if_ne (C _) (pc := 811) (tgt := 826) dL_law_811 (by decide) h (fun h => ?_) (fun h => ?_)
    · refine z_goto (C _) (pc := 826) (tgt := 2102) dL_law_826 (by decide) ?_
      refine z_iinc (C _) (pc := 2102) (y := w4 + (8 : Int32)) (lv' := [(4, .int (w4 + (8 : Int32))), (6, .int r141), (5, .int r136), (0, va_rf (some b)), (1, va_rf (some x)), (2, va_rf (some m)), (3, va_rf (some o))]) dL_law_2102 6 rfl rfl (by decide) rfl ?_
      refine z_goto (C _) (pc := 2105) (tgt := 23) dL_law_2105 (by decide) ?_
      refine z_sub [3, 4, 5, 6, 0] (lv' := [(0, va_rf (some b)), (1, va_rf (some x)), (2, va_rf (some m)), (3, va_rf (some o)), (4, .int (w4 + (8 : Int32)))]) rfl ?_
      refine z_wide (kc' := 25850 - n * 50) (ks' := 773500 - n * 1500) (by omega) (by omega) ?_
      exact ih S137 S144 f138 (w4 + (8 : Int32)) (by omega) t146 h
    · refine z_aload_n (C _) (pc := 814) dL_law_814 5 rfl ?_
      refine z_iconst (C _) (pc := 815) (x := (0 : Int32)) dL_law_815 kic_0 ?_
      refine z_lald (C []) (pc := 816) dL_law_816 vin01 ?_
      refine z_iload (C _) (pc := 817) dL_law_817 0 rfl ?_
      refine z_i2l (C _) (pc := 819) dL_law_819 ?_
      refine z_lcmp (C _) (pc := 820) dL_law_820 ?_
      refine z_if_eq (C _) (pc := 821) (tgt := 826) dL_law_821 (by decide) h (fun h => ?_) (fun h => ?_)
      · refine z_goto (C _) (pc := 826) (tgt := 2102) dL_law_826 (by decide) ?_
        refine z_iinc (C _) (pc := 2102) (y := w4 + (8 : Int32)) (lv' := [(4, .int (w4 + (8 : Int32))), (6, .int r141), (5, .int r136), (0, va_rf (some b)), (1, va_rf (some x)), (2, va_rf (some m)), (3, va_rf (some o))]) dL_law_2102 6 rfl rfl (by decide) rfl ?_
        refine z_goto (C _) (pc := 2105) (tgt := 23) dL_law_2105 (by decide) ?_
        refine z_sub [3, 4, 5, 6, 0] (lv' := [(0, va_rf (some b)), (1, va_rf (some x)), (2, va_rf (some m)), (3, va_rf (some o)), (4, .int (w4 + (8 : Int32)))]) rfl ?_
        refine z_wide (kc' := 25850 - n * 50) (ks' := 773500 - n * 1500) (by omega) (by omega) ?_
        exact ih S137 S144 f138 (w4 + (8 : Int32)) (by omega) t146 h
      · refine z_iconst (C _) (pc := 824) (x := (0 : Int32)) dL_law_824 kic_0 ?_
        exact h.elim
  · refine z_iconst (C _) (pc := 807) (x := (0 : Int32)) dL_law_807 kic_0 ?_
    exact h.elim
def wp_law_C11 (x m : Nat) (xs : Nat → Int32) (L : Nat) (K : Hp → Hp → (Nat → Int64) → Int32 → Prop) (S1 S2 : Hp) (f : Nat → Int64) (w4 : Int32) : Prop := vp_in (w4 + (1 : Int32)) L ∧ (vp_in (w4 + (2 : Int32)) L ∧ (wp_L_teach S1 x (xs (w4 + (1 : Int32)).toNatClampNeg) (xs (w4 + (2 : Int32)).toNatClampNeg) f (fun r150 S151 f152 => okA S2 9 m ∧ (wp_X9_teach S2 m (xs (w4 + (1 : Int32)).toNatClampNeg) (xs (w4 + (2 : Int32)).toNatClampNeg) (fun r155 S154 => okA S154 9 m ∧ (wp_X9_thrown S154 m (fun r159 S158 => if r159 = r150 then (if r150 = 0 then (if (lg_cmp (f152 (0 : Int32).toNatClampNeg) r155.toInt64) = 0 then (K S151 S158 f152 (w4 + (8 : Int32))) else (False)) else (K S151 S158 f152 (w4 + (8 : Int32)))) else (False))))))))
set_option maxHeartbeats 4000000 in
set_option maxRecDepth 100000 in
theorem k_law_C11 (l : Launch) (hfl : l.stackTraces = false) (v : Ev) (b x m o L : Nat) (xs : Nat → Int32) {nm9 : String} {x9 : P9} {A : Nat → Prop} {E : State → Prop} (C : ∀ X, Cx l v RL cL_law 7 (some .boolean) nm9 (x9, X, A, E)) (hX : LX b L xs A x9) (hE : LE b A E x9) {n B B2 : Nat} (hB : B = 25850 - (n + 1) * 50) (hB2 : B2 = 773500 - (n + 1) * 1500) (hn : n + 1 ≤ 513) {K : Hp → Hp → (Nat → Int64) → Int32 → Prop} (ih : ∀ (S1 S2 : Hp) (f : Nat → Int64) (w4 : Int32), n ≤ 513 → g_T S2 = v.2.2.1 → K S1 S2 f w4 → ZZ l v 7 room_1 (x9, wl v.2.1 o f (g_w v.2.1 S2), A, E) (25850 - n * 50) (773500 - n * 1500) S1 23 [(0, va_rf (some b)), (1, va_rf (some x)), (2, va_rf (some m)), (3, va_rf (some o)), (4, .int w4)] []) (S1 S2 : Hp) (f : Nat → Int64) (w4 : Int32) (hT2 : g_T S2 = v.2.2.1) (h : wp_law_C11 x m xs L K S1 S2 f w4) : ZZ l v 7 room_1 (x9, wl v.2.1 o f (g_w v.2.1 S2), A, E) (B + 0) (B2 + 0) S1 829 [(0, va_rf (some b)), (1, va_rf (some x)), (2, va_rf (some m)), (3, va_rf (some o)), (4, .int w4)] [] := by
  have hR : 600000 ≤ room_1.cells := Nat.le_of_ble_eq_true rfl
  have hR2 : 7000000 ≤ room_1.slots := Nat.le_of_ble_eq_true rfl
  unfold wp_law_C11 at h
  refine z_aload_n (C _) (pc := 829) dL_law_829 1 rfl ?_
  refine z_aload_n (C _) (pc := 830) dL_law_830 0 rfl ?_
  refine z_iload (C _) (pc := 831) dL_law_831 4 rfl ?_
  refine z_iconst (C _) (pc := 833) (x := (1 : Int32)) dL_law_833 kic_1 ?_
  refine z_iadd (C _) (pc := 834) dL_law_834 ?_
  obtain ⟨v148, h⟩ := h
  refine z_sld (C _) hX (pc := 835) dL_law_835 v148 ?_
  refine z_aload_n (C _) (pc := 836) dL_law_836 0 rfl ?_
  refine z_iload (C _) (pc := 837) dL_law_837 4 rfl ?_
  refine z_iconst (C _) (pc := 839) (x := (2 : Int32)) dL_law_839 kic_2 ?_
  refine z_iadd (C _) (pc := 840) dL_law_840 ?_
  obtain ⟨v149, h⟩ := h
  refine z_sld (C _) hX (pc := 841) dL_law_841 v149 ?_
  refine z_aload_n (C _) (pc := 842) dL_law_842 3 rfl ?_
  refine z_SL (C []) (pc := 843) (kc' := B + 2) (ks' := B2 + 12) (As := [va_rf (some x), .int (xs (w4 + (1 : Int32)).toNatClampNeg), .int (xs (w4 + (2 : Int32)).toNatClampNeg), va_rf (some o)]) (rest := []) (c_L_teach l hfl v S1 x o (xs (w4 + (1 : Int32)).toNatClampNeg) (xs (w4 + (2 : Int32)).toNatClampNeg) f) bw_569 bw_0 (by decide +kernel) (n := 4) (by decide +kernel) bw_567 bw_568 ⟨by have h9 : rm_L_teach.cells = 2 := rfl; omega, by omega, by have h9 : rm_L_teach.slots = 12 := rfl; omega, by omega, by decide, by decide⟩ rfl rfl (Nat.le_of_ble_eq_true rfl) dL_law_843 h (fun r150 S151 f152 h => ?_)
  refine z_istore (C _) (pc := 846) (lv' := [(5, .int r150), (0, va_rf (some b)), (1, va_rf (some x)), (2, va_rf (some m)), (3, va_rf (some o)), (4, .int w4)]) dL_law_846 (by decide) rfl ?_
  refine z_aload_n (C _) (pc := 848) dL_law_848 3 rfl ?_
  refine z_aload_n (C _) (pc := 849) dL_law_849 1 rfl ?_
  refine z_iload (C _) (pc := 850) dL_law_850 5 rfl ?_
  refine z_iconst (C _) (pc := 852) (x := (1 : Int32)) dL_law_852 kic_1 ?_
  refine z_iadd (C _) (pc := 853) dL_law_853 ?_
  refine z_sld (C _) hX (pc := 854) dL_law_854 v148 ?_
  refine z_aload_n (C _) (pc := 855) dL_law_855 1 rfl ?_
  refine z_iload (C _) (pc := 856) dL_law_856 5 rfl ?_
  refine z_iconst (C _) (pc := 858) (x := (2 : Int32)) dL_law_858 kic_2 ?_
  refine z_iadd (C _) (pc := 859) dL_law_859 ?_
  refine z_sld (C _) hX (pc := 860) dL_law_860 v149 ?_
  obtain ⟨o153, h⟩ := h
  refine z_sw hT2 (fun hT1 => ?_)
  refine z_Vi (C _) (pc := 861) (KX := fun _ _ => False) (kc' := B + 2) (ks' := B2 + 12) (As := [.int (xs (w4 + (1 : Int32)).toNatClampNeg), .int (xs (w4 + (2 : Int32)).toNatClampNeg)]) (rest := []) rfl (c_X9_teach l v S2 m (xs (w4 + (1 : Int32)).toNatClampNeg) (xs (w4 + (2 : Int32)).toNatClampNeg)) mw_X9_teach bw_1119 bw_1120 bw_1121 ⟨by have h9 : rm_X9_teach.cells = 0 := rfl; omega, by omega, by have h9 : rm_X9_teach.slots = 0 := rfl; omega, by omega, by decide, by decide⟩ rfl rfl (Nat.le_of_ble_eq_true rfl) (by decide) rfl o153 dL_law_861 h (fun r155 S154 h => ?_) (fun En S9 h => h.elim)
  refine z_sw hT1 (fun t156 => ?_)
  refine z_istore (C _) (pc := 864) (lv' := [(6, .int r155), (5, .int r150), (0, va_rf (some b)), (1, va_rf (some x)), (2, va_rf (some m)), (3, va_rf (some o)), (4, .int w4)]) dL_law_864 (by decide) rfl ?_
  refine z_aload_n (C _) (pc := 866) dL_law_866 4 rfl ?_
  obtain ⟨o157, h⟩ := h
  refine z_sw t156 (fun hT1 => ?_)
  refine z_Vi (C _) (pc := 867) (KX := fun _ _ => False) (kc' := B + 2) (ks' := B2 + 12) (As := []) (rest := []) rfl (c_X9_thrown l v S154 m) mw_X9_thrown bw_1006 bw_1007 bw_1008 ⟨by have h9 : rm_X9_thrown.cells = 0 := rfl; omega, by omega, by have h9 : rm_X9_thrown.slots = 0 := rfl; omega, by omega, by decide, by decide⟩ rfl rfl (Nat.le_of_ble_eq_true rfl) (by decide) rfl o157 dL_law_867 h (fun r159 S158 h => ?_) (fun En S9 h => h.elim)
  refine z_sw hT1 (fun t160 => ?_)
  refine z_iload (C _) (pc := 870) dL_law_870 1 rfl ?_
  refine z_icmp_eq (C _) (pc := 872) (tgt := 877) dL_law_872 (by decide) h (fun h => ?_) (fun h => ?_)
  · refine z_iload (C _) (pc := 877) dL_law_877 1 rfl ?_
    refine z_if_ne (C _) (pc := 879) (tgt := 894) dL_law_879 (by decide) h (fun h => ?_) (fun h => ?_)
    · refine z_goto (C _) (pc := 894) (tgt := 2102) dL_law_894 (by decide) ?_
      refine z_iinc (C _) (pc := 2102) (y := w4 + (8 : Int32)) (lv' := [(4, .int (w4 + (8 : Int32))), (6, .int r155), (5, .int r150), (0, va_rf (some b)), (1, va_rf (some x)), (2, va_rf (some m)), (3, va_rf (some o))]) dL_law_2102 6 rfl rfl (by decide) rfl ?_
      refine z_goto (C _) (pc := 2105) (tgt := 23) dL_law_2105 (by decide) ?_
      refine z_sub [3, 4, 5, 6, 0] (lv' := [(0, va_rf (some b)), (1, va_rf (some x)), (2, va_rf (some m)), (3, va_rf (some o)), (4, .int (w4 + (8 : Int32)))]) rfl ?_
      refine z_wide (kc' := 25850 - n * 50) (ks' := 773500 - n * 1500) (by omega) (by omega) ?_
      exact ih S151 S158 f152 (w4 + (8 : Int32)) (by omega) t160 h
    · refine z_aload_n (C _) (pc := 882) dL_law_882 5 rfl ?_
      refine z_iconst (C _) (pc := 883) (x := (0 : Int32)) dL_law_883 kic_0 ?_
      refine z_lald (C []) (pc := 884) dL_law_884 vin01 ?_
      refine z_iload (C _) (pc := 885) dL_law_885 0 rfl ?_
      refine z_i2l (C _) (pc := 887) dL_law_887 ?_
      refine z_lcmp (C _) (pc := 888) dL_law_888 ?_
      refine z_if_eq (C _) (pc := 889) (tgt := 894) dL_law_889 (by decide) h (fun h => ?_) (fun h => ?_)
      · refine z_goto (C _) (pc := 894) (tgt := 2102) dL_law_894 (by decide) ?_
        refine z_iinc (C _) (pc := 2102) (y := w4 + (8 : Int32)) (lv' := [(4, .int (w4 + (8 : Int32))), (6, .int r155), (5, .int r150), (0, va_rf (some b)), (1, va_rf (some x)), (2, va_rf (some m)), (3, va_rf (some o))]) dL_law_2102 6 rfl rfl (by decide) rfl ?_
        refine z_goto (C _) (pc := 2105) (tgt := 23) dL_law_2105 (by decide) ?_
        refine z_sub [3, 4, 5, 6, 0] (lv' := [(0, va_rf (some b)), (1, va_rf (some x)), (2, va_rf (some m)), (3, va_rf (some o)), (4, .int (w4 + (8 : Int32)))]) rfl ?_
        refine z_wide (kc' := 25850 - n * 50) (ks' := 773500 - n * 1500) (by omega) (by omega) ?_
        exact ih S151 S158 f152 (w4 + (8 : Int32)) (by omega) t160 h
      · refine z_iconst (C _) (pc := 892) (x := (0 : Int32)) dL_law_892 kic_0 ?_
        exact h.elim
  · refine z_iconst (C _) (pc := 875) (x := (0 : Int32)) dL_law_875 kic_0 ?_
    exact h.elim
def wp_law_C12 (x m : Nat) (xs : Nat → Int32) (L : Nat) (K : Hp → Hp → (Nat → Int64) → Int32 → Prop) (S1 S2 : Hp) (f : Nat → Int64) (w4 : Int32) : Prop := vp_in (w4 + (1 : Int32)) L ∧ (vp_in (w4 + (2 : Int32)) L ∧ (vp_in (w4 + (3 : Int32)) L ∧ (vp_in (w4 + (4 : Int32)) L ∧ (vp_in (w4 + (5 : Int32)) L ∧ (vp_in (w4 + (6 : Int32)) L ∧ (vp_in (w4 + (7 : Int32)) L ∧ (wp_L_edition S1 x (xs (w4 + (1 : Int32)).toNatClampNeg) (xs (w4 + (2 : Int32)).toNatClampNeg) (xs (w4 + (3 : Int32)).toNatClampNeg) (xs (w4 + (4 : Int32)).toNatClampNeg) (xs (w4 + (5 : Int32)).toNatClampNeg) (xs (w4 + (6 : Int32)).toNatClampNeg) (xs (w4 + (7 : Int32)).toNatClampNeg) f (fun r169 S170 f171 => okA S2 9 m ∧ (wp_X9_edition S2 m (xs (w4 + (1 : Int32)).toNatClampNeg) (xs (w4 + (2 : Int32)).toNatClampNeg) (xs (w4 + (3 : Int32)).toNatClampNeg) (xs (w4 + (4 : Int32)).toNatClampNeg) (xs (w4 + (5 : Int32)).toNatClampNeg) (xs (w4 + (6 : Int32)).toNatClampNeg) (xs (w4 + (7 : Int32)).toNatClampNeg) (fun r174 S173 => okA S173 9 m ∧ (wp_X9_thrown S173 m (fun r178 S177 => if r178 = r169 then (if r169 = 0 then (if (lg_cmp (f171 (0 : Int32).toNatClampNeg) r174.toInt64) = 0 then (K S170 S177 f171 (w4 + (8 : Int32))) else (False)) else (K S170 S177 f171 (w4 + (8 : Int32)))) else (False)))))))))))))
set_option maxHeartbeats 4000000 in
set_option maxRecDepth 100000 in
theorem k_law_C12 (l : Launch) (hfl : l.stackTraces = false) (v : Ev) (b x m o L : Nat) (xs : Nat → Int32) {nm9 : String} {x9 : P9} {A : Nat → Prop} {E : State → Prop} (C : ∀ X, Cx l v RL cL_law 7 (some .boolean) nm9 (x9, X, A, E)) (hX : LX b L xs A x9) (hE : LE b A E x9) {n B B2 : Nat} (hB : B = 25850 - (n + 1) * 50) (hB2 : B2 = 773500 - (n + 1) * 1500) (hn : n + 1 ≤ 513) {K : Hp → Hp → (Nat → Int64) → Int32 → Prop} (ih : ∀ (S1 S2 : Hp) (f : Nat → Int64) (w4 : Int32), n ≤ 513 → g_T S2 = v.2.2.1 → K S1 S2 f w4 → ZZ l v 7 room_1 (x9, wl v.2.1 o f (g_w v.2.1 S2), A, E) (25850 - n * 50) (773500 - n * 1500) S1 23 [(0, va_rf (some b)), (1, va_rf (some x)), (2, va_rf (some m)), (3, va_rf (some o)), (4, .int w4)] []) (S1 S2 : Hp) (f : Nat → Int64) (w4 : Int32) (hT2 : g_T S2 = v.2.2.1) (h : wp_law_C12 x m xs L K S1 S2 f w4) : ZZ l v 7 room_1 (x9, wl v.2.1 o f (g_w v.2.1 S2), A, E) (B + 0) (B2 + 0) S1 897 [(0, va_rf (some b)), (1, va_rf (some x)), (2, va_rf (some m)), (3, va_rf (some o)), (4, .int w4)] [] := by
  have hR : 600000 ≤ room_1.cells := Nat.le_of_ble_eq_true rfl
  have hR2 : 7000000 ≤ room_1.slots := Nat.le_of_ble_eq_true rfl
  unfold wp_law_C12 at h
  refine z_aload_n (C _) (pc := 897) dL_law_897 1 rfl ?_
  refine z_aload_n (C _) (pc := 898) dL_law_898 0 rfl ?_
  refine z_iload (C _) (pc := 899) dL_law_899 4 rfl ?_
  refine z_iconst (C _) (pc := 901) (x := (1 : Int32)) dL_law_901 kic_1 ?_
  refine z_iadd (C _) (pc := 902) dL_law_902 ?_
  obtain ⟨v162, h⟩ := h
  refine z_sld (C _) hX (pc := 903) dL_law_903 v162 ?_
  refine z_aload_n (C _) (pc := 904) dL_law_904 0 rfl ?_
  refine z_iload (C _) (pc := 905) dL_law_905 4 rfl ?_
  refine z_iconst (C _) (pc := 907) (x := (2 : Int32)) dL_law_907 kic_2 ?_
  refine z_iadd (C _) (pc := 908) dL_law_908 ?_
  obtain ⟨v163, h⟩ := h
  refine z_sld (C _) hX (pc := 909) dL_law_909 v163 ?_
  refine z_aload_n (C _) (pc := 910) dL_law_910 0 rfl ?_
  refine z_iload (C _) (pc := 911) dL_law_911 4 rfl ?_
  refine z_iconst (C _) (pc := 913) (x := (3 : Int32)) dL_law_913 kic_3 ?_
  refine z_iadd (C _) (pc := 914) dL_law_914 ?_
  obtain ⟨v164, h⟩ := h
  refine z_sld (C _) hX (pc := 915) dL_law_915 v164 ?_
  refine z_aload_n (C _) (pc := 916) dL_law_916 0 rfl ?_
  refine z_iload (C _) (pc := 917) dL_law_917 4 rfl ?_
  refine z_iconst (C _) (pc := 919) (x := (4 : Int32)) dL_law_919 kic_4 ?_
  refine z_iadd (C _) (pc := 920) dL_law_920 ?_
  obtain ⟨v165, h⟩ := h
  refine z_sld (C _) hX (pc := 921) dL_law_921 v165 ?_
  refine z_aload_n (C _) (pc := 922) dL_law_922 0 rfl ?_
  refine z_iload (C _) (pc := 923) dL_law_923 4 rfl ?_
  refine z_iconst (C _) (pc := 925) (x := (5 : Int32)) dL_law_925 kic_5 ?_
  refine z_iadd (C _) (pc := 926) dL_law_926 ?_
  obtain ⟨v166, h⟩ := h
  refine z_sld (C _) hX (pc := 927) dL_law_927 v166 ?_
  refine z_aload_n (C _) (pc := 928) dL_law_928 0 rfl ?_
  refine z_iload (C _) (pc := 929) dL_law_929 4 rfl ?_
  refine z_bipush (C _) (pc := 931) (x := (6 : Int32)) dL_law_931 kbp_6 ?_
  refine z_iadd (C _) (pc := 933) dL_law_933 ?_
  obtain ⟨v167, h⟩ := h
  refine z_sld (C _) hX (pc := 934) dL_law_934 v167 ?_
  refine z_aload_n (C _) (pc := 935) dL_law_935 0 rfl ?_
  refine z_iload (C _) (pc := 936) dL_law_936 4 rfl ?_
  refine z_bipush (C _) (pc := 938) (x := (7 : Int32)) dL_law_938 kbp_7 ?_
  refine z_iadd (C _) (pc := 940) dL_law_940 ?_
  obtain ⟨v168, h⟩ := h
  refine z_sld (C _) hX (pc := 941) dL_law_941 v168 ?_
  refine z_aload_n (C _) (pc := 942) dL_law_942 3 rfl ?_
  refine z_SL (C []) (pc := 943) (kc' := B + 10) (ks' := B2 + 118) (As := [va_rf (some x), .int (xs (w4 + (1 : Int32)).toNatClampNeg), .int (xs (w4 + (2 : Int32)).toNatClampNeg), .int (xs (w4 + (3 : Int32)).toNatClampNeg), .int (xs (w4 + (4 : Int32)).toNatClampNeg), .int (xs (w4 + (5 : Int32)).toNatClampNeg), .int (xs (w4 + (6 : Int32)).toNatClampNeg), .int (xs (w4 + (7 : Int32)).toNatClampNeg), va_rf (some o)]) (rest := []) (c_L_edition l hfl v S1 x o (xs (w4 + (1 : Int32)).toNatClampNeg) (xs (w4 + (2 : Int32)).toNatClampNeg) (xs (w4 + (3 : Int32)).toNatClampNeg) (xs (w4 + (4 : Int32)).toNatClampNeg) (xs (w4 + (5 : Int32)).toNatClampNeg) (xs (w4 + (6 : Int32)).toNatClampNeg) (xs (w4 + (7 : Int32)).toNatClampNeg) f) bw_577 bw_0 (by decide +kernel) (n := 9) (by decide +kernel) bw_575 bw_576 ⟨by have h9 : rm_L_edition.cells = 10 := rfl; omega, by omega, by have h9 : rm_L_edition.slots = 118 := rfl; omega, by omega, by decide, by decide⟩ rfl rfl (Nat.le_of_ble_eq_true rfl) dL_law_943 h (fun r169 S170 f171 h => ?_)
  refine z_istore (C _) (pc := 946) (lv' := [(5, .int r169), (0, va_rf (some b)), (1, va_rf (some x)), (2, va_rf (some m)), (3, va_rf (some o)), (4, .int w4)]) dL_law_946 (by decide) rfl ?_
  refine z_aload_n (C _) (pc := 948) dL_law_948 3 rfl ?_
  refine z_aload_n (C _) (pc := 949) dL_law_949 1 rfl ?_
  refine z_iload (C _) (pc := 950) dL_law_950 5 rfl ?_
  refine z_iconst (C _) (pc := 952) (x := (1 : Int32)) dL_law_952 kic_1 ?_
  refine z_iadd (C _) (pc := 953) dL_law_953 ?_
  refine z_sld (C _) hX (pc := 954) dL_law_954 v162 ?_
  refine z_aload_n (C _) (pc := 955) dL_law_955 1 rfl ?_
  refine z_iload (C _) (pc := 956) dL_law_956 5 rfl ?_
  refine z_iconst (C _) (pc := 958) (x := (2 : Int32)) dL_law_958 kic_2 ?_
  refine z_iadd (C _) (pc := 959) dL_law_959 ?_
  refine z_sld (C _) hX (pc := 960) dL_law_960 v163 ?_
  refine z_aload_n (C _) (pc := 961) dL_law_961 1 rfl ?_
  refine z_iload (C _) (pc := 962) dL_law_962 5 rfl ?_
  refine z_iconst (C _) (pc := 964) (x := (3 : Int32)) dL_law_964 kic_3 ?_
  refine z_iadd (C _) (pc := 965) dL_law_965 ?_
  refine z_sld (C _) hX (pc := 966) dL_law_966 v164 ?_
  refine z_aload_n (C _) (pc := 967) dL_law_967 1 rfl ?_
  refine z_iload (C _) (pc := 968) dL_law_968 5 rfl ?_
  refine z_iconst (C _) (pc := 970) (x := (4 : Int32)) dL_law_970 kic_4 ?_
  refine z_iadd (C _) (pc := 971) dL_law_971 ?_
  refine z_sld (C _) hX (pc := 972) dL_law_972 v165 ?_
  refine z_aload_n (C _) (pc := 973) dL_law_973 1 rfl ?_
  refine z_iload (C _) (pc := 974) dL_law_974 5 rfl ?_
  refine z_iconst (C _) (pc := 976) (x := (5 : Int32)) dL_law_976 kic_5 ?_
  refine z_iadd (C _) (pc := 977) dL_law_977 ?_
  refine z_sld (C _) hX (pc := 978) dL_law_978 v166 ?_
  refine z_aload_n (C _) (pc := 979) dL_law_979 1 rfl ?_
  refine z_iload (C _) (pc := 980) dL_law_980 5 rfl ?_
  refine z_bipush (C _) (pc := 982) (x := (6 : Int32)) dL_law_982 kbp_6 ?_
  refine z_iadd (C _) (pc := 984) dL_law_984 ?_
  refine z_sld (C _) hX (pc := 985) dL_law_985 v167 ?_
  refine z_aload_n (C _) (pc := 986) dL_law_986 1 rfl ?_
  refine z_iload (C _) (pc := 987) dL_law_987 5 rfl ?_
  refine z_bipush (C _) (pc := 989) (x := (7 : Int32)) dL_law_989 kbp_7 ?_
  refine z_iadd (C _) (pc := 991) dL_law_991 ?_
  refine z_sld (C _) hX (pc := 992) dL_law_992 v168 ?_
  obtain ⟨o172, h⟩ := h
  refine z_sw hT2 (fun hT1 => ?_)
  refine z_Vi (C _) (pc := 993) (KX := fun _ _ => False) (kc' := B + 10) (ks' := B2 + 118) (As := [.int (xs (w4 + (1 : Int32)).toNatClampNeg), .int (xs (w4 + (2 : Int32)).toNatClampNeg), .int (xs (w4 + (3 : Int32)).toNatClampNeg), .int (xs (w4 + (4 : Int32)).toNatClampNeg), .int (xs (w4 + (5 : Int32)).toNatClampNeg), .int (xs (w4 + (6 : Int32)).toNatClampNeg), .int (xs (w4 + (7 : Int32)).toNatClampNeg)]) (rest := []) rfl (c_X9_edition l v S2 m (xs (w4 + (1 : Int32)).toNatClampNeg) (xs (w4 + (2 : Int32)).toNatClampNeg) (xs (w4 + (3 : Int32)).toNatClampNeg) (xs (w4 + (4 : Int32)).toNatClampNeg) (xs (w4 + (5 : Int32)).toNatClampNeg) (xs (w4 + (6 : Int32)).toNatClampNeg) (xs (w4 + (7 : Int32)).toNatClampNeg)) mw_X9_edition bw_1127 bw_1128 bw_1129 ⟨by have h9 : rm_X9_edition.cells = 0 := rfl; omega, by omega, by have h9 : rm_X9_edition.slots = 0 := rfl; omega, by omega, by decide, by decide⟩ rfl rfl (Nat.le_of_ble_eq_true rfl) (by decide) rfl o172 dL_law_993 h (fun r174 S173 h => ?_) (fun En S9 h => h.elim)
  refine z_sw hT1 (fun t175 => ?_)
  refine z_istore (C _) (pc := 996) (lv' := [(6, .int r174), (5, .int r169), (0, va_rf (some b)), (1, va_rf (some x)), (2, va_rf (some m)), (3, va_rf (some o)), (4, .int w4)]) dL_law_996 (by decide) rfl ?_
  refine z_aload_n (C _) (pc := 998) dL_law_998 4 rfl ?_
  obtain ⟨o176, h⟩ := h
  refine z_sw t175 (fun hT1 => ?_)
  refine z_Vi (C _) (pc := 999) (KX := fun _ _ => False) (kc' := B + 10) (ks' := B2 + 118) (As := []) (rest := []) rfl (c_X9_thrown l v S173 m) mw_X9_thrown bw_1006 bw_1007 bw_1008 ⟨by have h9 : rm_X9_thrown.cells = 0 := rfl; omega, by omega, by have h9 : rm_X9_thrown.slots = 0 := rfl; omega, by omega, by decide, by decide⟩ rfl rfl (Nat.le_of_ble_eq_true rfl) (by decide) rfl o176 dL_law_999 h (fun r178 S177 h => ?_) (fun En S9 h => h.elim)
  refine z_sw hT1 (fun t179 => ?_)
  refine z_iload (C _) (pc := 1002) dL_law_1002 1 rfl ?_
  refine z_icmp_eq (C _) (pc := 1004) (tgt := 1009) dL_law_1004 (by decide) h (fun h => ?_) (fun h => ?_)
  · refine z_iload (C _) (pc := 1009) dL_law_1009 1 rfl ?_
    refine z_if_ne (C _) (pc := 1011) (tgt := 1026) dL_law_1011 (by decide) h (fun h => ?_) (fun h => ?_)
    · refine z_goto (C _) (pc := 1026) (tgt := 2102) dL_law_1026 (by decide) ?_
      refine z_iinc (C _) (pc := 2102) (y := w4 + (8 : Int32)) (lv' := [(4, .int (w4 + (8 : Int32))), (6, .int r174), (5, .int r169), (0, va_rf (some b)), (1, va_rf (some x)), (2, va_rf (some m)), (3, va_rf (some o))]) dL_law_2102 6 rfl rfl (by decide) rfl ?_
      refine z_goto (C _) (pc := 2105) (tgt := 23) dL_law_2105 (by decide) ?_
      refine z_sub [3, 4, 5, 6, 0] (lv' := [(0, va_rf (some b)), (1, va_rf (some x)), (2, va_rf (some m)), (3, va_rf (some o)), (4, .int (w4 + (8 : Int32)))]) rfl ?_
      refine z_wide (kc' := 25850 - n * 50) (ks' := 773500 - n * 1500) (by omega) (by omega) ?_
      exact ih S170 S177 f171 (w4 + (8 : Int32)) (by omega) t179 h
    · refine z_aload_n (C _) (pc := 1014) dL_law_1014 5 rfl ?_
      refine z_iconst (C _) (pc := 1015) (x := (0 : Int32)) dL_law_1015 kic_0 ?_
      refine z_lald (C []) (pc := 1016) dL_law_1016 vin01 ?_
      refine z_iload (C _) (pc := 1017) dL_law_1017 0 rfl ?_
      refine z_i2l (C _) (pc := 1019) dL_law_1019 ?_
      refine z_lcmp (C _) (pc := 1020) dL_law_1020 ?_
      refine z_if_eq (C _) (pc := 1021) (tgt := 1026) dL_law_1021 (by decide) h (fun h => ?_) (fun h => ?_)
      · refine z_goto (C _) (pc := 1026) (tgt := 2102) dL_law_1026 (by decide) ?_
        refine z_iinc (C _) (pc := 2102) (y := w4 + (8 : Int32)) (lv' := [(4, .int (w4 + (8 : Int32))), (6, .int r174), (5, .int r169), (0, va_rf (some b)), (1, va_rf (some x)), (2, va_rf (some m)), (3, va_rf (some o))]) dL_law_2102 6 rfl rfl (by decide) rfl ?_
        refine z_goto (C _) (pc := 2105) (tgt := 23) dL_law_2105 (by decide) ?_
        refine z_sub [3, 4, 5, 6, 0] (lv' := [(0, va_rf (some b)), (1, va_rf (some x)), (2, va_rf (some m)), (3, va_rf (some o)), (4, .int (w4 + (8 : Int32)))]) rfl ?_
        refine z_wide (kc' := 25850 - n * 50) (ks' := 773500 - n * 1500) (by omega) (by omega) ?_
        exact ih S170 S177 f171 (w4 + (8 : Int32)) (by omega) t179 h
      · refine z_iconst (C _) (pc := 1024) (x := (0 : Int32)) dL_law_1024 kic_0 ?_
        exact h.elim
  · refine z_iconst (C _) (pc := 1007) (x := (0 : Int32)) dL_law_1007 kic_0 ?_
    exact h.elim
def wp_law_C13 (x m : Nat) (xs : Nat → Int32) (L : Nat) (K : Hp → Hp → (Nat → Int64) → Int32 → Prop) (S1 S2 : Hp) (f : Nat → Int64) (w4 : Int32) : Prop := vp_in (w4 + (1 : Int32)) L ∧ (vp_in (w4 + (2 : Int32)) L ∧ (wp_L_begin S1 x (xs (w4 + (1 : Int32)).toNatClampNeg) (xs (w4 + (2 : Int32)).toNatClampNeg) f (fun r183 S184 f185 => okA S2 9 m ∧ (wp_X9_begin S2 m (xs (w4 + (1 : Int32)).toNatClampNeg) (xs (w4 + (2 : Int32)).toNatClampNeg) (fun r188 S187 => okA S187 9 m ∧ (wp_X9_thrown S187 m (fun r192 S191 => if r192 = r183 then (if r183 = 0 then (if (lg_cmp (f185 (0 : Int32).toNatClampNeg) r188.toInt64) = 0 then (K S184 S191 f185 (w4 + (8 : Int32))) else (False)) else (K S184 S191 f185 (w4 + (8 : Int32)))) else (False))))))))
set_option maxHeartbeats 4000000 in
set_option maxRecDepth 100000 in
theorem k_law_C13 (l : Launch) (hfl : l.stackTraces = false) (v : Ev) (b x m o L : Nat) (xs : Nat → Int32) {nm9 : String} {x9 : P9} {A : Nat → Prop} {E : State → Prop} (C : ∀ X, Cx l v RL cL_law 7 (some .boolean) nm9 (x9, X, A, E)) (hX : LX b L xs A x9) (hE : LE b A E x9) {n B B2 : Nat} (hB : B = 25850 - (n + 1) * 50) (hB2 : B2 = 773500 - (n + 1) * 1500) (hn : n + 1 ≤ 513) {K : Hp → Hp → (Nat → Int64) → Int32 → Prop} (ih : ∀ (S1 S2 : Hp) (f : Nat → Int64) (w4 : Int32), n ≤ 513 → g_T S2 = v.2.2.1 → K S1 S2 f w4 → ZZ l v 7 room_1 (x9, wl v.2.1 o f (g_w v.2.1 S2), A, E) (25850 - n * 50) (773500 - n * 1500) S1 23 [(0, va_rf (some b)), (1, va_rf (some x)), (2, va_rf (some m)), (3, va_rf (some o)), (4, .int w4)] []) (S1 S2 : Hp) (f : Nat → Int64) (w4 : Int32) (hT2 : g_T S2 = v.2.2.1) (h : wp_law_C13 x m xs L K S1 S2 f w4) : ZZ l v 7 room_1 (x9, wl v.2.1 o f (g_w v.2.1 S2), A, E) (B + 0) (B2 + 0) S1 1029 [(0, va_rf (some b)), (1, va_rf (some x)), (2, va_rf (some m)), (3, va_rf (some o)), (4, .int w4)] [] := by
  have hR : 600000 ≤ room_1.cells := Nat.le_of_ble_eq_true rfl
  have hR2 : 7000000 ≤ room_1.slots := Nat.le_of_ble_eq_true rfl
  unfold wp_law_C13 at h
  refine z_aload_n (C _) (pc := 1029) dL_law_1029 1 rfl ?_
  refine z_aload_n (C _) (pc := 1030) dL_law_1030 0 rfl ?_
  refine z_iload (C _) (pc := 1031) dL_law_1031 4 rfl ?_
  refine z_iconst (C _) (pc := 1033) (x := (1 : Int32)) dL_law_1033 kic_1 ?_
  refine z_iadd (C _) (pc := 1034) dL_law_1034 ?_
  obtain ⟨v181, h⟩ := h
  refine z_sld (C _) hX (pc := 1035) dL_law_1035 v181 ?_
  refine z_aload_n (C _) (pc := 1036) dL_law_1036 0 rfl ?_
  refine z_iload (C _) (pc := 1037) dL_law_1037 4 rfl ?_
  refine z_iconst (C _) (pc := 1039) (x := (2 : Int32)) dL_law_1039 kic_2 ?_
  refine z_iadd (C _) (pc := 1040) dL_law_1040 ?_
  obtain ⟨v182, h⟩ := h
  refine z_sld (C _) hX (pc := 1041) dL_law_1041 v182 ?_
  refine z_aload_n (C _) (pc := 1042) dL_law_1042 3 rfl ?_
  refine z_SL (C []) (pc := 1043) (kc' := B + 3) (ks' := B2 + 18) (As := [va_rf (some x), .int (xs (w4 + (1 : Int32)).toNatClampNeg), .int (xs (w4 + (2 : Int32)).toNatClampNeg), va_rf (some o)]) (rest := []) (c_L_begin l hfl v S1 x o (xs (w4 + (1 : Int32)).toNatClampNeg) (xs (w4 + (2 : Int32)).toNatClampNeg) f) bw_621 bw_0 (by decide +kernel) (n := 4) (by decide +kernel) bw_619 bw_620 ⟨by have h9 : rm_L_begin.cells = 3 := rfl; omega, by omega, by have h9 : rm_L_begin.slots = 18 := rfl; omega, by omega, by decide, by decide⟩ rfl rfl (Nat.le_of_ble_eq_true rfl) dL_law_1043 h (fun r183 S184 f185 h => ?_)
  refine z_istore (C _) (pc := 1046) (lv' := [(5, .int r183), (0, va_rf (some b)), (1, va_rf (some x)), (2, va_rf (some m)), (3, va_rf (some o)), (4, .int w4)]) dL_law_1046 (by decide) rfl ?_
  refine z_aload_n (C _) (pc := 1048) dL_law_1048 3 rfl ?_
  refine z_aload_n (C _) (pc := 1049) dL_law_1049 1 rfl ?_
  refine z_iload (C _) (pc := 1050) dL_law_1050 5 rfl ?_
  refine z_iconst (C _) (pc := 1052) (x := (1 : Int32)) dL_law_1052 kic_1 ?_
  refine z_iadd (C _) (pc := 1053) dL_law_1053 ?_
  refine z_sld (C _) hX (pc := 1054) dL_law_1054 v181 ?_
  refine z_aload_n (C _) (pc := 1055) dL_law_1055 1 rfl ?_
  refine z_iload (C _) (pc := 1056) dL_law_1056 5 rfl ?_
  refine z_iconst (C _) (pc := 1058) (x := (2 : Int32)) dL_law_1058 kic_2 ?_
  refine z_iadd (C _) (pc := 1059) dL_law_1059 ?_
  refine z_sld (C _) hX (pc := 1060) dL_law_1060 v182 ?_
  obtain ⟨o186, h⟩ := h
  refine z_sw hT2 (fun hT1 => ?_)
  refine z_Vi (C _) (pc := 1061) (KX := fun _ _ => False) (kc' := B + 3) (ks' := B2 + 18) (As := [.int (xs (w4 + (1 : Int32)).toNatClampNeg), .int (xs (w4 + (2 : Int32)).toNatClampNeg)]) (rest := []) rfl (c_X9_begin l v S2 m (xs (w4 + (1 : Int32)).toNatClampNeg) (xs (w4 + (2 : Int32)).toNatClampNeg)) mw_X9_begin bw_1137 bw_1138 bw_1139 ⟨by have h9 : rm_X9_begin.cells = 0 := rfl; omega, by omega, by have h9 : rm_X9_begin.slots = 0 := rfl; omega, by omega, by decide, by decide⟩ rfl rfl (Nat.le_of_ble_eq_true rfl) (by decide) rfl o186 dL_law_1061 h (fun r188 S187 h => ?_) (fun En S9 h => h.elim)
  refine z_sw hT1 (fun t189 => ?_)
  refine z_istore (C _) (pc := 1064) (lv' := [(6, .int r188), (5, .int r183), (0, va_rf (some b)), (1, va_rf (some x)), (2, va_rf (some m)), (3, va_rf (some o)), (4, .int w4)]) dL_law_1064 (by decide) rfl ?_
  refine z_aload_n (C _) (pc := 1066) dL_law_1066 4 rfl ?_
  obtain ⟨o190, h⟩ := h
  refine z_sw t189 (fun hT1 => ?_)
  refine z_Vi (C _) (pc := 1067) (KX := fun _ _ => False) (kc' := B + 3) (ks' := B2 + 18) (As := []) (rest := []) rfl (c_X9_thrown l v S187 m) mw_X9_thrown bw_1006 bw_1007 bw_1008 ⟨by have h9 : rm_X9_thrown.cells = 0 := rfl; omega, by omega, by have h9 : rm_X9_thrown.slots = 0 := rfl; omega, by omega, by decide, by decide⟩ rfl rfl (Nat.le_of_ble_eq_true rfl) (by decide) rfl o190 dL_law_1067 h (fun r192 S191 h => ?_) (fun En S9 h => h.elim)
  refine z_sw hT1 (fun t193 => ?_)
  refine z_iload (C _) (pc := 1070) dL_law_1070 1 rfl ?_
  refine z_icmp_eq (C _) (pc := 1072) (tgt := 1077) dL_law_1072 (by decide) h (fun h => ?_) (fun h => ?_)
  · refine z_iload (C _) (pc := 1077) dL_law_1077 1 rfl ?_
    refine z_if_ne (C _) (pc := 1079) (tgt := 1094) dL_law_1079 (by decide) h (fun h => ?_) (fun h => ?_)
    · refine z_goto (C _) (pc := 1094) (tgt := 2102) dL_law_1094 (by decide) ?_
      refine z_iinc (C _) (pc := 2102) (y := w4 + (8 : Int32)) (lv' := [(4, .int (w4 + (8 : Int32))), (6, .int r188), (5, .int r183), (0, va_rf (some b)), (1, va_rf (some x)), (2, va_rf (some m)), (3, va_rf (some o))]) dL_law_2102 6 rfl rfl (by decide) rfl ?_
      refine z_goto (C _) (pc := 2105) (tgt := 23) dL_law_2105 (by decide) ?_
      refine z_sub [3, 4, 5, 6, 0] (lv' := [(0, va_rf (some b)), (1, va_rf (some x)), (2, va_rf (some m)), (3, va_rf (some o)), (4, .int (w4 + (8 : Int32)))]) rfl ?_
      refine z_wide (kc' := 25850 - n * 50) (ks' := 773500 - n * 1500) (by omega) (by omega) ?_
      exact ih S184 S191 f185 (w4 + (8 : Int32)) (by omega) t193 h
    · refine z_aload_n (C _) (pc := 1082) dL_law_1082 5 rfl ?_
      refine z_iconst (C _) (pc := 1083) (x := (0 : Int32)) dL_law_1083 kic_0 ?_
      refine z_lald (C []) (pc := 1084) dL_law_1084 vin01 ?_
      refine z_iload (C _) (pc := 1085) dL_law_1085 0 rfl ?_
      refine z_i2l (C _) (pc := 1087) dL_law_1087 ?_
      refine z_lcmp (C _) (pc := 1088) dL_law_1088 ?_
      refine z_if_eq (C _) (pc := 1089) (tgt := 1094) dL_law_1089 (by decide) h (fun h => ?_) (fun h => ?_)
      · refine z_goto (C _) (pc := 1094) (tgt := 2102) dL_law_1094 (by decide) ?_
        refine z_iinc (C _) (pc := 2102) (y := w4 + (8 : Int32)) (lv' := [(4, .int (w4 + (8 : Int32))), (6, .int r188), (5, .int r183), (0, va_rf (some b)), (1, va_rf (some x)), (2, va_rf (some m)), (3, va_rf (some o))]) dL_law_2102 6 rfl rfl (by decide) rfl ?_
        refine z_goto (C _) (pc := 2105) (tgt := 23) dL_law_2105 (by decide) ?_
        refine z_sub [3, 4, 5, 6, 0] (lv' := [(0, va_rf (some b)), (1, va_rf (some x)), (2, va_rf (some m)), (3, va_rf (some o)), (4, .int (w4 + (8 : Int32)))]) rfl ?_
        refine z_wide (kc' := 25850 - n * 50) (ks' := 773500 - n * 1500) (by omega) (by omega) ?_
        exact ih S184 S191 f185 (w4 + (8 : Int32)) (by omega) t193 h
      · refine z_iconst (C _) (pc := 1092) (x := (0 : Int32)) dL_law_1092 kic_0 ?_
        exact h.elim
  · refine z_iconst (C _) (pc := 1075) (x := (0 : Int32)) dL_law_1075 kic_0 ?_
    exact h.elim
def wp_law_C14 (x m : Nat) (xs : Nat → Int32) (L : Nat) (K : Hp → Hp → (Nat → Int64) → Int32 → Prop) (S1 S2 : Hp) (f : Nat → Int64) (w4 : Int32) : Prop := vp_in (w4 + (1 : Int32)) L ∧ (vp_in (w4 + (2 : Int32)) L ∧ (vp_in (w4 + (3 : Int32)) L ∧ (wp_L_prove S1 x (xs (w4 + (1 : Int32)).toNatClampNeg) (xs (w4 + (2 : Int32)).toNatClampNeg) (xs (w4 + (3 : Int32)).toNatClampNeg) f (fun r198 S199 f200 => okA S2 9 m ∧ (wp_X9_prove S2 m (xs (w4 + (1 : Int32)).toNatClampNeg) (xs (w4 + (2 : Int32)).toNatClampNeg) (xs (w4 + (3 : Int32)).toNatClampNeg) (fun r203 S202 => okA S202 9 m ∧ (wp_X9_thrown S202 m (fun r207 S206 => if r207 = r198 then (if r198 = 0 then (if (lg_cmp (f200 (0 : Int32).toNatClampNeg) r203.toInt64) = 0 then (K S199 S206 f200 (w4 + (8 : Int32))) else (False)) else (K S199 S206 f200 (w4 + (8 : Int32)))) else (False)))))))))
set_option maxHeartbeats 4000000 in
set_option maxRecDepth 100000 in
theorem k_law_C14 (l : Launch) (hfl : l.stackTraces = false) (v : Ev) (b x m o L : Nat) (xs : Nat → Int32) {nm9 : String} {x9 : P9} {A : Nat → Prop} {E : State → Prop} (C : ∀ X, Cx l v RL cL_law 7 (some .boolean) nm9 (x9, X, A, E)) (hX : LX b L xs A x9) (hE : LE b A E x9) {n B B2 : Nat} (hB : B = 25850 - (n + 1) * 50) (hB2 : B2 = 773500 - (n + 1) * 1500) (hn : n + 1 ≤ 513) {K : Hp → Hp → (Nat → Int64) → Int32 → Prop} (ih : ∀ (S1 S2 : Hp) (f : Nat → Int64) (w4 : Int32), n ≤ 513 → g_T S2 = v.2.2.1 → K S1 S2 f w4 → ZZ l v 7 room_1 (x9, wl v.2.1 o f (g_w v.2.1 S2), A, E) (25850 - n * 50) (773500 - n * 1500) S1 23 [(0, va_rf (some b)), (1, va_rf (some x)), (2, va_rf (some m)), (3, va_rf (some o)), (4, .int w4)] []) (S1 S2 : Hp) (f : Nat → Int64) (w4 : Int32) (hT2 : g_T S2 = v.2.2.1) (h : wp_law_C14 x m xs L K S1 S2 f w4) : ZZ l v 7 room_1 (x9, wl v.2.1 o f (g_w v.2.1 S2), A, E) (B + 0) (B2 + 0) S1 1097 [(0, va_rf (some b)), (1, va_rf (some x)), (2, va_rf (some m)), (3, va_rf (some o)), (4, .int w4)] [] := by
  have hR : 600000 ≤ room_1.cells := Nat.le_of_ble_eq_true rfl
  have hR2 : 7000000 ≤ room_1.slots := Nat.le_of_ble_eq_true rfl
  unfold wp_law_C14 at h
  refine z_aload_n (C _) (pc := 1097) dL_law_1097 1 rfl ?_
  refine z_aload_n (C _) (pc := 1098) dL_law_1098 0 rfl ?_
  refine z_iload (C _) (pc := 1099) dL_law_1099 4 rfl ?_
  refine z_iconst (C _) (pc := 1101) (x := (1 : Int32)) dL_law_1101 kic_1 ?_
  refine z_iadd (C _) (pc := 1102) dL_law_1102 ?_
  obtain ⟨v195, h⟩ := h
  refine z_sld (C _) hX (pc := 1103) dL_law_1103 v195 ?_
  refine z_aload_n (C _) (pc := 1104) dL_law_1104 0 rfl ?_
  refine z_iload (C _) (pc := 1105) dL_law_1105 4 rfl ?_
  refine z_iconst (C _) (pc := 1107) (x := (2 : Int32)) dL_law_1107 kic_2 ?_
  refine z_iadd (C _) (pc := 1108) dL_law_1108 ?_
  obtain ⟨v196, h⟩ := h
  refine z_sld (C _) hX (pc := 1109) dL_law_1109 v196 ?_
  refine z_aload_n (C _) (pc := 1110) dL_law_1110 0 rfl ?_
  refine z_iload (C _) (pc := 1111) dL_law_1111 4 rfl ?_
  refine z_iconst (C _) (pc := 1113) (x := (3 : Int32)) dL_law_1113 kic_3 ?_
  refine z_iadd (C _) (pc := 1114) dL_law_1114 ?_
  obtain ⟨v197, h⟩ := h
  refine z_sld (C _) hX (pc := 1115) dL_law_1115 v197 ?_
  refine z_aload_n (C _) (pc := 1116) dL_law_1116 3 rfl ?_
  refine z_SL (C []) (pc := 1117) (kc' := B + 4) (ks' := B2 + 24) (As := [va_rf (some x), .int (xs (w4 + (1 : Int32)).toNatClampNeg), .int (xs (w4 + (2 : Int32)).toNatClampNeg), .int (xs (w4 + (3 : Int32)).toNatClampNeg), va_rf (some o)]) (rest := []) (c_L_prove l hfl v S1 x o (xs (w4 + (1 : Int32)).toNatClampNeg) (xs (w4 + (2 : Int32)).toNatClampNeg) (xs (w4 + (3 : Int32)).toNatClampNeg) f) bw_678 bw_0 (by decide +kernel) (n := 5) (by decide +kernel) bw_676 bw_677 ⟨by have h9 : rm_L_prove.cells = 4 := rfl; omega, by omega, by have h9 : rm_L_prove.slots = 24 := rfl; omega, by omega, by decide, by decide⟩ rfl rfl (Nat.le_of_ble_eq_true rfl) dL_law_1117 h (fun r198 S199 f200 h => ?_)
  refine z_istore (C _) (pc := 1120) (lv' := [(5, .int r198), (0, va_rf (some b)), (1, va_rf (some x)), (2, va_rf (some m)), (3, va_rf (some o)), (4, .int w4)]) dL_law_1120 (by decide) rfl ?_
  refine z_aload_n (C _) (pc := 1122) dL_law_1122 3 rfl ?_
  refine z_aload_n (C _) (pc := 1123) dL_law_1123 1 rfl ?_
  refine z_iload (C _) (pc := 1124) dL_law_1124 5 rfl ?_
  refine z_iconst (C _) (pc := 1126) (x := (1 : Int32)) dL_law_1126 kic_1 ?_
  refine z_iadd (C _) (pc := 1127) dL_law_1127 ?_
  refine z_sld (C _) hX (pc := 1128) dL_law_1128 v195 ?_
  refine z_aload_n (C _) (pc := 1129) dL_law_1129 1 rfl ?_
  refine z_iload (C _) (pc := 1130) dL_law_1130 5 rfl ?_
  refine z_iconst (C _) (pc := 1132) (x := (2 : Int32)) dL_law_1132 kic_2 ?_
  refine z_iadd (C _) (pc := 1133) dL_law_1133 ?_
  refine z_sld (C _) hX (pc := 1134) dL_law_1134 v196 ?_
  refine z_aload_n (C _) (pc := 1135) dL_law_1135 1 rfl ?_
  refine z_iload (C _) (pc := 1136) dL_law_1136 5 rfl ?_
  refine z_iconst (C _) (pc := 1138) (x := (3 : Int32)) dL_law_1138 kic_3 ?_
  refine z_iadd (C _) (pc := 1139) dL_law_1139 ?_
  refine z_sld (C _) hX (pc := 1140) dL_law_1140 v197 ?_
  obtain ⟨o201, h⟩ := h
  refine z_sw hT2 (fun hT1 => ?_)
  refine z_Vi (C _) (pc := 1141) (KX := fun _ _ => False) (kc' := B + 4) (ks' := B2 + 24) (As := [.int (xs (w4 + (1 : Int32)).toNatClampNeg), .int (xs (w4 + (2 : Int32)).toNatClampNeg), .int (xs (w4 + (3 : Int32)).toNatClampNeg)]) (rest := []) rfl (c_X9_prove l v S2 m (xs (w4 + (1 : Int32)).toNatClampNeg) (xs (w4 + (2 : Int32)).toNatClampNeg) (xs (w4 + (3 : Int32)).toNatClampNeg)) mw_X9_prove bw_1141 bw_1142 bw_1143 ⟨by have h9 : rm_X9_prove.cells = 0 := rfl; omega, by omega, by have h9 : rm_X9_prove.slots = 0 := rfl; omega, by omega, by decide, by decide⟩ rfl rfl (Nat.le_of_ble_eq_true rfl) (by decide) rfl o201 dL_law_1141 h (fun r203 S202 h => ?_) (fun En S9 h => h.elim)
  refine z_sw hT1 (fun t204 => ?_)
  refine z_istore (C _) (pc := 1144) (lv' := [(6, .int r203), (5, .int r198), (0, va_rf (some b)), (1, va_rf (some x)), (2, va_rf (some m)), (3, va_rf (some o)), (4, .int w4)]) dL_law_1144 (by decide) rfl ?_
  refine z_aload_n (C _) (pc := 1146) dL_law_1146 4 rfl ?_
  obtain ⟨o205, h⟩ := h
  refine z_sw t204 (fun hT1 => ?_)
  refine z_Vi (C _) (pc := 1147) (KX := fun _ _ => False) (kc' := B + 4) (ks' := B2 + 24) (As := []) (rest := []) rfl (c_X9_thrown l v S202 m) mw_X9_thrown bw_1006 bw_1007 bw_1008 ⟨by have h9 : rm_X9_thrown.cells = 0 := rfl; omega, by omega, by have h9 : rm_X9_thrown.slots = 0 := rfl; omega, by omega, by decide, by decide⟩ rfl rfl (Nat.le_of_ble_eq_true rfl) (by decide) rfl o205 dL_law_1147 h (fun r207 S206 h => ?_) (fun En S9 h => h.elim)
  refine z_sw hT1 (fun t208 => ?_)
  refine z_iload (C _) (pc := 1150) dL_law_1150 1 rfl ?_
  refine z_icmp_eq (C _) (pc := 1152) (tgt := 1157) dL_law_1152 (by decide) h (fun h => ?_) (fun h => ?_)
  · refine z_iload (C _) (pc := 1157) dL_law_1157 1 rfl ?_
    refine z_if_ne (C _) (pc := 1159) (tgt := 1174) dL_law_1159 (by decide) h (fun h => ?_) (fun h => ?_)
    · refine z_goto (C _) (pc := 1174) (tgt := 2102) dL_law_1174 (by decide) ?_
      refine z_iinc (C _) (pc := 2102) (y := w4 + (8 : Int32)) (lv' := [(4, .int (w4 + (8 : Int32))), (6, .int r203), (5, .int r198), (0, va_rf (some b)), (1, va_rf (some x)), (2, va_rf (some m)), (3, va_rf (some o))]) dL_law_2102 6 rfl rfl (by decide) rfl ?_
      refine z_goto (C _) (pc := 2105) (tgt := 23) dL_law_2105 (by decide) ?_
      refine z_sub [3, 4, 5, 6, 0] (lv' := [(0, va_rf (some b)), (1, va_rf (some x)), (2, va_rf (some m)), (3, va_rf (some o)), (4, .int (w4 + (8 : Int32)))]) rfl ?_
      refine z_wide (kc' := 25850 - n * 50) (ks' := 773500 - n * 1500) (by omega) (by omega) ?_
      exact ih S199 S206 f200 (w4 + (8 : Int32)) (by omega) t208 h
    · refine z_aload_n (C _) (pc := 1162) dL_law_1162 5 rfl ?_
      refine z_iconst (C _) (pc := 1163) (x := (0 : Int32)) dL_law_1163 kic_0 ?_
      refine z_lald (C []) (pc := 1164) dL_law_1164 vin01 ?_
      refine z_iload (C _) (pc := 1165) dL_law_1165 0 rfl ?_
      refine z_i2l (C _) (pc := 1167) dL_law_1167 ?_
      refine z_lcmp (C _) (pc := 1168) dL_law_1168 ?_
      refine z_if_eq (C _) (pc := 1169) (tgt := 1174) dL_law_1169 (by decide) h (fun h => ?_) (fun h => ?_)
      · refine z_goto (C _) (pc := 1174) (tgt := 2102) dL_law_1174 (by decide) ?_
        refine z_iinc (C _) (pc := 2102) (y := w4 + (8 : Int32)) (lv' := [(4, .int (w4 + (8 : Int32))), (6, .int r203), (5, .int r198), (0, va_rf (some b)), (1, va_rf (some x)), (2, va_rf (some m)), (3, va_rf (some o))]) dL_law_2102 6 rfl rfl (by decide) rfl ?_
        refine z_goto (C _) (pc := 2105) (tgt := 23) dL_law_2105 (by decide) ?_
        refine z_sub [3, 4, 5, 6, 0] (lv' := [(0, va_rf (some b)), (1, va_rf (some x)), (2, va_rf (some m)), (3, va_rf (some o)), (4, .int (w4 + (8 : Int32)))]) rfl ?_
        refine z_wide (kc' := 25850 - n * 50) (ks' := 773500 - n * 1500) (by omega) (by omega) ?_
        exact ih S199 S206 f200 (w4 + (8 : Int32)) (by omega) t208 h
      · refine z_iconst (C _) (pc := 1172) (x := (0 : Int32)) dL_law_1172 kic_0 ?_
        exact h.elim
  · refine z_iconst (C _) (pc := 1155) (x := (0 : Int32)) dL_law_1155 kic_0 ?_
    exact h.elim
def wp_law_C15 (x m : Nat) (xs : Nat → Int32) (L : Nat) (K : Hp → Hp → (Nat → Int64) → Int32 → Prop) (S1 S2 : Hp) (f : Nat → Int64) (w4 : Int32) : Prop := vp_in (w4 + (1 : Int32)) L ∧ (vp_in (w4 + (2 : Int32)) L ∧ (vp_in (w4 + (3 : Int32)) L ∧ (vp_in (w4 + (4 : Int32)) L ∧ (vp_in (w4 + (5 : Int32)) L ∧ (vp_in (w4 + (6 : Int32)) L ∧ (wp_L_event S1 x (xs (w4 + (1 : Int32)).toNatClampNeg) (xs (w4 + (2 : Int32)).toNatClampNeg) (xs (w4 + (3 : Int32)).toNatClampNeg) (xs (w4 + (4 : Int32)).toNatClampNeg) (xs (w4 + (5 : Int32)).toNatClampNeg) (xs (w4 + (6 : Int32)).toNatClampNeg) f (fun r216 S217 f218 => okA S2 9 m ∧ (wp_X9_event S2 m (xs (w4 + (1 : Int32)).toNatClampNeg) (xs (w4 + (2 : Int32)).toNatClampNeg) (xs (w4 + (3 : Int32)).toNatClampNeg) (xs (w4 + (4 : Int32)).toNatClampNeg) (xs (w4 + (5 : Int32)).toNatClampNeg) (xs (w4 + (6 : Int32)).toNatClampNeg) (fun r221 S220 => okA S220 9 m ∧ (wp_X9_thrown S220 m (fun r225 S224 => if r225 = r216 then (if r216 = 0 then (if (lg_cmp (f218 (0 : Int32).toNatClampNeg) r221.toInt64) = 0 then (K S217 S224 f218 (w4 + (8 : Int32))) else (False)) else (K S217 S224 f218 (w4 + (8 : Int32)))) else (False))))))))))))
set_option maxHeartbeats 4000000 in
set_option maxRecDepth 100000 in
theorem k_law_C15 (l : Launch) (hfl : l.stackTraces = false) (v : Ev) (b x m o L : Nat) (xs : Nat → Int32) {nm9 : String} {x9 : P9} {A : Nat → Prop} {E : State → Prop} (C : ∀ X, Cx l v RL cL_law 7 (some .boolean) nm9 (x9, X, A, E)) (hX : LX b L xs A x9) (hE : LE b A E x9) {n B B2 : Nat} (hB : B = 25850 - (n + 1) * 50) (hB2 : B2 = 773500 - (n + 1) * 1500) (hn : n + 1 ≤ 513) {K : Hp → Hp → (Nat → Int64) → Int32 → Prop} (ih : ∀ (S1 S2 : Hp) (f : Nat → Int64) (w4 : Int32), n ≤ 513 → g_T S2 = v.2.2.1 → K S1 S2 f w4 → ZZ l v 7 room_1 (x9, wl v.2.1 o f (g_w v.2.1 S2), A, E) (25850 - n * 50) (773500 - n * 1500) S1 23 [(0, va_rf (some b)), (1, va_rf (some x)), (2, va_rf (some m)), (3, va_rf (some o)), (4, .int w4)] []) (S1 S2 : Hp) (f : Nat → Int64) (w4 : Int32) (hT2 : g_T S2 = v.2.2.1) (h : wp_law_C15 x m xs L K S1 S2 f w4) : ZZ l v 7 room_1 (x9, wl v.2.1 o f (g_w v.2.1 S2), A, E) (B + 0) (B2 + 0) S1 1177 [(0, va_rf (some b)), (1, va_rf (some x)), (2, va_rf (some m)), (3, va_rf (some o)), (4, .int w4)] [] := by
  have hR : 600000 ≤ room_1.cells := Nat.le_of_ble_eq_true rfl
  have hR2 : 7000000 ≤ room_1.slots := Nat.le_of_ble_eq_true rfl
  unfold wp_law_C15 at h
  refine z_aload_n (C _) (pc := 1177) dL_law_1177 1 rfl ?_
  refine z_aload_n (C _) (pc := 1178) dL_law_1178 0 rfl ?_
  refine z_iload (C _) (pc := 1179) dL_law_1179 4 rfl ?_
  refine z_iconst (C _) (pc := 1181) (x := (1 : Int32)) dL_law_1181 kic_1 ?_
  refine z_iadd (C _) (pc := 1182) dL_law_1182 ?_
  obtain ⟨v210, h⟩ := h
  refine z_sld (C _) hX (pc := 1183) dL_law_1183 v210 ?_
  refine z_aload_n (C _) (pc := 1184) dL_law_1184 0 rfl ?_
  refine z_iload (C _) (pc := 1185) dL_law_1185 4 rfl ?_
  refine z_iconst (C _) (pc := 1187) (x := (2 : Int32)) dL_law_1187 kic_2 ?_
  refine z_iadd (C _) (pc := 1188) dL_law_1188 ?_
  obtain ⟨v211, h⟩ := h
  refine z_sld (C _) hX (pc := 1189) dL_law_1189 v211 ?_
  refine z_aload_n (C _) (pc := 1190) dL_law_1190 0 rfl ?_
  refine z_iload (C _) (pc := 1191) dL_law_1191 4 rfl ?_
  refine z_iconst (C _) (pc := 1193) (x := (3 : Int32)) dL_law_1193 kic_3 ?_
  refine z_iadd (C _) (pc := 1194) dL_law_1194 ?_
  obtain ⟨v212, h⟩ := h
  refine z_sld (C _) hX (pc := 1195) dL_law_1195 v212 ?_
  refine z_aload_n (C _) (pc := 1196) dL_law_1196 0 rfl ?_
  refine z_iload (C _) (pc := 1197) dL_law_1197 4 rfl ?_
  refine z_iconst (C _) (pc := 1199) (x := (4 : Int32)) dL_law_1199 kic_4 ?_
  refine z_iadd (C _) (pc := 1200) dL_law_1200 ?_
  obtain ⟨v213, h⟩ := h
  refine z_sld (C _) hX (pc := 1201) dL_law_1201 v213 ?_
  refine z_aload_n (C _) (pc := 1202) dL_law_1202 0 rfl ?_
  refine z_iload (C _) (pc := 1203) dL_law_1203 4 rfl ?_
  refine z_iconst (C _) (pc := 1205) (x := (5 : Int32)) dL_law_1205 kic_5 ?_
  refine z_iadd (C _) (pc := 1206) dL_law_1206 ?_
  obtain ⟨v214, h⟩ := h
  refine z_sld (C _) hX (pc := 1207) dL_law_1207 v214 ?_
  refine z_aload_n (C _) (pc := 1208) dL_law_1208 0 rfl ?_
  refine z_iload (C _) (pc := 1209) dL_law_1209 4 rfl ?_
  refine z_bipush (C _) (pc := 1211) (x := (6 : Int32)) dL_law_1211 kbp_6 ?_
  refine z_iadd (C _) (pc := 1213) dL_law_1213 ?_
  obtain ⟨v215, h⟩ := h
  refine z_sld (C _) hX (pc := 1214) dL_law_1214 v215 ?_
  refine z_aload_n (C _) (pc := 1215) dL_law_1215 3 rfl ?_
  refine z_SL (C []) (pc := 1216) (kc' := B + 9) (ks' := B2 + 113) (As := [va_rf (some x), .int (xs (w4 + (1 : Int32)).toNatClampNeg), .int (xs (w4 + (2 : Int32)).toNatClampNeg), .int (xs (w4 + (3 : Int32)).toNatClampNeg), .int (xs (w4 + (4 : Int32)).toNatClampNeg), .int (xs (w4 + (5 : Int32)).toNatClampNeg), .int (xs (w4 + (6 : Int32)).toNatClampNeg), va_rf (some o)]) (rest := []) (c_L_event l hfl v S1 x o (xs (w4 + (1 : Int32)).toNatClampNeg) (xs (w4 + (2 : Int32)).toNatClampNeg) (xs (w4 + (3 : Int32)).toNatClampNeg) (xs (w4 + (4 : Int32)).toNatClampNeg) (xs (w4 + (5 : Int32)).toNatClampNeg) (xs (w4 + (6 : Int32)).toNatClampNeg) f) bw_704 bw_0 (by decide +kernel) (n := 8) (by decide +kernel) bw_702 bw_703 ⟨by have h9 : rm_L_event.cells = 9 := rfl; omega, by omega, by have h9 : rm_L_event.slots = 113 := rfl; omega, by omega, by decide, by decide⟩ rfl rfl (Nat.le_of_ble_eq_true rfl) dL_law_1216 h (fun r216 S217 f218 h => ?_)
  refine z_istore (C _) (pc := 1219) (lv' := [(5, .int r216), (0, va_rf (some b)), (1, va_rf (some x)), (2, va_rf (some m)), (3, va_rf (some o)), (4, .int w4)]) dL_law_1219 (by decide) rfl ?_
  refine z_aload_n (C _) (pc := 1221) dL_law_1221 3 rfl ?_
  refine z_aload_n (C _) (pc := 1222) dL_law_1222 1 rfl ?_
  refine z_iload (C _) (pc := 1223) dL_law_1223 5 rfl ?_
  refine z_iconst (C _) (pc := 1225) (x := (1 : Int32)) dL_law_1225 kic_1 ?_
  refine z_iadd (C _) (pc := 1226) dL_law_1226 ?_
  refine z_sld (C _) hX (pc := 1227) dL_law_1227 v210 ?_
  refine z_aload_n (C _) (pc := 1228) dL_law_1228 1 rfl ?_
  refine z_iload (C _) (pc := 1229) dL_law_1229 5 rfl ?_
  refine z_iconst (C _) (pc := 1231) (x := (2 : Int32)) dL_law_1231 kic_2 ?_
  refine z_iadd (C _) (pc := 1232) dL_law_1232 ?_
  refine z_sld (C _) hX (pc := 1233) dL_law_1233 v211 ?_
  refine z_aload_n (C _) (pc := 1234) dL_law_1234 1 rfl ?_
  refine z_iload (C _) (pc := 1235) dL_law_1235 5 rfl ?_
  refine z_iconst (C _) (pc := 1237) (x := (3 : Int32)) dL_law_1237 kic_3 ?_
  refine z_iadd (C _) (pc := 1238) dL_law_1238 ?_
  refine z_sld (C _) hX (pc := 1239) dL_law_1239 v212 ?_
  refine z_aload_n (C _) (pc := 1240) dL_law_1240 1 rfl ?_
  refine z_iload (C _) (pc := 1241) dL_law_1241 5 rfl ?_
  refine z_iconst (C _) (pc := 1243) (x := (4 : Int32)) dL_law_1243 kic_4 ?_
  refine z_iadd (C _) (pc := 1244) dL_law_1244 ?_
  refine z_sld (C _) hX (pc := 1245) dL_law_1245 v213 ?_
  refine z_aload_n (C _) (pc := 1246) dL_law_1246 1 rfl ?_
  refine z_iload (C _) (pc := 1247) dL_law_1247 5 rfl ?_
  refine z_iconst (C _) (pc := 1249) (x := (5 : Int32)) dL_law_1249 kic_5 ?_
  refine z_iadd (C _) (pc := 1250) dL_law_1250 ?_
  refine z_sld (C _) hX (pc := 1251) dL_law_1251 v214 ?_
  refine z_aload_n (C _) (pc := 1252) dL_law_1252 1 rfl ?_
  refine z_iload (C _) (pc := 1253) dL_law_1253 5 rfl ?_
  refine z_bipush (C _) (pc := 1255) (x := (6 : Int32)) dL_law_1255 kbp_6 ?_
  refine z_iadd (C _) (pc := 1257) dL_law_1257 ?_
  refine z_sld (C _) hX (pc := 1258) dL_law_1258 v215 ?_
  obtain ⟨o219, h⟩ := h
  refine z_sw hT2 (fun hT1 => ?_)
  refine z_Vi (C _) (pc := 1259) (KX := fun _ _ => False) (kc' := B + 9) (ks' := B2 + 113) (As := [.int (xs (w4 + (1 : Int32)).toNatClampNeg), .int (xs (w4 + (2 : Int32)).toNatClampNeg), .int (xs (w4 + (3 : Int32)).toNatClampNeg), .int (xs (w4 + (4 : Int32)).toNatClampNeg), .int (xs (w4 + (5 : Int32)).toNatClampNeg), .int (xs (w4 + (6 : Int32)).toNatClampNeg)]) (rest := []) rfl (c_X9_event l v S2 m (xs (w4 + (1 : Int32)).toNatClampNeg) (xs (w4 + (2 : Int32)).toNatClampNeg) (xs (w4 + (3 : Int32)).toNatClampNeg) (xs (w4 + (4 : Int32)).toNatClampNeg) (xs (w4 + (5 : Int32)).toNatClampNeg) (xs (w4 + (6 : Int32)).toNatClampNeg)) mw_X9_event bw_1169 bw_1170 bw_1171 ⟨by have h9 : rm_X9_event.cells = 0 := rfl; omega, by omega, by have h9 : rm_X9_event.slots = 0 := rfl; omega, by omega, by decide, by decide⟩ rfl rfl (Nat.le_of_ble_eq_true rfl) (by decide) rfl o219 dL_law_1259 h (fun r221 S220 h => ?_) (fun En S9 h => h.elim)
  refine z_sw hT1 (fun t222 => ?_)
  refine z_istore (C _) (pc := 1262) (lv' := [(6, .int r221), (5, .int r216), (0, va_rf (some b)), (1, va_rf (some x)), (2, va_rf (some m)), (3, va_rf (some o)), (4, .int w4)]) dL_law_1262 (by decide) rfl ?_
  refine z_aload_n (C _) (pc := 1264) dL_law_1264 4 rfl ?_
  obtain ⟨o223, h⟩ := h
  refine z_sw t222 (fun hT1 => ?_)
  refine z_Vi (C _) (pc := 1265) (KX := fun _ _ => False) (kc' := B + 9) (ks' := B2 + 113) (As := []) (rest := []) rfl (c_X9_thrown l v S220 m) mw_X9_thrown bw_1006 bw_1007 bw_1008 ⟨by have h9 : rm_X9_thrown.cells = 0 := rfl; omega, by omega, by have h9 : rm_X9_thrown.slots = 0 := rfl; omega, by omega, by decide, by decide⟩ rfl rfl (Nat.le_of_ble_eq_true rfl) (by decide) rfl o223 dL_law_1265 h (fun r225 S224 h => ?_) (fun En S9 h => h.elim)
  refine z_sw hT1 (fun t226 => ?_)
  refine z_iload (C _) (pc := 1268) dL_law_1268 1 rfl ?_
  refine z_icmp_eq (C _) (pc := 1270) (tgt := 1275) dL_law_1270 (by decide) h (fun h => ?_) (fun h => ?_)
  · refine z_iload (C _) (pc := 1275) dL_law_1275 1 rfl ?_
    refine z_if_ne (C _) (pc := 1277) (tgt := 1292) dL_law_1277 (by decide) h (fun h => ?_) (fun h => ?_)
    · refine z_goto (C _) (pc := 1292) (tgt := 2102) dL_law_1292 (by decide) ?_
      refine z_iinc (C _) (pc := 2102) (y := w4 + (8 : Int32)) (lv' := [(4, .int (w4 + (8 : Int32))), (6, .int r221), (5, .int r216), (0, va_rf (some b)), (1, va_rf (some x)), (2, va_rf (some m)), (3, va_rf (some o))]) dL_law_2102 6 rfl rfl (by decide) rfl ?_
      refine z_goto (C _) (pc := 2105) (tgt := 23) dL_law_2105 (by decide) ?_
      refine z_sub [3, 4, 5, 6, 0] (lv' := [(0, va_rf (some b)), (1, va_rf (some x)), (2, va_rf (some m)), (3, va_rf (some o)), (4, .int (w4 + (8 : Int32)))]) rfl ?_
      refine z_wide (kc' := 25850 - n * 50) (ks' := 773500 - n * 1500) (by omega) (by omega) ?_
      exact ih S217 S224 f218 (w4 + (8 : Int32)) (by omega) t226 h
    · refine z_aload_n (C _) (pc := 1280) dL_law_1280 5 rfl ?_
      refine z_iconst (C _) (pc := 1281) (x := (0 : Int32)) dL_law_1281 kic_0 ?_
      refine z_lald (C []) (pc := 1282) dL_law_1282 vin01 ?_
      refine z_iload (C _) (pc := 1283) dL_law_1283 0 rfl ?_
      refine z_i2l (C _) (pc := 1285) dL_law_1285 ?_
      refine z_lcmp (C _) (pc := 1286) dL_law_1286 ?_
      refine z_if_eq (C _) (pc := 1287) (tgt := 1292) dL_law_1287 (by decide) h (fun h => ?_) (fun h => ?_)
      · refine z_goto (C _) (pc := 1292) (tgt := 2102) dL_law_1292 (by decide) ?_
        refine z_iinc (C _) (pc := 2102) (y := w4 + (8 : Int32)) (lv' := [(4, .int (w4 + (8 : Int32))), (6, .int r221), (5, .int r216), (0, va_rf (some b)), (1, va_rf (some x)), (2, va_rf (some m)), (3, va_rf (some o))]) dL_law_2102 6 rfl rfl (by decide) rfl ?_
        refine z_goto (C _) (pc := 2105) (tgt := 23) dL_law_2105 (by decide) ?_
        refine z_sub [3, 4, 5, 6, 0] (lv' := [(0, va_rf (some b)), (1, va_rf (some x)), (2, va_rf (some m)), (3, va_rf (some o)), (4, .int (w4 + (8 : Int32)))]) rfl ?_
        refine z_wide (kc' := 25850 - n * 50) (ks' := 773500 - n * 1500) (by omega) (by omega) ?_
        exact ih S217 S224 f218 (w4 + (8 : Int32)) (by omega) t226 h
      · refine z_iconst (C _) (pc := 1290) (x := (0 : Int32)) dL_law_1290 kic_0 ?_
        exact h.elim
  · refine z_iconst (C _) (pc := 1273) (x := (0 : Int32)) dL_law_1273 kic_0 ?_
    exact h.elim
def wp_law_C16 (x m : Nat) (xs : Nat → Int32) (L : Nat) (K : Hp → Hp → (Nat → Int64) → Int32 → Prop) (S1 S2 : Hp) (f : Nat → Int64) (w4 : Int32) : Prop := vp_in (w4 + (1 : Int32)) L ∧ (vp_in (w4 + (2 : Int32)) L ∧ (vp_in (w4 + (3 : Int32)) L ∧ (if (xs (w4 + (3 : Int32)).toNatClampNeg) = 0 then (wp_L_staff S1 x (xs (w4 + (1 : Int32)).toNatClampNeg) (xs (w4 + (2 : Int32)).toNatClampNeg) (0 : Int32) f (fun r231 S232 f233 => if (xs (w4 + (3 : Int32)).toNatClampNeg) = 0 then (okA S2 9 m ∧ (wp_X9_staff S2 m (xs (w4 + (1 : Int32)).toNatClampNeg) (xs (w4 + (2 : Int32)).toNatClampNeg) (0 : Int32) (fun r236 S235 => okA S235 9 m ∧ (wp_X9_thrown S235 m (fun r240 S239 => if r240 = r231 then (if r231 = 0 then (if (lg_cmp (f233 (0 : Int32).toNatClampNeg) r236.toInt64) = 0 then (K S232 S239 f233 (w4 + (8 : Int32))) else (False)) else (K S232 S239 f233 (w4 + (8 : Int32)))) else (False)))))) else (okA S2 9 m ∧ (wp_X9_staff S2 m (xs (w4 + (1 : Int32)).toNatClampNeg) (xs (w4 + (2 : Int32)).toNatClampNeg) (1 : Int32) (fun r244 S243 => okA S243 9 m ∧ (wp_X9_thrown S243 m (fun r248 S247 => if r248 = r231 then (if r231 = 0 then (if (lg_cmp (f233 (0 : Int32).toNatClampNeg) r244.toInt64) = 0 then (K S232 S247 f233 (w4 + (8 : Int32))) else (False)) else (K S232 S247 f233 (w4 + (8 : Int32)))) else (False)))))))) else (wp_L_staff S1 x (xs (w4 + (1 : Int32)).toNatClampNeg) (xs (w4 + (2 : Int32)).toNatClampNeg) (1 : Int32) f (fun r250 S251 f252 => if (xs (w4 + (3 : Int32)).toNatClampNeg) = 0 then (okA S2 9 m ∧ (wp_X9_staff S2 m (xs (w4 + (1 : Int32)).toNatClampNeg) (xs (w4 + (2 : Int32)).toNatClampNeg) (0 : Int32) (fun r255 S254 => okA S254 9 m ∧ (wp_X9_thrown S254 m (fun r259 S258 => if r259 = r250 then (if r250 = 0 then (if (lg_cmp (f252 (0 : Int32).toNatClampNeg) r255.toInt64) = 0 then (K S251 S258 f252 (w4 + (8 : Int32))) else (False)) else (K S251 S258 f252 (w4 + (8 : Int32)))) else (False)))))) else (okA S2 9 m ∧ (wp_X9_staff S2 m (xs (w4 + (1 : Int32)).toNatClampNeg) (xs (w4 + (2 : Int32)).toNatClampNeg) (1 : Int32) (fun r263 S262 => okA S262 9 m ∧ (wp_X9_thrown S262 m (fun r267 S266 => if r267 = r250 then (if r250 = 0 then (if (lg_cmp (f252 (0 : Int32).toNatClampNeg) r263.toInt64) = 0 then (K S251 S266 f252 (w4 + (8 : Int32))) else (False)) else (K S251 S266 f252 (w4 + (8 : Int32)))) else (False)))))))))))
set_option maxHeartbeats 4000000 in
set_option maxRecDepth 100000 in
theorem k_law_C16 (l : Launch) (hfl : l.stackTraces = false) (v : Ev) (b x m o L : Nat) (xs : Nat → Int32) {nm9 : String} {x9 : P9} {A : Nat → Prop} {E : State → Prop} (C : ∀ X, Cx l v RL cL_law 7 (some .boolean) nm9 (x9, X, A, E)) (hX : LX b L xs A x9) (hE : LE b A E x9) {n B B2 : Nat} (hB : B = 25850 - (n + 1) * 50) (hB2 : B2 = 773500 - (n + 1) * 1500) (hn : n + 1 ≤ 513) {K : Hp → Hp → (Nat → Int64) → Int32 → Prop} (ih : ∀ (S1 S2 : Hp) (f : Nat → Int64) (w4 : Int32), n ≤ 513 → g_T S2 = v.2.2.1 → K S1 S2 f w4 → ZZ l v 7 room_1 (x9, wl v.2.1 o f (g_w v.2.1 S2), A, E) (25850 - n * 50) (773500 - n * 1500) S1 23 [(0, va_rf (some b)), (1, va_rf (some x)), (2, va_rf (some m)), (3, va_rf (some o)), (4, .int w4)] []) (S1 S2 : Hp) (f : Nat → Int64) (w4 : Int32) (hT2 : g_T S2 = v.2.2.1) (h : wp_law_C16 x m xs L K S1 S2 f w4) : ZZ l v 7 room_1 (x9, wl v.2.1 o f (g_w v.2.1 S2), A, E) (B + 0) (B2 + 0) S1 1295 [(0, va_rf (some b)), (1, va_rf (some x)), (2, va_rf (some m)), (3, va_rf (some o)), (4, .int w4)] [] := by
  have hR : 600000 ≤ room_1.cells := Nat.le_of_ble_eq_true rfl
  have hR2 : 7000000 ≤ room_1.slots := Nat.le_of_ble_eq_true rfl
  unfold wp_law_C16 at h
  refine z_aload_n (C _) (pc := 1295) dL_law_1295 1 rfl ?_
  refine z_aload_n (C _) (pc := 1296) dL_law_1296 0 rfl ?_
  refine z_iload (C _) (pc := 1297) dL_law_1297 4 rfl ?_
  refine z_iconst (C _) (pc := 1299) (x := (1 : Int32)) dL_law_1299 kic_1 ?_
  refine z_iadd (C _) (pc := 1300) dL_law_1300 ?_
  obtain ⟨v228, h⟩ := h
  refine z_sld (C _) hX (pc := 1301) dL_law_1301 v228 ?_
  refine z_aload_n (C _) (pc := 1302) dL_law_1302 0 rfl ?_
  refine z_iload (C _) (pc := 1303) dL_law_1303 4 rfl ?_
  refine z_iconst (C _) (pc := 1305) (x := (2 : Int32)) dL_law_1305 kic_2 ?_
  refine z_iadd (C _) (pc := 1306) dL_law_1306 ?_
  obtain ⟨v229, h⟩ := h
  refine z_sld (C _) hX (pc := 1307) dL_law_1307 v229 ?_
  refine z_aload_n (C _) (pc := 1308) dL_law_1308 0 rfl ?_
  refine z_iload (C _) (pc := 1309) dL_law_1309 4 rfl ?_
  refine z_iconst (C _) (pc := 1311) (x := (3 : Int32)) dL_law_1311 kic_3 ?_
  refine z_iadd (C _) (pc := 1312) dL_law_1312 ?_
  obtain ⟨v230, h⟩ := h
  refine z_sld (C _) hX (pc := 1313) dL_law_1313 v230 ?_
  refine z_if_eq (C _) (pc := 1314) (tgt := 1321) dL_law_1314 (by decide) h (fun h => ?_) (fun h => ?_)
  · refine z_iconst (C _) (pc := 1321) (x := (0 : Int32)) dL_law_1321 kic_0 ?_
    refine z_aload_n (C _) (pc := 1322) dL_law_1322 3 rfl ?_
    refine z_SL (C []) (pc := 1323) (kc' := B + 3) (ks' := B2 + 18) (As := [va_rf (some x), .int (xs (w4 + (1 : Int32)).toNatClampNeg), .int (xs (w4 + (2 : Int32)).toNatClampNeg), .int (0 : Int32), va_rf (some o)]) (rest := []) (c_L_staff l hfl v S1 x o (xs (w4 + (1 : Int32)).toNatClampNeg) (xs (w4 + (2 : Int32)).toNatClampNeg) (0 : Int32) f) bw_743 bw_0 (by decide +kernel) (n := 5) (by decide +kernel) bw_741 bw_742 ⟨by have h9 : rm_L_staff.cells = 3 := rfl; omega, by omega, by have h9 : rm_L_staff.slots = 18 := rfl; omega, by omega, by decide, by decide⟩ rfl rfl (Nat.le_of_ble_eq_true rfl) dL_law_1323 h (fun r231 S232 f233 h => ?_)
    refine z_istore (C _) (pc := 1326) (lv' := [(5, .int r231), (0, va_rf (some b)), (1, va_rf (some x)), (2, va_rf (some m)), (3, va_rf (some o)), (4, .int w4)]) dL_law_1326 (by decide) rfl ?_
    refine z_aload_n (C _) (pc := 1328) dL_law_1328 3 rfl ?_
    refine z_aload_n (C _) (pc := 1329) dL_law_1329 1 rfl ?_
    refine z_iload (C _) (pc := 1330) dL_law_1330 5 rfl ?_
    refine z_iconst (C _) (pc := 1332) (x := (1 : Int32)) dL_law_1332 kic_1 ?_
    refine z_iadd (C _) (pc := 1333) dL_law_1333 ?_
    refine z_sld (C _) hX (pc := 1334) dL_law_1334 v228 ?_
    refine z_aload_n (C _) (pc := 1335) dL_law_1335 1 rfl ?_
    refine z_iload (C _) (pc := 1336) dL_law_1336 5 rfl ?_
    refine z_iconst (C _) (pc := 1338) (x := (2 : Int32)) dL_law_1338 kic_2 ?_
    refine z_iadd (C _) (pc := 1339) dL_law_1339 ?_
    refine z_sld (C _) hX (pc := 1340) dL_law_1340 v229 ?_
    refine z_aload_n (C _) (pc := 1341) dL_law_1341 1 rfl ?_
    refine z_iload (C _) (pc := 1342) dL_law_1342 5 rfl ?_
    refine z_iconst (C _) (pc := 1344) (x := (3 : Int32)) dL_law_1344 kic_3 ?_
    refine z_iadd (C _) (pc := 1345) dL_law_1345 ?_
    refine z_sld (C _) hX (pc := 1346) dL_law_1346 v230 ?_
    refine z_if_eq (C _) (pc := 1347) (tgt := 1354) dL_law_1347 (by decide) h (fun h => ?_) (fun h => ?_)
    · refine z_iconst (C _) (pc := 1354) (x := (0 : Int32)) dL_law_1354 kic_0 ?_
      obtain ⟨o234, h⟩ := h
      refine z_sw hT2 (fun hT1 => ?_)
      refine z_Vi (C _) (pc := 1355) (KX := fun _ _ => False) (kc' := B + 3) (ks' := B2 + 18) (As := [.int (xs (w4 + (1 : Int32)).toNatClampNeg), .int (xs (w4 + (2 : Int32)).toNatClampNeg), .int (0 : Int32)]) (rest := []) rfl (c_X9_staff l v S2 m (xs (w4 + (1 : Int32)).toNatClampNeg) (xs (w4 + (2 : Int32)).toNatClampNeg) (0 : Int32)) mw_X9_staff bw_1173 bw_1174 bw_1175 ⟨by have h9 : rm_X9_staff.cells = 0 := rfl; omega, by omega, by have h9 : rm_X9_staff.slots = 0 := rfl; omega, by omega, by decide, by decide⟩ rfl rfl (Nat.le_of_ble_eq_true rfl) (by decide) rfl o234 dL_law_1355 h (fun r236 S235 h => ?_) (fun En S9 h => h.elim)
      refine z_sw hT1 (fun t237 => ?_)
      refine z_istore (C _) (pc := 1358) (lv' := [(6, .int r236), (5, .int r231), (0, va_rf (some b)), (1, va_rf (some x)), (2, va_rf (some m)), (3, va_rf (some o)), (4, .int w4)]) dL_law_1358 (by decide) rfl ?_
      refine z_aload_n (C _) (pc := 1360) dL_law_1360 4 rfl ?_
      obtain ⟨o238, h⟩ := h
      refine z_sw t237 (fun hT1 => ?_)
      refine z_Vi (C _) (pc := 1361) (KX := fun _ _ => False) (kc' := B + 3) (ks' := B2 + 18) (As := []) (rest := []) rfl (c_X9_thrown l v S235 m) mw_X9_thrown bw_1006 bw_1007 bw_1008 ⟨by have h9 : rm_X9_thrown.cells = 0 := rfl; omega, by omega, by have h9 : rm_X9_thrown.slots = 0 := rfl; omega, by omega, by decide, by decide⟩ rfl rfl (Nat.le_of_ble_eq_true rfl) (by decide) rfl o238 dL_law_1361 h (fun r240 S239 h => ?_) (fun En S9 h => h.elim)
      refine z_sw hT1 (fun t241 => ?_)
      refine z_iload (C _) (pc := 1364) dL_law_1364 1 rfl ?_
      refine z_icmp_eq (C _) (pc := 1366) (tgt := 1371) dL_law_1366 (by decide) h (fun h => ?_) (fun h => ?_)
      · refine z_iload (C _) (pc := 1371) dL_law_1371 1 rfl ?_
        refine z_if_ne (C _) (pc := 1373) (tgt := 1388) dL_law_1373 (by decide) h (fun h => ?_) (fun h => ?_)
        · refine z_goto (C _) (pc := 1388) (tgt := 2102) dL_law_1388 (by decide) ?_
          refine z_iinc (C _) (pc := 2102) (y := w4 + (8 : Int32)) (lv' := [(4, .int (w4 + (8 : Int32))), (6, .int r236), (5, .int r231), (0, va_rf (some b)), (1, va_rf (some x)), (2, va_rf (some m)), (3, va_rf (some o))]) dL_law_2102 6 rfl rfl (by decide) rfl ?_
          refine z_goto (C _) (pc := 2105) (tgt := 23) dL_law_2105 (by decide) ?_
          refine z_sub [3, 4, 5, 6, 0] (lv' := [(0, va_rf (some b)), (1, va_rf (some x)), (2, va_rf (some m)), (3, va_rf (some o)), (4, .int (w4 + (8 : Int32)))]) rfl ?_
          refine z_wide (kc' := 25850 - n * 50) (ks' := 773500 - n * 1500) (by omega) (by omega) ?_
          exact ih S232 S239 f233 (w4 + (8 : Int32)) (by omega) t241 h
        · refine z_aload_n (C _) (pc := 1376) dL_law_1376 5 rfl ?_
          refine z_iconst (C _) (pc := 1377) (x := (0 : Int32)) dL_law_1377 kic_0 ?_
          refine z_lald (C []) (pc := 1378) dL_law_1378 vin01 ?_
          refine z_iload (C _) (pc := 1379) dL_law_1379 0 rfl ?_
          refine z_i2l (C _) (pc := 1381) dL_law_1381 ?_
          refine z_lcmp (C _) (pc := 1382) dL_law_1382 ?_
          refine z_if_eq (C _) (pc := 1383) (tgt := 1388) dL_law_1383 (by decide) h (fun h => ?_) (fun h => ?_)
          · refine z_goto (C _) (pc := 1388) (tgt := 2102) dL_law_1388 (by decide) ?_
            refine z_iinc (C _) (pc := 2102) (y := w4 + (8 : Int32)) (lv' := [(4, .int (w4 + (8 : Int32))), (6, .int r236), (5, .int r231), (0, va_rf (some b)), (1, va_rf (some x)), (2, va_rf (some m)), (3, va_rf (some o))]) dL_law_2102 6 rfl rfl (by decide) rfl ?_
            refine z_goto (C _) (pc := 2105) (tgt := 23) dL_law_2105 (by decide) ?_
            refine z_sub [3, 4, 5, 6, 0] (lv' := [(0, va_rf (some b)), (1, va_rf (some x)), (2, va_rf (some m)), (3, va_rf (some o)), (4, .int (w4 + (8 : Int32)))]) rfl ?_
            refine z_wide (kc' := 25850 - n * 50) (ks' := 773500 - n * 1500) (by omega) (by omega) ?_
            exact ih S232 S239 f233 (w4 + (8 : Int32)) (by omega) t241 h
          · refine z_iconst (C _) (pc := 1386) (x := (0 : Int32)) dL_law_1386 kic_0 ?_
            exact h.elim
      · refine z_iconst (C _) (pc := 1369) (x := (0 : Int32)) dL_law_1369 kic_0 ?_
        exact h.elim
    · refine z_iconst (C _) (pc := 1350) (x := (1 : Int32)) dL_law_1350 kic_1 ?_
      refine z_goto (C _) (pc := 1351) (tgt := 1355) dL_law_1351 (by decide) ?_
      obtain ⟨o242, h⟩ := h
      refine z_sw hT2 (fun hT1 => ?_)
      refine z_Vi (C _) (pc := 1355) (KX := fun _ _ => False) (kc' := B + 3) (ks' := B2 + 18) (As := [.int (xs (w4 + (1 : Int32)).toNatClampNeg), .int (xs (w4 + (2 : Int32)).toNatClampNeg), .int (1 : Int32)]) (rest := []) rfl (c_X9_staff l v S2 m (xs (w4 + (1 : Int32)).toNatClampNeg) (xs (w4 + (2 : Int32)).toNatClampNeg) (1 : Int32)) mw_X9_staff bw_1173 bw_1174 bw_1175 ⟨by have h9 : rm_X9_staff.cells = 0 := rfl; omega, by omega, by have h9 : rm_X9_staff.slots = 0 := rfl; omega, by omega, by decide, by decide⟩ rfl rfl (Nat.le_of_ble_eq_true rfl) (by decide) rfl o242 dL_law_1355 h (fun r244 S243 h => ?_) (fun En S9 h => h.elim)
      refine z_sw hT1 (fun t245 => ?_)
      refine z_istore (C _) (pc := 1358) (lv' := [(6, .int r244), (5, .int r231), (0, va_rf (some b)), (1, va_rf (some x)), (2, va_rf (some m)), (3, va_rf (some o)), (4, .int w4)]) dL_law_1358 (by decide) rfl ?_
      refine z_aload_n (C _) (pc := 1360) dL_law_1360 4 rfl ?_
      obtain ⟨o246, h⟩ := h
      refine z_sw t245 (fun hT1 => ?_)
      refine z_Vi (C _) (pc := 1361) (KX := fun _ _ => False) (kc' := B + 3) (ks' := B2 + 18) (As := []) (rest := []) rfl (c_X9_thrown l v S243 m) mw_X9_thrown bw_1006 bw_1007 bw_1008 ⟨by have h9 : rm_X9_thrown.cells = 0 := rfl; omega, by omega, by have h9 : rm_X9_thrown.slots = 0 := rfl; omega, by omega, by decide, by decide⟩ rfl rfl (Nat.le_of_ble_eq_true rfl) (by decide) rfl o246 dL_law_1361 h (fun r248 S247 h => ?_) (fun En S9 h => h.elim)
      refine z_sw hT1 (fun t249 => ?_)
      refine z_iload (C _) (pc := 1364) dL_law_1364 1 rfl ?_
      refine z_icmp_eq (C _) (pc := 1366) (tgt := 1371) dL_law_1366 (by decide) h (fun h => ?_) (fun h => ?_)
      · refine z_iload (C _) (pc := 1371) dL_law_1371 1 rfl ?_
        refine z_if_ne (C _) (pc := 1373) (tgt := 1388) dL_law_1373 (by decide) h (fun h => ?_) (fun h => ?_)
        · refine z_goto (C _) (pc := 1388) (tgt := 2102) dL_law_1388 (by decide) ?_
          refine z_iinc (C _) (pc := 2102) (y := w4 + (8 : Int32)) (lv' := [(4, .int (w4 + (8 : Int32))), (6, .int r244), (5, .int r231), (0, va_rf (some b)), (1, va_rf (some x)), (2, va_rf (some m)), (3, va_rf (some o))]) dL_law_2102 6 rfl rfl (by decide) rfl ?_
          refine z_goto (C _) (pc := 2105) (tgt := 23) dL_law_2105 (by decide) ?_
          refine z_sub [3, 4, 5, 6, 0] (lv' := [(0, va_rf (some b)), (1, va_rf (some x)), (2, va_rf (some m)), (3, va_rf (some o)), (4, .int (w4 + (8 : Int32)))]) rfl ?_
          refine z_wide (kc' := 25850 - n * 50) (ks' := 773500 - n * 1500) (by omega) (by omega) ?_
          exact ih S232 S247 f233 (w4 + (8 : Int32)) (by omega) t249 h
        · refine z_aload_n (C _) (pc := 1376) dL_law_1376 5 rfl ?_
          refine z_iconst (C _) (pc := 1377) (x := (0 : Int32)) dL_law_1377 kic_0 ?_
          refine z_lald (C []) (pc := 1378) dL_law_1378 vin01 ?_
          refine z_iload (C _) (pc := 1379) dL_law_1379 0 rfl ?_
          refine z_i2l (C _) (pc := 1381) dL_law_1381 ?_
          refine z_lcmp (C _) (pc := 1382) dL_law_1382 ?_
          refine z_if_eq (C _) (pc := 1383) (tgt := 1388) dL_law_1383 (by decide) h (fun h => ?_) (fun h => ?_)
          · refine z_goto (C _) (pc := 1388) (tgt := 2102) dL_law_1388 (by decide) ?_
            refine z_iinc (C _) (pc := 2102) (y := w4 + (8 : Int32)) (lv' := [(4, .int (w4 + (8 : Int32))), (6, .int r244), (5, .int r231), (0, va_rf (some b)), (1, va_rf (some x)), (2, va_rf (some m)), (3, va_rf (some o))]) dL_law_2102 6 rfl rfl (by decide) rfl ?_
            refine z_goto (C _) (pc := 2105) (tgt := 23) dL_law_2105 (by decide) ?_
            refine z_sub [3, 4, 5, 6, 0] (lv' := [(0, va_rf (some b)), (1, va_rf (some x)), (2, va_rf (some m)), (3, va_rf (some o)), (4, .int (w4 + (8 : Int32)))]) rfl ?_
            refine z_wide (kc' := 25850 - n * 50) (ks' := 773500 - n * 1500) (by omega) (by omega) ?_
            exact ih S232 S247 f233 (w4 + (8 : Int32)) (by omega) t249 h
          · refine z_iconst (C _) (pc := 1386) (x := (0 : Int32)) dL_law_1386 kic_0 ?_
            exact h.elim
      · refine z_iconst (C _) (pc := 1369) (x := (0 : Int32)) dL_law_1369 kic_0 ?_
        exact h.elim
  · refine z_iconst (C _) (pc := 1317) (x := (1 : Int32)) dL_law_1317 kic_1 ?_
    refine z_goto (C _) (pc := 1318) (tgt := 1322) dL_law_1318 (by decide) ?_
    refine z_aload_n (C _) (pc := 1322) dL_law_1322 3 rfl ?_
    refine z_SL (C []) (pc := 1323) (kc' := B + 3) (ks' := B2 + 18) (As := [va_rf (some x), .int (xs (w4 + (1 : Int32)).toNatClampNeg), .int (xs (w4 + (2 : Int32)).toNatClampNeg), .int (1 : Int32), va_rf (some o)]) (rest := []) (c_L_staff l hfl v S1 x o (xs (w4 + (1 : Int32)).toNatClampNeg) (xs (w4 + (2 : Int32)).toNatClampNeg) (1 : Int32) f) bw_743 bw_0 (by decide +kernel) (n := 5) (by decide +kernel) bw_741 bw_742 ⟨by have h9 : rm_L_staff.cells = 3 := rfl; omega, by omega, by have h9 : rm_L_staff.slots = 18 := rfl; omega, by omega, by decide, by decide⟩ rfl rfl (Nat.le_of_ble_eq_true rfl) dL_law_1323 h (fun r250 S251 f252 h => ?_)
    refine z_istore (C _) (pc := 1326) (lv' := [(5, .int r250), (0, va_rf (some b)), (1, va_rf (some x)), (2, va_rf (some m)), (3, va_rf (some o)), (4, .int w4)]) dL_law_1326 (by decide) rfl ?_
    refine z_aload_n (C _) (pc := 1328) dL_law_1328 3 rfl ?_
    refine z_aload_n (C _) (pc := 1329) dL_law_1329 1 rfl ?_
    refine z_iload (C _) (pc := 1330) dL_law_1330 5 rfl ?_
    refine z_iconst (C _) (pc := 1332) (x := (1 : Int32)) dL_law_1332 kic_1 ?_
    refine z_iadd (C _) (pc := 1333) dL_law_1333 ?_
    refine z_sld (C _) hX (pc := 1334) dL_law_1334 v228 ?_
    refine z_aload_n (C _) (pc := 1335) dL_law_1335 1 rfl ?_
    refine z_iload (C _) (pc := 1336) dL_law_1336 5 rfl ?_
    refine z_iconst (C _) (pc := 1338) (x := (2 : Int32)) dL_law_1338 kic_2 ?_
    refine z_iadd (C _) (pc := 1339) dL_law_1339 ?_
    refine z_sld (C _) hX (pc := 1340) dL_law_1340 v229 ?_
    refine z_aload_n (C _) (pc := 1341) dL_law_1341 1 rfl ?_
    refine z_iload (C _) (pc := 1342) dL_law_1342 5 rfl ?_
    refine z_iconst (C _) (pc := 1344) (x := (3 : Int32)) dL_law_1344 kic_3 ?_
    refine z_iadd (C _) (pc := 1345) dL_law_1345 ?_
    refine z_sld (C _) hX (pc := 1346) dL_law_1346 v230 ?_
    refine z_if_eq (C _) (pc := 1347) (tgt := 1354) dL_law_1347 (by decide) h (fun h => ?_) (fun h => ?_)
    · refine z_iconst (C _) (pc := 1354) (x := (0 : Int32)) dL_law_1354 kic_0 ?_
      obtain ⟨o253, h⟩ := h
      refine z_sw hT2 (fun hT1 => ?_)
      refine z_Vi (C _) (pc := 1355) (KX := fun _ _ => False) (kc' := B + 3) (ks' := B2 + 18) (As := [.int (xs (w4 + (1 : Int32)).toNatClampNeg), .int (xs (w4 + (2 : Int32)).toNatClampNeg), .int (0 : Int32)]) (rest := []) rfl (c_X9_staff l v S2 m (xs (w4 + (1 : Int32)).toNatClampNeg) (xs (w4 + (2 : Int32)).toNatClampNeg) (0 : Int32)) mw_X9_staff bw_1173 bw_1174 bw_1175 ⟨by have h9 : rm_X9_staff.cells = 0 := rfl; omega, by omega, by have h9 : rm_X9_staff.slots = 0 := rfl; omega, by omega, by decide, by decide⟩ rfl rfl (Nat.le_of_ble_eq_true rfl) (by decide) rfl o253 dL_law_1355 h (fun r255 S254 h => ?_) (fun En S9 h => h.elim)
      refine z_sw hT1 (fun t256 => ?_)
      refine z_istore (C _) (pc := 1358) (lv' := [(6, .int r255), (5, .int r250), (0, va_rf (some b)), (1, va_rf (some x)), (2, va_rf (some m)), (3, va_rf (some o)), (4, .int w4)]) dL_law_1358 (by decide) rfl ?_
      refine z_aload_n (C _) (pc := 1360) dL_law_1360 4 rfl ?_
      obtain ⟨o257, h⟩ := h
      refine z_sw t256 (fun hT1 => ?_)
      refine z_Vi (C _) (pc := 1361) (KX := fun _ _ => False) (kc' := B + 3) (ks' := B2 + 18) (As := []) (rest := []) rfl (c_X9_thrown l v S254 m) mw_X9_thrown bw_1006 bw_1007 bw_1008 ⟨by have h9 : rm_X9_thrown.cells = 0 := rfl; omega, by omega, by have h9 : rm_X9_thrown.slots = 0 := rfl; omega, by omega, by decide, by decide⟩ rfl rfl (Nat.le_of_ble_eq_true rfl) (by decide) rfl o257 dL_law_1361 h (fun r259 S258 h => ?_) (fun En S9 h => h.elim)
      refine z_sw hT1 (fun t260 => ?_)
      refine z_iload (C _) (pc := 1364) dL_law_1364 1 rfl ?_
      refine z_icmp_eq (C _) (pc := 1366) (tgt := 1371) dL_law_1366 (by decide) h (fun h => ?_) (fun h => ?_)
      · refine z_iload (C _) (pc := 1371) dL_law_1371 1 rfl ?_
        refine z_if_ne (C _) (pc := 1373) (tgt := 1388) dL_law_1373 (by decide) h (fun h => ?_) (fun h => ?_)
        · refine z_goto (C _) (pc := 1388) (tgt := 2102) dL_law_1388 (by decide) ?_
          refine z_iinc (C _) (pc := 2102) (y := w4 + (8 : Int32)) (lv' := [(4, .int (w4 + (8 : Int32))), (6, .int r255), (5, .int r250), (0, va_rf (some b)), (1, va_rf (some x)), (2, va_rf (some m)), (3, va_rf (some o))]) dL_law_2102 6 rfl rfl (by decide) rfl ?_
          refine z_goto (C _) (pc := 2105) (tgt := 23) dL_law_2105 (by decide) ?_
          refine z_sub [3, 4, 5, 6, 0] (lv' := [(0, va_rf (some b)), (1, va_rf (some x)), (2, va_rf (some m)), (3, va_rf (some o)), (4, .int (w4 + (8 : Int32)))]) rfl ?_
          refine z_wide (kc' := 25850 - n * 50) (ks' := 773500 - n * 1500) (by omega) (by omega) ?_
          exact ih S251 S258 f252 (w4 + (8 : Int32)) (by omega) t260 h
        · refine z_aload_n (C _) (pc := 1376) dL_law_1376 5 rfl ?_
          refine z_iconst (C _) (pc := 1377) (x := (0 : Int32)) dL_law_1377 kic_0 ?_
          refine z_lald (C []) (pc := 1378) dL_law_1378 vin01 ?_
          refine z_iload (C _) (pc := 1379) dL_law_1379 0 rfl ?_
          refine z_i2l (C _) (pc := 1381) dL_law_1381 ?_
          refine z_lcmp (C _) (pc := 1382) dL_law_1382 ?_
          refine z_if_eq (C _) (pc := 1383) (tgt := 1388) dL_law_1383 (by decide) h (fun h => ?_) (fun h => ?_)
          · refine z_goto (C _) (pc := 1388) (tgt := 2102) dL_law_1388 (by decide) ?_
            refine z_iinc (C _) (pc := 2102) (y := w4 + (8 : Int32)) (lv' := [(4, .int (w4 + (8 : Int32))), (6, .int r255), (5, .int r250), (0, va_rf (some b)), (1, va_rf (some x)), (2, va_rf (some m)), (3, va_rf (some o))]) dL_law_2102 6 rfl rfl (by decide) rfl ?_
            refine z_goto (C _) (pc := 2105) (tgt := 23) dL_law_2105 (by decide) ?_
            refine z_sub [3, 4, 5, 6, 0] (lv' := [(0, va_rf (some b)), (1, va_rf (some x)), (2, va_rf (some m)), (3, va_rf (some o)), (4, .int (w4 + (8 : Int32)))]) rfl ?_
            refine z_wide (kc' := 25850 - n * 50) (ks' := 773500 - n * 1500) (by omega) (by omega) ?_
            exact ih S251 S258 f252 (w4 + (8 : Int32)) (by omega) t260 h
          · refine z_iconst (C _) (pc := 1386) (x := (0 : Int32)) dL_law_1386 kic_0 ?_
            exact h.elim
      · refine z_iconst (C _) (pc := 1369) (x := (0 : Int32)) dL_law_1369 kic_0 ?_
        exact h.elim
    · refine z_iconst (C _) (pc := 1350) (x := (1 : Int32)) dL_law_1350 kic_1 ?_
      refine z_goto (C _) (pc := 1351) (tgt := 1355) dL_law_1351 (by decide) ?_
      obtain ⟨o261, h⟩ := h
      refine z_sw hT2 (fun hT1 => ?_)
      refine z_Vi (C _) (pc := 1355) (KX := fun _ _ => False) (kc' := B + 3) (ks' := B2 + 18) (As := [.int (xs (w4 + (1 : Int32)).toNatClampNeg), .int (xs (w4 + (2 : Int32)).toNatClampNeg), .int (1 : Int32)]) (rest := []) rfl (c_X9_staff l v S2 m (xs (w4 + (1 : Int32)).toNatClampNeg) (xs (w4 + (2 : Int32)).toNatClampNeg) (1 : Int32)) mw_X9_staff bw_1173 bw_1174 bw_1175 ⟨by have h9 : rm_X9_staff.cells = 0 := rfl; omega, by omega, by have h9 : rm_X9_staff.slots = 0 := rfl; omega, by omega, by decide, by decide⟩ rfl rfl (Nat.le_of_ble_eq_true rfl) (by decide) rfl o261 dL_law_1355 h (fun r263 S262 h => ?_) (fun En S9 h => h.elim)
      refine z_sw hT1 (fun t264 => ?_)
      refine z_istore (C _) (pc := 1358) (lv' := [(6, .int r263), (5, .int r250), (0, va_rf (some b)), (1, va_rf (some x)), (2, va_rf (some m)), (3, va_rf (some o)), (4, .int w4)]) dL_law_1358 (by decide) rfl ?_
      refine z_aload_n (C _) (pc := 1360) dL_law_1360 4 rfl ?_
      obtain ⟨o265, h⟩ := h
      refine z_sw t264 (fun hT1 => ?_)
      refine z_Vi (C _) (pc := 1361) (KX := fun _ _ => False) (kc' := B + 3) (ks' := B2 + 18) (As := []) (rest := []) rfl (c_X9_thrown l v S262 m) mw_X9_thrown bw_1006 bw_1007 bw_1008 ⟨by have h9 : rm_X9_thrown.cells = 0 := rfl; omega, by omega, by have h9 : rm_X9_thrown.slots = 0 := rfl; omega, by omega, by decide, by decide⟩ rfl rfl (Nat.le_of_ble_eq_true rfl) (by decide) rfl o265 dL_law_1361 h (fun r267 S266 h => ?_) (fun En S9 h => h.elim)
      refine z_sw hT1 (fun t268 => ?_)
      refine z_iload (C _) (pc := 1364) dL_law_1364 1 rfl ?_
      refine z_icmp_eq (C _) (pc := 1366) (tgt := 1371) dL_law_1366 (by decide) h (fun h => ?_) (fun h => ?_)
      · refine z_iload (C _) (pc := 1371) dL_law_1371 1 rfl ?_
        refine z_if_ne (C _) (pc := 1373) (tgt := 1388) dL_law_1373 (by decide) h (fun h => ?_) (fun h => ?_)
        · refine z_goto (C _) (pc := 1388) (tgt := 2102) dL_law_1388 (by decide) ?_
          refine z_iinc (C _) (pc := 2102) (y := w4 + (8 : Int32)) (lv' := [(4, .int (w4 + (8 : Int32))), (6, .int r263), (5, .int r250), (0, va_rf (some b)), (1, va_rf (some x)), (2, va_rf (some m)), (3, va_rf (some o))]) dL_law_2102 6 rfl rfl (by decide) rfl ?_
          refine z_goto (C _) (pc := 2105) (tgt := 23) dL_law_2105 (by decide) ?_
          refine z_sub [3, 4, 5, 6, 0] (lv' := [(0, va_rf (some b)), (1, va_rf (some x)), (2, va_rf (some m)), (3, va_rf (some o)), (4, .int (w4 + (8 : Int32)))]) rfl ?_
          refine z_wide (kc' := 25850 - n * 50) (ks' := 773500 - n * 1500) (by omega) (by omega) ?_
          exact ih S251 S266 f252 (w4 + (8 : Int32)) (by omega) t268 h
        · refine z_aload_n (C _) (pc := 1376) dL_law_1376 5 rfl ?_
          refine z_iconst (C _) (pc := 1377) (x := (0 : Int32)) dL_law_1377 kic_0 ?_
          refine z_lald (C []) (pc := 1378) dL_law_1378 vin01 ?_
          refine z_iload (C _) (pc := 1379) dL_law_1379 0 rfl ?_
          refine z_i2l (C _) (pc := 1381) dL_law_1381 ?_
          refine z_lcmp (C _) (pc := 1382) dL_law_1382 ?_
          refine z_if_eq (C _) (pc := 1383) (tgt := 1388) dL_law_1383 (by decide) h (fun h => ?_) (fun h => ?_)
          · refine z_goto (C _) (pc := 1388) (tgt := 2102) dL_law_1388 (by decide) ?_
            refine z_iinc (C _) (pc := 2102) (y := w4 + (8 : Int32)) (lv' := [(4, .int (w4 + (8 : Int32))), (6, .int r263), (5, .int r250), (0, va_rf (some b)), (1, va_rf (some x)), (2, va_rf (some m)), (3, va_rf (some o))]) dL_law_2102 6 rfl rfl (by decide) rfl ?_
            refine z_goto (C _) (pc := 2105) (tgt := 23) dL_law_2105 (by decide) ?_
            refine z_sub [3, 4, 5, 6, 0] (lv' := [(0, va_rf (some b)), (1, va_rf (some x)), (2, va_rf (some m)), (3, va_rf (some o)), (4, .int (w4 + (8 : Int32)))]) rfl ?_
            refine z_wide (kc' := 25850 - n * 50) (ks' := 773500 - n * 1500) (by omega) (by omega) ?_
            exact ih S251 S266 f252 (w4 + (8 : Int32)) (by omega) t268 h
          · refine z_iconst (C _) (pc := 1386) (x := (0 : Int32)) dL_law_1386 kic_0 ?_
            exact h.elim
      · refine z_iconst (C _) (pc := 1369) (x := (0 : Int32)) dL_law_1369 kic_0 ?_
        exact h.elim
def wp_law_C17 (x m : Nat) (xs : Nat → Int32) (L : Nat) (K : Hp → Hp → (Nat → Int64) → Int32 → Prop) (S1 S2 : Hp) (f : Nat → Int64) (w4 : Int32) : Prop := vp_in (w4 + (1 : Int32)) L ∧ (wp_L_why S1 x (xs (w4 + (1 : Int32)).toNatClampNeg) f (fun r271 S272 f273 => okA S2 9 m ∧ (wp_X9_why S2 m (xs (w4 + (1 : Int32)).toNatClampNeg) (fun r276 S275 => okA S275 9 m ∧ (wp_X9_thrown S275 m (fun r280 S279 => if r280 = r271 then (if r271 = 0 then (if (lg_cmp (f273 (0 : Int32).toNatClampNeg) r276.toInt64) = 0 then (K S272 S279 f273 (w4 + (8 : Int32))) else (False)) else (K S272 S279 f273 (w4 + (8 : Int32)))) else (False)))))))
set_option maxHeartbeats 4000000 in
set_option maxRecDepth 100000 in
theorem k_law_C17 (l : Launch) (hfl : l.stackTraces = false) (v : Ev) (b x m o L : Nat) (xs : Nat → Int32) {nm9 : String} {x9 : P9} {A : Nat → Prop} {E : State → Prop} (C : ∀ X, Cx l v RL cL_law 7 (some .boolean) nm9 (x9, X, A, E)) (hX : LX b L xs A x9) (hE : LE b A E x9) {n B B2 : Nat} (hB : B = 25850 - (n + 1) * 50) (hB2 : B2 = 773500 - (n + 1) * 1500) (hn : n + 1 ≤ 513) {K : Hp → Hp → (Nat → Int64) → Int32 → Prop} (ih : ∀ (S1 S2 : Hp) (f : Nat → Int64) (w4 : Int32), n ≤ 513 → g_T S2 = v.2.2.1 → K S1 S2 f w4 → ZZ l v 7 room_1 (x9, wl v.2.1 o f (g_w v.2.1 S2), A, E) (25850 - n * 50) (773500 - n * 1500) S1 23 [(0, va_rf (some b)), (1, va_rf (some x)), (2, va_rf (some m)), (3, va_rf (some o)), (4, .int w4)] []) (S1 S2 : Hp) (f : Nat → Int64) (w4 : Int32) (hT2 : g_T S2 = v.2.2.1) (h : wp_law_C17 x m xs L K S1 S2 f w4) : ZZ l v 7 room_1 (x9, wl v.2.1 o f (g_w v.2.1 S2), A, E) (B + 0) (B2 + 0) S1 1391 [(0, va_rf (some b)), (1, va_rf (some x)), (2, va_rf (some m)), (3, va_rf (some o)), (4, .int w4)] [] := by
  have hR : 600000 ≤ room_1.cells := Nat.le_of_ble_eq_true rfl
  have hR2 : 7000000 ≤ room_1.slots := Nat.le_of_ble_eq_true rfl
  unfold wp_law_C17 at h
  refine z_aload_n (C _) (pc := 1391) dL_law_1391 1 rfl ?_
  refine z_aload_n (C _) (pc := 1392) dL_law_1392 0 rfl ?_
  refine z_iload (C _) (pc := 1393) dL_law_1393 4 rfl ?_
  refine z_iconst (C _) (pc := 1395) (x := (1 : Int32)) dL_law_1395 kic_1 ?_
  refine z_iadd (C _) (pc := 1396) dL_law_1396 ?_
  obtain ⟨v270, h⟩ := h
  refine z_sld (C _) hX (pc := 1397) dL_law_1397 v270 ?_
  refine z_aload_n (C _) (pc := 1398) dL_law_1398 3 rfl ?_
  refine z_SL (C []) (pc := 1399) (kc' := B + 2) (ks' := B2 + 11) (As := [va_rf (some x), .int (xs (w4 + (1 : Int32)).toNatClampNeg), va_rf (some o)]) (rest := []) (c_L_why l hfl v S1 x o (xs (w4 + (1 : Int32)).toNatClampNeg) f) bw_763 bw_0 (by decide +kernel) (n := 3) (by decide +kernel) bw_761 bw_762 ⟨by have h9 : rm_L_why.cells = 2 := rfl; omega, by omega, by have h9 : rm_L_why.slots = 11 := rfl; omega, by omega, by decide, by decide⟩ rfl rfl (Nat.le_of_ble_eq_true rfl) dL_law_1399 h (fun r271 S272 f273 h => ?_)
  refine z_istore (C _) (pc := 1402) (lv' := [(5, .int r271), (0, va_rf (some b)), (1, va_rf (some x)), (2, va_rf (some m)), (3, va_rf (some o)), (4, .int w4)]) dL_law_1402 (by decide) rfl ?_
  refine z_aload_n (C _) (pc := 1404) dL_law_1404 3 rfl ?_
  refine z_aload_n (C _) (pc := 1405) dL_law_1405 1 rfl ?_
  refine z_iload (C _) (pc := 1406) dL_law_1406 5 rfl ?_
  refine z_iconst (C _) (pc := 1408) (x := (1 : Int32)) dL_law_1408 kic_1 ?_
  refine z_iadd (C _) (pc := 1409) dL_law_1409 ?_
  refine z_sld (C _) hX (pc := 1410) dL_law_1410 v270 ?_
  obtain ⟨o274, h⟩ := h
  refine z_sw hT2 (fun hT1 => ?_)
  refine z_Vi (C _) (pc := 1411) (KX := fun _ _ => False) (kc' := B + 2) (ks' := B2 + 11) (As := [.int (xs (w4 + (1 : Int32)).toNatClampNeg)]) (rest := []) rfl (c_X9_why l v S2 m (xs (w4 + (1 : Int32)).toNatClampNeg)) mw_X9_why bw_1185 bw_1186 bw_1187 ⟨by have h9 : rm_X9_why.cells = 0 := rfl; omega, by omega, by have h9 : rm_X9_why.slots = 0 := rfl; omega, by omega, by decide, by decide⟩ rfl rfl (Nat.le_of_ble_eq_true rfl) (by decide) rfl o274 dL_law_1411 h (fun r276 S275 h => ?_) (fun En S9 h => h.elim)
  refine z_sw hT1 (fun t277 => ?_)
  refine z_istore (C _) (pc := 1414) (lv' := [(6, .int r276), (5, .int r271), (0, va_rf (some b)), (1, va_rf (some x)), (2, va_rf (some m)), (3, va_rf (some o)), (4, .int w4)]) dL_law_1414 (by decide) rfl ?_
  refine z_aload_n (C _) (pc := 1416) dL_law_1416 4 rfl ?_
  obtain ⟨o278, h⟩ := h
  refine z_sw t277 (fun hT1 => ?_)
  refine z_Vi (C _) (pc := 1417) (KX := fun _ _ => False) (kc' := B + 2) (ks' := B2 + 11) (As := []) (rest := []) rfl (c_X9_thrown l v S275 m) mw_X9_thrown bw_1006 bw_1007 bw_1008 ⟨by have h9 : rm_X9_thrown.cells = 0 := rfl; omega, by omega, by have h9 : rm_X9_thrown.slots = 0 := rfl; omega, by omega, by decide, by decide⟩ rfl rfl (Nat.le_of_ble_eq_true rfl) (by decide) rfl o278 dL_law_1417 h (fun r280 S279 h => ?_) (fun En S9 h => h.elim)
  refine z_sw hT1 (fun t281 => ?_)
  refine z_iload (C _) (pc := 1420) dL_law_1420 1 rfl ?_
  refine z_icmp_eq (C _) (pc := 1422) (tgt := 1427) dL_law_1422 (by decide) h (fun h => ?_) (fun h => ?_)
  · refine z_iload (C _) (pc := 1427) dL_law_1427 1 rfl ?_
    refine z_if_ne (C _) (pc := 1429) (tgt := 1444) dL_law_1429 (by decide) h (fun h => ?_) (fun h => ?_)
    · refine z_goto (C _) (pc := 1444) (tgt := 2102) dL_law_1444 (by decide) ?_
      refine z_iinc (C _) (pc := 2102) (y := w4 + (8 : Int32)) (lv' := [(4, .int (w4 + (8 : Int32))), (6, .int r276), (5, .int r271), (0, va_rf (some b)), (1, va_rf (some x)), (2, va_rf (some m)), (3, va_rf (some o))]) dL_law_2102 6 rfl rfl (by decide) rfl ?_
      refine z_goto (C _) (pc := 2105) (tgt := 23) dL_law_2105 (by decide) ?_
      refine z_sub [3, 4, 5, 6, 0] (lv' := [(0, va_rf (some b)), (1, va_rf (some x)), (2, va_rf (some m)), (3, va_rf (some o)), (4, .int (w4 + (8 : Int32)))]) rfl ?_
      refine z_wide (kc' := 25850 - n * 50) (ks' := 773500 - n * 1500) (by omega) (by omega) ?_
      exact ih S272 S279 f273 (w4 + (8 : Int32)) (by omega) t281 h
    · refine z_aload_n (C _) (pc := 1432) dL_law_1432 5 rfl ?_
      refine z_iconst (C _) (pc := 1433) (x := (0 : Int32)) dL_law_1433 kic_0 ?_
      refine z_lald (C []) (pc := 1434) dL_law_1434 vin01 ?_
      refine z_iload (C _) (pc := 1435) dL_law_1435 0 rfl ?_
      refine z_i2l (C _) (pc := 1437) dL_law_1437 ?_
      refine z_lcmp (C _) (pc := 1438) dL_law_1438 ?_
      refine z_if_eq (C _) (pc := 1439) (tgt := 1444) dL_law_1439 (by decide) h (fun h => ?_) (fun h => ?_)
      · refine z_goto (C _) (pc := 1444) (tgt := 2102) dL_law_1444 (by decide) ?_
        refine z_iinc (C _) (pc := 2102) (y := w4 + (8 : Int32)) (lv' := [(4, .int (w4 + (8 : Int32))), (6, .int r276), (5, .int r271), (0, va_rf (some b)), (1, va_rf (some x)), (2, va_rf (some m)), (3, va_rf (some o))]) dL_law_2102 6 rfl rfl (by decide) rfl ?_
        refine z_goto (C _) (pc := 2105) (tgt := 23) dL_law_2105 (by decide) ?_
        refine z_sub [3, 4, 5, 6, 0] (lv' := [(0, va_rf (some b)), (1, va_rf (some x)), (2, va_rf (some m)), (3, va_rf (some o)), (4, .int (w4 + (8 : Int32)))]) rfl ?_
        refine z_wide (kc' := 25850 - n * 50) (ks' := 773500 - n * 1500) (by omega) (by omega) ?_
        exact ih S272 S279 f273 (w4 + (8 : Int32)) (by omega) t281 h
      · refine z_iconst (C _) (pc := 1442) (x := (0 : Int32)) dL_law_1442 kic_0 ?_
        exact h.elim
  · refine z_iconst (C _) (pc := 1425) (x := (0 : Int32)) dL_law_1425 kic_0 ?_
    exact h.elim
def wp_law_C18 (x m : Nat) (xs : Nat → Int32) (L : Nat) (K : Hp → Hp → (Nat → Int64) → Int32 → Prop) (S1 S2 : Hp) (f : Nat → Int64) (w4 : Int32) : Prop := vp_in (w4 + (1 : Int32)) L ∧ (vp_in (w4 + (2 : Int32)) L ∧ (vp_in (w4 + (3 : Int32)) L ∧ (wp_L_couldStaff S1 x (xs (w4 + (1 : Int32)).toNatClampNeg) (xs (w4 + (2 : Int32)).toNatClampNeg) (xs (w4 + (3 : Int32)).toNatClampNeg) f (fun r286 S287 f288 => okA S2 9 m ∧ (wp_X9_couldStaff S2 m (xs (w4 + (1 : Int32)).toNatClampNeg) (xs (w4 + (2 : Int32)).toNatClampNeg) (xs (w4 + (3 : Int32)).toNatClampNeg) (fun r291 S290 => okA S290 9 m ∧ (wp_X9_thrown S290 m (fun r295 S294 => if r295 = r286 then (if r286 = 0 then (if r291 = 0 then (if (lg_cmp (f288 (0 : Int32).toNatClampNeg) (0 : Int64)) = 0 then (K S287 S294 f288 (w4 + (8 : Int32))) else (False)) else (if (lg_cmp (f288 (0 : Int32).toNatClampNeg) (1 : Int64)) = 0 then (K S287 S294 f288 (w4 + (8 : Int32))) else (False))) else (K S287 S294 f288 (w4 + (8 : Int32)))) else (False)))))))))
set_option maxHeartbeats 4000000 in
set_option maxRecDepth 100000 in
theorem k_law_C18 (l : Launch) (hfl : l.stackTraces = false) (v : Ev) (b x m o L : Nat) (xs : Nat → Int32) {nm9 : String} {x9 : P9} {A : Nat → Prop} {E : State → Prop} (C : ∀ X, Cx l v RL cL_law 7 (some .boolean) nm9 (x9, X, A, E)) (hX : LX b L xs A x9) (hE : LE b A E x9) {n B B2 : Nat} (hB : B = 25850 - (n + 1) * 50) (hB2 : B2 = 773500 - (n + 1) * 1500) (hn : n + 1 ≤ 513) {K : Hp → Hp → (Nat → Int64) → Int32 → Prop} (ih : ∀ (S1 S2 : Hp) (f : Nat → Int64) (w4 : Int32), n ≤ 513 → g_T S2 = v.2.2.1 → K S1 S2 f w4 → ZZ l v 7 room_1 (x9, wl v.2.1 o f (g_w v.2.1 S2), A, E) (25850 - n * 50) (773500 - n * 1500) S1 23 [(0, va_rf (some b)), (1, va_rf (some x)), (2, va_rf (some m)), (3, va_rf (some o)), (4, .int w4)] []) (S1 S2 : Hp) (f : Nat → Int64) (w4 : Int32) (hT2 : g_T S2 = v.2.2.1) (h : wp_law_C18 x m xs L K S1 S2 f w4) : ZZ l v 7 room_1 (x9, wl v.2.1 o f (g_w v.2.1 S2), A, E) (B + 0) (B2 + 0) S1 1447 [(0, va_rf (some b)), (1, va_rf (some x)), (2, va_rf (some m)), (3, va_rf (some o)), (4, .int w4)] [] := by
  have hR : 600000 ≤ room_1.cells := Nat.le_of_ble_eq_true rfl
  have hR2 : 7000000 ≤ room_1.slots := Nat.le_of_ble_eq_true rfl
  unfold wp_law_C18 at h
  refine z_aload_n (C _) (pc := 1447) dL_law_1447 1 rfl ?_
  refine z_aload_n (C _) (pc := 1448) dL_law_1448 0 rfl ?_
  refine z_iload (C _) (pc := 1449) dL_law_1449 4 rfl ?_
  refine z_iconst (C _) (pc := 1451) (x := (1 : Int32)) dL_law_1451 kic_1 ?_
  refine z_iadd (C _) (pc := 1452) dL_law_1452 ?_
  obtain ⟨v283, h⟩ := h
  refine z_sld (C _) hX (pc := 1453) dL_law_1453 v283 ?_
  refine z_aload_n (C _) (pc := 1454) dL_law_1454 0 rfl ?_
  refine z_iload (C _) (pc := 1455) dL_law_1455 4 rfl ?_
  refine z_iconst (C _) (pc := 1457) (x := (2 : Int32)) dL_law_1457 kic_2 ?_
  refine z_iadd (C _) (pc := 1458) dL_law_1458 ?_
  obtain ⟨v284, h⟩ := h
  refine z_sld (C _) hX (pc := 1459) dL_law_1459 v284 ?_
  refine z_aload_n (C _) (pc := 1460) dL_law_1460 0 rfl ?_
  refine z_iload (C _) (pc := 1461) dL_law_1461 4 rfl ?_
  refine z_iconst (C _) (pc := 1463) (x := (3 : Int32)) dL_law_1463 kic_3 ?_
  refine z_iadd (C _) (pc := 1464) dL_law_1464 ?_
  obtain ⟨v285, h⟩ := h
  refine z_sld (C _) hX (pc := 1465) dL_law_1465 v285 ?_
  refine z_aload_n (C _) (pc := 1466) dL_law_1466 3 rfl ?_
  refine z_SL (C []) (pc := 1467) (kc' := B + 46) (ks' := B2 + 1470) (As := [va_rf (some x), .int (xs (w4 + (1 : Int32)).toNatClampNeg), .int (xs (w4 + (2 : Int32)).toNatClampNeg), .int (xs (w4 + (3 : Int32)).toNatClampNeg), va_rf (some o)]) (rest := []) (c_L_couldStaff l hfl v S1 x o (xs (w4 + (1 : Int32)).toNatClampNeg) (xs (w4 + (2 : Int32)).toNatClampNeg) (xs (w4 + (3 : Int32)).toNatClampNeg) f) bw_815 bw_0 (by decide +kernel) (n := 5) (by decide +kernel) bw_813 bw_814 ⟨by have h9 : rm_L_couldStaff.cells = 46 := rfl; omega, by omega, by have h9 : rm_L_couldStaff.slots = 1470 := rfl; omega, by omega, by decide, by decide⟩ rfl rfl (Nat.le_of_ble_eq_true rfl) dL_law_1467 h (fun r286 S287 f288 h => ?_)
  refine z_istore (C _) (pc := 1470) (lv' := [(5, .int r286), (0, va_rf (some b)), (1, va_rf (some x)), (2, va_rf (some m)), (3, va_rf (some o)), (4, .int w4)]) dL_law_1470 (by decide) rfl ?_
  refine z_aload_n (C _) (pc := 1472) dL_law_1472 3 rfl ?_
  refine z_aload_n (C _) (pc := 1473) dL_law_1473 1 rfl ?_
  refine z_iload (C _) (pc := 1474) dL_law_1474 5 rfl ?_
  refine z_iconst (C _) (pc := 1476) (x := (1 : Int32)) dL_law_1476 kic_1 ?_
  refine z_iadd (C _) (pc := 1477) dL_law_1477 ?_
  refine z_sld (C _) hX (pc := 1478) dL_law_1478 v283 ?_
  refine z_aload_n (C _) (pc := 1479) dL_law_1479 1 rfl ?_
  refine z_iload (C _) (pc := 1480) dL_law_1480 5 rfl ?_
  refine z_iconst (C _) (pc := 1482) (x := (2 : Int32)) dL_law_1482 kic_2 ?_
  refine z_iadd (C _) (pc := 1483) dL_law_1483 ?_
  refine z_sld (C _) hX (pc := 1484) dL_law_1484 v284 ?_
  refine z_aload_n (C _) (pc := 1485) dL_law_1485 1 rfl ?_
  refine z_iload (C _) (pc := 1486) dL_law_1486 5 rfl ?_
  refine z_iconst (C _) (pc := 1488) (x := (3 : Int32)) dL_law_1488 kic_3 ?_
  refine z_iadd (C _) (pc := 1489) dL_law_1489 ?_
  refine z_sld (C _) hX (pc := 1490) dL_law_1490 v285 ?_
  obtain ⟨o289, h⟩ := h
  refine z_sw hT2 (fun hT1 => ?_)
  refine z_Vi (C _) (pc := 1491) (KX := fun _ _ => False) (kc' := B + 46) (ks' := B2 + 1470) (As := [.int (xs (w4 + (1 : Int32)).toNatClampNeg), .int (xs (w4 + (2 : Int32)).toNatClampNeg), .int (xs (w4 + (3 : Int32)).toNatClampNeg)]) (rest := []) rfl (c_X9_couldStaff l v S2 m (xs (w4 + (1 : Int32)).toNatClampNeg) (xs (w4 + (2 : Int32)).toNatClampNeg) (xs (w4 + (3 : Int32)).toNatClampNeg)) mw_X9_couldStaff bw_1196 bw_1197 bw_1198 ⟨by have h9 : rm_X9_couldStaff.cells = 0 := rfl; omega, by omega, by have h9 : rm_X9_couldStaff.slots = 0 := rfl; omega, by omega, by decide, by decide⟩ rfl rfl (Nat.le_of_ble_eq_true rfl) (by decide) rfl o289 dL_law_1491 h (fun r291 S290 h => ?_) (fun En S9 h => h.elim)
  refine z_sw hT1 (fun t292 => ?_)
  refine z_istore (C _) (pc := 1494) (lv' := [(6, .int r291), (5, .int r286), (0, va_rf (some b)), (1, va_rf (some x)), (2, va_rf (some m)), (3, va_rf (some o)), (4, .int w4)]) dL_law_1494 (by decide) rfl ?_
  refine z_aload_n (C _) (pc := 1496) dL_law_1496 4 rfl ?_
  obtain ⟨o293, h⟩ := h
  refine z_sw t292 (fun hT1 => ?_)
  refine z_Vi (C _) (pc := 1497) (KX := fun _ _ => False) (kc' := B + 46) (ks' := B2 + 1470) (As := []) (rest := []) rfl (c_X9_thrown l v S290 m) mw_X9_thrown bw_1006 bw_1007 bw_1008 ⟨by have h9 : rm_X9_thrown.cells = 0 := rfl; omega, by omega, by have h9 : rm_X9_thrown.slots = 0 := rfl; omega, by omega, by decide, by decide⟩ rfl rfl (Nat.le_of_ble_eq_true rfl) (by decide) rfl o293 dL_law_1497 h (fun r295 S294 h => ?_) (fun En S9 h => h.elim)
  refine z_sw hT1 (fun t296 => ?_)
  refine z_iload (C _) (pc := 1500) dL_law_1500 1 rfl ?_
  refine z_icmp_eq (C _) (pc := 1502) (tgt := 1507) dL_law_1502 (by decide) h (fun h => ?_) (fun h => ?_)
  · refine z_iload (C _) (pc := 1507) dL_law_1507 1 rfl ?_
    refine z_if_ne (C _) (pc := 1509) (tgt := 1531) dL_law_1509 (by decide) h (fun h => ?_) (fun h => ?_)
    · refine z_goto (C _) (pc := 1531) (tgt := 2102) dL_law_1531 (by decide) ?_
      refine z_iinc (C _) (pc := 2102) (y := w4 + (8 : Int32)) (lv' := [(4, .int (w4 + (8 : Int32))), (6, .int r291), (5, .int r286), (0, va_rf (some b)), (1, va_rf (some x)), (2, va_rf (some m)), (3, va_rf (some o))]) dL_law_2102 6 rfl rfl (by decide) rfl ?_
      refine z_goto (C _) (pc := 2105) (tgt := 23) dL_law_2105 (by decide) ?_
      refine z_sub [3, 4, 5, 6, 0] (lv' := [(0, va_rf (some b)), (1, va_rf (some x)), (2, va_rf (some m)), (3, va_rf (some o)), (4, .int (w4 + (8 : Int32)))]) rfl ?_
      refine z_wide (kc' := 25850 - n * 50) (ks' := 773500 - n * 1500) (by omega) (by omega) ?_
      exact ih S287 S294 f288 (w4 + (8 : Int32)) (by omega) t296 h
    · refine z_aload_n (C _) (pc := 1512) dL_law_1512 5 rfl ?_
      refine z_iconst (C _) (pc := 1513) (x := (0 : Int32)) dL_law_1513 kic_0 ?_
      refine z_lald (C []) (pc := 1514) dL_law_1514 vin01 ?_
      refine z_iload (C _) (pc := 1515) dL_law_1515 0 rfl ?_
      refine z_if_eq (C _) (pc := 1517) (tgt := 1524) dL_law_1517 (by decide) h (fun h => ?_) (fun h => ?_)
      · refine z_lconst (C _) (pc := 1524) (x := (0 : Int64)) dL_law_1524 rfl ?_
        refine z_lcmp (C _) (pc := 1525) dL_law_1525 ?_
        refine z_if_eq (C _) (pc := 1526) (tgt := 1531) dL_law_1526 (by decide) h (fun h => ?_) (fun h => ?_)
        · refine z_goto (C _) (pc := 1531) (tgt := 2102) dL_law_1531 (by decide) ?_
          refine z_iinc (C _) (pc := 2102) (y := w4 + (8 : Int32)) (lv' := [(4, .int (w4 + (8 : Int32))), (6, .int r291), (5, .int r286), (0, va_rf (some b)), (1, va_rf (some x)), (2, va_rf (some m)), (3, va_rf (some o))]) dL_law_2102 6 rfl rfl (by decide) rfl ?_
          refine z_goto (C _) (pc := 2105) (tgt := 23) dL_law_2105 (by decide) ?_
          refine z_sub [3, 4, 5, 6, 0] (lv' := [(0, va_rf (some b)), (1, va_rf (some x)), (2, va_rf (some m)), (3, va_rf (some o)), (4, .int (w4 + (8 : Int32)))]) rfl ?_
          refine z_wide (kc' := 25850 - n * 50) (ks' := 773500 - n * 1500) (by omega) (by omega) ?_
          exact ih S287 S294 f288 (w4 + (8 : Int32)) (by omega) t296 h
        · refine z_iconst (C _) (pc := 1529) (x := (0 : Int32)) dL_law_1529 kic_0 ?_
          exact h.elim
      · refine z_lconst (C _) (pc := 1520) (x := (1 : Int64)) dL_law_1520 rfl ?_
        refine z_goto (C _) (pc := 1521) (tgt := 1525) dL_law_1521 (by decide) ?_
        refine z_lcmp (C _) (pc := 1525) dL_law_1525 ?_
        refine z_if_eq (C _) (pc := 1526) (tgt := 1531) dL_law_1526 (by decide) h (fun h => ?_) (fun h => ?_)
        · refine z_goto (C _) (pc := 1531) (tgt := 2102) dL_law_1531 (by decide) ?_
          refine z_iinc (C _) (pc := 2102) (y := w4 + (8 : Int32)) (lv' := [(4, .int (w4 + (8 : Int32))), (6, .int r291), (5, .int r286), (0, va_rf (some b)), (1, va_rf (some x)), (2, va_rf (some m)), (3, va_rf (some o))]) dL_law_2102 6 rfl rfl (by decide) rfl ?_
          refine z_goto (C _) (pc := 2105) (tgt := 23) dL_law_2105 (by decide) ?_
          refine z_sub [3, 4, 5, 6, 0] (lv' := [(0, va_rf (some b)), (1, va_rf (some x)), (2, va_rf (some m)), (3, va_rf (some o)), (4, .int (w4 + (8 : Int32)))]) rfl ?_
          refine z_wide (kc' := 25850 - n * 50) (ks' := 773500 - n * 1500) (by omega) (by omega) ?_
          exact ih S287 S294 f288 (w4 + (8 : Int32)) (by omega) t296 h
        · refine z_iconst (C _) (pc := 1529) (x := (0 : Int32)) dL_law_1529 kic_0 ?_
          exact h.elim
  · refine z_iconst (C _) (pc := 1505) (x := (0 : Int32)) dL_law_1505 kic_0 ?_
    exact h.elim
def wp_law_C19 (x m : Nat) (xs : Nat → Int32) (L : Nat) (K : Hp → Hp → (Nat → Int64) → Int32 → Prop) (S1 S2 : Hp) (f : Nat → Int64) (w4 : Int32) : Prop := vp_in (w4 + (1 : Int32)) L ∧ (vp_in (w4 + (2 : Int32)) L ∧ (wp_L_boxes S1 x (xs (w4 + (1 : Int32)).toNatClampNeg) (xs (w4 + (2 : Int32)).toNatClampNeg) f (fun r300 S301 f302 => okA S2 9 m ∧ (wp_X9_boxes S2 m (xs (w4 + (1 : Int32)).toNatClampNeg) (xs (w4 + (2 : Int32)).toNatClampNeg) (fun r305 S304 => okA S304 9 m ∧ (wp_X9_thrown S304 m (fun r309 S308 => if r309 = r300 then (if r300 = 0 then (if (lg_cmp (f302 (0 : Int32).toNatClampNeg) r305.toInt64) = 0 then (K S301 S308 f302 (w4 + (8 : Int32))) else (False)) else (K S301 S308 f302 (w4 + (8 : Int32)))) else (False))))))))
set_option maxHeartbeats 4000000 in
set_option maxRecDepth 100000 in
theorem k_law_C19 (l : Launch) (hfl : l.stackTraces = false) (v : Ev) (b x m o L : Nat) (xs : Nat → Int32) {nm9 : String} {x9 : P9} {A : Nat → Prop} {E : State → Prop} (C : ∀ X, Cx l v RL cL_law 7 (some .boolean) nm9 (x9, X, A, E)) (hX : LX b L xs A x9) (hE : LE b A E x9) {n B B2 : Nat} (hB : B = 25850 - (n + 1) * 50) (hB2 : B2 = 773500 - (n + 1) * 1500) (hn : n + 1 ≤ 513) {K : Hp → Hp → (Nat → Int64) → Int32 → Prop} (ih : ∀ (S1 S2 : Hp) (f : Nat → Int64) (w4 : Int32), n ≤ 513 → g_T S2 = v.2.2.1 → K S1 S2 f w4 → ZZ l v 7 room_1 (x9, wl v.2.1 o f (g_w v.2.1 S2), A, E) (25850 - n * 50) (773500 - n * 1500) S1 23 [(0, va_rf (some b)), (1, va_rf (some x)), (2, va_rf (some m)), (3, va_rf (some o)), (4, .int w4)] []) (S1 S2 : Hp) (f : Nat → Int64) (w4 : Int32) (hT2 : g_T S2 = v.2.2.1) (h : wp_law_C19 x m xs L K S1 S2 f w4) : ZZ l v 7 room_1 (x9, wl v.2.1 o f (g_w v.2.1 S2), A, E) (B + 0) (B2 + 0) S1 1534 [(0, va_rf (some b)), (1, va_rf (some x)), (2, va_rf (some m)), (3, va_rf (some o)), (4, .int w4)] [] := by
  have hR : 600000 ≤ room_1.cells := Nat.le_of_ble_eq_true rfl
  have hR2 : 7000000 ≤ room_1.slots := Nat.le_of_ble_eq_true rfl
  unfold wp_law_C19 at h
  refine z_aload_n (C _) (pc := 1534) dL_law_1534 1 rfl ?_
  refine z_aload_n (C _) (pc := 1535) dL_law_1535 0 rfl ?_
  refine z_iload (C _) (pc := 1536) dL_law_1536 4 rfl ?_
  refine z_iconst (C _) (pc := 1538) (x := (1 : Int32)) dL_law_1538 kic_1 ?_
  refine z_iadd (C _) (pc := 1539) dL_law_1539 ?_
  obtain ⟨v298, h⟩ := h
  refine z_sld (C _) hX (pc := 1540) dL_law_1540 v298 ?_
  refine z_aload_n (C _) (pc := 1541) dL_law_1541 0 rfl ?_
  refine z_iload (C _) (pc := 1542) dL_law_1542 4 rfl ?_
  refine z_iconst (C _) (pc := 1544) (x := (2 : Int32)) dL_law_1544 kic_2 ?_
  refine z_iadd (C _) (pc := 1545) dL_law_1545 ?_
  obtain ⟨v299, h⟩ := h
  refine z_sld (C _) hX (pc := 1546) dL_law_1546 v299 ?_
  refine z_aload_n (C _) (pc := 1547) dL_law_1547 3 rfl ?_
  refine z_SL (C []) (pc := 1548) (kc' := B + 3) (ks' := B2 + 18) (As := [va_rf (some x), .int (xs (w4 + (1 : Int32)).toNatClampNeg), .int (xs (w4 + (2 : Int32)).toNatClampNeg), va_rf (some o)]) (rest := []) (c_L_boxes l hfl v S1 x o (xs (w4 + (1 : Int32)).toNatClampNeg) (xs (w4 + (2 : Int32)).toNatClampNeg) f) bw_838 bw_0 (by decide +kernel) (n := 4) (by decide +kernel) bw_836 bw_837 ⟨by have h9 : rm_L_boxes.cells = 3 := rfl; omega, by omega, by have h9 : rm_L_boxes.slots = 18 := rfl; omega, by omega, by decide, by decide⟩ rfl rfl (Nat.le_of_ble_eq_true rfl) dL_law_1548 h (fun r300 S301 f302 h => ?_)
  refine z_istore (C _) (pc := 1551) (lv' := [(5, .int r300), (0, va_rf (some b)), (1, va_rf (some x)), (2, va_rf (some m)), (3, va_rf (some o)), (4, .int w4)]) dL_law_1551 (by decide) rfl ?_
  refine z_aload_n (C _) (pc := 1553) dL_law_1553 3 rfl ?_
  refine z_aload_n (C _) (pc := 1554) dL_law_1554 1 rfl ?_
  refine z_iload (C _) (pc := 1555) dL_law_1555 5 rfl ?_
  refine z_iconst (C _) (pc := 1557) (x := (1 : Int32)) dL_law_1557 kic_1 ?_
  refine z_iadd (C _) (pc := 1558) dL_law_1558 ?_
  refine z_sld (C _) hX (pc := 1559) dL_law_1559 v298 ?_
  refine z_aload_n (C _) (pc := 1560) dL_law_1560 1 rfl ?_
  refine z_iload (C _) (pc := 1561) dL_law_1561 5 rfl ?_
  refine z_iconst (C _) (pc := 1563) (x := (2 : Int32)) dL_law_1563 kic_2 ?_
  refine z_iadd (C _) (pc := 1564) dL_law_1564 ?_
  refine z_sld (C _) hX (pc := 1565) dL_law_1565 v299 ?_
  obtain ⟨o303, h⟩ := h
  refine z_sw hT2 (fun hT1 => ?_)
  refine z_Vi (C _) (pc := 1566) (KX := fun _ _ => False) (kc' := B + 3) (ks' := B2 + 18) (As := [.int (xs (w4 + (1 : Int32)).toNatClampNeg), .int (xs (w4 + (2 : Int32)).toNatClampNeg)]) (rest := []) rfl (c_X9_boxes l v S2 m (xs (w4 + (1 : Int32)).toNatClampNeg) (xs (w4 + (2 : Int32)).toNatClampNeg)) mw_X9_boxes bw_1204 bw_1205 bw_1206 ⟨by have h9 : rm_X9_boxes.cells = 0 := rfl; omega, by omega, by have h9 : rm_X9_boxes.slots = 0 := rfl; omega, by omega, by decide, by decide⟩ rfl rfl (Nat.le_of_ble_eq_true rfl) (by decide) rfl o303 dL_law_1566 h (fun r305 S304 h => ?_) (fun En S9 h => h.elim)
  refine z_sw hT1 (fun t306 => ?_)
  refine z_istore (C _) (pc := 1569) (lv' := [(6, .int r305), (5, .int r300), (0, va_rf (some b)), (1, va_rf (some x)), (2, va_rf (some m)), (3, va_rf (some o)), (4, .int w4)]) dL_law_1569 (by decide) rfl ?_
  refine z_aload_n (C _) (pc := 1571) dL_law_1571 4 rfl ?_
  obtain ⟨o307, h⟩ := h
  refine z_sw t306 (fun hT1 => ?_)
  refine z_Vi (C _) (pc := 1572) (KX := fun _ _ => False) (kc' := B + 3) (ks' := B2 + 18) (As := []) (rest := []) rfl (c_X9_thrown l v S304 m) mw_X9_thrown bw_1006 bw_1007 bw_1008 ⟨by have h9 : rm_X9_thrown.cells = 0 := rfl; omega, by omega, by have h9 : rm_X9_thrown.slots = 0 := rfl; omega, by omega, by decide, by decide⟩ rfl rfl (Nat.le_of_ble_eq_true rfl) (by decide) rfl o307 dL_law_1572 h (fun r309 S308 h => ?_) (fun En S9 h => h.elim)
  refine z_sw hT1 (fun t310 => ?_)
  refine z_iload (C _) (pc := 1575) dL_law_1575 1 rfl ?_
  refine z_icmp_eq (C _) (pc := 1577) (tgt := 1582) dL_law_1577 (by decide) h (fun h => ?_) (fun h => ?_)
  · refine z_iload (C _) (pc := 1582) dL_law_1582 1 rfl ?_
    refine z_if_ne (C _) (pc := 1584) (tgt := 1599) dL_law_1584 (by decide) h (fun h => ?_) (fun h => ?_)
    · refine z_goto (C _) (pc := 1599) (tgt := 2102) dL_law_1599 (by decide) ?_
      refine z_iinc (C _) (pc := 2102) (y := w4 + (8 : Int32)) (lv' := [(4, .int (w4 + (8 : Int32))), (6, .int r305), (5, .int r300), (0, va_rf (some b)), (1, va_rf (some x)), (2, va_rf (some m)), (3, va_rf (some o))]) dL_law_2102 6 rfl rfl (by decide) rfl ?_
      refine z_goto (C _) (pc := 2105) (tgt := 23) dL_law_2105 (by decide) ?_
      refine z_sub [3, 4, 5, 6, 0] (lv' := [(0, va_rf (some b)), (1, va_rf (some x)), (2, va_rf (some m)), (3, va_rf (some o)), (4, .int (w4 + (8 : Int32)))]) rfl ?_
      refine z_wide (kc' := 25850 - n * 50) (ks' := 773500 - n * 1500) (by omega) (by omega) ?_
      exact ih S301 S308 f302 (w4 + (8 : Int32)) (by omega) t310 h
    · refine z_aload_n (C _) (pc := 1587) dL_law_1587 5 rfl ?_
      refine z_iconst (C _) (pc := 1588) (x := (0 : Int32)) dL_law_1588 kic_0 ?_
      refine z_lald (C []) (pc := 1589) dL_law_1589 vin01 ?_
      refine z_iload (C _) (pc := 1590) dL_law_1590 0 rfl ?_
      refine z_i2l (C _) (pc := 1592) dL_law_1592 ?_
      refine z_lcmp (C _) (pc := 1593) dL_law_1593 ?_
      refine z_if_eq (C _) (pc := 1594) (tgt := 1599) dL_law_1594 (by decide) h (fun h => ?_) (fun h => ?_)
      · refine z_goto (C _) (pc := 1599) (tgt := 2102) dL_law_1599 (by decide) ?_
        refine z_iinc (C _) (pc := 2102) (y := w4 + (8 : Int32)) (lv' := [(4, .int (w4 + (8 : Int32))), (6, .int r305), (5, .int r300), (0, va_rf (some b)), (1, va_rf (some x)), (2, va_rf (some m)), (3, va_rf (some o))]) dL_law_2102 6 rfl rfl (by decide) rfl ?_
        refine z_goto (C _) (pc := 2105) (tgt := 23) dL_law_2105 (by decide) ?_
        refine z_sub [3, 4, 5, 6, 0] (lv' := [(0, va_rf (some b)), (1, va_rf (some x)), (2, va_rf (some m)), (3, va_rf (some o)), (4, .int (w4 + (8 : Int32)))]) rfl ?_
        refine z_wide (kc' := 25850 - n * 50) (ks' := 773500 - n * 1500) (by omega) (by omega) ?_
        exact ih S301 S308 f302 (w4 + (8 : Int32)) (by omega) t310 h
      · refine z_iconst (C _) (pc := 1597) (x := (0 : Int32)) dL_law_1597 kic_0 ?_
        exact h.elim
  · refine z_iconst (C _) (pc := 1580) (x := (0 : Int32)) dL_law_1580 kic_0 ?_
    exact h.elim
def wp_law_C20 (x m : Nat) (xs : Nat → Int32) (L : Nat) (K : Hp → Hp → (Nat → Int64) → Int32 → Prop) (S1 S2 : Hp) (f : Nat → Int64) (w4 : Int32) : Prop := vp_in (w4 + (1 : Int32)) L ∧ (vp_in (w4 + (2 : Int32)) L ∧ (wp_L_pay S1 x (xs (w4 + (1 : Int32)).toNatClampNeg) (xs (w4 + (2 : Int32)).toNatClampNeg) f (fun r314 S315 f316 => okA S2 9 m ∧ (wp_X9_pay S2 m (xs (w4 + (1 : Int32)).toNatClampNeg) (xs (w4 + (2 : Int32)).toNatClampNeg) (fun r319 S318 => okA S318 9 m ∧ (wp_X9_thrown S318 m (fun r323 S322 => if r323 = r314 then (if r314 = 0 then (if (lg_cmp (f316 (0 : Int32).toNatClampNeg) r319.toInt64) = 0 then (K S315 S322 f316 (w4 + (8 : Int32))) else (False)) else (K S315 S322 f316 (w4 + (8 : Int32)))) else (False))))))))
set_option maxHeartbeats 4000000 in
set_option maxRecDepth 100000 in
theorem k_law_C20 (l : Launch) (hfl : l.stackTraces = false) (v : Ev) (b x m o L : Nat) (xs : Nat → Int32) {nm9 : String} {x9 : P9} {A : Nat → Prop} {E : State → Prop} (C : ∀ X, Cx l v RL cL_law 7 (some .boolean) nm9 (x9, X, A, E)) (hX : LX b L xs A x9) (hE : LE b A E x9) {n B B2 : Nat} (hB : B = 25850 - (n + 1) * 50) (hB2 : B2 = 773500 - (n + 1) * 1500) (hn : n + 1 ≤ 513) {K : Hp → Hp → (Nat → Int64) → Int32 → Prop} (ih : ∀ (S1 S2 : Hp) (f : Nat → Int64) (w4 : Int32), n ≤ 513 → g_T S2 = v.2.2.1 → K S1 S2 f w4 → ZZ l v 7 room_1 (x9, wl v.2.1 o f (g_w v.2.1 S2), A, E) (25850 - n * 50) (773500 - n * 1500) S1 23 [(0, va_rf (some b)), (1, va_rf (some x)), (2, va_rf (some m)), (3, va_rf (some o)), (4, .int w4)] []) (S1 S2 : Hp) (f : Nat → Int64) (w4 : Int32) (hT2 : g_T S2 = v.2.2.1) (h : wp_law_C20 x m xs L K S1 S2 f w4) : ZZ l v 7 room_1 (x9, wl v.2.1 o f (g_w v.2.1 S2), A, E) (B + 0) (B2 + 0) S1 1602 [(0, va_rf (some b)), (1, va_rf (some x)), (2, va_rf (some m)), (3, va_rf (some o)), (4, .int w4)] [] := by
  have hR : 600000 ≤ room_1.cells := Nat.le_of_ble_eq_true rfl
  have hR2 : 7000000 ≤ room_1.slots := Nat.le_of_ble_eq_true rfl
  unfold wp_law_C20 at h
  refine z_aload_n (C _) (pc := 1602) dL_law_1602 1 rfl ?_
  refine z_aload_n (C _) (pc := 1603) dL_law_1603 0 rfl ?_
  refine z_iload (C _) (pc := 1604) dL_law_1604 4 rfl ?_
  refine z_iconst (C _) (pc := 1606) (x := (1 : Int32)) dL_law_1606 kic_1 ?_
  refine z_iadd (C _) (pc := 1607) dL_law_1607 ?_
  obtain ⟨v312, h⟩ := h
  refine z_sld (C _) hX (pc := 1608) dL_law_1608 v312 ?_
  refine z_aload_n (C _) (pc := 1609) dL_law_1609 0 rfl ?_
  refine z_iload (C _) (pc := 1610) dL_law_1610 4 rfl ?_
  refine z_iconst (C _) (pc := 1612) (x := (2 : Int32)) dL_law_1612 kic_2 ?_
  refine z_iadd (C _) (pc := 1613) dL_law_1613 ?_
  obtain ⟨v313, h⟩ := h
  refine z_sld (C _) hX (pc := 1614) dL_law_1614 v313 ?_
  refine z_aload_n (C _) (pc := 1615) dL_law_1615 3 rfl ?_
  refine z_SL (C []) (pc := 1616) (kc' := B + 3) (ks' := B2 + 18) (As := [va_rf (some x), .int (xs (w4 + (1 : Int32)).toNatClampNeg), .int (xs (w4 + (2 : Int32)).toNatClampNeg), va_rf (some o)]) (rest := []) (c_L_pay l hfl v S1 x o (xs (w4 + (1 : Int32)).toNatClampNeg) (xs (w4 + (2 : Int32)).toNatClampNeg) f) bw_847 bw_0 (by decide +kernel) (n := 4) (by decide +kernel) bw_845 bw_846 ⟨by have h9 : rm_L_pay.cells = 3 := rfl; omega, by omega, by have h9 : rm_L_pay.slots = 18 := rfl; omega, by omega, by decide, by decide⟩ rfl rfl (Nat.le_of_ble_eq_true rfl) dL_law_1616 h (fun r314 S315 f316 h => ?_)
  refine z_istore (C _) (pc := 1619) (lv' := [(5, .int r314), (0, va_rf (some b)), (1, va_rf (some x)), (2, va_rf (some m)), (3, va_rf (some o)), (4, .int w4)]) dL_law_1619 (by decide) rfl ?_
  refine z_aload_n (C _) (pc := 1621) dL_law_1621 3 rfl ?_
  refine z_aload_n (C _) (pc := 1622) dL_law_1622 1 rfl ?_
  refine z_iload (C _) (pc := 1623) dL_law_1623 5 rfl ?_
  refine z_iconst (C _) (pc := 1625) (x := (1 : Int32)) dL_law_1625 kic_1 ?_
  refine z_iadd (C _) (pc := 1626) dL_law_1626 ?_
  refine z_sld (C _) hX (pc := 1627) dL_law_1627 v312 ?_
  refine z_aload_n (C _) (pc := 1628) dL_law_1628 1 rfl ?_
  refine z_iload (C _) (pc := 1629) dL_law_1629 5 rfl ?_
  refine z_iconst (C _) (pc := 1631) (x := (2 : Int32)) dL_law_1631 kic_2 ?_
  refine z_iadd (C _) (pc := 1632) dL_law_1632 ?_
  refine z_sld (C _) hX (pc := 1633) dL_law_1633 v313 ?_
  obtain ⟨o317, h⟩ := h
  refine z_sw hT2 (fun hT1 => ?_)
  refine z_Vi (C _) (pc := 1634) (KX := fun _ _ => False) (kc' := B + 3) (ks' := B2 + 18) (As := [.int (xs (w4 + (1 : Int32)).toNatClampNeg), .int (xs (w4 + (2 : Int32)).toNatClampNeg)]) (rest := []) rfl (c_X9_pay l v S2 m (xs (w4 + (1 : Int32)).toNatClampNeg) (xs (w4 + (2 : Int32)).toNatClampNeg)) mw_X9_pay bw_1208 bw_1209 bw_1210 ⟨by have h9 : rm_X9_pay.cells = 0 := rfl; omega, by omega, by have h9 : rm_X9_pay.slots = 0 := rfl; omega, by omega, by decide, by decide⟩ rfl rfl (Nat.le_of_ble_eq_true rfl) (by decide) rfl o317 dL_law_1634 h (fun r319 S318 h => ?_) (fun En S9 h => h.elim)
  refine z_sw hT1 (fun t320 => ?_)
  refine z_istore (C _) (pc := 1637) (lv' := [(6, .int r319), (5, .int r314), (0, va_rf (some b)), (1, va_rf (some x)), (2, va_rf (some m)), (3, va_rf (some o)), (4, .int w4)]) dL_law_1637 (by decide) rfl ?_
  refine z_aload_n (C _) (pc := 1639) dL_law_1639 4 rfl ?_
  obtain ⟨o321, h⟩ := h
  refine z_sw t320 (fun hT1 => ?_)
  refine z_Vi (C _) (pc := 1640) (KX := fun _ _ => False) (kc' := B + 3) (ks' := B2 + 18) (As := []) (rest := []) rfl (c_X9_thrown l v S318 m) mw_X9_thrown bw_1006 bw_1007 bw_1008 ⟨by have h9 : rm_X9_thrown.cells = 0 := rfl; omega, by omega, by have h9 : rm_X9_thrown.slots = 0 := rfl; omega, by omega, by decide, by decide⟩ rfl rfl (Nat.le_of_ble_eq_true rfl) (by decide) rfl o321 dL_law_1640 h (fun r323 S322 h => ?_) (fun En S9 h => h.elim)
  refine z_sw hT1 (fun t324 => ?_)
  refine z_iload (C _) (pc := 1643) dL_law_1643 1 rfl ?_
  refine z_icmp_eq (C _) (pc := 1645) (tgt := 1650) dL_law_1645 (by decide) h (fun h => ?_) (fun h => ?_)
  · refine z_iload (C _) (pc := 1650) dL_law_1650 1 rfl ?_
    refine z_if_ne (C _) (pc := 1652) (tgt := 1667) dL_law_1652 (by decide) h (fun h => ?_) (fun h => ?_)
    · refine z_goto (C _) (pc := 1667) (tgt := 2102) dL_law_1667 (by decide) ?_
      refine z_iinc (C _) (pc := 2102) (y := w4 + (8 : Int32)) (lv' := [(4, .int (w4 + (8 : Int32))), (6, .int r319), (5, .int r314), (0, va_rf (some b)), (1, va_rf (some x)), (2, va_rf (some m)), (3, va_rf (some o))]) dL_law_2102 6 rfl rfl (by decide) rfl ?_
      refine z_goto (C _) (pc := 2105) (tgt := 23) dL_law_2105 (by decide) ?_
      refine z_sub [3, 4, 5, 6, 0] (lv' := [(0, va_rf (some b)), (1, va_rf (some x)), (2, va_rf (some m)), (3, va_rf (some o)), (4, .int (w4 + (8 : Int32)))]) rfl ?_
      refine z_wide (kc' := 25850 - n * 50) (ks' := 773500 - n * 1500) (by omega) (by omega) ?_
      exact ih S315 S322 f316 (w4 + (8 : Int32)) (by omega) t324 h
    · refine z_aload_n (C _) (pc := 1655) dL_law_1655 5 rfl ?_
      refine z_iconst (C _) (pc := 1656) (x := (0 : Int32)) dL_law_1656 kic_0 ?_
      refine z_lald (C []) (pc := 1657) dL_law_1657 vin01 ?_
      refine z_iload (C _) (pc := 1658) dL_law_1658 0 rfl ?_
      refine z_i2l (C _) (pc := 1660) dL_law_1660 ?_
      refine z_lcmp (C _) (pc := 1661) dL_law_1661 ?_
      refine z_if_eq (C _) (pc := 1662) (tgt := 1667) dL_law_1662 (by decide) h (fun h => ?_) (fun h => ?_)
      · refine z_goto (C _) (pc := 1667) (tgt := 2102) dL_law_1667 (by decide) ?_
        refine z_iinc (C _) (pc := 2102) (y := w4 + (8 : Int32)) (lv' := [(4, .int (w4 + (8 : Int32))), (6, .int r319), (5, .int r314), (0, va_rf (some b)), (1, va_rf (some x)), (2, va_rf (some m)), (3, va_rf (some o))]) dL_law_2102 6 rfl rfl (by decide) rfl ?_
        refine z_goto (C _) (pc := 2105) (tgt := 23) dL_law_2105 (by decide) ?_
        refine z_sub [3, 4, 5, 6, 0] (lv' := [(0, va_rf (some b)), (1, va_rf (some x)), (2, va_rf (some m)), (3, va_rf (some o)), (4, .int (w4 + (8 : Int32)))]) rfl ?_
        refine z_wide (kc' := 25850 - n * 50) (ks' := 773500 - n * 1500) (by omega) (by omega) ?_
        exact ih S315 S322 f316 (w4 + (8 : Int32)) (by omega) t324 h
      · refine z_iconst (C _) (pc := 1665) (x := (0 : Int32)) dL_law_1665 kic_0 ?_
        exact h.elim
  · refine z_iconst (C _) (pc := 1648) (x := (0 : Int32)) dL_law_1648 kic_0 ?_
    exact h.elim
def wp_law_C21 (x m : Nat) (xs : Nat → Int32) (L : Nat) (K : Hp → Hp → (Nat → Int64) → Int32 → Prop) (S1 S2 : Hp) (f : Nat → Int64) (w4 : Int32) : Prop := vp_in (w4 + (1 : Int32)) L ∧ (wp_L_owed S1 x (xs (w4 + (1 : Int32)).toNatClampNeg) f (fun r327 S328 f329 => okA S2 9 m ∧ (wp_X9_owed S2 m (xs (w4 + (1 : Int32)).toNatClampNeg) (fun r332 S331 => okA S331 9 m ∧ (wp_X9_thrown S331 m (fun r336 S335 => if r336 = r327 then (if r327 = 0 then (if (lg_cmp (f329 (0 : Int32).toNatClampNeg) r332.toInt64) = 0 then (K S328 S335 f329 (w4 + (8 : Int32))) else (False)) else (K S328 S335 f329 (w4 + (8 : Int32)))) else (False)))))))
set_option maxHeartbeats 4000000 in
set_option maxRecDepth 100000 in
theorem k_law_C21 (l : Launch) (hfl : l.stackTraces = false) (v : Ev) (b x m o L : Nat) (xs : Nat → Int32) {nm9 : String} {x9 : P9} {A : Nat → Prop} {E : State → Prop} (C : ∀ X, Cx l v RL cL_law 7 (some .boolean) nm9 (x9, X, A, E)) (hX : LX b L xs A x9) (hE : LE b A E x9) {n B B2 : Nat} (hB : B = 25850 - (n + 1) * 50) (hB2 : B2 = 773500 - (n + 1) * 1500) (hn : n + 1 ≤ 513) {K : Hp → Hp → (Nat → Int64) → Int32 → Prop} (ih : ∀ (S1 S2 : Hp) (f : Nat → Int64) (w4 : Int32), n ≤ 513 → g_T S2 = v.2.2.1 → K S1 S2 f w4 → ZZ l v 7 room_1 (x9, wl v.2.1 o f (g_w v.2.1 S2), A, E) (25850 - n * 50) (773500 - n * 1500) S1 23 [(0, va_rf (some b)), (1, va_rf (some x)), (2, va_rf (some m)), (3, va_rf (some o)), (4, .int w4)] []) (S1 S2 : Hp) (f : Nat → Int64) (w4 : Int32) (hT2 : g_T S2 = v.2.2.1) (h : wp_law_C21 x m xs L K S1 S2 f w4) : ZZ l v 7 room_1 (x9, wl v.2.1 o f (g_w v.2.1 S2), A, E) (B + 0) (B2 + 0) S1 1670 [(0, va_rf (some b)), (1, va_rf (some x)), (2, va_rf (some m)), (3, va_rf (some o)), (4, .int w4)] [] := by
  have hR : 600000 ≤ room_1.cells := Nat.le_of_ble_eq_true rfl
  have hR2 : 7000000 ≤ room_1.slots := Nat.le_of_ble_eq_true rfl
  unfold wp_law_C21 at h
  refine z_aload_n (C _) (pc := 1670) dL_law_1670 1 rfl ?_
  refine z_aload_n (C _) (pc := 1671) dL_law_1671 0 rfl ?_
  refine z_iload (C _) (pc := 1672) dL_law_1672 4 rfl ?_
  refine z_iconst (C _) (pc := 1674) (x := (1 : Int32)) dL_law_1674 kic_1 ?_
  refine z_iadd (C _) (pc := 1675) dL_law_1675 ?_
  obtain ⟨v326, h⟩ := h
  refine z_sld (C _) hX (pc := 1676) dL_law_1676 v326 ?_
  refine z_aload_n (C _) (pc := 1677) dL_law_1677 3 rfl ?_
  refine z_SL (C []) (pc := 1678) (kc' := B + 1) (ks' := B2 + 6) (As := [va_rf (some x), .int (xs (w4 + (1 : Int32)).toNatClampNeg), va_rf (some o)]) (rest := []) (c_L_owed l hfl v S1 x o (xs (w4 + (1 : Int32)).toNatClampNeg) f) bw_855 bw_0 (by decide +kernel) (n := 3) (by decide +kernel) bw_853 bw_854 ⟨by have h9 : rm_L_owed.cells = 1 := rfl; omega, by omega, by have h9 : rm_L_owed.slots = 6 := rfl; omega, by omega, by decide, by decide⟩ rfl rfl (Nat.le_of_ble_eq_true rfl) dL_law_1678 h (fun r327 S328 f329 h => ?_)
  refine z_istore (C _) (pc := 1681) (lv' := [(5, .int r327), (0, va_rf (some b)), (1, va_rf (some x)), (2, va_rf (some m)), (3, va_rf (some o)), (4, .int w4)]) dL_law_1681 (by decide) rfl ?_
  refine z_aload_n (C _) (pc := 1683) dL_law_1683 3 rfl ?_
  refine z_aload_n (C _) (pc := 1684) dL_law_1684 1 rfl ?_
  refine z_iload (C _) (pc := 1685) dL_law_1685 5 rfl ?_
  refine z_iconst (C _) (pc := 1687) (x := (1 : Int32)) dL_law_1687 kic_1 ?_
  refine z_iadd (C _) (pc := 1688) dL_law_1688 ?_
  refine z_sld (C _) hX (pc := 1689) dL_law_1689 v326 ?_
  obtain ⟨o330, h⟩ := h
  refine z_sw hT2 (fun hT1 => ?_)
  refine z_Vi (C _) (pc := 1690) (KX := fun _ _ => False) (kc' := B + 1) (ks' := B2 + 6) (As := [.int (xs (w4 + (1 : Int32)).toNatClampNeg)]) (rest := []) rfl (c_X9_owed l v S2 m (xs (w4 + (1 : Int32)).toNatClampNeg)) mw_X9_owed bw_1212 bw_1213 bw_1214 ⟨by have h9 : rm_X9_owed.cells = 0 := rfl; omega, by omega, by have h9 : rm_X9_owed.slots = 0 := rfl; omega, by omega, by decide, by decide⟩ rfl rfl (Nat.le_of_ble_eq_true rfl) (by decide) rfl o330 dL_law_1690 h (fun r332 S331 h => ?_) (fun En S9 h => h.elim)
  refine z_sw hT1 (fun t333 => ?_)
  refine z_istore (C _) (pc := 1693) (lv' := [(6, .int r332), (5, .int r327), (0, va_rf (some b)), (1, va_rf (some x)), (2, va_rf (some m)), (3, va_rf (some o)), (4, .int w4)]) dL_law_1693 (by decide) rfl ?_
  refine z_aload_n (C _) (pc := 1695) dL_law_1695 4 rfl ?_
  obtain ⟨o334, h⟩ := h
  refine z_sw t333 (fun hT1 => ?_)
  refine z_Vi (C _) (pc := 1696) (KX := fun _ _ => False) (kc' := B + 1) (ks' := B2 + 6) (As := []) (rest := []) rfl (c_X9_thrown l v S331 m) mw_X9_thrown bw_1006 bw_1007 bw_1008 ⟨by have h9 : rm_X9_thrown.cells = 0 := rfl; omega, by omega, by have h9 : rm_X9_thrown.slots = 0 := rfl; omega, by omega, by decide, by decide⟩ rfl rfl (Nat.le_of_ble_eq_true rfl) (by decide) rfl o334 dL_law_1696 h (fun r336 S335 h => ?_) (fun En S9 h => h.elim)
  refine z_sw hT1 (fun t337 => ?_)
  refine z_iload (C _) (pc := 1699) dL_law_1699 1 rfl ?_
  refine z_icmp_eq (C _) (pc := 1701) (tgt := 1706) dL_law_1701 (by decide) h (fun h => ?_) (fun h => ?_)
  · refine z_iload (C _) (pc := 1706) dL_law_1706 1 rfl ?_
    refine z_if_ne (C _) (pc := 1708) (tgt := 1723) dL_law_1708 (by decide) h (fun h => ?_) (fun h => ?_)
    · refine z_goto (C _) (pc := 1723) (tgt := 2102) dL_law_1723 (by decide) ?_
      refine z_iinc (C _) (pc := 2102) (y := w4 + (8 : Int32)) (lv' := [(4, .int (w4 + (8 : Int32))), (6, .int r332), (5, .int r327), (0, va_rf (some b)), (1, va_rf (some x)), (2, va_rf (some m)), (3, va_rf (some o))]) dL_law_2102 6 rfl rfl (by decide) rfl ?_
      refine z_goto (C _) (pc := 2105) (tgt := 23) dL_law_2105 (by decide) ?_
      refine z_sub [3, 4, 5, 6, 0] (lv' := [(0, va_rf (some b)), (1, va_rf (some x)), (2, va_rf (some m)), (3, va_rf (some o)), (4, .int (w4 + (8 : Int32)))]) rfl ?_
      refine z_wide (kc' := 25850 - n * 50) (ks' := 773500 - n * 1500) (by omega) (by omega) ?_
      exact ih S328 S335 f329 (w4 + (8 : Int32)) (by omega) t337 h
    · refine z_aload_n (C _) (pc := 1711) dL_law_1711 5 rfl ?_
      refine z_iconst (C _) (pc := 1712) (x := (0 : Int32)) dL_law_1712 kic_0 ?_
      refine z_lald (C []) (pc := 1713) dL_law_1713 vin01 ?_
      refine z_iload (C _) (pc := 1714) dL_law_1714 0 rfl ?_
      refine z_i2l (C _) (pc := 1716) dL_law_1716 ?_
      refine z_lcmp (C _) (pc := 1717) dL_law_1717 ?_
      refine z_if_eq (C _) (pc := 1718) (tgt := 1723) dL_law_1718 (by decide) h (fun h => ?_) (fun h => ?_)
      · refine z_goto (C _) (pc := 1723) (tgt := 2102) dL_law_1723 (by decide) ?_
        refine z_iinc (C _) (pc := 2102) (y := w4 + (8 : Int32)) (lv' := [(4, .int (w4 + (8 : Int32))), (6, .int r332), (5, .int r327), (0, va_rf (some b)), (1, va_rf (some x)), (2, va_rf (some m)), (3, va_rf (some o))]) dL_law_2102 6 rfl rfl (by decide) rfl ?_
        refine z_goto (C _) (pc := 2105) (tgt := 23) dL_law_2105 (by decide) ?_
        refine z_sub [3, 4, 5, 6, 0] (lv' := [(0, va_rf (some b)), (1, va_rf (some x)), (2, va_rf (some m)), (3, va_rf (some o)), (4, .int (w4 + (8 : Int32)))]) rfl ?_
        refine z_wide (kc' := 25850 - n * 50) (ks' := 773500 - n * 1500) (by omega) (by omega) ?_
        exact ih S328 S335 f329 (w4 + (8 : Int32)) (by omega) t337 h
      · refine z_iconst (C _) (pc := 1721) (x := (0 : Int32)) dL_law_1721 kic_0 ?_
        exact h.elim
  · refine z_iconst (C _) (pc := 1704) (x := (0 : Int32)) dL_law_1704 kic_0 ?_
    exact h.elim
def wp_law_C22 (x m : Nat) (xs : Nat → Int32) (L : Nat) (K : Hp → Hp → (Nat → Int64) → Int32 → Prop) (S1 S2 : Hp) (f : Nat → Int64) (w4 : Int32) : Prop := okA S1 8 x ∧ (wp_X8_today S1 x (fun r341 S340 => okA S2 9 m ∧ (wp_X9_today S2 m (fun r344 S343 => if r341 = r344 then (K S340 S343 f (w4 + (8 : Int32))) else (False)))))
set_option maxHeartbeats 4000000 in
set_option maxRecDepth 100000 in
theorem k_law_C22 (l : Launch) (hfl : l.stackTraces = false) (v : Ev) (b x m o L : Nat) (xs : Nat → Int32) {nm9 : String} {x9 : P9} {A : Nat → Prop} {E : State → Prop} (C : ∀ X, Cx l v RL cL_law 7 (some .boolean) nm9 (x9, X, A, E)) (hX : LX b L xs A x9) (hE : LE b A E x9) {n B B2 : Nat} (hB : B = 25850 - (n + 1) * 50) (hB2 : B2 = 773500 - (n + 1) * 1500) (hn : n + 1 ≤ 513) {K : Hp → Hp → (Nat → Int64) → Int32 → Prop} (ih : ∀ (S1 S2 : Hp) (f : Nat → Int64) (w4 : Int32), n ≤ 513 → g_T S2 = v.2.2.1 → K S1 S2 f w4 → ZZ l v 7 room_1 (x9, wl v.2.1 o f (g_w v.2.1 S2), A, E) (25850 - n * 50) (773500 - n * 1500) S1 23 [(0, va_rf (some b)), (1, va_rf (some x)), (2, va_rf (some m)), (3, va_rf (some o)), (4, .int w4)] []) (S1 S2 : Hp) (f : Nat → Int64) (w4 : Int32) (hT2 : g_T S2 = v.2.2.1) (h : wp_law_C22 x m xs L K S1 S2 f w4) : ZZ l v 7 room_1 (x9, wl v.2.1 o f (g_w v.2.1 S2), A, E) (B + 0) (B2 + 0) S1 1726 [(0, va_rf (some b)), (1, va_rf (some x)), (2, va_rf (some m)), (3, va_rf (some o)), (4, .int w4)] [] := by
  have hR : 600000 ≤ room_1.cells := Nat.le_of_ble_eq_true rfl
  have hR2 : 7000000 ≤ room_1.slots := Nat.le_of_ble_eq_true rfl
  unfold wp_law_C22 at h
  refine z_aload_n (C _) (pc := 1726) dL_law_1726 1 rfl ?_
  obtain ⟨o339, h⟩ := h
  refine z_Vi (C _) (pc := 1727) (KX := fun _ _ => False) (kc' := B + 0) (ks' := B2 + 0) (As := []) (rest := []) rfl (c_X8_today l v S1 x) mw_X8_today bw_186 bw_187 bw_188 ⟨by have h9 : rm_X8_today.cells = 0 := rfl; omega, by omega, by have h9 : rm_X8_today.slots = 0 := rfl; omega, by omega, by decide, by decide⟩ rfl rfl (Nat.le_of_ble_eq_true rfl) (by decide) rfl o339 dL_law_1727 h (fun r341 S340 h => ?_) (fun En S9 h => h.elim)
  refine z_aload_n (C _) (pc := 1730) dL_law_1730 2 rfl ?_
  obtain ⟨o342, h⟩ := h
  refine z_sw hT2 (fun hT1 => ?_)
  refine z_Vi (C _) (pc := 1731) (KX := fun _ _ => False) (kc' := B + 0) (ks' := B2 + 0) (As := []) (rest := [.int r341]) rfl (c_X9_today l v S2 m) mw_X9_today bw_1216 bw_1217 bw_1218 ⟨by have h9 : rm_X9_today.cells = 0 := rfl; omega, by omega, by have h9 : rm_X9_today.slots = 0 := rfl; omega, by omega, by decide, by decide⟩ rfl rfl (Nat.le_of_ble_eq_true rfl) (by decide) rfl o342 dL_law_1731 h (fun r344 S343 h => ?_) (fun En S9 h => h.elim)
  refine z_sw hT1 (fun t345 => ?_)
  refine z_icmp_eq (C _) (pc := 1734) (tgt := 2102) dL_law_1734 (by decide) h (fun h => ?_) (fun h => ?_)
  · refine z_iinc (C _) (pc := 2102) (y := w4 + (8 : Int32)) (lv' := [(4, .int (w4 + (8 : Int32))), (0, va_rf (some b)), (1, va_rf (some x)), (2, va_rf (some m)), (3, va_rf (some o))]) dL_law_2102 4 rfl rfl (by decide) rfl ?_
    refine z_goto (C _) (pc := 2105) (tgt := 23) dL_law_2105 (by decide) ?_
    refine z_sub [1, 2, 3, 4, 0] (lv' := [(0, va_rf (some b)), (1, va_rf (some x)), (2, va_rf (some m)), (3, va_rf (some o)), (4, .int (w4 + (8 : Int32)))]) rfl ?_
    refine z_wide (kc' := 25850 - n * 50) (ks' := 773500 - n * 1500) (by omega) (by omega) ?_
    exact ih S340 S343 f (w4 + (8 : Int32)) (by omega) t345 h
  · refine z_iconst (C _) (pc := 1737) (x := (0 : Int32)) dL_law_1737 kic_0 ?_
    exact h.elim
def wp_law_C23 (x m : Nat) (xs : Nat → Int32) (L : Nat) (K : Hp → Hp → (Nat → Int64) → Int32 → Prop) (S1 S2 : Hp) (f : Nat → Int64) (w4 : Int32) : Prop := vp_in (w4 + (1 : Int32)) L ∧ (vp_in (w4 + (2 : Int32)) L ∧ (wp_L_ofChild S1 x (xs (w4 + (1 : Int32)).toNatClampNeg) (xs (w4 + (2 : Int32)).toNatClampNeg) f (fun r349 S350 f351 => okA S2 9 m ∧ (wp_X9_ofChild S2 m (xs (w4 + (1 : Int32)).toNatClampNeg) (xs (w4 + (2 : Int32)).toNatClampNeg) (fun r354 S353 => okA S353 9 m ∧ (wp_X9_thrown S353 m (fun r358 S357 => if r358 = r349 then (if r349 = 0 then (if (lg_cmp (f351 (0 : Int32).toNatClampNeg) r354.toInt64) = 0 then (K S350 S357 f351 (w4 + (8 : Int32))) else (False)) else (K S350 S357 f351 (w4 + (8 : Int32)))) else (False))))))))
set_option maxHeartbeats 4000000 in
set_option maxRecDepth 100000 in
theorem k_law_C23 (l : Launch) (hfl : l.stackTraces = false) (v : Ev) (b x m o L : Nat) (xs : Nat → Int32) {nm9 : String} {x9 : P9} {A : Nat → Prop} {E : State → Prop} (C : ∀ X, Cx l v RL cL_law 7 (some .boolean) nm9 (x9, X, A, E)) (hX : LX b L xs A x9) (hE : LE b A E x9) {n B B2 : Nat} (hB : B = 25850 - (n + 1) * 50) (hB2 : B2 = 773500 - (n + 1) * 1500) (hn : n + 1 ≤ 513) {K : Hp → Hp → (Nat → Int64) → Int32 → Prop} (ih : ∀ (S1 S2 : Hp) (f : Nat → Int64) (w4 : Int32), n ≤ 513 → g_T S2 = v.2.2.1 → K S1 S2 f w4 → ZZ l v 7 room_1 (x9, wl v.2.1 o f (g_w v.2.1 S2), A, E) (25850 - n * 50) (773500 - n * 1500) S1 23 [(0, va_rf (some b)), (1, va_rf (some x)), (2, va_rf (some m)), (3, va_rf (some o)), (4, .int w4)] []) (S1 S2 : Hp) (f : Nat → Int64) (w4 : Int32) (hT2 : g_T S2 = v.2.2.1) (h : wp_law_C23 x m xs L K S1 S2 f w4) : ZZ l v 7 room_1 (x9, wl v.2.1 o f (g_w v.2.1 S2), A, E) (B + 0) (B2 + 0) S1 1739 [(0, va_rf (some b)), (1, va_rf (some x)), (2, va_rf (some m)), (3, va_rf (some o)), (4, .int w4)] [] := by
  have hR : 600000 ≤ room_1.cells := Nat.le_of_ble_eq_true rfl
  have hR2 : 7000000 ≤ room_1.slots := Nat.le_of_ble_eq_true rfl
  unfold wp_law_C23 at h
  refine z_aload_n (C _) (pc := 1739) dL_law_1739 1 rfl ?_
  refine z_aload_n (C _) (pc := 1740) dL_law_1740 0 rfl ?_
  refine z_iload (C _) (pc := 1741) dL_law_1741 4 rfl ?_
  refine z_iconst (C _) (pc := 1743) (x := (1 : Int32)) dL_law_1743 kic_1 ?_
  refine z_iadd (C _) (pc := 1744) dL_law_1744 ?_
  obtain ⟨v347, h⟩ := h
  refine z_sld (C _) hX (pc := 1745) dL_law_1745 v347 ?_
  refine z_aload_n (C _) (pc := 1746) dL_law_1746 0 rfl ?_
  refine z_iload (C _) (pc := 1747) dL_law_1747 4 rfl ?_
  refine z_iconst (C _) (pc := 1749) (x := (2 : Int32)) dL_law_1749 kic_2 ?_
  refine z_iadd (C _) (pc := 1750) dL_law_1750 ?_
  obtain ⟨v348, h⟩ := h
  refine z_sld (C _) hX (pc := 1751) dL_law_1751 v348 ?_
  refine z_aload_n (C _) (pc := 1752) dL_law_1752 3 rfl ?_
  refine z_SL (C []) (pc := 1753) (kc' := B + 2) (ks' := B2 + 12) (As := [va_rf (some x), .int (xs (w4 + (1 : Int32)).toNatClampNeg), .int (xs (w4 + (2 : Int32)).toNatClampNeg), va_rf (some o)]) (rest := []) (c_L_ofChild l hfl v S1 x o (xs (w4 + (1 : Int32)).toNatClampNeg) (xs (w4 + (2 : Int32)).toNatClampNeg) f) bw_862 bw_0 (by decide +kernel) (n := 4) (by decide +kernel) bw_860 bw_861 ⟨by have h9 : rm_L_ofChild.cells = 2 := rfl; omega, by omega, by have h9 : rm_L_ofChild.slots = 12 := rfl; omega, by omega, by decide, by decide⟩ rfl rfl (Nat.le_of_ble_eq_true rfl) dL_law_1753 h (fun r349 S350 f351 h => ?_)
  refine z_istore (C _) (pc := 1756) (lv' := [(5, .int r349), (0, va_rf (some b)), (1, va_rf (some x)), (2, va_rf (some m)), (3, va_rf (some o)), (4, .int w4)]) dL_law_1756 (by decide) rfl ?_
  refine z_aload_n (C _) (pc := 1758) dL_law_1758 3 rfl ?_
  refine z_aload_n (C _) (pc := 1759) dL_law_1759 1 rfl ?_
  refine z_iload (C _) (pc := 1760) dL_law_1760 5 rfl ?_
  refine z_iconst (C _) (pc := 1762) (x := (1 : Int32)) dL_law_1762 kic_1 ?_
  refine z_iadd (C _) (pc := 1763) dL_law_1763 ?_
  refine z_sld (C _) hX (pc := 1764) dL_law_1764 v347 ?_
  refine z_aload_n (C _) (pc := 1765) dL_law_1765 1 rfl ?_
  refine z_iload (C _) (pc := 1766) dL_law_1766 5 rfl ?_
  refine z_iconst (C _) (pc := 1768) (x := (2 : Int32)) dL_law_1768 kic_2 ?_
  refine z_iadd (C _) (pc := 1769) dL_law_1769 ?_
  refine z_sld (C _) hX (pc := 1770) dL_law_1770 v348 ?_
  obtain ⟨o352, h⟩ := h
  refine z_sw hT2 (fun hT1 => ?_)
  refine z_Vi (C _) (pc := 1771) (KX := fun _ _ => False) (kc' := B + 2) (ks' := B2 + 12) (As := [.int (xs (w4 + (1 : Int32)).toNatClampNeg), .int (xs (w4 + (2 : Int32)).toNatClampNeg)]) (rest := []) rfl (c_X9_ofChild l v S2 m (xs (w4 + (1 : Int32)).toNatClampNeg) (xs (w4 + (2 : Int32)).toNatClampNeg)) mw_X9_ofChild bw_1220 bw_1221 bw_1222 ⟨by have h9 : rm_X9_ofChild.cells = 0 := rfl; omega, by omega, by have h9 : rm_X9_ofChild.slots = 0 := rfl; omega, by omega, by decide, by decide⟩ rfl rfl (Nat.le_of_ble_eq_true rfl) (by decide) rfl o352 dL_law_1771 h (fun r354 S353 h => ?_) (fun En S9 h => h.elim)
  refine z_sw hT1 (fun t355 => ?_)
  refine z_istore (C _) (pc := 1774) (lv' := [(6, .int r354), (5, .int r349), (0, va_rf (some b)), (1, va_rf (some x)), (2, va_rf (some m)), (3, va_rf (some o)), (4, .int w4)]) dL_law_1774 (by decide) rfl ?_
  refine z_aload_n (C _) (pc := 1776) dL_law_1776 4 rfl ?_
  obtain ⟨o356, h⟩ := h
  refine z_sw t355 (fun hT1 => ?_)
  refine z_Vi (C _) (pc := 1777) (KX := fun _ _ => False) (kc' := B + 2) (ks' := B2 + 12) (As := []) (rest := []) rfl (c_X9_thrown l v S353 m) mw_X9_thrown bw_1006 bw_1007 bw_1008 ⟨by have h9 : rm_X9_thrown.cells = 0 := rfl; omega, by omega, by have h9 : rm_X9_thrown.slots = 0 := rfl; omega, by omega, by decide, by decide⟩ rfl rfl (Nat.le_of_ble_eq_true rfl) (by decide) rfl o356 dL_law_1777 h (fun r358 S357 h => ?_) (fun En S9 h => h.elim)
  refine z_sw hT1 (fun t359 => ?_)
  refine z_iload (C _) (pc := 1780) dL_law_1780 1 rfl ?_
  refine z_icmp_eq (C _) (pc := 1782) (tgt := 1787) dL_law_1782 (by decide) h (fun h => ?_) (fun h => ?_)
  · refine z_iload (C _) (pc := 1787) dL_law_1787 1 rfl ?_
    refine z_if_ne (C _) (pc := 1789) (tgt := 1804) dL_law_1789 (by decide) h (fun h => ?_) (fun h => ?_)
    · refine z_goto (C _) (pc := 1804) (tgt := 2102) dL_law_1804 (by decide) ?_
      refine z_iinc (C _) (pc := 2102) (y := w4 + (8 : Int32)) (lv' := [(4, .int (w4 + (8 : Int32))), (6, .int r354), (5, .int r349), (0, va_rf (some b)), (1, va_rf (some x)), (2, va_rf (some m)), (3, va_rf (some o))]) dL_law_2102 6 rfl rfl (by decide) rfl ?_
      refine z_goto (C _) (pc := 2105) (tgt := 23) dL_law_2105 (by decide) ?_
      refine z_sub [3, 4, 5, 6, 0] (lv' := [(0, va_rf (some b)), (1, va_rf (some x)), (2, va_rf (some m)), (3, va_rf (some o)), (4, .int (w4 + (8 : Int32)))]) rfl ?_
      refine z_wide (kc' := 25850 - n * 50) (ks' := 773500 - n * 1500) (by omega) (by omega) ?_
      exact ih S350 S357 f351 (w4 + (8 : Int32)) (by omega) t359 h
    · refine z_aload_n (C _) (pc := 1792) dL_law_1792 5 rfl ?_
      refine z_iconst (C _) (pc := 1793) (x := (0 : Int32)) dL_law_1793 kic_0 ?_
      refine z_lald (C []) (pc := 1794) dL_law_1794 vin01 ?_
      refine z_iload (C _) (pc := 1795) dL_law_1795 0 rfl ?_
      refine z_i2l (C _) (pc := 1797) dL_law_1797 ?_
      refine z_lcmp (C _) (pc := 1798) dL_law_1798 ?_
      refine z_if_eq (C _) (pc := 1799) (tgt := 1804) dL_law_1799 (by decide) h (fun h => ?_) (fun h => ?_)
      · refine z_goto (C _) (pc := 1804) (tgt := 2102) dL_law_1804 (by decide) ?_
        refine z_iinc (C _) (pc := 2102) (y := w4 + (8 : Int32)) (lv' := [(4, .int (w4 + (8 : Int32))), (6, .int r354), (5, .int r349), (0, va_rf (some b)), (1, va_rf (some x)), (2, va_rf (some m)), (3, va_rf (some o))]) dL_law_2102 6 rfl rfl (by decide) rfl ?_
        refine z_goto (C _) (pc := 2105) (tgt := 23) dL_law_2105 (by decide) ?_
        refine z_sub [3, 4, 5, 6, 0] (lv' := [(0, va_rf (some b)), (1, va_rf (some x)), (2, va_rf (some m)), (3, va_rf (some o)), (4, .int (w4 + (8 : Int32)))]) rfl ?_
        refine z_wide (kc' := 25850 - n * 50) (ks' := 773500 - n * 1500) (by omega) (by omega) ?_
        exact ih S350 S357 f351 (w4 + (8 : Int32)) (by omega) t359 h
      · refine z_iconst (C _) (pc := 1802) (x := (0 : Int32)) dL_law_1802 kic_0 ?_
        exact h.elim
  · refine z_iconst (C _) (pc := 1785) (x := (0 : Int32)) dL_law_1785 kic_0 ?_
    exact h.elim
def wp_law_C24 (x m : Nat) (xs : Nat → Int32) (L : Nat) (K : Hp → Hp → (Nat → Int64) → Int32 → Prop) (S1 S2 : Hp) (f : Nat → Int64) (w4 : Int32) : Prop := vp_in (w4 + (1 : Int32)) L ∧ (vp_in (w4 + (2 : Int32)) L ∧ (if (xs (w4 + (2 : Int32)).toNatClampNeg) = 0 then (wp_L_ofTroop S1 x (xs (w4 + (1 : Int32)).toNatClampNeg) (0 : Int32) f (fun r363 S364 f365 => if (xs (w4 + (2 : Int32)).toNatClampNeg) = 0 then (okA S2 9 m ∧ (wp_X9_ofTroop S2 m (xs (w4 + (1 : Int32)).toNatClampNeg) (0 : Int32) (fun r368 S367 => okA S367 9 m ∧ (wp_X9_thrown S367 m (fun r372 S371 => if r372 = r363 then (if r363 = 0 then (if (lg_cmp (f365 (0 : Int32).toNatClampNeg) r368.toInt64) = 0 then (K S364 S371 f365 (w4 + (8 : Int32))) else (False)) else (K S364 S371 f365 (w4 + (8 : Int32)))) else (False)))))) else (okA S2 9 m ∧ (wp_X9_ofTroop S2 m (xs (w4 + (1 : Int32)).toNatClampNeg) (1 : Int32) (fun r376 S375 => okA S375 9 m ∧ (wp_X9_thrown S375 m (fun r380 S379 => if r380 = r363 then (if r363 = 0 then (if (lg_cmp (f365 (0 : Int32).toNatClampNeg) r376.toInt64) = 0 then (K S364 S379 f365 (w4 + (8 : Int32))) else (False)) else (K S364 S379 f365 (w4 + (8 : Int32)))) else (False)))))))) else (wp_L_ofTroop S1 x (xs (w4 + (1 : Int32)).toNatClampNeg) (1 : Int32) f (fun r382 S383 f384 => if (xs (w4 + (2 : Int32)).toNatClampNeg) = 0 then (okA S2 9 m ∧ (wp_X9_ofTroop S2 m (xs (w4 + (1 : Int32)).toNatClampNeg) (0 : Int32) (fun r387 S386 => okA S386 9 m ∧ (wp_X9_thrown S386 m (fun r391 S390 => if r391 = r382 then (if r382 = 0 then (if (lg_cmp (f384 (0 : Int32).toNatClampNeg) r387.toInt64) = 0 then (K S383 S390 f384 (w4 + (8 : Int32))) else (False)) else (K S383 S390 f384 (w4 + (8 : Int32)))) else (False)))))) else (okA S2 9 m ∧ (wp_X9_ofTroop S2 m (xs (w4 + (1 : Int32)).toNatClampNeg) (1 : Int32) (fun r395 S394 => okA S394 9 m ∧ (wp_X9_thrown S394 m (fun r399 S398 => if r399 = r382 then (if r382 = 0 then (if (lg_cmp (f384 (0 : Int32).toNatClampNeg) r395.toInt64) = 0 then (K S383 S398 f384 (w4 + (8 : Int32))) else (False)) else (K S383 S398 f384 (w4 + (8 : Int32)))) else (False))))))))))
set_option maxHeartbeats 4000000 in
set_option maxRecDepth 100000 in
theorem k_law_C24 (l : Launch) (hfl : l.stackTraces = false) (v : Ev) (b x m o L : Nat) (xs : Nat → Int32) {nm9 : String} {x9 : P9} {A : Nat → Prop} {E : State → Prop} (C : ∀ X, Cx l v RL cL_law 7 (some .boolean) nm9 (x9, X, A, E)) (hX : LX b L xs A x9) (hE : LE b A E x9) {n B B2 : Nat} (hB : B = 25850 - (n + 1) * 50) (hB2 : B2 = 773500 - (n + 1) * 1500) (hn : n + 1 ≤ 513) {K : Hp → Hp → (Nat → Int64) → Int32 → Prop} (ih : ∀ (S1 S2 : Hp) (f : Nat → Int64) (w4 : Int32), n ≤ 513 → g_T S2 = v.2.2.1 → K S1 S2 f w4 → ZZ l v 7 room_1 (x9, wl v.2.1 o f (g_w v.2.1 S2), A, E) (25850 - n * 50) (773500 - n * 1500) S1 23 [(0, va_rf (some b)), (1, va_rf (some x)), (2, va_rf (some m)), (3, va_rf (some o)), (4, .int w4)] []) (S1 S2 : Hp) (f : Nat → Int64) (w4 : Int32) (hT2 : g_T S2 = v.2.2.1) (h : wp_law_C24 x m xs L K S1 S2 f w4) : ZZ l v 7 room_1 (x9, wl v.2.1 o f (g_w v.2.1 S2), A, E) (B + 0) (B2 + 0) S1 1807 [(0, va_rf (some b)), (1, va_rf (some x)), (2, va_rf (some m)), (3, va_rf (some o)), (4, .int w4)] [] := by
  have hR : 600000 ≤ room_1.cells := Nat.le_of_ble_eq_true rfl
  have hR2 : 7000000 ≤ room_1.slots := Nat.le_of_ble_eq_true rfl
  unfold wp_law_C24 at h
  refine z_aload_n (C _) (pc := 1807) dL_law_1807 1 rfl ?_
  refine z_aload_n (C _) (pc := 1808) dL_law_1808 0 rfl ?_
  refine z_iload (C _) (pc := 1809) dL_law_1809 4 rfl ?_
  refine z_iconst (C _) (pc := 1811) (x := (1 : Int32)) dL_law_1811 kic_1 ?_
  refine z_iadd (C _) (pc := 1812) dL_law_1812 ?_
  obtain ⟨v361, h⟩ := h
  refine z_sld (C _) hX (pc := 1813) dL_law_1813 v361 ?_
  refine z_aload_n (C _) (pc := 1814) dL_law_1814 0 rfl ?_
  refine z_iload (C _) (pc := 1815) dL_law_1815 4 rfl ?_
  refine z_iconst (C _) (pc := 1817) (x := (2 : Int32)) dL_law_1817 kic_2 ?_
  refine z_iadd (C _) (pc := 1818) dL_law_1818 ?_
  obtain ⟨v362, h⟩ := h
  refine z_sld (C _) hX (pc := 1819) dL_law_1819 v362 ?_
  refine z_if_eq (C _) (pc := 1820) (tgt := 1827) dL_law_1820 (by decide) h (fun h => ?_) (fun h => ?_)
  · refine z_iconst (C _) (pc := 1827) (x := (0 : Int32)) dL_law_1827 kic_0 ?_
    refine z_aload_n (C _) (pc := 1828) dL_law_1828 3 rfl ?_
    refine z_SL (C []) (pc := 1829) (kc' := B + 1) (ks' := B2 + 6) (As := [va_rf (some x), .int (xs (w4 + (1 : Int32)).toNatClampNeg), .int (0 : Int32), va_rf (some o)]) (rest := []) (c_L_ofTroop l hfl v S1 x o (xs (w4 + (1 : Int32)).toNatClampNeg) (0 : Int32) f) bw_870 bw_0 (by decide +kernel) (n := 4) (by decide +kernel) bw_868 bw_869 ⟨by have h9 : rm_L_ofTroop.cells = 1 := rfl; omega, by omega, by have h9 : rm_L_ofTroop.slots = 6 := rfl; omega, by omega, by decide, by decide⟩ rfl rfl (Nat.le_of_ble_eq_true rfl) dL_law_1829 h (fun r363 S364 f365 h => ?_)
    refine z_istore (C _) (pc := 1832) (lv' := [(5, .int r363), (0, va_rf (some b)), (1, va_rf (some x)), (2, va_rf (some m)), (3, va_rf (some o)), (4, .int w4)]) dL_law_1832 (by decide) rfl ?_
    refine z_aload_n (C _) (pc := 1834) dL_law_1834 3 rfl ?_
    refine z_aload_n (C _) (pc := 1835) dL_law_1835 1 rfl ?_
    refine z_iload (C _) (pc := 1836) dL_law_1836 5 rfl ?_
    refine z_iconst (C _) (pc := 1838) (x := (1 : Int32)) dL_law_1838 kic_1 ?_
    refine z_iadd (C _) (pc := 1839) dL_law_1839 ?_
    refine z_sld (C _) hX (pc := 1840) dL_law_1840 v361 ?_
    refine z_aload_n (C _) (pc := 1841) dL_law_1841 1 rfl ?_
    refine z_iload (C _) (pc := 1842) dL_law_1842 5 rfl ?_
    refine z_iconst (C _) (pc := 1844) (x := (2 : Int32)) dL_law_1844 kic_2 ?_
    refine z_iadd (C _) (pc := 1845) dL_law_1845 ?_
    refine z_sld (C _) hX (pc := 1846) dL_law_1846 v362 ?_
    refine z_if_eq (C _) (pc := 1847) (tgt := 1854) dL_law_1847 (by decide) h (fun h => ?_) (fun h => ?_)
    · refine z_iconst (C _) (pc := 1854) (x := (0 : Int32)) dL_law_1854 kic_0 ?_
      obtain ⟨o366, h⟩ := h
      refine z_sw hT2 (fun hT1 => ?_)
      refine z_Vi (C _) (pc := 1855) (KX := fun _ _ => False) (kc' := B + 1) (ks' := B2 + 6) (As := [.int (xs (w4 + (1 : Int32)).toNatClampNeg), .int (0 : Int32)]) (rest := []) rfl (c_X9_ofTroop l v S2 m (xs (w4 + (1 : Int32)).toNatClampNeg) (0 : Int32)) mw_X9_ofTroop bw_1224 bw_1225 bw_1226 ⟨by have h9 : rm_X9_ofTroop.cells = 0 := rfl; omega, by omega, by have h9 : rm_X9_ofTroop.slots = 0 := rfl; omega, by omega, by decide, by decide⟩ rfl rfl (Nat.le_of_ble_eq_true rfl) (by decide) rfl o366 dL_law_1855 h (fun r368 S367 h => ?_) (fun En S9 h => h.elim)
      refine z_sw hT1 (fun t369 => ?_)
      refine z_istore (C _) (pc := 1858) (lv' := [(6, .int r368), (5, .int r363), (0, va_rf (some b)), (1, va_rf (some x)), (2, va_rf (some m)), (3, va_rf (some o)), (4, .int w4)]) dL_law_1858 (by decide) rfl ?_
      refine z_aload_n (C _) (pc := 1860) dL_law_1860 4 rfl ?_
      obtain ⟨o370, h⟩ := h
      refine z_sw t369 (fun hT1 => ?_)
      refine z_Vi (C _) (pc := 1861) (KX := fun _ _ => False) (kc' := B + 1) (ks' := B2 + 6) (As := []) (rest := []) rfl (c_X9_thrown l v S367 m) mw_X9_thrown bw_1006 bw_1007 bw_1008 ⟨by have h9 : rm_X9_thrown.cells = 0 := rfl; omega, by omega, by have h9 : rm_X9_thrown.slots = 0 := rfl; omega, by omega, by decide, by decide⟩ rfl rfl (Nat.le_of_ble_eq_true rfl) (by decide) rfl o370 dL_law_1861 h (fun r372 S371 h => ?_) (fun En S9 h => h.elim)
      refine z_sw hT1 (fun t373 => ?_)
      refine z_iload (C _) (pc := 1864) dL_law_1864 1 rfl ?_
      refine z_icmp_eq (C _) (pc := 1866) (tgt := 1871) dL_law_1866 (by decide) h (fun h => ?_) (fun h => ?_)
      · refine z_iload (C _) (pc := 1871) dL_law_1871 1 rfl ?_
        refine z_if_ne (C _) (pc := 1873) (tgt := 1888) dL_law_1873 (by decide) h (fun h => ?_) (fun h => ?_)
        · refine z_goto (C _) (pc := 1888) (tgt := 2102) dL_law_1888 (by decide) ?_
          refine z_iinc (C _) (pc := 2102) (y := w4 + (8 : Int32)) (lv' := [(4, .int (w4 + (8 : Int32))), (6, .int r368), (5, .int r363), (0, va_rf (some b)), (1, va_rf (some x)), (2, va_rf (some m)), (3, va_rf (some o))]) dL_law_2102 6 rfl rfl (by decide) rfl ?_
          refine z_goto (C _) (pc := 2105) (tgt := 23) dL_law_2105 (by decide) ?_
          refine z_sub [3, 4, 5, 6, 0] (lv' := [(0, va_rf (some b)), (1, va_rf (some x)), (2, va_rf (some m)), (3, va_rf (some o)), (4, .int (w4 + (8 : Int32)))]) rfl ?_
          refine z_wide (kc' := 25850 - n * 50) (ks' := 773500 - n * 1500) (by omega) (by omega) ?_
          exact ih S364 S371 f365 (w4 + (8 : Int32)) (by omega) t373 h
        · refine z_aload_n (C _) (pc := 1876) dL_law_1876 5 rfl ?_
          refine z_iconst (C _) (pc := 1877) (x := (0 : Int32)) dL_law_1877 kic_0 ?_
          refine z_lald (C []) (pc := 1878) dL_law_1878 vin01 ?_
          refine z_iload (C _) (pc := 1879) dL_law_1879 0 rfl ?_
          refine z_i2l (C _) (pc := 1881) dL_law_1881 ?_
          refine z_lcmp (C _) (pc := 1882) dL_law_1882 ?_
          refine z_if_eq (C _) (pc := 1883) (tgt := 1888) dL_law_1883 (by decide) h (fun h => ?_) (fun h => ?_)
          · refine z_goto (C _) (pc := 1888) (tgt := 2102) dL_law_1888 (by decide) ?_
            refine z_iinc (C _) (pc := 2102) (y := w4 + (8 : Int32)) (lv' := [(4, .int (w4 + (8 : Int32))), (6, .int r368), (5, .int r363), (0, va_rf (some b)), (1, va_rf (some x)), (2, va_rf (some m)), (3, va_rf (some o))]) dL_law_2102 6 rfl rfl (by decide) rfl ?_
            refine z_goto (C _) (pc := 2105) (tgt := 23) dL_law_2105 (by decide) ?_
            refine z_sub [3, 4, 5, 6, 0] (lv' := [(0, va_rf (some b)), (1, va_rf (some x)), (2, va_rf (some m)), (3, va_rf (some o)), (4, .int (w4 + (8 : Int32)))]) rfl ?_
            refine z_wide (kc' := 25850 - n * 50) (ks' := 773500 - n * 1500) (by omega) (by omega) ?_
            exact ih S364 S371 f365 (w4 + (8 : Int32)) (by omega) t373 h
          · refine z_iconst (C _) (pc := 1886) (x := (0 : Int32)) dL_law_1886 kic_0 ?_
            exact h.elim
      · refine z_iconst (C _) (pc := 1869) (x := (0 : Int32)) dL_law_1869 kic_0 ?_
        exact h.elim
    · refine z_iconst (C _) (pc := 1850) (x := (1 : Int32)) dL_law_1850 kic_1 ?_
      refine z_goto (C _) (pc := 1851) (tgt := 1855) dL_law_1851 (by decide) ?_
      obtain ⟨o374, h⟩ := h
      refine z_sw hT2 (fun hT1 => ?_)
      refine z_Vi (C _) (pc := 1855) (KX := fun _ _ => False) (kc' := B + 1) (ks' := B2 + 6) (As := [.int (xs (w4 + (1 : Int32)).toNatClampNeg), .int (1 : Int32)]) (rest := []) rfl (c_X9_ofTroop l v S2 m (xs (w4 + (1 : Int32)).toNatClampNeg) (1 : Int32)) mw_X9_ofTroop bw_1224 bw_1225 bw_1226 ⟨by have h9 : rm_X9_ofTroop.cells = 0 := rfl; omega, by omega, by have h9 : rm_X9_ofTroop.slots = 0 := rfl; omega, by omega, by decide, by decide⟩ rfl rfl (Nat.le_of_ble_eq_true rfl) (by decide) rfl o374 dL_law_1855 h (fun r376 S375 h => ?_) (fun En S9 h => h.elim)
      refine z_sw hT1 (fun t377 => ?_)
      refine z_istore (C _) (pc := 1858) (lv' := [(6, .int r376), (5, .int r363), (0, va_rf (some b)), (1, va_rf (some x)), (2, va_rf (some m)), (3, va_rf (some o)), (4, .int w4)]) dL_law_1858 (by decide) rfl ?_
      refine z_aload_n (C _) (pc := 1860) dL_law_1860 4 rfl ?_
      obtain ⟨o378, h⟩ := h
      refine z_sw t377 (fun hT1 => ?_)
      refine z_Vi (C _) (pc := 1861) (KX := fun _ _ => False) (kc' := B + 1) (ks' := B2 + 6) (As := []) (rest := []) rfl (c_X9_thrown l v S375 m) mw_X9_thrown bw_1006 bw_1007 bw_1008 ⟨by have h9 : rm_X9_thrown.cells = 0 := rfl; omega, by omega, by have h9 : rm_X9_thrown.slots = 0 := rfl; omega, by omega, by decide, by decide⟩ rfl rfl (Nat.le_of_ble_eq_true rfl) (by decide) rfl o378 dL_law_1861 h (fun r380 S379 h => ?_) (fun En S9 h => h.elim)
      refine z_sw hT1 (fun t381 => ?_)
      refine z_iload (C _) (pc := 1864) dL_law_1864 1 rfl ?_
      refine z_icmp_eq (C _) (pc := 1866) (tgt := 1871) dL_law_1866 (by decide) h (fun h => ?_) (fun h => ?_)
      · refine z_iload (C _) (pc := 1871) dL_law_1871 1 rfl ?_
        refine z_if_ne (C _) (pc := 1873) (tgt := 1888) dL_law_1873 (by decide) h (fun h => ?_) (fun h => ?_)
        · refine z_goto (C _) (pc := 1888) (tgt := 2102) dL_law_1888 (by decide) ?_
          refine z_iinc (C _) (pc := 2102) (y := w4 + (8 : Int32)) (lv' := [(4, .int (w4 + (8 : Int32))), (6, .int r376), (5, .int r363), (0, va_rf (some b)), (1, va_rf (some x)), (2, va_rf (some m)), (3, va_rf (some o))]) dL_law_2102 6 rfl rfl (by decide) rfl ?_
          refine z_goto (C _) (pc := 2105) (tgt := 23) dL_law_2105 (by decide) ?_
          refine z_sub [3, 4, 5, 6, 0] (lv' := [(0, va_rf (some b)), (1, va_rf (some x)), (2, va_rf (some m)), (3, va_rf (some o)), (4, .int (w4 + (8 : Int32)))]) rfl ?_
          refine z_wide (kc' := 25850 - n * 50) (ks' := 773500 - n * 1500) (by omega) (by omega) ?_
          exact ih S364 S379 f365 (w4 + (8 : Int32)) (by omega) t381 h
        · refine z_aload_n (C _) (pc := 1876) dL_law_1876 5 rfl ?_
          refine z_iconst (C _) (pc := 1877) (x := (0 : Int32)) dL_law_1877 kic_0 ?_
          refine z_lald (C []) (pc := 1878) dL_law_1878 vin01 ?_
          refine z_iload (C _) (pc := 1879) dL_law_1879 0 rfl ?_
          refine z_i2l (C _) (pc := 1881) dL_law_1881 ?_
          refine z_lcmp (C _) (pc := 1882) dL_law_1882 ?_
          refine z_if_eq (C _) (pc := 1883) (tgt := 1888) dL_law_1883 (by decide) h (fun h => ?_) (fun h => ?_)
          · refine z_goto (C _) (pc := 1888) (tgt := 2102) dL_law_1888 (by decide) ?_
            refine z_iinc (C _) (pc := 2102) (y := w4 + (8 : Int32)) (lv' := [(4, .int (w4 + (8 : Int32))), (6, .int r376), (5, .int r363), (0, va_rf (some b)), (1, va_rf (some x)), (2, va_rf (some m)), (3, va_rf (some o))]) dL_law_2102 6 rfl rfl (by decide) rfl ?_
            refine z_goto (C _) (pc := 2105) (tgt := 23) dL_law_2105 (by decide) ?_
            refine z_sub [3, 4, 5, 6, 0] (lv' := [(0, va_rf (some b)), (1, va_rf (some x)), (2, va_rf (some m)), (3, va_rf (some o)), (4, .int (w4 + (8 : Int32)))]) rfl ?_
            refine z_wide (kc' := 25850 - n * 50) (ks' := 773500 - n * 1500) (by omega) (by omega) ?_
            exact ih S364 S379 f365 (w4 + (8 : Int32)) (by omega) t381 h
          · refine z_iconst (C _) (pc := 1886) (x := (0 : Int32)) dL_law_1886 kic_0 ?_
            exact h.elim
      · refine z_iconst (C _) (pc := 1869) (x := (0 : Int32)) dL_law_1869 kic_0 ?_
        exact h.elim
  · refine z_iconst (C _) (pc := 1823) (x := (1 : Int32)) dL_law_1823 kic_1 ?_
    refine z_goto (C _) (pc := 1824) (tgt := 1828) dL_law_1824 (by decide) ?_
    refine z_aload_n (C _) (pc := 1828) dL_law_1828 3 rfl ?_
    refine z_SL (C []) (pc := 1829) (kc' := B + 1) (ks' := B2 + 6) (As := [va_rf (some x), .int (xs (w4 + (1 : Int32)).toNatClampNeg), .int (1 : Int32), va_rf (some o)]) (rest := []) (c_L_ofTroop l hfl v S1 x o (xs (w4 + (1 : Int32)).toNatClampNeg) (1 : Int32) f) bw_870 bw_0 (by decide +kernel) (n := 4) (by decide +kernel) bw_868 bw_869 ⟨by have h9 : rm_L_ofTroop.cells = 1 := rfl; omega, by omega, by have h9 : rm_L_ofTroop.slots = 6 := rfl; omega, by omega, by decide, by decide⟩ rfl rfl (Nat.le_of_ble_eq_true rfl) dL_law_1829 h (fun r382 S383 f384 h => ?_)
    refine z_istore (C _) (pc := 1832) (lv' := [(5, .int r382), (0, va_rf (some b)), (1, va_rf (some x)), (2, va_rf (some m)), (3, va_rf (some o)), (4, .int w4)]) dL_law_1832 (by decide) rfl ?_
    refine z_aload_n (C _) (pc := 1834) dL_law_1834 3 rfl ?_
    refine z_aload_n (C _) (pc := 1835) dL_law_1835 1 rfl ?_
    refine z_iload (C _) (pc := 1836) dL_law_1836 5 rfl ?_
    refine z_iconst (C _) (pc := 1838) (x := (1 : Int32)) dL_law_1838 kic_1 ?_
    refine z_iadd (C _) (pc := 1839) dL_law_1839 ?_
    refine z_sld (C _) hX (pc := 1840) dL_law_1840 v361 ?_
    refine z_aload_n (C _) (pc := 1841) dL_law_1841 1 rfl ?_
    refine z_iload (C _) (pc := 1842) dL_law_1842 5 rfl ?_
    refine z_iconst (C _) (pc := 1844) (x := (2 : Int32)) dL_law_1844 kic_2 ?_
    refine z_iadd (C _) (pc := 1845) dL_law_1845 ?_
    refine z_sld (C _) hX (pc := 1846) dL_law_1846 v362 ?_
    refine z_if_eq (C _) (pc := 1847) (tgt := 1854) dL_law_1847 (by decide) h (fun h => ?_) (fun h => ?_)
    · refine z_iconst (C _) (pc := 1854) (x := (0 : Int32)) dL_law_1854 kic_0 ?_
      obtain ⟨o385, h⟩ := h
      refine z_sw hT2 (fun hT1 => ?_)
      refine z_Vi (C _) (pc := 1855) (KX := fun _ _ => False) (kc' := B + 1) (ks' := B2 + 6) (As := [.int (xs (w4 + (1 : Int32)).toNatClampNeg), .int (0 : Int32)]) (rest := []) rfl (c_X9_ofTroop l v S2 m (xs (w4 + (1 : Int32)).toNatClampNeg) (0 : Int32)) mw_X9_ofTroop bw_1224 bw_1225 bw_1226 ⟨by have h9 : rm_X9_ofTroop.cells = 0 := rfl; omega, by omega, by have h9 : rm_X9_ofTroop.slots = 0 := rfl; omega, by omega, by decide, by decide⟩ rfl rfl (Nat.le_of_ble_eq_true rfl) (by decide) rfl o385 dL_law_1855 h (fun r387 S386 h => ?_) (fun En S9 h => h.elim)
      refine z_sw hT1 (fun t388 => ?_)
      refine z_istore (C _) (pc := 1858) (lv' := [(6, .int r387), (5, .int r382), (0, va_rf (some b)), (1, va_rf (some x)), (2, va_rf (some m)), (3, va_rf (some o)), (4, .int w4)]) dL_law_1858 (by decide) rfl ?_
      refine z_aload_n (C _) (pc := 1860) dL_law_1860 4 rfl ?_
      obtain ⟨o389, h⟩ := h
      refine z_sw t388 (fun hT1 => ?_)
      refine z_Vi (C _) (pc := 1861) (KX := fun _ _ => False) (kc' := B + 1) (ks' := B2 + 6) (As := []) (rest := []) rfl (c_X9_thrown l v S386 m) mw_X9_thrown bw_1006 bw_1007 bw_1008 ⟨by have h9 : rm_X9_thrown.cells = 0 := rfl; omega, by omega, by have h9 : rm_X9_thrown.slots = 0 := rfl; omega, by omega, by decide, by decide⟩ rfl rfl (Nat.le_of_ble_eq_true rfl) (by decide) rfl o389 dL_law_1861 h (fun r391 S390 h => ?_) (fun En S9 h => h.elim)
      refine z_sw hT1 (fun t392 => ?_)
      refine z_iload (C _) (pc := 1864) dL_law_1864 1 rfl ?_
      refine z_icmp_eq (C _) (pc := 1866) (tgt := 1871) dL_law_1866 (by decide) h (fun h => ?_) (fun h => ?_)
      · refine z_iload (C _) (pc := 1871) dL_law_1871 1 rfl ?_
        refine z_if_ne (C _) (pc := 1873) (tgt := 1888) dL_law_1873 (by decide) h (fun h => ?_) (fun h => ?_)
        · refine z_goto (C _) (pc := 1888) (tgt := 2102) dL_law_1888 (by decide) ?_
          refine z_iinc (C _) (pc := 2102) (y := w4 + (8 : Int32)) (lv' := [(4, .int (w4 + (8 : Int32))), (6, .int r387), (5, .int r382), (0, va_rf (some b)), (1, va_rf (some x)), (2, va_rf (some m)), (3, va_rf (some o))]) dL_law_2102 6 rfl rfl (by decide) rfl ?_
          refine z_goto (C _) (pc := 2105) (tgt := 23) dL_law_2105 (by decide) ?_
          refine z_sub [3, 4, 5, 6, 0] (lv' := [(0, va_rf (some b)), (1, va_rf (some x)), (2, va_rf (some m)), (3, va_rf (some o)), (4, .int (w4 + (8 : Int32)))]) rfl ?_
          refine z_wide (kc' := 25850 - n * 50) (ks' := 773500 - n * 1500) (by omega) (by omega) ?_
          exact ih S383 S390 f384 (w4 + (8 : Int32)) (by omega) t392 h
        · refine z_aload_n (C _) (pc := 1876) dL_law_1876 5 rfl ?_
          refine z_iconst (C _) (pc := 1877) (x := (0 : Int32)) dL_law_1877 kic_0 ?_
          refine z_lald (C []) (pc := 1878) dL_law_1878 vin01 ?_
          refine z_iload (C _) (pc := 1879) dL_law_1879 0 rfl ?_
          refine z_i2l (C _) (pc := 1881) dL_law_1881 ?_
          refine z_lcmp (C _) (pc := 1882) dL_law_1882 ?_
          refine z_if_eq (C _) (pc := 1883) (tgt := 1888) dL_law_1883 (by decide) h (fun h => ?_) (fun h => ?_)
          · refine z_goto (C _) (pc := 1888) (tgt := 2102) dL_law_1888 (by decide) ?_
            refine z_iinc (C _) (pc := 2102) (y := w4 + (8 : Int32)) (lv' := [(4, .int (w4 + (8 : Int32))), (6, .int r387), (5, .int r382), (0, va_rf (some b)), (1, va_rf (some x)), (2, va_rf (some m)), (3, va_rf (some o))]) dL_law_2102 6 rfl rfl (by decide) rfl ?_
            refine z_goto (C _) (pc := 2105) (tgt := 23) dL_law_2105 (by decide) ?_
            refine z_sub [3, 4, 5, 6, 0] (lv' := [(0, va_rf (some b)), (1, va_rf (some x)), (2, va_rf (some m)), (3, va_rf (some o)), (4, .int (w4 + (8 : Int32)))]) rfl ?_
            refine z_wide (kc' := 25850 - n * 50) (ks' := 773500 - n * 1500) (by omega) (by omega) ?_
            exact ih S383 S390 f384 (w4 + (8 : Int32)) (by omega) t392 h
          · refine z_iconst (C _) (pc := 1886) (x := (0 : Int32)) dL_law_1886 kic_0 ?_
            exact h.elim
      · refine z_iconst (C _) (pc := 1869) (x := (0 : Int32)) dL_law_1869 kic_0 ?_
        exact h.elim
    · refine z_iconst (C _) (pc := 1850) (x := (1 : Int32)) dL_law_1850 kic_1 ?_
      refine z_goto (C _) (pc := 1851) (tgt := 1855) dL_law_1851 (by decide) ?_
      obtain ⟨o393, h⟩ := h
      refine z_sw hT2 (fun hT1 => ?_)
      refine z_Vi (C _) (pc := 1855) (KX := fun _ _ => False) (kc' := B + 1) (ks' := B2 + 6) (As := [.int (xs (w4 + (1 : Int32)).toNatClampNeg), .int (1 : Int32)]) (rest := []) rfl (c_X9_ofTroop l v S2 m (xs (w4 + (1 : Int32)).toNatClampNeg) (1 : Int32)) mw_X9_ofTroop bw_1224 bw_1225 bw_1226 ⟨by have h9 : rm_X9_ofTroop.cells = 0 := rfl; omega, by omega, by have h9 : rm_X9_ofTroop.slots = 0 := rfl; omega, by omega, by decide, by decide⟩ rfl rfl (Nat.le_of_ble_eq_true rfl) (by decide) rfl o393 dL_law_1855 h (fun r395 S394 h => ?_) (fun En S9 h => h.elim)
      refine z_sw hT1 (fun t396 => ?_)
      refine z_istore (C _) (pc := 1858) (lv' := [(6, .int r395), (5, .int r382), (0, va_rf (some b)), (1, va_rf (some x)), (2, va_rf (some m)), (3, va_rf (some o)), (4, .int w4)]) dL_law_1858 (by decide) rfl ?_
      refine z_aload_n (C _) (pc := 1860) dL_law_1860 4 rfl ?_
      obtain ⟨o397, h⟩ := h
      refine z_sw t396 (fun hT1 => ?_)
      refine z_Vi (C _) (pc := 1861) (KX := fun _ _ => False) (kc' := B + 1) (ks' := B2 + 6) (As := []) (rest := []) rfl (c_X9_thrown l v S394 m) mw_X9_thrown bw_1006 bw_1007 bw_1008 ⟨by have h9 : rm_X9_thrown.cells = 0 := rfl; omega, by omega, by have h9 : rm_X9_thrown.slots = 0 := rfl; omega, by omega, by decide, by decide⟩ rfl rfl (Nat.le_of_ble_eq_true rfl) (by decide) rfl o397 dL_law_1861 h (fun r399 S398 h => ?_) (fun En S9 h => h.elim)
      refine z_sw hT1 (fun t400 => ?_)
      refine z_iload (C _) (pc := 1864) dL_law_1864 1 rfl ?_
      refine z_icmp_eq (C _) (pc := 1866) (tgt := 1871) dL_law_1866 (by decide) h (fun h => ?_) (fun h => ?_)
      · refine z_iload (C _) (pc := 1871) dL_law_1871 1 rfl ?_
        refine z_if_ne (C _) (pc := 1873) (tgt := 1888) dL_law_1873 (by decide) h (fun h => ?_) (fun h => ?_)
        · refine z_goto (C _) (pc := 1888) (tgt := 2102) dL_law_1888 (by decide) ?_
          refine z_iinc (C _) (pc := 2102) (y := w4 + (8 : Int32)) (lv' := [(4, .int (w4 + (8 : Int32))), (6, .int r395), (5, .int r382), (0, va_rf (some b)), (1, va_rf (some x)), (2, va_rf (some m)), (3, va_rf (some o))]) dL_law_2102 6 rfl rfl (by decide) rfl ?_
          refine z_goto (C _) (pc := 2105) (tgt := 23) dL_law_2105 (by decide) ?_
          refine z_sub [3, 4, 5, 6, 0] (lv' := [(0, va_rf (some b)), (1, va_rf (some x)), (2, va_rf (some m)), (3, va_rf (some o)), (4, .int (w4 + (8 : Int32)))]) rfl ?_
          refine z_wide (kc' := 25850 - n * 50) (ks' := 773500 - n * 1500) (by omega) (by omega) ?_
          exact ih S383 S398 f384 (w4 + (8 : Int32)) (by omega) t400 h
        · refine z_aload_n (C _) (pc := 1876) dL_law_1876 5 rfl ?_
          refine z_iconst (C _) (pc := 1877) (x := (0 : Int32)) dL_law_1877 kic_0 ?_
          refine z_lald (C []) (pc := 1878) dL_law_1878 vin01 ?_
          refine z_iload (C _) (pc := 1879) dL_law_1879 0 rfl ?_
          refine z_i2l (C _) (pc := 1881) dL_law_1881 ?_
          refine z_lcmp (C _) (pc := 1882) dL_law_1882 ?_
          refine z_if_eq (C _) (pc := 1883) (tgt := 1888) dL_law_1883 (by decide) h (fun h => ?_) (fun h => ?_)
          · refine z_goto (C _) (pc := 1888) (tgt := 2102) dL_law_1888 (by decide) ?_
            refine z_iinc (C _) (pc := 2102) (y := w4 + (8 : Int32)) (lv' := [(4, .int (w4 + (8 : Int32))), (6, .int r395), (5, .int r382), (0, va_rf (some b)), (1, va_rf (some x)), (2, va_rf (some m)), (3, va_rf (some o))]) dL_law_2102 6 rfl rfl (by decide) rfl ?_
            refine z_goto (C _) (pc := 2105) (tgt := 23) dL_law_2105 (by decide) ?_
            refine z_sub [3, 4, 5, 6, 0] (lv' := [(0, va_rf (some b)), (1, va_rf (some x)), (2, va_rf (some m)), (3, va_rf (some o)), (4, .int (w4 + (8 : Int32)))]) rfl ?_
            refine z_wide (kc' := 25850 - n * 50) (ks' := 773500 - n * 1500) (by omega) (by omega) ?_
            exact ih S383 S398 f384 (w4 + (8 : Int32)) (by omega) t400 h
          · refine z_iconst (C _) (pc := 1886) (x := (0 : Int32)) dL_law_1886 kic_0 ?_
            exact h.elim
      · refine z_iconst (C _) (pc := 1869) (x := (0 : Int32)) dL_law_1869 kic_0 ?_
        exact h.elim
def wp_law_C25 (x m : Nat) (xs : Nat → Int32) (L : Nat) (K : Hp → Hp → (Nat → Int64) → Int32 → Prop) (S1 S2 : Hp) (f : Nat → Int64) (w4 : Int32) : Prop := vp_in (w4 + (1 : Int32)) L ∧ (vp_in (w4 + (2 : Int32)) L ∧ (wp_L_earned S1 x (xs (w4 + (1 : Int32)).toNatClampNeg) (xs (w4 + (2 : Int32)).toNatClampNeg) f (fun r404 S405 f406 => okA S2 9 m ∧ (wp_X9_earned S2 m (xs (w4 + (1 : Int32)).toNatClampNeg) (xs (w4 + (2 : Int32)).toNatClampNeg) (fun r409 S408 => okA S408 9 m ∧ (wp_X9_thrown S408 m (fun r413 S412 => if r413 = r404 then (if r404 = 0 then (if (lg_cmp (f406 (0 : Int32).toNatClampNeg) r409.toInt64) = 0 then (K S405 S412 f406 (w4 + (8 : Int32))) else (False)) else (K S405 S412 f406 (w4 + (8 : Int32)))) else (False))))))))
set_option maxHeartbeats 4000000 in
set_option maxRecDepth 100000 in
theorem k_law_C25 (l : Launch) (hfl : l.stackTraces = false) (v : Ev) (b x m o L : Nat) (xs : Nat → Int32) {nm9 : String} {x9 : P9} {A : Nat → Prop} {E : State → Prop} (C : ∀ X, Cx l v RL cL_law 7 (some .boolean) nm9 (x9, X, A, E)) (hX : LX b L xs A x9) (hE : LE b A E x9) {n B B2 : Nat} (hB : B = 25850 - (n + 1) * 50) (hB2 : B2 = 773500 - (n + 1) * 1500) (hn : n + 1 ≤ 513) {K : Hp → Hp → (Nat → Int64) → Int32 → Prop} (ih : ∀ (S1 S2 : Hp) (f : Nat → Int64) (w4 : Int32), n ≤ 513 → g_T S2 = v.2.2.1 → K S1 S2 f w4 → ZZ l v 7 room_1 (x9, wl v.2.1 o f (g_w v.2.1 S2), A, E) (25850 - n * 50) (773500 - n * 1500) S1 23 [(0, va_rf (some b)), (1, va_rf (some x)), (2, va_rf (some m)), (3, va_rf (some o)), (4, .int w4)] []) (S1 S2 : Hp) (f : Nat → Int64) (w4 : Int32) (hT2 : g_T S2 = v.2.2.1) (h : wp_law_C25 x m xs L K S1 S2 f w4) : ZZ l v 7 room_1 (x9, wl v.2.1 o f (g_w v.2.1 S2), A, E) (B + 0) (B2 + 0) S1 1891 [(0, va_rf (some b)), (1, va_rf (some x)), (2, va_rf (some m)), (3, va_rf (some o)), (4, .int w4)] [] := by
  have hR : 600000 ≤ room_1.cells := Nat.le_of_ble_eq_true rfl
  have hR2 : 7000000 ≤ room_1.slots := Nat.le_of_ble_eq_true rfl
  unfold wp_law_C25 at h
  refine z_aload_n (C _) (pc := 1891) dL_law_1891 1 rfl ?_
  refine z_aload_n (C _) (pc := 1892) dL_law_1892 0 rfl ?_
  refine z_iload (C _) (pc := 1893) dL_law_1893 4 rfl ?_
  refine z_iconst (C _) (pc := 1895) (x := (1 : Int32)) dL_law_1895 kic_1 ?_
  refine z_iadd (C _) (pc := 1896) dL_law_1896 ?_
  obtain ⟨v402, h⟩ := h
  refine z_sld (C _) hX (pc := 1897) dL_law_1897 v402 ?_
  refine z_aload_n (C _) (pc := 1898) dL_law_1898 0 rfl ?_
  refine z_iload (C _) (pc := 1899) dL_law_1899 4 rfl ?_
  refine z_iconst (C _) (pc := 1901) (x := (2 : Int32)) dL_law_1901 kic_2 ?_
  refine z_iadd (C _) (pc := 1902) dL_law_1902 ?_
  obtain ⟨v403, h⟩ := h
  refine z_sld (C _) hX (pc := 1903) dL_law_1903 v403 ?_
  refine z_aload_n (C _) (pc := 1904) dL_law_1904 3 rfl ?_
  refine z_SL (C []) (pc := 1905) (kc' := B + 2) (ks' := B2 + 12) (As := [va_rf (some x), .int (xs (w4 + (1 : Int32)).toNatClampNeg), .int (xs (w4 + (2 : Int32)).toNatClampNeg), va_rf (some o)]) (rest := []) (c_L_earned l hfl v S1 x o (xs (w4 + (1 : Int32)).toNatClampNeg) (xs (w4 + (2 : Int32)).toNatClampNeg) f) bw_877 bw_0 (by decide +kernel) (n := 4) (by decide +kernel) bw_875 bw_876 ⟨by have h9 : rm_L_earned.cells = 2 := rfl; omega, by omega, by have h9 : rm_L_earned.slots = 12 := rfl; omega, by omega, by decide, by decide⟩ rfl rfl (Nat.le_of_ble_eq_true rfl) dL_law_1905 h (fun r404 S405 f406 h => ?_)
  refine z_istore (C _) (pc := 1908) (lv' := [(5, .int r404), (0, va_rf (some b)), (1, va_rf (some x)), (2, va_rf (some m)), (3, va_rf (some o)), (4, .int w4)]) dL_law_1908 (by decide) rfl ?_
  refine z_aload_n (C _) (pc := 1910) dL_law_1910 3 rfl ?_
  refine z_aload_n (C _) (pc := 1911) dL_law_1911 1 rfl ?_
  refine z_iload (C _) (pc := 1912) dL_law_1912 5 rfl ?_
  refine z_iconst (C _) (pc := 1914) (x := (1 : Int32)) dL_law_1914 kic_1 ?_
  refine z_iadd (C _) (pc := 1915) dL_law_1915 ?_
  refine z_sld (C _) hX (pc := 1916) dL_law_1916 v402 ?_
  refine z_aload_n (C _) (pc := 1917) dL_law_1917 1 rfl ?_
  refine z_iload (C _) (pc := 1918) dL_law_1918 5 rfl ?_
  refine z_iconst (C _) (pc := 1920) (x := (2 : Int32)) dL_law_1920 kic_2 ?_
  refine z_iadd (C _) (pc := 1921) dL_law_1921 ?_
  refine z_sld (C _) hX (pc := 1922) dL_law_1922 v403 ?_
  obtain ⟨o407, h⟩ := h
  refine z_sw hT2 (fun hT1 => ?_)
  refine z_Vi (C _) (pc := 1923) (KX := fun _ _ => False) (kc' := B + 2) (ks' := B2 + 12) (As := [.int (xs (w4 + (1 : Int32)).toNatClampNeg), .int (xs (w4 + (2 : Int32)).toNatClampNeg)]) (rest := []) rfl (c_X9_earned l v S2 m (xs (w4 + (1 : Int32)).toNatClampNeg) (xs (w4 + (2 : Int32)).toNatClampNeg)) mw_X9_earned bw_1228 bw_1229 bw_1230 ⟨by have h9 : rm_X9_earned.cells = 0 := rfl; omega, by omega, by have h9 : rm_X9_earned.slots = 0 := rfl; omega, by omega, by decide, by decide⟩ rfl rfl (Nat.le_of_ble_eq_true rfl) (by decide) rfl o407 dL_law_1923 h (fun r409 S408 h => ?_) (fun En S9 h => h.elim)
  refine z_sw hT1 (fun t410 => ?_)
  refine z_istore (C _) (pc := 1926) (lv' := [(6, .int r409), (5, .int r404), (0, va_rf (some b)), (1, va_rf (some x)), (2, va_rf (some m)), (3, va_rf (some o)), (4, .int w4)]) dL_law_1926 (by decide) rfl ?_
  refine z_aload_n (C _) (pc := 1928) dL_law_1928 4 rfl ?_
  obtain ⟨o411, h⟩ := h
  refine z_sw t410 (fun hT1 => ?_)
  refine z_Vi (C _) (pc := 1929) (KX := fun _ _ => False) (kc' := B + 2) (ks' := B2 + 12) (As := []) (rest := []) rfl (c_X9_thrown l v S408 m) mw_X9_thrown bw_1006 bw_1007 bw_1008 ⟨by have h9 : rm_X9_thrown.cells = 0 := rfl; omega, by omega, by have h9 : rm_X9_thrown.slots = 0 := rfl; omega, by omega, by decide, by decide⟩ rfl rfl (Nat.le_of_ble_eq_true rfl) (by decide) rfl o411 dL_law_1929 h (fun r413 S412 h => ?_) (fun En S9 h => h.elim)
  refine z_sw hT1 (fun t414 => ?_)
  refine z_iload (C _) (pc := 1932) dL_law_1932 1 rfl ?_
  refine z_icmp_eq (C _) (pc := 1934) (tgt := 1939) dL_law_1934 (by decide) h (fun h => ?_) (fun h => ?_)
  · refine z_iload (C _) (pc := 1939) dL_law_1939 1 rfl ?_
    refine z_if_ne (C _) (pc := 1941) (tgt := 1956) dL_law_1941 (by decide) h (fun h => ?_) (fun h => ?_)
    · refine z_goto (C _) (pc := 1956) (tgt := 2102) dL_law_1956 (by decide) ?_
      refine z_iinc (C _) (pc := 2102) (y := w4 + (8 : Int32)) (lv' := [(4, .int (w4 + (8 : Int32))), (6, .int r409), (5, .int r404), (0, va_rf (some b)), (1, va_rf (some x)), (2, va_rf (some m)), (3, va_rf (some o))]) dL_law_2102 6 rfl rfl (by decide) rfl ?_
      refine z_goto (C _) (pc := 2105) (tgt := 23) dL_law_2105 (by decide) ?_
      refine z_sub [3, 4, 5, 6, 0] (lv' := [(0, va_rf (some b)), (1, va_rf (some x)), (2, va_rf (some m)), (3, va_rf (some o)), (4, .int (w4 + (8 : Int32)))]) rfl ?_
      refine z_wide (kc' := 25850 - n * 50) (ks' := 773500 - n * 1500) (by omega) (by omega) ?_
      exact ih S405 S412 f406 (w4 + (8 : Int32)) (by omega) t414 h
    · refine z_aload_n (C _) (pc := 1944) dL_law_1944 5 rfl ?_
      refine z_iconst (C _) (pc := 1945) (x := (0 : Int32)) dL_law_1945 kic_0 ?_
      refine z_lald (C []) (pc := 1946) dL_law_1946 vin01 ?_
      refine z_iload (C _) (pc := 1947) dL_law_1947 0 rfl ?_
      refine z_i2l (C _) (pc := 1949) dL_law_1949 ?_
      refine z_lcmp (C _) (pc := 1950) dL_law_1950 ?_
      refine z_if_eq (C _) (pc := 1951) (tgt := 1956) dL_law_1951 (by decide) h (fun h => ?_) (fun h => ?_)
      · refine z_goto (C _) (pc := 1956) (tgt := 2102) dL_law_1956 (by decide) ?_
        refine z_iinc (C _) (pc := 2102) (y := w4 + (8 : Int32)) (lv' := [(4, .int (w4 + (8 : Int32))), (6, .int r409), (5, .int r404), (0, va_rf (some b)), (1, va_rf (some x)), (2, va_rf (some m)), (3, va_rf (some o))]) dL_law_2102 6 rfl rfl (by decide) rfl ?_
        refine z_goto (C _) (pc := 2105) (tgt := 23) dL_law_2105 (by decide) ?_
        refine z_sub [3, 4, 5, 6, 0] (lv' := [(0, va_rf (some b)), (1, va_rf (some x)), (2, va_rf (some m)), (3, va_rf (some o)), (4, .int (w4 + (8 : Int32)))]) rfl ?_
        refine z_wide (kc' := 25850 - n * 50) (ks' := 773500 - n * 1500) (by omega) (by omega) ?_
        exact ih S405 S412 f406 (w4 + (8 : Int32)) (by omega) t414 h
      · refine z_iconst (C _) (pc := 1954) (x := (0 : Int32)) dL_law_1954 kic_0 ?_
        exact h.elim
  · refine z_iconst (C _) (pc := 1937) (x := (0 : Int32)) dL_law_1937 kic_0 ?_
    exact h.elim
def wp_law_C26 (x m : Nat) (xs : Nat → Int32) (L : Nat) (K : Hp → Hp → (Nat → Int64) → Int32 → Prop) (S1 S2 : Hp) (f : Nat → Int64) (w4 : Int32) : Prop := vp_in (w4 + (1 : Int32)) L ∧ (vp_in (w4 + (2 : Int32)) L ∧ (wp_L_holds S1 x (xs (w4 + (1 : Int32)).toNatClampNeg) (xs (w4 + (2 : Int32)).toNatClampNeg) f (fun r418 S419 f420 => okA S2 9 m ∧ (wp_X9_holds S2 m (xs (w4 + (1 : Int32)).toNatClampNeg) (xs (w4 + (2 : Int32)).toNatClampNeg) (fun r423 S422 => okA S422 9 m ∧ (wp_X9_thrown S422 m (fun r427 S426 => if r427 = r418 then (if r418 = 0 then (if r423 = 0 then (if (lg_cmp (f420 (0 : Int32).toNatClampNeg) (0 : Int64)) = 0 then (K S419 S426 f420 (w4 + (8 : Int32))) else (False)) else (if (lg_cmp (f420 (0 : Int32).toNatClampNeg) (1 : Int64)) = 0 then (K S419 S426 f420 (w4 + (8 : Int32))) else (False))) else (K S419 S426 f420 (w4 + (8 : Int32)))) else (False))))))))
set_option maxHeartbeats 4000000 in
set_option maxRecDepth 100000 in
theorem k_law_C26 (l : Launch) (hfl : l.stackTraces = false) (v : Ev) (b x m o L : Nat) (xs : Nat → Int32) {nm9 : String} {x9 : P9} {A : Nat → Prop} {E : State → Prop} (C : ∀ X, Cx l v RL cL_law 7 (some .boolean) nm9 (x9, X, A, E)) (hX : LX b L xs A x9) (hE : LE b A E x9) {n B B2 : Nat} (hB : B = 25850 - (n + 1) * 50) (hB2 : B2 = 773500 - (n + 1) * 1500) (hn : n + 1 ≤ 513) {K : Hp → Hp → (Nat → Int64) → Int32 → Prop} (ih : ∀ (S1 S2 : Hp) (f : Nat → Int64) (w4 : Int32), n ≤ 513 → g_T S2 = v.2.2.1 → K S1 S2 f w4 → ZZ l v 7 room_1 (x9, wl v.2.1 o f (g_w v.2.1 S2), A, E) (25850 - n * 50) (773500 - n * 1500) S1 23 [(0, va_rf (some b)), (1, va_rf (some x)), (2, va_rf (some m)), (3, va_rf (some o)), (4, .int w4)] []) (S1 S2 : Hp) (f : Nat → Int64) (w4 : Int32) (hT2 : g_T S2 = v.2.2.1) (h : wp_law_C26 x m xs L K S1 S2 f w4) : ZZ l v 7 room_1 (x9, wl v.2.1 o f (g_w v.2.1 S2), A, E) (B + 0) (B2 + 0) S1 1959 [(0, va_rf (some b)), (1, va_rf (some x)), (2, va_rf (some m)), (3, va_rf (some o)), (4, .int w4)] [] := by
  have hR : 600000 ≤ room_1.cells := Nat.le_of_ble_eq_true rfl
  have hR2 : 7000000 ≤ room_1.slots := Nat.le_of_ble_eq_true rfl
  unfold wp_law_C26 at h
  refine z_aload_n (C _) (pc := 1959) dL_law_1959 1 rfl ?_
  refine z_aload_n (C _) (pc := 1960) dL_law_1960 0 rfl ?_
  refine z_iload (C _) (pc := 1961) dL_law_1961 4 rfl ?_
  refine z_iconst (C _) (pc := 1963) (x := (1 : Int32)) dL_law_1963 kic_1 ?_
  refine z_iadd (C _) (pc := 1964) dL_law_1964 ?_
  obtain ⟨v416, h⟩ := h
  refine z_sld (C _) hX (pc := 1965) dL_law_1965 v416 ?_
  refine z_aload_n (C _) (pc := 1966) dL_law_1966 0 rfl ?_
  refine z_iload (C _) (pc := 1967) dL_law_1967 4 rfl ?_
  refine z_iconst (C _) (pc := 1969) (x := (2 : Int32)) dL_law_1969 kic_2 ?_
  refine z_iadd (C _) (pc := 1970) dL_law_1970 ?_
  obtain ⟨v417, h⟩ := h
  refine z_sld (C _) hX (pc := 1971) dL_law_1971 v417 ?_
  refine z_aload_n (C _) (pc := 1972) dL_law_1972 3 rfl ?_
  refine z_SL (C []) (pc := 1973) (kc' := B + 2) (ks' := B2 + 12) (As := [va_rf (some x), .int (xs (w4 + (1 : Int32)).toNatClampNeg), .int (xs (w4 + (2 : Int32)).toNatClampNeg), va_rf (some o)]) (rest := []) (c_L_holds l hfl v S1 x o (xs (w4 + (1 : Int32)).toNatClampNeg) (xs (w4 + (2 : Int32)).toNatClampNeg) f) bw_885 bw_0 (by decide +kernel) (n := 4) (by decide +kernel) bw_883 bw_884 ⟨by have h9 : rm_L_holds.cells = 2 := rfl; omega, by omega, by have h9 : rm_L_holds.slots = 12 := rfl; omega, by omega, by decide, by decide⟩ rfl rfl (Nat.le_of_ble_eq_true rfl) dL_law_1973 h (fun r418 S419 f420 h => ?_)
  refine z_istore (C _) (pc := 1976) (lv' := [(5, .int r418), (0, va_rf (some b)), (1, va_rf (some x)), (2, va_rf (some m)), (3, va_rf (some o)), (4, .int w4)]) dL_law_1976 (by decide) rfl ?_
  refine z_aload_n (C _) (pc := 1978) dL_law_1978 3 rfl ?_
  refine z_aload_n (C _) (pc := 1979) dL_law_1979 1 rfl ?_
  refine z_iload (C _) (pc := 1980) dL_law_1980 5 rfl ?_
  refine z_iconst (C _) (pc := 1982) (x := (1 : Int32)) dL_law_1982 kic_1 ?_
  refine z_iadd (C _) (pc := 1983) dL_law_1983 ?_
  refine z_sld (C _) hX (pc := 1984) dL_law_1984 v416 ?_
  refine z_aload_n (C _) (pc := 1985) dL_law_1985 1 rfl ?_
  refine z_iload (C _) (pc := 1986) dL_law_1986 5 rfl ?_
  refine z_iconst (C _) (pc := 1988) (x := (2 : Int32)) dL_law_1988 kic_2 ?_
  refine z_iadd (C _) (pc := 1989) dL_law_1989 ?_
  refine z_sld (C _) hX (pc := 1990) dL_law_1990 v417 ?_
  obtain ⟨o421, h⟩ := h
  refine z_sw hT2 (fun hT1 => ?_)
  refine z_Vi (C _) (pc := 1991) (KX := fun _ _ => False) (kc' := B + 2) (ks' := B2 + 12) (As := [.int (xs (w4 + (1 : Int32)).toNatClampNeg), .int (xs (w4 + (2 : Int32)).toNatClampNeg)]) (rest := []) rfl (c_X9_holds l v S2 m (xs (w4 + (1 : Int32)).toNatClampNeg) (xs (w4 + (2 : Int32)).toNatClampNeg)) mw_X9_holds bw_1232 bw_1233 bw_1234 ⟨by have h9 : rm_X9_holds.cells = 0 := rfl; omega, by omega, by have h9 : rm_X9_holds.slots = 0 := rfl; omega, by omega, by decide, by decide⟩ rfl rfl (Nat.le_of_ble_eq_true rfl) (by decide) rfl o421 dL_law_1991 h (fun r423 S422 h => ?_) (fun En S9 h => h.elim)
  refine z_sw hT1 (fun t424 => ?_)
  refine z_istore (C _) (pc := 1994) (lv' := [(6, .int r423), (5, .int r418), (0, va_rf (some b)), (1, va_rf (some x)), (2, va_rf (some m)), (3, va_rf (some o)), (4, .int w4)]) dL_law_1994 (by decide) rfl ?_
  refine z_aload_n (C _) (pc := 1996) dL_law_1996 4 rfl ?_
  obtain ⟨o425, h⟩ := h
  refine z_sw t424 (fun hT1 => ?_)
  refine z_Vi (C _) (pc := 1997) (KX := fun _ _ => False) (kc' := B + 2) (ks' := B2 + 12) (As := []) (rest := []) rfl (c_X9_thrown l v S422 m) mw_X9_thrown bw_1006 bw_1007 bw_1008 ⟨by have h9 : rm_X9_thrown.cells = 0 := rfl; omega, by omega, by have h9 : rm_X9_thrown.slots = 0 := rfl; omega, by omega, by decide, by decide⟩ rfl rfl (Nat.le_of_ble_eq_true rfl) (by decide) rfl o425 dL_law_1997 h (fun r427 S426 h => ?_) (fun En S9 h => h.elim)
  refine z_sw hT1 (fun t428 => ?_)
  refine z_iload (C _) (pc := 2000) dL_law_2000 1 rfl ?_
  refine z_icmp_eq (C _) (pc := 2002) (tgt := 2007) dL_law_2002 (by decide) h (fun h => ?_) (fun h => ?_)
  · refine z_iload (C _) (pc := 2007) dL_law_2007 1 rfl ?_
    refine z_if_ne (C _) (pc := 2009) (tgt := 2031) dL_law_2009 (by decide) h (fun h => ?_) (fun h => ?_)
    · refine z_goto (C _) (pc := 2031) (tgt := 2102) dL_law_2031 (by decide) ?_
      refine z_iinc (C _) (pc := 2102) (y := w4 + (8 : Int32)) (lv' := [(4, .int (w4 + (8 : Int32))), (6, .int r423), (5, .int r418), (0, va_rf (some b)), (1, va_rf (some x)), (2, va_rf (some m)), (3, va_rf (some o))]) dL_law_2102 6 rfl rfl (by decide) rfl ?_
      refine z_goto (C _) (pc := 2105) (tgt := 23) dL_law_2105 (by decide) ?_
      refine z_sub [3, 4, 5, 6, 0] (lv' := [(0, va_rf (some b)), (1, va_rf (some x)), (2, va_rf (some m)), (3, va_rf (some o)), (4, .int (w4 + (8 : Int32)))]) rfl ?_
      refine z_wide (kc' := 25850 - n * 50) (ks' := 773500 - n * 1500) (by omega) (by omega) ?_
      exact ih S419 S426 f420 (w4 + (8 : Int32)) (by omega) t428 h
    · refine z_aload_n (C _) (pc := 2012) dL_law_2012 5 rfl ?_
      refine z_iconst (C _) (pc := 2013) (x := (0 : Int32)) dL_law_2013 kic_0 ?_
      refine z_lald (C []) (pc := 2014) dL_law_2014 vin01 ?_
      refine z_iload (C _) (pc := 2015) dL_law_2015 0 rfl ?_
      refine z_if_eq (C _) (pc := 2017) (tgt := 2024) dL_law_2017 (by decide) h (fun h => ?_) (fun h => ?_)
      · refine z_lconst (C _) (pc := 2024) (x := (0 : Int64)) dL_law_2024 rfl ?_
        refine z_lcmp (C _) (pc := 2025) dL_law_2025 ?_
        refine z_if_eq (C _) (pc := 2026) (tgt := 2031) dL_law_2026 (by decide) h (fun h => ?_) (fun h => ?_)
        · refine z_goto (C _) (pc := 2031) (tgt := 2102) dL_law_2031 (by decide) ?_
          refine z_iinc (C _) (pc := 2102) (y := w4 + (8 : Int32)) (lv' := [(4, .int (w4 + (8 : Int32))), (6, .int r423), (5, .int r418), (0, va_rf (some b)), (1, va_rf (some x)), (2, va_rf (some m)), (3, va_rf (some o))]) dL_law_2102 6 rfl rfl (by decide) rfl ?_
          refine z_goto (C _) (pc := 2105) (tgt := 23) dL_law_2105 (by decide) ?_
          refine z_sub [3, 4, 5, 6, 0] (lv' := [(0, va_rf (some b)), (1, va_rf (some x)), (2, va_rf (some m)), (3, va_rf (some o)), (4, .int (w4 + (8 : Int32)))]) rfl ?_
          refine z_wide (kc' := 25850 - n * 50) (ks' := 773500 - n * 1500) (by omega) (by omega) ?_
          exact ih S419 S426 f420 (w4 + (8 : Int32)) (by omega) t428 h
        · refine z_iconst (C _) (pc := 2029) (x := (0 : Int32)) dL_law_2029 kic_0 ?_
          exact h.elim
      · refine z_lconst (C _) (pc := 2020) (x := (1 : Int64)) dL_law_2020 rfl ?_
        refine z_goto (C _) (pc := 2021) (tgt := 2025) dL_law_2021 (by decide) ?_
        refine z_lcmp (C _) (pc := 2025) dL_law_2025 ?_
        refine z_if_eq (C _) (pc := 2026) (tgt := 2031) dL_law_2026 (by decide) h (fun h => ?_) (fun h => ?_)
        · refine z_goto (C _) (pc := 2031) (tgt := 2102) dL_law_2031 (by decide) ?_
          refine z_iinc (C _) (pc := 2102) (y := w4 + (8 : Int32)) (lv' := [(4, .int (w4 + (8 : Int32))), (6, .int r423), (5, .int r418), (0, va_rf (some b)), (1, va_rf (some x)), (2, va_rf (some m)), (3, va_rf (some o))]) dL_law_2102 6 rfl rfl (by decide) rfl ?_
          refine z_goto (C _) (pc := 2105) (tgt := 23) dL_law_2105 (by decide) ?_
          refine z_sub [3, 4, 5, 6, 0] (lv' := [(0, va_rf (some b)), (1, va_rf (some x)), (2, va_rf (some m)), (3, va_rf (some o)), (4, .int (w4 + (8 : Int32)))]) rfl ?_
          refine z_wide (kc' := 25850 - n * 50) (ks' := 773500 - n * 1500) (by omega) (by omega) ?_
          exact ih S419 S426 f420 (w4 + (8 : Int32)) (by omega) t428 h
        · refine z_iconst (C _) (pc := 2029) (x := (0 : Int32)) dL_law_2029 kic_0 ?_
          exact h.elim
  · refine z_iconst (C _) (pc := 2005) (x := (0 : Int32)) dL_law_2005 kic_0 ?_
    exact h.elim
def wp_law_C27 (x m : Nat) (xs : Nat → Int32) (L : Nat) (K : Hp → Hp → (Nat → Int64) → Int32 → Prop) (S1 S2 : Hp) (f : Nat → Int64) (w4 : Int32) : Prop := vp_in (w4 + (1 : Int32)) L ∧ (vp_in (w4 + (2 : Int32)) L ∧ (wp_L_lacks S1 x (xs (w4 + (1 : Int32)).toNatClampNeg) (xs (w4 + (2 : Int32)).toNatClampNeg) f (fun r432 S433 f434 => okA S2 9 m ∧ (wp_X9_lacks S2 m (xs (w4 + (1 : Int32)).toNatClampNeg) (xs (w4 + (2 : Int32)).toNatClampNeg) (fun r437 S436 => okA S436 9 m ∧ (wp_X9_thrown S436 m (fun r441 S440 => if r441 = r432 then (if r432 = 0 then (if (lg_cmp (f434 (0 : Int32).toNatClampNeg) r437.toInt64) = 0 then (K S433 S440 f434 (w4 + (8 : Int32))) else (False)) else (K S433 S440 f434 (w4 + (8 : Int32)))) else (False))))))))
set_option maxHeartbeats 4000000 in
set_option maxRecDepth 100000 in
theorem k_law_C27 (l : Launch) (hfl : l.stackTraces = false) (v : Ev) (b x m o L : Nat) (xs : Nat → Int32) {nm9 : String} {x9 : P9} {A : Nat → Prop} {E : State → Prop} (C : ∀ X, Cx l v RL cL_law 7 (some .boolean) nm9 (x9, X, A, E)) (hX : LX b L xs A x9) (hE : LE b A E x9) {n B B2 : Nat} (hB : B = 25850 - (n + 1) * 50) (hB2 : B2 = 773500 - (n + 1) * 1500) (hn : n + 1 ≤ 513) {K : Hp → Hp → (Nat → Int64) → Int32 → Prop} (ih : ∀ (S1 S2 : Hp) (f : Nat → Int64) (w4 : Int32), n ≤ 513 → g_T S2 = v.2.2.1 → K S1 S2 f w4 → ZZ l v 7 room_1 (x9, wl v.2.1 o f (g_w v.2.1 S2), A, E) (25850 - n * 50) (773500 - n * 1500) S1 23 [(0, va_rf (some b)), (1, va_rf (some x)), (2, va_rf (some m)), (3, va_rf (some o)), (4, .int w4)] []) (S1 S2 : Hp) (f : Nat → Int64) (w4 : Int32) (hT2 : g_T S2 = v.2.2.1) (h : wp_law_C27 x m xs L K S1 S2 f w4) : ZZ l v 7 room_1 (x9, wl v.2.1 o f (g_w v.2.1 S2), A, E) (B + 0) (B2 + 0) S1 2034 [(0, va_rf (some b)), (1, va_rf (some x)), (2, va_rf (some m)), (3, va_rf (some o)), (4, .int w4)] [] := by
  have hR : 600000 ≤ room_1.cells := Nat.le_of_ble_eq_true rfl
  have hR2 : 7000000 ≤ room_1.slots := Nat.le_of_ble_eq_true rfl
  unfold wp_law_C27 at h
  refine z_aload_n (C _) (pc := 2034) dL_law_2034 1 rfl ?_
  refine z_aload_n (C _) (pc := 2035) dL_law_2035 0 rfl ?_
  refine z_iload (C _) (pc := 2036) dL_law_2036 4 rfl ?_
  refine z_iconst (C _) (pc := 2038) (x := (1 : Int32)) dL_law_2038 kic_1 ?_
  refine z_iadd (C _) (pc := 2039) dL_law_2039 ?_
  obtain ⟨v430, h⟩ := h
  refine z_sld (C _) hX (pc := 2040) dL_law_2040 v430 ?_
  refine z_aload_n (C _) (pc := 2041) dL_law_2041 0 rfl ?_
  refine z_iload (C _) (pc := 2042) dL_law_2042 4 rfl ?_
  refine z_iconst (C _) (pc := 2044) (x := (2 : Int32)) dL_law_2044 kic_2 ?_
  refine z_iadd (C _) (pc := 2045) dL_law_2045 ?_
  obtain ⟨v431, h⟩ := h
  refine z_sld (C _) hX (pc := 2046) dL_law_2046 v431 ?_
  refine z_aload_n (C _) (pc := 2047) dL_law_2047 3 rfl ?_
  refine z_SL (C []) (pc := 2048) (kc' := B + 3) (ks' := B2 + 18) (As := [va_rf (some x), .int (xs (w4 + (1 : Int32)).toNatClampNeg), .int (xs (w4 + (2 : Int32)).toNatClampNeg), va_rf (some o)]) (rest := []) (c_L_lacks l hfl v S1 x o (xs (w4 + (1 : Int32)).toNatClampNeg) (xs (w4 + (2 : Int32)).toNatClampNeg) f) bw_896 bw_0 (by decide +kernel) (n := 4) (by decide +kernel) bw_894 bw_895 ⟨by have h9 : rm_L_lacks.cells = 3 := rfl; omega, by omega, by have h9 : rm_L_lacks.slots = 18 := rfl; omega, by omega, by decide, by decide⟩ rfl rfl (Nat.le_of_ble_eq_true rfl) dL_law_2048 h (fun r432 S433 f434 h => ?_)
  refine z_istore (C _) (pc := 2051) (lv' := [(5, .int r432), (0, va_rf (some b)), (1, va_rf (some x)), (2, va_rf (some m)), (3, va_rf (some o)), (4, .int w4)]) dL_law_2051 (by decide) rfl ?_
  refine z_aload_n (C _) (pc := 2053) dL_law_2053 3 rfl ?_
  refine z_aload_n (C _) (pc := 2054) dL_law_2054 1 rfl ?_
  refine z_iload (C _) (pc := 2055) dL_law_2055 5 rfl ?_
  refine z_iconst (C _) (pc := 2057) (x := (1 : Int32)) dL_law_2057 kic_1 ?_
  refine z_iadd (C _) (pc := 2058) dL_law_2058 ?_
  refine z_sld (C _) hX (pc := 2059) dL_law_2059 v430 ?_
  refine z_aload_n (C _) (pc := 2060) dL_law_2060 1 rfl ?_
  refine z_iload (C _) (pc := 2061) dL_law_2061 5 rfl ?_
  refine z_iconst (C _) (pc := 2063) (x := (2 : Int32)) dL_law_2063 kic_2 ?_
  refine z_iadd (C _) (pc := 2064) dL_law_2064 ?_
  refine z_sld (C _) hX (pc := 2065) dL_law_2065 v431 ?_
  obtain ⟨o435, h⟩ := h
  refine z_sw hT2 (fun hT1 => ?_)
  refine z_Vi (C _) (pc := 2066) (KX := fun _ _ => False) (kc' := B + 3) (ks' := B2 + 18) (As := [.int (xs (w4 + (1 : Int32)).toNatClampNeg), .int (xs (w4 + (2 : Int32)).toNatClampNeg)]) (rest := []) rfl (c_X9_lacks l v S2 m (xs (w4 + (1 : Int32)).toNatClampNeg) (xs (w4 + (2 : Int32)).toNatClampNeg)) mw_X9_lacks bw_1236 bw_1237 bw_1238 ⟨by have h9 : rm_X9_lacks.cells = 0 := rfl; omega, by omega, by have h9 : rm_X9_lacks.slots = 0 := rfl; omega, by omega, by decide, by decide⟩ rfl rfl (Nat.le_of_ble_eq_true rfl) (by decide) rfl o435 dL_law_2066 h (fun r437 S436 h => ?_) (fun En S9 h => h.elim)
  refine z_sw hT1 (fun t438 => ?_)
  refine z_istore (C _) (pc := 2069) (lv' := [(6, .int r437), (5, .int r432), (0, va_rf (some b)), (1, va_rf (some x)), (2, va_rf (some m)), (3, va_rf (some o)), (4, .int w4)]) dL_law_2069 (by decide) rfl ?_
  refine z_aload_n (C _) (pc := 2071) dL_law_2071 4 rfl ?_
  obtain ⟨o439, h⟩ := h
  refine z_sw t438 (fun hT1 => ?_)
  refine z_Vi (C _) (pc := 2072) (KX := fun _ _ => False) (kc' := B + 3) (ks' := B2 + 18) (As := []) (rest := []) rfl (c_X9_thrown l v S436 m) mw_X9_thrown bw_1006 bw_1007 bw_1008 ⟨by have h9 : rm_X9_thrown.cells = 0 := rfl; omega, by omega, by have h9 : rm_X9_thrown.slots = 0 := rfl; omega, by omega, by decide, by decide⟩ rfl rfl (Nat.le_of_ble_eq_true rfl) (by decide) rfl o439 dL_law_2072 h (fun r441 S440 h => ?_) (fun En S9 h => h.elim)
  refine z_sw hT1 (fun t442 => ?_)
  refine z_iload (C _) (pc := 2075) dL_law_2075 1 rfl ?_
  refine z_icmp_eq (C _) (pc := 2077) (tgt := 2082) dL_law_2077 (by decide) h (fun h => ?_) (fun h => ?_)
  · refine z_iload (C _) (pc := 2082) dL_law_2082 1 rfl ?_
    refine z_if_ne (C _) (pc := 2084) (tgt := 2099) dL_law_2084 (by decide) h (fun h => ?_) (fun h => ?_)
    · refine z_goto (C _) (pc := 2099) (tgt := 2102) dL_law_2099 (by decide) ?_
      refine z_iinc (C _) (pc := 2102) (y := w4 + (8 : Int32)) (lv' := [(4, .int (w4 + (8 : Int32))), (6, .int r437), (5, .int r432), (0, va_rf (some b)), (1, va_rf (some x)), (2, va_rf (some m)), (3, va_rf (some o))]) dL_law_2102 6 rfl rfl (by decide) rfl ?_
      refine z_goto (C _) (pc := 2105) (tgt := 23) dL_law_2105 (by decide) ?_
      refine z_sub [3, 4, 5, 6, 0] (lv' := [(0, va_rf (some b)), (1, va_rf (some x)), (2, va_rf (some m)), (3, va_rf (some o)), (4, .int (w4 + (8 : Int32)))]) rfl ?_
      refine z_wide (kc' := 25850 - n * 50) (ks' := 773500 - n * 1500) (by omega) (by omega) ?_
      exact ih S433 S440 f434 (w4 + (8 : Int32)) (by omega) t442 h
    · refine z_aload_n (C _) (pc := 2087) dL_law_2087 5 rfl ?_
      refine z_iconst (C _) (pc := 2088) (x := (0 : Int32)) dL_law_2088 kic_0 ?_
      refine z_lald (C []) (pc := 2089) dL_law_2089 vin01 ?_
      refine z_iload (C _) (pc := 2090) dL_law_2090 0 rfl ?_
      refine z_i2l (C _) (pc := 2092) dL_law_2092 ?_
      refine z_lcmp (C _) (pc := 2093) dL_law_2093 ?_
      refine z_if_eq (C _) (pc := 2094) (tgt := 2099) dL_law_2094 (by decide) h (fun h => ?_) (fun h => ?_)
      · refine z_goto (C _) (pc := 2099) (tgt := 2102) dL_law_2099 (by decide) ?_
        refine z_iinc (C _) (pc := 2102) (y := w4 + (8 : Int32)) (lv' := [(4, .int (w4 + (8 : Int32))), (6, .int r437), (5, .int r432), (0, va_rf (some b)), (1, va_rf (some x)), (2, va_rf (some m)), (3, va_rf (some o))]) dL_law_2102 6 rfl rfl (by decide) rfl ?_
        refine z_goto (C _) (pc := 2105) (tgt := 23) dL_law_2105 (by decide) ?_
        refine z_sub [3, 4, 5, 6, 0] (lv' := [(0, va_rf (some b)), (1, va_rf (some x)), (2, va_rf (some m)), (3, va_rf (some o)), (4, .int (w4 + (8 : Int32)))]) rfl ?_
        refine z_wide (kc' := 25850 - n * 50) (ks' := 773500 - n * 1500) (by omega) (by omega) ?_
        exact ih S433 S440 f434 (w4 + (8 : Int32)) (by omega) t442 h
      · refine z_iconst (C _) (pc := 2097) (x := (0 : Int32)) dL_law_2097 kic_0 ?_
        exact h.elim
  · refine z_iconst (C _) (pc := 2080) (x := (0 : Int32)) dL_law_2080 kic_0 ?_
    exact h.elim
def wp_law_L (x m : Nat) (xs : Nat → Int32) (L : Nat) : Nat → Hp → Hp → (Nat → Int64) → Int32 → Prop
  | 0, _, _, _, _ => False
  | n + 1, S1, S2, f, w4 => if ((Int32.ofNat L) - (8 : Int32)) < w4 then (True) else (vp_in w4 L ∧ (if ((xs w4.toNatClampNeg) &&& (31 : Int32)) = (0 : Int32) then (wp_law_C0 x m xs L (wp_law_L x m xs L n) S1 S2 f w4) else (if ((xs w4.toNatClampNeg) &&& (31 : Int32)) = (1 : Int32) then (wp_law_C1 x m xs L (wp_law_L x m xs L n) S1 S2 f w4) else (if ((xs w4.toNatClampNeg) &&& (31 : Int32)) = (2 : Int32) then (wp_law_C2 x m xs L (wp_law_L x m xs L n) S1 S2 f w4) else (if ((xs w4.toNatClampNeg) &&& (31 : Int32)) = (3 : Int32) then (wp_law_C3 x m xs L (wp_law_L x m xs L n) S1 S2 f w4) else (if ((xs w4.toNatClampNeg) &&& (31 : Int32)) = (4 : Int32) then (wp_law_C4 x m xs L (wp_law_L x m xs L n) S1 S2 f w4) else (if ((xs w4.toNatClampNeg) &&& (31 : Int32)) = (5 : Int32) then (wp_law_C5 x m xs L (wp_law_L x m xs L n) S1 S2 f w4) else (if ((xs w4.toNatClampNeg) &&& (31 : Int32)) = (6 : Int32) then (wp_law_C6 x m xs L (wp_law_L x m xs L n) S1 S2 f w4) else (if ((xs w4.toNatClampNeg) &&& (31 : Int32)) = (7 : Int32) then (wp_law_C7 x m xs L (wp_law_L x m xs L n) S1 S2 f w4) else (if ((xs w4.toNatClampNeg) &&& (31 : Int32)) = (8 : Int32) then (wp_law_C8 x m xs L (wp_law_L x m xs L n) S1 S2 f w4) else (if ((xs w4.toNatClampNeg) &&& (31 : Int32)) = (9 : Int32) then (wp_law_C9 x m xs L (wp_law_L x m xs L n) S1 S2 f w4) else (if ((xs w4.toNatClampNeg) &&& (31 : Int32)) = (10 : Int32) then (wp_law_C10 x m xs L (wp_law_L x m xs L n) S1 S2 f w4) else (if ((xs w4.toNatClampNeg) &&& (31 : Int32)) = (11 : Int32) then (wp_law_C11 x m xs L (wp_law_L x m xs L n) S1 S2 f w4) else (if ((xs w4.toNatClampNeg) &&& (31 : Int32)) = (12 : Int32) then (wp_law_C12 x m xs L (wp_law_L x m xs L n) S1 S2 f w4) else (if ((xs w4.toNatClampNeg) &&& (31 : Int32)) = (13 : Int32) then (wp_law_C13 x m xs L (wp_law_L x m xs L n) S1 S2 f w4) else (if ((xs w4.toNatClampNeg) &&& (31 : Int32)) = (14 : Int32) then (wp_law_C14 x m xs L (wp_law_L x m xs L n) S1 S2 f w4) else (if ((xs w4.toNatClampNeg) &&& (31 : Int32)) = (15 : Int32) then (wp_law_C15 x m xs L (wp_law_L x m xs L n) S1 S2 f w4) else (if ((xs w4.toNatClampNeg) &&& (31 : Int32)) = (16 : Int32) then (wp_law_C16 x m xs L (wp_law_L x m xs L n) S1 S2 f w4) else (if ((xs w4.toNatClampNeg) &&& (31 : Int32)) = (17 : Int32) then (wp_law_C17 x m xs L (wp_law_L x m xs L n) S1 S2 f w4) else (if ((xs w4.toNatClampNeg) &&& (31 : Int32)) = (18 : Int32) then (wp_law_C18 x m xs L (wp_law_L x m xs L n) S1 S2 f w4) else (if ((xs w4.toNatClampNeg) &&& (31 : Int32)) = (19 : Int32) then (wp_law_C19 x m xs L (wp_law_L x m xs L n) S1 S2 f w4) else (if ((xs w4.toNatClampNeg) &&& (31 : Int32)) = (20 : Int32) then (wp_law_C20 x m xs L (wp_law_L x m xs L n) S1 S2 f w4) else (if ((xs w4.toNatClampNeg) &&& (31 : Int32)) = (21 : Int32) then (wp_law_C21 x m xs L (wp_law_L x m xs L n) S1 S2 f w4) else (if ((xs w4.toNatClampNeg) &&& (31 : Int32)) = (22 : Int32) then (wp_law_C22 x m xs L (wp_law_L x m xs L n) S1 S2 f w4) else (if ((xs w4.toNatClampNeg) &&& (31 : Int32)) = (23 : Int32) then (wp_law_C23 x m xs L (wp_law_L x m xs L n) S1 S2 f w4) else (if ((xs w4.toNatClampNeg) &&& (31 : Int32)) = (24 : Int32) then (wp_law_C24 x m xs L (wp_law_L x m xs L n) S1 S2 f w4) else (if ((xs w4.toNatClampNeg) &&& (31 : Int32)) = (25 : Int32) then (wp_law_C25 x m xs L (wp_law_L x m xs L n) S1 S2 f w4) else (if ((xs w4.toNatClampNeg) &&& (31 : Int32)) = (26 : Int32) then (wp_law_C26 x m xs L (wp_law_L x m xs L n) S1 S2 f w4) else (if ((xs w4.toNatClampNeg) &&& (31 : Int32)) = (27 : Int32) then (wp_law_C27 x m xs L (wp_law_L x m xs L n) S1 S2 f w4) else (wp_law_L x m xs L n S1 S2 f (w4 + (8 : Int32))))))))))))))))))))))))))))))))
set_option maxHeartbeats 4000000 in
set_option maxRecDepth 100000 in
theorem l_law (l : Launch) (hfl : l.stackTraces = false) (v : Ev) (b x m o L : Nat) (xs : Nat → Int32) {nm9 : String} {x9 : P9} {A : Nat → Prop} {E : State → Prop} (C : ∀ X, Cx l v RL cL_law 7 (some .boolean) nm9 (x9, X, A, E)) (hX : LX b L xs A x9) (hE : LE b A E x9) : ∀ (n : Nat) (S1 S2 : Hp) (f : Nat → Int64) (w4 : Int32), n ≤ 513 → g_T S2 = v.2.2.1 → wp_law_L x m xs L n S1 S2 f w4 → ZZ l v 7 room_1 (x9, wl v.2.1 o f (g_w v.2.1 S2), A, E) (25850 - n * 50) (773500 - n * 1500) S1 23 [(0, va_rf (some b)), (1, va_rf (some x)), (2, va_rf (some m)), (3, va_rf (some o)), (4, .int w4)] [] := by
  intro n
  induction n with
  | zero =>
    intro S1 S2 f w4 hn hT2 h
    exact h.elim
  | succ n ih =>
    intro S1 S2 f w4 hn hT2 h
    unfold wp_law_L at h
    obtain ⟨B, hB⟩ : ∃ B, B = 25850 - (n + 1) * 50 := ⟨_, rfl⟩
    obtain ⟨B2, hB2⟩ : ∃ B2, B2 = 773500 - (n + 1) * 1500 := ⟨_, rfl⟩
    have hR : 600000 ≤ room_1.cells := Nat.le_of_ble_eq_true rfl
    have hR2 : 7000000 ≤ room_1.slots := Nat.le_of_ble_eq_true rfl
    rw [← hB, ← hB2]
    refine z_wide (kc' := B + 0) (ks' := B2 + 0) (Nat.le_refl _) (Nat.le_refl _) ?_
    refine z_iload (C _) (pc := 23) dL_law_23 4 rfl ?_
    refine z_aload_n (C _) (pc := 25) dL_law_25 0 rfl ?_
    refine z_slen (C _) hX (pc := 26) dL_law_26 ?_
    refine z_bipush (C _) (pc := 27) (x := (8 : Int32)) dL_law_27 kbp_8 ?_
    refine z_isub (C _) (pc := 29) dL_law_29 ?_
    refine z_icmp_gt (C _) (pc := 30) (tgt := 2108) dL_law_30 (by decide) h (fun h => ?_) (fun h => ?_)
    · refine z_iconst (C _) (pc := 2108) (x := (1 : Int32)) dL_law_2108 kic_1 ?_
      exact z_lawret (C _) hE (pc := 2109) dL_law_2109 (by omega) (by omega)
    · refine z_aload_n (C _) (pc := 33) dL_law_33 0 rfl ?_
      refine z_iload (C _) (pc := 34) dL_law_34 4 rfl ?_
      obtain ⟨v1, h⟩ := h
      refine z_sld (C _) hX (pc := 36) dL_law_36 v1 ?_
      refine z_bipush (C _) (pc := 37) (x := (31 : Int32)) dL_law_37 kbp_31 ?_
      refine z_iand (C _) (pc := 39) dL_law_39 ?_
      refine z_swc (C _) (pc := 40) (x := (xs w4.toNatClampNeg) &&& (31 : Int32)) (c := (0 : Int32)) dL_law_40 h (by decide) (by decide) rfl (tgt := 168) (by decide) (fun h => ?_) (fun n16 h => ?_)
      · exact k_law_C0 l hfl v b x m o L xs C hX hE hB hB2 hn ih S1 S2 f w4 hT2 h
      refine z_swc (C _) (pc := 40) (x := (xs w4.toNatClampNeg) &&& (31 : Int32)) (c := (1 : Int32)) dL_law_40 h (by decide) (by decide) rfl (tgt := 248) (by decide) (fun h => ?_) (fun n29 h => ?_)
      · exact k_law_C1 l hfl v b x m o L xs C hX hE hB hB2 hn ih S1 S2 f w4 hT2 h
      refine z_swc (C _) (pc := 40) (x := (xs w4.toNatClampNeg) &&& (31 : Int32)) (c := (2 : Int32)) dL_law_40 h (by decide) (by decide) rfl (tgt := 304) (by decide) (fun h => ?_) (fun n43 h => ?_)
      · exact k_law_C2 l hfl v b x m o L xs C hX hE hB hB2 hn ih S1 S2 f w4 hT2 h
      refine z_swc (C _) (pc := 40) (x := (xs w4.toNatClampNeg) &&& (31 : Int32)) (c := (3 : Int32)) dL_law_40 h (by decide) (by decide) rfl (tgt := 372) (by decide) (fun h => ?_) (fun n56 h => ?_)
      · exact k_law_C3 l hfl v b x m o L xs C hX hE hB hB2 hn ih S1 S2 f w4 hT2 h
      refine z_swc (C _) (pc := 40) (x := (xs w4.toNatClampNeg) &&& (31 : Int32)) (c := (4 : Int32)) dL_law_40 h (by decide) (by decide) rfl (tgt := 428) (by decide) (fun h => ?_) (fun n70 h => ?_)
      · exact k_law_C4 l hfl v b x m o L xs C hX hE hB hB2 hn ih S1 S2 f w4 hT2 h
      refine z_swc (C _) (pc := 40) (x := (xs w4.toNatClampNeg) &&& (31 : Int32)) (c := (5 : Int32)) dL_law_40 h (by decide) (by decide) rfl (tgt := 496) (by decide) (fun h => ?_) (fun n84 h => ?_)
      · exact k_law_C5 l hfl v b x m o L xs C hX hE hB hB2 hn ih S1 S2 f w4 hT2 h
      refine z_swc (C _) (pc := 40) (x := (xs w4.toNatClampNeg) &&& (31 : Int32)) (c := (6 : Int32)) dL_law_40 h (by decide) (by decide) rfl (tgt := 564) (by decide) (fun h => ?_) (fun n97 h => ?_)
      · exact k_law_C6 l hfl v b x m o L xs C hX hE hB hB2 hn ih S1 S2 f w4 hT2 h
      refine z_swc (C _) (pc := 40) (x := (xs w4.toNatClampNeg) &&& (31 : Int32)) (c := (7 : Int32)) dL_law_40 h (by decide) (by decide) rfl (tgt := 620) (by decide) (fun h => ?_) (fun n105 h => ?_)
      · exact k_law_C7 l hfl v b x m o L xs C hX hE hB hB2 hn ih S1 S2 f w4 hT2 h
      refine z_swc (C _) (pc := 40) (x := (xs w4.toNatClampNeg) &&& (31 : Int32)) (c := (8 : Int32)) dL_law_40 h (by decide) (by decide) rfl (tgt := 633) (by decide) (fun h => ?_) (fun n117 h => ?_)
      · exact k_law_C8 l hfl v b x m o L xs C hX hE hB hB2 hn ih S1 S2 f w4 hT2 h
      refine z_swc (C _) (pc := 40) (x := (xs w4.toNatClampNeg) &&& (31 : Int32)) (c := (9 : Int32)) dL_law_40 h (by decide) (by decide) rfl (tgt := 677) (by decide) (fun h => ?_) (fun n132 h => ?_)
      · exact k_law_C9 l hfl v b x m o L xs C hX hE hB hB2 hn ih S1 S2 f w4 hT2 h
      refine z_swc (C _) (pc := 40) (x := (xs w4.toNatClampNeg) &&& (31 : Int32)) (c := (10 : Int32)) dL_law_40 h (by decide) (by decide) rfl (tgt := 749) (by decide) (fun h => ?_) (fun n147 h => ?_)
      · exact k_law_C10 l hfl v b x m o L xs C hX hE hB hB2 hn ih S1 S2 f w4 hT2 h
      refine z_swc (C _) (pc := 40) (x := (xs w4.toNatClampNeg) &&& (31 : Int32)) (c := (11 : Int32)) dL_law_40 h (by decide) (by decide) rfl (tgt := 829) (by decide) (fun h => ?_) (fun n161 h => ?_)
      · exact k_law_C11 l hfl v b x m o L xs C hX hE hB hB2 hn ih S1 S2 f w4 hT2 h
      refine z_swc (C _) (pc := 40) (x := (xs w4.toNatClampNeg) &&& (31 : Int32)) (c := (12 : Int32)) dL_law_40 h (by decide) (by decide) rfl (tgt := 897) (by decide) (fun h => ?_) (fun n180 h => ?_)
      · exact k_law_C12 l hfl v b x m o L xs C hX hE hB hB2 hn ih S1 S2 f w4 hT2 h
      refine z_swc (C _) (pc := 40) (x := (xs w4.toNatClampNeg) &&& (31 : Int32)) (c := (13 : Int32)) dL_law_40 h (by decide) (by decide) rfl (tgt := 1029) (by decide) (fun h => ?_) (fun n194 h => ?_)
      · exact k_law_C13 l hfl v b x m o L xs C hX hE hB hB2 hn ih S1 S2 f w4 hT2 h
      refine z_swc (C _) (pc := 40) (x := (xs w4.toNatClampNeg) &&& (31 : Int32)) (c := (14 : Int32)) dL_law_40 h (by decide) (by decide) rfl (tgt := 1097) (by decide) (fun h => ?_) (fun n209 h => ?_)
      · exact k_law_C14 l hfl v b x m o L xs C hX hE hB hB2 hn ih S1 S2 f w4 hT2 h
      refine z_swc (C _) (pc := 40) (x := (xs w4.toNatClampNeg) &&& (31 : Int32)) (c := (15 : Int32)) dL_law_40 h (by decide) (by decide) rfl (tgt := 1177) (by decide) (fun h => ?_) (fun n227 h => ?_)
      · exact k_law_C15 l hfl v b x m o L xs C hX hE hB hB2 hn ih S1 S2 f w4 hT2 h
      refine z_swc (C _) (pc := 40) (x := (xs w4.toNatClampNeg) &&& (31 : Int32)) (c := (16 : Int32)) dL_law_40 h (by decide) (by decide) rfl (tgt := 1295) (by decide) (fun h => ?_) (fun n269 h => ?_)
      · exact k_law_C16 l hfl v b x m o L xs C hX hE hB hB2 hn ih S1 S2 f w4 hT2 h
      refine z_swc (C _) (pc := 40) (x := (xs w4.toNatClampNeg) &&& (31 : Int32)) (c := (17 : Int32)) dL_law_40 h (by decide) (by decide) rfl (tgt := 1391) (by decide) (fun h => ?_) (fun n282 h => ?_)
      · exact k_law_C17 l hfl v b x m o L xs C hX hE hB hB2 hn ih S1 S2 f w4 hT2 h
      refine z_swc (C _) (pc := 40) (x := (xs w4.toNatClampNeg) &&& (31 : Int32)) (c := (18 : Int32)) dL_law_40 h (by decide) (by decide) rfl (tgt := 1447) (by decide) (fun h => ?_) (fun n297 h => ?_)
      · exact k_law_C18 l hfl v b x m o L xs C hX hE hB hB2 hn ih S1 S2 f w4 hT2 h
      refine z_swc (C _) (pc := 40) (x := (xs w4.toNatClampNeg) &&& (31 : Int32)) (c := (19 : Int32)) dL_law_40 h (by decide) (by decide) rfl (tgt := 1534) (by decide) (fun h => ?_) (fun n311 h => ?_)
      · exact k_law_C19 l hfl v b x m o L xs C hX hE hB hB2 hn ih S1 S2 f w4 hT2 h
      refine z_swc (C _) (pc := 40) (x := (xs w4.toNatClampNeg) &&& (31 : Int32)) (c := (20 : Int32)) dL_law_40 h (by decide) (by decide) rfl (tgt := 1602) (by decide) (fun h => ?_) (fun n325 h => ?_)
      · exact k_law_C20 l hfl v b x m o L xs C hX hE hB hB2 hn ih S1 S2 f w4 hT2 h
      refine z_swc (C _) (pc := 40) (x := (xs w4.toNatClampNeg) &&& (31 : Int32)) (c := (21 : Int32)) dL_law_40 h (by decide) (by decide) rfl (tgt := 1670) (by decide) (fun h => ?_) (fun n338 h => ?_)
      · exact k_law_C21 l hfl v b x m o L xs C hX hE hB hB2 hn ih S1 S2 f w4 hT2 h
      refine z_swc (C _) (pc := 40) (x := (xs w4.toNatClampNeg) &&& (31 : Int32)) (c := (22 : Int32)) dL_law_40 h (by decide) (by decide) rfl (tgt := 1726) (by decide) (fun h => ?_) (fun n346 h => ?_)
      · exact k_law_C22 l hfl v b x m o L xs C hX hE hB hB2 hn ih S1 S2 f w4 hT2 h
      refine z_swc (C _) (pc := 40) (x := (xs w4.toNatClampNeg) &&& (31 : Int32)) (c := (23 : Int32)) dL_law_40 h (by decide) (by decide) rfl (tgt := 1739) (by decide) (fun h => ?_) (fun n360 h => ?_)
      · exact k_law_C23 l hfl v b x m o L xs C hX hE hB hB2 hn ih S1 S2 f w4 hT2 h
      refine z_swc (C _) (pc := 40) (x := (xs w4.toNatClampNeg) &&& (31 : Int32)) (c := (24 : Int32)) dL_law_40 h (by decide) (by decide) rfl (tgt := 1807) (by decide) (fun h => ?_) (fun n401 h => ?_)
      · exact k_law_C24 l hfl v b x m o L xs C hX hE hB hB2 hn ih S1 S2 f w4 hT2 h
      refine z_swc (C _) (pc := 40) (x := (xs w4.toNatClampNeg) &&& (31 : Int32)) (c := (25 : Int32)) dL_law_40 h (by decide) (by decide) rfl (tgt := 1891) (by decide) (fun h => ?_) (fun n415 h => ?_)
      · exact k_law_C25 l hfl v b x m o L xs C hX hE hB hB2 hn ih S1 S2 f w4 hT2 h
      refine z_swc (C _) (pc := 40) (x := (xs w4.toNatClampNeg) &&& (31 : Int32)) (c := (26 : Int32)) dL_law_40 h (by decide) (by decide) rfl (tgt := 1959) (by decide) (fun h => ?_) (fun n429 h => ?_)
      · exact k_law_C26 l hfl v b x m o L xs C hX hE hB hB2 hn ih S1 S2 f w4 hT2 h
      refine z_swc (C _) (pc := 40) (x := (xs w4.toNatClampNeg) &&& (31 : Int32)) (c := (27 : Int32)) dL_law_40 h (by decide) (by decide) rfl (tgt := 2034) (by decide) (fun h => ?_) (fun n443 h => ?_)
      · exact k_law_C27 l hfl v b x m o L xs C hX hE hB hB2 hn ih S1 S2 f w4 hT2 h
      refine z_tabOut (C _) (pc := 40) (tgt := 2102) dL_law_40 (by have := lv_neT n16 (a := 0) rfl; have := lv_neT n29 (a := 1) rfl; have := lv_neT n43 (a := 2) rfl; have := lv_neT n56 (a := 3) rfl; have := lv_neT n70 (a := 4) rfl; have := lv_neT n84 (a := 5) rfl; have := lv_neT n97 (a := 6) rfl; have := lv_neT n105 (a := 7) rfl; have := lv_neT n117 (a := 8) rfl; have := lv_neT n132 (a := 9) rfl; have := lv_neT n147 (a := 10) rfl; have := lv_neT n161 (a := 11) rfl; have := lv_neT n180 (a := 12) rfl; have := lv_neT n194 (a := 13) rfl; have := lv_neT n209 (a := 14) rfl; have := lv_neT n227 (a := 15) rfl; have := lv_neT n269 (a := 16) rfl; have := lv_neT n282 (a := 17) rfl; have := lv_neT n297 (a := 18) rfl; have := lv_neT n311 (a := 19) rfl; have := lv_neT n325 (a := 20) rfl; have := lv_neT n338 (a := 21) rfl; have := lv_neT n346 (a := 22) rfl; have := lv_neT n360 (a := 23) rfl; have := lv_neT n401 (a := 24) rfl; have := lv_neT n415 (a := 25) rfl; have := lv_neT n429 (a := 26) rfl; have := lv_neT n443 (a := 27) rfl; omega) (by decide) ?_
      refine z_iinc (C _) (pc := 2102) (y := w4 + (8 : Int32)) (lv' := [(4, .int (w4 + (8 : Int32))), (0, va_rf (some b)), (1, va_rf (some x)), (2, va_rf (some m)), (3, va_rf (some o))]) dL_law_2102 4 rfl rfl (by decide) rfl ?_
      refine z_goto (C _) (pc := 2105) (tgt := 23) dL_law_2105 (by decide) ?_
      refine z_sub [1, 2, 3, 4, 0] (lv' := [(0, va_rf (some b)), (1, va_rf (some x)), (2, va_rf (some m)), (3, va_rf (some o)), (4, .int (w4 + (8 : Int32)))]) rfl ?_
      refine z_wide (kc' := 25850 - n * 50) (ks' := 773500 - n * 1500) (by omega) (by omega) ?_
      exact ih S1 S2 f (w4 + (8 : Int32)) (by omega) hT2 h
