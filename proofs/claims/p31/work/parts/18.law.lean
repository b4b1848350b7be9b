/-- the law's end -/
def LE (b : Nat) (A : Nat → Prop) (E : State → Prop) (x9 : P9) : Prop := match x9 with
  | (_, _, s, _, args, below, _, _) => args = #[Value.ref b] ∧ E = lw_Z below #[Value.ref b] s ∧ ∀ q, A q → s.heap.size ≤ q
theorem z_lawret {l : Launch} {v : Ev} {nm9 : String} {x9 : P9} {X : va_W} {A : Nat → Prop} {E : State → Prop} {kc ks b : Nat} {S : Hp} {pc : Nat} {lv : List (Nat × Value)} (C : Cx l v RL cL_law 9 (some .boolean) nm9 (x9, X, A, E)) (hE : LE b A E x9) (hd : decode cL_law pc = .ok (.ireturn, 1)) (hk : kc ≤ room_1.cells) (hk2 : ks ≤ room_1.slots) : ZZ l v 9 room_1 (x9, X, A, E) kc ks S pc lv [.int (1 : Int32)] := by
  obtain ⟨p, e, s, m, args, below, meth, c⟩ := x9
  obtain ⟨hx, hb, hr, hml, hown, hts, hK, hlocks, hA, hW, -⟩ := C
  intro H locs ls cells slots hP hD hS hc hs hl hT
  obtain ⟨rfl, rfl, hAq⟩ := hE
  refine va_forget (fun q hq => hAq _ (hS.2.2 q hq)) ?_
  refine W.widen (Nat.le_trans hc hk) (Nat.le_trans hs hk2) ?_
  exact lw_ret hx hb hr hlocks hd
def wp_L_law_B342 (S1 S2 S : Hp) (w1 : Nat) (w2 : Nat) (w3 : Nat) (w4 : Int32) : Prop :=
  if w4 = 0 then (False) else (wp_L_all S1 S2 S w1 w3 (fun r107 S104 S105 S106 => wp_L_all S105 S104 S106 w2 w3 (fun r113 S110 S111 S112 => if (lg_cmp r107 r113) = 0 then (wp_L_sound S111 S110 S112 w1 w3 (fun r119 S116 S117 S118 => if r119 = 0 then (False) else (True))) else (False))))
def wp_L_law_L125 (f1 f2 f3 : Nat) : Nat → Hp → Hp → Hp → Int32 → Int32 → Prop
  | 0, _, _, _, _, _ => False
  | n + 1, S1, S2, S, w4, w5 => if (90 : Int32) ≤ w5 then (wp_L_law_B342 S1 S2 S f1 f2 f3 w4) else (if w4 = 0 then (wp_L_law_B342 S1 S2 S f1 f2 f3 w4) else ((0 : Int32) ≤ ((4 : Int32) + ((2 : Int32) * w5)) ∧ (∀ r122 : Int32, ((0 : Int32) ≤ ((5 : Int32) + ((2 : Int32) * w5)) ∧ (∀ r124 : Int32, (wp_L_some S r122 (24 : Int32) (fun r127 S126 => if r127 < (9 : Int32) then (wp_L_children S1 S2 S126 f1 f2 f3 (r122 >>> ((5 : Int32) &&& 31)) r124 (fun r131 S128 S129 S130 => if r131 = 0 then (wp_L_law_L125 f1 f2 f3 n S128 S129 S130 (0 : Int32) (w5 + (1 : Int32))) else (if 0 < (w5 - w5 / (15 : Int32) * (15 : Int32)) then (if 0 < (w5 - w5 / (45 : Int32) * (45 : Int32)) then (wp_L_law_L125 f1 f2 f3 n S128 S129 S130 (1 : Int32) (w5 + (1 : Int32))) else (wp_L_refused S128 S129 S130 f1 f3 (fun r137 S134 S135 S136 => lt (if r137 = 0 then (0 : Int32) else (1 : Int32)) (fun y140 => wp_L_law_L125 f1 f2 f3 n S134 S135 S136 y140 (w5 + (1 : Int32)))))) else (wp_L_all S128 S129 S130 f1 f3 (fun r144 S141 S142 S143 => wp_L_all S142 S141 S143 f2 f3 (fun r150 S147 S148 S149 => if (lg_cmp r144 r150) = 0 then (wp_L_sound S148 S147 S149 f1 f3 (fun r156 S153 S154 S155 => if r156 = 0 then (wp_L_law_L125 f1 f2 f3 n S153 S154 S155 (0 : Int32) (w5 + (1 : Int32))) else (if 0 < (w5 - w5 / (45 : Int32) * (45 : Int32)) then (wp_L_law_L125 f1 f2 f3 n S153 S154 S155 (1 : Int32) (w5 + (1 : Int32))) else (wp_L_refused S153 S154 S155 f1 f3 (fun r162 S159 S160 S161 => lt (if r162 = 0 then (0 : Int32) else (1 : Int32)) (fun y165 => wp_L_law_L125 f1 f2 f3 n S159 S160 S161 y165 (w5 + (1 : Int32)))))))) else (wp_L_law_L125 f1 f2 f3 n S148 S147 S149 (0 : Int32) (w5 + (1 : Int32))))))))) else (if (4 : Int32) ≤ w5 then (if (14 : Int32) ≤ r127 then (if (17 : Int32) ≤ r127 then (if (21 : Int32) ≤ r127 then (wp_L_days S1 S2 S126 f1 f2 f3 (r122 >>> ((5 : Int32) &&& 31)) r124 (fun r169 S166 S167 S168 => if r169 = 0 then (wp_L_law_L125 f1 f2 f3 n S166 S167 S168 (0 : Int32) (w5 + (1 : Int32))) else (if 0 < (w5 - w5 / (15 : Int32) * (15 : Int32)) then (if 0 < (w5 - w5 / (45 : Int32) * (45 : Int32)) then (wp_L_law_L125 f1 f2 f3 n S166 S167 S168 (1 : Int32) (w5 + (1 : Int32))) else (wp_L_refused S166 S167 S168 f1 f3 (fun r175 S172 S173 S174 => lt (if r175 = 0 then (0 : Int32) else (1 : Int32)) (fun y178 => wp_L_law_L125 f1 f2 f3 n S172 S173 S174 y178 (w5 + (1 : Int32)))))) else (wp_L_all S166 S167 S168 f1 f3 (fun r182 S179 S180 S181 => wp_L_all S180 S179 S181 f2 f3 (fun r188 S185 S186 S187 => if (lg_cmp r182 r188) = 0 then (wp_L_sound S186 S185 S187 f1 f3 (fun r194 S191 S192 S193 => if r194 = 0 then (wp_L_law_L125 f1 f2 f3 n S191 S192 S193 (0 : Int32) (w5 + (1 : Int32))) else (if 0 < (w5 - w5 / (45 : Int32) * (45 : Int32)) then (wp_L_law_L125 f1 f2 f3 n S191 S192 S193 (1 : Int32) (w5 + (1 : Int32))) else (wp_L_refused S191 S192 S193 f1 f3 (fun r200 S197 S198 S199 => lt (if r200 = 0 then (0 : Int32) else (1 : Int32)) (fun y203 => wp_L_law_L125 f1 f2 f3 n S197 S198 S199 y203 (w5 + (1 : Int32)))))))) else (wp_L_law_L125 f1 f2 f3 n S186 S185 S187 (0 : Int32) (w5 + (1 : Int32))))))))) else (wp_L_events S1 S2 S126 f1 f2 f3 (r122 >>> ((5 : Int32) &&& 31)) r124 (fun r207 S204 S205 S206 => if r207 = 0 then (wp_L_law_L125 f1 f2 f3 n S204 S205 S206 (0 : Int32) (w5 + (1 : Int32))) else (if 0 < (w5 - w5 / (15 : Int32) * (15 : Int32)) then (if 0 < (w5 - w5 / (45 : Int32) * (45 : Int32)) then (wp_L_law_L125 f1 f2 f3 n S204 S205 S206 (1 : Int32) (w5 + (1 : Int32))) else (wp_L_refused S204 S205 S206 f1 f3 (fun r213 S210 S211 S212 => lt (if r213 = 0 then (0 : Int32) else (1 : Int32)) (fun y216 => wp_L_law_L125 f1 f2 f3 n S210 S211 S212 y216 (w5 + (1 : Int32)))))) else (wp_L_all S204 S205 S206 f1 f3 (fun r220 S217 S218 S219 => wp_L_all S218 S217 S219 f2 f3 (fun r226 S223 S224 S225 => if (lg_cmp r220 r226) = 0 then (wp_L_sound S224 S223 S225 f1 f3 (fun r232 S229 S230 S231 => if r232 = 0 then (wp_L_law_L125 f1 f2 f3 n S229 S230 S231 (0 : Int32) (w5 + (1 : Int32))) else (if 0 < (w5 - w5 / (45 : Int32) * (45 : Int32)) then (wp_L_law_L125 f1 f2 f3 n S229 S230 S231 (1 : Int32) (w5 + (1 : Int32))) else (wp_L_refused S229 S230 S231 f1 f3 (fun r238 S235 S236 S237 => lt (if r238 = 0 then (0 : Int32) else (1 : Int32)) (fun y241 => wp_L_law_L125 f1 f2 f3 n S235 S236 S237 y241 (w5 + (1 : Int32)))))))) else (wp_L_law_L125 f1 f2 f3 n S224 S223 S225 (0 : Int32) (w5 + (1 : Int32)))))))))) else (wp_L_leaders S1 S2 S126 f1 f2 f3 (r122 >>> ((5 : Int32) &&& 31)) r124 (fun r245 S242 S243 S244 => if r245 = 0 then (wp_L_law_L125 f1 f2 f3 n S242 S243 S244 (0 : Int32) (w5 + (1 : Int32))) else (if 0 < (w5 - w5 / (15 : Int32) * (15 : Int32)) then (if 0 < (w5 - w5 / (45 : Int32) * (45 : Int32)) then (wp_L_law_L125 f1 f2 f3 n S242 S243 S244 (1 : Int32) (w5 + (1 : Int32))) else (wp_L_refused S242 S243 S244 f1 f3 (fun r251 S248 S249 S250 => lt (if r251 = 0 then (0 : Int32) else (1 : Int32)) (fun y254 => wp_L_law_L125 f1 f2 f3 n S248 S249 S250 y254 (w5 + (1 : Int32)))))) else (wp_L_all S242 S243 S244 f1 f3 (fun r258 S255 S256 S257 => wp_L_all S256 S255 S257 f2 f3 (fun r264 S261 S262 S263 => if (lg_cmp r258 r264) = 0 then (wp_L_sound S262 S261 S263 f1 f3 (fun r270 S267 S268 S269 => if r270 = 0 then (wp_L_law_L125 f1 f2 f3 n S267 S268 S269 (0 : Int32) (w5 + (1 : Int32))) else (if 0 < (w5 - w5 / (45 : Int32) * (45 : Int32)) then (wp_L_law_L125 f1 f2 f3 n S267 S268 S269 (1 : Int32) (w5 + (1 : Int32))) else (wp_L_refused S267 S268 S269 f1 f3 (fun r276 S273 S274 S275 => lt (if r276 = 0 then (0 : Int32) else (1 : Int32)) (fun y279 => wp_L_law_L125 f1 f2 f3 n S273 S274 S275 y279 (w5 + (1 : Int32)))))))) else (wp_L_law_L125 f1 f2 f3 n S262 S261 S263 (0 : Int32) (w5 + (1 : Int32)))))))))) else (wp_L_badges S1 S2 S126 f1 f2 f3 (r122 >>> ((5 : Int32) &&& 31)) r124 (fun r283 S280 S281 S282 => if r283 = 0 then (wp_L_law_L125 f1 f2 f3 n S280 S281 S282 (0 : Int32) (w5 + (1 : Int32))) else (if 0 < (w5 - w5 / (15 : Int32) * (15 : Int32)) then (if 0 < (w5 - w5 / (45 : Int32) * (45 : Int32)) then (wp_L_law_L125 f1 f2 f3 n S280 S281 S282 (1 : Int32) (w5 + (1 : Int32))) else (wp_L_refused S280 S281 S282 f1 f3 (fun r289 S286 S287 S288 => lt (if r289 = 0 then (0 : Int32) else (1 : Int32)) (fun y292 => wp_L_law_L125 f1 f2 f3 n S286 S287 S288 y292 (w5 + (1 : Int32)))))) else (wp_L_all S280 S281 S282 f1 f3 (fun r296 S293 S294 S295 => wp_L_all S294 S293 S295 f2 f3 (fun r302 S299 S300 S301 => if (lg_cmp r296 r302) = 0 then (wp_L_sound S300 S299 S301 f1 f3 (fun r308 S305 S306 S307 => if r308 = 0 then (wp_L_law_L125 f1 f2 f3 n S305 S306 S307 (0 : Int32) (w5 + (1 : Int32))) else (if 0 < (w5 - w5 / (45 : Int32) * (45 : Int32)) then (wp_L_law_L125 f1 f2 f3 n S305 S306 S307 (1 : Int32) (w5 + (1 : Int32))) else (wp_L_refused S305 S306 S307 f1 f3 (fun r314 S311 S312 S313 => lt (if r314 = 0 then (0 : Int32) else (1 : Int32)) (fun y317 => wp_L_law_L125 f1 f2 f3 n S311 S312 S313 y317 (w5 + (1 : Int32)))))))) else (wp_L_law_L125 f1 f2 f3 n S300 S299 S301 (0 : Int32) (w5 + (1 : Int32)))))))))) else (wp_L_children S1 S2 S126 f1 f2 f3 (r122 >>> ((5 : Int32) &&& 31)) r124 (fun r321 S318 S319 S320 => if r321 = 0 then (wp_L_law_L125 f1 f2 f3 n S318 S319 S320 (0 : Int32) (w5 + (1 : Int32))) else (if 0 < (w5 - w5 / (15 : Int32) * (15 : Int32)) then (if 0 < (w5 - w5 / (45 : Int32) * (45 : Int32)) then (wp_L_law_L125 f1 f2 f3 n S318 S319 S320 (1 : Int32) (w5 + (1 : Int32))) else (wp_L_refused S318 S319 S320 f1 f3 (fun r327 S324 S325 S326 => lt (if r327 = 0 then (0 : Int32) else (1 : Int32)) (fun y330 => wp_L_law_L125 f1 f2 f3 n S324 S325 S326 y330 (w5 + (1 : Int32)))))) else (wp_L_all S318 S319 S320 f1 f3 (fun r334 S331 S332 S333 => wp_L_all S332 S331 S333 f2 f3 (fun r340 S337 S338 S339 => if (lg_cmp r334 r340) = 0 then (wp_L_sound S338 S337 S339 f1 f3 (fun r346 S343 S344 S345 => if r346 = 0 then (wp_L_law_L125 f1 f2 f3 n S343 S344 S345 (0 : Int32) (w5 + (1 : Int32))) else (if 0 < (w5 - w5 / (45 : Int32) * (45 : Int32)) then (wp_L_law_L125 f1 f2 f3 n S343 S344 S345 (1 : Int32) (w5 + (1 : Int32))) else (wp_L_refused S343 S344 S345 f1 f3 (fun r352 S349 S350 S351 => lt (if r352 = 0 then (0 : Int32) else (1 : Int32)) (fun y355 => wp_L_law_L125 f1 f2 f3 n S349 S350 S351 y355 (w5 + (1 : Int32)))))))) else (wp_L_law_L125 f1 f2 f3 n S338 S337 S339 (0 : Int32) (w5 + (1 : Int32)))))))))))))))))
def wp_L_law_B98 (S1 S2 S : Hp) (w1 : Nat) (w2 : Nat) (w3 : Nat) (w4 : Int32) : Prop :=
  okA S 11 w3 ∧ (vp_in (1 : Int32) (g_N S w3) ∧ (lt (s_R S w3 (1 : Int32).toNatClampNeg (4 : Int32)) (fun S103 => if w4 = 0 then (∃ n356, n356 ≤ 91 ∧ wp_L_law_L125 w1 w2 w3 n356 S1 S2 S103 (0 : Int32) (0 : Int32)) else (wp_L_refused S1 S2 S103 w1 w3 (fun r360 S357 S358 S359 => lt (if r360 = 0 then (0 : Int32) else (1 : Int32)) (fun y363 => ∃ n364, n364 ≤ 91 ∧ wp_L_law_L125 w1 w2 w3 n364 S357 S358 S359 y363 (0 : Int32)))))))
def wp_L_law_L27 (f1 f2 f3 : Nat) : Nat → Hp → Hp → Hp → Int32 → Int32 → Prop
  | 0, _, _, _, _, _ => False
  | n + 1, S1, S2, S, w4, w5 => if (4 : Int32) ≤ w5 then (wp_L_law_B98 S1 S2 S f1 f2 f3 w4) else (if w4 = 0 then (wp_L_law_B98 S1 S2 S f1 f2 f3 w4) else ((0 : Int32) ≤ w5 ∧ (∀ r365 : Int32, (wp_L_some S r365 (6 : Int32) (fun r368 S367 => (0 : Int32) ≤ w5 ∧ (∀ r369 : Int32, (wp_L_some S367 (r369 >>> ((3 : Int32) &&& 31)) (6 : Int32) (fun r372 S371 => wp_L_both S1 S2 S371 f1 f2 (0 : Int32) ((5 : Int32) + r368) ((11 : Int32) + r372) ((1 : Int32) + (w5 - w5 / (3 : Int32) * (3 : Int32))) (0 : Int32) (fun r376 S373 S374 S375 => lt (if r376 = w5 then (1 : Int32) else (0 : Int32)) (fun y379 => wp_L_law_L27 f1 f2 f3 n S373 S374 S375 y379 (w5 + (1 : Int32))))))))))))
def wp_L_law (S1 S2 S : Hp) (x m dd : Nat) : Prop :=
  ∃ n380, n380 ≤ 5 ∧ wp_L_law_L27 x m dd n380 S1 S2 S (1 : Int32) (0 : Int32)
set_option maxHeartbeats 4000000 in
set_option maxRecDepth 100000 in
theorem k_L_law_B342 (l : Launch) (hfl : l.stackTraces = false) (v : Ev) {b L : Nat} {xs : Nat → Int32} {nm9 : String} {x9 : P9} {A : Nat → Prop} {E : State → Prop} (C : ∀ X, Cx l v RL cL_law 9 (some .boolean) nm9 (x9, X, A, E)) (hX : LX b L xs A x9) (hE : LE b A E x9) (hL : L ≤ 260) (S1 S2 S : Hp) (t1 : g_T S1 = v.2.2.1) (t2 : g_T S2 = v.2.2.1) (w1 : Nat) (w2 : Nat) (w3 : Nat) (w4 : Int32) (h : wp_L_law_B342 S1 S2 S w1 w2 w3 w4) : ZZ l v 9 room_1 (x9, Y3 v.2.1 [] S1 S2, A, E) 174900 5156000 S 342 [(1, va_rf (some w1)), (2, va_rf (some w2)), (3, va_rf (some w3)), (4, .int w4)] [] := by
  have hR : 600000 ≤ room_1.cells := Nat.le_of_ble_eq_true rfl
  have hR2 : 7000000 ≤ room_1.slots := Nat.le_of_ble_eq_true rfl
  unfold wp_L_law_B342 at h
  refine z_iload (C _) (pc := 342) dL_law_342 3 rfl ?_
  refine z_if_eq (C _) (pc := 344) (tgt := 373) dL_law_344 (by decide) h (fun h => ?_) (fun h => ?_)
  · refine z_iconst (C _) (pc := 373) (x := (0 : Int32)) dL_law_373 kic_0 ?_
    exact h.elim
  · refine z_aload_n (C _) (pc := 347) dL_law_347 0 rfl ?_
    refine z_aload_n (C _) (pc := 348) dL_law_348 2 rfl ?_
    refine z_S3l (C []) (pc := 349) (kc' := 174921) (ks' := 5156105) (As := [va_rf (some w1), va_rf (some w3)]) (rest := []) (c_L_all l hfl v S1 S2 S w1 w3) mw_L_all bw_104 bw_105 ⟨by have h9 : rm_L_all.cells = 21 := rfl; omega, by omega, by have h9 : rm_L_all.slots = 105 := rfl; omega, by omega, by decide, by decide⟩ rfl rfl (Nat.le_of_ble_eq_true rfl) t1 t2 dL_law_349 h (fun r107 S104 S105 S106 t108 t109 h => ?_)
    refine z_aload_n (C _) (pc := 352) dL_law_352 1 rfl ?_
    refine z_aload_n (C _) (pc := 353) dL_law_353 2 rfl ?_
    refine z_s12 ?_
    refine z_S3l (C []) (pc := 354) (kc' := 174942) (ks' := 5156210) (As := [va_rf (some w2), va_rf (some w3)]) (rest := [.long r107]) (c_L_all l hfl v S105 S104 S106 w2 w3) mw_L_all bw_104 bw_105 ⟨by have h9 : rm_L_all.cells = 21 := rfl; omega, by omega, by have h9 : rm_L_all.slots = 105 := rfl; omega, by omega, by decide, by decide⟩ rfl rfl (Nat.le_of_ble_eq_true rfl) t109 t108 dL_law_354 h (fun r113 S110 S111 S112 t114 t115 h => ?_)
    refine z_s12 ?_
    refine z_lcmp (C _) (pc := 357) dL_law_357 ?_
    refine z_if_ne (C _) (pc := 358) (tgt := 373) dL_law_358 (by decide) h (fun h => ?_) (fun h => ?_)
    · refine z_iconst (C _) (pc := 373) (x := (0 : Int32)) dL_law_373 kic_0 ?_
      exact h.elim
    · refine z_aload_n (C _) (pc := 361) dL_law_361 0 rfl ?_
      refine z_aload_n (C _) (pc := 362) dL_law_362 2 rfl ?_
      refine z_S3i (C []) (pc := 363) (kc' := 174942) (ks' := 5156210) (As := [va_rf (some w1), va_rf (some w3)]) (rest := []) (c_L_sound l hfl v S111 S110 S112 w1 w3) mw_L_sound bw_873 bw_874 ⟨by have h9 : rm_L_sound.cells = 0 := rfl; omega, by omega, by have h9 : rm_L_sound.slots = 0 := rfl; omega, by omega, by decide, by decide⟩ rfl rfl (Nat.le_of_ble_eq_true rfl) t115 t114 dL_law_363 h (fun r119 S116 S117 S118 t120 t121 h => ?_)
      refine z_if_eq (C _) (pc := 366) (tgt := 373) dL_law_366 (by decide) h (fun h => ?_) (fun h => ?_)
      · refine z_iconst (C _) (pc := 373) (x := (0 : Int32)) dL_law_373 kic_0 ?_
        exact h.elim
      · refine z_iconst (C _) (pc := 369) (x := (1 : Int32)) dL_law_369 kic_1 ?_
        refine z_goto (C _) (pc := 370) (tgt := 374) dL_law_370 (by decide) ?_
        exact z_lawret (C []) hE (pc := 374) dL_law_374 (by omega) (by omega)
set_option maxHeartbeats 8000000 in
set_option maxRecDepth 100000 in
theorem l_L_law_L125 (l : Launch) (hfl : l.stackTraces = false) (v : Ev) {b L : Nat} {xs : Nat → Int32} {nm9 : String} {x9 : P9} {A : Nat → Prop} {E : State → Prop} (C : ∀ X, Cx l v RL cL_law 9 (some .boolean) nm9 (x9, X, A, E)) (hX : LX b L xs A x9) (hE : LE b A E x9) (hL : L ≤ 260) (f1 f2 f3 : Nat) : ∀ (n : Nat) (S1 S2 S : Hp) (w4 w5 : Int32) (hn : n ≤ 91), g_T S1 = v.2.2.1 → g_T S2 = v.2.2.1 → wp_L_law_L125 f1 f2 f3 n S1 S2 S w4 w5 → ZZ l v 9 room_1 (x9, Y3 v.2.1 [] S1 S2, A, E) (174900 - n * 1900) (5156000 - n * 56000) S 125 [(0, va_rf (some b)), (1, va_rf (some f1)), (2, va_rf (some f2)), (3, va_rf (some f3)), (4, .int w4), (5, .int w5)] [] := by
  intro n
  induction n with
  | zero =>
    intro S1 S2 S w4 w5 hn t1 t2 h
    exact h.elim
  | succ n ih =>
    intro S1 S2 S w4 w5 hn t1 t2 h
    unfold wp_L_law_L125 at h
    obtain ⟨B, hB⟩ : ∃ B, B = 174900 - (n + 1) * 1900 := ⟨_, rfl⟩
    obtain ⟨B2, hB2⟩ : ∃ B2, B2 = 5156000 - (n + 1) * 56000 := ⟨_, rfl⟩
    have hR : 600000 ≤ room_1.cells := Nat.le_of_ble_eq_true rfl
    have hR2 : 7000000 ≤ room_1.slots := Nat.le_of_ble_eq_true rfl
    rw [← hB, ← hB2]
    refine z_wide (kc' := B + 0) (ks' := B2 + 0) (Nat.le_refl _) (Nat.le_refl _) ?_
    refine z_iload (C _) (pc := 125) dL_law_125 5 rfl ?_
    refine z_bipush (C _) (pc := 127) (x := (90 : Int32)) dL_law_127 kbp_90 ?_
    refine z_icmp_ge (C _) (pc := 129) (tgt := 342) dL_law_129 (by decide) h (fun h => ?_) (fun h => ?_)
    · refine z_sub [1, 2, 3, 4] (lv' := [(1, va_rf (some f1)), (2, va_rf (some f2)), (3, va_rf (some f3)), (4, .int w4)]) rfl ?_
      refine z_wide (kc' := 174900) (ks' := 5156000) (by omega) (by omega) ?_
      exact k_L_law_B342 l hfl v C hX hE hL S1 S2 S t1 t2 f1 f2 f3 w4 h
    · refine z_iload (C _) (pc := 132) dL_law_132 4 rfl ?_
      refine z_if_eq (C _) (pc := 134) (tgt := 342) dL_law_134 (by decide) h (fun h => ?_) (fun h => ?_)
      · refine z_sub [1, 2, 3, 4] (lv' := [(1, va_rf (some f1)), (2, va_rf (some f2)), (3, va_rf (some f3)), (4, .int w4)]) rfl ?_
        refine z_wide (kc' := 174900) (ks' := 5156000) (by omega) (by omega) ?_
        exact k_L_law_B342 l hfl v C hX hE hL S1 S2 S t1 t2 f1 f2 f3 w4 h
      · refine z_aload_n (C _) (pc := 137) dL_law_137 0 rfl ?_
        refine z_iconst (C _) (pc := 138) (x := (4 : Int32)) dL_law_138 kic_4 ?_
        refine z_iconst (C _) (pc := 139) (x := (2 : Int32)) dL_law_139 kic_2 ?_
        refine z_iload (C _) (pc := 140) dL_law_140 5 rfl ?_
        refine z_imul (C _) (pc := 142) dL_law_142 ?_
        refine z_iadd (C _) (pc := 143) dL_law_143 ?_
        obtain ⟨c123, h⟩ := h
        refine z_SC (C _) hX (pc := 144) (kc' := (B + 0)) (ks' := (B2 + 0)) (As := [va_rf (some b), .int ((4 : Int32) + ((2 : Int32) * w5))]) (rest := []) (c_L_cell l v b L xs ((4 : Int32) + ((2 : Int32) * w5)) hL c123) mw_L_cell bw_96 bw_97 ⟨by have h9 : rm_L_cell.cells = 0 := rfl; omega, by omega, by have h9 : rm_L_cell.slots = 0 := rfl; omega, by omega, by decide, by decide⟩ rfl rfl (Nat.le_of_ble_eq_true rfl) dL_law_144 (fun r122 => ?_)
        replace h := h r122
        refine z_istore (C _) (pc := 147) (lv' := [(6, .int r122), (0, va_rf (some b)), (1, va_rf (some f1)), (2, va_rf (some f2)), (3, va_rf (some f3)), (4, .int w4), (5, .int w5)]) dL_law_147 (by decide) rfl ?_
        refine z_aload_n (C _) (pc := 149) dL_law_149 1 rfl ?_
        refine z_iconst (C _) (pc := 150) (x := (5 : Int32)) dL_law_150 kic_5 ?_
        refine z_iconst (C _) (pc := 151) (x := (2 : Int32)) dL_law_151 kic_2 ?_
        refine z_iload (C _) (pc := 152) dL_law_152 6 rfl ?_
        refine z_imul (C _) (pc := 154) dL_law_154 ?_
        refine z_iadd (C _) (pc := 155) dL_law_155 ?_
        obtain ⟨c125, h⟩ := h
        refine z_SC (C _) hX (pc := 156) (kc' := (B + 0)) (ks' := (B2 + 0)) (As := [va_rf (some b), .int ((5 : Int32) + ((2 : Int32) * w5))]) (rest := []) (c_L_cell l v b L xs ((5 : Int32) + ((2 : Int32) * w5)) hL c125) mw_L_cell bw_96 bw_97 ⟨by have h9 : rm_L_cell.cells = 0 := rfl; omega, by omega, by have h9 : rm_L_cell.slots = 0 := rfl; omega, by omega, by decide, by decide⟩ rfl rfl (Nat.le_of_ble_eq_true rfl) dL_law_156 (fun r124 => ?_)
        replace h := h r124
        refine z_istore (C _) (pc := 159) (lv' := [(7, .int r124), (6, .int r122), (0, va_rf (some b)), (1, va_rf (some f1)), (2, va_rf (some f2)), (3, va_rf (some f3)), (4, .int w4), (5, .int w5)]) dL_law_159 (by decide) rfl ?_
        refine z_iload (C _) (pc := 161) dL_law_161 1 rfl ?_
        refine z_bipush (C _) (pc := 163) (x := (24 : Int32)) dL_law_163 kbp_24 ?_
        refine z_Si8 (C _) (pc := 165) (KX := fun _ _ => False) (kc' := (B + 0)) (ks' := (B2 + 0)) (As := [.int r122, .int (24 : Int32)]) (rest := []) (c_L_some l v S r122 (24 : Int32)) mw_L_some bw_101 bw_102 ⟨by have h9 : rm_L_some.cells = 0 := rfl; omega, by omega, by have h9 : rm_L_some.slots = 0 := rfl; omega, by omega, by decide, by decide⟩ rfl rfl (Nat.le_of_ble_eq_true rfl) dL_law_165 h (fun r127 S126 h => ?_) (fun En S9 h => h.elim)
        refine z_istore (C _) (pc := 168) (lv' := [(8, .int r127), (7, .int r124), (6, .int r122), (0, va_rf (some b)), (1, va_rf (some f1)), (2, va_rf (some f2)), (3, va_rf (some f3)), (4, .int w4), (5, .int w5)]) dL_law_168 (by decide) rfl ?_
        refine z_iload (C _) (pc := 170) dL_law_170 0 rfl ?_
        refine z_bipush (C _) (pc := 172) (x := (9 : Int32)) dL_law_172 kbp_9 ?_
        refine z_icmp_lt (C _) (pc := 174) (tgt := 183) dL_law_174 (by decide) h (fun h => ?_) (fun h => ?_)
        · refine z_aload_n (C _) (pc := 183) dL_law_183 4 rfl ?_
          refine z_aload_n (C _) (pc := 184) dL_law_184 5 rfl ?_
          refine z_aload_n (C _) (pc := 185) dL_law_185 6 rfl ?_
          refine z_iload (C _) (pc := 186) dL_law_186 2 rfl ?_
          refine z_iconst (C _) (pc := 188) (x := (5 : Int32)) dL_law_188 kic_5 ?_
          refine z_ishr (C _) (pc := 189) dL_law_189 ?_
          refine z_iload (C _) (pc := 190) dL_law_190 1 rfl ?_
          refine z_S3i (C []) (pc := 192) (kc' := (B + 92)) (ks' := (B2 + 2940)) (As := [va_rf (some f1), va_rf (some f2), va_rf (some f3), .int (r122 >>> ((5 : Int32) &&& 31)), .int r124]) (rest := []) (c_L_children l hfl v S1 S2 S126 f1 f2 f3 (r122 >>> ((5 : Int32) &&& 31)) r124) mw_L_children bw_780 bw_781 ⟨by have h9 : rm_L_children.cells = 92 := rfl; omega, by omega, by have h9 : rm_L_children.slots = 2940 := rfl; omega, by omega, by decide, by decide⟩ rfl rfl (Nat.le_of_ble_eq_true rfl) t1 t2 dL_law_192 h (fun r131 S128 S129 S130 t132 t133 h => ?_)
          refine z_goto (C _) (pc := 195) (tgt := 276) dL_law_195 (by decide) ?_
          refine z_istore (C _) (pc := 276) (lv' := [(4, .int r131), (8, .int r127), (7, .int r124), (6, .int r122), (0, va_rf (some b)), (1, va_rf (some f1)), (2, va_rf (some f2)), (3, va_rf (some f3)), (5, .int w5)]) dL_law_276 (by decide) rfl ?_
          refine z_iload (C _) (pc := 278) dL_law_278 0 rfl ?_
          refine z_if_eq (C _) (pc := 280) (tgt := 333) dL_law_280 (by decide) h (fun h => ?_) (fun h => ?_)
          · refine z_iconst (C _) (pc := 333) (x := (0 : Int32)) dL_law_333 kic_0 ?_
            refine z_istore (C _) (pc := 334) (lv' := [(4, .int (0 : Int32)), (8, .int r127), (7, .int r124), (6, .int r122), (0, va_rf (some b)), (1, va_rf (some f1)), (2, va_rf (some f2)), (3, va_rf (some f3)), (5, .int w5)]) dL_law_334 (by decide) rfl ?_
            refine z_iinc (C _) (pc := 336) (y := w5 + (1 : Int32)) (lv' := [(5, .int (w5 + (1 : Int32))), (4, .int (0 : Int32)), (8, .int r127), (7, .int r124), (6, .int r122), (0, va_rf (some b)), (1, va_rf (some f1)), (2, va_rf (some f2)), (3, va_rf (some f3))]) dL_law_336 8 rfl rfl (by decide) rfl ?_
            refine z_goto (C _) (pc := 339) (tgt := 125) dL_law_339 (by decide) ?_
            refine z_sub [5, 6, 7, 8, 1, 0] (lv' := [(0, va_rf (some b)), (1, va_rf (some f1)), (2, va_rf (some f2)), (3, va_rf (some f3)), (4, .int (0 : Int32)), (5, .int (w5 + (1 : Int32)))]) rfl ?_
            refine z_wide (kc' := 174900 - n * 1900) (ks' := 5156000 - n * 56000) (by omega) (by omega) ?_
            exact ih S128 S129 S130 (0 : Int32) (w5 + (1 : Int32)) (by omega) t132 t133 h
          · refine z_iload (C _) (pc := 283) dL_law_283 8 rfl ?_
            refine z_bipush (C _) (pc := 285) (x := (15 : Int32)) dL_law_285 kbp_15 ?_
            refine z_irem (C _) (pc := 287) dL_law_287 (by decide) ?_
            refine z_if_gt (C _) (pc := 288) (tgt := 313) dL_law_288 (by decide) h (fun h => ?_) (fun h => ?_)
            · refine z_iload (C _) (pc := 313) dL_law_313 8 rfl ?_
              refine z_bipush (C _) (pc := 315) (x := (45 : Int32)) dL_law_315 kbp_45 ?_
              refine z_irem (C _) (pc := 317) dL_law_317 (by decide) ?_
              refine z_if_gt (C _) (pc := 318) (tgt := 329) dL_law_318 (by decide) h (fun h => ?_) (fun h => ?_)
              · refine z_iconst (C _) (pc := 329) (x := (1 : Int32)) dL_law_329 kic_1 ?_
                refine z_goto (C _) (pc := 330) (tgt := 334) dL_law_330 (by decide) ?_
                refine z_istore (C _) (pc := 334) (lv' := [(4, .int (1 : Int32)), (8, .int r127), (7, .int r124), (6, .int r122), (0, va_rf (some b)), (1, va_rf (some f1)), (2, va_rf (some f2)), (3, va_rf (some f3)), (5, .int w5)]) dL_law_334 (by decide) rfl ?_
                refine z_iinc (C _) (pc := 336) (y := w5 + (1 : Int32)) (lv' := [(5, .int (w5 + (1 : Int32))), (4, .int (1 : Int32)), (8, .int r127), (7, .int r124), (6, .int r122), (0, va_rf (some b)), (1, va_rf (some f1)), (2, va_rf (some f2)), (3, va_rf (some f3))]) dL_law_336 8 rfl rfl (by decide) rfl ?_
                refine z_goto (C _) (pc := 339) (tgt := 125) dL_law_339 (by decide) ?_
                refine z_sub [5, 6, 7, 8, 1, 0] (lv' := [(0, va_rf (some b)), (1, va_rf (some f1)), (2, va_rf (some f2)), (3, va_rf (some f3)), (4, .int (1 : Int32)), (5, .int (w5 + (1 : Int32)))]) rfl ?_
                refine z_wide (kc' := 174900 - n * 1900) (ks' := 5156000 - n * 56000) (by omega) (by omega) ?_
                exact ih S128 S129 S130 (1 : Int32) (w5 + (1 : Int32)) (by omega) t132 t133 h
              · refine z_aload_n (C _) (pc := 321) dL_law_321 5 rfl ?_
                refine z_aload_n (C _) (pc := 322) dL_law_322 7 rfl ?_
                refine z_S3i (C []) (pc := 323) (kc' := (B + 1322)) (ks' := (B2 + 40362)) (As := [va_rf (some f1), va_rf (some f3)]) (rest := []) (c_L_refused l hfl v S128 S129 S130 f1 f3) mw_L_refused bw_876 bw_877 ⟨by have h9 : rm_L_refused.cells = 1230 := rfl; omega, by omega, by have h9 : rm_L_refused.slots = 37422 := rfl; omega, by omega, by decide, by decide⟩ rfl rfl (Nat.le_of_ble_eq_true rfl) t132 t133 dL_law_323 h (fun r137 S134 S135 S136 t138 t139 h => ?_)
                refine z_t_if_eq (C _) (pc := 326) dL_law_326 dL_law_329 kic_1 dL_law_330 dL_law_333 kic_0 ?_
                refine z_nI h (fun y140 h => ?_)
                refine z_istore (C _) (pc := 334) (lv' := [(4, .int y140), (8, .int r127), (7, .int r124), (6, .int r122), (0, va_rf (some b)), (1, va_rf (some f1)), (2, va_rf (some f2)), (3, va_rf (some f3)), (5, .int w5)]) dL_law_334 (by decide) rfl ?_
                refine z_iinc (C _) (pc := 336) (y := w5 + (1 : Int32)) (lv' := [(5, .int (w5 + (1 : Int32))), (4, .int y140), (8, .int r127), (7, .int r124), (6, .int r122), (0, va_rf (some b)), (1, va_rf (some f1)), (2, va_rf (some f2)), (3, va_rf (some f3))]) dL_law_336 8 rfl rfl (by decide) rfl ?_
                refine z_goto (C _) (pc := 339) (tgt := 125) dL_law_339 (by decide) ?_
                refine z_sub [5, 6, 7, 8, 1, 0] (lv' := [(0, va_rf (some b)), (1, va_rf (some f1)), (2, va_rf (some f2)), (3, va_rf (some f3)), (4, .int y140), (5, .int (w5 + (1 : Int32)))]) rfl ?_
                refine z_wide (kc' := 174900 - n * 1900) (ks' := 5156000 - n * 56000) (by omega) (by omega) ?_
                exact ih S134 S135 S136 y140 (w5 + (1 : Int32)) (by omega) t138 t139 h
            · refine z_aload_n (C _) (pc := 291) dL_law_291 5 rfl ?_
              refine z_aload_n (C _) (pc := 292) dL_law_292 7 rfl ?_
              refine z_S3l (C []) (pc := 293) (kc' := (B + 113)) (ks' := (B2 + 3045)) (As := [va_rf (some f1), va_rf (some f3)]) (rest := []) (c_L_all l hfl v S128 S129 S130 f1 f3) mw_L_all bw_104 bw_105 ⟨by have h9 : rm_L_all.cells = 21 := rfl; omega, by omega, by have h9 : rm_L_all.slots = 105 := rfl; omega, by omega, by decide, by decide⟩ rfl rfl (Nat.le_of_ble_eq_true rfl) t132 t133 dL_law_293 h (fun r144 S141 S142 S143 t145 t146 h => ?_)
              refine z_aload_n (C _) (pc := 296) dL_law_296 6 rfl ?_
              refine z_aload_n (C _) (pc := 297) dL_law_297 7 rfl ?_
              refine z_s12 ?_
              refine z_S3l (C []) (pc := 298) (kc' := (B + 134)) (ks' := (B2 + 3150)) (As := [va_rf (some f2), va_rf (some f3)]) (rest := [.long r144]) (c_L_all l hfl v S142 S141 S143 f2 f3) mw_L_all bw_104 bw_105 ⟨by have h9 : rm_L_all.cells = 21 := rfl; omega, by omega, by have h9 : rm_L_all.slots = 105 := rfl; omega, by omega, by decide, by decide⟩ rfl rfl (Nat.le_of_ble_eq_true rfl) t146 t145 dL_law_298 h (fun r150 S147 S148 S149 t151 t152 h => ?_)
              refine z_s12 ?_
              refine z_lcmp (C _) (pc := 301) dL_law_301 ?_
              refine z_if_ne (C _) (pc := 302) (tgt := 333) dL_law_302 (by decide) h (fun h => ?_) (fun h => ?_)
              · refine z_iconst (C _) (pc := 333) (x := (0 : Int32)) dL_law_333 kic_0 ?_
                refine z_istore (C _) (pc := 334) (lv' := [(4, .int (0 : Int32)), (8, .int r127), (7, .int r124), (6, .int r122), (0, va_rf (some b)), (1, va_rf (some f1)), (2, va_rf (some f2)), (3, va_rf (some f3)), (5, .int w5)]) dL_law_334 (by decide) rfl ?_
                refine z_iinc (C _) (pc := 336) (y := w5 + (1 : Int32)) (lv' := [(5, .int (w5 + (1 : Int32))), (4, .int (0 : Int32)), (8, .int r127), (7, .int r124), (6, .int r122), (0, va_rf (some b)), (1, va_rf (some f1)), (2, va_rf (some f2)), (3, va_rf (some f3))]) dL_law_336 8 rfl rfl (by decide) rfl ?_
                refine z_goto (C _) (pc := 339) (tgt := 125) dL_law_339 (by decide) ?_
                refine z_sub [5, 6, 7, 8, 1, 0] (lv' := [(0, va_rf (some b)), (1, va_rf (some f1)), (2, va_rf (some f2)), (3, va_rf (some f3)), (4, .int (0 : Int32)), (5, .int (w5 + (1 : Int32)))]) rfl ?_
                refine z_wide (kc' := 174900 - n * 1900) (ks' := 5156000 - n * 56000) (by omega) (by omega) ?_
                exact ih S148 S147 S149 (0 : Int32) (w5 + (1 : Int32)) (by omega) t152 t151 h
              · refine z_aload_n (C _) (pc := 305) dL_law_305 5 rfl ?_
                refine z_aload_n (C _) (pc := 306) dL_law_306 7 rfl ?_
                refine z_S3i (C []) (pc := 307) (kc' := (B + 134)) (ks' := (B2 + 3150)) (As := [va_rf (some f1), va_rf (some f3)]) (rest := []) (c_L_sound l hfl v S148 S147 S149 f1 f3) mw_L_sound bw_873 bw_874 ⟨by have h9 : rm_L_sound.cells = 0 := rfl; omega, by omega, by have h9 : rm_L_sound.slots = 0 := rfl; omega, by omega, by decide, by decide⟩ rfl rfl (Nat.le_of_ble_eq_true rfl) t152 t151 dL_law_307 h (fun r156 S153 S154 S155 t157 t158 h => ?_)
                refine z_if_eq (C _) (pc := 310) (tgt := 333) dL_law_310 (by decide) h (fun h => ?_) (fun h => ?_)
                · refine z_iconst (C _) (pc := 333) (x := (0 : Int32)) dL_law_333 kic_0 ?_
                  refine z_istore (C _) (pc := 334) (lv' := [(4, .int (0 : Int32)), (8, .int r127), (7, .int r124), (6, .int r122), (0, va_rf (some b)), (1, va_rf (some f1)), (2, va_rf (some f2)), (3, va_rf (some f3)), (5, .int w5)]) dL_law_334 (by decide) rfl ?_
                  refine z_iinc (C _) (pc := 336) (y := w5 + (1 : Int32)) (lv' := [(5, .int (w5 + (1 : Int32))), (4, .int (0 : Int32)), (8, .int r127), (7, .int r124), (6, .int r122), (0, va_rf (some b)), (1, va_rf (some f1)), (2, va_rf (some f2)), (3, va_rf (some f3))]) dL_law_336 8 rfl rfl (by decide) rfl ?_
                  refine z_goto (C _) (pc := 339) (tgt := 125) dL_law_339 (by decide) ?_
                  refine z_sub [5, 6, 7, 8, 1, 0] (lv' := [(0, va_rf (some b)), (1, va_rf (some f1)), (2, va_rf (some f2)), (3, va_rf (some f3)), (4, .int (0 : Int32)), (5, .int (w5 + (1 : Int32)))]) rfl ?_
                  refine z_wide (kc' := 174900 - n * 1900) (ks' := 5156000 - n * 56000) (by omega) (by omega) ?_
                  exact ih S153 S154 S155 (0 : Int32) (w5 + (1 : Int32)) (by omega) t157 t158 h
                · refine z_iload (C _) (pc := 313) dL_law_313 8 rfl ?_
                  refine z_bipush (C _) (pc := 315) (x := (45 : Int32)) dL_law_315 kbp_45 ?_
                  refine z_irem (C _) (pc := 317) dL_law_317 (by decide) ?_
                  refine z_if_gt (C _) (pc := 318) (tgt := 329) dL_law_318 (by decide) h (fun h => ?_) (fun h => ?_)
                  · refine z_iconst (C _) (pc := 329) (x := (1 : Int32)) dL_law_329 kic_1 ?_
                    refine z_goto (C _) (pc := 330) (tgt := 334) dL_law_330 (by decide) ?_
                    refine z_istore (C _) (pc := 334) (lv' := [(4, .int (1 : Int32)), (8, .int r127), (7, .int r124), (6, .int r122), (0, va_rf (some b)), (1, va_rf (some f1)), (2, va_rf (some f2)), (3, va_rf (some f3)), (5, .int w5)]) dL_law_334 (by decide) rfl ?_
                    refine z_iinc (C _) (pc := 336) (y := w5 + (1 : Int32)) (lv' := [(5, .int (w5 + (1 : Int32))), (4, .int (1 : Int32)), (8, .int r127), (7, .int r124), (6, .int r122), (0, va_rf (some b)), (1, va_rf (some f1)), (2, va_rf (some f2)), (3, va_rf (some f3))]) dL_law_336 8 rfl rfl (by decide) rfl ?_
                    refine z_goto (C _) (pc := 339) (tgt := 125) dL_law_339 (by decide) ?_
                    refine z_sub [5, 6, 7, 8, 1, 0] (lv' := [(0, va_rf (some b)), (1, va_rf (some f1)), (2, va_rf (some f2)), (3, va_rf (some f3)), (4, .int (1 : Int32)), (5, .int (w5 + (1 : Int32)))]) rfl ?_
                    refine z_wide (kc' := 174900 - n * 1900) (ks' := 5156000 - n * 56000) (by omega) (by omega) ?_
                    exact ih S153 S154 S155 (1 : Int32) (w5 + (1 : Int32)) (by omega) t157 t158 h
                  · refine z_aload_n (C _) (pc := 321) dL_law_321 5 rfl ?_
                    refine z_aload_n (C _) (pc := 322) dL_law_322 7 rfl ?_
                    refine z_S3i (C []) (pc := 323) (kc' := (B + 1364)) (ks' := (B2 + 40572)) (As := [va_rf (some f1), va_rf (some f3)]) (rest := []) (c_L_refused l hfl v S153 S154 S155 f1 f3) mw_L_refused bw_876 bw_877 ⟨by have h9 : rm_L_refused.cells = 1230 := rfl; omega, by omega, by have h9 : rm_L_refused.slots = 37422 := rfl; omega, by omega, by decide, by decide⟩ rfl rfl (Nat.le_of_ble_eq_true rfl) t157 t158 dL_law_323 h (fun r162 S159 S160 S161 t163 t164 h => ?_)
                    refine z_t_if_eq (C _) (pc := 326) dL_law_326 dL_law_329 kic_1 dL_law_330 dL_law_333 kic_0 ?_
                    refine z_nI h (fun y165 h => ?_)
                    refine z_istore (C _) (pc := 334) (lv' := [(4, .int y165), (8, .int r127), (7, .int r124), (6, .int r122), (0, va_rf (some b)), (1, va_rf (some f1)), (2, va_rf (some f2)), (3, va_rf (some f3)), (5, .int w5)]) dL_law_334 (by decide) rfl ?_
                    refine z_iinc (C _) (pc := 336) (y := w5 + (1 : Int32)) (lv' := [(5, .int (w5 + (1 : Int32))), (4, .int y165), (8, .int r127), (7, .int r124), (6, .int r122), (0, va_rf (some b)), (1, va_rf (some f1)), (2, va_rf (some f2)), (3, va_rf (some f3))]) dL_law_336 8 rfl rfl (by decide) rfl ?_
                    refine z_goto (C _) (pc := 339) (tgt := 125) dL_law_339 (by decide) ?_
                    refine z_sub [5, 6, 7, 8, 1, 0] (lv' := [(0, va_rf (some b)), (1, va_rf (some f1)), (2, va_rf (some f2)), (3, va_rf (some f3)), (4, .int y165), (5, .int (w5 + (1 : Int32)))]) rfl ?_
                    refine z_wide (kc' := 174900 - n * 1900) (ks' := 5156000 - n * 56000) (by omega) (by omega) ?_
                    exact ih S159 S160 S161 y165 (w5 + (1 : Int32)) (by omega) t163 t164 h
        · refine z_iload (C _) (pc := 177) dL_law_177 8 rfl ?_
          refine z_iconst (C _) (pc := 179) (x := (4 : Int32)) dL_law_179 kic_4 ?_
          refine z_icmp_ge (C _) (pc := 180) (tgt := 198) dL_law_180 (by decide) h (fun h => ?_) (fun h => ?_)
          · refine z_iload (C _) (pc := 198) dL_law_198 0 rfl ?_
            refine z_bipush (C _) (pc := 200) (x := (14 : Int32)) dL_law_200 kbp_14 ?_
            refine z_icmp_ge (C _) (pc := 202) (tgt := 220) dL_law_202 (by decide) h (fun h => ?_) (fun h => ?_)
            · refine z_iload (C _) (pc := 220) dL_law_220 0 rfl ?_
              refine z_bipush (C _) (pc := 222) (x := (17 : Int32)) dL_law_222 kbp_17 ?_
              refine z_icmp_ge (C _) (pc := 224) (tgt := 242) dL_law_224 (by decide) h (fun h => ?_) (fun h => ?_)
              · refine z_iload (C _) (pc := 242) dL_law_242 0 rfl ?_
                refine z_bipush (C _) (pc := 244) (x := (21 : Int32)) dL_law_244 kbp_21 ?_
                refine z_icmp_ge (C _) (pc := 246) (tgt := 264) dL_law_246 (by decide) h (fun h => ?_) (fun h => ?_)
                · refine z_aload_n (C _) (pc := 264) dL_law_264 4 rfl ?_
                  refine z_aload_n (C _) (pc := 265) dL_law_265 5 rfl ?_
                  refine z_aload_n (C _) (pc := 266) dL_law_266 6 rfl ?_
                  refine z_iload (C _) (pc := 267) dL_law_267 2 rfl ?_
                  refine z_iconst (C _) (pc := 269) (x := (5 : Int32)) dL_law_269 kic_5 ?_
                  refine z_ishr (C _) (pc := 270) dL_law_270 ?_
                  refine z_iload (C _) (pc := 271) dL_law_271 1 rfl ?_
                  refine z_S3i (C []) (pc := 273) (kc' := (B + 93)) (ks' := (B2 + 2964)) (As := [va_rf (some f1), va_rf (some f2), va_rf (some f3), .int (r122 >>> ((5 : Int32) &&& 31)), .int r124]) (rest := []) (c_L_days l hfl v S1 S2 S126 f1 f2 f3 (r122 >>> ((5 : Int32) &&& 31)) r124) mw_L_days bw_870 bw_871 ⟨by have h9 : rm_L_days.cells = 93 := rfl; omega, by omega, by have h9 : rm_L_days.slots = 2964 := rfl; omega, by omega, by decide, by decide⟩ rfl rfl (Nat.le_of_ble_eq_true rfl) t1 t2 dL_law_273 h (fun r169 S166 S167 S168 t170 t171 h => ?_)
                  refine z_istore (C _) (pc := 276) (lv' := [(4, .int r169), (8, .int r127), (7, .int r124), (6, .int r122), (0, va_rf (some b)), (1, va_rf (some f1)), (2, va_rf (some f2)), (3, va_rf (some f3)), (5, .int w5)]) dL_law_276 (by decide) rfl ?_
                  refine z_iload (C _) (pc := 278) dL_law_278 0 rfl ?_
                  refine z_if_eq (C _) (pc := 280) (tgt := 333) dL_law_280 (by decide) h (fun h => ?_) (fun h => ?_)
                  · refine z_iconst (C _) (pc := 333) (x := (0 : Int32)) dL_law_333 kic_0 ?_
                    refine z_istore (C _) (pc := 334) (lv' := [(4, .int (0 : Int32)), (8, .int r127), (7, .int r124), (6, .int r122), (0, va_rf (some b)), (1, va_rf (some f1)), (2, va_rf (some f2)), (3, va_rf (some f3)), (5, .int w5)]) dL_law_334 (by decide) rfl ?_
                    refine z_iinc (C _) (pc := 336) (y := w5 + (1 : Int32)) (lv' := [(5, .int (w5 + (1 : Int32))), (4, .int (0 : Int32)), (8, .int r127), (7, .int r124), (6, .int r122), (0, va_rf (some b)), (1, va_rf (some f1)), (2, va_rf (some f2)), (3, va_rf (some f3))]) dL_law_336 8 rfl rfl (by decide) rfl ?_
                    refine z_goto (C _) (pc := 339) (tgt := 125) dL_law_339 (by decide) ?_
                    refine z_sub [5, 6, 7, 8, 1, 0] (lv' := [(0, va_rf (some b)), (1, va_rf (some f1)), (2, va_rf (some f2)), (3, va_rf (some f3)), (4, .int (0 : Int32)), (5, .int (w5 + (1 : Int32)))]) rfl ?_
                    refine z_wide (kc' := 174900 - n * 1900) (ks' := 5156000 - n * 56000) (by omega) (by omega) ?_
                    exact ih S166 S167 S168 (0 : Int32) (w5 + (1 : Int32)) (by omega) t170 t171 h
                  · refine z_iload (C _) (pc := 283) dL_law_283 8 rfl ?_
                    refine z_bipush (C _) (pc := 285) (x := (15 : Int32)) dL_law_285 kbp_15 ?_
                    refine z_irem (C _) (pc := 287) dL_law_287 (by decide) ?_
                    refine z_if_gt (C _) (pc := 288) (tgt := 313) dL_law_288 (by decide) h (fun h => ?_) (fun h => ?_)
                    · refine z_iload (C _) (pc := 313) dL_law_313 8 rfl ?_
                      refine z_bipush (C _) (pc := 315) (x := (45 : Int32)) dL_law_315 kbp_45 ?_
                      refine z_irem (C _) (pc := 317) dL_law_317 (by decide) ?_
                      refine z_if_gt (C _) (pc := 318) (tgt := 329) dL_law_318 (by decide) h (fun h => ?_) (fun h => ?_)
                      · refine z_iconst (C _) (pc := 329) (x := (1 : Int32)) dL_law_329 kic_1 ?_
                        refine z_goto (C _) (pc := 330) (tgt := 334) dL_law_330 (by decide) ?_
                        refine z_istore (C _) (pc := 334) (lv' := [(4, .int (1 : Int32)), (8, .int r127), (7, .int r124), (6, .int r122), (0, va_rf (some b)), (1, va_rf (some f1)), (2, va_rf (some f2)), (3, va_rf (some f3)), (5, .int w5)]) dL_law_334 (by decide) rfl ?_
                        refine z_iinc (C _) (pc := 336) (y := w5 + (1 : Int32)) (lv' := [(5, .int (w5 + (1 : Int32))), (4, .int (1 : Int32)), (8, .int r127), (7, .int r124), (6, .int r122), (0, va_rf (some b)), (1, va_rf (some f1)), (2, va_rf (some f2)), (3, va_rf (some f3))]) dL_law_336 8 rfl rfl (by decide) rfl ?_
                        refine z_goto (C _) (pc := 339) (tgt := 125) dL_law_339 (by decide) ?_
                        refine z_sub [5, 6, 7, 8, 1, 0] (lv' := [(0, va_rf (some b)), (1, va_rf (some f1)), (2, va_rf (some f2)), (3, va_rf (some f3)), (4, .int (1 : Int32)), (5, .int (w5 + (1 : Int32)))]) rfl ?_
                        refine z_wide (kc' := 174900 - n * 1900) (ks' := 5156000 - n * 56000) (by omega) (by omega) ?_
                        exact ih S166 S167 S168 (1 : Int32) (w5 + (1 : Int32)) (by omega) t170 t171 h
                      · refine z_aload_n (C _) (pc := 321) dL_law_321 5 rfl ?_
                        refine z_aload_n (C _) (pc := 322) dL_law_322 7 rfl ?_
                        refine z_S3i (C []) (pc := 323) (kc' := (B + 1323)) (ks' := (B2 + 40386)) (As := [va_rf (some f1), va_rf (some f3)]) (rest := []) (c_L_refused l hfl v S166 S167 S168 f1 f3) mw_L_refused bw_876 bw_877 ⟨by have h9 : rm_L_refused.cells = 1230 := rfl; omega, by omega, by have h9 : rm_L_refused.slots = 37422 := rfl; omega, by omega, by decide, by decide⟩ rfl rfl (Nat.le_of_ble_eq_true rfl) t170 t171 dL_law_323 h (fun r175 S172 S173 S174 t176 t177 h => ?_)
                        refine z_t_if_eq (C _) (pc := 326) dL_law_326 dL_law_329 kic_1 dL_law_330 dL_law_333 kic_0 ?_
                        refine z_nI h (fun y178 h => ?_)
                        refine z_istore (C _) (pc := 334) (lv' := [(4, .int y178), (8, .int r127), (7, .int r124), (6, .int r122), (0, va_rf (some b)), (1, va_rf (some f1)), (2, va_rf (some f2)), (3, va_rf (some f3)), (5, .int w5)]) dL_law_334 (by decide) rfl ?_
                        refine z_iinc (C _) (pc := 336) (y := w5 + (1 : Int32)) (lv' := [(5, .int (w5 + (1 : Int32))), (4, .int y178), (8, .int r127), (7, .int r124), (6, .int r122), (0, va_rf (some b)), (1, va_rf (some f1)), (2, va_rf (some f2)), (3, va_rf (some f3))]) dL_law_336 8 rfl rfl (by decide) rfl ?_
                        refine z_goto (C _) (pc := 339) (tgt := 125) dL_law_339 (by decide) ?_
                        refine z_sub [5, 6, 7, 8, 1, 0] (lv' := [(0, va_rf (some b)), (1, va_rf (some f1)), (2, va_rf (some f2)), (3, va_rf (some f3)), (4, .int y178), (5, .int (w5 + (1 : Int32)))]) rfl ?_
                        refine z_wide (kc' := 174900 - n * 1900) (ks' := 5156000 - n * 56000) (by omega) (by omega) ?_
                        exact ih S172 S173 S174 y178 (w5 + (1 : Int32)) (by omega) t176 t177 h
                    · refine z_aload_n (C _) (pc := 291) dL_law_291 5 rfl ?_
                      refine z_aload_n (C _) (pc := 292) dL_law_292 7 rfl ?_
                      refine z_S3l (C []) (pc := 293) (kc' := (B + 114)) (ks' := (B2 + 3069)) (As := [va_rf (some f1), va_rf (some f3)]) (rest := []) (c_L_all l hfl v S166 S167 S168 f1 f3) mw_L_all bw_104 bw_105 ⟨by have h9 : rm_L_all.cells = 21 := rfl; omega, by omega, by have h9 : rm_L_all.slots = 105 := rfl; omega, by omega, by decide, by decide⟩ rfl rfl (Nat.le_of_ble_eq_true rfl) t170 t171 dL_law_293 h (fun r182 S179 S180 S181 t183 t184 h => ?_)
                      refine z_aload_n (C _) (pc := 296) dL_law_296 6 rfl ?_
                      refine z_aload_n (C _) (pc := 297) dL_law_297 7 rfl ?_
                      refine z_s12 ?_
                      refine z_S3l (C []) (pc := 298) (kc' := (B + 135)) (ks' := (B2 + 3174)) (As := [va_rf (some f2), va_rf (some f3)]) (rest := [.long r182]) (c_L_all l hfl v S180 S179 S181 f2 f3) mw_L_all bw_104 bw_105 ⟨by have h9 : rm_L_all.cells = 21 := rfl; omega, by omega, by have h9 : rm_L_all.slots = 105 := rfl; omega, by omega, by decide, by decide⟩ rfl rfl (Nat.le_of_ble_eq_true rfl) t184 t183 dL_law_298 h (fun r188 S185 S186 S187 t189 t190 h => ?_)
                      refine z_s12 ?_
                      refine z_lcmp (C _) (pc := 301) dL_law_301 ?_
                      refine z_if_ne (C _) (pc := 302) (tgt := 333) dL_law_302 (by decide) h (fun h => ?_) (fun h => ?_)
                      · refine z_iconst (C _) (pc := 333) (x := (0 : Int32)) dL_law_333 kic_0 ?_
                        refine z_istore (C _) (pc := 334) (lv' := [(4, .int (0 : Int32)), (8, .int r127), (7, .int r124), (6, .int r122), (0, va_rf (some b)), (1, va_rf (some f1)), (2, va_rf (some f2)), (3, va_rf (some f3)), (5, .int w5)]) dL_law_334 (by decide) rfl ?_
                        refine z_iinc (C _) (pc := 336) (y := w5 + (1 : Int32)) (lv' := [(5, .int (w5 + (1 : Int32))), (4, .int (0 : Int32)), (8, .int r127), (7, .int r124), (6, .int r122), (0, va_rf (some b)), (1, va_rf (some f1)), (2, va_rf (some f2)), (3, va_rf (some f3))]) dL_law_336 8 rfl rfl (by decide) rfl ?_
                        refine z_goto (C _) (pc := 339) (tgt := 125) dL_law_339 (by decide) ?_
                        refine z_sub [5, 6, 7, 8, 1, 0] (lv' := [(0, va_rf (some b)), (1, va_rf (some f1)), (2, va_rf (some f2)), (3, va_rf (some f3)), (4, .int (0 : Int32)), (5, .int (w5 + (1 : Int32)))]) rfl ?_
                        refine z_wide (kc' := 174900 - n * 1900) (ks' := 5156000 - n * 56000) (by omega) (by omega) ?_
                        exact ih S186 S185 S187 (0 : Int32) (w5 + (1 : Int32)) (by omega) t190 t189 h
                      · refine z_aload_n (C _) (pc := 305) dL_law_305 5 rfl ?_
                        refine z_aload_n (C _) (pc := 306) dL_law_306 7 rfl ?_
                        refine z_S3i (C []) (pc := 307) (kc' := (B + 135)) (ks' := (B2 + 3174)) (As := [va_rf (some f1), va_rf (some f3)]) (rest := []) (c_L_sound l hfl v S186 S185 S187 f1 f3) mw_L_sound bw_873 bw_874 ⟨by have h9 : rm_L_sound.cells = 0 := rfl; omega, by omega, by have h9 : rm_L_sound.slots = 0 := rfl; omega, by omega, by decide, by decide⟩ rfl rfl (Nat.le_of_ble_eq_true rfl) t190 t189 dL_law_307 h (fun r194 S191 S192 S193 t195 t196 h => ?_)
                        refine z_if_eq (C _) (pc := 310) (tgt := 333) dL_law_310 (by decide) h (fun h => ?_) (fun h => ?_)
                        · refine z_iconst (C _) (pc := 333) (x := (0 : Int32)) dL_law_333 kic_0 ?_
                          refine z_istore (C _) (pc := 334) (lv' := [(4, .int (0 : Int32)), (8, .int r127), (7, .int r124), (6, .int r122), (0, va_rf (some b)), (1, va_rf (some f1)), (2, va_rf (some f2)), (3, va_rf (some f3)), (5, .int w5)]) dL_law_334 (by decide) rfl ?_
                          refine z_iinc (C _) (pc := 336) (y := w5 + (1 : Int32)) (lv' := [(5, .int (w5 + (1 : Int32))), (4, .int (0 : Int32)), (8, .int r127), (7, .int r124), (6, .int r122), (0, va_rf (some b)), (1, va_rf (some f1)), (2, va_rf (some f2)), (3, va_rf (some f3))]) dL_law_336 8 rfl rfl (by decide) rfl ?_
                          refine z_goto (C _) (pc := 339) (tgt := 125) dL_law_339 (by decide) ?_
                          refine z_sub [5, 6, 7, 8, 1, 0] (lv' := [(0, va_rf (some b)), (1, va_rf (some f1)), (2, va_rf (some f2)), (3, va_rf (some f3)), (4, .int (0 : Int32)), (5, .int (w5 + (1 : Int32)))]) rfl ?_
                          refine z_wide (kc' := 174900 - n * 1900) (ks' := 5156000 - n * 56000) (by omega) (by omega) ?_
                          exact ih S191 S192 S193 (0 : Int32) (w5 + (1 : Int32)) (by omega) t195 t196 h
                        · refine z_iload (C _) (pc := 313) dL_law_313 8 rfl ?_
                          refine z_bipush (C _) (pc := 315) (x := (45 : Int32)) dL_law_315 kbp_45 ?_
                          refine z_irem (C _) (pc := 317) dL_law_317 (by decide) ?_
                          refine z_if_gt (C _) (pc := 318) (tgt := 329) dL_law_318 (by decide) h (fun h => ?_) (fun h => ?_)
                          · refine z_iconst (C _) (pc := 329) (x := (1 : Int32)) dL_law_329 kic_1 ?_
                            refine z_goto (C _) (pc := 330) (tgt := 334) dL_law_330 (by decide) ?_
                            refine z_istore (C _) (pc := 334) (lv' := [(4, .int (1 : Int32)), (8, .int r127), (7, .int r124), (6, .int r122), (0, va_rf (some b)), (1, va_rf (some f1)), (2, va_rf (some f2)), (3, va_rf (some f3)), (5, .int w5)]) dL_law_334 (by decide) rfl ?_
                            refine z_iinc (C _) (pc := 336) (y := w5 + (1 : Int32)) (lv' := [(5, .int (w5 + (1 : Int32))), (4, .int (1 : Int32)), (8, .int r127), (7, .int r124), (6, .int r122), (0, va_rf (some b)), (1, va_rf (some f1)), (2, va_rf (some f2)), (3, va_rf (some f3))]) dL_law_336 8 rfl rfl (by decide) rfl ?_
                            refine z_goto (C _) (pc := 339) (tgt := 125) dL_law_339 (by decide) ?_
                            refine z_sub [5, 6, 7, 8, 1, 0] (lv' := [(0, va_rf (some b)), (1, va_rf (some f1)), (2, va_rf (some f2)), (3, va_rf (some f3)), (4, .int (1 : Int32)), (5, .int (w5 + (1 : Int32)))]) rfl ?_
                            refine z_wide (kc' := 174900 - n * 1900) (ks' := 5156000 - n * 56000) (by omega) (by omega) ?_
                            exact ih S191 S192 S193 (1 : Int32) (w5 + (1 : Int32)) (by omega) t195 t196 h
                          · refine z_aload_n (C _) (pc := 321) dL_law_321 5 rfl ?_
                            refine z_aload_n (C _) (pc := 322) dL_law_322 7 rfl ?_
                            refine z_S3i (C []) (pc := 323) (kc' := (B + 1365)) (ks' := (B2 + 40596)) (As := [va_rf (some f1), va_rf (some f3)]) (rest := []) (c_L_refused l hfl v S191 S192 S193 f1 f3) mw_L_refused bw_876 bw_877 ⟨by have h9 : rm_L_refused.cells = 1230 := rfl; omega, by omega, by have h9 : rm_L_refused.slots = 37422 := rfl; omega, by omega, by decide, by decide⟩ rfl rfl (Nat.le_of_ble_eq_true rfl) t195 t196 dL_law_323 h (fun r200 S197 S198 S199 t201 t202 h => ?_)
                            refine z_t_if_eq (C _) (pc := 326) dL_law_326 dL_law_329 kic_1 dL_law_330 dL_law_333 kic_0 ?_
                            refine z_nI h (fun y203 h => ?_)
                            refine z_istore (C _) (pc := 334) (lv' := [(4, .int y203), (8, .int r127), (7, .int r124), (6, .int r122), (0, va_rf (some b)), (1, va_rf (some f1)), (2, va_rf (some f2)), (3, va_rf (some f3)), (5, .int w5)]) dL_law_334 (by decide) rfl ?_
                            refine z_iinc (C _) (pc := 336) (y := w5 + (1 : Int32)) (lv' := [(5, .int (w5 + (1 : Int32))), (4, .int y203), (8, .int r127), (7, .int r124), (6, .int r122), (0, va_rf (some b)), (1, va_rf (some f1)), (2, va_rf (some f2)), (3, va_rf (some f3))]) dL_law_336 8 rfl rfl (by decide) rfl ?_
                            refine z_goto (C _) (pc := 339) (tgt := 125) dL_law_339 (by decide) ?_
                            refine z_sub [5, 6, 7, 8, 1, 0] (lv' := [(0, va_rf (some b)), (1, va_rf (some f1)), (2, va_rf (some f2)), (3, va_rf (some f3)), (4, .int y203), (5, .int (w5 + (1 : Int32)))]) rfl ?_
                            refine z_wide (kc' := 174900 - n * 1900) (ks' := 5156000 - n * 56000) (by omega) (by omega) ?_
                            exact ih S197 S198 S199 y203 (w5 + (1 : Int32)) (by omega) t201 t202 h
                · refine z_aload_n (C _) (pc := 249) dL_law_249 4 rfl ?_
                  refine z_aload_n (C _) (pc := 250) dL_law_250 5 rfl ?_
                  refine z_aload_n (C _) (pc := 251) dL_law_251 6 rfl ?_
                  refine z_iload (C _) (pc := 252) dL_law_252 2 rfl ?_
                  refine z_iconst (C _) (pc := 254) (x := (5 : Int32)) dL_law_254 kic_5 ?_
                  refine z_ishr (C _) (pc := 255) dL_law_255 ?_
                  refine z_iload (C _) (pc := 256) dL_law_256 1 rfl ?_
                  refine z_S3i (C []) (pc := 258) (kc' := (B + 138)) (ks' := (B2 + 4410)) (As := [va_rf (some f1), va_rf (some f2), va_rf (some f3), .int (r122 >>> ((5 : Int32) &&& 31)), .int r124]) (rest := []) (c_L_events l hfl v S1 S2 S126 f1 f2 f3 (r122 >>> ((5 : Int32) &&& 31)) r124) mw_L_events bw_829 bw_830 ⟨by have h9 : rm_L_events.cells = 138 := rfl; omega, by omega, by have h9 : rm_L_events.slots = 4410 := rfl; omega, by omega, by decide, by decide⟩ rfl rfl (Nat.le_of_ble_eq_true rfl) t1 t2 dL_law_258 h (fun r207 S204 S205 S206 t208 t209 h => ?_)
                  refine z_goto (C _) (pc := 261) (tgt := 276) dL_law_261 (by decide) ?_
                  refine z_istore (C _) (pc := 276) (lv' := [(4, .int r207), (8, .int r127), (7, .int r124), (6, .int r122), (0, va_rf (some b)), (1, va_rf (some f1)), (2, va_rf (some f2)), (3, va_rf (some f3)), (5, .int w5)]) dL_law_276 (by decide) rfl ?_
                  refine z_iload (C _) (pc := 278) dL_law_278 0 rfl ?_
                  refine z_if_eq (C _) (pc := 280) (tgt := 333) dL_law_280 (by decide) h (fun h => ?_) (fun h => ?_)
                  · refine z_iconst (C _) (pc := 333) (x := (0 : Int32)) dL_law_333 kic_0 ?_
                    refine z_istore (C _) (pc := 334) (lv' := [(4, .int (0 : Int32)), (8, .int r127), (7, .int r124), (6, .int r122), (0, va_rf (some b)), (1, va_rf (some f1)), (2, va_rf (some f2)), (3, va_rf (some f3)), (5, .int w5)]) dL_law_334 (by decide) rfl ?_
                    refine z_iinc (C _) (pc := 336) (y := w5 + (1 : Int32)) (lv' := [(5, .int (w5 + (1 : Int32))), (4, .int (0 : Int32)), (8, .int r127), (7, .int r124), (6, .int r122), (0, va_rf (some b)), (1, va_rf (some f1)), (2, va_rf (some f2)), (3, va_rf (some f3))]) dL_law_336 8 rfl rfl (by decide) rfl ?_
                    refine z_goto (C _) (pc := 339) (tgt := 125) dL_law_339 (by decide) ?_
                    refine z_sub [5, 6, 7, 8, 1, 0] (lv' := [(0, va_rf (some b)), (1, va_rf (some f1)), (2, va_rf (some f2)), (3, va_rf (some f3)), (4, .int (0 : Int32)), (5, .int (w5 + (1 : Int32)))]) rfl ?_
                    refine z_wide (kc' := 174900 - n * 1900) (ks' := 5156000 - n * 56000) (by omega) (by omega) ?_
                    exact ih S204 S205 S206 (0 : Int32) (w5 + (1 : Int32)) (by omega) t208 t209 h
                  · refine z_iload (C _) (pc := 283) dL_law_283 8 rfl ?_
                    refine z_bipush (C _) (pc := 285) (x := (15 : Int32)) dL_law_285 kbp_15 ?_
                    refine z_irem (C _) (pc := 287) dL_law_287 (by decide) ?_
                    refine z_if_gt (C _) (pc := 288) (tgt := 313) dL_law_288 (by decide) h (fun h => ?_) (fun h => ?_)
                    · refine z_iload (C _) (pc := 313) dL_law_313 8 rfl ?_
                      refine z_bipush (C _) (pc := 315) (x := (45 : Int32)) dL_law_315 kbp_45 ?_
                      refine z_irem (C _) (pc := 317) dL_law_317 (by decide) ?_
                      refine z_if_gt (C _) (pc := 318) (tgt := 329) dL_law_318 (by decide) h (fun h => ?_) (fun h => ?_)
                      · refine z_iconst (C _) (pc := 329) (x := (1 : Int32)) dL_law_329 kic_1 ?_
                        refine z_goto (C _) (pc := 330) (tgt := 334) dL_law_330 (by decide) ?_
                        refine z_istore (C _) (pc := 334) (lv' := [(4, .int (1 : Int32)), (8, .int r127), (7, .int r124), (6, .int r122), (0, va_rf (some b)), (1, va_rf (some f1)), (2, va_rf (some f2)), (3, va_rf (some f3)), (5, .int w5)]) dL_law_334 (by decide) rfl ?_
                        refine z_iinc (C _) (pc := 336) (y := w5 + (1 : Int32)) (lv' := [(5, .int (w5 + (1 : Int32))), (4, .int (1 : Int32)), (8, .int r127), (7, .int r124), (6, .int r122), (0, va_rf (some b)), (1, va_rf (some f1)), (2, va_rf (some f2)), (3, va_rf (some f3))]) dL_law_336 8 rfl rfl (by decide) rfl ?_
                        refine z_goto (C _) (pc := 339) (tgt := 125) dL_law_339 (by decide) ?_
                        refine z_sub [5, 6, 7, 8, 1, 0] (lv' := [(0, va_rf (some b)), (1, va_rf (some f1)), (2, va_rf (some f2)), (3, va_rf (some f3)), (4, .int (1 : Int32)), (5, .int (w5 + (1 : Int32)))]) rfl ?_
                        refine z_wide (kc' := 174900 - n * 1900) (ks' := 5156000 - n * 56000) (by omega) (by omega) ?_
                        exact ih S204 S205 S206 (1 : Int32) (w5 + (1 : Int32)) (by omega) t208 t209 h
                      · refine z_aload_n (C _) (pc := 321) dL_law_321 5 rfl ?_
                        refine z_aload_n (C _) (pc := 322) dL_law_322 7 rfl ?_
                        refine z_S3i (C []) (pc := 323) (kc' := (B + 1368)) (ks' := (B2 + 41832)) (As := [va_rf (some f1), va_rf (some f3)]) (rest := []) (c_L_refused l hfl v S204 S205 S206 f1 f3) mw_L_refused bw_876 bw_877 ⟨by have h9 : rm_L_refused.cells = 1230 := rfl; omega, by omega, by have h9 : rm_L_refused.slots = 37422 := rfl; omega, by omega, by decide, by decide⟩ rfl rfl (Nat.le_of_ble_eq_true rfl) t208 t209 dL_law_323 h (fun r213 S210 S211 S212 t214 t215 h => ?_)
                        refine z_t_if_eq (C _) (pc := 326) dL_law_326 dL_law_329 kic_1 dL_law_330 dL_law_333 kic_0 ?_
                        refine z_nI h (fun y216 h => ?_)
                        refine z_istore (C _) (pc := 334) (lv' := [(4, .int y216), (8, .int r127), (7, .int r124), (6, .int r122), (0, va_rf (some b)), (1, va_rf (some f1)), (2, va_rf (some f2)), (3, va_rf (some f3)), (5, .int w5)]) dL_law_334 (by decide) rfl ?_
                        refine z_iinc (C _) (pc := 336) (y := w5 + (1 : Int32)) (lv' := [(5, .int (w5 + (1 : Int32))), (4, .int y216), (8, .int r127), (7, .int r124), (6, .int r122), (0, va_rf (some b)), (1, va_rf (some f1)), (2, va_rf (some f2)), (3, va_rf (some f3))]) dL_law_336 8 rfl rfl (by decide) rfl ?_
                        refine z_goto (C _) (pc := 339) (tgt := 125) dL_law_339 (by decide) ?_
                        refine z_sub [5, 6, 7, 8, 1, 0] (lv' := [(0, va_rf (some b)), (1, va_rf (some f1)), (2, va_rf (some f2)), (3, va_rf (some f3)), (4, .int y216), (5, .int (w5 + (1 : Int32)))]) rfl ?_
                        refine z_wide (kc' := 174900 - n * 1900) (ks' := 5156000 - n * 56000) (by omega) (by omega) ?_
                        exact ih S210 S211 S212 y216 (w5 + (1 : Int32)) (by omega) t214 t215 h
                    · refine z_aload_n (C _) (pc := 291) dL_law_291 5 rfl ?_
                      refine z_aload_n (C _) (pc := 292) dL_law_292 7 rfl ?_
                      refine z_S3l (C []) (pc := 293) (kc' := (B + 159)) (ks' := (B2 + 4515)) (As := [va_rf (some f1), va_rf (some f3)]) (rest := []) (c_L_all l hfl v S204 S205 S206 f1 f3) mw_L_all bw_104 bw_105 ⟨by have h9 : rm_L_all.cells = 21 := rfl; omega, by omega, by have h9 : rm_L_all.slots = 105 := rfl; omega, by omega, by decide, by decide⟩ rfl rfl (Nat.le_of_ble_eq_true rfl) t208 t209 dL_law_293 h (fun r220 S217 S218 S219 t221 t222 h => ?_)
                      refine z_aload_n (C _) (pc := 296) dL_law_296 6 rfl ?_
                      refine z_aload_n (C _) (pc := 297) dL_law_297 7 rfl ?_
                      refine z_s12 ?_
                      refine z_S3l (C []) (pc := 298) (kc' := (B + 180)) (ks' := (B2 + 4620)) (As := [va_rf (some f2), va_rf (some f3)]) (rest := [.long r220]) (c_L_all l hfl v S218 S217 S219 f2 f3) mw_L_all bw_104 bw_105 ⟨by have h9 : rm_L_all.cells = 21 := rfl; omega, by omega, by have h9 : rm_L_all.slots = 105 := rfl; omega, by omega, by decide, by decide⟩ rfl rfl (Nat.le_of_ble_eq_true rfl) t222 t221 dL_law_298 h (fun r226 S223 S224 S225 t227 t228 h => ?_)
                      refine z_s12 ?_
                      refine z_lcmp (C _) (pc := 301) dL_law_301 ?_
                      refine z_if_ne (C _) (pc := 302) (tgt := 333) dL_law_302 (by decide) h (fun h => ?_) (fun h => ?_)
                      · refine z_iconst (C _) (pc := 333) (x := (0 : Int32)) dL_law_333 kic_0 ?_
                        refine z_istore (C _) (pc := 334) (lv' := [(4, .int (0 : Int32)), (8, .int r127), (7, .int r124), (6, .int r122), (0, va_rf (some b)), (1, va_rf (some f1)), (2, va_rf (some f2)), (3, va_rf (some f3)), (5, .int w5)]) dL_law_334 (by decide) rfl ?_
                        refine z_iinc (C _) (pc := 336) (y := w5 + (1 : Int32)) (lv' := [(5, .int (w5 + (1 : Int32))), (4, .int (0 : Int32)), (8, .int r127), (7, .int r124), (6, .int r122), (0, va_rf (some b)), (1, va_rf (some f1)), (2, va_rf (some f2)), (3, va_rf (some f3))]) dL_law_336 8 rfl rfl (by decide) rfl ?_
                        refine z_goto (C _) (pc := 339) (tgt := 125) dL_law_339 (by decide) ?_
                        refine z_sub [5, 6, 7, 8, 1, 0] (lv' := [(0, va_rf (some b)), (1, va_rf (some f1)), (2, va_rf (some f2)), (3, va_rf (some f3)), (4, .int (0 : Int32)), (5, .int (w5 + (1 : Int32)))]) rfl ?_
                        refine z_wide (kc' := 174900 - n * 1900) (ks' := 5156000 - n * 56000) (by omega) (by omega) ?_
                        exact ih S224 S223 S225 (0 : Int32) (w5 + (1 : Int32)) (by omega) t228 t227 h
                      · refine z_aload_n (C _) (pc := 305) dL_law_305 5 rfl ?_
                        refine z_aload_n (C _) (pc := 306) dL_law_306 7 rfl ?_
                        refine z_S3i (C []) (pc := 307) (kc' := (B + 180)) (ks' := (B2 + 4620)) (As := [va_rf (some f1), va_rf (some f3)]) (rest := []) (c_L_sound l hfl v S224 S223 S225 f1 f3) mw_L_sound bw_873 bw_874 ⟨by have h9 : rm_L_sound.cells = 0 := rfl; omega, by omega, by have h9 : rm_L_sound.slots = 0 := rfl; omega, by omega, by decide, by decide⟩ rfl rfl (Nat.le_of_ble_eq_true rfl) t228 t227 dL_law_307 h (fun r232 S229 S230 S231 t233 t234 h => ?_)
                        refine z_if_eq (C _) (pc := 310) (tgt := 333) dL_law_310 (by decide) h (fun h => ?_) (fun h => ?_)
                        · refine z_iconst (C _) (pc := 333) (x := (0 : Int32)) dL_law_333 kic_0 ?_
                          refine z_istore (C _) (pc := 334) (lv' := [(4, .int (0 : Int32)), (8, .int r127), (7, .int r124), (6, .int r122), (0, va_rf (some b)), (1, va_rf (some f1)), (2, va_rf (some f2)), (3, va_rf (some f3)), (5, .int w5)]) dL_law_334 (by decide) rfl ?_
                          refine z_iinc (C _) (pc := 336) (y := w5 + (1 : Int32)) (lv' := [(5, .int (w5 + (1 : Int32))), (4, .int (0 : Int32)), (8, .int r127), (7, .int r124), (6, .int r122), (0, va_rf (some b)), (1, va_rf (some f1)), (2, va_rf (some f2)), (3, va_rf (some f3))]) dL_law_336 8 rfl rfl (by decide) rfl ?_
                          refine z_goto (C _) (pc := 339) (tgt := 125) dL_law_339 (by decide) ?_
                          refine z_sub [5, 6, 7, 8, 1, 0] (lv' := [(0, va_rf (some b)), (1, va_rf (some f1)), (2, va_rf (some f2)), (3, va_rf (some f3)), (4, .int (0 : Int32)), (5, .int (w5 + (1 : Int32)))]) rfl ?_
                          refine z_wide (kc' := 174900 - n * 1900) (ks' := 5156000 - n * 56000) (by omega) (by omega) ?_
                          exact ih S229 S230 S231 (0 : Int32) (w5 + (1 : Int32)) (by omega) t233 t234 h
                        · refine z_iload (C _) (pc := 313) dL_law_313 8 rfl ?_
                          refine z_bipush (C _) (pc := 315) (x := (45 : Int32)) dL_law_315 kbp_45 ?_
                          refine z_irem (C _) (pc := 317) dL_law_317 (by decide) ?_
                          refine z_if_gt (C _) (pc := 318) (tgt := 329) dL_law_318 (by decide) h (fun h => ?_) (fun h => ?_)
                          · refine z_iconst (C _) (pc := 329) (x := (1 : Int32)) dL_law_329 kic_1 ?_
                            refine z_goto (C _) (pc := 330) (tgt := 334) dL_law_330 (by decide) ?_
                            refine z_istore (C _) (pc := 334) (lv' := [(4, .int (1 : Int32)), (8, .int r127), (7, .int r124), (6, .int r122), (0, va_rf (some b)), (1, va_rf (some f1)), (2, va_rf (some f2)), (3, va_rf (some f3)), (5, .int w5)]) dL_law_334 (by decide) rfl ?_
                            refine z_iinc (C _) (pc := 336) (y := w5 + (1 : Int32)) (lv' := [(5, .int (w5 + (1 : Int32))), (4, .int (1 : Int32)), (8, .int r127), (7, .int r124), (6, .int r122), (0, va_rf (some b)), (1, va_rf (some f1)), (2, va_rf (some f2)), (3, va_rf (some f3))]) dL_law_336 8 rfl rfl (by decide) rfl ?_
                            refine z_goto (C _) (pc := 339) (tgt := 125) dL_law_339 (by decide) ?_
                            refine z_sub [5, 6, 7, 8, 1, 0] (lv' := [(0, va_rf (some b)), (1, va_rf (some f1)), (2, va_rf (some f2)), (3, va_rf (some f3)), (4, .int (1 : Int32)), (5, .int (w5 + (1 : Int32)))]) rfl ?_
                            refine z_wide (kc' := 174900 - n * 1900) (ks' := 5156000 - n * 56000) (by omega) (by omega) ?_
                            exact ih S229 S230 S231 (1 : Int32) (w5 + (1 : Int32)) (by omega) t233 t234 h
                          · refine z_aload_n (C _) (pc := 321) dL_law_321 5 rfl ?_
                            refine z_aload_n (C _) (pc := 322) dL_law_322 7 rfl ?_
                            refine z_S3i (C []) (pc := 323) (kc' := (B + 1410)) (ks' := (B2 + 42042)) (As := [va_rf (some f1), va_rf (some f3)]) (rest := []) (c_L_refused l hfl v S229 S230 S231 f1 f3) mw_L_refused bw_876 bw_877 ⟨by have h9 : rm_L_refused.cells = 1230 := rfl; omega, by omega, by have h9 : rm_L_refused.slots = 37422 := rfl; omega, by omega, by decide, by decide⟩ rfl rfl (Nat.le_of_ble_eq_true rfl) t233 t234 dL_law_323 h (fun r238 S235 S236 S237 t239 t240 h => ?_)
                            refine z_t_if_eq (C _) (pc := 326) dL_law_326 dL_law_329 kic_1 dL_law_330 dL_law_333 kic_0 ?_
                            refine z_nI h (fun y241 h => ?_)
                            refine z_istore (C _) (pc := 334) (lv' := [(4, .int y241), (8, .int r127), (7, .int r124), (6, .int r122), (0, va_rf (some b)), (1, va_rf (some f1)), (2, va_rf (some f2)), (3, va_rf (some f3)), (5, .int w5)]) dL_law_334 (by decide) rfl ?_
                            refine z_iinc (C _) (pc := 336) (y := w5 + (1 : Int32)) (lv' := [(5, .int (w5 + (1 : Int32))), (4, .int y241), (8, .int r127), (7, .int r124), (6, .int r122), (0, va_rf (some b)), (1, va_rf (some f1)), (2, va_rf (some f2)), (3, va_rf (some f3))]) dL_law_336 8 rfl rfl (by decide) rfl ?_
                            refine z_goto (C _) (pc := 339) (tgt := 125) dL_law_339 (by decide) ?_
                            refine z_sub [5, 6, 7, 8, 1, 0] (lv' := [(0, va_rf (some b)), (1, va_rf (some f1)), (2, va_rf (some f2)), (3, va_rf (some f3)), (4, .int y241), (5, .int (w5 + (1 : Int32)))]) rfl ?_
                            refine z_wide (kc' := 174900 - n * 1900) (ks' := 5156000 - n * 56000) (by omega) (by omega) ?_
                            exact ih S235 S236 S237 y241 (w5 + (1 : Int32)) (by omega) t239 t240 h
              · refine z_aload_n (C _) (pc := 227) dL_law_227 4 rfl ?_
                refine z_aload_n (C _) (pc := 228) dL_law_228 5 rfl ?_
                refine z_aload_n (C _) (pc := 229) dL_law_229 6 rfl ?_
                refine z_iload (C _) (pc := 230) dL_law_230 2 rfl ?_
                refine z_iconst (C _) (pc := 232) (x := (5 : Int32)) dL_law_232 kic_5 ?_
                refine z_ishr (C _) (pc := 233) dL_law_233 ?_
                refine z_iload (C _) (pc := 234) dL_law_234 1 rfl ?_
                refine z_S3i (C []) (pc := 236) (kc' := (B + 184)) (ks' := (B2 + 5880)) (As := [va_rf (some f1), va_rf (some f2), va_rf (some f3), .int (r122 >>> ((5 : Int32) &&& 31)), .int r124]) (rest := []) (c_L_leaders l hfl v S1 S2 S126 f1 f2 f3 (r122 >>> ((5 : Int32) &&& 31)) r124) mw_L_leaders bw_825 bw_826 ⟨by have h9 : rm_L_leaders.cells = 184 := rfl; omega, by omega, by have h9 : rm_L_leaders.slots = 5880 := rfl; omega, by omega, by decide, by decide⟩ rfl rfl (Nat.le_of_ble_eq_true rfl) t1 t2 dL_law_236 h (fun r245 S242 S243 S244 t246 t247 h => ?_)
                refine z_goto (C _) (pc := 239) (tgt := 276) dL_law_239 (by decide) ?_
                refine z_istore (C _) (pc := 276) (lv' := [(4, .int r245), (8, .int r127), (7, .int r124), (6, .int r122), (0, va_rf (some b)), (1, va_rf (some f1)), (2, va_rf (some f2)), (3, va_rf (some f3)), (5, .int w5)]) dL_law_276 (by decide) rfl ?_
                refine z_iload (C _) (pc := 278) dL_law_278 0 rfl ?_
                refine z_if_eq (C _) (pc := 280) (tgt := 333) dL_law_280 (by decide) h (fun h => ?_) (fun h => ?_)
                · refine z_iconst (C _) (pc := 333) (x := (0 : Int32)) dL_law_333 kic_0 ?_
                  refine z_istore (C _) (pc := 334) (lv' := [(4, .int (0 : Int32)), (8, .int r127), (7, .int r124), (6, .int r122), (0, va_rf (some b)), (1, va_rf (some f1)), (2, va_rf (some f2)), (3, va_rf (some f3)), (5, .int w5)]) dL_law_334 (by decide) rfl ?_
                  refine z_iinc (C _) (pc := 336) (y := w5 + (1 : Int32)) (lv' := [(5, .int (w5 + (1 : Int32))), (4, .int (0 : Int32)), (8, .int r127), (7, .int r124), (6, .int r122), (0, va_rf (some b)), (1, va_rf (some f1)), (2, va_rf (some f2)), (3, va_rf (some f3))]) dL_law_336 8 rfl rfl (by decide) rfl ?_
                  refine z_goto (C _) (pc := 339) (tgt := 125) dL_law_339 (by decide) ?_
                  refine z_sub [5, 6, 7, 8, 1, 0] (lv' := [(0, va_rf (some b)), (1, va_rf (some f1)), (2, va_rf (some f2)), (3, va_rf (some f3)), (4, .int (0 : Int32)), (5, .int (w5 + (1 : Int32)))]) rfl ?_
                  refine z_wide (kc' := 174900 - n * 1900) (ks' := 5156000 - n * 56000) (by omega) (by omega) ?_
                  exact ih S242 S243 S244 (0 : Int32) (w5 + (1 : Int32)) (by omega) t246 t247 h
                · refine z_iload (C _) (pc := 283) dL_law_283 8 rfl ?_
                  refine z_bipush (C _) (pc := 285) (x := (15 : Int32)) dL_law_285 kbp_15 ?_
                  refine z_irem (C _) (pc := 287) dL_law_287 (by decide) ?_
                  refine z_if_gt (C _) (pc := 288) (tgt := 313) dL_law_288 (by decide) h (fun h => ?_) (fun h => ?_)
                  · refine z_iload (C _) (pc := 313) dL_law_313 8 rfl ?_
                    refine z_bipush (C _) (pc := 315) (x := (45 : Int32)) dL_law_315 kbp_45 ?_
                    refine z_irem (C _) (pc := 317) dL_law_317 (by decide) ?_
                    refine z_if_gt (C _) (pc := 318) (tgt := 329) dL_law_318 (by decide) h (fun h => ?_) (fun h => ?_)
                    · refine z_iconst (C _) (pc := 329) (x := (1 : Int32)) dL_law_329 kic_1 ?_
                      refine z_goto (C _) (pc := 330) (tgt := 334) dL_law_330 (by decide) ?_
                      refine z_istore (C _) (pc := 334) (lv' := [(4, .int (1 : Int32)), (8, .int r127), (7, .int r124), (6, .int r122), (0, va_rf (some b)), (1, va_rf (some f1)), (2, va_rf (some f2)), (3, va_rf (some f3)), (5, .int w5)]) dL_law_334 (by decide) rfl ?_
                      refine z_iinc (C _) (pc := 336) (y := w5 + (1 : Int32)) (lv' := [(5, .int (w5 + (1 : Int32))), (4, .int (1 : Int32)), (8, .int r127), (7, .int r124), (6, .int r122), (0, va_rf (some b)), (1, va_rf (some f1)), (2, va_rf (some f2)), (3, va_rf (some f3))]) dL_law_336 8 rfl rfl (by decide) rfl ?_
                      refine z_goto (C _) (pc := 339) (tgt := 125) dL_law_339 (by decide) ?_
                      refine z_sub [5, 6, 7, 8, 1, 0] (lv' := [(0, va_rf (some b)), (1, va_rf (some f1)), (2, va_rf (some f2)), (3, va_rf (some f3)), (4, .int (1 : Int32)), (5, .int (w5 + (1 : Int32)))]) rfl ?_
                      refine z_wide (kc' := 174900 - n * 1900) (ks' := 5156000 - n * 56000) (by omega) (by omega) ?_
                      exact ih S242 S243 S244 (1 : Int32) (w5 + (1 : Int32)) (by omega) t246 t247 h
                    · refine z_aload_n (C _) (pc := 321) dL_law_321 5 rfl ?_
                      refine z_aload_n (C _) (pc := 322) dL_law_322 7 rfl ?_
                      refine z_S3i (C []) (pc := 323) (kc' := (B + 1414)) (ks' := (B2 + 43302)) (As := [va_rf (some f1), va_rf (some f3)]) (rest := []) (c_L_refused l hfl v S242 S243 S244 f1 f3) mw_L_refused bw_876 bw_877 ⟨by have h9 : rm_L_refused.cells = 1230 := rfl; omega, by omega, by have h9 : rm_L_refused.slots = 37422 := rfl; omega, by omega, by decide, by decide⟩ rfl rfl (Nat.le_of_ble_eq_true rfl) t246 t247 dL_law_323 h (fun r251 S248 S249 S250 t252 t253 h => ?_)
                      refine z_t_if_eq (C _) (pc := 326) dL_law_326 dL_law_329 kic_1 dL_law_330 dL_law_333 kic_0 ?_
                      refine z_nI h (fun y254 h => ?_)
                      refine z_istore (C _) (pc := 334) (lv' := [(4, .int y254), (8, .int r127), (7, .int r124), (6, .int r122), (0, va_rf (some b)), (1, va_rf (some f1)), (2, va_rf (some f2)), (3, va_rf (some f3)), (5, .int w5)]) dL_law_334 (by decide) rfl ?_
                      refine z_iinc (C _) (pc := 336) (y := w5 + (1 : Int32)) (lv' := [(5, .int (w5 + (1 : Int32))), (4, .int y254), (8, .int r127), (7, .int r124), (6, .int r122), (0, va_rf (some b)), (1, va_rf (some f1)), (2, va_rf (some f2)), (3, va_rf (some f3))]) dL_law_336 8 rfl rfl (by decide) rfl ?_
                      refine z_goto (C _) (pc := 339) (tgt := 125) dL_law_339 (by decide) ?_
                      refine z_sub [5, 6, 7, 8, 1, 0] (lv' := [(0, va_rf (some b)), (1, va_rf (some f1)), (2, va_rf (some f2)), (3, va_rf (some f3)), (4, .int y254), (5, .int (w5 + (1 : Int32)))]) rfl ?_
                      refine z_wide (kc' := 174900 - n * 1900) (ks' := 5156000 - n * 56000) (by omega) (by omega) ?_
                      exact ih S248 S249 S250 y254 (w5 + (1 : Int32)) (by omega) t252 t253 h
                  · refine z_aload_n (C _) (pc := 291) dL_law_291 5 rfl ?_
                    refine z_aload_n (C _) (pc := 292) dL_law_292 7 rfl ?_
                    refine z_S3l (C []) (pc := 293) (kc' := (B + 205)) (ks' := (B2 + 5985)) (As := [va_rf (some f1), va_rf (some f3)]) (rest := []) (c_L_all l hfl v S242 S243 S244 f1 f3) mw_L_all bw_104 bw_105 ⟨by have h9 : rm_L_all.cells = 21 := rfl; omega, by omega, by have h9 : rm_L_all.slots = 105 := rfl; omega, by omega, by decide, by decide⟩ rfl rfl (Nat.le_of_ble_eq_true rfl) t246 t247 dL_law_293 h (fun r258 S255 S256 S257 t259 t260 h => ?_)
                    refine z_aload_n (C _) (pc := 296) dL_law_296 6 rfl ?_
                    refine z_aload_n (C _) (pc := 297) dL_law_297 7 rfl ?_
                    refine z_s12 ?_
                    refine z_S3l (C []) (pc := 298) (kc' := (B + 226)) (ks' := (B2 + 6090)) (As := [va_rf (some f2), va_rf (some f3)]) (rest := [.long r258]) (c_L_all l hfl v S256 S255 S257 f2 f3) mw_L_all bw_104 bw_105 ⟨by have h9 : rm_L_all.cells = 21 := rfl; omega, by omega, by have h9 : rm_L_all.slots = 105 := rfl; omega, by omega, by decide, by decide⟩ rfl rfl (Nat.le_of_ble_eq_true rfl) t260 t259 dL_law_298 h (fun r264 S261 S262 S263 t265 t266 h => ?_)
                    refine z_s12 ?_
                    refine z_lcmp (C _) (pc := 301) dL_law_301 ?_
                    refine z_if_ne (C _) (pc := 302) (tgt := 333) dL_law_302 (by decide) h (fun h => ?_) (fun h => ?_)
                    · refine z_iconst (C _) (pc := 333) (x := (0 : Int32)) dL_law_333 kic_0 ?_
                      refine z_istore (C _) (pc := 334) (lv' := [(4, .int (0 : Int32)), (8, .int r127), (7, .int r124), (6, .int r122), (0, va_rf (some b)), (1, va_rf (some f1)), (2, va_rf (some f2)), (3, va_rf (some f3)), (5, .int w5)]) dL_law_334 (by decide) rfl ?_
                      refine z_iinc (C _) (pc := 336) (y := w5 + (1 : Int32)) (lv' := [(5, .int (w5 + (1 : Int32))), (4, .int (0 : Int32)), (8, .int r127), (7, .int r124), (6, .int r122), (0, va_rf (some b)), (1, va_rf (some f1)), (2, va_rf (some f2)), (3, va_rf (some f3))]) dL_law_336 8 rfl rfl (by decide) rfl ?_
                      refine z_goto (C _) (pc := 339) (tgt := 125) dL_law_339 (by decide) ?_
                      refine z_sub [5, 6, 7, 8, 1, 0] (lv' := [(0, va_rf (some b)), (1, va_rf (some f1)), (2, va_rf (some f2)), (3, va_rf (some f3)), (4, .int (0 : Int32)), (5, .int (w5 + (1 : Int32)))]) rfl ?_
                      refine z_wide (kc' := 174900 - n * 1900) (ks' := 5156000 - n * 56000) (by omega) (by omega) ?_
                      exact ih S262 S261 S263 (0 : Int32) (w5 + (1 : Int32)) (by omega) t266 t265 h
                    · refine z_aload_n (C _) (pc := 305) dL_law_305 5 rfl ?_
                      refine z_aload_n (C _) (pc := 306) dL_law_306 7 rfl ?_
                      refine z_S3i (C []) (pc := 307) (kc' := (B + 226)) (ks' := (B2 + 6090)) (As := [va_rf (some f1), va_rf (some f3)]) (rest := []) (c_L_sound l hfl v S262 S261 S263 f1 f3) mw_L_sound bw_873 bw_874 ⟨by have h9 : rm_L_sound.cells = 0 := rfl; omega, by omega, by have h9 : rm_L_sound.slots = 0 := rfl; omega, by omega, by decide, by decide⟩ rfl rfl (Nat.le_of_ble_eq_true rfl) t266 t265 dL_law_307 h (fun r270 S267 S268 S269 t271 t272 h => ?_)
                      refine z_if_eq (C _) (pc := 310) (tgt := 333) dL_law_310 (by decide) h (fun h => ?_) (fun h => ?_)
                      · refine z_iconst (C _) (pc := 333) (x := (0 : Int32)) dL_law_333 kic_0 ?_
                        refine z_istore (C _) (pc := 334) (lv' := [(4, .int (0 : Int32)), (8, .int r127), (7, .int r124), (6, .int r122), (0, va_rf (some b)), (1, va_rf (some f1)), (2, va_rf (some f2)), (3, va_rf (some f3)), (5, .int w5)]) dL_law_334 (by decide) rfl ?_
                        refine z_iinc (C _) (pc := 336) (y := w5 + (1 : Int32)) (lv' := [(5, .int (w5 + (1 : Int32))), (4, .int (0 : Int32)), (8, .int r127), (7, .int r124), (6, .int r122), (0, va_rf (some b)), (1, va_rf (some f1)), (2, va_rf (some f2)), (3, va_rf (some f3))]) dL_law_336 8 rfl rfl (by decide) rfl ?_
                        refine z_goto (C _) (pc := 339) (tgt := 125) dL_law_339 (by decide) ?_
                        refine z_sub [5, 6, 7, 8, 1, 0] (lv' := [(0, va_rf (some b)), (1, va_rf (some f1)), (2, va_rf (some f2)), (3, va_rf (some f3)), (4, .int (0 : Int32)), (5, .int (w5 + (1 : Int32)))]) rfl ?_
                        refine z_wide (kc' := 174900 - n * 1900) (ks' := 5156000 - n * 56000) (by omega) (by omega) ?_
                        exact ih S267 S268 S269 (0 : Int32) (w5 + (1 : Int32)) (by omega) t271 t272 h
                      · refine z_iload (C _) (pc := 313) dL_law_313 8 rfl ?_
                        refine z_bipush (C _) (pc := 315) (x := (45 : Int32)) dL_law_315 kbp_45 ?_
                        refine z_irem (C _) (pc := 317) dL_law_317 (by decide) ?_
                        refine z_if_gt (C _) (pc := 318) (tgt := 329) dL_law_318 (by decide) h (fun h => ?_) (fun h => ?_)
                        · refine z_iconst (C _) (pc := 329) (x := (1 : Int32)) dL_law_329 kic_1 ?_
                          refine z_goto (C _) (pc := 330) (tgt := 334) dL_law_330 (by decide) ?_
                          refine z_istore (C _) (pc := 334) (lv' := [(4, .int (1 : Int32)), (8, .int r127), (7, .int r124), (6, .int r122), (0, va_rf (some b)), (1, va_rf (some f1)), (2, va_rf (some f2)), (3, va_rf (some f3)), (5, .int w5)]) dL_law_334 (by decide) rfl ?_
                          refine z_iinc (C _) (pc := 336) (y := w5 + (1 : Int32)) (lv' := [(5, .int (w5 + (1 : Int32))), (4, .int (1 : Int32)), (8, .int r127), (7, .int r124), (6, .int r122), (0, va_rf (some b)), (1, va_rf (some f1)), (2, va_rf (some f2)), (3, va_rf (some f3))]) dL_law_336 8 rfl rfl (by decide) rfl ?_
                          refine z_goto (C _) (pc := 339) (tgt := 125) dL_law_339 (by decide) ?_
                          refine z_sub [5, 6, 7, 8, 1, 0] (lv' := [(0, va_rf (some b)), (1, va_rf (some f1)), (2, va_rf (some f2)), (3, va_rf (some f3)), (4, .int (1 : Int32)), (5, .int (w5 + (1 : Int32)))]) rfl ?_
                          refine z_wide (kc' := 174900 - n * 1900) (ks' := 5156000 - n * 56000) (by omega) (by omega) ?_
                          exact ih S267 S268 S269 (1 : Int32) (w5 + (1 : Int32)) (by omega) t271 t272 h
                        · refine z_aload_n (C _) (pc := 321) dL_law_321 5 rfl ?_
                          refine z_aload_n (C _) (pc := 322) dL_law_322 7 rfl ?_
                          refine z_S3i (C []) (pc := 323) (kc' := (B + 1456)) (ks' := (B2 + 43512)) (As := [va_rf (some f1), va_rf (some f3)]) (rest := []) (c_L_refused l hfl v S267 S268 S269 f1 f3) mw_L_refused bw_876 bw_877 ⟨by have h9 : rm_L_refused.cells = 1230 := rfl; omega, by omega, by have h9 : rm_L_refused.slots = 37422 := rfl; omega, by omega, by decide, by decide⟩ rfl rfl (Nat.le_of_ble_eq_true rfl) t271 t272 dL_law_323 h (fun r276 S273 S274 S275 t277 t278 h => ?_)
                          refine z_t_if_eq (C _) (pc := 326) dL_law_326 dL_law_329 kic_1 dL_law_330 dL_law_333 kic_0 ?_
                          refine z_nI h (fun y279 h => ?_)
                          refine z_istore (C _) (pc := 334) (lv' := [(4, .int y279), (8, .int r127), (7, .int r124), (6, .int r122), (0, va_rf (some b)), (1, va_rf (some f1)), (2, va_rf (some f2)), (3, va_rf (some f3)), (5, .int w5)]) dL_law_334 (by decide) rfl ?_
                          refine z_iinc (C _) (pc := 336) (y := w5 + (1 : Int32)) (lv' := [(5, .int (w5 + (1 : Int32))), (4, .int y279), (8, .int r127), (7, .int r124), (6, .int r122), (0, va_rf (some b)), (1, va_rf (some f1)), (2, va_rf (some f2)), (3, va_rf (some f3))]) dL_law_336 8 rfl rfl (by decide) rfl ?_
                          refine z_goto (C _) (pc := 339) (tgt := 125) dL_law_339 (by decide) ?_
                          refine z_sub [5, 6, 7, 8, 1, 0] (lv' := [(0, va_rf (some b)), (1, va_rf (some f1)), (2, va_rf (some f2)), (3, va_rf (some f3)), (4, .int y279), (5, .int (w5 + (1 : Int32)))]) rfl ?_
                          refine z_wide (kc' := 174900 - n * 1900) (ks' := 5156000 - n * 56000) (by omega) (by omega) ?_
                          exact ih S273 S274 S275 y279 (w5 + (1 : Int32)) (by omega) t277 t278 h
            · refine z_aload_n (C _) (pc := 205) dL_law_205 4 rfl ?_
              refine z_aload_n (C _) (pc := 206) dL_law_206 5 rfl ?_
              refine z_aload_n (C _) (pc := 207) dL_law_207 6 rfl ?_
              refine z_iload (C _) (pc := 208) dL_law_208 2 rfl ?_
              refine z_iconst (C _) (pc := 210) (x := (5 : Int32)) dL_law_210 kic_5 ?_
              refine z_ishr (C _) (pc := 211) dL_law_211 ?_
              refine z_iload (C _) (pc := 212) dL_law_212 1 rfl ?_
              refine z_S3i (C []) (pc := 214) (kc' := (B + 552)) (ks' := (B2 + 17640)) (As := [va_rf (some f1), va_rf (some f2), va_rf (some f3), .int (r122 >>> ((5 : Int32) &&& 31)), .int r124]) (rest := []) (c_L_badges l hfl v S1 S2 S126 f1 f2 f3 (r122 >>> ((5 : Int32) &&& 31)) r124) mw_L_badges bw_783 bw_784 ⟨by have h9 : rm_L_badges.cells = 552 := rfl; omega, by omega, by have h9 : rm_L_badges.slots = 17640 := rfl; omega, by omega, by decide, by decide⟩ rfl rfl (Nat.le_of_ble_eq_true rfl) t1 t2 dL_law_214 h (fun r283 S280 S281 S282 t284 t285 h => ?_)
              refine z_goto (C _) (pc := 217) (tgt := 276) dL_law_217 (by decide) ?_
              refine z_istore (C _) (pc := 276) (lv' := [(4, .int r283), (8, .int r127), (7, .int r124), (6, .int r122), (0, va_rf (some b)), (1, va_rf (some f1)), (2, va_rf (some f2)), (3, va_rf (some f3)), (5, .int w5)]) dL_law_276 (by decide) rfl ?_
              refine z_iload (C _) (pc := 278) dL_law_278 0 rfl ?_
              refine z_if_eq (C _) (pc := 280) (tgt := 333) dL_law_280 (by decide) h (fun h => ?_) (fun h => ?_)
              · refine z_iconst (C _) (pc := 333) (x := (0 : Int32)) dL_law_333 kic_0 ?_
                refine z_istore (C _) (pc := 334) (lv' := [(4, .int (0 : Int32)), (8, .int r127), (7, .int r124), (6, .int r122), (0, va_rf (some b)), (1, va_rf (some f1)), (2, va_rf (some f2)), (3, va_rf (some f3)), (5, .int w5)]) dL_law_334 (by decide) rfl ?_
                refine z_iinc (C _) (pc := 336) (y := w5 + (1 : Int32)) (lv' := [(5, .int (w5 + (1 : Int32))), (4, .int (0 : Int32)), (8, .int r127), (7, .int r124), (6, .int r122), (0, va_rf (some b)), (1, va_rf (some f1)), (2, va_rf (some f2)), (3, va_rf (some f3))]) dL_law_336 8 rfl rfl (by decide) rfl ?_
                refine z_goto (C _) (pc := 339) (tgt := 125) dL_law_339 (by decide) ?_
                refine z_sub [5, 6, 7, 8, 1, 0] (lv' := [(0, va_rf (some b)), (1, va_rf (some f1)), (2, va_rf (some f2)), (3, va_rf (some f3)), (4, .int (0 : Int32)), (5, .int (w5 + (1 : Int32)))]) rfl ?_
                refine z_wide (kc' := 174900 - n * 1900) (ks' := 5156000 - n * 56000) (by omega) (by omega) ?_
                exact ih S280 S281 S282 (0 : Int32) (w5 + (1 : Int32)) (by omega) t284 t285 h
              · refine z_iload (C _) (pc := 283) dL_law_283 8 rfl ?_
                refine z_bipush (C _) (pc := 285) (x := (15 : Int32)) dL_law_285 kbp_15 ?_
                refine z_irem (C _) (pc := 287) dL_law_287 (by decide) ?_
                refine z_if_gt (C _) (pc := 288) (tgt := 313) dL_law_288 (by decide) h (fun h => ?_) (fun h => ?_)
                · refine z_iload (C _) (pc := 313) dL_law_313 8 rfl ?_
                  refine z_bipush (C _) (pc := 315) (x := (45 : Int32)) dL_law_315 kbp_45 ?_
                  refine z_irem (C _) (pc := 317) dL_law_317 (by decide) ?_
                  refine z_if_gt (C _) (pc := 318) (tgt := 329) dL_law_318 (by decide) h (fun h => ?_) (fun h => ?_)
                  · refine z_iconst (C _) (pc := 329) (x := (1 : Int32)) dL_law_329 kic_1 ?_
                    refine z_goto (C _) (pc := 330) (tgt := 334) dL_law_330 (by decide) ?_
                    refine z_istore (C _) (pc := 334) (lv' := [(4, .int (1 : Int32)), (8, .int r127), (7, .int r124), (6, .int r122), (0, va_rf (some b)), (1, va_rf (some f1)), (2, va_rf (some f2)), (3, va_rf (some f3)), (5, .int w5)]) dL_law_334 (by decide) rfl ?_
                    refine z_iinc (C _) (pc := 336) (y := w5 + (1 : Int32)) (lv' := [(5, .int (w5 + (1 : Int32))), (4, .int (1 : Int32)), (8, .int r127), (7, .int r124), (6, .int r122), (0, va_rf (some b)), (1, va_rf (some f1)), (2, va_rf (some f2)), (3, va_rf (some f3))]) dL_law_336 8 rfl rfl (by decide) rfl ?_
                    refine z_goto (C _) (pc := 339) (tgt := 125) dL_law_339 (by decide) ?_
                    refine z_sub [5, 6, 7, 8, 1, 0] (lv' := [(0, va_rf (some b)), (1, va_rf (some f1)), (2, va_rf (some f2)), (3, va_rf (some f3)), (4, .int (1 : Int32)), (5, .int (w5 + (1 : Int32)))]) rfl ?_
                    refine z_wide (kc' := 174900 - n * 1900) (ks' := 5156000 - n * 56000) (by omega) (by omega) ?_
                    exact ih S280 S281 S282 (1 : Int32) (w5 + (1 : Int32)) (by omega) t284 t285 h
                  · refine z_aload_n (C _) (pc := 321) dL_law_321 5 rfl ?_
                    refine z_aload_n (C _) (pc := 322) dL_law_322 7 rfl ?_
                    refine z_S3i (C []) (pc := 323) (kc' := (B + 1782)) (ks' := (B2 + 55062)) (As := [va_rf (some f1), va_rf (some f3)]) (rest := []) (c_L_refused l hfl v S280 S281 S282 f1 f3) mw_L_refused bw_876 bw_877 ⟨by have h9 : rm_L_refused.cells = 1230 := rfl; omega, by omega, by have h9 : rm_L_refused.slots = 37422 := rfl; omega, by omega, by decide, by decide⟩ rfl rfl (Nat.le_of_ble_eq_true rfl) t284 t285 dL_law_323 h (fun r289 S286 S287 S288 t290 t291 h => ?_)
                    refine z_t_if_eq (C _) (pc := 326) dL_law_326 dL_law_329 kic_1 dL_law_330 dL_law_333 kic_0 ?_
                    refine z_nI h (fun y292 h => ?_)
                    refine z_istore (C _) (pc := 334) (lv' := [(4, .int y292), (8, .int r127), (7, .int r124), (6, .int r122), (0, va_rf (some b)), (1, va_rf (some f1)), (2, va_rf (some f2)), (3, va_rf (some f3)), (5, .int w5)]) dL_law_334 (by decide) rfl ?_
                    refine z_iinc (C _) (pc := 336) (y := w5 + (1 : Int32)) (lv' := [(5, .int (w5 + (1 : Int32))), (4, .int y292), (8, .int r127), (7, .int r124), (6, .int r122), (0, va_rf (some b)), (1, va_rf (some f1)), (2, va_rf (some f2)), (3, va_rf (some f3))]) dL_law_336 8 rfl rfl (by decide) rfl ?_
                    refine z_goto (C _) (pc := 339) (tgt := 125) dL_law_339 (by decide) ?_
                    refine z_sub [5, 6, 7, 8, 1, 0] (lv' := [(0, va_rf (some b)), (1, va_rf (some f1)), (2, va_rf (some f2)), (3, va_rf (some f3)), (4, .int y292), (5, .int (w5 + (1 : Int32)))]) rfl ?_
                    refine z_wide (kc' := 174900 - n * 1900) (ks' := 5156000 - n * 56000) (by omega) (by omega) ?_
                    exact ih S286 S287 S288 y292 (w5 + (1 : Int32)) (by omega) t290 t291 h
                · refine z_aload_n (C _) (pc := 291) dL_law_291 5 rfl ?_
                  refine z_aload_n (C _) (pc := 292) dL_law_292 7 rfl ?_
                  refine z_S3l (C []) (pc := 293) (kc' := (B + 573)) (ks' := (B2 + 17745)) (As := [va_rf (some f1), va_rf (some f3)]) (rest := []) (c_L_all l hfl v S280 S281 S282 f1 f3) mw_L_all bw_104 bw_105 ⟨by have h9 : rm_L_all.cells = 21 := rfl; omega, by omega, by have h9 : rm_L_all.slots = 105 := rfl; omega, by omega, by decide, by decide⟩ rfl rfl (Nat.le_of_ble_eq_true rfl) t284 t285 dL_law_293 h (fun r296 S293 S294 S295 t297 t298 h => ?_)
                  refine z_aload_n (C _) (pc := 296) dL_law_296 6 rfl ?_
                  refine z_aload_n (C _) (pc := 297) dL_law_297 7 rfl ?_
                  refine z_s12 ?_
                  refine z_S3l (C []) (pc := 298) (kc' := (B + 594)) (ks' := (B2 + 17850)) (As := [va_rf (some f2), va_rf (some f3)]) (rest := [.long r296]) (c_L_all l hfl v S294 S293 S295 f2 f3) mw_L_all bw_104 bw_105 ⟨by have h9 : rm_L_all.cells = 21 := rfl; omega, by omega, by have h9 : rm_L_all.slots = 105 := rfl; omega, by omega, by decide, by decide⟩ rfl rfl (Nat.le_of_ble_eq_true rfl) t298 t297 dL_law_298 h (fun r302 S299 S300 S301 t303 t304 h => ?_)
                  refine z_s12 ?_
                  refine z_lcmp (C _) (pc := 301) dL_law_301 ?_
                  refine z_if_ne (C _) (pc := 302) (tgt := 333) dL_law_302 (by decide) h (fun h => ?_) (fun h => ?_)
                  · refine z_iconst (C _) (pc := 333) (x := (0 : Int32)) dL_law_333 kic_0 ?_
                    refine z_istore (C _) (pc := 334) (lv' := [(4, .int (0 : Int32)), (8, .int r127), (7, .int r124), (6, .int r122), (0, va_rf (some b)), (1, va_rf (some f1)), (2, va_rf (some f2)), (3, va_rf (some f3)), (5, .int w5)]) dL_law_334 (by decide) rfl ?_
                    refine z_iinc (C _) (pc := 336) (y := w5 + (1 : Int32)) (lv' := [(5, .int (w5 + (1 : Int32))), (4, .int (0 : Int32)), (8, .int r127), (7, .int r124), (6, .int r122), (0, va_rf (some b)), (1, va_rf (some f1)), (2, va_rf (some f2)), (3, va_rf (some f3))]) dL_law_336 8 rfl rfl (by decide) rfl ?_
                    refine z_goto (C _) (pc := 339) (tgt := 125) dL_law_339 (by decide) ?_
                    refine z_sub [5, 6, 7, 8, 1, 0] (lv' := [(0, va_rf (some b)), (1, va_rf (some f1)), (2, va_rf (some f2)), (3, va_rf (some f3)), (4, .int (0 : Int32)), (5, .int (w5 + (1 : Int32)))]) rfl ?_
                    refine z_wide (kc' := 174900 - n * 1900) (ks' := 5156000 - n * 56000) (by omega) (by omega) ?_
                    exact ih S300 S299 S301 (0 : Int32) (w5 + (1 : Int32)) (by omega) t304 t303 h
                  · refine z_aload_n (C _) (pc := 305) dL_law_305 5 rfl ?_
                    refine z_aload_n (C _) (pc := 306) dL_law_306 7 rfl ?_
                    refine z_S3i (C []) (pc := 307) (kc' := (B + 594)) (ks' := (B2 + 17850)) (As := [va_rf (some f1), va_rf (some f3)]) (rest := []) (c_L_sound l hfl v S300 S299 S301 f1 f3) mw_L_sound bw_873 bw_874 ⟨by have h9 : rm_L_sound.cells = 0 := rfl; omega, by omega, by have h9 : rm_L_sound.slots = 0 := rfl; omega, by omega, by decide, by decide⟩ rfl rfl (Nat.le_of_ble_eq_true rfl) t304 t303 dL_law_307 h (fun r308 S305 S306 S307 t309 t310 h => ?_)
                    refine z_if_eq (C _) (pc := 310) (tgt := 333) dL_law_310 (by decide) h (fun h => ?_) (fun h => ?_)
                    · refine z_iconst (C _) (pc := 333) (x := (0 : Int32)) dL_law_333 kic_0 ?_
                      refine z_istore (C _) (pc := 334) (lv' := [(4, .int (0 : Int32)), (8, .int r127), (7, .int r124), (6, .int r122), (0, va_rf (some b)), (1, va_rf (some f1)), (2, va_rf (some f2)), (3, va_rf (some f3)), (5, .int w5)]) dL_law_334 (by decide) rfl ?_
                      refine z_iinc (C _) (pc := 336) (y := w5 + (1 : Int32)) (lv' := [(5, .int (w5 + (1 : Int32))), (4, .int (0 : Int32)), (8, .int r127), (7, .int r124), (6, .int r122), (0, va_rf (some b)), (1, va_rf (some f1)), (2, va_rf (some f2)), (3, va_rf (some f3))]) dL_law_336 8 rfl rfl (by decide) rfl ?_
                      refine z_goto (C _) (pc := 339) (tgt := 125) dL_law_339 (by decide) ?_
                      refine z_sub [5, 6, 7, 8, 1, 0] (lv' := [(0, va_rf (some b)), (1, va_rf (some f1)), (2, va_rf (some f2)), (3, va_rf (some f3)), (4, .int (0 : Int32)), (5, .int (w5 + (1 : Int32)))]) rfl ?_
                      refine z_wide (kc' := 174900 - n * 1900) (ks' := 5156000 - n * 56000) (by omega) (by omega) ?_
                      exact ih S305 S306 S307 (0 : Int32) (w5 + (1 : Int32)) (by omega) t309 t310 h
                    · refine z_iload (C _) (pc := 313) dL_law_313 8 rfl ?_
                      refine z_bipush (C _) (pc := 315) (x := (45 : Int32)) dL_law_315 kbp_45 ?_
                      refine z_irem (C _) (pc := 317) dL_law_317 (by decide) ?_
                      refine z_if_gt (C _) (pc := 318) (tgt := 329) dL_law_318 (by decide) h (fun h => ?_) (fun h => ?_)
                      · refine z_iconst (C _) (pc := 329) (x := (1 : Int32)) dL_law_329 kic_1 ?_
                        refine z_goto (C _) (pc := 330) (tgt := 334) dL_law_330 (by decide) ?_
                        refine z_istore (C _) (pc := 334) (lv' := [(4, .int (1 : Int32)), (8, .int r127), (7, .int r124), (6, .int r122), (0, va_rf (some b)), (1, va_rf (some f1)), (2, va_rf (some f2)), (3, va_rf (some f3)), (5, .int w5)]) dL_law_334 (by decide) rfl ?_
                        refine z_iinc (C _) (pc := 336) (y := w5 + (1 : Int32)) (lv' := [(5, .int (w5 + (1 : Int32))), (4, .int (1 : Int32)), (8, .int r127), (7, .int r124), (6, .int r122), (0, va_rf (some b)), (1, va_rf (some f1)), (2, va_rf (some f2)), (3, va_rf (some f3))]) dL_law_336 8 rfl rfl (by decide) rfl ?_
                        refine z_goto (C _) (pc := 339) (tgt := 125) dL_law_339 (by decide) ?_
                        refine z_sub [5, 6, 7, 8, 1, 0] (lv' := [(0, va_rf (some b)), (1, va_rf (some f1)), (2, va_rf (some f2)), (3, va_rf (some f3)), (4, .int (1 : Int32)), (5, .int (w5 + (1 : Int32)))]) rfl ?_
                        refine z_wide (kc' := 174900 - n * 1900) (ks' := 5156000 - n * 56000) (by omega) (by omega) ?_
                        exact ih S305 S306 S307 (1 : Int32) (w5 + (1 : Int32)) (by omega) t309 t310 h
                      · refine z_aload_n (C _) (pc := 321) dL_law_321 5 rfl ?_
                        refine z_aload_n (C _) (pc := 322) dL_law_322 7 rfl ?_
                        refine z_S3i (C []) (pc := 323) (kc' := (B + 1824)) (ks' := (B2 + 55272)) (As := [va_rf (some f1), va_rf (some f3)]) (rest := []) (c_L_refused l hfl v S305 S306 S307 f1 f3) mw_L_refused bw_876 bw_877 ⟨by have h9 : rm_L_refused.cells = 1230 := rfl; omega, by omega, by have h9 : rm_L_refused.slots = 37422 := rfl; omega, by omega, by decide, by decide⟩ rfl rfl (Nat.le_of_ble_eq_true rfl) t309 t310 dL_law_323 h (fun r314 S311 S312 S313 t315 t316 h => ?_)
                        refine z_t_if_eq (C _) (pc := 326) dL_law_326 dL_law_329 kic_1 dL_law_330 dL_law_333 kic_0 ?_
                        refine z_nI h (fun y317 h => ?_)
                        refine z_istore (C _) (pc := 334) (lv' := [(4, .int y317), (8, .int r127), (7, .int r124), (6, .int r122), (0, va_rf (some b)), (1, va_rf (some f1)), (2, va_rf (some f2)), (3, va_rf (some f3)), (5, .int w5)]) dL_law_334 (by decide) rfl ?_
                        refine z_iinc (C _) (pc := 336) (y := w5 + (1 : Int32)) (lv' := [(5, .int (w5 + (1 : Int32))), (4, .int y317), (8, .int r127), (7, .int r124), (6, .int r122), (0, va_rf (some b)), (1, va_rf (some f1)), (2, va_rf (some f2)), (3, va_rf (some f3))]) dL_law_336 8 rfl rfl (by decide) rfl ?_
                        refine z_goto (C _) (pc := 339) (tgt := 125) dL_law_339 (by decide) ?_
                        refine z_sub [5, 6, 7, 8, 1, 0] (lv' := [(0, va_rf (some b)), (1, va_rf (some f1)), (2, va_rf (some f2)), (3, va_rf (some f3)), (4, .int y317), (5, .int (w5 + (1 : Int32)))]) rfl ?_
                        refine z_wide (kc' := 174900 - n * 1900) (ks' := 5156000 - n * 56000) (by omega) (by omega) ?_
                        exact ih S311 S312 S313 y317 (w5 + (1 : Int32)) (by omega) t315 t316 h
          · refine z_aload_n (C _) (pc := 183) dL_law_183 4 rfl ?_
            refine z_aload_n (C _) (pc := 184) dL_law_184 5 rfl ?_
            refine z_aload_n (C _) (pc := 185) dL_law_185 6 rfl ?_
            refine z_iload (C _) (pc := 186) dL_law_186 2 rfl ?_
            refine z_iconst (C _) (pc := 188) (x := (5 : Int32)) dL_law_188 kic_5 ?_
            refine z_ishr (C _) (pc := 189) dL_law_189 ?_
            refine z_iload (C _) (pc := 190) dL_law_190 1 rfl ?_
            refine z_S3i (C []) (pc := 192) (kc' := (B + 92)) (ks' := (B2 + 2940)) (As := [va_rf (some f1), va_rf (some f2), va_rf (some f3), .int (r122 >>> ((5 : Int32) &&& 31)), .int r124]) (rest := []) (c_L_children l hfl v S1 S2 S126 f1 f2 f3 (r122 >>> ((5 : Int32) &&& 31)) r124) mw_L_children bw_780 bw_781 ⟨by have h9 : rm_L_children.cells = 92 := rfl; omega, by omega, by have h9 : rm_L_children.slots = 2940 := rfl; omega, by omega, by decide, by decide⟩ rfl rfl (Nat.le_of_ble_eq_true rfl) t1 t2 dL_law_192 h (fun r321 S318 S319 S320 t322 t323 h => ?_)
            refine z_goto (C _) (pc := 195) (tgt := 276) dL_law_195 (by decide) ?_
            refine z_istore (C _) (pc := 276) (lv' := [(4, .int r321), (8, .int r127), (7, .int r124), (6, .int r122), (0, va_rf (some b)), (1, va_rf (some f1)), (2, va_rf (some f2)), (3, va_rf (some f3)), (5, .int w5)]) dL_law_276 (by decide) rfl ?_
            refine z_iload (C _) (pc := 278) dL_law_278 0 rfl ?_
            refine z_if_eq (C _) (pc := 280) (tgt := 333) dL_law_280 (by decide) h (fun h => ?_) (fun h => ?_)
            · refine z_iconst (C _) (pc := 333) (x := (0 : Int32)) dL_law_333 kic_0 ?_
              refine z_istore (C _) (pc := 334) (lv' := [(4, .int (0 : Int32)), (8, .int r127), (7, .int r124), (6, .int r122), (0, va_rf (some b)), (1, va_rf (some f1)), (2, va_rf (some f2)), (3, va_rf (some f3)), (5, .int w5)]) dL_law_334 (by decide) rfl ?_
              refine z_iinc (C _) (pc := 336) (y := w5 + (1 : Int32)) (lv' := [(5, .int (w5 + (1 : Int32))), (4, .int (0 : Int32)), (8, .int r127), (7, .int r124), (6, .int r122), (0, va_rf (some b)), (1, va_rf (some f1)), (2, va_rf (some f2)), (3, va_rf (some f3))]) dL_law_336 8 rfl rfl (by decide) rfl ?_
              refine z_goto (C _) (pc := 339) (tgt := 125) dL_law_339 (by decide) ?_
              refine z_sub [5, 6, 7, 8, 1, 0] (lv' := [(0, va_rf (some b)), (1, va_rf (some f1)), (2, va_rf (some f2)), (3, va_rf (some f3)), (4, .int (0 : Int32)), (5, .int (w5 + (1 : Int32)))]) rfl ?_
              refine z_wide (kc' := 174900 - n * 1900) (ks' := 5156000 - n * 56000) (by omega) (by omega) ?_
              exact ih S318 S319 S320 (0 : Int32) (w5 + (1 : Int32)) (by omega) t322 t323 h
            · refine z_iload (C _) (pc := 283) dL_law_283 8 rfl ?_
              refine z_bipush (C _) (pc := 285) (x := (15 : Int32)) dL_law_285 kbp_15 ?_
              refine z_irem (C _) (pc := 287) dL_law_287 (by decide) ?_
              refine z_if_gt (C _) (pc := 288) (tgt := 313) dL_law_288 (by decide) h (fun h => ?_) (fun h => ?_)
              · refine z_iload (C _) (pc := 313) dL_law_313 8 rfl ?_
                refine z_bipush (C _) (pc := 315) (x := (45 : Int32)) dL_law_315 kbp_45 ?_
                refine z_irem (C _) (pc := 317) dL_law_317 (by decide) ?_
                refine z_if_gt (C _) (pc := 318) (tgt := 329) dL_law_318 (by decide) h (fun h => ?_) (fun h => ?_)
                · refine z_iconst (C _) (pc := 329) (x := (1 : Int32)) dL_law_329 kic_1 ?_
                  refine z_goto (C _) (pc := 330) (tgt := 334) dL_law_330 (by decide) ?_
                  refine z_istore (C _) (pc := 334) (lv' := [(4, .int (1 : Int32)), (8, .int r127), (7, .int r124), (6, .int r122), (0, va_rf (some b)), (1, va_rf (some f1)), (2, va_rf (some f2)), (3, va_rf (some f3)), (5, .int w5)]) dL_law_334 (by decide) rfl ?_
                  refine z_iinc (C _) (pc := 336) (y := w5 + (1 : Int32)) (lv' := [(5, .int (w5 + (1 : Int32))), (4, .int (1 : Int32)), (8, .int r127), (7, .int r124), (6, .int r122), (0, va_rf (some b)), (1, va_rf (some f1)), (2, va_rf (some f2)), (3, va_rf (some f3))]) dL_law_336 8 rfl rfl (by decide) rfl ?_
                  refine z_goto (C _) (pc := 339) (tgt := 125) dL_law_339 (by decide) ?_
                  refine z_sub [5, 6, 7, 8, 1, 0] (lv' := [(0, va_rf (some b)), (1, va_rf (some f1)), (2, va_rf (some f2)), (3, va_rf (some f3)), (4, .int (1 : Int32)), (5, .int (w5 + (1 : Int32)))]) rfl ?_
                  refine z_wide (kc' := 174900 - n * 1900) (ks' := 5156000 - n * 56000) (by omega) (by omega) ?_
                  exact ih S318 S319 S320 (1 : Int32) (w5 + (1 : Int32)) (by omega) t322 t323 h
                · refine z_aload_n (C _) (pc := 321) dL_law_321 5 rfl ?_
                  refine z_aload_n (C _) (pc := 322) dL_law_322 7 rfl ?_
                  refine z_S3i (C []) (pc := 323) (kc' := (B + 1322)) (ks' := (B2 + 40362)) (As := [va_rf (some f1), va_rf (some f3)]) (rest := []) (c_L_refused l hfl v S318 S319 S320 f1 f3) mw_L_refused bw_876 bw_877 ⟨by have h9 : rm_L_refused.cells = 1230 := rfl; omega, by omega, by have h9 : rm_L_refused.slots = 37422 := rfl; omega, by omega, by decide, by decide⟩ rfl rfl (Nat.le_of_ble_eq_true rfl) t322 t323 dL_law_323 h (fun r327 S324 S325 S326 t328 t329 h => ?_)
                  refine z_t_if_eq (C _) (pc := 326) dL_law_326 dL_law_329 kic_1 dL_law_330 dL_law_333 kic_0 ?_
                  refine z_nI h (fun y330 h => ?_)
                  refine z_istore (C _) (pc := 334) (lv' := [(4, .int y330), (8, .int r127), (7, .int r124), (6, .int r122), (0, va_rf (some b)), (1, va_rf (some f1)), (2, va_rf (some f2)), (3, va_rf (some f3)), (5, .int w5)]) dL_law_334 (by decide) rfl ?_
                  refine z_iinc (C _) (pc := 336) (y := w5 + (1 : Int32)) (lv' := [(5, .int (w5 + (1 : Int32))), (4, .int y330), (8, .int r127), (7, .int r124), (6, .int r122), (0, va_rf (some b)), (1, va_rf (some f1)), (2, va_rf (some f2)), (3, va_rf (some f3))]) dL_law_336 8 rfl rfl (by decide) rfl ?_
                  refine z_goto (C _) (pc := 339) (tgt := 125) dL_law_339 (by decide) ?_
                  refine z_sub [5, 6, 7, 8, 1, 0] (lv' := [(0, va_rf (some b)), (1, va_rf (some f1)), (2, va_rf (some f2)), (3, va_rf (some f3)), (4, .int y330), (5, .int (w5 + (1 : Int32)))]) rfl ?_
                  refine z_wide (kc' := 174900 - n * 1900) (ks' := 5156000 - n * 56000) (by omega) (by omega) ?_
                  exact ih S324 S325 S326 y330 (w5 + (1 : Int32)) (by omega) t328 t329 h
              · refine z_aload_n (C _) (pc := 291) dL_law_291 5 rfl ?_
                refine z_aload_n (C _) (pc := 292) dL_law_292 7 rfl ?_
                refine z_S3l (C []) (pc := 293) (kc' := (B + 113)) (ks' := (B2 + 3045)) (As := [va_rf (some f1), va_rf (some f3)]) (rest := []) (c_L_all l hfl v S318 S319 S320 f1 f3) mw_L_all bw_104 bw_105 ⟨by have h9 : rm_L_all.cells = 21 := rfl; omega, by omega, by have h9 : rm_L_all.slots = 105 := rfl; omega, by omega, by decide, by decide⟩ rfl rfl (Nat.le_of_ble_eq_true rfl) t322 t323 dL_law_293 h (fun r334 S331 S332 S333 t335 t336 h => ?_)
                refine z_aload_n (C _) (pc := 296) dL_law_296 6 rfl ?_
                refine z_aload_n (C _) (pc := 297) dL_law_297 7 rfl ?_
                refine z_s12 ?_
                refine z_S3l (C []) (pc := 298) (kc' := (B + 134)) (ks' := (B2 + 3150)) (As := [va_rf (some f2), va_rf (some f3)]) (rest := [.long r334]) (c_L_all l hfl v S332 S331 S333 f2 f3) mw_L_all bw_104 bw_105 ⟨by have h9 : rm_L_all.cells = 21 := rfl; omega, by omega, by have h9 : rm_L_all.slots = 105 := rfl; omega, by omega, by decide, by decide⟩ rfl rfl (Nat.le_of_ble_eq_true rfl) t336 t335 dL_law_298 h (fun r340 S337 S338 S339 t341 t342 h => ?_)
                refine z_s12 ?_
                refine z_lcmp (C _) (pc := 301) dL_law_301 ?_
                refine z_if_ne (C _) (pc := 302) (tgt := 333) dL_law_302 (by decide) h (fun h => ?_) (fun h => ?_)
                · refine z_iconst (C _) (pc := 333) (x := (0 : Int32)) dL_law_333 kic_0 ?_
                  refine z_istore (C _) (pc := 334) (lv' := [(4, .int (0 : Int32)), (8, .int r127), (7, .int r124), (6, .int r122), (0, va_rf (some b)), (1, va_rf (some f1)), (2, va_rf (some f2)), (3, va_rf (some f3)), (5, .int w5)]) dL_law_334 (by decide) rfl ?_
                  refine z_iinc (C _) (pc := 336) (y := w5 + (1 : Int32)) (lv' := [(5, .int (w5 + (1 : Int32))), (4, .int (0 : Int32)), (8, .int r127), (7, .int r124), (6, .int r122), (0, va_rf (some b)), (1, va_rf (some f1)), (2, va_rf (some f2)), (3, va_rf (some f3))]) dL_law_336 8 rfl rfl (by decide) rfl ?_
                  refine z_goto (C _) (pc := 339) (tgt := 125) dL_law_339 (by decide) ?_
                  refine z_sub [5, 6, 7, 8, 1, 0] (lv' := [(0, va_rf (some b)), (1, va_rf (some f1)), (2, va_rf (some f2)), (3, va_rf (some f3)), (4, .int (0 : Int32)), (5, .int (w5 + (1 : Int32)))]) rfl ?_
                  refine z_wide (kc' := 174900 - n * 1900) (ks' := 5156000 - n * 56000) (by omega) (by omega) ?_
                  exact ih S338 S337 S339 (0 : Int32) (w5 + (1 : Int32)) (by omega) t342 t341 h
                · refine z_aload_n (C _) (pc := 305) dL_law_305 5 rfl ?_
                  refine z_aload_n (C _) (pc := 306) dL_law_306 7 rfl ?_
                  refine z_S3i (C []) (pc := 307) (kc' := (B + 134)) (ks' := (B2 + 3150)) (As := [va_rf (some f1), va_rf (some f3)]) (rest := []) (c_L_sound l hfl v S338 S337 S339 f1 f3) mw_L_sound bw_873 bw_874 ⟨by have h9 : rm_L_sound.cells = 0 := rfl; omega, by omega, by have h9 : rm_L_sound.slots = 0 := rfl; omega, by omega, by decide, by decide⟩ rfl rfl (Nat.le_of_ble_eq_true rfl) t342 t341 dL_law_307 h (fun r346 S343 S344 S345 t347 t348 h => ?_)
                  refine z_if_eq (C _) (pc := 310) (tgt := 333) dL_law_310 (by decide) h (fun h => ?_) (fun h => ?_)
                  · refine z_iconst (C _) (pc := 333) (x := (0 : Int32)) dL_law_333 kic_0 ?_
                    refine z_istore (C _) (pc := 334) (lv' := [(4, .int (0 : Int32)), (8, .int r127), (7, .int r124), (6, .int r122), (0, va_rf (some b)), (1, va_rf (some f1)), (2, va_rf (some f2)), (3, va_rf (some f3)), (5, .int w5)]) dL_law_334 (by decide) rfl ?_
                    refine z_iinc (C _) (pc := 336) (y := w5 + (1 : Int32)) (lv' := [(5, .int (w5 + (1 : Int32))), (4, .int (0 : Int32)), (8, .int r127), (7, .int r124), (6, .int r122), (0, va_rf (some b)), (1, va_rf (some f1)), (2, va_rf (some f2)), (3, va_rf (some f3))]) dL_law_336 8 rfl rfl (by decide) rfl ?_
                    refine z_goto (C _) (pc := 339) (tgt := 125) dL_law_339 (by decide) ?_
                    refine z_sub [5, 6, 7, 8, 1, 0] (lv' := [(0, va_rf (some b)), (1, va_rf (some f1)), (2, va_rf (some f2)), (3, va_rf (some f3)), (4, .int (0 : Int32)), (5, .int (w5 + (1 : Int32)))]) rfl ?_
                    refine z_wide (kc' := 174900 - n * 1900) (ks' := 5156000 - n * 56000) (by omega) (by omega) ?_
                    exact ih S343 S344 S345 (0 : Int32) (w5 + (1 : Int32)) (by omega) t347 t348 h
                  · refine z_iload (C _) (pc := 313) dL_law_313 8 rfl ?_
                    refine z_bipush (C _) (pc := 315) (x := (45 : Int32)) dL_law_315 kbp_45 ?_
                    refine z_irem (C _) (pc := 317) dL_law_317 (by decide) ?_
                    refine z_if_gt (C _) (pc := 318) (tgt := 329) dL_law_318 (by decide) h (fun h => ?_) (fun h => ?_)
                    · refine z_iconst (C _) (pc := 329) (x := (1 : Int32)) dL_law_329 kic_1 ?_
                      refine z_goto (C _) (pc := 330) (tgt := 334) dL_law_330 (by decide) ?_
                      refine z_istore (C _) (pc := 334) (lv' := [(4, .int (1 : Int32)), (8, .int r127), (7, .int r124), (6, .int r122), (0, va_rf (some b)), (1, va_rf (some f1)), (2, va_rf (some f2)), (3, va_rf (some f3)), (5, .int w5)]) dL_law_334 (by decide) rfl ?_
                      refine z_iinc (C _) (pc := 336) (y := w5 + (1 : Int32)) (lv' := [(5, .int (w5 + (1 : Int32))), (4, .int (1 : Int32)), (8, .int r127), (7, .int r124), (6, .int r122), (0, va_rf (some b)), (1, va_rf (some f1)), (2, va_rf (some f2)), (3, va_rf (some f3))]) dL_law_336 8 rfl rfl (by decide) rfl ?_
                      refine z_goto (C _) (pc := 339) (tgt := 125) dL_law_339 (by decide) ?_
                      refine z_sub [5, 6, 7, 8, 1, 0] (lv' := [(0, va_rf (some b)), (1, va_rf (some f1)), (2, va_rf (some f2)), (3, va_rf (some f3)), (4, .int (1 : Int32)), (5, .int (w5 + (1 : Int32)))]) rfl ?_
                      refine z_wide (kc' := 174900 - n * 1900) (ks' := 5156000 - n * 56000) (by omega) (by omega) ?_
                      exact ih S343 S344 S345 (1 : Int32) (w5 + (1 : Int32)) (by omega) t347 t348 h
                    · refine z_aload_n (C _) (pc := 321) dL_law_321 5 rfl ?_
                      refine z_aload_n (C _) (pc := 322) dL_law_322 7 rfl ?_
                      refine z_S3i (C []) (pc := 323) (kc' := (B + 1364)) (ks' := (B2 + 40572)) (As := [va_rf (some f1), va_rf (some f3)]) (rest := []) (c_L_refused l hfl v S343 S344 S345 f1 f3) mw_L_refused bw_876 bw_877 ⟨by have h9 : rm_L_refused.cells = 1230 := rfl; omega, by omega, by have h9 : rm_L_refused.slots = 37422 := rfl; omega, by omega, by decide, by decide⟩ rfl rfl (Nat.le_of_ble_eq_true rfl) t347 t348 dL_law_323 h (fun r352 S349 S350 S351 t353 t354 h => ?_)
                      refine z_t_if_eq (C _) (pc := 326) dL_law_326 dL_law_329 kic_1 dL_law_330 dL_law_333 kic_0 ?_
                      refine z_nI h (fun y355 h => ?_)
                      refine z_istore (C _) (pc := 334) (lv' := [(4, .int y355), (8, .int r127), (7, .int r124), (6, .int r122), (0, va_rf (some b)), (1, va_rf (some f1)), (2, va_rf (some f2)), (3, va_rf (some f3)), (5, .int w5)]) dL_law_334 (by decide) rfl ?_
                      refine z_iinc (C _) (pc := 336) (y := w5 + (1 : Int32)) (lv' := [(5, .int (w5 + (1 : Int32))), (4, .int y355), (8, .int r127), (7, .int r124), (6, .int r122), (0, va_rf (some b)), (1, va_rf (some f1)), (2, va_rf (some f2)), (3, va_rf (some f3))]) dL_law_336 8 rfl rfl (by decide) rfl ?_
                      refine z_goto (C _) (pc := 339) (tgt := 125) dL_law_339 (by decide) ?_
                      refine z_sub [5, 6, 7, 8, 1, 0] (lv' := [(0, va_rf (some b)), (1, va_rf (some f1)), (2, va_rf (some f2)), (3, va_rf (some f3)), (4, .int y355), (5, .int (w5 + (1 : Int32)))]) rfl ?_
                      refine z_wide (kc' := 174900 - n * 1900) (ks' := 5156000 - n * 56000) (by omega) (by omega) ?_
                      exact ih S349 S350 S351 y355 (w5 + (1 : Int32)) (by omega) t353 t354 h
set_option maxHeartbeats 4000000 in
set_option maxRecDepth 100000 in
theorem k_L_law_B98 (l : Launch) (hfl : l.stackTraces = false) (v : Ev) {b L : Nat} {xs : Nat → Int32} {nm9 : String} {x9 : P9} {A : Nat → Prop} {E : State → Prop} (C : ∀ X, Cx l v RL cL_law 9 (some .boolean) nm9 (x9, X, A, E)) (hX : LX b L xs A x9) (hE : LE b A E x9) (hL : L ≤ 260) (S1 S2 S : Hp) (t1 : g_T S1 = v.2.2.1) (t2 : g_T S2 = v.2.2.1) (w1 : Nat) (w2 : Nat) (w3 : Nat) (w4 : Int32) (h : wp_L_law_B98 S1 S2 S w1 w2 w3 w4) : ZZ l v 9 room_1 (x9, Y3 v.2.1 [] S1 S2, A, E) 509 14866 S 98 [(0, va_rf (some b)), (1, va_rf (some w1)), (2, va_rf (some w2)), (3, va_rf (some w3)), (4, .int w4)] [] := by
  have hR : 600000 ≤ room_1.cells := Nat.le_of_ble_eq_true rfl
  have hR2 : 7000000 ≤ room_1.slots := Nat.le_of_ble_eq_true rfl
  unfold wp_L_law_B98 at h
  refine z_aload_n (C _) (pc := 98) dL_law_98 3 rfl ?_
  refine z_iconst (C _) (pc := 99) (x := (1 : Int32)) dL_law_99 kic_1 ?_
  refine z_iconst (C _) (pc := 100) (x := (4 : Int32)) dL_law_100 kic_4 ?_
  obtain ⟨o101, h⟩ := h
  obtain ⟨v102, h⟩ := h
  refine z_iast (C _) (pc := 101) dL_law_101 rfl o101 v102 ?_
  refine z_lt h (fun S103 h => ?_)
  refine z_iload (C _) (pc := 102) dL_law_102 4 rfl ?_
  refine z_if_eq (C _) (pc := 104) (tgt := 119) dL_law_104 (by decide) h (fun h => ?_) (fun h => ?_)
  · refine z_iconst (C _) (pc := 119) (x := (0 : Int32)) dL_law_119 kic_0 ?_
    refine z_istore (C _) (pc := 120) (lv' := [(4, .int (0 : Int32)), (0, va_rf (some b)), (1, va_rf (some w1)), (2, va_rf (some w2)), (3, va_rf (some w3))]) dL_law_120 (by decide) rfl ?_
    refine z_iconst (C _) (pc := 122) (x := (0 : Int32)) dL_law_122 kic_0 ?_
    refine z_istore (C _) (pc := 123) (lv' := [(5, .int (0 : Int32)), (4, .int (0 : Int32)), (0, va_rf (some b)), (1, va_rf (some w1)), (2, va_rf (some w2)), (3, va_rf (some w3))]) dL_law_123 (by decide) rfl ?_
    obtain ⟨n356, hn9, h⟩ := h
    refine z_sub [2, 3, 4, 5, 1, 0] (lv' := [(0, va_rf (some b)), (1, va_rf (some w1)), (2, va_rf (some w2)), (3, va_rf (some w3)), (4, .int (0 : Int32)), (5, .int (0 : Int32))]) rfl ?_
    refine z_wide (kc' := 174900 - n356 * 1900) (ks' := 5156000 - n356 * 56000) (by omega) (by omega) ?_
    exact l_L_law_L125 l hfl v C hX hE hL w1 w2 w3 n356 S1 S2 S103 (0 : Int32) (0 : Int32) hn9 t1 t2 h
  · refine z_aload_n (C _) (pc := 107) dL_law_107 1 rfl ?_
    refine z_aload_n (C _) (pc := 108) dL_law_108 3 rfl ?_
    refine z_S3i (C []) (pc := 109) (kc' := 1739) (ks' := 52288) (As := [va_rf (some w1), va_rf (some w3)]) (rest := []) (c_L_refused l hfl v S1 S2 S103 w1 w3) mw_L_refused bw_876 bw_877 ⟨by have h9 : rm_L_refused.cells = 1230 := rfl; omega, by omega, by have h9 : rm_L_refused.slots = 37422 := rfl; omega, by omega, by decide, by decide⟩ rfl rfl (Nat.le_of_ble_eq_true rfl) t1 t2 dL_law_109 h (fun r360 S357 S358 S359 t361 t362 h => ?_)
    refine z_t_if_eq (C _) (pc := 112) dL_law_112 dL_law_115 kic_1 dL_law_116 dL_law_119 kic_0 ?_
    refine z_nI h (fun y363 h => ?_)
    refine z_istore (C _) (pc := 120) (lv' := [(4, .int y363), (0, va_rf (some b)), (1, va_rf (some w1)), (2, va_rf (some w2)), (3, va_rf (some w3))]) dL_law_120 (by decide) rfl ?_
    refine z_iconst (C _) (pc := 122) (x := (0 : Int32)) dL_law_122 kic_0 ?_
    refine z_istore (C _) (pc := 123) (lv' := [(5, .int (0 : Int32)), (4, .int y363), (0, va_rf (some b)), (1, va_rf (some w1)), (2, va_rf (some w2)), (3, va_rf (some w3))]) dL_law_123 (by decide) rfl ?_
    obtain ⟨n364, hn9, h⟩ := h
    refine z_sub [2, 3, 4, 5, 1, 0] (lv' := [(0, va_rf (some b)), (1, va_rf (some w1)), (2, va_rf (some w2)), (3, va_rf (some w3)), (4, .int y363), (5, .int (0 : Int32))]) rfl ?_
    refine z_wide (kc' := 174900 - n364 * 1900) (ks' := 5156000 - n364 * 56000) (by omega) (by omega) ?_
    exact l_L_law_L125 l hfl v C hX hE hL w1 w2 w3 n364 S357 S358 S359 y363 (0 : Int32) hn9 t361 t362 h
set_option maxHeartbeats 8000000 in
set_option maxRecDepth 100000 in
theorem l_L_law_L27 (l : Launch) (hfl : l.stackTraces = false) (v : Ev) {b L : Nat} {xs : Nat → Int32} {nm9 : String} {x9 : P9} {A : Nat → Prop} {E : State → Prop} (C : ∀ X, Cx l v RL cL_law 9 (some .boolean) nm9 (x9, X, A, E)) (hX : LX b L xs A x9) (hE : LE b A E x9) (hL : L ≤ 260) (f1 f2 f3 : Nat) : ∀ (n : Nat) (S1 S2 S : Hp) (w4 w5 : Int32) (hn : n ≤ 5), g_T S1 = v.2.2.1 → g_T S2 = v.2.2.1 → wp_L_law_L27 f1 f2 f3 n S1 S2 S w4 w5 → ZZ l v 9 room_1 (x9, Y3 v.2.1 [] S1 S2, A, E) (509 - n * 92) (14866 - n * 2940) S 27 [(0, va_rf (some b)), (1, va_rf (some f1)), (2, va_rf (some f2)), (3, va_rf (some f3)), (4, .int w4), (5, .int w5)] [] := by
  intro n
  induction n with
  | zero =>
    intro S1 S2 S w4 w5 hn t1 t2 h
    exact h.elim
  | succ n ih =>
    intro S1 S2 S w4 w5 hn t1 t2 h
    unfold wp_L_law_L27 at h
    obtain ⟨B, hB⟩ : ∃ B, B = 509 - (n + 1) * 92 := ⟨_, rfl⟩
    obtain ⟨B2, hB2⟩ : ∃ B2, B2 = 14866 - (n + 1) * 2940 := ⟨_, rfl⟩
    have hR : 600000 ≤ room_1.cells := Nat.le_of_ble_eq_true rfl
    have hR2 : 7000000 ≤ room_1.slots := Nat.le_of_ble_eq_true rfl
    rw [← hB, ← hB2]
    refine z_wide (kc' := B + 0) (ks' := B2 + 0) (Nat.le_refl _) (Nat.le_refl _) ?_
    refine z_iload (C _) (pc := 27) dL_law_27 5 rfl ?_
    refine z_iconst (C _) (pc := 29) (x := (4 : Int32)) dL_law_29 kic_4 ?_
    refine z_icmp_ge (C _) (pc := 30) (tgt := 98) dL_law_30 (by decide) h (fun h => ?_) (fun h => ?_)
    · refine z_sub [0, 1, 2, 3, 4] (lv' := [(0, va_rf (some b)), (1, va_rf (some f1)), (2, va_rf (some f2)), (3, va_rf (some f3)), (4, .int w4)]) rfl ?_
      refine z_wide (kc' := 509) (ks' := 14866) (by omega) (by omega) ?_
      exact k_L_law_B98 l hfl v C hX hE hL S1 S2 S t1 t2 f1 f2 f3 w4 h
    · refine z_iload (C _) (pc := 33) dL_law_33 4 rfl ?_
      refine z_if_eq (C _) (pc := 35) (tgt := 98) dL_law_35 (by decide) h (fun h => ?_) (fun h => ?_)
      · refine z_sub [0, 1, 2, 3, 4] (lv' := [(0, va_rf (some b)), (1, va_rf (some f1)), (2, va_rf (some f2)), (3, va_rf (some f3)), (4, .int w4)]) rfl ?_
        refine z_wide (kc' := 509) (ks' := 14866) (by omega) (by omega) ?_
        exact k_L_law_B98 l hfl v C hX hE hL S1 S2 S t1 t2 f1 f2 f3 w4 h
      · refine z_aload_n (C _) (pc := 38) dL_law_38 1 rfl ?_
        refine z_aload_n (C _) (pc := 39) dL_law_39 2 rfl ?_
        refine z_iconst (C _) (pc := 40) (x := (0 : Int32)) dL_law_40 kic_0 ?_
        refine z_iconst (C _) (pc := 41) (x := (5 : Int32)) dL_law_41 kic_5 ?_
        refine z_aload_n (C _) (pc := 42) dL_law_42 0 rfl ?_
        refine z_iload (C _) (pc := 43) dL_law_43 5 rfl ?_
        obtain ⟨c366, h⟩ := h
        refine z_SC (C _) hX (pc := 45) (kc' := (B + 0)) (ks' := (B2 + 0)) (As := [va_rf (some b), .int w5]) (rest := [.int (5 : Int32), .int (0 : Int32), va_rf (some f2), va_rf (some f1)]) (c_L_cell l v b L xs w5 hL c366) mw_L_cell bw_96 bw_97 ⟨by have h9 : rm_L_cell.cells = 0 := rfl; omega, by omega, by have h9 : rm_L_cell.slots = 0 := rfl; omega, by omega, by decide, by decide⟩ rfl rfl (Nat.le_of_ble_eq_true rfl) dL_law_45 (fun r365 => ?_)
        replace h := h r365
        refine z_bipush (C _) (pc := 48) (x := (6 : Int32)) dL_law_48 kbp_6 ?_
        refine z_Si8 (C _) (pc := 50) (KX := fun _ _ => False) (kc' := (B + 0)) (ks' := (B2 + 0)) (As := [.int r365, .int (6 : Int32)]) (rest := [.int (5 : Int32), .int (0 : Int32), va_rf (some f2), va_rf (some f1)]) (c_L_some l v S r365 (6 : Int32)) mw_L_some bw_101 bw_102 ⟨by have h9 : rm_L_some.cells = 0 := rfl; omega, by omega, by have h9 : rm_L_some.slots = 0 := rfl; omega, by omega, by decide, by decide⟩ rfl rfl (Nat.le_of_ble_eq_true rfl) dL_law_50 h (fun r368 S367 h => ?_) (fun En S9 h => h.elim)
        refine z_iadd (C _) (pc := 53) dL_law_53 ?_
        refine z_bipush (C _) (pc := 54) (x := (11 : Int32)) dL_law_54 kbp_11 ?_
        refine z_aload_n (C _) (pc := 56) dL_law_56 0 rfl ?_
        refine z_iload (C _) (pc := 57) dL_law_57 5 rfl ?_
        obtain ⟨c370, h⟩ := h
        refine z_SC (C _) hX (pc := 59) (kc' := (B + 0)) (ks' := (B2 + 0)) (As := [va_rf (some b), .int w5]) (rest := [.int (11 : Int32), .int ((5 : Int32) + r368), .int (0 : Int32), va_rf (some f2), va_rf (some f1)]) (c_L_cell l v b L xs w5 hL c370) mw_L_cell bw_96 bw_97 ⟨by have h9 : rm_L_cell.cells = 0 := rfl; omega, by omega, by have h9 : rm_L_cell.slots = 0 := rfl; omega, by omega, by decide, by decide⟩ rfl rfl (Nat.le_of_ble_eq_true rfl) dL_law_59 (fun r369 => ?_)
        replace h := h r369
        refine z_iconst (C _) (pc := 62) (x := (3 : Int32)) dL_law_62 kic_3 ?_
        refine z_ishr (C _) (pc := 63) dL_law_63 ?_
        refine z_bipush (C _) (pc := 64) (x := (6 : Int32)) dL_law_64 kbp_6 ?_
        refine z_Si8 (C _) (pc := 66) (KX := fun _ _ => False) (kc' := (B + 0)) (ks' := (B2 + 0)) (As := [.int (r369 >>> ((3 : Int32) &&& 31)), .int (6 : Int32)]) (rest := [.int (11 : Int32), .int ((5 : Int32) + r368), .int (0 : Int32), va_rf (some f2), va_rf (some f1)]) (c_L_some l v S367 (r369 >>> ((3 : Int32) &&& 31)) (6 : Int32)) mw_L_some bw_101 bw_102 ⟨by have h9 : rm_L_some.cells = 0 := rfl; omega, by omega, by have h9 : rm_L_some.slots = 0 := rfl; omega, by omega, by decide, by decide⟩ rfl rfl (Nat.le_of_ble_eq_true rfl) dL_law_66 h (fun r372 S371 h => ?_) (fun En S9 h => h.elim)
        refine z_iadd (C _) (pc := 69) dL_law_69 ?_
        refine z_iconst (C _) (pc := 70) (x := (1 : Int32)) dL_law_70 kic_1 ?_
        refine z_iload (C _) (pc := 71) dL_law_71 5 rfl ?_
        refine z_iconst (C _) (pc := 73) (x := (3 : Int32)) dL_law_73 kic_3 ?_
        refine z_irem (C _) (pc := 74) dL_law_74 (by decide) ?_
        refine z_iadd (C _) (pc := 75) dL_law_75 ?_
        refine z_iconst (C _) (pc := 76) (x := (0 : Int32)) dL_law_76 kic_0 ?_
        refine z_S3i (C []) (pc := 77) (kc' := (B + 92)) (ks' := (B2 + 2940)) (As := [va_rf (some f1), va_rf (some f2), .int (0 : Int32), .int ((5 : Int32) + r368), .int ((11 : Int32) + r372), .int ((1 : Int32) + (w5 - w5 / (3 : Int32) * (3 : Int32))), .int (0 : Int32)]) (rest := []) (c_L_both l hfl v S1 S2 S371 f1 f2 (0 : Int32) ((5 : Int32) + r368) ((11 : Int32) + r372) ((1 : Int32) + (w5 - w5 / (3 : Int32) * (3 : Int32))) (0 : Int32)) mw_L_both bw_364 bw_365 ⟨by have h9 : rm_L_both.cells = 92 := rfl; omega, by omega, by have h9 : rm_L_both.slots = 2940 := rfl; omega, by omega, by decide, by decide⟩ rfl rfl (Nat.le_of_ble_eq_true rfl) t1 t2 dL_law_77 h (fun r376 S373 S374 S375 t377 t378 h => ?_)
        refine z_iload (C _) (pc := 80) dL_law_80 5 rfl ?_
        refine z_t_icmp_ne (C _) (pc := 82) dL_law_82 dL_law_85 kic_1 dL_law_86 dL_law_89 kic_0 ?_
        refine z_nI h (fun y379 h => ?_)
        refine z_istore (C _) (pc := 90) (lv' := [(4, .int y379), (0, va_rf (some b)), (1, va_rf (some f1)), (2, va_rf (some f2)), (3, va_rf (some f3)), (5, .int w5)]) dL_law_90 (by decide) rfl ?_
        refine z_iinc (C _) (pc := 92) (y := w5 + (1 : Int32)) (lv' := [(5, .int (w5 + (1 : Int32))), (4, .int y379), (0, va_rf (some b)), (1, va_rf (some f1)), (2, va_rf (some f2)), (3, va_rf (some f3))]) dL_law_92 5 rfl rfl (by decide) rfl ?_
        refine z_goto (C _) (pc := 95) (tgt := 27) dL_law_95 (by decide) ?_
        refine z_sub [2, 3, 4, 5, 1, 0] (lv' := [(0, va_rf (some b)), (1, va_rf (some f1)), (2, va_rf (some f2)), (3, va_rf (some f3)), (4, .int y379), (5, .int (w5 + (1 : Int32)))]) rfl ?_
        refine z_wide (kc' := 509 - n * 92) (ks' := 14866 - n * 2940) (by omega) (by omega) ?_
        exact ih S373 S374 S375 y379 (w5 + (1 : Int32)) (by omega) t377 t378 h
set_option maxHeartbeats 4000000 in
set_option maxRecDepth 100000 in
theorem k_L_law (l : Launch) (hfl : l.stackTraces = false) (v : Ev) {b L : Nat} {xs : Nat → Int32} {nm9 : String} {x9 : P9} {A : Nat → Prop} {E : State → Prop} (C : ∀ X, Cx l v RL cL_law 9 (some .boolean) nm9 (x9, X, A, E)) (hX : LX b L xs A x9) (hE : LE b A E x9) (hL : L ≤ 260) (S1 S2 S : Hp) (t1 : g_T S1 = v.2.2.1) (t2 : g_T S2 = v.2.2.1) (x m dd : Nat) (h : wp_L_law S1 S2 S x m dd) : ZZ l v 9 room_1 (x9, Y3 v.2.1 [] S1 S2, A, E) 49 166 S 21 [(3, va_rf (some dd)), (2, va_rf (some m)), (1, va_rf (some x)), (0, va_rf (some b))] [] := by
  unfold wp_L_law at h
  refine z_iconst (C _) (pc := 21) (x := (1 : Int32)) dL_law_21 kic_1 ?_
  refine z_istore (C _) (pc := 22) (lv' := [(4, .int (1 : Int32)), (3, va_rf (some dd)), (2, va_rf (some m)), (1, va_rf (some x)), (0, va_rf (some b))]) dL_law_22 (by decide) rfl ?_
  refine z_iconst (C _) (pc := 24) (x := (0 : Int32)) dL_law_24 kic_0 ?_
  refine z_istore (C _) (pc := 25) (lv' := [(5, .int (0 : Int32)), (4, .int (1 : Int32)), (3, va_rf (some dd)), (2, va_rf (some m)), (1, va_rf (some x)), (0, va_rf (some b))]) dL_law_25 (by decide) rfl ?_
  obtain ⟨n380, hn9, h⟩ := h
  refine z_sub [5, 4, 3, 2, 1, 0] (lv' := [(0, va_rf (some b)), (1, va_rf (some x)), (2, va_rf (some m)), (3, va_rf (some dd)), (4, .int (1 : Int32)), (5, .int (0 : Int32))]) rfl ?_
  refine z_wide (kc' := 509 - n380 * 92) (ks' := 14866 - n380 * 2940) (by omega) (by omega) ?_
  exact l_L_law_L27 l hfl v C hX hE hL x m dd n380 S1 S2 S (1 : Int32) (0 : Int32) hn9 t1 t2 h
