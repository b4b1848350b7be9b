/-- the law's end -/
def LE (b : Nat) (A : Nat → Prop) (E : State → Prop) (x9 : P9) : Prop := match x9 with
  | (_, _, s, _, args, below, _, _) => args = #[Value.ref b] ∧ E = lw_Z below #[Value.ref b] s ∧ ∀ q, A q → s.heap.size ≤ q
theorem z_lawret {l : Launch} {v : Ev} {nm9 : String} {x9 : P9} {X : va_W} {A : Nat → Prop} {E : State → Prop} {kc ks b : Nat} {S : Hp} {pc : Nat} {lv : List (Nat × Value)} (C : Cx l v RL cL_law 9 (some .boolean) nm9 (x9, X, A, E)) (hE : LE b A E x9) (hd : decode cL_law pc = .ok (.ireturn, 1)) (hk : kc ≤ room_1.cells) (hk2 : ks ≤ room_1.slots) : ZZ l v 9 room_1 (x9, X, A, E) kc ks S pc lv [.int (1 : Int32)] := by
  obtain ⟨p, e, s, m, args, below, meth, c⟩ := x9
  obtain ⟨hx, hb, hr, hml, hown, hts, hK, hlocks, hA, hW, -⟩ := C
  intro H locs ls cells slots hP hD hS hc hs hl hT
  obtain ⟨rfl, rfl, hAq⟩ := hE
  refine va_forget (fun q hq => hAq _ (hS.2.2 q hq)) ?_
  refine W.widen (Nat.le_trans hc hk) (Nat.le_trans hs hk2) ?_
  exact lw_ret hx hb hr hlocks hd
def wp_L_law_B342 (S1 S2 S : Hp) (w1 : Nat) (w2 : Nat) (w3 : Nat) (w4 : Int32) : Prop :=
  if w4 = 0 then (False) else (wp_L_all S1 S2 S w1 w3 (fun r7 S4 S5 S6 => wp_L_all S5 S4 S6 w2 w3 (fun r13 S10 S11 S12 => if (lg_cmp r7 r13) = 0 then (wp_L_sound S11 S10 S12 w1 w3 (fun r19 S16 S17 S18 => if r19 = 0 then (False) else (True))) else (False))))
def wp_L_law_L125 (f1 f2 f3 : Nat) : Nat → Hp → Hp → Hp → Int32 → Int32 → Prop
  | 0, _, _, _, _, _ => False
  | n + 1, S1, S2, S, w4, w5 => if (90 : Int32) ≤ w5 then (wp_L_law_B342 S1 S2 S f1 f2 f3 w4) else (if w4 = 0 then (wp_L_law_B342 S1 S2 S f1 f2 f3 w4) else ((0 : Int32) ≤ ((4 : Int32) + ((2 : Int32) * w5)) ∧ (∀ r22 : Int32, ((0 : Int32) ≤ ((5 : Int32) + ((2 : Int32) * w5)) ∧ (∀ r24 : Int32, (wp_L_some S r22 (24 : Int32) (fun r27 S26 => if r27 < (9 : Int32) then (wp_L_children S1 S2 S26 f1 f2 f3 (r22 >>> ((5 : Int32) &&& 31)) r24 (fun r31 S28 S29 S30 => if r31 = 0 then (wp_L_law_L125 f1 f2 f3 n S28 S29 S30 (0 : Int32) (w5 + (1 : Int32))) else (if 0 < (w5 - w5 / (15 : Int32) * (15 : Int32)) then (if 0 < (w5 - w5 / (45 : Int32) * (45 : Int32)) then (wp_L_law_L125 f1 f2 f3 n S28 S29 S30 (1 : Int32) (w5 + (1 : Int32))) else (wp_L_refused S28 S29 S30 f1 f3 (fun r37 S34 S35 S36 => lt (if r37 = 0 then (0 : Int32) else (1 : Int32)) (fun y40 => wp_L_law_L125 f1 f2 f3 n S34 S35 S36 y40 (w5 + (1 : Int32)))))) else (wp_L_all S28 S29 S30 f1 f3 (fun r44 S41 S42 S43 => wp_L_all S42 S41 S43 f2 f3 (fun r50 S47 S48 S49 => if (lg_cmp r44 r50) = 0 then (wp_L_sound S48 S47 S49 f1 f3 (fun r56 S53 S54 S55 => if r56 = 0 then (wp_L_law_L125 f1 f2 f3 n S53 S54 S55 (0 : Int32) (w5 + (1 : Int32))) else (if 0 < (w5 - w5 / (45 : Int32) * (45 : Int32)) then (wp_L_law_L125 f1 f2 f3 n S53 S54 S55 (1 : Int32) (w5 + (1 : Int32))) else (wp_L_refused S53 S54 S55 f1 f3 (fun r62 S59 S60 S61 => lt (if r62 = 0 then (0 : Int32) else (1 : Int32)) (fun y65 => wp_L_law_L125 f1 f2 f3 n S59 S60 S61 y65 (w5 + (1 : Int32)))))))) else (wp_L_law_L125 f1 f2 f3 n S48 S47 S49 (0 : Int32) (w5 + (1 : Int32))))))))) else (if (4 : Int32) ≤ w5 then (if (14 : Int32) ≤ r27 then (if (17 : Int32) ≤ r27 then (if (21 : Int32) ≤ r27 then (wp_L_days S1 S2 S26 f1 f2 f3 (r22 >>> ((5 : Int32) &&& 31)) r24 (fun r69 S66 S67 S68 => if r69 = 0 then (wp_L_law_L125 f1 f2 f3 n S66 S67 S68 (0 : Int32) (w5 + (1 : Int32))) else (if 0 < (w5 - w5 / (15 : Int32) * (15 : Int32)) then (if 0 < (w5 - w5 / (45 : Int32) * (45 : Int32)) then (wp_L_law_L125 f1 f2 f3 n S66 S67 S68 (1 : Int32) (w5 + (1 : Int32))) else (wp_L_refused S66 S67 S68 f1 f3 (fun r75 S72 S73 S74 => lt (if r75 = 0 then (0 : Int32) else (1 : Int32)) (fun y78 => wp_L_law_L125 f1 f2 f3 n S72 S73 S74 y78 (w5 + (1 : Int32)))))) else (wp_L_all S66 S67 S68 f1 f3 (fun r82 S79 S80 S81 => wp_L_all S80 S79 S81 f2 f3 (fun r88 S85 S86 S87 => if (lg_cmp r82 r88) = 0 then (wp_L_sound S86 S85 S87 f1 f3 (fun r94 S91 S92 S93 => if r94 = 0 then (wp_L_law_L125 f1 f2 f3 n S91 S92 S93 (0 : Int32) (w5 + (1 : Int32))) else (if 0 < (w5 - w5 / (45 : Int32) * (45 : Int32)) then (wp_L_law_L125 f1 f2 f3 n S91 S92 S93 (1 : Int32) (w5 + (1 : Int32))) else (wp_L_refused S91 S92 S93 f1 f3 (fun r100 S97 S98 S99 => lt (if r100 = 0 then (0 : Int32) else (1 : Int32)) (fun y103 => wp_L_law_L125 f1 f2 f3 n S97 S98 S99 y103 (w5 + (1 : Int32)))))))) else (wp_L_law_L125 f1 f2 f3 n S86 S85 S87 (0 : Int32) (w5 + (1 : Int32))))))))) else (wp_L_events S1 S2 S26 f1 f2 f3 (r22 >>> ((5 : Int32) &&& 31)) r24 (fun r107 S104 S105 S106 => if r107 = 0 then (wp_L_law_L125 f1 f2 f3 n S104 S105 S106 (0 : Int32) (w5 + (1 : Int32))) else (if 0 < (w5 - w5 / (15 : Int32) * (15 : Int32)) then (if 0 < (w5 - w5 / (45 : Int32) * (45 : Int32)) then (wp_L_law_L125 f1 f2 f3 n S104 S105 S106 (1 : Int32) (w5 + (1 : Int32))) else (wp_L_refused S104 S105 S106 f1 f3 (fun r113 S110 S111 S112 => lt (if r113 = 0 then (0 : Int32) else (1 : Int32)) (fun y116 => wp_L_law_L125 f1 f2 f3 n S110 S111 S112 y116 (w5 + (1 : Int32)))))) else (wp_L_all S104 S105 S106 f1 f3 (fun r120 S117 S118 S119 => wp_L_all S118 S117 S119 f2 f3 (fun r126 S123 S124 S125 => if (lg_cmp r120 r126) = 0 then (wp_L_sound S124 S123 S125 f1 f3 (fun r132 S129 S130 S131 => if r132 = 0 then (wp_L_law_L125 f1 f2 f3 n S129 S130 S131 (0 : Int32) (w5 + (1 : Int32))) else (if 0 < (w5 - w5 / (45 : Int32) * (45 : Int32)) then (wp_L_law_L125 f1 f2 f3 n S129 S130 S131 (1 : Int32) (w5 + (1 : Int32))) else (wp_L_refused S129 S130 S131 f1 f3 (fun r138 S135 S136 S137 => lt (if r138 = 0 then (0 : Int32) else (1 : Int32)) (fun y141 => wp_L_law_L125 f1 f2 f3 n S135 S136 S137 y141 (w5 + (1 : Int32)))))))) else (wp_L_law_L125 f1 f2 f3 n S124 S123 S125 (0 : Int32) (w5 + (1 : Int32)))))))))) else (wp_L_leaders S1 S2 S26 f1 f2 f3 (r22 >>> ((5 : Int32) &&& 31)) r24 (fun r145 S142 S143 S144 => if r145 = 0 then (wp_L_law_L125 f1 f2 f3 n S142 S143 S144 (0 : Int32) (w5 + (1 : Int32))) else (if 0 < (w5 - w5 / (15 : Int32) * (15 : Int32)) then (if 0 < (w5 - w5 / (45 : Int32) * (45 : Int32)) then (wp_L_law_L125 f1 f2 f3 n S142 S143 S144 (1 : Int32) (w5 + (1 : Int32))) else (wp_L_refused S142 S143 S144 f1 f3 (fun r151 S148 S149 S150 => lt (if r151 = 0 then (0 : Int32) else (1 : Int32)) (fun y154 => wp_L_law_L125 f1 f2 f3 n S148 S149 S150 y154 (w5 + (1 : Int32)))))) else (wp_L_all S142 S143 S144 f1 f3 (fun r158 S155 S156 S157 => wp_L_all S156 S155 S157 f2 f3 (fun r164 S161 S162 S163 => if (lg_cmp r158 r164) = 0 then (wp_L_sound S162 S161 S163 f1 f3 (fun r170 S167 S168 S169 => if r170 = 0 then (wp_L_law_L125 f1 f2 f3 n S167 S168 S169 (0 : Int32) (w5 + (1 : Int32))) else (if 0 < (w5 - w5 / (45 : Int32) * (45 : Int32)) then (wp_L_law_L125 f1 f2 f3 n S167 S168 S169 (1 : Int32) (w5 + (1 : Int32))) else (wp_L_refused S167 S168 S169 f1 f3 (fun r176 S173 S174 S175 => lt (if r176 = 0 then (0 : Int32) else (1 : Int32)) (fun y179 => wp_L_law_L125 f1 f2 f3 n S173 S174 S175 y179 (w5 + (1 : Int32)))))))) else (wp_L_law_L125 f1 f2 f3 n S162 S161 S163 (0 : Int32) (w5 + (1 : Int32)))))))))) else (wp_L_badges S1 S2 S26 f1 f2 f3 (r22 >>> ((5 : Int32) &&& 31)) r24 (fun r183 S180 S181 S182 => if r183 = 0 then (wp_L_law_L125 f1 f2 f3 n S180 S181 S182 (0 : Int32) (w5 + (1 : Int32))) else (if 0 < (w5 - w5 / (15 : Int32) * (15 : Int32)) then (if 0 < (w5 - w5 / (45 : Int32) * (45 : Int32)) then (wp_L_law_L125 f1 f2 f3 n S180 S181 S182 (1 : Int32) (w5 + (1 : Int32))) else (wp_L_refused S180 S181 S182 f1 f3 (fun r189 S186 S187 S188 => lt (if r189 = 0 then (0 : Int32) else (1 : Int32)) (fun y192 => wp_L_law_L125 f1 f2 f3 n S186 S187 S188 y192 (w5 + (1 : Int32)))))) else (wp_L_all S180 S181 S182 f1 f3 (fun r196 S193 S194 S195 => wp_L_all S194 S193 S195 f2 f3 (fun r202 S199 S200 S201 => if (lg_cmp r196 r202) = 0 then (wp_L_sound S200 S199 S201 f1 f3 (fun r208 S205 S206 S207 => if r208 = 0 then (wp_L_law_L125 f1 f2 f3 n S205 S206 S207 (0 : Int32) (w5 + (1 : Int32))) else (if 0 < (w5 - w5 / (45 : Int32) * (45 : Int32)) then (wp_L_law_L125 f1 f2 f3 n S205 S206 S207 (1 : Int32) (w5 + (1 : Int32))) else (wp_L_refused S205 S206 S207 f1 f3 (fun r214 S211 S212 S213 => lt (if r214 = 0 then (0 : Int32) else (1 : Int32)) (fun y217 => wp_L_law_L125 f1 f2 f3 n S211 S212 S213 y217 (w5 + (1 : Int32)))))))) else (wp_L_law_L125 f1 f2 f3 n S200 S199 S201 (0 : Int32) (w5 + (1 : Int32)))))))))) else (wp_L_children S1 S2 S26 f1 f2 f3 (r22 >>> ((5 : Int32) &&& 31)) r24 (fun r221 S218 S219 S220 => if r221 = 0 then (wp_L_law_L125 f1 f2 f3 n S218 S219 S220 (0 : Int32) (w5 + (1 : Int32))) else (if 0 < (w5 - w5 / (15 : Int32) * (15 : Int32)) then (if 0 < (w5 - w5 / (45 : Int32) * (45 : Int32)) then (wp_L_law_L125 f1 f2 f3 n S218 S219 S220 (1 : Int32) (w5 + (1 : Int32))) else (wp_L_refused S218 S219 S220 f1 f3 (fun r227 S224 S225 S226 => lt (if r227 = 0 then (0 : Int32) else (1 : Int32)) (fun y230 => wp_L_law_L125 f1 f2 f3 n S224 S225 S226 y230 (w5 + (1 : Int32)))))) else (wp_L_all S218 S219 S220 f1 f3 (fun r234 S231 S232 S233 => wp_L_all S232 S231 S233 f2 f3 (fun r240 S237 S238 S239 => if (lg_cmp r234 r240) = 0 then (wp_L_sound S238 S237 S239 f1 f3 (fun r246 S243 S244 S245 => if r246 = 0 then (wp_L_law_L125 f1 f2 f3 n S243 S244 S245 (0 : Int32) (w5 + (1 : Int32))) else (if 0 < (w5 - w5 / (45 : Int32) * (45 : Int32)) then (wp_L_law_L125 f1 f2 f3 n S243 S244 S245 (1 : Int32) (w5 + (1 : Int32))) else (wp_L_refused S243 S244 S245 f1 f3 (fun r252 S249 S250 S251 => lt (if r252 = 0 then (0 : Int32) else (1 : Int32)) (fun y255 => wp_L_law_L125 f1 f2 f3 n S249 S250 S251 y255 (w5 + (1 : Int32)))))))) else (wp_L_law_L125 f1 f2 f3 n S238 S237 S239 (0 : Int32) (w5 + (1 : Int32)))))))))))))))))
def wp_L_law_B98 (S1 S2 S : Hp) (w1 : Nat) (w2 : Nat) (w3 : Nat) (w4 : Int32) : Prop :=
  okA S 11 w3 ∧ (vp_in (1 : Int32) (g_N S w3) ∧ (lt (s_R S w3 (1 : Int32).toNatClampNeg (4 : Int32)) (fun S3 => if w4 = 0 then (∃ n256, n256 ≤ 91 ∧ wp_L_law_L125 w1 w2 w3 n256 S1 S2 S3 (0 : Int32) (0 : Int32)) else (wp_L_refused S1 S2 S3 w1 w3 (fun r260 S257 S258 S259 => lt (if r260 = 0 then (0 : Int32) else (1 : Int32)) (fun y263 => ∃ n264, n264 ≤ 91 ∧ wp_L_law_L125 w1 w2 w3 n264 S257 S258 S259 y263 (0 : Int32)))))))
def wp_L_law_L27 (f1 f2 f3 : Nat) : Nat → Hp → Hp → Hp → Int32 → Int32 → Prop
  | 0, _, _, _, _, _ => False
  | n + 1, S1, S2, S, w4, w5 => if (4 : Int32) ≤ w5 then (wp_L_law_B98 S1 S2 S f1 f2 f3 w4) else (if w4 = 0 then (wp_L_law_B98 S1 S2 S f1 f2 f3 w4) else ((0 : Int32) ≤ w5 ∧ (∀ r265 : Int32, (wp_L_some S r265 (6 : Int32) (fun r268 S267 => (0 : Int32) ≤ w5 ∧ (∀ r269 : Int32, (wp_L_some S267 (r269 >>> ((3 : Int32) &&& 31)) (6 : Int32) (fun r272 S271 => wp_L_both S1 S2 S271 f1 f2 (0 : Int32) ((5 : Int32) + r268) ((11 : Int32) + r272) ((1 : Int32) + (w5 - w5 / (3 : Int32) * (3 : Int32))) (0 : Int32) (fun r276 S273 S274 S275 => lt (if r276 = w5 then (1 : Int32) else (0 : Int32)) (fun y279 => wp_L_law_L27 f1 f2 f3 n S273 S274 S275 y279 (w5 + (1 : Int32))))))))))))
def wp_L_law (S1 S2 S : Hp) (x m dd : Nat) : Prop :=
  ∃ n280, n280 ≤ 5 ∧ wp_L_law_L27 x m dd n280 S1 S2 S (1 : Int32) (0 : Int32)
set_option maxHeartbeats 4000000 in
set_option maxRecDepth 100000 in
theorem k_L_law_B342 (l : Launch) (hfl : l.stackTraces = false) (v : Ev) {b L : Nat} {xs : Nat → Int32} {nm9 : String} {x9 : P9} {A : Nat → Prop} {E : State → Prop} (C : ∀ X, Cx l v RL cL_law 9 (some .boolean) nm9 (x9, X, A, E)) (hX : LX b L xs A x9) (hE : LE b A E x9) (hL : L ≤ 260) (S1 S2 S : Hp) (t1 : g_T S1 = v.2.2.1) (t2 : g_T S2 = v.2.2.1) (w1 : Nat) (w2 : Nat) (w3 : Nat) (w4 : Int32) (h : wp_L_law_B342 S1 S2 S w1 w2 w3 w4) : ZZ l v 9 room_1 (x9, Y3 v.2.1 [] S1 S2, A, E) 174900 5156000 S 342 [(1, va_rf (some w1)), (2, va_rf (some w2)), (3, va_rf (some w3)), (4, .int w4)] [] := by
  have hR : 600000 ≤ room_1.cells := Nat.le_of_ble_eq_true rfl
  have hR2 : 7000000 ≤ room_1.slots := Nat.le_of_ble_eq_true rfl
  unfold wp_L_law_B342 at h
  refine z_iload (C _) (pc := 342) dL_law_342 3 rfl ?_
  refine z_if_eq (C _) (pc := 344) (tgt := 373) dL_law_344 (by decide) h (fun h => ?_) (fun h => ?_)
  · refine z_iconst (C _) (pc := 373) (x := (0 : Int32)) dL_law_373 kic_0 ?_
    exact h.elim
  · refine z_aload_n (C _) (pc := 347) dL_law_347 0 rfl ?_
    refine z_aload_n (C _) (pc := 348) dL_law_348 2 rfl ?_
    refine z_S3l (C _) (pc := 349) (kc' := 174921) (ks' := 5156105) (As := [va_rf (some w1), va_rf (some w3)]) (rest := []) (c_L_all l hfl v S1 S2 S w1 w3) mw_L_all bw_104 bw_105 ⟨by have h9 : rm_L_all.cells = 21 := rfl; omega, by omega, by have h9 : rm_L_all.slots = 105 := rfl; omega, by omega, by decide, by decide⟩ rfl rfl (Nat.le_of_ble_eq_true rfl) t1 t2 dL_law_349 h (fun r7 S4 S5 S6 t8 t9 h => ?_)
    refine z_aload_n (C _) (pc := 352) dL_law_352 1 rfl ?_
    refine z_aload_n (C _) (pc := 353) dL_law_353 2 rfl ?_
    refine z_s12 ?_
    refine z_S3l (C _) (pc := 354) (kc' := 174942) (ks' := 5156210) (As := [va_rf (some w2), va_rf (some w3)]) (rest := [.long r7]) (c_L_all l hfl v S5 S4 S6 w2 w3) mw_L_all bw_104 bw_105 ⟨by have h9 : rm_L_all.cells = 21 := rfl; omega, by omega, by have h9 : rm_L_all.slots = 105 := rfl; omega, by omega, by decide, by decide⟩ rfl rfl (Nat.le_of_ble_eq_true rfl) t9 t8 dL_law_354 h (fun r13 S10 S11 S12 t14 t15 h => ?_)
    refine z_s12 ?_
    refine z_lcmp (C _) (pc := 357) dL_law_357 ?_
    refine z_if_ne (C _) (pc := 358) (tgt := 373) dL_law_358 (by decide) h (fun h => ?_) (fun h => ?_)
    · refine z_iconst (C _) (pc := 373) (x := (0 : Int32)) dL_law_373 kic_0 ?_
      exact h.elim
    · refine z_aload_n (C _) (pc := 361) dL_law_361 0 rfl ?_
      refine z_aload_n (C _) (pc := 362) dL_law_362 2 rfl ?_
      refine z_S3i (C _) (pc := 363) (kc' := 174942) (ks' := 5156210) (As := [va_rf (some w1), va_rf (some w3)]) (rest := []) (c_L_sound l hfl v S11 S10 S12 w1 w3) mw_L_sound bw_873 bw_874 ⟨by have h9 : rm_L_sound.cells = 0 := rfl; omega, by omega, by have h9 : rm_L_sound.slots = 0 := rfl; omega, by omega, by decide, by decide⟩ rfl rfl (Nat.le_of_ble_eq_true rfl) t15 t14 dL_law_363 h (fun r19 S16 S17 S18 t20 t21 h => ?_)
      refine z_if_eq (C _) (pc := 366) (tgt := 373) dL_law_366 (by decide) h (fun h => ?_) (fun h => ?_)
      · refine z_iconst (C _) (pc := 373) (x := (0 : Int32)) dL_law_373 kic_0 ?_
        exact h.elim
      · refine z_iconst (C _) (pc := 369) (x := (1 : Int32)) dL_law_369 kic_1 ?_
        refine z_goto (C _) (pc := 370) (tgt := 374) dL_law_370 (by decide) ?_
        exact z_lawret (C _) hE (pc := 374) dL_law_374 (by omega) (by omega)
set_option maxHeartbeats 8000000 in
set_option maxRecDepth 100000 in
theorem l_L_law_L125 (l : Launch) (hfl : l.stackTraces = false) (v : Ev) {b L : Nat} {xs : Nat → Int32} {nm9 : String} {x9 : P9} {A : Nat → Prop} {E : State → Prop} (C : ∀ X, Cx l v RL cL_law 9 (some .boolean) nm9 (x9, X, A, E)) (hX : LX b L xs A x9) (hE : LE b A E x9) (hL : L ≤ 260) (f1 f2 f3 : Nat) : ∀ (n : Nat) (S1 S2 S : Hp) (w4 w5 : Int32) (hn : n ≤ 91), g_T S1 = v.2.2.1 → g_T S2 = v.2.2.1 → wp_L_law_L125 f1 f2 f3 n S1 S2 S w4 w5 → ZZ l v 9 room_1 (x9, Y3 v.2.1 [] S1 S2, A, E) (174900 - n * 1900) (5156000 - n * 56000) S 125 [(0, va_rf (some b)), (1, va_rf (some f1)), (2, va_rf (some f2)), (3, va_rf (some f3)), (4, .int w4), (5, .int w5)] [] := by
  intro n
  induction n with
  | zero =>
    intro S1 S2 S w4 w5 hn t1 t2 h
    exact h.elim
  | succ n ih =>
    intro S1 S2 S w4 w5 hn t1 t2 h
    unfold wp_L_law_L125 at h
    obtain ⟨B, hB⟩ : ∃ B, B = 174900 - (n + 1) * 1900 := ⟨_, rfl⟩
    obtain ⟨B2, hB2⟩ : ∃ B2, B2 = 5156000 - (n + 1) * 56000 := ⟨_, rfl⟩
    have hR : 600000 ≤ room_1.cells := Nat.le_of_ble_eq_true rfl
    have hR2 : 7000000 ≤ room_1.slots := Nat.le_of_ble_eq_true rfl
    rw [← hB, ← hB2]
    refine z_wide (kc' := B + 0) (ks' := B2 + 0) (Nat.le_refl _) (Nat.le_refl _) ?_
    refine z_iload (C _) (pc := 125) dL_law_125 5 rfl ?_
    refine z_bipush (C _) (pc := 127) (x := (90 : Int32)) dL_law_127 kbp_90 ?_
    refine z_icmp_ge (C _) (pc := 129) (tgt := 342) dL_law_129 (by decide) h (fun h => ?_) (fun h => ?_)
    · refine z_sub [1, 2, 3, 4] (lv' := [(1, va_rf (some f1)), (2, va_rf (some f2)), (3, va_rf (some f3)), (4, .int w4)]) rfl ?_
      refine z_wide (kc' := 174900) (ks' := 5156000) (by omega) (by omega) ?_
      exact k_L_law_B342 l hfl v C hX hE hL S1 S2 S t1 t2 f1 f2 f3 w4 h
    · refine z_iload (C _) (pc := 132) dL_law_132 4 rfl ?_
      refine z_if_eq (C _) (pc := 134) (tgt := 342) dL_law_134 (by decide) h (fun h => ?_) (fun h => ?_)
      · refine z_sub [1, 2, 3, 4] (lv' := [(1, va_rf (some f1)), (2, va_rf (some f2)), (3, va_rf (some f3)), (4, .int w4)]) rfl ?_
        refine z_wide (kc' := 174900) (ks' := 5156000) (by omega) (by omega) ?_
        exact k_L_law_B342 l hfl v C hX hE hL S1 S2 S t1 t2 f1 f2 f3 w4 h
      · refine z_aload_n (C _) (pc := 137) dL_law_137 0 rfl ?_
        refine z_iconst (C _) (pc := 138) (x := (4 : Int32)) dL_law_138 kic_4 ?_
        refine z_iconst (C _) (pc := 139) (x := (2 : Int32)) dL_law_139 kic_2 ?_
        refine z_iload (C _) (pc := 140) dL_law_140 5 rfl ?_
        refine z_imul (C _) (pc := 142) dL_law_142 ?_
        refine z_iadd (C _) (pc := 143) dL_law_143 ?_
        obtain ⟨c23, h⟩ := h
        refine z_SC (C _) hX (pc := 144) (kc' := (B + 0)) (ks' := (B2 + 0)) (As := [va_rf (some b), .int ((4 : Int32) + ((2 : Int32) * w5))]) (rest := []) (c_L_cell l v b L xs ((4 : Int32) + ((2 : Int32) * w5)) hL c23) mw_L_cell bw_96 bw_97 ⟨by have h9 : rm_L_cell.cells = 0 := rfl; omega, by omega, by have h9 : rm_L_cell.slots = 0 := rfl; omega, by omega, by decide, by decide⟩ rfl rfl (Nat.le_of_ble_eq_true rfl) dL_law_144 (fun r22 => ?_)
        replace h := h r22
        refine z_istore (C _) (pc := 147) (lv' := [(6, .int r22), (0, va_rf (some b)), (1, va_rf (some f1)), (2, va_rf (some f2)), (3, va_rf (some f3)), (4, .int w4), (5, .int w5)]) dL_law_147 (by decide) rfl ?_
        refine z_aload_n (C _) (pc := 149) dL_law_149 1 rfl ?_
        refine z_iconst (C _) (pc := 150) (x := (5 : Int32)) dL_law_150 kic_5 ?_
        refine z_iconst (C _) (pc := 151) (x := (2 : Int32)) dL_law_151 kic_2 ?_
        refine z_iload (C _) (pc := 152) dL_law_152 6 rfl ?_
        refine z_imul (C _) (pc := 154) dL_law_154 ?_
        refine z_iadd (C _) (pc := 155) dL_law_155 ?_
        obtain ⟨c25, h⟩ := h
        refine z_SC (C _) hX (pc := 156) (kc' := (B + 0)) (ks' := (B2 + 0)) (As := [va_rf (some b), .int ((5 : Int32) + ((2 : Int32) * w5))]) (rest := []) (c_L_cell l v b L xs ((5 : Int32) + ((2 : Int32) * w5)) hL c25) mw_L_cell bw_96 bw_97 ⟨by have h9 : rm_L_cell.cells = 0 := rfl; omega, by omega, by have h9 : rm_L_cell.slots = 0 := rfl; omega, by omega, by decide, by decide⟩ rfl rfl (Nat.le_of_ble_eq_true rfl) dL_law_156 (fun r24 => ?_)
        replace h := h r24
        refine z_istore (C _) (pc := 159) (lv' := [(7, .int r24), (6, .int r22), (0, va_rf (some b)), (1, va_rf (some f1)), (2, va_rf (some f2)), (3, va_rf (some f3)), (4, .int w4), (5, .int w5)]) dL_law_159 (by decide) rfl ?_
        refine z_iload (C _) (pc := 161) dL_law_161 1 rfl ?_
        refine z_bipush (C _) (pc := 163) (x := (24 : Int32)) dL_law_163 kbp_24 ?_
        refine z_Si8 (C _) (pc := 165) (KX := fun _ _ => False) (kc' := (B + 0)) (ks' := (B2 + 0)) (As := [.int r22, .int (24 : Int32)]) (rest := []) (c_L_some l v S r22 (24 : Int32)) mw_L_some bw_101 bw_102 ⟨by have h9 : rm_L_some.cells = 0 := rfl; omega, by omega, by have h9 : rm_L_some.slots = 0 := rfl; omega, by omega, by decide, by decide⟩ rfl rfl (Nat.le_of_ble_eq_true rfl) dL_law_165 h (fun r27 S26 h => ?_) (fun En S9 h => h.elim)
        refine z_istore (C _) (pc := 168) (lv' := [(8, .int r27), (7, .int r24), (6, .int r22), (0, va_rf (some b)), (1, va_rf (some f1)), (2, va_rf (some f2)), (3, va_rf (some f3)), (4, .int w4), (5, .int w5)]) dL_law_168 (by decide) rfl ?_
        refine z_iload (C _) (pc := 170) dL_law_170 0 rfl ?_
        refine z_bipush (C _) (pc := 172) (x := (9 : Int32)) dL_law_172 kbp_9 ?_
        refine z_icmp_lt (C _) (pc := 174) (tgt := 183) dL_law_174 (by decide) h (fun h => ?_) (fun h => ?_)
        · refine z_aload_n (C _) (pc := 183) dL_law_183 4 rfl ?_
          refine z_aload_n (C _) (pc := 184) dL_law_184 5 rfl ?_
          refine z_aload_n (C _) (pc := 185) dL_law_185 6 rfl ?_
          refine z_iload (C _) (pc := 186) dL_law_186 2 rfl ?_
          refine z_iconst (C _) (pc := 188) (x := (5 : Int32)) dL_law_188 kic_5 ?_
          refine z_ishr (C _) (pc := 189) dL_law_189 ?_
          refine z_iload (C _) (pc := 190) dL_law_190 1 rfl ?_
          refine z_S3i (C _) (pc := 192) (kc' := (B + 92)) (ks' := (B2 + 2940)) (As := [va_rf (some f1), va_rf (some f2), va_rf (some f3), .int (r22 >>> ((5 : Int32) &&& 31)), .int r24]) (rest := []) (c_L_children l hfl v S1 S2 S26 f1 f2 f3 (r22 >>> ((5 : Int32) &&& 31)) r24) mw_L_children bw_780 bw_781 ⟨by have h9 : rm_L_children.cells = 92 := rfl; omega, by omega, by have h9 : rm_L_children.slots = 2940 := rfl; omega, by omega, by decide, by decide⟩ rfl rfl (Nat.le_of_ble_eq_true rfl) t1 t2 dL_law_192 h (fun r31 S28 S29 S30 t32 t33 h => ?_)
          refine z_goto (C _) (pc := 195) (tgt := 276) dL_law_195 (by decide) ?_
          refine z_istore (C _) (pc := 276) (lv' := [(4, .int r31), (8, .int r27), (7, .int r24), (6, .int r22), (0, va_rf (some b)), (1, va_rf (some f1)), (2, va_rf (some f2)), (3, va_rf (some f3)), (5, .int w5)]) dL_law_276 (by decide) rfl ?_
          refine z_iload (C _) (pc := 278) dL_law_278 0 rfl ?_
          refine z_if_eq (C _) (pc := 280) (tgt := 333) dL_law_280 (by decide) h (fun h => ?_) (fun h => ?_)
          · refine z_iconst (C _) (pc := 333) (x := (0 : Int32)) dL_law_333 kic_0 ?_
            refine z_istore (C _) (pc := 334) (lv' := [(4, .int (0 : Int32)), (8, .int r27), (7, .int r24), (6, .int r22), (0, va_rf (some b)), (1, va_rf (some f1)), (2, va_rf (some f2)), (3, va_rf (some f3)), (5, .int w5)]) dL_law_334 (by decide) rfl ?_
            refine z_iinc (C _) (pc := 336) (y := w5 + (1 : Int32)) (lv' := [(5, .int (w5 + (1 : Int32))), (4, .int (0 : Int32)), (8, .int r27), (7, .int r24), (6, .int r22), (0, va_rf (some b)), (1, va_rf (some f1)), (2, va_rf (some f2)), (3, va_rf (some f3))]) dL_law_336 8 rfl rfl (by decide) rfl ?_
            refine z_goto (C _) (pc := 339) (tgt := 125) dL_law_339 (by decide) ?_
            refine z_sub [5, 6, 7, 8, 1, 0] (lv' := [(0, va_rf (some b)), (1, va_rf (some f1)), (2, va_rf (some f2)), (3, va_rf (some f3)), (4, .int (0 : Int32)), (5, .int (w5 + (1 : Int32)))]) rfl ?_
            refine z_wide (kc' := 174900 - n * 1900) (ks' := 5156000 - n * 56000) (by omega) (by omega) ?_
            exact ih S28 S29 S30 (0 : Int32) (w5 + (1 : Int32)) (by omega) t32 t33 h
          · refine z_iload (C _) (pc := 283) dL_law_283 8 rfl ?_
            refine z_bipush (C _) (pc := 285) (x := (15 : Int32)) dL_law_285 kbp_15 ?_
            refine z_irem (C _) (pc := 287) dL_law_287 (by decide) ?_
            refine z_if_gt (C _) (pc := 288) (tgt := 313) dL_law_288 (by decide) h (fun h => ?_) (fun h => ?_)
            · refine z_iload (C _) (pc := 313) dL_law_313 8 rfl ?_
              refine z_bipush (C _) (pc := 315) (x := (45 : Int32)) dL_law_315 kbp_45 ?_
              refine z_irem (C _) (pc := 317) dL_law_317 (by decide) ?_
              refine z_if_gt (C _) (pc := 318) (tgt := 329) dL_law_318 (by decide) h (fun h => ?_) (fun h => ?_)
              · refine z_iconst (C _) (pc := 329) (x := (1 : Int32)) dL_law_329 kic_1 ?_
                refine z_goto (C _) (pc := 330) (tgt := 334) dL_law_330 (by decide) ?_
                refine z_istore (C _) (pc := 334) (lv' := [(4, .int (1 : Int32)), (8, .int r27), (7, .int r24), (6, .int r22), (0, va_rf (some b)), (1, va_rf (some f1)), (2, va_rf (some f2)), (3, va_rf (some f3)), (5, .int w5)]) dL_law_334 (by decide) rfl ?_
                refine z_iinc (C _) (pc := 336) (y := w5 + (1 : Int32)) (lv' := [(5, .int (w5 + (1 : Int32))), (4, .int (1 : Int32)), (8, .int r27), (7, .int r24), (6, .int r22), (0, va_rf (some b)), (1, va_rf (some f1)), (2, va_rf (some f2)), (3, va_rf (some f3))]) dL_law_336 8 rfl rfl (by decide) rfl ?_
                refine z_goto (C _) (pc := 339) (tgt := 125) dL_law_339 (by decide) ?_
                refine z_sub [5, 6, 7, 8, 1, 0] (lv' := [(0, va_rf (some b)), (1, va_rf (some f1)), (2, va_rf (some f2)), (3, va_rf (some f3)), (4, .int (1 : Int32)), (5, .int (w5 + (1 : Int32)))]) rfl ?_
                refine z_wide (kc' := 174900 - n * 1900) (ks' := 5156000 - n * 56000) (by omega) (by omega) ?_
                exact ih S28 S29 S30 (1 : Int32) (w5 + (1 : Int32)) (by omega) t32 t33 h
              · refine z_aload_n (C _) (pc := 321) dL_law_321 5 rfl ?_
                refine z_aload_n (C _) (pc := 322) dL_law_322 7 rfl ?_
                refine z_S3i (C _) (pc := 323) (kc' := (B + 1322)) (ks' := (B2 + 40362)) (As := [va_rf (some f1), va_rf (some f3)]) (rest := []) (c_L_refused l hfl v S28 S29 S30 f1 f3) mw_L_refused bw_876 bw_877 ⟨by have h9 : rm_L_refused.cells = 1230 := rfl; omega, by omega, by have h9 : rm_L_refused.slots = 37422 := rfl; omega, by omega, by decide, by decide⟩ rfl rfl (Nat.le_of_ble_eq_true rfl) t32 t33 dL_law_323 h (fun r37 S34 S35 S36 t38 t39 h => ?_)
                refine z_t_if_eq (C _) (pc := 326) dL_law_326 dL_law_329 kic_1 dL_law_330 dL_law_333 kic_0 ?_
                refine z_nI h (fun y40 h => ?_)
                refine z_istore (C _) (pc := 334) (lv' := [(4, .int y40), (8, .int r27), (7, .int r24), (6, .int r22), (0, va_rf (some b)), (1, va_rf (some f1)), (2, va_rf (some f2)), (3, va_rf (some f3)), (5, .int w5)]) dL_law_334 (by decide) rfl ?_
                refine z_iinc (C _) (pc := 336) (y := w5 + (1 : Int32)) (lv' := [(5, .int (w5 + (1 : Int32))), (4, .int y40), (8, .int r27), (7, .int r24), (6, .int r22), (0, va_rf (some b)), (1, va_rf (some f1)), (2, va_rf (some f2)), (3, va_rf (some f3))]) dL_law_336 8 rfl rfl (by decide) rfl ?_
                refine z_goto (C _) (pc := 339) (tgt := 125) dL_law_339 (by decide) ?_
                refine z_sub [5, 6, 7, 8, 1, 0] (lv' := [(0, va_rf (some b)), (1, va_rf (some f1)), (2, va_rf (some f2)), (3, va_rf (some f3)), (4, .int y40), (5, .int (w5 + (1 : Int32)))]) rfl ?_
                refine z_wide (kc' := 174900 - n * 1900) (ks' := 5156000 - n * 56000) (by omega) (by omega) ?_
                exact ih S34 S35 S36 y40 (w5 + (1 : Int32)) (by omega) t38 t39 h
            · refine z_aload_n (C _) (pc := 291) dL_law_291 5 rfl ?_
              refine z_aload_n (C _) (pc := 292) dL_law_292 7 rfl ?_
              refine z_S3l (C _) (pc := 293) (kc' := (B + 113)) (ks' := (B2 + 3045)) (As := [va_rf (some f1), va_rf (some f3)]) (rest := []) (c_L_all l hfl v S28 S29 S30 f1 f3) mw_L_all bw_104 bw_105 ⟨by have h9 : rm_L_all.cells = 21 := rfl; omega, by omega, by have h9 : rm_L_all.slots = 105 := rfl; omega, by omega, by decide, by decide⟩ rfl rfl (Nat.le_of_ble_eq_true rfl) t32 t33 dL_law_293 h (fun r44 S41 S42 S43 t45 t46 h => ?_)
              refine z_aload_n (C _) (pc := 296) dL_law_296 6 rfl ?_
              refine z_aload_n (C _) (pc := 297) dL_law_297 7 rfl ?_
              refine z_s12 ?_
              refine z_S3l (C _) (pc := 298) (kc' := (B + 134)) (ks' := (B2 + 3150)) (As := [va_rf (some f2), va_rf (some f3)]) (rest := [.long r44]) (c_L_all l hfl v S42 S41 S43 f2 f3) mw_L_all bw_104 bw_105 ⟨by have h9 : rm_L_all.cells = 21 := rfl; omega, by omega, by have h9 : rm_L_all.slots = 105 := rfl; omega, by omega, by decide, by decide⟩ rfl rfl (Nat.le_of_ble_eq_true rfl) t46 t45 dL_law_298 h (fun r50 S47 S48 S49 t51 t52 h => ?_)
              refine z_s12 ?_
              refine z_lcmp (C _) (pc := 301) dL_law_301 ?_
              refine z_if_ne (C _) (pc := 302) (tgt := 333) dL_law_302 (by decide) h (fun h => ?_) (fun h => ?_)
              · refine z_iconst (C _) (pc := 333) (x := (0 : Int32)) dL_law_333 kic_0 ?_
                refine z_istore (C _) (pc := 334) (lv' := [(4, .int (0 : Int32)), (8, .int r27), (7, .int r24), (6, .int r22), (0, va_rf (some b)), (1, va_rf (some f1)), (2, va_rf (some f2)), (3, va_rf (some f3)), (5, .int w5)]) dL_law_334 (by decide) rfl ?_
                refine z_iinc (C _) (pc := 336) (y := w5 + (1 : Int32)) (lv' := [(5, .int (w5 + (1 : Int32))), (4, .int (0 : Int32)), (8, .int r27), (7, .int r24), (6, .int r22), (0, va_rf (some b)), (1, va_rf (some f1)), (2, va_rf (some f2)), (3, va_rf (some f3))]) dL_law_336 8 rfl rfl (by decide) rfl ?_
                refine z_goto (C _) (pc := 339) (tgt := 125) dL_law_339 (by decide) ?_
                refine z_sub [5, 6, 7, 8, 1, 0] (lv' := [(0, va_rf (some b)), (1, va_rf (some f1)), (2, va_rf (some f2)), (3, va_rf (some f3)), (4, .int (0 : Int32)), (5, .int (w5 + (1 : Int32)))]) rfl ?_
                refine z_wide (kc' := 174900 - n * 1900) (ks' := 5156000 - n * 56000) (by omega) (by omega) ?_
                exact ih S48 S47 S49 (0 : Int32) (w5 + (1 : Int32)) (by omega) t52 t51 h
              · refine z_aload_n (C _) (pc := 305) dL_law_305 5 rfl ?_
                refine z_aload_n (C _) (pc := 306) dL_law_306 7 rfl ?_
                refine z_S3i (C _) (pc := 307) (kc' := (B + 134)) (ks' := (B2 + 3150)) (As := [va_rf (some f1), va_rf (some f3)]) (rest := []) (c_L_sound l hfl v S48 S47 S49 f1 f3) mw_L_sound bw_873 bw_874 ⟨by have h9 : rm_L_sound.cells = 0 := rfl; omega, by omega, by have h9 : rm_L_sound.slots = 0 := rfl; omega, by omega, by decide, by decide⟩ rfl rfl (Nat.le_of_ble_eq_true rfl) t52 t51 dL_law_307 h (fun r56 S53 S54 S55 t57 t58 h => ?_)
                refine z_if_eq (C _) (pc := 310) (tgt := 333) dL_law_310 (by decide) h (fun h => ?_) (fun h => ?_)
                · refine z_iconst (C _) (pc := 333) (x := (0 : Int32)) dL_law_333 kic_0 ?_
                  refine z_istore (C _) (pc := 334) (lv' := [(4, .int (0 : Int32)), (8, .int r27), (7, .int r24), (6, .int r22), (0, va_rf (some b)), (1, va_rf (some f1)), (2, va_rf (some f2)), (3, va_rf (some f3)), (5, .int w5)]) dL_law_334 (by decide) rfl ?_
                  refine z_iinc (C _) (pc := 336) (y := w5 + (1 : Int32)) (lv' := [(5, .int (w5 + (1 : Int32))), (4, .int (0 : Int32)), (8, .int r27), (7, .int r24), (6, .int r22), (0, va_rf (some b)), (1, va_rf (some f1)), (2, va_rf (some f2)), (3, va_rf (some f3))]) dL_law_336 8 rfl rfl (by decide) rfl ?_
                  refine z_goto (C _) (pc := 339) (tgt := 125) dL_law_339 (by decide) ?_
                  refine z_sub [5, 6, 7, 8, 1, 0] (lv' := [(0, va_rf (some b)), (1, va_rf (some f1)), (2, va_rf (some f2)), (3, va_rf (some f3)), (4, .int (0 : Int32)), (5, .int (w5 + (1 : Int32)))]) rfl ?_
                  refine z_wide (kc' := 174900 - n * 1900) (ks' := 5156000 - n * 56000) (by omega) (by omega) ?_
                  exact ih S53 S54 S55 (0 : Int32) (w5 + (1 : Int32)) (by omega) t57 t58 h
                · refine z_iload (C _) (pc := 313) dL_law_313 8 rfl ?_
                  refine z_bipush (C _) (pc := 315) (x := (45 : Int32)) dL_law_315 kbp_45 ?_
                  refine z_irem (C _) (pc := 317) dL_law_317 (by decide) ?_
                  refine z_if_gt (C _) (pc := 318) (tgt := 329) dL_law_318 (by decide) h (fun h => ?_) (fun h => ?_)
                  · refine z_iconst (C _) (pc := 329) (x := (1 : Int32)) dL_law_329 kic_1 ?_
                    refine z_goto (C _) (pc := 330) (tgt := 334) dL_law_330 (by decide) ?_
                    refine z_istore (C _) (pc := 334) (lv' := [(4, .int (1 : Int32)), (8, .int r27), (7, .int r24), (6, .int r22), (0, va_rf (some b)), (1, va_rf (some f1)), (2, va_rf (some f2)), (3, va_rf (some f3)), (5, .int w5)]) dL_law_334 (by decide) rfl ?_
                    refine z_iinc (C _) (pc := 336) (y := w5 + (1 : Int32)) (lv' := [(5, .int (w5 + (1 : Int32))), (4, .int (1 : Int32)), (8, .int r27), (7, .int r24), (6, .int r22), (0, va_rf (some b)), (1, va_rf (some f1)), (2, va_rf (some f2)), (3, va_rf (some f3))]) dL_law_336 8 rfl rfl (by decide) rfl ?_
                    refine z_goto (C _) (pc := 339) (tgt := 125) dL_law_339 (by decide) ?_
                    refine z_sub [5, 6, 7, 8, 1, 0] (lv' := [(0, va_rf (some b)), (1, va_rf (some f1)), (2, va_rf (some f2)), (3, va_rf (some f3)), (4, .int (1 : Int32)), (5, .int (w5 + (1 : Int32)))]) rfl ?_
                    refine z_wide (kc' := 174900 - n * 1900) (ks' := 5156000 - n * 56000) (by omega) (by omega) ?_
                    exact ih S53 S54 S55 (1 : Int32) (w5 + (1 : Int32)) (by omega) t57 t58 h
                  · refine z_aload_n (C _) (pc := 321) dL_law_321 5 rfl ?_
                    refine z_aload_n (C _) (pc := 322) dL_law_322 7 rfl ?_
                    refine z_S3i (C _) (pc := 323) (kc' := (B + 1364)) (ks' := (B2 + 40572)) (As := [va_rf (some f1), va_rf (some f3)]) (rest := []) (c_L_refused l hfl v S53 S54 S55 f1 f3) mw_L_refused bw_876 bw_877 ⟨by have h9 : rm_L_refused.cells = 1230 := rfl; omega, by omega, by have h9 : rm_L_refused.slots = 37422 := rfl; omega, by omega, by decide, by decide⟩ rfl rfl (Nat.le_of_ble_eq_true rfl) t57 t58 dL_law_323 h (fun r62 S59 S60 S61 t63 t64 h => ?_)
                    refine z_t_if_eq (C _) (pc := 326) dL_law_326 dL_law_329 kic_1 dL_law_330 dL_law_333 kic_0 ?_
                    refine z_nI h (fun y65 h => ?_)
                    refine z_istore (C _) (pc := 334) (lv' := [(4, .int y65), (8, .int r27), (7, .int r24), (6, .int r22), (0, va_rf (some b)), (1, va_rf (some f1)), (2, va_rf (some f2)), (3, va_rf (some f3)), (5, .int w5)]) dL_law_334 (by decide) rfl ?_
                    refine z_iinc (C _) (pc := 336) (y := w5 + (1 : Int32)) (lv' := [(5, .int (w5 + (1 : Int32))), (4, .int y65), (8, .int r27), (7, .int r24), (6, .int r22), (0, va_rf (some b)), (1, va_rf (some f1)), (2, va_rf (some f2)), (3, va_rf (some f3))]) dL_law_336 8 rfl rfl (by decide) rfl ?_
                    refine z_goto (C _) (pc := 339) (tgt := 125) dL_law_339 (by decide) ?_
                    refine z_sub [5, 6, 7, 8, 1, 0] (lv' := [(0, va_rf (some b)), (1, va_rf (some f1)), (2, va_rf (some f2)), (3, va_rf (some f3)), (4, .int y65), (5, .int (w5 + (1 : Int32)))]) rfl ?_
                    refine z_wide (kc' := 174900 - n * 1900) (ks' := 5156000 - n * 56000) (by omega) (by omega) ?_
                    exact ih S59 S60 S61 y65 (w5 + (1 : Int32)) (by omega) t63 t64 h
        · refine z_iload (C _) (pc := 177) dL_law_177 8 rfl ?_
          refine z_iconst (C _) (pc := 179) (x := (4 : Int32)) dL_law_179 kic_4 ?_
          refine z_icmp_ge (C _) (pc := 180) (tgt := 198) dL_law_180 (by decide) h (fun h => ?_) (fun h => ?_)
          · refine z_iload (C _) (pc := 198) dL_law_198 0 rfl ?_
            refine z_bipush (C _) (pc := 200) (x := (14 : Int32)) dL_law_200 kbp_14 ?_
            refine z_icmp_ge (C _) (pc := 202) (tgt := 220) dL_law_202 (by decide) h (fun h => ?_) (fun h => ?_)
            · refine z_iload (C _) (pc := 220) dL_law_220 0 rfl ?_
              refine z_bipush (C _) (pc := 222) (x := (17 : Int32)) dL_law_222 kbp_17 ?_
              refine z_icmp_ge (C _) (pc := 224) (tgt := 242) dL_law_224 (by decide) h (fun h => ?_) (fun h => ?_)
              · refine z_iload (C _) (pc := 242) dL_law_242 0 rfl ?_
                refine z_bipush (C _) (pc := 244) (x := (21 : Int32)) dL_law_244 kbp_21 ?_
                refine z_icmp_ge (C _) (pc := 246) (tgt := 264) dL_law_246 (by decide) h (fun h => ?_) (fun h => ?_)
                · refine z_aload_n (C _) (pc := 264) dL_law_264 4 rfl ?_
                  refine z_aload_n (C _) (pc := 265) dL_law_265 5 rfl ?_
                  refine z_aload_n (C _) (pc := 266) dL_law_266 6 rfl ?_
                  refine z_iload (C _) (pc := 267) dL_law_267 2 rfl ?_
                  refine z_iconst (C _) (pc := 269) (x := (5 : Int32)) dL_law_269 kic_5 ?_
                  refine z_ishr (C _) (pc := 270) dL_law_270 ?_
                  refine z_iload (C _) (pc := 271) dL_law_271 1 rfl ?_
                  refine z_S3i (C _) (pc := 273) (kc' := (B + 93)) (ks' := (B2 + 2964)) (As := [va_rf (some f1), va_rf (some f2), va_rf (some f3), .int (r22 >>> ((5 : Int32) &&& 31)), .int r24]) (rest := []) (c_L_days l hfl v S1 S2 S26 f1 f2 f3 (r22 >>> ((5 : Int32) &&& 31)) r24) mw_L_days bw_870 bw_871 ⟨by have h9 : rm_L_days.cells = 93 := rfl; omega, by omega, by have h9 : rm_L_days.slots = 2964 := rfl; omega, by omega, by decide, by decide⟩ rfl rfl (Nat.le_of_ble_eq_true rfl) t1 t2 dL_law_273 h (fun r69 S66 S67 S68 t70 t71 h => ?_)
                  refine z_istore (C _) (pc := 276) (lv' := [(4, .int r69), (8, .int r27), (7, .int r24), (6, .int r22), (0, va_rf (some b)), (1, va_rf (some f1)), (2, va_rf (some f2)), (3, va_rf (some f3)), (5, .int w5)]) dL_law_276 (by decide) rfl ?_
                  refine z_iload (C _) (pc := 278) dL_law_278 0 rfl ?_
                  refine z_if_eq (C _) (pc := 280) (tgt := 333) dL_law_280 (by decide) h (fun h => ?_) (fun h => ?_)
                  · refine z_iconst (C _) (pc := 333) (x := (0 : Int32)) dL_law_333 kic_0 ?_
                    refine z_istore (C _) (pc := 334) (lv' := [(4, .int (0 : Int32)), (8, .int r27), (7, .int r24), (6, .int r22), (0, va_rf (some b)), (1, va_rf (some f1)), (2, va_rf (some f2)), (3, va_rf (some f3)), (5, .int w5)]) dL_law_334 (by decide) rfl ?_
                    refine z_iinc (C _) (pc := 336) (y := w5 + (1 : Int32)) (lv' := [(5, .int (w5 + (1 : Int32))), (4, .int (0 : Int32)), (8, .int r27), (7, .int r24), (6, .int r22), (0, va_rf (some b)), (1, va_rf (some f1)), (2, va_rf (some f2)), (3, va_rf (some f3))]) dL_law_336 8 rfl rfl (by decide) rfl ?_
                    refine z_goto (C _) (pc := 339) (tgt := 125) dL_law_339 (by decide) ?_
                    refine z_sub [5, 6, 7, 8, 1, 0] (lv' := [(0, va_rf (some b)), (1, va_rf (some f1)), (2, va_rf (some f2)), (3, va_rf (some f3)), (4, .int (0 : Int32)), (5, .int (w5 + (1 : Int32)))]) rfl ?_
                    refine z_wide (kc' := 174900 - n * 1900) (ks' := 5156000 - n * 56000) (by omega) (by omega) ?_
                    exact ih S66 S67 S68 (0 : Int32) (w5 + (1 : Int32)) (by omega) t70 t71 h
                  · refine z_iload (C _) (pc := 283) dL_law_283 8 rfl ?_
                    refine z_bipush (C _) (pc := 285) (x := (15 : Int32)) dL_law_285 kbp_15 ?_
                    refine z_irem (C _) (pc := 287) dL_law_287 (by decide) ?_
                    refine z_if_gt (C _) (pc := 288) (tgt := 313) dL_law_288 (by decide) h (fun h => ?_) (fun h => ?_)
                    · refine z_iload (C _) (pc := 313) dL_law_313 8 rfl ?_
                      refine z_bipush (C _) (pc := 315) (x := (45 : Int32)) dL_law_315 kbp_45 ?_
                      refine z_irem (C _) (pc := 317) dL_law_317 (by decide) ?_
                      refine z_if_gt (C _) (pc := 318) (tgt := 329) dL_law_318 (by decide) h (fun h => ?_) (fun h => ?_)
                      · refine z_iconst (C _) (pc := 329) (x := (1 : Int32)) dL_law_329 kic_1 ?_
                        refine z_goto (C _) (pc := 330) (tgt := 334) dL_law_330 (by decide) ?_
                        refine z_istore (C _) (pc := 334) (lv' := [(4, .int (1 : Int32)), (8, .int r27), (7, .int r24), (6, .int r22), (0, va_rf (some b)), (1, va_rf (some f1)), (2, va_rf (some f2)), (3, va_rf (some f3)), (5, .int w5)]) dL_law_334 (by decide) rfl ?_
                        refine z_iinc (C _) (pc := 336) (y := w5 + (1 : Int32)) (lv' := [(5, .int (w5 + (1 : Int32))), (4, .int (1 : Int32)), (8, .int r27), (7, .int r24), (6, .int r22), (0, va_rf (some b)), (1, va_rf (some f1)), (2, va_rf (some f2)), (3, va_rf (some f3))]) dL_law_336 8 rfl rfl (by decide) rfl ?_
                        refine z_goto (C _) (pc := 339) (tgt := 125) dL_law_339 (by decide) ?_
                        refine z_sub [5, 6, 7, 8, 1, 0] (lv' := [(0, va_rf (some b)), (1, va_rf (some f1)), (2, va_rf (some f2)), (3, va_rf (some f3)), (4, .int (1 : Int32)), (5, .int (w5 + (1 : Int32)))]) rfl ?_
                        refine z_wide (kc' := 174900 - n * 1900) (ks' := 5156000 - n * 56000) (by omega) (by omega) ?_
                        exact ih S66 S67 S68 (1 : Int32) (w5 + (1 : Int32)) (by omega) t70 t71 h
                      · refine z_aload_n (C _) (pc := 321) dL_law_321 5 rfl ?_
                        refine z_aload_n (C _) (pc := 322) dL_law_322 7 rfl ?_
                        refine z_S3i (C _) (pc := 323) (kc' := (B + 1323)) (ks' := (B2 + 40386)) (As := [va_rf (some f1), va_rf (some f3)]) (rest := []) (c_L_refused l hfl v S66 S67 S68 f1 f3) mw_L_refused bw_876 bw_877 ⟨by have h9 : rm_L_refused.cells = 1230 := rfl; omega, by omega, by have h9 : rm_L_refused.slots = 37422 := rfl; omega, by omega, by decide, by decide⟩ rfl rfl (Nat.le_of_ble_eq_true rfl) t70 t71 dL_law_323 h (fun r75 S72 S73 S74 t76 t77 h => ?_)
                        refine z_t_if_eq (C _) (pc := 326) dL_law_326 dL_law_329 kic_1 dL_law_330 dL_law_333 kic_0 ?_
                        refine z_nI h (fun y78 h => ?_)
                        refine z_istore (C _) (pc := 334) (lv' := [(4, .int y78), (8, .int r27), (7, .int r24), (6, .int r22), (0, va_rf (some b)), (1, va_rf (some f1)), (2, va_rf (some f2)), (3, va_rf (some f3)), (5, .int w5)]) dL_law_334 (by decide) rfl ?_
                        refine z_iinc (C _) (pc := 336) (y := w5 + (1 : Int32)) (lv' := [(5, .int (w5 + (1 : Int32))), (4, .int y78), (8, .int r27), (7, .int r24), (6, .int r22), (0, va_rf (some b)), (1, va_rf (some f1)), (2, va_rf (some f2)), (3, va_rf (some f3))]) dL_law_336 8 rfl rfl (by decide) rfl ?_
                        refine z_goto (C _) (pc := 339) (tgt := 125) dL_law_339 (by decide) ?_
                        refine z_sub [5, 6, 7, 8, 1, 0] (lv' := [(0, va_rf (some b)), (1, va_rf (some f1)), (2, va_rf (some f2)), (3, va_rf (some f3)), (4, .int y78), (5, .int (w5 + (1 : Int32)))]) rfl ?_
                        refine z_wide (kc' := 174900 - n * 1900) (ks' := 5156000 - n * 56000) (by omega) (by omega) ?_
                        exact ih S72 S73 S74 y78 (w5 + (1 : Int32)) (by omega) t76 t77 h
                    · refine z_aload_n (C _) (pc := 291) dL_law_291 5 rfl ?_
                      refine z_aload_n (C _) (pc := 292) dL_law_292 7 rfl ?_
                      refine z_S3l (C _) (pc := 293) (kc' := (B + 114)) (ks' := (B2 + 3069)) (As := [va_rf (some f1), va_rf (some f3)]) (rest := []) (c_L_all l hfl v S66 S67 S68 f1 f3) mw_L_all bw_104 bw_105 ⟨by have h9 : rm_L_all.cells = 21 := rfl; omega, by omega, by have h9 : rm_L_all.slots = 105 := rfl; omega, by omega, by decide, by decide⟩ rfl rfl (Nat.le_of_ble_eq_true rfl) t70 t71 dL_law_293 h (fun r82 S79 S80 S81 t83 t84 h => ?_)
                      refine z_aload_n (C _) (pc := 296) dL_law_296 6 rfl ?_
                      refine z_aload_n (C _) (pc := 297) dL_law_297 7 rfl ?_
                      refine z_s12 ?_
                      refine z_S3l (C _) (pc := 298) (kc' := (B + 135)) (ks' := (B2 + 3174)) (As := [va_rf (some f2), va_rf (some f3)]) (rest := [.long r82]) (c_L_all l hfl v S80 S79 S81 f2 f3) mw_L_all bw_104 bw_105 ⟨by have h9 : rm_L_all.cells = 21 := rfl; omega, by omega, by have h9 : rm_L_all.slots = 105 := rfl; omega, by omega, by decide, by decide⟩ rfl rfl (Nat.le_of_ble_eq_true rfl) t84 t83 dL_law_298 h (fun r88 S85 S86 S87 t89 t90 h => ?_)
                      refine z_s12 ?_
                      refine z_lcmp (C _) (pc := 301) dL_law_301 ?_
                      refine z_if_ne (C _) (pc := 302) (tgt := 333) dL_law_302 (by decide) h (fun h => ?_) (fun h => ?_)
                      · refine z_iconst (C _) (pc := 333) (x := (0 : Int32)) dL_law_333 kic_0 ?_
                        refine z_istore (C _) (pc := 334) (lv' := [(4, .int (0 : Int32)), (8, .int r27), (7, .int r24), (6, .int r22), (0, va_rf (some b)), (1, va_rf (some f1)), (2, va_rf (some f2)), (3, va_rf (some f3)), (5, .int w5)]) dL_law_334 (by decide) rfl ?_
                        refine z_iinc (C _) (pc := 336) (y := w5 + (1 : Int32)) (lv' := [(5, .int (w5 + (1 : Int32))), (4, .int (0 : Int32)), (8, .int r27), (7, .int r24), (6, .int r22), (0, va_rf (some b)), (1, va_rf (some f1)), (2, va_rf (some f2)), (3, va_rf (some f3))]) dL_law_336 8 rfl rfl (by decide) rfl ?_
                        refine z_goto (C _) (pc := 339) (tgt := 125) dL_law_339 (by decide) ?_
                        refine z_sub [5, 6, 7, 8, 1, 0] (lv' := [(0, va_rf (some b)), (1, va_rf (some f1)), (2, va_rf (some f2)), (3, va_rf (some f3)), (4, .int (0 : Int32)), (5, .int (w5 + (1 : Int32)))]) rfl ?_
                        refine z_wide (kc' := 174900 - n * 1900) (ks' := 5156000 - n * 56000) (by omega) (by omega) ?_
                        exact ih S86 S85 S87 (0 : Int32) (w5 + (1 : Int32)) (by omega) t90 t89 h
                      · refine z_aload_n (C _) (pc := 305) dL_law_305 5 rfl ?_
                        refine z_aload_n (C _) (pc := 306) dL_law_306 7 rfl ?_
                        refine z_S3i (C _) (pc := 307) (kc' := (B + 135)) (ks' := (B2 + 3174)) (As := [va_rf (some f1), va_rf (some f3)]) (rest := []) (c_L_sound l hfl v S86 S85 S87 f1 f3) mw_L_sound bw_873 bw_874 ⟨by have h9 : rm_L_sound.cells = 0 := rfl; omega, by omega, by have h9 : rm_L_sound.slots = 0 := rfl; omega, by omega, by decide, by decide⟩ rfl rfl (Nat.le_of_ble_eq_true rfl) t90 t89 dL_law_307 h (fun r94 S91 S92 S93 t95 t96 h => ?_)
                        refine z_if_eq (C _) (pc := 310) (tgt := 333) dL_law_310 (by decide) h (fun h => ?_) (fun h => ?_)
                        · refine z_iconst (C _) (pc := 333) (x := (0 : Int32)) dL_law_333 kic_0 ?_
                          refine z_istore (C _) (pc := 334) (lv' := [(4, .int (0 : Int32)), (8, .int r27), (7, .int r24), (6, .int r22), (0, va_rf (some b)), (1, va_rf (some f1)), (2, va_rf (some f2)), (3, va_rf (some f3)), (5, .int w5)]) dL_law_334 (by decide) rfl ?_
                          refine z_iinc (C _) (pc := 336) (y := w5 + (1 : Int32)) (lv' := [(5, .int (w5 + (1 : Int32))), (4, .int (0 : Int32)), (8, .int r27), (7, .int r24), (6, .int r22), (0, va_rf (some b)), (1, va_rf (some f1)), (2, va_rf (some f2)), (3, va_rf (some f3))]) dL_law_336 8 rfl rfl (by decide) rfl ?_
                          refine z_goto (C _) (pc := 339) (tgt := 125) dL_law_339 (by decide) ?_
                          refine z_sub [5, 6, 7, 8, 1, 0] (lv' := [(0, va_rf (some b)), (1, va_rf (some f1)), (2, va_rf (some f2)), (3, va_rf (some f3)), (4, .int (0 : Int32)), (5, .int (w5 + (1 : Int32)))]) rfl ?_
                          refine z_wide (kc' := 174900 - n * 1900) (ks' := 5156000 - n * 56000) (by omega) (by omega) ?_
                          exact ih S91 S92 S93 (0 : Int32) (w5 + (1 : Int32)) (by omega) t95 t96 h
                        · refine z_iload (C _) (pc := 313) dL_law_313 8 rfl ?_
                          refine z_bipush (C _) (pc := 315) (x := (45 : Int32)) dL_law_315 kbp_45 ?_
                          refine z_irem (C _) (pc := 317) dL_law_317 (by decide) ?_
                          refine z_if_gt (C _) (pc := 318) (tgt := 329) dL_law_318 (by decide) h (fun h => ?_) (fun h => ?_)
                          · refine z_iconst (C _) (pc := 329) (x := (1 : Int32)) dL_law_329 kic_1 ?_
                            refine z_goto (C _) (pc := 330) (tgt := 334) dL_law_330 (by decide) ?_
                            refine z_istore (C _) (pc := 334) (lv' := [(4, .int (1 : Int32)), (8, .int r27), (7, .int r24), (6, .int r22), (0, va_rf (some b)), (1, va_rf (some f1)), (2, va_rf (some f2)), (3, va_rf (some f3)), (5, .int w5)]) dL_law_334 (by decide) rfl ?_
                            refine z_iinc (C _) (pc := 336) (y := w5 + (1 : Int32)) (lv' := [(5, .int (w5 + (1 : Int32))), (4, .int (1 : Int32)), (8, .int r27), (7, .int r24), (6, .int r22), (0, va_rf (some b)), (1, va_rf (some f1)), (2, va_rf (some f2)), (3, va_rf (some f3))]) dL_law_336 8 rfl rfl (by decide) rfl ?_
                            refine z_goto (C _) (pc := 339) (tgt := 125) dL_law_339 (by decide) ?_
                            refine z_sub [5, 6, 7, 8, 1, 0] (lv' := [(0, va_rf (some b)), (1, va_rf (some f1)), (2, va_rf (some f2)), (3, va_rf (some f3)), (4, .int (1 : Int32)), (5, .int (w5 + (1 : Int32)))]) rfl ?_
                            refine z_wide (kc' := 174900 - n * 1900) (ks' := 5156000 - n * 56000) (by omega) (by omega) ?_
                            exact ih S91 S92 S93 (1 : Int32) (w5 + (1 : Int32)) (by omega) t95 t96 h
                          · refine z_aload_n (C _) (pc := 321) dL_law_321 5 rfl ?_
                            refine z_aload_n (C _) (pc := 322) dL_law_322 7 rfl ?_
                            refine z_S3i (C _) (pc := 323) (kc' := (B + 1365)) (ks' := (B2 + 40596)) (As := [va_rf (some f1), va_rf (some f3)]) (rest := []) (c_L_refused l hfl v S91 S92 S93 f1 f3) mw_L_refused bw_876 bw_877 ⟨by have h9 : rm_L_refused.cells = 1230 := rfl; omega, by omega, by have h9 : rm_L_refused.slots = 37422 := rfl; omega, by omega, by decide, by decide⟩ rfl rfl (Nat.le_of_ble_eq_true rfl) t95 t96 dL_law_323 h (fun r100 S97 S98 S99 t101 t102 h => ?_)
                            refine z_t_if_eq (C _) (pc := 326) dL_law_326 dL_law_329 kic_1 dL_law_330 dL_law_333 kic_0 ?_
                            refine z_nI h (fun y103 h => ?_)
                            refine z_istore (C _) (pc := 334) (lv' := [(4, .int y103), (8, .int r27), (7, .int r24), (6, .int r22), (0, va_rf (some b)), (1, va_rf (some f1)), (2, va_rf (some f2)), (3, va_rf (some f3)), (5, .int w5)]) dL_law_334 (by decide) rfl ?_
                            refine z_iinc (C _) (pc := 336) (y := w5 + (1 : Int32)) (lv' := [(5, .int (w5 + (1 : Int32))), (4, .int y103), (8, .int r27), (7, .int r24), (6, .int r22), (0, va_rf (some b)), (1, va_rf (some f1)), (2, va_rf (some f2)), (3, va_rf (some f3))]) dL_law_336 8 rfl rfl (by decide) rfl ?_
                            refine z_goto (C _) (pc := 339) (tgt := 125) dL_law_339 (by decide) ?_
                            refine z_sub [5, 6, 7, 8, 1, 0] (lv' := [(0, va_rf (some b)), (1, va_rf (some f1)), (2, va_rf (some f2)), (3, va_rf (some f3)), (4, .int y103), (5, .int (w5 + (1 : Int32)))]) rfl ?_
                            refine z_wide (kc' := 174900 - n * 1900) (ks' := 5156000 - n * 56000) (by omega) (by omega) ?_
                            exact ih S97 S98 S99 y103 (w5 + (1 : Int32)) (by omega) t101 t102 h
                · refine z_aload_n (C _) (pc := 249) dL_law_249 4 rfl ?_
                  refine z_aload_n (C _) (pc := 250) dL_law_250 5 rfl ?_
                  refine z_aload_n (C _) (pc := 251) dL_law_251 6 rfl ?_
                  refine z_iload (C _) (pc := 252) dL_law_252 2 rfl ?_
                  refine z_iconst (C _) (pc := 254) (x := (5 : Int32)) dL_law_254 kic_5 ?_
                  refine z_ishr (C _) (pc := 255) dL_law_255 ?_
                  refine z_iload (C _) (pc := 256) dL_law_256 1 rfl ?_
                  refine z_S3i (C _) (pc := 258) (kc' := (B + 138)) (ks' := (B2 + 4410)) (As := [va_rf (some f1), va_rf (some f2), va_rf (some f3), .int (r22 >>> ((5 : Int32) &&& 31)), .int r24]) (rest := []) (c_L_events l hfl v S1 S2 S26 f1 f2 f3 (r22 >>> ((5 : Int32) &&& 31)) r24) mw_L_events bw_829 bw_830 ⟨by have h9 : rm_L_events.cells = 138 := rfl; omega, by omega, by have h9 : rm_L_events.slots = 4410 := rfl; omega, by omega, by decide, by decide⟩ rfl rfl (Nat.le_of_ble_eq_true rfl) t1 t2 dL_law_258 h (fun r107 S104 S105 S106 t108 t109 h => ?_)
                  refine z_goto (C _) (pc := 261) (tgt := 276) dL_law_261 (by decide) ?_
                  refine z_istore (C _) (pc := 276) (lv' := [(4, .int r107), (8, .int r27), (7, .int r24), (6, .int r22), (0, va_rf (some b)), (1, va_rf (some f1)), (2, va_rf (some f2)), (3, va_rf (some f3)), (5, .int w5)]) dL_law_276 (by decide) rfl ?_
                  refine z_iload (C _) (pc := 278) dL_law_278 0 rfl ?_
                  refine z_if_eq (C _) (pc := 280) (tgt := 333) dL_law_280 (by decide) h (fun h => ?_) (fun h => ?_)
                  · refine z_iconst (C _) (pc := 333) (x := (0 : Int32)) dL_law_333 kic_0 ?_
                    refine z_istore (C _) (pc := 334) (lv' := [(4, .int (0 : Int32)), (8, .int r27), (7, .int r24), (6, .int r22), (0, va_rf (some b)), (1, va_rf (some f1)), (2, va_rf (some f2)), (3, va_rf (some f3)), (5, .int w5)]) dL_law_334 (by decide) rfl ?_
                    refine z_iinc (C _) (pc := 336) (y := w5 + (1 : Int32)) (lv' := [(5, .int (w5 + (1 : Int32))), (4, .int (0 : Int32)), (8, .int r27), (7, .int r24), (6, .int r22), (0, va_rf (some b)), (1, va_rf (some f1)), (2, va_rf (some f2)), (3, va_rf (some f3))]) dL_law_336 8 rfl rfl (by decide) rfl ?_
                    refine z_goto (C _) (pc := 339) (tgt := 125) dL_law_339 (by decide) ?_
                    refine z_sub [5, 6, 7, 8, 1, 0] (lv' := [(0, va_rf (some b)), (1, va_rf (some f1)), (2, va_rf (some f2)), (3, va_rf (some f3)), (4, .int (0 : Int32)), (5, .int (w5 + (1 : Int32)))]) rfl ?_
                    refine z_wide (kc' := 174900 - n * 1900) (ks' := 5156000 - n * 56000) (by omega) (by omega) ?_
                    exact ih S104 S105 S106 (0 : Int32) (w5 + (1 : Int32)) (by omega) t108 t109 h
                  · refine z_iload (C _) (pc := 283) dL_law_283 8 rfl ?_
                    refine z_bipush (C _) (pc := 285) (x := (15 : Int32)) dL_law_285 kbp_15 ?_
                    refine z_irem (C _) (pc := 287) dL_law_287 (by decide) ?_
                    refine z_if_gt (C _) (pc := 288) (tgt := 313) dL_law_288 (by decide) h (fun h => ?_) (fun h => ?_)
                    · refine z_iload (C _) (pc := 313) dL_law_313 8 rfl ?_
                      refine z_bipush (C _) (pc := 315) (x := (45 : Int32)) dL_law_315 kbp_45 ?_
                      refine z_irem (C _) (pc := 317) dL_law_317 (by decide) ?_
                      refine z_if_gt (C _) (pc := 318) (tgt := 329) dL_law_318 (by decide) h (fun h => ?_) (fun h => ?_)
                      · refine z_iconst (C _) (pc := 329) (x := (1 : Int32)) dL_law_329 kic_1 ?_
                        refine z_goto (C _) (pc := 330) (tgt := 334) dL_law_330 (by decide) ?_
                        refine z_istore (C _) (pc := 334) (lv' := [(4, .int (1 : Int32)), (8, .int r27), (7, .int r24), (6, .int r22), (0, va_rf (some b)), (1, va_rf (some f1)), (2, va_rf (some f2)), (3, va_rf (some f3)), (5, .int w5)]) dL_law_334 (by decide) rfl ?_
                        refine z_iinc (C _) (pc := 336) (y := w5 + (1 : Int32)) (lv' := [(5, .int (w5 + (1 : Int32))), (4, .int (1 : Int32)), (8, .int r27), (7, .int r24), (6, .int r22), (0, va_rf (some b)), (1, va_rf (some f1)), (2, va_rf (some f2)), (3, va_rf (some f3))]) dL_law_336 8 rfl rfl (by decide) rfl ?_
                        refine z_goto (C _) (pc := 339) (tgt := 125) dL_law_339 (by decide) ?_
                        refine z_sub [5, 6, 7, 8, 1, 0] (lv' := [(0, va_rf (some b)), (1, va_rf (some f1)), (2, va_rf (some f2)), (3, va_rf (some f3)), (4, .int (1 : Int32)), (5, .int (w5 + (1 : Int32)))]) rfl ?_
                        refine z_wide (kc' := 174900 - n * 1900) (ks' := 5156000 - n * 56000) (by omega) (by omega) ?_
                        exact ih S104 S105 S106 (1 : Int32) (w5 + (1 : Int32)) (by omega) t108 t109 h
                      · refine z_aload_n (C _) (pc := 321) dL_law_321 5 rfl ?_
                        refine z_aload_n (C _) (pc := 322) dL_law_322 7 rfl ?_
                        refine z_S3i (C _) (pc := 323) (kc' := (B + 1368)) (ks' := (B2 + 41832)) (As := [va_rf (some f1), va_rf (some f3)]) (rest := []) (c_L_refused l hfl v S104 S105 S106 f1 f3) mw_L_refused bw_876 bw_877 ⟨by have h9 : rm_L_refused.cells = 1230 := rfl; omega, by omega, by have h9 : rm_L_refused.slots = 37422 := rfl; omega, by omega, by decide, by decide⟩ rfl rfl (Nat.le_of_ble_eq_true rfl) t108 t109 dL_law_323 h (fun r113 S110 S111 S112 t114 t115 h => ?_)
                        refine z_t_if_eq (C _) (pc := 326) dL_law_326 dL_law_329 kic_1 dL_law_330 dL_law_333 kic_0 ?_
                        refine z_nI h (fun y116 h => ?_)
                        refine z_istore (C _) (pc := 334) (lv' := [(4, .int y116), (8, .int r27), (7, .int r24), (6, .int r22), (0, va_rf (some b)), (1, va_rf (some f1)), (2, va_rf (some f2)), (3, va_rf (some f3)), (5, .int w5)]) dL_law_334 (by decide) rfl ?_
                        refine z_iinc (C _) (pc := 336) (y := w5 + (1 : Int32)) (lv' := [(5, .int (w5 + (1 : Int32))), (4, .int y116), (8, .int r27), (7, .int r24), (6, .int r22), (0, va_rf (some b)), (1, va_rf (some f1)), (2, va_rf (some f2)), (3, va_rf (some f3))]) dL_law_336 8 rfl rfl (by decide) rfl ?_
                        refine z_goto (C _) (pc := 339) (tgt := 125) dL_law_339 (by decide) ?_
                        refine z_sub [5, 6, 7, 8, 1, 0] (lv' := [(0, va_rf (some b)), (1, va_rf (some f1)), (2, va_rf (some f2)), (3, va_rf (some f3)), (4, .int y116), (5, .int (w5 + (1 : Int32)))]) rfl ?_
                        refine z_wide (kc' := 174900 - n * 1900) (ks' := 5156000 - n * 56000) (by omega) (by omega) ?_
                        exact ih S110 S111 S112 y116 (w5 + (1 : Int32)) (by omega) t114 t115 h
                    · refine z_aload_n (C _) (pc := 291) dL_law_291 5 rfl ?_
                      refine z_aload_n (C _) (pc := 292) dL_law_292 7 rfl ?_
                      refine z_S3l (C _) (pc := 293) (kc' := (B + 159)) (ks' := (B2 + 4515)) (As := [va_rf (some f1), va_rf (some f3)]) (rest := []) (c_L_all l hfl v S104 S105 S106 f1 f3) mw_L_all bw_104 bw_105 ⟨by have h9 : rm_L_all.cells = 21 := rfl; omega, by omega, by have h9 : rm_L_all.slots = 105 := rfl; omega, by omega, by decide, by decide⟩ rfl rfl (Nat.le_of_ble_eq_true rfl) t108 t109 dL_law_293 h (fun r120 S117 S118 S119 t121 t122 h => ?_)
                      refine z_aload_n (C _) (pc := 296) dL_law_296 6 rfl ?_
                      refine z_aload_n (C _) (pc := 297) dL_law_297 7 rfl ?_
                      refine z_s12 ?_
                      refine z_S3l (C _) (pc := 298) (kc' := (B + 180)) (ks' := (B2 + 4620)) (As := [va_rf (some f2), va_rf (some f3)]) (rest := [.long r120]) (c_L_all l hfl v S118 S117 S119 f2 f3) mw_L_all bw_104 bw_105 ⟨by have h9 : rm_L_all.cells = 21 := rfl; omega, by omega, by have h9 : rm_L_all.slots = 105 := rfl; omega, by omega, by decide, by decide⟩ rfl rfl (Nat.le_of_ble_eq_true rfl) t122 t121 dL_law_298 h (fun r126 S123 S124 S125 t127 t128 h => ?_)
                      refine z_s12 ?_
                      refine z_lcmp (C _) (pc := 301) dL_law_301 ?_
                      refine z_if_ne (C _) (pc := 302) (tgt := 333) dL_law_302 (by decide) h (fun h => ?_) (fun h => ?_)
                      · refine z_iconst (C _) (pc := 333) (x := (0 : Int32)) dL_law_333 kic_0 ?_
                        refine z_istore (C _) (pc := 334) (lv' := [(4, .int (0 : Int32)), (8, .int r27), (7, .int r24), (6, .int r22), (0, va_rf (some b)), (1, va_rf (some f1)), (2, va_rf (some f2)), (3, va_rf (some f3)), (5, .int w5)]) dL_law_334 (by decide) rfl ?_
                        refine z_iinc (C _) (pc := 336) (y := w5 + (1 : Int32)) (lv' := [(5, .int (w5 + (1 : Int32))), (4, .int (0 : Int32)), (8, .int r27), (7, .int r24), (6, .int r22), (0, va_rf (some b)), (1, va_rf (some f1)), (2, va_rf (some f2)), (3, va_rf (some f3))]) dL_law_336 8 rfl rfl (by decide) rfl ?_
                        refine z_goto (C _) (pc := 339) (tgt := 125) dL_law_339 (by decide) ?_
                        refine z_sub [5, 6, 7, 8, 1, 0] (lv' := [(0, va_rf (some b)), (1, va_rf (some f1)), (2, va_rf (some f2)), (3, va_rf (some f3)), (4, .int (0 : Int32)), (5, .int (w5 + (1 : Int32)))]) rfl ?_
                        refine z_wide (kc' := 174900 - n * 1900) (ks' := 5156000 - n * 56000) (by omega) (by omega) ?_
                        exact ih S124 S123 S125 (0 : Int32) (w5 + (1 : Int32)) (by omega) t128 t127 h
                      · refine z_aload_n (C _) (pc := 305) dL_law_305 5 rfl ?_
                        refine z_aload_n (C _) (pc := 306) dL_law_306 7 rfl ?_
                        refine z_S3i (C _) (pc := 307) (kc' := (B + 180)) (ks' := (B2 + 4620)) (As := [va_rf (some f1), va_rf (some f3)]) (rest := []) (c_L_sound l hfl v S124 S123 S125 f1 f3) mw_L_sound bw_873 bw_874 ⟨by have h9 : rm_L_sound.cells = 0 := rfl; omega, by omega, by have h9 : rm_L_sound.slots = 0 := rfl; omega, by omega, by decide, by decide⟩ rfl rfl (Nat.le_of_ble_eq_true rfl) t128 t127 dL_law_307 h (fun r132 S129 S130 S131 t133 t134 h => ?_)
                        refine z_if_eq (C _) (pc := 310) (tgt := 333) dL_law_310 (by decide) h (fun h => ?_) (fun h => ?_)
                        · refine z_iconst (C _) (pc := 333) (x := (0 : Int32)) dL_law_333 kic_0 ?_
                          refine z_istore (C _) (pc := 334) (lv' := [(4, .int (0 : Int32)), (8, .int r27), (7, .int r24), (6, .int r22), (0, va_rf (some b)), (1, va_rf (some f1)), (2, va_rf (some f2)), (3, va_rf (some f3)), (5, .int w5)]) dL_law_334 (by decide) rfl ?_
                          refine z_iinc (C _) (pc := 336) (y := w5 + (1 : Int32)) (lv' := [(5, .int (w5 + (1 : Int32))), (4, .int (0 : Int32)), (8, .int r27), (7, .int r24), (6, .int r22), (0, va_rf (some b)), (1, va_rf (some f1)), (2, va_rf (some f2)), (3, va_rf (some f3))]) dL_law_336 8 rfl rfl (by decide) rfl ?_
                          refine z_goto (C _) (pc := 339) (tgt := 125) dL_law_339 (by decide) ?_
                          refine z_sub [5, 6, 7, 8, 1, 0] (lv' := [(0, va_rf (some b)), (1, va_rf (some f1)), (2, va_rf (some f2)), (3, va_rf (some f3)), (4, .int (0 : Int32)), (5, .int (w5 + (1 : Int32)))]) rfl ?_
                          refine z_wide (kc' := 174900 - n * 1900) (ks' := 5156000 - n * 56000) (by omega) (by omega) ?_
                          exact ih S129 S130 S131 (0 : Int32) (w5 + (1 : Int32)) (by omega) t133 t134 h
                        · refine z_iload (C _) (pc := 313) dL_law_313 8 rfl ?_
                          refine z_bipush (C _) (pc := 315) (x := (45 : Int32)) dL_law_315 kbp_45 ?_
                          refine z_irem (C _) (pc := 317) dL_law_317 (by decide) ?_
                          refine z_if_gt (C _) (pc := 318) (tgt := 329) dL_law_318 (by decide) h (fun h => ?_) (fun h => ?_)
                          · refine z_iconst (C _) (pc := 329) (x := (1 : Int32)) dL_law_329 kic_1 ?_
                            refine z_goto (C _) (pc := 330) (tgt := 334) dL_law_330 (by decide) ?_
                            refine z_istore (C _) (pc := 334) (lv' := [(4, .int (1 : Int32)), (8, .int r27), (7, .int r24), (6, .int r22), (0, va_rf (some b)), (1, va_rf (some f1)), (2, va_rf (some f2)), (3, va_rf (some f3)), (5, .int w5)]) dL_law_334 (by decide) rfl ?_
                            refine z_iinc (C _) (pc := 336) (y := w5 + (1 : Int32)) (lv' := [(5, .int (w5 + (1 : Int32))), (4, .int (1 : Int32)), (8, .int r27), (7, .int r24), (6, .int r22), (0, va_rf (some b)), (1, va_rf (some f1)), (2, va_rf (some f2)), (3, va_rf (some f3))]) dL_law_336 8 rfl rfl (by decide) rfl ?_
                            refine z_goto (C _) (pc := 339) (tgt := 125) dL_law_339 (by decide) ?_
                            refine z_sub [5, 6, 7, 8, 1, 0] (lv' := [(0, va_rf (some b)), (1, va_rf (some f1)), (2, va_rf (some f2)), (3, va_rf (some f3)), (4, .int (1 : Int32)), (5, .int (w5 + (1 : Int32)))]) rfl ?_
                            refine z_wide (kc' := 174900 - n * 1900) (ks' := 5156000 - n * 56000) (by omega) (by omega) ?_
                            exact ih S129 S130 S131 (1 : Int32) (w5 + (1 : Int32)) (by omega) t133 t134 h
                          · refine z_aload_n (C _) (pc := 321) dL_law_321 5 rfl ?_
                            refine z_aload_n (C _) (pc := 322) dL_law_322 7 rfl ?_
                            refine z_S3i (C _) (pc := 323) (kc' := (B + 1410)) (ks' := (B2 + 42042)) (As := [va_rf (some f1), va_rf (some f3)]) (rest := []) (c_L_refused l hfl v S129 S130 S131 f1 f3) mw_L_refused bw_876 bw_877 ⟨by have h9 : rm_L_refused.cells = 1230 := rfl; omega, by omega, by have h9 : rm_L_refused.slots = 37422 := rfl; omega, by omega, by decide, by decide⟩ rfl rfl (Nat.le_of_ble_eq_true rfl) t133 t134 dL_law_323 h (fun r138 S135 S136 S137 t139 t140 h => ?_)
                            refine z_t_if_eq (C _) (pc := 326) dL_law_326 dL_law_329 kic_1 dL_law_330 dL_law_333 kic_0 ?_
                            refine z_nI h (fun y141 h => ?_)
                            refine z_istore (C _) (pc := 334) (lv' := [(4, .int y141), (8, .int r27), (7, .int r24), (6, .int r22), (0, va_rf (some b)), (1, va_rf (some f1)), (2, va_rf (some f2)), (3, va_rf (some f3)), (5, .int w5)]) dL_law_334 (by decide) rfl ?_
                            refine z_iinc (C _) (pc := 336) (y := w5 + (1 : Int32)) (lv' := [(5, .int (w5 + (1 : Int32))), (4, .int y141), (8, .int r27), (7, .int r24), (6, .int r22), (0, va_rf (some b)), (1, va_rf (some f1)), (2, va_rf (some f2)), (3, va_rf (some f3))]) dL_law_336 8 rfl rfl (by decide) rfl ?_
                            refine z_goto (C _) (pc := 339) (tgt := 125) dL_law_339 (by decide) ?_
                            refine z_sub [5, 6, 7, 8, 1, 0] (lv' := [(0, va_rf (some b)), (1, va_rf (some f1)), (2, va_rf (some f2)), (3, va_rf (some f3)), (4, .int y141), (5, .int (w5 + (1 : Int32)))]) rfl ?_
                            refine z_wide (kc' := 174900 - n * 1900) (ks' := 5156000 - n * 56000) (by omega) (by omega) ?_
                            exact ih S135 S136 S137 y141 (w5 + (1 : Int32)) (by omega) t139 t140 h
              · refine z_aload_n (C _) (pc := 227) dL_law_227 4 rfl ?_
                refine z_aload_n (C _) (pc := 228) dL_law_228 5 rfl ?_
                refine z_aload_n (C _) (pc := 229) dL_law_229 6 rfl ?_
                refine z_iload (C _) (pc := 230) dL_law_230 2 rfl ?_
                refine z_iconst (C _) (pc := 232) (x := (5 : Int32)) dL_law_232 kic_5 ?_
                refine z_ishr (C _) (pc := 233) dL_law_233 ?_
                refine z_iload (C _) (pc := 234) dL_law_234 1 rfl ?_
                refine z_S3i (C _) (pc := 236) (kc' := (B + 184)) (ks' := (B2 + 5880)) (As := [va_rf (some f1), va_rf (some f2), va_rf (some f3), .int (r22 >>> ((5 : Int32) &&& 31)), .int r24]) (rest := []) (c_L_leaders l hfl v S1 S2 S26 f1 f2 f3 (r22 >>> ((5 : Int32) &&& 31)) r24) mw_L_leaders bw_825 bw_826 ⟨by have h9 : rm_L_leaders.cells = 184 := rfl; omega, by omega, by have h9 : rm_L_leaders.slots = 5880 := rfl; omega, by omega, by decide, by decide⟩ rfl rfl (Nat.le_of_ble_eq_true rfl) t1 t2 dL_law_236 h (fun r145 S142 S143 S144 t146 t147 h => ?_)
                refine z_goto (C _) (pc := 239) (tgt := 276) dL_law_239 (by decide) ?_
                refine z_istore (C _) (pc := 276) (lv' := [(4, .int r145), (8, .int r27), (7, .int r24), (6, .int r22), (0, va_rf (some b)), (1, va_rf (some f1)), (2, va_rf (some f2)), (3, va_rf (some f3)), (5, .int w5)]) dL_law_276 (by decide) rfl ?_
                refine z_iload (C _) (pc := 278) dL_law_278 0 rfl ?_
                refine z_if_eq (C _) (pc := 280) (tgt := 333) dL_law_280 (by decide) h (fun h => ?_) (fun h => ?_)
                · refine z_iconst (C _) (pc := 333) (x := (0 : Int32)) dL_law_333 kic_0 ?_
                  refine z_istore (C _) (pc := 334) (lv' := [(4, .int (0 : Int32)), (8, .int r27), (7, .int r24), (6, .int r22), (0, va_rf (some b)), (1, va_rf (some f1)), (2, va_rf (some f2)), (3, va_rf (some f3)), (5, .int w5)]) dL_law_334 (by decide) rfl ?_
                  refine z_iinc (C _) (pc := 336) (y := w5 + (1 : Int32)) (lv' := [(5, .int (w5 + (1 : Int32))), (4, .int (0 : Int32)), (8, .int r27), (7, .int r24), (6, .int r22), (0, va_rf (some b)), (1, va_rf (some f1)), (2, va_rf (some f2)), (3, va_rf (some f3))]) dL_law_336 8 rfl rfl (by decide) rfl ?_
                  refine z_goto (C _) (pc := 339) (tgt := 125) dL_law_339 (by decide) ?_
                  refine z_sub [5, 6, 7, 8, 1, 0] (lv' := [(0, va_rf (some b)), (1, va_rf (some f1)), (2, va_rf (some f2)), (3, va_rf (some f3)), (4, .int (0 : Int32)), (5, .int (w5 + (1 : Int32)))]) rfl ?_
                  refine z_wide (kc' := 174900 - n * 1900) (ks' := 5156000 - n * 56000) (by omega) (by omega) ?_
                  exact ih S142 S143 S144 (0 : Int32) (w5 + (1 : Int32)) (by omega) t146 t147 h
                · refine z_iload (C _) (pc := 283) dL_law_283 8 rfl ?_
                  refine z_bipush (C _) (pc := 285) (x := (15 : Int32)) dL_law_285 kbp_15 ?_
                  refine z_irem (C _) (pc := 287) dL_law_287 (by decide) ?_
                  refine z_if_gt (C _) (pc := 288) (tgt := 313) dL_law_288 (by decide) h (fun h => ?_) (fun h => ?_)
                  · refine z_iload (C _) (pc := 313) dL_law_313 8 rfl ?_
                    refine z_bipush (C _) (pc := 315) (x := (45 : Int32)) dL_law_315 kbp_45 ?_
                    refine z_irem (C _) (pc := 317) dL_law_317 (by decide) ?_
                    refine z_if_gt (C _) (pc := 318) (tgt := 329) dL_law_318 (by decide) h (fun h => ?_) (fun h => ?_)
                    · refine z_iconst (C _) (pc := 329) (x := (1 : Int32)) dL_law_329 kic_1 ?_
                      refine z_goto (C _) (pc := 330) (tgt := 334) dL_law_330 (by decide) ?_
                      refine z_istore (C _) (pc := 334) (lv' := [(4, .int (1 : Int32)), (8, .int r27), (7, .int r24), (6, .int r22), (0, va_rf (some b)), (1, va_rf (some f1)), (2, va_rf (some f2)), (3, va_rf (some f3)), (5, .int w5)]) dL_law_334 (by decide) rfl ?_
                      refine z_iinc (C _) (pc := 336) (y := w5 + (1 : Int32)) (lv' := [(5, .int (w5 + (1 : Int32))), (4, .int (1 : Int32)), (8, .int r27), (7, .int r24), (6, .int r22), (0, va_rf (some b)), (1, va_rf (some f1)), (2, va_rf (some f2)), (3, va_rf (some f3))]) dL_law_336 8 rfl rfl (by decide) rfl ?_
                      refine z_goto (C _) (pc := 339) (tgt := 125) dL_law_339 (by decide) ?_
                      refine z_sub [5, 6, 7, 8, 1, 0] (lv' := [(0, va_rf (some b)), (1, va_rf (some f1)), (2, va_rf (some f2)), (3, va_rf (some f3)), (4, .int (1 : Int32)), (5, .int (w5 + (1 : Int32)))]) rfl ?_
                      refine z_wide (kc' := 174900 - n * 1900) (ks' := 5156000 - n * 56000) (by omega) (by omega) ?_
                      exact ih S142 S143 S144 (1 : Int32) (w5 + (1 : Int32)) (by omega) t146 t147 h
                    · refine z_aload_n (C _) (pc := 321) dL_law_321 5 rfl ?_
                      refine z_aload_n (C _) (pc := 322) dL_law_322 7 rfl ?_
                      refine z_S3i (C _) (pc := 323) (kc' := (B + 1414)) (ks' := (B2 + 43302)) (As := [va_rf (some f1), va_rf (some f3)]) (rest := []) (c_L_refused l hfl v S142 S143 S144 f1 f3) mw_L_refused bw_876 bw_877 ⟨by have h9 : rm_L_refused.cells = 1230 := rfl; omega, by omega, by have h9 : rm_L_refused.slots = 37422 := rfl; omega, by omega, by decide, by decide⟩ rfl rfl (Nat.le_of_ble_eq_true rfl) t146 t147 dL_law_323 h (fun r151 S148 S149 S150 t152 t153 h => ?_)
                      refine z_t_if_eq (C _) (pc := 326) dL_law_326 dL_law_329 kic_1 dL_law_330 dL_law_333 kic_0 ?_
                      refine z_nI h (fun y154 h => ?_)
                      refine z_istore (C _) (pc := 334) (lv' := [(4, .int y154), (8, .int r27), (7, .int r24), (6, .int r22), (0, va_rf (some b)), (1, va_rf (some f1)), (2, va_rf (some f2)), (3, va_rf (some f3)), (5, .int w5)]) dL_law_334 (by decide) rfl ?_
                      refine z_iinc (C _) (pc := 336) (y := w5 + (1 : Int32)) (lv' := [(5, .int (w5 + (1 : Int32))), (4, .int y154), (8, .int r27), (7, .int r24), (6, .int r22), (0, va_rf (some b)), (1, va_rf (some f1)), (2, va_rf (some f2)), (3, va_rf (some f3))]) dL_law_336 8 rfl rfl (by decide) rfl ?_
                      refine z_goto (C _) (pc := 339) (tgt := 125) dL_law_339 (by decide) ?_
                      refine z_sub [5, 6, 7, 8, 1, 0] (lv' := [(0, va_rf (some b)), (1, va_rf (some f1)), (2, va_rf (some f2)), (3, va_rf (some f3)), (4, .int y154), (5, .int (w5 + (1 : Int32)))]) rfl ?_
                      refine z_wide (kc' := 174900 - n * 1900) (ks' := 5156000 - n * 56000) (by omega) (by omega) ?_
                      exact ih S148 S149 S150 y154 (w5 + (1 : Int32)) (by omega) t152 t153 h
                  · refine z_aload_n (C _) (pc := 291) dL_law_291 5 rfl ?_
                    refine z_aload_n (C _) (pc := 292) dL_law_292 7 rfl ?_
                    refine z_S3l (C _) (pc := 293) (kc' := (B + 205)) (ks' := (B2 + 5985)) (As := [va_rf (some f1), va_rf (some f3)]) (rest := []) (c_L_all l hfl v S142 S143 S144 f1 f3) mw_L_all bw_104 bw_105 ⟨by have h9 : rm_L_all.cells = 21 := rfl; omega, by omega, by have h9 : rm_L_all.slots = 105 := rfl; omega, by omega, by decide, by decide⟩ rfl rfl (Nat.le_of_ble_eq_true rfl) t146 t147 dL_law_293 h (fun r158 S155 S156 S157 t159 t160 h => ?_)
                    refine z_aload_n (C _) (pc := 296) dL_law_296 6 rfl ?_
                    refine z_aload_n (C _) (pc := 297) dL_law_297 7 rfl ?_
                    refine z_s12 ?_
                    refine z_S3l (C _) (pc := 298) (kc' := (B + 226)) (ks' := (B2 + 6090)) (As := [va_rf (some f2), va_rf (some f3)]) (rest := [.long r158]) (c_L_all l hfl v S156 S155 S157 f2 f3) mw_L_all bw_104 bw_105 ⟨by have h9 : rm_L_all.cells = 21 := rfl; omega, by omega, by have h9 : rm_L_all.slots = 105 := rfl; omega, by omega, by decide, by decide⟩ rfl rfl (Nat.le_of_ble_eq_true rfl) t160 t159 dL_law_298 h (fun r164 S161 S162 S163 t165 t166 h => ?_)
                    refine z_s12 ?_
                    refine z_lcmp (C _) (pc := 301) dL_law_301 ?_
                    refine z_if_ne (C _) (pc := 302) (tgt := 333) dL_law_302 (by decide) h (fun h => ?_) (fun h => ?_)
                    · refine z_iconst (C _) (pc := 333) (x := (0 : Int32)) dL_law_333 kic_0 ?_
                      refine z_istore (C _) (pc := 334) (lv' := [(4, .int (0 : Int32)), (8, .int r27), (7, .int r24), (6, .int r22), (0, va_rf (some b)), (1, va_rf (some f1)), (2, va_rf (some f2)), (3, va_rf (some f3)), (5, .int w5)]) dL_law_334 (by decide) rfl ?_
                      refine z_iinc (C _) (pc := 336) (y := w5 + (1 : Int32)) (lv' := [(5, .int (w5 + (1 : Int32))), (4, .int (0 : Int32)), (8, .int r27), (7, .int r24), (6, .int r22), (0, va_rf (some b)), (1, va_rf (some f1)), (2, va_rf (some f2)), (3, va_rf (some f3))]) dL_law_336 8 rfl rfl (by decide) rfl ?_
                      refine z_goto (C _) (pc := 339) (tgt := 125) dL_law_339 (by decide) ?_
                      refine z_sub [5, 6, 7, 8, 1, 0] (lv' := [(0, va_rf (some b)), (1, va_rf (some f1)), (2, va_rf (some f2)), (3, va_rf (some f3)), (4, .int (0 : Int32)), (5, .int (w5 + (1 : Int32)))]) rfl ?_
                      refine z_wide (kc' := 174900 - n * 1900) (ks' := 5156000 - n * 56000) (by omega) (by omega) ?_
                      exact ih S162 S161 S163 (0 : Int32) (w5 + (1 : Int32)) (by omega) t166 t165 h
                    · refine z_aload_n (C _) (pc := 305) dL_law_305 5 rfl ?_
                      refine z_aload_n (C _) (pc := 306) dL_law_306 7 rfl ?_
                      refine z_S3i (C _) (pc := 307) (kc' := (B + 226)) (ks' := (B2 + 6090)) (As := [va_rf (some f1), va_rf (some f3)]) (rest := []) (c_L_sound l hfl v S162 S161 S163 f1 f3) mw_L_sound bw_873 bw_874 ⟨by have h9 : rm_L_sound.cells = 0 := rfl; omega, by omega, by have h9 : rm_L_sound.slots = 0 := rfl; omega, by omega, by decide, by decide⟩ rfl rfl (Nat.le_of_ble_eq_true rfl) t166 t165 dL_law_307 h (fun r170 S167 S168 S169 t171 t172 h => ?_)
                      refine z_if_eq (C _) (pc := 310) (tgt := 333) dL_law_310 (by decide) h (fun h => ?_) (fun h => ?_)
                      · refine z_iconst (C _) (pc := 333) (x := (0 : Int32)) dL_law_333 kic_0 ?_
                        refine z_istore (C _) (pc := 334) (lv' := [(4, .int (0 : Int32)), (8, .int r27), (7, .int r24), (6, .int r22), (0, va_rf (some b)), (1, va_rf (some f1)), (2, va_rf (some f2)), (3, va_rf (some f3)), (5, .int w5)]) dL_law_334 (by decide) rfl ?_
                        refine z_iinc (C _) (pc := 336) (y := w5 + (1 : Int32)) (lv' := [(5, .int (w5 + (1 : Int32))), (4, .int (0 : Int32)), (8, .int r27), (7, .int r24), (6, .int r22), (0, va_rf (some b)), (1, va_rf (some f1)), (2, va_rf (some f2)), (3, va_rf (some f3))]) dL_law_336 8 rfl rfl (by decide) rfl ?_
                        refine z_goto (C _) (pc := 339) (tgt := 125) dL_law_339 (by decide) ?_
                        refine z_sub [5, 6, 7, 8, 1, 0] (lv' := [(0, va_rf (some b)), (1, va_rf (some f1)), (2, va_rf (some f2)), (3, va_rf (some f3)), (4, .int (0 : Int32)), (5, .int (w5 + (1 : Int32)))]) rfl ?_
                        refine z_wide (kc' := 174900 - n * 1900) (ks' := 5156000 - n * 56000) (by omega) (by omega) ?_
                        exact ih S167 S168 S169 (0 : Int32) (w5 + (1 : Int32)) (by omega) t171 t172 h
                      · refine z_iload (C _) (pc := 313) dL_law_313 8 rfl ?_
                        refine z_bipush (C _) (pc := 315) (x := (45 : Int32)) dL_law_315 kbp_45 ?_
                        refine z_irem (C _) (pc := 317) dL_law_317 (by decide) ?_
                        refine z_if_gt (C _) (pc := 318) (tgt := 329) dL_law_318 (by decide) h (fun h => ?_) (fun h => ?_)
                        · refine z_iconst (C _) (pc := 329) (x := (1 : Int32)) dL_law_329 kic_1 ?_
                          refine z_goto (C _) (pc := 330) (tgt := 334) dL_law_330 (by decide) ?_
                          refine z_istore (C _) (pc := 334) (lv' := [(4, .int (1 : Int32)), (8, .int r27), (7, .int r24), (6, .int r22), (0, va_rf (some b)), (1, va_rf (some f1)), (2, va_rf (some f2)), (3, va_rf (some f3)), (5, .int w5)]) dL_law_334 (by decide) rfl ?_
                          refine z_iinc (C _) (pc := 336) (y := w5 + (1 : Int32)) (lv' := [(5, .int (w5 + (1 : Int32))), (4, .int (1 : Int32)), (8, .int r27), (7, .int r24), (6, .int r22), (0, va_rf (some b)), (1, va_rf (some f1)), (2, va_rf (some f2)), (3, va_rf (some f3))]) dL_law_336 8 rfl rfl (by decide) rfl ?_
                          refine z_goto (C _) (pc := 339) (tgt := 125) dL_law_339 (by decide) ?_
                          refine z_sub [5, 6, 7, 8, 1, 0] (lv' := [(0, va_rf (some b)), (1, va_rf (some f1)), (2, va_rf (some f2)), (3, va_rf (some f3)), (4, .int (1 : Int32)), (5, .int (w5 + (1 : Int32)))]) rfl ?_
                          refine z_wide (kc' := 174900 - n * 1900) (ks' := 5156000 - n * 56000) (by omega) (by omega) ?_
                          exact ih S167 S168 S169 (1 : Int32) (w5 + (1 : Int32)) (by omega) t171 t172 h
                        · refine z_aload_n (C _) (pc := 321) dL_law_321 5 rfl ?_
                          refine z_aload_n (C _) (pc := 322) dL_law_322 7 rfl ?_
                          refine z_S3i (C _) (pc := 323) (kc' := (B + 1456)) (ks' := (B2 + 43512)) (As := [va_rf (some f1), va_rf (some f3)]) (rest := []) (c_L_refused l hfl v S167 S168 S169 f1 f3) mw_L_refused bw_876 bw_877 ⟨by have h9 : rm_L_refused.cells = 1230 := rfl; omega, by omega, by have h9 : rm_L_refused.slots = 37422 := rfl; omega, by omega, by decide, by decide⟩ rfl rfl (Nat.le_of_ble_eq_true rfl) t171 t172 dL_law_323 h (fun r176 S173 S174 S175 t177 t178 h => ?_)
                          refine z_t_if_eq (C _) (pc := 326) dL_law_326 dL_law_329 kic_1 dL_law_330 dL_law_333 kic_0 ?_
                          refine z_nI h (fun y179 h => ?_)
                          refine z_istore (C _) (pc := 334) (lv' := [(4, .int y179), (8, .int r27), (7, .int r24), (6, .int r22), (0, va_rf (some b)), (1, va_rf (some f1)), (2, va_rf (some f2)), (3, va_rf (some f3)), (5, .int w5)]) dL_law_334 (by decide) rfl ?_
                          refine z_iinc (C _) (pc := 336) (y := w5 + (1 : Int32)) (lv' := [(5, .int (w5 + (1 : Int32))), (4, .int y179), (8, .int r27), (7, .int r24), (6, .int r22), (0, va_rf (some b)), (1, va_rf (some f1)), (2, va_rf (some f2)), (3, va_rf (some f3))]) dL_law_336 8 rfl rfl (by decide) rfl ?_
                          refine z_goto (C _) (pc := 339) (tgt := 125) dL_law_339 (by decide) ?_
                          refine z_sub [5, 6, 7, 8, 1, 0] (lv' := [(0, va_rf (some b)), (1, va_rf (some f1)), (2, va_rf (some f2)), (3, va_rf (some f3)), (4, .int y179), (5, .int (w5 + (1 : Int32)))]) rfl ?_
                          refine z_wide (kc' := 174900 - n * 1900) (ks' := 5156000 - n * 56000) (by omega) (by omega) ?_
                          exact ih S173 S174 S175 y179 (w5 + (1 : Int32)) (by omega) t177 t178 h
            · refine z_aload_n (C _) (pc := 205) dL_law_205 4 rfl ?_
              refine z_aload_n (C _) (pc := 206) dL_law_206 5 rfl ?_
              refine z_aload_n (C _) (pc := 207) dL_law_207 6 rfl ?_
              refine z_iload (C _) (pc := 208) dL_law_208 2 rfl ?_
              refine z_iconst (C _) (pc := 210) (x := (5 : Int32)) dL_law_210 kic_5 ?_
              refine z_ishr (C _) (pc := 211) dL_law_211 ?_
              refine z_iload (C _) (pc := 212) dL_law_212 1 rfl ?_
              refine z_S3i (C _) (pc := 214) (kc' := (B + 552)) (ks' := (B2 + 17640)) (As := [va_rf (some f1), va_rf (some f2), va_rf (some f3), .int (r22 >>> ((5 : Int32) &&& 31)), .int r24]) (rest := []) (c_L_badges l hfl v S1 S2 S26 f1 f2 f3 (r22 >>> ((5 : Int32) &&& 31)) r24) mw_L_badges bw_783 bw_784 ⟨by have h9 : rm_L_badges.cells = 552 := rfl; omega, by omega, by have h9 : rm_L_badges.slots = 17640 := rfl; omega, by omega, by decide, by decide⟩ rfl rfl (Nat.le_of_ble_eq_true rfl) t1 t2 dL_law_214 h (fun r183 S180 S181 S182 t184 t185 h => ?_)
              refine z_goto (C _) (pc := 217) (tgt := 276) dL_law_217 (by decide) ?_
              refine z_istore (C _) (pc := 276) (lv' := [(4, .int r183), (8, .int r27), (7, .int r24), (6, .int r22), (0, va_rf (some b)), (1, va_rf (some f1)), (2, va_rf (some f2)), (3, va_rf (some f3)), (5, .int w5)]) dL_law_276 (by decide) rfl ?_
              refine z_iload (C _) (pc := 278) dL_law_278 0 rfl ?_
              refine z_if_eq (C _) (pc := 280) (tgt := 333) dL_law_280 (by decide) h (fun h => ?_) (fun h => ?_)
              · refine z_iconst (C _) (pc := 333) (x := (0 : Int32)) dL_law_333 kic_0 ?_
                refine z_istore (C _) (pc := 334) (lv' := [(4, .int (0 : Int32)), (8, .int r27), (7, .int r24), (6, .int r22), (0, va_rf (some b)), (1, va_rf (some f1)), (2, va_rf (some f2)), (3, va_rf (some f3)), (5, .int w5)]) dL_law_334 (by decide) rfl ?_
                refine z_iinc (C _) (pc := 336) (y := w5 + (1 : Int32)) (lv' := [(5, .int (w5 + (1 : Int32))), (4, .int (0 : Int32)), (8, .int r27), (7, .int r24), (6, .int r22), (0, va_rf (some b)), (1, va_rf (some f1)), (2, va_rf (some f2)), (3, va_rf (some f3))]) dL_law_336 8 rfl rfl (by decide) rfl ?_
                refine z_goto (C _) (pc := 339) (tgt := 125) dL_law_339 (by decide) ?_
                refine z_sub [5, 6, 7, 8, 1, 0] (lv' := [(0, va_rf (some b)), (1, va_rf (some f1)), (2, va_rf (some f2)), (3, va_rf (some f3)), (4, .int (0 : Int32)), (5, .int (w5 + (1 : Int32)))]) rfl ?_
                refine z_wide (kc' := 174900 - n * 1900) (ks' := 5156000 - n * 56000) (by omega) (by omega) ?_
                exact ih S180 S181 S182 (0 : Int32) (w5 + (1 : Int32)) (by omega) t184 t185 h
              · refine z_iload (C _) (pc := 283) dL_law_283 8 rfl ?_
                refine z_bipush (C _) (pc := 285) (x := (15 : Int32)) dL_law_285 kbp_15 ?_
                refine z_irem (C _) (pc := 287) dL_law_287 (by decide) ?_
                refine z_if_gt (C _) (pc := 288) (tgt := 313) dL_law_288 (by decide) h (fun h => ?_) (fun h => ?_)
                · refine z_iload (C _) (pc := 313) dL_law_313 8 rfl ?_
                  refine z_bipush (C _) (pc := 315) (x := (45 : Int32)) dL_law_315 kbp_45 ?_
                  refine z_irem (C _) (pc := 317) dL_law_317 (by decide) ?_
                  refine z_if_gt (C _) (pc := 318) (tgt := 329) dL_law_318 (by decide) h (fun h => ?_) (fun h => ?_)
                  · refine z_iconst (C _) (pc := 329) (x := (1 : Int32)) dL_law_329 kic_1 ?_
                    refine z_goto (C _) (pc := 330) (tgt := 334) dL_law_330 (by decide) ?_
                    refine z_istore (C _) (pc := 334) (lv' := [(4, .int (1 : Int32)), (8, .int r27), (7, .int r24), (6, .int r22), (0, va_rf (some b)), (1, va_rf (some f1)), (2, va_rf (some f2)), (3, va_rf (some f3)), (5, .int w5)]) dL_law_334 (by decide) rfl ?_
                    refine z_iinc (C _) (pc := 336) (y := w5 + (1 : Int32)) (lv' := [(5, .int (w5 + (1 : Int32))), (4, .int (1 : Int32)), (8, .int r27), (7, .int r24), (6, .int r22), (0, va_rf (some b)), (1, va_rf (some f1)), (2, va_rf (some f2)), (3, va_rf (some f3))]) dL_law_336 8 rfl rfl (by decide) rfl ?_
                    refine z_goto (C _) (pc := 339) (tgt := 125) dL_law_339 (by decide) ?_
                    refine z_sub [5, 6, 7, 8, 1, 0] (lv' := [(0, va_rf (some b)), (1, va_rf (some f1)), (2, va_rf (some f2)), (3, va_rf (some f3)), (4, .int (1 : Int32)), (5, .int (w5 + (1 : Int32)))]) rfl ?_
                    refine z_wide (kc' := 174900 - n * 1900) (ks' := 5156000 - n * 56000) (by omega) (by omega) ?_
                    exact ih S180 S181 S182 (1 : Int32) (w5 + (1 : Int32)) (by omega) t184 t185 h
                  · refine z_aload_n (C _) (pc := 321) dL_law_321 5 rfl ?_
                    refine z_aload_n (C _) (pc := 322) dL_law_322 7 rfl ?_
                    refine z_S3i (C _) (pc := 323) (kc' := (B + 1782)) (ks' := (B2 + 55062)) (As := [va_rf (some f1), va_rf (some f3)]) (rest := []) (c_L_refused l hfl v S180 S181 S182 f1 f3) mw_L_refused bw_876 bw_877 ⟨by have h9 : rm_L_refused.cells = 1230 := rfl; omega, by omega, by have h9 : rm_L_refused.slots = 37422 := rfl; omega, by omega, by decide, by decide⟩ rfl rfl (Nat.le_of_ble_eq_true rfl) t184 t185 dL_law_323 h (fun r189 S186 S187 S188 t190 t191 h => ?_)
                    refine z_t_if_eq (C _) (pc := 326) dL_law_326 dL_law_329 kic_1 dL_law_330 dL_law_333 kic_0 ?_
                    refine z_nI h (fun y192 h => ?_)
                    refine z_istore (C _) (pc := 334) (lv' := [(4, .int y192), (8, .int r27), (7, .int r24), (6, .int r22), (0, va_rf (some b)), (1, va_rf (some f1)), (2, va_rf (some f2)), (3, va_rf (some f3)), (5, .int w5)]) dL_law_334 (by decide) rfl ?_
                    refine z_iinc (C _) (pc := 336) (y := w5 + (1 : Int32)) (lv' := [(5, .int (w5 + (1 : Int32))), (4, .int y192), (8, .int r27), (7, .int r24), (6, .int r22), (0, va_rf (some b)), (1, va_rf (some f1)), (2, va_rf (some f2)), (3, va_rf (some f3))]) dL_law_336 8 rfl rfl (by decide) rfl ?_
                    refine z_goto (C _) (pc := 339) (tgt := 125) dL_law_339 (by decide) ?_
                    refine z_sub [5, 6, 7, 8, 1, 0] (lv' := [(0, va_rf (some b)), (1, va_rf (some f1)), (2, va_rf (some f2)), (3, va_rf (some f3)), (4, .int y192), (5, .int (w5 + (1 : Int32)))]) rfl ?_
                    refine z_wide (kc' := 174900 - n * 1900) (ks' := 5156000 - n * 56000) (by omega) (by omega) ?_
                    exact ih S186 S187 S188 y192 (w5 + (1 : Int32)) (by omega) t190 t191 h
                · refine z_aload_n (C _) (pc := 291) dL_law_291 5 rfl ?_
                  refine z_aload_n (C _) (pc := 292) dL_law_292 7 rfl ?_
                  refine z_S3l (C _) (pc := 293) (kc' := (B + 573)) (ks' := (B2 + 17745)) (As := [va_rf (some f1), va_rf (some f3)]) (rest := []) (c_L_all l hfl v S180 S181 S182 f1 f3) mw_L_all bw_104 bw_105 ⟨by have h9 : rm_L_all.cells = 21 := rfl; omega, by omega, by have h9 : rm_L_all.slots = 105 := rfl; omega, by omega, by decide, by decide⟩ rfl rfl (Nat.le_of_ble_eq_true rfl) t184 t185 dL_law_293 h (fun r196 S193 S194 S195 t197 t198 h => ?_)
                  refine z_aload_n (C _) (pc := 296) dL_law_296 6 rfl ?_
                  refine z_aload_n (C _) (pc := 297) dL_law_297 7 rfl ?_
                  refine z_s12 ?_
                  refine z_S3l (C _) (pc := 298) (kc' := (B + 594)) (ks' := (B2 + 17850)) (As := [va_rf (some f2), va_rf (some f3)]) (rest := [.long r196]) (c_L_all l hfl v S194 S193 S195 f2 f3) mw_L_all bw_104 bw_105 ⟨by have h9 : rm_L_all.cells = 21 := rfl; omega, by omega, by have h9 : rm_L_all.slots = 105 := rfl; omega, by omega, by decide, by decide⟩ rfl rfl (Nat.le_of_ble_eq_true rfl) t198 t197 dL_law_298 h (fun r202 S199 S200 S201 t203 t204 h => ?_)
                  refine z_s12 ?_
                  refine z_lcmp (C _) (pc := 301) dL_law_301 ?_
                  refine z_if_ne (C _) (pc := 302) (tgt := 333) dL_law_302 (by decide) h (fun h => ?_) (fun h => ?_)
                  · refine z_iconst (C _) (pc := 333) (x := (0 : Int32)) dL_law_333 kic_0 ?_
                    refine z_istore (C _) (pc := 334) (lv' := [(4, .int (0 : Int32)), (8, .int r27), (7, .int r24), (6, .int r22), (0, va_rf (some b)), (1, va_rf (some f1)), (2, va_rf (some f2)), (3, va_rf (some f3)), (5, .int w5)]) dL_law_334 (by decide) rfl ?_
                    refine z_iinc (C _) (pc := 336) (y := w5 + (1 : Int32)) (lv' := [(5, .int (w5 + (1 : Int32))), (4, .int (0 : Int32)), (8, .int r27), (7, .int r24), (6, .int r22), (0, va_rf (some b)), (1, va_rf (some f1)), (2, va_rf (some f2)), (3, va_rf (some f3))]) dL_law_336 8 rfl rfl (by decide) rfl ?_
                    refine z_goto (C _) (pc := 339) (tgt := 125) dL_law_339 (by decide) ?_
                    refine z_sub [5, 6, 7, 8, 1, 0] (lv' := [(0, va_rf (some b)), (1, va_rf (some f1)), (2, va_rf (some f2)), (3, va_rf (some f3)), (4, .int (0 : Int32)), (5, .int (w5 + (1 : Int32)))]) rfl ?_
                    refine z_wide (kc' := 174900 - n * 1900) (ks' := 5156000 - n * 56000) (by omega) (by omega) ?_
                    exact ih S200 S199 S201 (0 : Int32) (w5 + (1 : Int32)) (by omega) t204 t203 h
                  · refine z_aload_n (C _) (pc := 305) dL_law_305 5 rfl ?_
                    refine z_aload_n (C _) (pc := 306) dL_law_306 7 rfl ?_
                    refine z_S3i (C _) (pc := 307) (kc' := (B + 594)) (ks' := (B2 + 17850)) (As := [va_rf (some f1), va_rf (some f3)]) (rest := []) (c_L_sound l hfl v S200 S199 S201 f1 f3) mw_L_sound bw_873 bw_874 ⟨by have h9 : rm_L_sound.cells = 0 := rfl; omega, by omega, by have h9 : rm_L_sound.slots = 0 := rfl; omega, by omega, by decide, by decide⟩ rfl rfl (Nat.le_of_ble_eq_true rfl) t204 t203 dL_law_307 h (fun r208 S205 S206 S207 t209 t210 h => ?_)
                    refine z_if_eq (C _) (pc := 310) (tgt := 333) dL_law_310 (by decide) h (fun h => ?_) (fun h => ?_)
                    · refine z_iconst (C _) (pc := 333) (x := (0 : Int32)) dL_law_333 kic_0 ?_
                      refine z_istore (C _) (pc := 334) (lv' := [(4, .int (0 : Int32)), (8, .int r27), (7, .int r24), (6, .int r22), (0, va_rf (some b)), (1, va_rf (some f1)), (2, va_rf (some f2)), (3, va_rf (some f3)), (5, .int w5)]) dL_law_334 (by decide) rfl ?_
                      refine z_iinc (C _) (pc := 336) (y := w5 + (1 : Int32)) (lv' := [(5, .int (w5 + (1 : Int32))), (4, .int (0 : Int32)), (8, .int r27), (7, .int r24), (6, .int r22), (0, va_rf (some b)), (1, va_rf (some f1)), (2, va_rf (some f2)), (3, va_rf (some f3))]) dL_law_336 8 rfl rfl (by decide) rfl ?_
                      refine z_goto (C _) (pc := 339) (tgt := 125) dL_law_339 (by decide) ?_
                      refine z_sub [5, 6, 7, 8, 1, 0] (lv' := [(0, va_rf (some b)), (1, va_rf (some f1)), (2, va_rf (some f2)), (3, va_rf (some f3)), (4, .int (0 : Int32)), (5, .int (w5 + (1 : Int32)))]) rfl ?_
                      refine z_wide (kc' := 174900 - n * 1900) (ks' := 5156000 - n * 56000) (by omega) (by omega) ?_
                      exact ih S205 S206 S207 (0 : Int32) (w5 + (1 : Int32)) (by omega) t209 t210 h
                    · refine z_iload (C _) (pc := 313) dL_law_313 8 rfl ?_
                      refine z_bipush (C _) (pc := 315) (x := (45 : Int32)) dL_law_315 kbp_45 ?_
                      refine z_irem (C _) (pc := 317) dL_law_317 (by decide) ?_
                      refine z_if_gt (C _) (pc := 318) (tgt := 329) dL_law_318 (by decide) h (fun h => ?_) (fun h => ?_)
                      · refine z_iconst (C _) (pc := 329) (x := (1 : Int32)) dL_law_329 kic_1 ?_
                        refine z_goto (C _) (pc := 330) (tgt := 334) dL_law_330 (by decide) ?_
                        refine z_istore (C _) (pc := 334) (lv' := [(4, .int (1 : Int32)), (8, .int r27), (7, .int r24), (6, .int r22), (0, va_rf (some b)), (1, va_rf (some f1)), (2, va_rf (some f2)), (3, va_rf (some f3)), (5, .int w5)]) dL_law_334 (by decide) rfl ?_
                        refine z_iinc (C _) (pc := 336) (y := w5 + (1 : Int32)) (lv' := [(5, .int (w5 + (1 : Int32))), (4, .int (1 : Int32)), (8, .int r27), (7, .int r24), (6, .int r22), (0, va_rf (some b)), (1, va_rf (some f1)), (2, va_rf (some f2)), (3, va_rf (some f3))]) dL_law_336 8 rfl rfl (by decide) rfl ?_
                        refine z_goto (C _) (pc := 339) (tgt := 125) dL_law_339 (by decide) ?_
                        refine z_sub [5, 6, 7, 8, 1, 0] (lv' := [(0, va_rf (some b)), (1, va_rf (some f1)), (2, va_rf (some f2)), (3, va_rf (some f3)), (4, .int (1 : Int32)), (5, .int (w5 + (1 : Int32)))]) rfl ?_
                        refine z_wide (kc' := 174900 - n * 1900) (ks' := 5156000 - n * 56000) (by omega) (by omega) ?_
                        exact ih S205 S206 S207 (1 : Int32) (w5 + (1 : Int32)) (by omega) t209 t210 h
                      · refine z_aload_n (C _) (pc := 321) dL_law_321 5 rfl ?_
                        refine z_aload_n (C _) (pc := 322) dL_law_322 7 rfl ?_
                        refine z_S3i (C _) (pc := 323) (kc' := (B + 1824)) (ks' := (B2 + 55272)) (As := [va_rf (some f1), va_rf (some f3)]) (rest := []) (c_L_refused l hfl v S205 S206 S207 f1 f3) mw_L_refused bw_876 bw_877 ⟨by have h9 : rm_L_refused.cells = 1230 := rfl; omega, by omega, by have h9 : rm_L_refused.slots = 37422 := rfl; omega, by omega, by decide, by decide⟩ rfl rfl (Nat.le_of_ble_eq_true rfl) t209 t210 dL_law_323 h (fun r214 S211 S212 S213 t215 t216 h => ?_)
                        refine z_t_if_eq (C _) (pc := 326) dL_law_326 dL_law_329 kic_1 dL_law_330 dL_law_333 kic_0 ?_
                        refine z_nI h (fun y217 h => ?_)
                        refine z_istore (C _) (pc := 334) (lv' := [(4, .int y217), (8, .int r27), (7, .int r24), (6, .int r22), (0, va_rf (some b)), (1, va_rf (some f1)), (2, va_rf (some f2)), (3, va_rf (some f3)), (5, .int w5)]) dL_law_334 (by decide) rfl ?_
                        refine z_iinc (C _) (pc := 336) (y := w5 + (1 : Int32)) (lv' := [(5, .int (w5 + (1 : Int32))), (4, .int y217), (8, .int r27), (7, .int r24), (6, .int r22), (0, va_rf (some b)), (1, va_rf (some f1)), (2, va_rf (some f2)), (3, va_rf (some f3))]) dL_law_336 8 rfl rfl (by decide) rfl ?_
                        refine z_goto (C _) (pc := 339) (tgt := 125) dL_law_339 (by decide) ?_
                        refine z_sub [5, 6, 7, 8, 1, 0] (lv' := [(0, va_rf (some b)), (1, va_rf (some f1)), (2, va_rf (some f2)), (3, va_rf (some f3)), (4, .int y217), (5, .int (w5 + (1 : Int32)))]) rfl ?_
                        refine z_wide (kc' := 174900 - n * 1900) (ks' := 5156000 - n * 56000) (by omega) (by omega) ?_
                        exact ih S211 S212 S213 y217 (w5 + (1 : Int32)) (by omega) t215 t216 h
          · refine z_aload_n (C _) (pc := 183) dL_law_183 4 rfl ?_
            refine z_aload_n (C _) (pc := 184) dL_law_184 5 rfl ?_
            refine z_aload_n (C _) (pc := 185) dL_law_185 6 rfl ?_
            refine z_iload (C _) (pc := 186) dL_law_186 2 rfl ?_
            refine z_iconst (C _) (pc := 188) (x := (5 : Int32)) dL_law_188 kic_5 ?_
            refine z_ishr (C _) (pc := 189) dL_law_189 ?_
            refine z_iload (C _) (pc := 190) dL_law_190 1 rfl ?_
            refine z_S3i (C _) (pc := 192) (kc' := (B + 92)) (ks' := (B2 + 2940)) (As := [va_rf (some f1), va_rf (some f2), va_rf (some f3), .int (r22 >>> ((5 : Int32) &&& 31)), .int r24]) (rest := []) (c_L_children l hfl v S1 S2 S26 f1 f2 f3 (r22 >>> ((5 : Int32) &&& 31)) r24) mw_L_children bw_780 bw_781 ⟨by have h9 : rm_L_children.cells = 92 := rfl; omega, by omega, by have h9 : rm_L_children.slots = 2940 := rfl; omega, by omega, by decide, by decide⟩ rfl rfl (Nat.le_of_ble_eq_true rfl) t1 t2 dL_law_192 h (fun r221 S218 S219 S220 t222 t223 h => ?_)
            refine z_goto (C _) (pc := 195) (tgt := 276) dL_law_195 (by decide) ?_
            refine z_istore (C _) (pc := 276) (lv' := [(4, .int r221), (8, .int r27), (7, .int r24), (6, .int r22), (0, va_rf (some b)), (1, va_rf (some f1)), (2, va_rf (some f2)), (3, va_rf (some f3)), (5, .int w5)]) dL_law_276 (by decide) rfl ?_
            refine z_iload (C _) (pc := 278) dL_law_278 0 rfl ?_
            refine z_if_eq (C _) (pc := 280) (tgt := 333) dL_law_280 (by decide) h (fun h => ?_) (fun h => ?_)
            · refine z_iconst (C _) (pc := 333) (x := (0 : Int32)) dL_law_333 kic_0 ?_
              refine z_istore (C _) (pc := 334) (lv' := [(4, .int (0 : Int32)), (8, .int r27), (7, .int r24), (6, .int r22), (0, va_rf (some b)), (1, va_rf (some f1)), (2, va_rf (some f2)), (3, va_rf (some f3)), (5, .int w5)]) dL_law_334 (by decide) rfl ?_
              refine z_iinc (C _) (pc := 336) (y := w5 + (1 : Int32)) (lv' := [(5, .int (w5 + (1 : Int32))), (4, .int (0 : Int32)), (8, .int r27), (7, .int r24), (6, .int r22), (0, va_rf (some b)), (1, va_rf (some f1)), (2, va_rf (some f2)), (3, va_rf (some f3))]) dL_law_336 8 rfl rfl (by decide) rfl ?_
              refine z_goto (C _) (pc := 339) (tgt := 125) dL_law_339 (by decide) ?_
              refine z_sub [5, 6, 7, 8, 1, 0] (lv' := [(0, va_rf (some b)), (1, va_rf (some f1)), (2, va_rf (some f2)), (3, va_rf (some f3)), (4, .int (0 : Int32)), (5, .int (w5 + (1 : Int32)))]) rfl ?_
              refine z_wide (kc' := 174900 - n * 1900) (ks' := 5156000 - n * 56000) (by omega) (by omega) ?_
              exact ih S218 S219 S220 (0 : Int32) (w5 + (1 : Int32)) (by omega) t222 t223 h
            · refine z_iload (C _) (pc := 283) dL_law_283 8 rfl ?_
              refine z_bipush (C _) (pc := 285) (x := (15 : Int32)) dL_law_285 kbp_15 ?_
              refine z_irem (C _) (pc := 287) dL_law_287 (by decide) ?_
              refine z_if_gt (C _) (pc := 288) (tgt := 313) dL_law_288 (by decide) h (fun h => ?_) (fun h => ?_)
              · refine z_iload (C _) (pc := 313) dL_law_313 8 rfl ?_
                refine z_bipush (C _) (pc := 315) (x := (45 : Int32)) dL_law_315 kbp_45 ?_
                refine z_irem (C _) (pc := 317) dL_law_317 (by decide) ?_
                refine z_if_gt (C _) (pc := 318) (tgt := 329) dL_law_318 (by decide) h (fun h => ?_) (fun h => ?_)
                · refine z_iconst (C _) (pc := 329) (x := (1 : Int32)) dL_law_329 kic_1 ?_
                  refine z_goto (C _) (pc := 330) (tgt := 334) dL_law_330 (by decide) ?_
                  refine z_istore (C _) (pc := 334) (lv' := [(4, .int (1 : Int32)), (8, .int r27), (7, .int r24), (6, .int r22), (0, va_rf (some b)), (1, va_rf (some f1)), (2, va_rf (some f2)), (3, va_rf (some f3)), (5, .int w5)]) dL_law_334 (by decide) rfl ?_
                  refine z_iinc (C _) (pc := 336) (y := w5 + (1 : Int32)) (lv' := [(5, .int (w5 + (1 : Int32))), (4, .int (1 : Int32)), (8, .int r27), (7, .int r24), (6, .int r22), (0, va_rf (some b)), (1, va_rf (some f1)), (2, va_rf (some f2)), (3, va_rf (some f3))]) dL_law_336 8 rfl rfl (by decide) rfl ?_
                  refine z_goto (C _) (pc := 339) (tgt := 125) dL_law_339 (by decide) ?_
                  refine z_sub [5, 6, 7, 8, 1, 0] (lv' := [(0, va_rf (some b)), (1, va_rf (some f1)), (2, va_rf (some f2)), (3, va_rf (some f3)), (4, .int (1 : Int32)), (5, .int (w5 + (1 : Int32)))]) rfl ?_
                  refine z_wide (kc' := 174900 - n * 1900) (ks' := 5156000 - n * 56000) (by omega) (by omega) ?_
                  exact ih S218 S219 S220 (1 : Int32) (w5 + (1 : Int32)) (by omega) t222 t223 h
                · refine z_aload_n (C _) (pc := 321) dL_law_321 5 rfl ?_
                  refine z_aload_n (C _) (pc := 322) dL_law_322 7 rfl ?_
                  refine z_S3i (C _) (pc := 323) (kc' := (B + 1322)) (ks' := (B2 + 40362)) (As := [va_rf (some f1), va_rf (some f3)]) (rest := []) (c_L_refused l hfl v S218 S219 S220 f1 f3) mw_L_refused bw_876 bw_877 ⟨by have h9 : rm_L_refused.cells = 1230 := rfl; omega, by omega, by have h9 : rm_L_refused.slots = 37422 := rfl; omega, by omega, by decide, by decide⟩ rfl rfl (Nat.le_of_ble_eq_true rfl) t222 t223 dL_law_323 h (fun r227 S224 S225 S226 t228 t229 h => ?_)
                  refine z_t_if_eq (C _) (pc := 326) dL_law_326 dL_law_329 kic_1 dL_law_330 dL_law_333 kic_0 ?_
                  refine z_nI h (fun y230 h => ?_)
                  refine z_istore (C _) (pc := 334) (lv' := [(4, .int y230), (8, .int r27), (7, .int r24), (6, .int r22), (0, va_rf (some b)), (1, va_rf (some f1)), (2, va_rf (some f2)), (3, va_rf (some f3)), (5, .int w5)]) dL_law_334 (by decide) rfl ?_
                  refine z_iinc (C _) (pc := 336) (y := w5 + (1 : Int32)) (lv' := [(5, .int (w5 + (1 : Int32))), (4, .int y230), (8, .int r27), (7, .int r24), (6, .int r22), (0, va_rf (some b)), (1, va_rf (some f1)), (2, va_rf (some f2)), (3, va_rf (some f3))]) dL_law_336 8 rfl rfl (by decide) rfl ?_
                  refine z_goto (C _) (pc := 339) (tgt := 125) dL_law_339 (by decide) ?_
                  refine z_sub [5, 6, 7, 8, 1, 0] (lv' := [(0, va_rf (some b)), (1, va_rf (some f1)), (2, va_rf (some f2)), (3, va_rf (some f3)), (4, .int y230), (5, .int (w5 + (1 : Int32)))]) rfl ?_
                  refine z_wide (kc' := 174900 - n * 1900) (ks' := 5156000 - n * 56000) (by omega) (by omega) ?_
                  exact ih S224 S225 S226 y230 (w5 + (1 : Int32)) (by omega) t228 t229 h
              · refine z_aload_n (C _) (pc := 291) dL_law_291 5 rfl ?_
                refine z_aload_n (C _) (pc := 292) dL_law_292 7 rfl ?_
                refine z_S3l (C _) (pc := 293) (kc' := (B + 113)) (ks' := (B2 + 3045)) (As := [va_rf (some f1), va_rf (some f3)]) (rest := []) (c_L_all l hfl v S218 S219 S220 f1 f3) mw_L_all bw_104 bw_105 ⟨by have h9 : rm_L_all.cells = 21 := rfl; omega, by omega, by have h9 : rm_L_all.slots = 105 := rfl; omega, by omega, by decide, by decide⟩ rfl rfl (Nat.le_of_ble_eq_true rfl) t222 t223 dL_law_293 h (fun r234 S231 S232 S233 t235 t236 h => ?_)
                refine z_aload_n (C _) (pc := 296) dL_law_296 6 rfl ?_
                refine z_aload_n (C _) (pc := 297) dL_law_297 7 rfl ?_
                refine z_s12 ?_
                refine z_S3l (C _) (pc := 298) (kc' := (B + 134)) (ks' := (B2 + 3150)) (As := [va_rf (some f2), va_rf (some f3)]) (rest := [.long r234]) (c_L_all l hfl v S232 S231 S233 f2 f3) mw_L_all bw_104 bw_105 ⟨by have h9 : rm_L_all.cells = 21 := rfl; omega, by omega, by have h9 : rm_L_all.slots = 105 := rfl; omega, by omega, by decide, by decide⟩ rfl rfl (Nat.le_of_ble_eq_true rfl) t236 t235 dL_law_298 h (fun r240 S237 S238 S239 t241 t242 h => ?_)
                refine z_s12 ?_
                refine z_lcmp (C _) (pc := 301) dL_law_301 ?_
                refine z_if_ne (C _) (pc := 302) (tgt := 333) dL_law_302 (by decide) h (fun h => ?_) (fun h => ?_)
                · refine z_iconst (C _) (pc := 333) (x := (0 : Int32)) dL_law_333 kic_0 ?_
                  refine z_istore (C _) (pc := 334) (lv' := [(4, .int (0 : Int32)), (8, .int r27), (7, .int r24), (6, .int r22), (0, va_rf (some b)), (1, va_rf (some f1)), (2, va_rf (some f2)), (3, va_rf (some f3)), (5, .int w5)]) dL_law_334 (by decide) rfl ?_
                  refine z_iinc (C _) (pc := 336) (y := w5 + (1 : Int32)) (lv' := [(5, .int (w5 + (1 : Int32))), (4, .int (0 : Int32)), (8, .int r27), (7, .int r24), (6, .int r22), (0, va_rf (some b)), (1, va_rf (some f1)), (2, va_rf (some f2)), (3, va_rf (some f3))]) dL_law_336 8 rfl rfl (by decide) rfl ?_
                  refine z_goto (C _) (pc := 339) (tgt := 125) dL_law_339 (by decide) ?_
                  refine z_sub [5, 6, 7, 8, 1, 0] (lv' := [(0, va_rf (some b)), (1, va_rf (some f1)), (2, va_rf (some f2)), (3, va_rf (some f3)), (4, .int (0 : Int32)), (5, .int (w5 + (1 : Int32)))]) rfl ?_
                  refine z_wide (kc' := 174900 - n * 1900) (ks' := 5156000 - n * 56000) (by omega) (by omega) ?_
                  exact ih S238 S237 S239 (0 : Int32) (w5 + (1 : Int32)) (by omega) t242 t241 h
                · refine z_aload_n (C _) (pc := 305) dL_law_305 5 rfl ?_
                  refine z_aload_n (C _) (pc := 306) dL_law_306 7 rfl ?_
                  refine z_S3i (C _) (pc := 307) (kc' := (B + 134)) (ks' := (B2 + 3150)) (As := [va_rf (some f1), va_rf (some f3)]) (rest := []) (c_L_sound l hfl v S238 S237 S239 f1 f3) mw_L_sound bw_873 bw_874 ⟨by have h9 : rm_L_sound.cells = 0 := rfl; omega, by omega, by have h9 : rm_L_sound.slots = 0 := rfl; omega, by omega, by decide, by decide⟩ rfl rfl (Nat.le_of_ble_eq_true rfl) t242 t241 dL_law_307 h (fun r246 S243 S244 S245 t247 t248 h => ?_)
                  refine z_if_eq (C _) (pc := 310) (tgt := 333) dL_law_310 (by decide) h (fun h => ?_) (fun h => ?_)
                  · refine z_iconst (C _) (pc := 333) (x := (0 : Int32)) dL_law_333 kic_0 ?_
                    refine z_istore (C _) (pc := 334) (lv' := [(4, .int (0 : Int32)), (8, .int r27), (7, .int r24), (6, .int r22), (0, va_rf (some b)), (1, va_rf (some f1)), (2, va_rf (some f2)), (3, va_rf (some f3)), (5, .int w5)]) dL_law_334 (by decide) rfl ?_
                    refine z_iinc (C _) (pc := 336) (y := w5 + (1 : Int32)) (lv' := [(5, .int (w5 + (1 : Int32))), (4, .int (0 : Int32)), (8, .int r27), (7, .int r24), (6, .int r22), (0, va_rf (some b)), (1, va_rf (some f1)), (2, va_rf (some f2)), (3, va_rf (some f3))]) dL_law_336 8 rfl rfl (by decide) rfl ?_
                    refine z_goto (C _) (pc := 339) (tgt := 125) dL_law_339 (by decide) ?_
                    refine z_sub [5, 6, 7, 8, 1, 0] (lv' := [(0, va_rf (some b)), (1, va_rf (some f1)), (2, va_rf (some f2)), (3, va_rf (some f3)), (4, .int (0 : Int32)), (5, .int (w5 + (1 : Int32)))]) rfl ?_
                    refine z_wide (kc' := 174900 - n * 1900) (ks' := 5156000 - n * 56000) (by omega) (by omega) ?_
                    exact ih S243 S244 S245 (0 : Int32) (w5 + (1 : Int32)) (by omega) t247 t248 h
                  · refine z_iload (C _) (pc := 313) dL_law_313 8 rfl ?_
                    refine z_bipush (C _) (pc := 315) (x := (45 : Int32)) dL_law_315 kbp_45 ?_
                    refine z_irem (C _) (pc := 317) dL_law_317 (by decide) ?_
                    refine z_if_gt (C _) (pc := 318) (tgt := 329) dL_law_318 (by decide) h (fun h => ?_) (fun h => ?_)
                    · refine z_iconst (C _) (pc := 329) (x := (1 : Int32)) dL_law_329 kic_1 ?_
                      refine z_goto (C _) (pc := 330) (tgt := 334) dL_law_330 (by decide) ?_
                      refine z_istore (C _) (pc := 334) (lv' := [(4, .int (1 : Int32)), (8, .int r27), (7, .int r24), (6, .int r22), (0, va_rf (some b)), (1, va_rf (some f1)), (2, va_rf (some f2)), (3, va_rf (some f3)), (5, .int w5)]) dL_law_334 (by decide) rfl ?_
                      refine z_iinc (C _) (pc := 336) (y := w5 + (1 : Int32)) (lv' := [(5, .int (w5 + (1 : Int32))), (4, .int (1 : Int32)), (8, .int r27), (7, .int r24), (6, .int r22), (0, va_rf (some b)), (1, va_rf (some f1)), (2, va_rf (some f2)), (3, va_rf (some f3))]) dL_law_336 8 rfl rfl (by decide) rfl ?_
                      refine z_goto (C _) (pc := 339) (tgt := 125) dL_law_339 (by decide) ?_
                      refine z_sub [5, 6, 7, 8, 1, 0] (lv' := [(0, va_rf (some b)), (1, va_rf (some f1)), (2, va_rf (some f2)), (3, va_rf (some f3)), (4, .int (1 : Int32)), (5, .int (w5 + (1 : Int32)))]) rfl ?_
                      refine z_wide (kc' := 174900 - n * 1900) (ks' := 5156000 - n * 56000) (by omega) (by omega) ?_
                      exact ih S243 S244 S245 (1 : Int32) (w5 + (1 : Int32)) (by omega) t247 t248 h
                    · refine z_aload_n (C _) (pc := 321) dL_law_321 5 rfl ?_
                      refine z_aload_n (C _) (pc := 322) dL_law_322 7 rfl ?_
                      refine z_S3i (C _) (pc := 323) (kc' := (B + 1364)) (ks' := (B2 + 40572)) (As := [va_rf (some f1), va_rf (some f3)]) (rest := []) (c_L_refused l hfl v S243 S244 S245 f1 f3) mw_L_refused bw_876 bw_877 ⟨by have h9 : rm_L_refused.cells = 1230 := rfl; omega, by omega, by have h9 : rm_L_refused.slots = 37422 := rfl; omega, by omega, by decide, by decide⟩ rfl rfl (Nat.le_of_ble_eq_true rfl) t247 t248 dL_law_323 h (fun r252 S249 S250 S251 t253 t254 h => ?_)
                      refine z_t_if_eq (C _) (pc := 326) dL_law_326 dL_law_329 kic_1 dL_law_330 dL_law_333 kic_0 ?_
                      refine z_nI h (fun y255 h => ?_)
                      refine z_istore (C _) (pc := 334) (lv' := [(4, .int y255), (8, .int r27), (7, .int r24), (6, .int r22), (0, va_rf (some b)), (1, va_rf (some f1)), (2, va_rf (some f2)), (3, va_rf (some f3)), (5, .int w5)]) dL_law_334 (by decide) rfl ?_
                      refine z_iinc (C _) (pc := 336) (y := w5 + (1 : Int32)) (lv' := [(5, .int (w5 + (1 : Int32))), (4, .int y255), (8, .int r27), (7, .int r24), (6, .int r22), (0, va_rf (some b)), (1, va_rf (some f1)), (2, va_rf (some f2)), (3, va_rf (some f3))]) dL_law_336 8 rfl rfl (by decide) rfl ?_
                      refine z_goto (C _) (pc := 339) (tgt := 125) dL_law_339 (by decide) ?_
                      refine z_sub [5, 6, 7, 8, 1, 0] (lv' := [(0, va_rf (some b)), (1, va_rf (some f1)), (2, va_rf (some f2)), (3, va_rf (some f3)), (4, .int y255), (5, .int (w5 + (1 : Int32)))]) rfl ?_
                      refine z_wide (kc' := 174900 - n * 1900) (ks' := 5156000 - n * 56000) (by omega) (by omega) ?_
                      exact ih S249 S250 S251 y255 (w5 + (1 : Int32)) (by omega) t253 t254 h
set_option maxHeartbeats 4000000 in
set_option maxRecDepth 100000 in
theorem k_L_law_B98 (l : Launch) (hfl : l.stackTraces = false) (v : Ev) {b L : Nat} {xs : Nat → Int32} {nm9 : String} {x9 : P9} {A : Nat → Prop} {E : State → Prop} (C : ∀ X, Cx l v RL cL_law 9 (some .boolean) nm9 (x9, X, A, E)) (hX : LX b L xs A x9) (hE : LE b A E x9) (hL : L ≤ 260) (S1 S2 S : Hp) (t1 : g_T S1 = v.2.2.1) (t2 : g_T S2 = v.2.2.1) (w1 : Nat) (w2 : Nat) (w3 : Nat) (w4 : Int32) (h : wp_L_law_B98 S1 S2 S w1 w2 w3 w4) : ZZ l v 9 room_1 (x9, Y3 v.2.1 [] S1 S2, A, E) 509 14866 S 98 [(0, va_rf (some b)), (1, va_rf (some w1)), (2, va_rf (some w2)), (3, va_rf (some w3)), (4, .int w4)] [] := by
  have hR : 600000 ≤ room_1.cells := Nat.le_of_ble_eq_true rfl
  have hR2 : 7000000 ≤ room_1.slots := Nat.le_of_ble_eq_true rfl
  unfold wp_L_law_B98 at h
  refine z_aload_n (C _) (pc := 98) dL_law_98 3 rfl ?_
  refine z_iconst (C _) (pc := 99) (x := (1 : Int32)) dL_law_99 kic_1 ?_
  refine z_iconst (C _) (pc := 100) (x := (4 : Int32)) dL_law_100 kic_4 ?_
  obtain ⟨o1, h⟩ := h
  obtain ⟨v2, h⟩ := h
  refine z_iast (C _) (pc := 101) dL_law_101 rfl o1 v2 ?_
  refine z_lt h (fun S3 h => ?_)
  refine z_iload (C _) (pc := 102) dL_law_102 4 rfl ?_
  refine z_if_eq (C _) (pc := 104) (tgt := 119) dL_law_104 (by decide) h (fun h => ?_) (fun h => ?_)
  · refine z_iconst (C _) (pc := 119) (x := (0 : Int32)) dL_law_119 kic_0 ?_
    refine z_istore (C _) (pc := 120) (lv' := [(4, .int (0 : Int32)), (0, va_rf (some b)), (1, va_rf (some w1)), (2, va_rf (some w2)), (3, va_rf (some w3))]) dL_law_120 (by decide) rfl ?_
    refine z_iconst (C _) (pc := 122) (x := (0 : Int32)) dL_law_122 kic_0 ?_
    refine z_istore (C _) (pc := 123) (lv' := [(5, .int (0 : Int32)), (4, .int (0 : Int32)), (0, va_rf (some b)), (1, va_rf (some w1)), (2, va_rf (some w2)), (3, va_rf (some w3))]) dL_law_123 (by decide) rfl ?_
    obtain ⟨n256, hn9, h⟩ := h
    refine z_sub [2, 3, 4, 5, 1, 0] (lv' := [(0, va_rf (some b)), (1, va_rf (some w1)), (2, va_rf (some w2)), (3, va_rf (some w3)), (4, .int (0 : Int32)), (5, .int (0 : Int32))]) rfl ?_
    refine z_wide (kc' := 174900 - n256 * 1900) (ks' := 5156000 - n256 * 56000) (by omega) (by omega) ?_
    exact l_L_law_L125 l hfl v C hX hE hL w1 w2 w3 n256 S1 S2 S3 (0 : Int32) (0 : Int32) hn9 t1 t2 h
  · refine z_aload_n (C _) (pc := 107) dL_law_107 1 rfl ?_
    refine z_aload_n (C _) (pc := 108) dL_law_108 3 rfl ?_
    refine z_S3i (C _) (pc := 109) (kc' := 1739) (ks' := 52288) (As := [va_rf (some w1), va_rf (some w3)]) (rest := []) (c_L_refused l hfl v S1 S2 S3 w1 w3) mw_L_refused bw_876 bw_877 ⟨by have h9 : rm_L_refused.cells = 1230 := rfl; omega, by omega, by have h9 : rm_L_refused.slots = 37422 := rfl; omega, by omega, by decide, by decide⟩ rfl rfl (Nat.le_of_ble_eq_true rfl) t1 t2 dL_law_109 h (fun r260 S257 S258 S259 t261 t262 h => ?_)
    refine z_t_if_eq (C _) (pc := 112) dL_law_112 dL_law_115 kic_1 dL_law_116 dL_law_119 kic_0 ?_
    refine z_nI h (fun y263 h => ?_)
    refine z_istore (C _) (pc := 120) (lv' := [(4, .int y263), (0, va_rf (some b)), (1, va_rf (some w1)), (2, va_rf (some w2)), (3, va_rf (some w3))]) dL_law_120 (by decide) rfl ?_
    refine z_iconst (C _) (pc := 122) (x := (0 : Int32)) dL_law_122 kic_0 ?_
    refine z_istore (C _) (pc := 123) (lv' := [(5, .int (0 : Int32)), (4, .int y263), (0, va_rf (some b)), (1, va_rf (some w1)), (2, va_rf (some w2)), (3, va_rf (some w3))]) dL_law_123 (by decide) rfl ?_
    obtain ⟨n264, hn9, h⟩ := h
    refine z_sub [2, 3, 4, 5, 1, 0] (lv' := [(0, va_rf (some b)), (1, va_rf (some w1)), (2, va_rf (some w2)), (3, va_rf (some w3)), (4, .int y263), (5, .int (0 : Int32))]) rfl ?_
    refine z_wide (kc' := 174900 - n264 * 1900) (ks' := 5156000 - n264 * 56000) (by omega) (by omega) ?_
    exact l_L_law_L125 l hfl v C hX hE hL w1 w2 w3 n264 S257 S258 S259 y263 (0 : Int32) hn9 t261 t262 h
set_option maxHeartbeats 8000000 in
set_option maxRecDepth 100000 in
theorem l_L_law_L27 (l : Launch) (hfl : l.stackTraces = false) (v : Ev) {b L : Nat} {xs : Nat → Int32} {nm9 : String} {x9 : P9} {A : Nat → Prop} {E : State → Prop} (C : ∀ X, Cx l v RL cL_law 9 (some .boolean) nm9 (x9, X, A, E)) (hX : LX b L xs A x9) (hE : LE b A E x9) (hL : L ≤ 260) (f1 f2 f3 : Nat) : ∀ (n : Nat) (S1 S2 S : Hp) (w4 w5 : Int32) (hn : n ≤ 5), g_T S1 = v.2.2.1 → g_T S2 = v.2.2.1 → wp_L_law_L27 f1 f2 f3 n S1 S2 S w4 w5 → ZZ l v 9 room_1 (x9, Y3 v.2.1 [] S1 S2, A, E) (509 - n * 92) (14866 - n * 2940) S 27 [(0, va_rf (some b)), (1, va_rf (some f1)), (2, va_rf (some f2)), (3, va_rf (some f3)), (4, .int w4), (5, .int w5)] [] := by
  intro n
  induction n with
  | zero =>
    intro S1 S2 S w4 w5 hn t1 t2 h
    exact h.elim
  | succ n ih =>
    intro S1 S2 S w4 w5 hn t1 t2 h
    unfold wp_L_law_L27 at h
    obtain ⟨B, hB⟩ : ∃ B, B = 509 - (n + 1) * 92 := ⟨_, rfl⟩
    obtain ⟨B2, hB2⟩ : ∃ B2, B2 = 14866 - (n + 1) * 2940 := ⟨_, rfl⟩
    have hR : 600000 ≤ room_1.cells := Nat.le_of_ble_eq_true rfl
    have hR2 : 7000000 ≤ room_1.slots := Nat.le_of_ble_eq_true rfl
    rw [← hB, ← hB2]
    refine z_wide (kc' := B + 0) (ks' := B2 + 0) (Nat.le_refl _) (Nat.le_refl _) ?_
    refine z_iload (C _) (pc := 27) dL_law_27 5 rfl ?_
    refine z_iconst (C _) (pc := 29) (x := (4 : Int32)) dL_law_29 kic_4 ?_
    refine z_icmp_ge (C _) (pc := 30) (tgt := 98) dL_law_30 (by decide) h (fun h => ?_) (fun h => ?_)
    · refine z_sub [0, 1, 2, 3, 4] (lv' := [(0, va_rf (some b)), (1, va_rf (some f1)), (2, va_rf (some f2)), (3, va_rf (some f3)), (4, .int w4)]) rfl ?_
      refine z_wide (kc' := 509) (ks' := 14866) (by omega) (by omega) ?_
      exact k_L_law_B98 l hfl v C hX hE hL S1 S2 S t1 t2 f1 f2 f3 w4 h
    · refine z_iload (C _) (pc := 33) dL_law_33 4 rfl ?_
      refine z_if_eq (C _) (pc := 35) (tgt := 98) dL_law_35 (by decide) h (fun h => ?_) (fun h => ?_)
      · refine z_sub [0, 1, 2, 3, 4] (lv' := [(0, va_rf (some b)), (1, va_rf (some f1)), (2, va_rf (some f2)), (3, va_rf (some f3)), (4, .int w4)]) rfl ?_
        refine z_wide (kc' := 509) (ks' := 14866) (by omega) (by omega) ?_
        exact k_L_law_B98 l hfl v C hX hE hL S1 S2 S t1 t2 f1 f2 f3 w4 h
      · refine z_aload_n (C _) (pc := 38) dL_law_38 1 rfl ?_
        refine z_aload_n (C _) (pc := 39) dL_law_39 2 rfl ?_
        refine z_iconst (C _) (pc := 40) (x := (0 : Int32)) dL_law_40 kic_0 ?_
        refine z_iconst (C _) (pc := 41) (x := (5 : Int32)) dL_law_41 kic_5 ?_
        refine z_aload_n (C _) (pc := 42) dL_law_42 0 rfl ?_
        refine z_iload (C _) (pc := 43) dL_law_43 5 rfl ?_
        obtain ⟨c266, h⟩ := h
        refine z_SC (C _) hX (pc := 45) (kc' := (B + 0)) (ks' := (B2 + 0)) (As := [va_rf (some b), .int w5]) (rest := [.int (5 : Int32), .int (0 : Int32), va_rf (some f2), va_rf (some f1)]) (c_L_cell l v b L xs w5 hL c266) mw_L_cell bw_96 bw_97 ⟨by have h9 : rm_L_cell.cells = 0 := rfl; omega, by omega, by have h9 : rm_L_cell.slots = 0 := rfl; omega, by omega, by decide, by decide⟩ rfl rfl (Nat.le_of_ble_eq_true rfl) dL_law_45 (fun r265 => ?_)
        replace h := h r265
        refine z_bipush (C _) (pc := 48) (x := (6 : Int32)) dL_law_48 kbp_6 ?_
        refine z_Si8 (C _) (pc := 50) (KX := fun _ _ => False) (kc' := (B + 0)) (ks' := (B2 + 0)) (As := [.int r265, .int (6 : Int32)]) (rest := [.int (5 : Int32), .int (0 : Int32), va_rf (some f2), va_rf (some f1)]) (c_L_some l v S r265 (6 : Int32)) mw_L_some bw_101 bw_102 ⟨by have h9 : rm_L_some.cells = 0 := rfl; omega, by omega, by have h9 : rm_L_some.slots = 0 := rfl; omega, by omega, by decide, by decide⟩ rfl rfl (Nat.le_of_ble_eq_true rfl) dL_law_50 h (fun r268 S267 h => ?_) (fun En S9 h => h.elim)
        refine z_iadd (C _) (pc := 53) dL_law_53 ?_
        refine z_bipush (C _) (pc := 54) (x := (11 : Int32)) dL_law_54 kbp_11 ?_
        refine z_aload_n (C _) (pc := 56) dL_law_56 0 rfl ?_
        refine z_iload (C _) (pc := 57) dL_law_57 5 rfl ?_
        obtain ⟨c270, h⟩ := h
        refine z_SC (C _) hX (pc := 59) (kc' := (B + 0)) (ks' := (B2 + 0)) (As := [va_rf (some b), .int w5]) (rest := [.int (11 : Int32), .int ((5 : Int32) + r268), .int (0 : Int32), va_rf (some f2), va_rf (some f1)]) (c_L_cell l v b L xs w5 hL c270) mw_L_cell bw_96 bw_97 ⟨by have h9 : rm_L_cell.cells = 0 := rfl; omega, by omega, by have h9 : rm_L_cell.slots = 0 := rfl; omega, by omega, by decide, by decide⟩ rfl rfl (Nat.le_of_ble_eq_true rfl) dL_law_59 (fun r269 => ?_)
        replace h := h r269
        refine z_iconst (C _) (pc := 62) (x := (3 : Int32)) dL_law_62 kic_3 ?_
        refine z_ishr (C _) (pc := 63) dL_law_63 ?_
        refine z_bipush (C _) (pc := 64) (x := (6 : Int32)) dL_law_64 kbp_6 ?_
        refine z_Si8 (C _) (pc := 66) (KX := fun _ _ => False) (kc' := (B + 0)) (ks' := (B2 + 0)) (As := [.int (r269 >>> ((3 : Int32) &&& 31)), .int (6 : Int32)]) (rest := [.int (11 : Int32), .int ((5 : Int32) + r268), .int (0 : Int32), va_rf (some f2), va_rf (some f1)]) (c_L_some l v S267 (r269 >>> ((3 : Int32) &&& 31)) (6 : Int32)) mw_L_some bw_101 bw_102 ⟨by have h9 : rm_L_some.cells = 0 := rfl; omega, by omega, by have h9 : rm_L_some.slots = 0 := rfl; omega, by omega, by decide, by decide⟩ rfl rfl (Nat.le_of_ble_eq_true rfl) dL_law_66 h (fun r272 S271 h => ?_) (fun En S9 h => h.elim)
        refine z_iadd (C _) (pc := 69) dL_law_69 ?_
        refine z_iconst (C _) (pc := 70) (x := (1 : Int32)) dL_law_70 kic_1 ?_
        refine z_iload (C _) (pc := 71) dL_law_71 5 rfl ?_
        refine z_iconst (C _) (pc := 73) (x := (3 : Int32)) dL_law_73 kic_3 ?_
        refine z_irem (C _) (pc := 74) dL_law_74 (by decide) ?_
        refine z_iadd (C _) (pc := 75) dL_law_75 ?_
        refine z_iconst (C _) (pc := 76) (x := (0 : Int32)) dL_law_76 kic_0 ?_
        refine z_S3i (C _) (pc := 77) (kc' := (B + 92)) (ks' := (B2 + 2940)) (As := [va_rf (some f1), va_rf (some f2), .int (0 : Int32), .int ((5 : Int32) + r268), .int ((11 : Int32) + r272), .int ((1 : Int32) + (w5 - w5 / (3 : Int32) * (3 : Int32))), .int (0 : Int32)]) (rest := []) (c_L_both l hfl v S1 S2 S271 f1 f2 (0 : Int32) ((5 : Int32) + r268) ((11 : Int32) + r272) ((1 : Int32) + (w5 - w5 / (3 : Int32) * (3 : Int32))) (0 : Int32)) mw_L_both bw_364 bw_365 ⟨by have h9 : rm_L_both.cells = 92 := rfl; omega, by omega, by have h9 : rm_L_both.slots = 2940 := rfl; omega, by omega, by decide, by decide⟩ rfl rfl (Nat.le_of_ble_eq_true rfl) t1 t2 dL_law_77 h (fun r276 S273 S274 S275 t277 t278 h => ?_)
        refine z_iload (C _) (pc := 80) dL_law_80 5 rfl ?_
        refine z_t_icmp_ne (C _) (pc := 82) dL_law_82 dL_law_85 kic_1 dL_law_86 dL_law_89 kic_0 ?_
        refine z_nI h (fun y279 h => ?_)
        refine z_istore (C _) (pc := 90) (lv' := [(4, .int y279), (0, va_rf (some b)), (1, va_rf (some f1)), (2, va_rf (some f2)), (3, va_rf (some f3)), (5, .int w5)]) dL_law_90 (by decide) rfl ?_
        refine z_iinc (C _) (pc := 92) (y := w5 + (1 : Int32)) (lv' := [(5, .int (w5 + (1 : Int32))), (4, .int y279), (0, va_rf (some b)), (1, va_rf (some f1)), (2, va_rf (some f2)), (3, va_rf (some f3))]) dL_law_92 5 rfl rfl (by decide) rfl ?_
        refine z_goto (C _) (pc := 95) (tgt := 27) dL_law_95 (by decide) ?_
        refine z_sub [2, 3, 4, 5, 1, 0] (lv' := [(0, va_rf (some b)), (1, va_rf (some f1)), (2, va_rf (some f2)), (3, va_rf (some f3)), (4, .int y279), (5, .int (w5 + (1 : Int32)))]) rfl ?_
        refine z_wide (kc' := 509 - n * 92) (ks' := 14866 - n * 2940) (by omega) (by omega) ?_
        exact ih S273 S274 S275 y279 (w5 + (1 : Int32)) (by omega) t277 t278 h
set_option maxHeartbeats 4000000 in
set_option maxRecDepth 100000 in
theorem k_L_law (l : Launch) (hfl : l.stackTraces = false) (v : Ev) {b L : Nat} {xs : Nat → Int32} {nm9 : String} {x9 : P9} {A : Nat → Prop} {E : State → Prop} (C : ∀ X, Cx l v RL cL_law 9 (some .boolean) nm9 (x9, X, A, E)) (hX : LX b L xs A x9) (hE : LE b A E x9) (hL : L ≤ 260) (S1 S2 S : Hp) (t1 : g_T S1 = v.2.2.1) (t2 : g_T S2 = v.2.2.1) (x m dd : Nat) (h : wp_L_law S1 S2 S x m dd) : ZZ l v 9 room_1 (x9, Y3 v.2.1 [] S1 S2, A, E) 49 166 S 21 [(3, va_rf (some dd)), (2, va_rf (some m)), (1, va_rf (some x)), (0, va_rf (some b))] [] := by
  unfold wp_L_law at h
  refine z_iconst (C _) (pc := 21) (x := (1 : Int32)) dL_law_21 kic_1 ?_
  refine z_istore (C _) (pc := 22) (lv' := [(4, .int (1 : Int32)), (3, va_rf (some dd)), (2, va_rf (some m)), (1, va_rf (some x)), (0, va_rf (some b))]) dL_law_22 (by decide) rfl ?_
  refine z_iconst (C _) (pc := 24) (x := (0 : Int32)) dL_law_24 kic_0 ?_
  refine z_istore (C _) (pc := 25) (lv' := [(5, .int (0 : Int32)), (4, .int (1 : Int32)), (3, va_rf (some dd)), (2, va_rf (some m)), (1, va_rf (some x)), (0, va_rf (some b))]) dL_law_25 (by decide) rfl ?_
  obtain ⟨n280, hn9, h⟩ := h
  refine z_sub [5, 4, 3, 2, 1, 0] (lv' := [(0, va_rf (some b)), (1, va_rf (some x)), (2, va_rf (some m)), (3, va_rf (some dd)), (4, .int (1 : Int32)), (5, .int (0 : Int32))]) rfl ?_
  refine z_wide (kc' := 509 - n280 * 92) (ks' := 14866 - n280 * 2940) (by omega) (by omega) ?_
  exact l_L_law_L27 l hfl v C hX hE hL x m dd n280 S1 S2 S (1 : Int32) (0 : Int32) hn9 t1 t2 h
