def wp_L_badges_L545 (Q : Int32 → Hp → Hp → Hp → Prop) (f0 : Nat) (f1 : Nat) (f2 : Nat) (f3 : Int32) (f4 : Int32) (f5 : Int32) (f6 : Int32) (f7 : Int32) (f8 : Int32) (f9 : Int32) (f10 : Int32) : Nat → Hp → Hp → Hp → Int32 → Int32 → Prop
  | 0, _, _, _, _, _ => False
  | n + 1, S1, S2, S, w11, w12 => if (8 : Int32) ≤ w12 then (bz w11 (Q w11 S1 S2 S)) else (if w11 = 0 then (bz w11 (Q w11 S1 S2 S)) else (if f10 < 0 then (bz w11 (Q w11 S1 S2 S)) else (wp_L_call S1 f0 (24 : Int32) f7 w12 (0 : Int32) (0 : Int32) (fun r137 S136 => if r137 = (-2000000003 : Int32) then (okA S136 8 f0 ∧ (wp_X8_earned S136 f0 f7 w12 (fun r142 S141 => if r142 = (-1 : Int32) then (okA S141 8 f0 ∧ (wp_X8_holds S141 f0 f7 w12 (fun r147 S146 => if r147 = 0 then (wp_L_badges_L545 Q f0 f1 f2 f3 f4 f5 f6 f7 f8 f9 f10 n S146 S2 S (1 : Int32) (w12 + (1 : Int32))) else (okA S146 8 f0 ∧ (wp_X8_earned S146 f0 f7 w12 (fun r152 S151 => lt (if r152 < 0 then (0 : Int32) else (1 : Int32)) (fun y154 => wp_L_badges_L545 Q f0 f1 f2 f3 f4 f5 f6 f7 f8 f9 f10 n S151 S2 S y154 (w12 + (1 : Int32)))) (fun _ _ => False)))) (fun _ _ => False))) else (if r137 = 0 then (okA S141 8 f0 ∧ (wp_X8_holds S141 f0 f7 w12 (fun r158 S157 => if r158 = 0 then (wp_L_badges_L545 Q f0 f1 f2 f3 f4 f5 f6 f7 f8 f9 f10 n S157 S2 S (1 : Int32) (w12 + (1 : Int32))) else (okA S157 8 f0 ∧ (wp_X8_earned S157 f0 f7 w12 (fun r163 S162 => lt (if r163 < 0 then (0 : Int32) else (1 : Int32)) (fun y165 => wp_L_badges_L545 Q f0 f1 f2 f3 f4 f5 f6 f7 f8 f9 f10 n S162 S2 S y165 (w12 + (1 : Int32)))) (fun _ _ => False)))) (fun _ _ => False))) else (wp_L_badges_L545 Q f0 f1 f2 f3 f4 f5 f6 f7 f8 f9 f10 n S141 S2 S (0 : Int32) (w12 + (1 : Int32))))) (fun _ _ => False))) else (if ((r137 >>> (f9 &&& 31)) &&& (1 : Int32)) = 0 then (okA S136 8 f0 ∧ (wp_X8_earned S136 f0 f7 w12 (fun r169 S168 => if r169 = (-1 : Int32) then (okA S168 8 f0 ∧ (wp_X8_holds S168 f0 f7 w12 (fun r174 S173 => if r174 = 0 then (wp_L_badges_L545 Q f0 f1 f2 f3 f4 f5 f6 f7 f8 f9 f10 n S173 S2 S (1 : Int32) (w12 + (1 : Int32))) else (okA S173 8 f0 ∧ (wp_X8_earned S173 f0 f7 w12 (fun r179 S178 => lt (if r179 < 0 then (0 : Int32) else (1 : Int32)) (fun y181 => wp_L_badges_L545 Q f0 f1 f2 f3 f4 f5 f6 f7 f8 f9 f10 n S178 S2 S y181 (w12 + (1 : Int32)))) (fun _ _ => False)))) (fun _ _ => False))) else (if r137 = 0 then (okA S168 8 f0 ∧ (wp_X8_holds S168 f0 f7 w12 (fun r185 S184 => if r185 = 0 then (wp_L_badges_L545 Q f0 f1 f2 f3 f4 f5 f6 f7 f8 f9 f10 n S184 S2 S (1 : Int32) (w12 + (1 : Int32))) else (okA S184 8 f0 ∧ (wp_X8_earned S184 f0 f7 w12 (fun r190 S189 => lt (if r190 < 0 then (0 : Int32) else (1 : Int32)) (fun y192 => wp_L_badges_L545 Q f0 f1 f2 f3 f4 f5 f6 f7 f8 f9 f10 n S189 S2 S y192 (w12 + (1 : Int32)))) (fun _ _ => False)))) (fun _ _ => False))) else (wp_L_badges_L545 Q f0 f1 f2 f3 f4 f5 f6 f7 f8 f9 f10 n S168 S2 S (0 : Int32) (w12 + (1 : Int32))))) (fun _ _ => False))) else (wp_L_badges_L545 Q f0 f1 f2 f3 f4 f5 f6 f7 f8 f9 f10 n S136 S2 S (0 : Int32) (w12 + (1 : Int32))))))))
def wp_L_badges_B542 (Q : Int32 → Hp → Hp → Hp → Prop) (S1 S2 S : Hp) (w0 : Nat) (w1 : Nat) (w2 : Nat) (w3 : Int32) (w4 : Int32) (w5 : Int32) (w6 : Int32) (w7 : Int32) (w8 : Int32) (w9 : Int32) (w10 : Int32) (w11 : Int32) : Prop :=
  ∃ n193, n193 ≤ 9 ∧ wp_L_badges_L545 Q w0 w1 w2 w3 w4 w5 w6 w7 w8 w9 w10 n193 S1 S2 S w11 (0 : Int32)
def wp_L_badges_B429 (Q : Int32 → Hp → Hp → Hp → Prop) (S1 S2 S : Hp) (w0 : Nat) (w1 : Nat) (w2 : Nat) (w3 : Int32) (w4 : Int32) (w5 : Int32) (w6 : Int32) (w7 : Int32) (w8 : Int32) : Prop :=
  wp_L_some S (w4 >>> ((6 : Int32) &&& 31)) (12 : Int32) (fun r124 S123 => okA S123 11 w2 ∧ (vp_in (2 : Int32) (g_N S123 w2) ∧ (wp_L_some S123 (w3 >>> ((4 : Int32) &&& 31)) (g_R S123 w2 (2 : Int32).toNatClampNeg) (fun r128 S127 => wp_L_both S1 S2 S127 w0 w1 (13 : Int32) w7 r124 r128 (0 : Int32) (fun r132 S129 S130 S131 => if r132 = (-2000000003 : Int32) then (okA S129 8 w0 ∧ (wp_X8_ofChild S129 w0 w7 (4 : Int32) (fun r211 S210 => if r211 = w8 then (wp_L_badges_B542 Q S210 S130 S131 w0 w1 w2 w3 w4 w5 w6 w7 w8 r124 r132 (1 : Int32)) else (wp_L_badges_B542 Q S210 S130 S131 w0 w1 w2 w3 w4 w5 w6 w7 w8 r124 r132 (0 : Int32))) (fun _ _ => False))) else (if r132 < w8 then (wp_L_badges_B542 Q S129 S130 S131 w0 w1 w2 w3 w4 w5 w6 w7 w8 r124 r132 (0 : Int32)) else (okA S129 8 w0 ∧ (wp_X8_ofChild S129 w0 w7 (4 : Int32) (fun r197 S196 => if r132 = r197 then (okA S131 11 w2 ∧ (vp_in (2 : Int32) (g_N S131 w2) ∧ (wp_L_some S131 (w3 >>> ((4 : Int32) &&& 31)) (g_R S131 w2 (2 : Int32).toNatClampNeg) (fun r202 S201 => wp_L_call S196 w0 (13 : Int32) w7 r124 r202 (0 : Int32) (fun r205 S204 => lt (if r205 = (-2000000003 : Int32) then (1 : Int32) else (0 : Int32)) (fun y207 => wp_L_badges_B542 Q S204 S130 S201 w0 w1 w2 w3 w4 w5 w6 w7 w8 r124 r132 y207)))))) else (wp_L_badges_B542 Q S196 S130 S131 w0 w1 w2 w3 w4 w5 w6 w7 w8 r124 r132 (0 : Int32))) (fun _ _ => False)))))))))
def wp_L_badges_B293 (Q : Int32 → Hp → Hp → Hp → Prop) (S1 S2 S : Hp) (w0 : Nat) (w1 : Nat) (w2 : Nat) (w3 : Int32) (w4 : Int32) (w5 : Int32) (w6 : Int32) (w7 : Int32) (w8 : Int32) : Prop :=
  wp_L_both S1 S2 S w0 w1 (12 : Int32) w7 w6 (0 : Int32) (0 : Int32) (fun r216 S213 S214 S215 => wp_L_call S213 w0 (24 : Int32) w7 w6 (0 : Int32) (0 : Int32) (fun r221 S220 => if r216 = (-2000000003 : Int32) then (okA S215 11 w2 ∧ (vp_in ((4 : Int32) + w6) (g_N S215 w2) ∧ (if (if (g_R S215 w2 ((4 : Int32) + w6).toNatClampNeg) = 0 then (1 : Int32) else (0 : Int32)) = (if r221 = (-2000000003 : Int32) then (1 : Int32) else (0 : Int32)) then (bz (1 : Int32) (Q (1 : Int32) S220 S214 S215)) else (bz (0 : Int32) (Q (0 : Int32) S220 S214 S215))))) else (okA S215 11 w2 ∧ (vp_in ((4 : Int32) + w6) (g_N S215 w2) ∧ (if r216 = ((g_R S215 w2 ((4 : Int32) + w6).toNatClampNeg) - (1 : Int32)) then (if r221 < 0 then (bz (0 : Int32) (Q (0 : Int32) S220 S214 S215)) else (okA S220 8 w0 ∧ (wp_X8_earned S220 w0 w7 w6 (fun r228 S227 => if r228 = (-1 : Int32) then (okA S227 8 w0 ∧ (wp_X8_ofChild S227 w0 w7 (4 : Int32) (fun r233 S232 => bz (if r233 < w8 then (0 : Int32) else (1 : Int32)) (Q (if r233 < w8 then (0 : Int32) else (1 : Int32)) S232 S214 S215)) (fun _ _ => False))) else (okA S227 8 w0 ∧ (wp_X8_earned S227 w0 w7 w6 (fun r238 S237 => okA S237 8 w0 ∧ (wp_X8_today S237 w0 (fun r243 S242 => if r238 = r243 then (okA S242 8 w0 ∧ (wp_X8_ofChild S242 w0 w7 (4 : Int32) (fun r248 S247 => bz (if r248 < w8 then (0 : Int32) else (1 : Int32)) (Q (if r248 < w8 then (0 : Int32) else (1 : Int32)) S247 S214 S215)) (fun _ _ => False))) else (bz (0 : Int32) (Q (0 : Int32) S242 S214 S215))))) (fun _ _ => False)))) (fun _ _ => False)))) else (bz (0 : Int32) (Q (0 : Int32) S220 S214 S215)))))))
def wp_L_badges_B265 (Q : Int32 → Hp → Hp → Hp → Prop) (S1 S2 S : Hp) (w0 : Nat) (w1 : Nat) (w2 : Nat) (w3 : Int32) (w4 : Int32) (w5 : Int32) (w6 : Int32) : Prop :=
  okA S 11 w2 ∧ (vp_in (0 : Int32) (g_N S w2) ∧ (wp_L_some S (w4 >>> ((3 : Int32) &&& 31)) (g_R S w2 (0 : Int32).toNatClampNeg) (fun r117 S116 => okA S1 8 w0 ∧ (wp_X8_ofChild S1 w0 r117 (4 : Int32) (fun r121 S120 => if (6 : Int32) ≤ w5 then (wp_L_badges_B429 Q S120 S2 S116 w0 w1 w2 w3 w4 w5 w6 r117 r121) else (wp_L_badges_B293 Q S120 S2 S116 w0 w1 w2 w3 w4 w5 w6 r117 r121)) (fun _ _ => False)))))
def wp_L_badges_B228 (Q : Int32 → Hp → Hp → Hp → Prop) (S1 S2 S : Hp) (w0 : Nat) (w1 : Nat) (w2 : Nat) (w3 : Int32) (w4 : Int32) (w5 : Int32) (w6 : Int32) : Prop :=
  okA S 11 w2 ∧ (vp_in (0 : Int32) (g_N S w2) ∧ (if (g_R S w2 (0 : Int32).toNatClampNeg) = 0 then (vp_in (0 : Int32) (g_N S w2) ∧ (vp_in (2 : Int32) (g_N S w2) ∧ (wp_L_call S1 w0 (13 : Int32) (g_R S w2 (0 : Int32).toNatClampNeg) (0 : Int32) (g_R S w2 (2 : Int32).toNatClampNeg) (0 : Int32) (fun r111 S110 => bz (if r111 = (-2000000001 : Int32) then (1 : Int32) else (0 : Int32)) (Q (if r111 = (-2000000001 : Int32) then (1 : Int32) else (0 : Int32)) S110 S2 S))))) else (vp_in (2 : Int32) (g_N S w2) ∧ (if (g_R S w2 (2 : Int32).toNatClampNeg) = 0 then (vp_in (0 : Int32) (g_N S w2) ∧ (vp_in (2 : Int32) (g_N S w2) ∧ (wp_L_call S1 w0 (13 : Int32) (g_R S w2 (0 : Int32).toNatClampNeg) (0 : Int32) (g_R S w2 (2 : Int32).toNatClampNeg) (0 : Int32) (fun r256 S255 => bz (if r256 = (-2000000001 : Int32) then (1 : Int32) else (0 : Int32)) (Q (if r256 = (-2000000001 : Int32) then (1 : Int32) else (0 : Int32)) S255 S2 S))))) else (wp_L_badges_B265 Q S1 S2 S w0 w1 w2 w3 w4 w5 w6)))))
def wp_L_badges_B165 (Q : Int32 → Hp → Hp → Hp → Prop) (S1 S2 S : Hp) (w0 : Nat) (w1 : Nat) (w2 : Nat) (w3 : Int32) (w4 : Int32) (w5 : Int32) (w6 : Int32) (w7 : Int32) (w8 : Int32) (w9 : Int32) (w10 : Int32) (w11 : Int32) (w12 : Int32) : Prop :=
  okA S 11 w2 ∧ (vp_in ((4 : Int32) + w6) (g_N S w2) ∧ (vp_in ((4 : Int32) + w6) (g_N S w2) ∧ (lt (s_R S w2 ((4 : Int32) + w6).toNatClampNeg ((g_R S w2 ((4 : Int32) + w6).toNatClampNeg) + (if w11 < 0 then (0 : Int32) else (1 : Int32)))) (fun S287 => if w12 = 0 then (bz (0 : Int32) (Q (0 : Int32) S1 S2 S287)) else (if w11 = (-2000000003 : Int32) then (okA S287 11 w2 ∧ (vp_in ((4 : Int32) + w6) (g_N S287 w2) ∧ (if (g_R S287 w2 ((4 : Int32) + w6).toNatClampNeg) = (3 : Int32) then (bz (1 : Int32) (Q (1 : Int32) S1 S2 S287)) else (bz (0 : Int32) (Q (0 : Int32) S1 S2 S287))))) else (okA S287 11 w2 ∧ (vp_in ((4 : Int32) + w6) (g_N S287 w2) ∧ (bz (if w11 = ((g_R S287 w2 ((4 : Int32) + w6).toNatClampNeg) - (1 : Int32)) then (1 : Int32) else (0 : Int32)) (Q (if w11 = ((g_R S287 w2 ((4 : Int32) + w6).toNatClampNeg) - (1 : Int32)) then (1 : Int32) else (0 : Int32)) S1 S2 S287)))))))))
def wp_L_badges_B87 (Q : Int32 → Hp → Hp → Hp → Prop) (S1 S2 S : Hp) (w0 : Nat) (w1 : Nat) (w2 : Nat) (w3 : Int32) (w4 : Int32) (w5 : Int32) (w6 : Int32) (w7 : Int32) (w8 : Int32) (w9 : Int32) (w10 : Int32) : Prop :=
  wp_L_some S (w3 >>> ((7 : Int32) &&& 31)) (30 : Int32) (fun r268 S267 => wp_L_some S267 (w3 >>> ((9 : Int32) &&& 31)) (40 : Int32) (fun r270 S269 => wp_L_edition S1 w0 w6 w7 w8 w9 w10 r268 r270 (fun r273 S272 => wp_L_some S269 (w3 >>> ((7 : Int32) &&& 31)) (30 : Int32) (fun r276 S275 => wp_L_some S275 (w3 >>> ((9 : Int32) &&& 31)) (40 : Int32) (fun r278 S277 => wp_L_edition S2 w1 w6 w7 w8 w9 w10 r276 r278 (fun r281 S280 => lt (if r273 = r281 then (1 : Int32) else (0 : Int32)) (fun y283 => wp_L_badges_B165 Q S272 S280 S277 w0 w1 w2 w3 w4 w5 w6 w7 w8 w9 w10 r273 y283)))))))
def wp_L_badges_B23 (Q : Int32 → Hp → Hp → Hp → Prop) (S1 S2 S : Hp) (w0 : Nat) (w1 : Nat) (w2 : Nat) (w3 : Int32) (w4 : Int32) (w5 : Int32) (w6 : Int32) : Prop :=
  wp_L_some S (w4 >>> ((3 : Int32) &&& 31)) (64 : Int32) (fun r259 S258 => wp_L_some S258 (w4 >>> ((6 : Int32) &&& 31)) (1024 : Int32) (fun r261 S260 => lt (r261 &&& (r259 ^^^ (-1 : Int32))) (fun y262 => lt (if y262 = 0 then (0 : Int32) else (1 : Int32)) (fun y263 => if w6 = 0 then (wp_L_badges_B87 Q S1 S2 S260 w0 w1 w2 w3 w4 w5 w6 r259 y262 y263 (-1 : Int32)) else (wp_L_some S260 (w3 >>> ((4 : Int32) &&& 31)) (w6 + (1 : Int32)) (fun r265 S264 => lt (r265 - (1 : Int32)) (fun y266 => wp_L_badges_B87 Q S1 S2 S264 w0 w1 w2 w3 w4 w5 w6 r259 y262 y263 y266)))))))
def wp_L_badges (S1 S2 S : Hp) (x0 : Nat) (x1 : Nat) (x2 : Nat) (x3 : Int32) (x4 : Int32) (Q : Int32 → Hp → Hp → Hp → Prop) : Prop :=
  wp_L_some S x3 (12 : Int32) (fun r102 S101 => wp_L_some S101 x4 (8 : Int32) (fun r104 S103 => if (3 : Int32) ≤ r102 then (wp_L_badges_B228 Q S1 S2 S103 x0 x1 x2 x3 x4 r102 r104) else (wp_L_badges_B23 Q S1 S2 S103 x0 x1 x2 x3 x4 r102 r104)))
def rm_L_badges : Room := { frames := 12, cells := 552, slots := 17640, locals := 356 }
set_option maxHeartbeats 4000000 in
set_option maxRecDepth 100000 in
theorem l_L_badges_L545 (l : Launch) (hfl : l.stackTraces = false) (v : Ev) {x9 : P9} {A : Nat → Prop} {E : State → Prop} {X0 Y : va_W} (C : ∀ X, Cx l v RL cL_badges 14 (some .boolean) "badges" (x9, X, A, E)) (Q : Int32 → Hp → Hp → Hp → Prop) (T : E3 v rm_L_badges (Q3i v) Q X0 Y A E x9) (f0 : Nat) (f1 : Nat) (f2 : Nat) (f3 : Int32) (f4 : Int32) (f5 : Int32) (f6 : Int32) (f7 : Int32) (f8 : Int32) (f9 : Int32) (f10 : Int32) : ∀ (n : Nat) (S1 S2 S : Hp) (w11 : Int32) (w12 : Int32) (hn : n ≤ 9), g_T S1 = v.2.2.1 → g_T S2 = v.2.2.1 → wp_L_badges_L545 Q f0 f1 f2 f3 f4 f5 f6 f7 f8 f9 f10 n S1 S2 S w11 w12 → ZZ l v 14 rm_L_badges (x9, Y3 v.2.1 Y S1 S2, A, E) (552 - n * 46) (17640 - n * 1470) S 545 [(0, va_rf (some f0)), (1, va_rf (some f1)), (2, va_rf (some f2)), (3, .int f3), (4, .int f4), (5, .int f5), (6, .int f6), (7, .int f7), (8, .int f8), (9, .int f9), (10, .int f10), (11, .int w11), (12, .int w12)] [] := by
  intro n
  induction n with
  | zero =>
    intro S1 S2 S w11 w12 hn t1 t2 h
    exact h.elim
  | succ n ih =>
    intro S1 S2 S w11 w12 hn t1 t2 h
    unfold wp_L_badges_L545 at h
    obtain ⟨B, hB⟩ : ∃ B, B = 552 - (n + 1) * 46 := ⟨_, rfl⟩
    obtain ⟨B2, hB2⟩ : ∃ B2, B2 = 17640 - (n + 1) * 1470 := ⟨_, rfl⟩
    have hR : rm_L_badges.cells = 552 := rfl
    have hR2 : rm_L_badges.slots = 17640 := rfl
    rw [← hB, ← hB2]
    refine z_wide (kc' := B + 0) (ks' := B2 + 0) (Nat.le_refl _) (Nat.le_refl _) ?_
    refine z_iload (C _) (pc := 545) dL_badges_545 12 rfl ?_
    refine z_bipush (C _) (pc := 547) (x := (8 : Int32)) dL_badges_547 kbp_8 ?_
    refine z_icmp_ge (C _) (pc := 549) (tgt := 645) dL_badges_549 (by decide) h (fun h => ?_) (fun h => ?_)
    · refine z_iload (C _) (pc := 645) dL_badges_645 11 rfl ?_
      exact z_zret3 (C []) (pc := 647) T t1 t2 dL_badges_647 (by omega) (by omega) h
    · refine z_iload (C _) (pc := 552) dL_badges_552 11 rfl ?_
      refine z_if_eq (C _) (pc := 554) (tgt := 645) dL_badges_554 (by decide) h (fun h => ?_) (fun h => ?_)
      · refine z_iload (C _) (pc := 645) dL_badges_645 11 rfl ?_
        exact z_zret3 (C []) (pc := 647) T t1 t2 dL_badges_647 (by omega) (by omega) h
      · refine z_iload (C _) (pc := 557) dL_badges_557 10 rfl ?_
        refine z_if_lt (C _) (pc := 559) (tgt := 645) dL_badges_559 (by decide) h (fun h => ?_) (fun h => ?_)
        · refine z_iload (C _) (pc := 645) dL_badges_645 11 rfl ?_
          exact z_zret3 (C []) (pc := 647) T t1 t2 dL_badges_647 (by omega) (by omega) h
        · refine z_aload_n (C _) (pc := 562) dL_badges_562 0 rfl ?_
          refine z_bipush (C _) (pc := 563) (x := (24 : Int32)) dL_badges_563 kbp_24 ?_
          refine z_iload (C _) (pc := 565) dL_badges_565 7 rfl ?_
          refine z_iload (C _) (pc := 567) dL_badges_567 12 rfl ?_
          refine z_iconst (C _) (pc := 569) (x := (0 : Int32)) dL_badges_569 kic_0 ?_
          refine z_iconst (C _) (pc := 570) (x := (0 : Int32)) dL_badges_570 kic_0 ?_
          refine z_s1 t1 (fun t135 => ?_)
          refine z_SW (C _) (pc := 571) (kc' := (B + 46)) (ks' := (B2 + 1470)) (As := [va_rf (some f0), .int (24 : Int32), .int f7, .int w12, .int (0 : Int32), .int (0 : Int32)]) (rest := []) (c_L_call l hfl v S1 f0 (24 : Int32) f7 w12 (0 : Int32) (0 : Int32)) bw_369 bw_0 (by decide +kernel) (n := 6) (by decide +kernel) bw_367 bw_368 ⟨by have h9 : rm_L_call.cells = 46 := rfl; omega, by omega, by have h9 : rm_L_call.slots = 1470 := rfl; omega, by omega, by decide, by decide⟩ rfl rfl (Nat.le_of_ble_eq_true rfl) dL_badges_571 h (fun r137 S136 h => ?_)
          refine z_s1' t135 (fun t138 => ?_)
          refine z_istore (C _) (pc := 574) (lv' := [(13, .int r137), (0, va_rf (some f0)), (1, va_rf (some f1)), (2, va_rf (some f2)), (3, .int f3), (4, .int f4), (5, .int f5), (6, .int f6), (7, .int f7), (8, .int f8), (9, .int f9), (10, .int f10), (11, .int w11), (12, .int w12)]) dL_badges_574 (by decide) rfl ?_
          refine z_iload (C _) (pc := 576) dL_badges_576 0 rfl ?_
          refine z_ldc (C _) (pc := 578) (x := (-2000000003 : Int32)) dL_badges_578 bw_778 ?_
          refine z_icmp_eq (C _) (pc := 580) (tgt := 593) dL_badges_580 (by decide) h (fun h => ?_) (fun h => ?_)
          · refine z_aload_n (C _) (pc := 593) dL_badges_593 1 rfl ?_
            refine z_iload (C _) (pc := 594) dL_badges_594 8 rfl ?_
            refine z_iload (C _) (pc := 596) dL_badges_596 13 rfl ?_
            obtain ⟨o139, h⟩ := h
            refine z_s1 t138 (fun t140 => ?_)
            refine z_Vi (C _) (pc := 598) (KX := fun _ _ => False) (kc' := (B + 46)) (ks' := (B2 + 1470)) (As := [.int f7, .int w12]) (rest := []) rfl (c_X8_earned_n l v S136 f0 f7 w12) mw_X8_earned bw_240 bw_241 bw_242 ⟨by have h9 : rm_X8_earned_n.cells = 0 := rfl; omega, by omega, by have h9 : rm_X8_earned_n.slots = 0 := rfl; omega, by omega, by decide, by decide⟩ rfl rfl (Nat.le_of_ble_eq_true rfl) (by decide) rfl o139 dL_badges_598 h (fun r142 S141 h => ?_) (fun En S9 h => h.elim)
            refine z_s1' t140 (fun t143 => ?_)
            refine z_iconst (C _) (pc := 601) (x := (-1 : Int32)) dL_badges_601 kic_m1 ?_
            refine z_icmp_eq (C _) (pc := 602) (tgt := 610) dL_badges_602 (by decide) h (fun h => ?_) (fun h => ?_)
            · refine z_aload_n (C _) (pc := 610) dL_badges_610 1 rfl ?_
              refine z_iload (C _) (pc := 611) dL_badges_611 8 rfl ?_
              refine z_iload (C _) (pc := 613) dL_badges_613 13 rfl ?_
              obtain ⟨o144, h⟩ := h
              refine z_s1 t143 (fun t145 => ?_)
              refine z_Vi (C _) (pc := 615) (KX := fun _ _ => False) (kc' := (B + 46)) (ks' := (B2 + 1470)) (As := [.int f7, .int w12]) (rest := []) rfl (c_X8_holds_n l v S141 f0 f7 w12) mw_X8_holds bw_245 bw_246 bw_247 ⟨by have h9 : rm_X8_holds_n.cells = 0 := rfl; omega, by omega, by have h9 : rm_X8_holds_n.slots = 0 := rfl; omega, by omega, by decide, by decide⟩ rfl rfl (Nat.le_of_ble_eq_true rfl) (by decide) rfl o144 dL_badges_615 h (fun r147 S146 h => ?_) (fun En S9 h => h.elim)
              refine z_s1' t145 (fun t148 => ?_)
              refine z_if_eq (C _) (pc := 618) (tgt := 632) dL_badges_618 (by decide) h (fun h => ?_) (fun h => ?_)
              · refine z_iconst (C _) (pc := 632) (x := (1 : Int32)) dL_badges_632 kic_1 ?_
                refine z_goto (C _) (pc := 633) (tgt := 637) dL_badges_633 (by decide) ?_
                refine z_istore (C _) (pc := 637) (lv' := [(11, .int (1 : Int32)), (13, .int r137), (0, va_rf (some f0)), (1, va_rf (some f1)), (2, va_rf (some f2)), (3, .int f3), (4, .int f4), (5, .int f5), (6, .int f6), (7, .int f7), (8, .int f8), (9, .int f9), (10, .int f10), (12, .int w12)]) dL_badges_637 (by decide) rfl ?_
                refine z_iinc (C _) (pc := 639) (y := w12 + (1 : Int32)) (lv' := [(12, .int (w12 + (1 : Int32))), (11, .int (1 : Int32)), (13, .int r137), (0, va_rf (some f0)), (1, va_rf (some f1)), (2, va_rf (some f2)), (3, .int f3), (4, .int f4), (5, .int f5), (6, .int f6), (7, .int f7), (8, .int f8), (9, .int f9), (10, .int f10)]) dL_badges_639 13 rfl rfl (by decide) rfl ?_
                refine z_goto (C _) (pc := 642) (tgt := 545) dL_badges_642 (by decide) ?_
                refine z_sub [3, 4, 5, 6, 7, 8, 9, 10, 11, 12, 13, 1, 0] (lv' := [(0, va_rf (some f0)), (1, va_rf (some f1)), (2, va_rf (some f2)), (3, .int f3), (4, .int f4), (5, .int f5), (6, .int f6), (7, .int f7), (8, .int f8), (9, .int f9), (10, .int f10), (11, .int (1 : Int32)), (12, .int (w12 + (1 : Int32)))]) rfl ?_
                refine z_wide (kc' := 552 - n * 46) (ks' := 17640 - n * 1470) (by omega) (by omega) ?_
                exact ih S146 S2 S (1 : Int32) (w12 + (1 : Int32)) (by omega) t148 t2 h
              · refine z_aload_n (C _) (pc := 621) dL_badges_621 1 rfl ?_
                refine z_iload (C _) (pc := 622) dL_badges_622 8 rfl ?_
                refine z_iload (C _) (pc := 624) dL_badges_624 13 rfl ?_
                obtain ⟨o149, h⟩ := h
                refine z_s1 t148 (fun t150 => ?_)
                refine z_Vi (C _) (pc := 626) (KX := fun _ _ => False) (kc' := (B + 46)) (ks' := (B2 + 1470)) (As := [.int f7, .int w12]) (rest := []) rfl (c_X8_earned_n l v S146 f0 f7 w12) mw_X8_earned bw_240 bw_241 bw_242 ⟨by have h9 : rm_X8_earned_n.cells = 0 := rfl; omega, by omega, by have h9 : rm_X8_earned_n.slots = 0 := rfl; omega, by omega, by decide, by decide⟩ rfl rfl (Nat.le_of_ble_eq_true rfl) (by decide) rfl o149 dL_badges_626 h (fun r152 S151 h => ?_) (fun En S9 h => h.elim)
                refine z_s1' t150 (fun t153 => ?_)
                refine z_t_if_lt (C _) (pc := 629) dL_badges_629 dL_badges_632 kic_1 dL_badges_633 dL_badges_636 kic_0 ?_
                refine z_nI h (fun y154 h => ?_)
                refine z_istore (C _) (pc := 637) (lv' := [(11, .int y154), (13, .int r137), (0, va_rf (some f0)), (1, va_rf (some f1)), (2, va_rf (some f2)), (3, .int f3), (4, .int f4), (5, .int f5), (6, .int f6), (7, .int f7), (8, .int f8), (9, .int f9), (10, .int f10), (12, .int w12)]) dL_badges_637 (by decide) rfl ?_
                refine z_iinc (C _) (pc := 639) (y := w12 + (1 : Int32)) (lv' := [(12, .int (w12 + (1 : Int32))), (11, .int y154), (13, .int r137), (0, va_rf (some f0)), (1, va_rf (some f1)), (2, va_rf (some f2)), (3, .int f3), (4, .int f4), (5, .int f5), (6, .int f6), (7, .int f7), (8, .int f8), (9, .int f9), (10, .int f10)]) dL_badges_639 13 rfl rfl (by decide) rfl ?_
                refine z_goto (C _) (pc := 642) (tgt := 545) dL_badges_642 (by decide) ?_
                refine z_sub [3, 4, 5, 6, 7, 8, 9, 10, 11, 12, 13, 1, 0] (lv' := [(0, va_rf (some f0)), (1, va_rf (some f1)), (2, va_rf (some f2)), (3, .int f3), (4, .int f4), (5, .int f5), (6, .int f6), (7, .int f7), (8, .int f8), (9, .int f9), (10, .int f10), (11, .int y154), (12, .int (w12 + (1 : Int32)))]) rfl ?_
                refine z_wide (kc' := 552 - n * 46) (ks' := 17640 - n * 1470) (by omega) (by omega) ?_
                exact ih S151 S2 S y154 (w12 + (1 : Int32)) (by omega) t153 t2 h
            · refine z_iload (C _) (pc := 605) dL_badges_605 0 rfl ?_
              refine z_if_ne (C _) (pc := 607) (tgt := 636) dL_badges_607 (by decide) h (fun h => ?_) (fun h => ?_)
              · refine z_iconst (C _) (pc := 636) (x := (0 : Int32)) dL_badges_636 kic_0 ?_
                refine z_istore (C _) (pc := 637) (lv' := [(11, .int (0 : Int32)), (13, .int r137), (0, va_rf (some f0)), (1, va_rf (some f1)), (2, va_rf (some f2)), (3, .int f3), (4, .int f4), (5, .int f5), (6, .int f6), (7, .int f7), (8, .int f8), (9, .int f9), (10, .int f10), (12, .int w12)]) dL_badges_637 (by decide) rfl ?_
                refine z_iinc (C _) (pc := 639) (y := w12 + (1 : Int32)) (lv' := [(12, .int (w12 + (1 : Int32))), (11, .int (0 : Int32)), (13, .int r137), (0, va_rf (some f0)), (1, va_rf (some f1)), (2, va_rf (some f2)), (3, .int f3), (4, .int f4), (5, .int f5), (6, .int f6), (7, .int f7), (8, .int f8), (9, .int f9), (10, .int f10)]) dL_badges_639 13 rfl rfl (by decide) rfl ?_
                refine z_goto (C _) (pc := 642) (tgt := 545) dL_badges_642 (by decide) ?_
                refine z_sub [3, 4, 5, 6, 7, 8, 9, 10, 11, 12, 13, 1, 0] (lv' := [(0, va_rf (some f0)), (1, va_rf (some f1)), (2, va_rf (some f2)), (3, .int f3), (4, .int f4), (5, .int f5), (6, .int f6), (7, .int f7), (8, .int f8), (9, .int f9), (10, .int f10), (11, .int (0 : Int32)), (12, .int (w12 + (1 : Int32)))]) rfl ?_
                refine z_wide (kc' := 552 - n * 46) (ks' := 17640 - n * 1470) (by omega) (by omega) ?_
                exact ih S141 S2 S (0 : Int32) (w12 + (1 : Int32)) (by omega) t143 t2 h
              · refine z_aload_n (C _) (pc := 610) dL_badges_610 1 rfl ?_
                refine z_iload (C _) (pc := 611) dL_badges_611 8 rfl ?_
                refine z_iload (C _) (pc := 613) dL_badges_613 13 rfl ?_
                obtain ⟨o155, h⟩ := h
                refine z_s1 t143 (fun t156 => ?_)
                refine z_Vi (C _) (pc := 615) (KX := fun _ _ => False) (kc' := (B + 46)) (ks' := (B2 + 1470)) (As := [.int f7, .int w12]) (rest := []) rfl (c_X8_holds_n l v S141 f0 f7 w12) mw_X8_holds bw_245 bw_246 bw_247 ⟨by have h9 : rm_X8_holds_n.cells = 0 := rfl; omega, by omega, by have h9 : rm_X8_holds_n.slots = 0 := rfl; omega, by omega, by decide, by decide⟩ rfl rfl (Nat.le_of_ble_eq_true rfl) (by decide) rfl o155 dL_badges_615 h (fun r158 S157 h => ?_) (fun En S9 h => h.elim)
                refine z_s1' t156 (fun t159 => ?_)
                refine z_if_eq (C _) (pc := 618) (tgt := 632) dL_badges_618 (by decide) h (fun h => ?_) (fun h => ?_)
                · refine z_iconst (C _) (pc := 632) (x := (1 : Int32)) dL_badges_632 kic_1 ?_
                  refine z_goto (C _) (pc := 633) (tgt := 637) dL_badges_633 (by decide) ?_
                  refine z_istore (C _) (pc := 637) (lv' := [(11, .int (1 : Int32)), (13, .int r137), (0, va_rf (some f0)), (1, va_rf (some f1)), (2, va_rf (some f2)), (3, .int f3), (4, .int f4), (5, .int f5), (6, .int f6), (7, .int f7), (8, .int f8), (9, .int f9), (10, .int f10), (12, .int w12)]) dL_badges_637 (by decide) rfl ?_
                  refine z_iinc (C _) (pc := 639) (y := w12 + (1 : Int32)) (lv' := [(12, .int (w12 + (1 : Int32))), (11, .int (1 : Int32)), (13, .int r137), (0, va_rf (some f0)), (1, va_rf (some f1)), (2, va_rf (some f2)), (3, .int f3), (4, .int f4), (5, .int f5), (6, .int f6), (7, .int f7), (8, .int f8), (9, .int f9), (10, .int f10)]) dL_badges_639 13 rfl rfl (by decide) rfl ?_
                  refine z_goto (C _) (pc := 642) (tgt := 545) dL_badges_642 (by decide) ?_
                  refine z_sub [3, 4, 5, 6, 7, 8, 9, 10, 11, 12, 13, 1, 0] (lv' := [(0, va_rf (some f0)), (1, va_rf (some f1)), (2, va_rf (some f2)), (3, .int f3), (4, .int f4), (5, .int f5), (6, .int f6), (7, .int f7), (8, .int f8), (9, .int f9), (10, .int f10), (11, .int (1 : Int32)), (12, .int (w12 + (1 : Int32)))]) rfl ?_
                  refine z_wide (kc' := 552 - n * 46) (ks' := 17640 - n * 1470) (by omega) (by omega) ?_
                  exact ih S157 S2 S (1 : Int32) (w12 + (1 : Int32)) (by omega) t159 t2 h
                · refine z_aload_n (C _) (pc := 621) dL_badges_621 1 rfl ?_
                  refine z_iload (C _) (pc := 622) dL_badges_622 8 rfl ?_
                  refine z_iload (C _) (pc := 624) dL_badges_624 13 rfl ?_
                  obtain ⟨o160, h⟩ := h
                  refine z_s1 t159 (fun t161 => ?_)
                  refine z_Vi (C _) (pc := 626) (KX := fun _ _ => False) (kc' := (B + 46)) (ks' := (B2 + 1470)) (As := [.int f7, .int w12]) (rest := []) rfl (c_X8_earned_n l v S157 f0 f7 w12) mw_X8_earned bw_240 bw_241 bw_242 ⟨by have h9 : rm_X8_earned_n.cells = 0 := rfl; omega, by omega, by have h9 : rm_X8_earned_n.slots = 0 := rfl; omega, by omega, by decide, by decide⟩ rfl rfl (Nat.le_of_ble_eq_true rfl) (by decide) rfl o160 dL_badges_626 h (fun r163 S162 h => ?_) (fun En S9 h => h.elim)
                  refine z_s1' t161 (fun t164 => ?_)
                  refine z_t_if_lt (C _) (pc := 629) dL_badges_629 dL_badges_632 kic_1 dL_badges_633 dL_badges_636 kic_0 ?_
                  refine z_nI h (fun y165 h => ?_)
                  refine z_istore (C _) (pc := 637) (lv' := [(11, .int y165), (13, .int r137), (0, va_rf (some f0)), (1, va_rf (some f1)), (2, va_rf (some f2)), (3, .int f3), (4, .int f4), (5, .int f5), (6, .int f6), (7, .int f7), (8, .int f8), (9, .int f9), (10, .int f10), (12, .int w12)]) dL_badges_637 (by decide) rfl ?_
                  refine z_iinc (C _) (pc := 639) (y := w12 + (1 : Int32)) (lv' := [(12, .int (w12 + (1 : Int32))), (11, .int y165), (13, .int r137), (0, va_rf (some f0)), (1, va_rf (some f1)), (2, va_rf (some f2)), (3, .int f3), (4, .int f4), (5, .int f5), (6, .int f6), (7, .int f7), (8, .int f8), (9, .int f9), (10, .int f10)]) dL_badges_639 13 rfl rfl (by decide) rfl ?_
                  refine z_goto (C _) (pc := 642) (tgt := 545) dL_badges_642 (by decide) ?_
                  refine z_sub [3, 4, 5, 6, 7, 8, 9, 10, 11, 12, 13, 1, 0] (lv' := [(0, va_rf (some f0)), (1, va_rf (some f1)), (2, va_rf (some f2)), (3, .int f3), (4, .int f4), (5, .int f5), (6, .int f6), (7, .int f7), (8, .int f8), (9, .int f9), (10, .int f10), (11, .int y165), (12, .int (w12 + (1 : Int32)))]) rfl ?_
                  refine z_wide (kc' := 552 - n * 46) (ks' := 17640 - n * 1470) (by omega) (by omega) ?_
                  exact ih S162 S2 S y165 (w12 + (1 : Int32)) (by omega) t164 t2 h
          · refine z_iload (C _) (pc := 583) dL_badges_583 0 rfl ?_
            refine z_iload (C _) (pc := 585) dL_badges_585 10 rfl ?_
            refine z_ishr (C _) (pc := 587) dL_badges_587 ?_
            refine z_iconst (C _) (pc := 588) (x := (1 : Int32)) dL_badges_588 kic_1 ?_
            refine z_iand (C _) (pc := 589) dL_badges_589 ?_
            refine z_if_ne (C _) (pc := 590) (tgt := 636) dL_badges_590 (by decide) h (fun h => ?_) (fun h => ?_)
            · refine z_iconst (C _) (pc := 636) (x := (0 : Int32)) dL_badges_636 kic_0 ?_
              refine z_istore (C _) (pc := 637) (lv' := [(11, .int (0 : Int32)), (13, .int r137), (0, va_rf (some f0)), (1, va_rf (some f1)), (2, va_rf (some f2)), (3, .int f3), (4, .int f4), (5, .int f5), (6, .int f6), (7, .int f7), (8, .int f8), (9, .int f9), (10, .int f10), (12, .int w12)]) dL_badges_637 (by decide) rfl ?_
              refine z_iinc (C _) (pc := 639) (y := w12 + (1 : Int32)) (lv' := [(12, .int (w12 + (1 : Int32))), (11, .int (0 : Int32)), (13, .int r137), (0, va_rf (some f0)), (1, va_rf (some f1)), (2, va_rf (some f2)), (3, .int f3), (4, .int f4), (5, .int f5), (6, .int f6), (7, .int f7), (8, .int f8), (9, .int f9), (10, .int f10)]) dL_badges_639 13 rfl rfl (by decide) rfl ?_
              refine z_goto (C _) (pc := 642) (tgt := 545) dL_badges_642 (by decide) ?_
              refine z_sub [3, 4, 5, 6, 7, 8, 9, 10, 11, 12, 13, 1, 0] (lv' := [(0, va_rf (some f0)), (1, va_rf (some f1)), (2, va_rf (some f2)), (3, .int f3), (4, .int f4), (5, .int f5), (6, .int f6), (7, .int f7), (8, .int f8), (9, .int f9), (10, .int f10), (11, .int (0 : Int32)), (12, .int (w12 + (1 : Int32)))]) rfl ?_
              refine z_wide (kc' := 552 - n * 46) (ks' := 17640 - n * 1470) (by omega) (by omega) ?_
              exact ih S136 S2 S (0 : Int32) (w12 + (1 : Int32)) (by omega) t138 t2 h
            · refine z_aload_n (C _) (pc := 593) dL_badges_593 1 rfl ?_
              refine z_iload (C _) (pc := 594) dL_badges_594 8 rfl ?_
              refine z_iload (C _) (pc := 596) dL_badges_596 13 rfl ?_
              obtain ⟨o166, h⟩ := h
              refine z_s1 t138 (fun t167 => ?_)
              refine z_Vi (C _) (pc := 598) (KX := fun _ _ => False) (kc' := (B + 46)) (ks' := (B2 + 1470)) (As := [.int f7, .int w12]) (rest := []) rfl (c_X8_earned_n l v S136 f0 f7 w12) mw_X8_earned bw_240 bw_241 bw_242 ⟨by have h9 : rm_X8_earned_n.cells = 0 := rfl; omega, by omega, by have h9 : rm_X8_earned_n.slots = 0 := rfl; omega, by omega, by decide, by decide⟩ rfl rfl (Nat.le_of_ble_eq_true rfl) (by decide) rfl o166 dL_badges_598 h (fun r169 S168 h => ?_) (fun En S9 h => h.elim)
              refine z_s1' t167 (fun t170 => ?_)
              refine z_iconst (C _) (pc := 601) (x := (-1 : Int32)) dL_badges_601 kic_m1 ?_
              refine z_icmp_eq (C _) (pc := 602) (tgt := 610) dL_badges_602 (by decide) h (fun h => ?_) (fun h => ?_)
              · refine z_aload_n (C _) (pc := 610) dL_badges_610 1 rfl ?_
                refine z_iload (C _) (pc := 611) dL_badges_611 8 rfl ?_
                refine z_iload (C _) (pc := 613) dL_badges_613 13 rfl ?_
                obtain ⟨o171, h⟩ := h
                refine z_s1 t170 (fun t172 => ?_)
                refine z_Vi (C _) (pc := 615) (KX := fun _ _ => False) (kc' := (B + 46)) (ks' := (B2 + 1470)) (As := [.int f7, .int w12]) (rest := []) rfl (c_X8_holds_n l v S168 f0 f7 w12) mw_X8_holds bw_245 bw_246 bw_247 ⟨by have h9 : rm_X8_holds_n.cells = 0 := rfl; omega, by omega, by have h9 : rm_X8_holds_n.slots = 0 := rfl; omega, by omega, by decide, by decide⟩ rfl rfl (Nat.le_of_ble_eq_true rfl) (by decide) rfl o171 dL_badges_615 h (fun r174 S173 h => ?_) (fun En S9 h => h.elim)
                refine z_s1' t172 (fun t175 => ?_)
                refine z_if_eq (C _) (pc := 618) (tgt := 632) dL_badges_618 (by decide) h (fun h => ?_) (fun h => ?_)
                · refine z_iconst (C _) (pc := 632) (x := (1 : Int32)) dL_badges_632 kic_1 ?_
                  refine z_goto (C _) (pc := 633) (tgt := 637) dL_badges_633 (by decide) ?_
                  refine z_istore (C _) (pc := 637) (lv' := [(11, .int (1 : Int32)), (13, .int r137), (0, va_rf (some f0)), (1, va_rf (some f1)), (2, va_rf (some f2)), (3, .int f3), (4, .int f4), (5, .int f5), (6, .int f6), (7, .int f7), (8, .int f8), (9, .int f9), (10, .int f10), (12, .int w12)]) dL_badges_637 (by decide) rfl ?_
                  refine z_iinc (C _) (pc := 639) (y := w12 + (1 : Int32)) (lv' := [(12, .int (w12 + (1 : Int32))), (11, .int (1 : Int32)), (13, .int r137), (0, va_rf (some f0)), (1, va_rf (some f1)), (2, va_rf (some f2)), (3, .int f3), (4, .int f4), (5, .int f5), (6, .int f6), (7, .int f7), (8, .int f8), (9, .int f9), (10, .int f10)]) dL_badges_639 13 rfl rfl (by decide) rfl ?_
                  refine z_goto (C _) (pc := 642) (tgt := 545) dL_badges_642 (by decide) ?_
                  refine z_sub [3, 4, 5, 6, 7, 8, 9, 10, 11, 12, 13, 1, 0] (lv' := [(0, va_rf (some f0)), (1, va_rf (some f1)), (2, va_rf (some f2)), (3, .int f3), (4, .int f4), (5, .int f5), (6, .int f6), (7, .int f7), (8, .int f8), (9, .int f9), (10, .int f10), (11, .int (1 : Int32)), (12, .int (w12 + (1 : Int32)))]) rfl ?_
                  refine z_wide (kc' := 552 - n * 46) (ks' := 17640 - n * 1470) (by omega) (by omega) ?_
                  exact ih S173 S2 S (1 : Int32) (w12 + (1 : Int32)) (by omega) t175 t2 h
                · refine z_aload_n (C _) (pc := 621) dL_badges_621 1 rfl ?_
                  refine z_iload (C _) (pc := 622) dL_badges_622 8 rfl ?_
                  refine z_iload (C _) (pc := 624) dL_badges_624 13 rfl ?_
                  obtain ⟨o176, h⟩ := h
                  refine z_s1 t175 (fun t177 => ?_)
                  refine z_Vi (C _) (pc := 626) (KX := fun _ _ => False) (kc' := (B + 46)) (ks' := (B2 + 1470)) (As := [.int f7, .int w12]) (rest := []) rfl (c_X8_earned_n l v S173 f0 f7 w12) mw_X8_earned bw_240 bw_241 bw_242 ⟨by have h9 : rm_X8_earned_n.cells = 0 := rfl; omega, by omega, by have h9 : rm_X8_earned_n.slots = 0 := rfl; omega, by omega, by decide, by decide⟩ rfl rfl (Nat.le_of_ble_eq_true rfl) (by decide) rfl o176 dL_badges_626 h (fun r179 S178 h => ?_) (fun En S9 h => h.elim)
                  refine z_s1' t177 (fun t180 => ?_)
                  refine z_t_if_lt (C _) (pc := 629) dL_badges_629 dL_badges_632 kic_1 dL_badges_633 dL_badges_636 kic_0 ?_
                  refine z_nI h (fun y181 h => ?_)
                  refine z_istore (C _) (pc := 637) (lv' := [(11, .int y181), (13, .int r137), (0, va_rf (some f0)), (1, va_rf (some f1)), (2, va_rf (some f2)), (3, .int f3), (4, .int f4), (5, .int f5), (6, .int f6), (7, .int f7), (8, .int f8), (9, .int f9), (10, .int f10), (12, .int w12)]) dL_badges_637 (by decide) rfl ?_
                  refine z_iinc (C _) (pc := 639) (y := w12 + (1 : Int32)) (lv' := [(12, .int (w12 + (1 : Int32))), (11, .int y181), (13, .int r137), (0, va_rf (some f0)), (1, va_rf (some f1)), (2, va_rf (some f2)), (3, .int f3), (4, .int f4), (5, .int f5), (6, .int f6), (7, .int f7), (8, .int f8), (9, .int f9), (10, .int f10)]) dL_badges_639 13 rfl rfl (by decide) rfl ?_
                  refine z_goto (C _) (pc := 642) (tgt := 545) dL_badges_642 (by decide) ?_
                  refine z_sub [3, 4, 5, 6, 7, 8, 9, 10, 11, 12, 13, 1, 0] (lv' := [(0, va_rf (some f0)), (1, va_rf (some f1)), (2, va_rf (some f2)), (3, .int f3), (4, .int f4), (5, .int f5), (6, .int f6), (7, .int f7), (8, .int f8), (9, .int f9), (10, .int f10), (11, .int y181), (12, .int (w12 + (1 : Int32)))]) rfl ?_
                  refine z_wide (kc' := 552 - n * 46) (ks' := 17640 - n * 1470) (by omega) (by omega) ?_
                  exact ih S178 S2 S y181 (w12 + (1 : Int32)) (by omega) t180 t2 h
              · refine z_iload (C _) (pc := 605) dL_badges_605 0 rfl ?_
                refine z_if_ne (C _) (pc := 607) (tgt := 636) dL_badges_607 (by decide) h (fun h => ?_) (fun h => ?_)
                · refine z_iconst (C _) (pc := 636) (x := (0 : Int32)) dL_badges_636 kic_0 ?_
                  refine z_istore (C _) (pc := 637) (lv' := [(11, .int (0 : Int32)), (13, .int r137), (0, va_rf (some f0)), (1, va_rf (some f1)), (2, va_rf (some f2)), (3, .int f3), (4, .int f4), (5, .int f5), (6, .int f6), (7, .int f7), (8, .int f8), (9, .int f9), (10, .int f10), (12, .int w12)]) dL_badges_637 (by decide) rfl ?_
                  refine z_iinc (C _) (pc := 639) (y := w12 + (1 : Int32)) (lv' := [(12, .int (w12 + (1 : Int32))), (11, .int (0 : Int32)), (13, .int r137), (0, va_rf (some f0)), (1, va_rf (some f1)), (2, va_rf (some f2)), (3, .int f3), (4, .int f4), (5, .int f5), (6, .int f6), (7, .int f7), (8, .int f8), (9, .int f9), (10, .int f10)]) dL_badges_639 13 rfl rfl (by decide) rfl ?_
                  refine z_goto (C _) (pc := 642) (tgt := 545) dL_badges_642 (by decide) ?_
                  refine z_sub [3, 4, 5, 6, 7, 8, 9, 10, 11, 12, 13, 1, 0] (lv' := [(0, va_rf (some f0)), (1, va_rf (some f1)), (2, va_rf (some f2)), (3, .int f3), (4, .int f4), (5, .int f5), (6, .int f6), (7, .int f7), (8, .int f8), (9, .int f9), (10, .int f10), (11, .int (0 : Int32)), (12, .int (w12 + (1 : Int32)))]) rfl ?_
                  refine z_wide (kc' := 552 - n * 46) (ks' := 17640 - n * 1470) (by omega) (by omega) ?_
                  exact ih S168 S2 S (0 : Int32) (w12 + (1 : Int32)) (by omega) t170 t2 h
                · refine z_aload_n (C _) (pc := 610) dL_badges_610 1 rfl ?_
                  refine z_iload (C _) (pc := 611) dL_badges_611 8 rfl ?_
                  refine z_iload (C _) (pc := 613) dL_badges_613 13 rfl ?_
                  obtain ⟨o182, h⟩ := h
                  refine z_s1 t170 (fun t183 => ?_)
                  refine z_Vi (C _) (pc := 615) (KX := fun _ _ => False) (kc' := (B + 46)) (ks' := (B2 + 1470)) (As := [.int f7, .int w12]) (rest := []) rfl (c_X8_holds_n l v S168 f0 f7 w12) mw_X8_holds bw_245 bw_246 bw_247 ⟨by have h9 : rm_X8_holds_n.cells = 0 := rfl; omega, by omega, by have h9 : rm_X8_holds_n.slots = 0 := rfl; omega, by omega, by decide, by decide⟩ rfl rfl (Nat.le_of_ble_eq_true rfl) (by decide) rfl o182 dL_badges_615 h (fun r185 S184 h => ?_) (fun En S9 h => h.elim)
                  refine z_s1' t183 (fun t186 => ?_)
                  refine z_if_eq (C _) (pc := 618) (tgt := 632) dL_badges_618 (by decide) h (fun h => ?_) (fun h => ?_)
                  · refine z_iconst (C _) (pc := 632) (x := (1 : Int32)) dL_badges_632 kic_1 ?_
                    refine z_goto (C _) (pc := 633) (tgt := 637) dL_badges_633 (by decide) ?_
                    refine z_istore (C _) (pc := 637) (lv' := [(11, .int (1 : Int32)), (13, .int r137), (0, va_rf (some f0)), (1, va_rf (some f1)), (2, va_rf (some f2)), (3, .int f3), (4, .int f4), (5, .int f5), (6, .int f6), (7, .int f7), (8, .int f8), (9, .int f9), (10, .int f10), (12, .int w12)]) dL_badges_637 (by decide) rfl ?_
                    refine z_iinc (C _) (pc := 639) (y := w12 + (1 : Int32)) (lv' := [(12, .int (w12 + (1 : Int32))), (11, .int (1 : Int32)), (13, .int r137), (0, va_rf (some f0)), (1, va_rf (some f1)), (2, va_rf (some f2)), (3, .int f3), (4, .int f4), (5, .int f5), (6, .int f6), (7, .int f7), (8, .int f8), (9, .int f9), (10, .int f10)]) dL_badges_639 13 rfl rfl (by decide) rfl ?_
                    refine z_goto (C _) (pc := 642) (tgt := 545) dL_badges_642 (by decide) ?_
                    refine z_sub [3, 4, 5, 6, 7, 8, 9, 10, 11, 12, 13, 1, 0] (lv' := [(0, va_rf (some f0)), (1, va_rf (some f1)), (2, va_rf (some f2)), (3, .int f3), (4, .int f4), (5, .int f5), (6, .int f6), (7, .int f7), (8, .int f8), (9, .int f9), (10, .int f10), (11, .int (1 : Int32)), (12, .int (w12 + (1 : Int32)))]) rfl ?_
                    refine z_wide (kc' := 552 - n * 46) (ks' := 17640 - n * 1470) (by omega) (by omega) ?_
                    exact ih S184 S2 S (1 : Int32) (w12 + (1 : Int32)) (by omega) t186 t2 h
                  · refine z_aload_n (C _) (pc := 621) dL_badges_621 1 rfl ?_
                    refine z_iload (C _) (pc := 622) dL_badges_622 8 rfl ?_
                    refine z_iload (C _) (pc := 624) dL_badges_624 13 rfl ?_
                    obtain ⟨o187, h⟩ := h
                    refine z_s1 t186 (fun t188 => ?_)
                    refine z_Vi (C _) (pc := 626) (KX := fun _ _ => False) (kc' := (B + 46)) (ks' := (B2 + 1470)) (As := [.int f7, .int w12]) (rest := []) rfl (c_X8_earned_n l v S184 f0 f7 w12) mw_X8_earned bw_240 bw_241 bw_242 ⟨by have h9 : rm_X8_earned_n.cells = 0 := rfl; omega, by omega, by have h9 : rm_X8_earned_n.slots = 0 := rfl; omega, by omega, by decide, by decide⟩ rfl rfl (Nat.le_of_ble_eq_true rfl) (by decide) rfl o187 dL_badges_626 h (fun r190 S189 h => ?_) (fun En S9 h => h.elim)
                    refine z_s1' t188 (fun t191 => ?_)
                    refine z_t_if_lt (C _) (pc := 629) dL_badges_629 dL_badges_632 kic_1 dL_badges_633 dL_badges_636 kic_0 ?_
                    refine z_nI h (fun y192 h => ?_)
                    refine z_istore (C _) (pc := 637) (lv' := [(11, .int y192), (13, .int r137), (0, va_rf (some f0)), (1, va_rf (some f1)), (2, va_rf (some f2)), (3, .int f3), (4, .int f4), (5, .int f5), (6, .int f6), (7, .int f7), (8, .int f8), (9, .int f9), (10, .int f10), (12, .int w12)]) dL_badges_637 (by decide) rfl ?_
                    refine z_iinc (C _) (pc := 639) (y := w12 + (1 : Int32)) (lv' := [(12, .int (w12 + (1 : Int32))), (11, .int y192), (13, .int r137), (0, va_rf (some f0)), (1, va_rf (some f1)), (2, va_rf (some f2)), (3, .int f3), (4, .int f4), (5, .int f5), (6, .int f6), (7, .int f7), (8, .int f8), (9, .int f9), (10, .int f10)]) dL_badges_639 13 rfl rfl (by decide) rfl ?_
                    refine z_goto (C _) (pc := 642) (tgt := 545) dL_badges_642 (by decide) ?_
                    refine z_sub [3, 4, 5, 6, 7, 8, 9, 10, 11, 12, 13, 1, 0] (lv' := [(0, va_rf (some f0)), (1, va_rf (some f1)), (2, va_rf (some f2)), (3, .int f3), (4, .int f4), (5, .int f5), (6, .int f6), (7, .int f7), (8, .int f8), (9, .int f9), (10, .int f10), (11, .int y192), (12, .int (w12 + (1 : Int32)))]) rfl ?_
                    refine z_wide (kc' := 552 - n * 46) (ks' := 17640 - n * 1470) (by omega) (by omega) ?_
                    exact ih S189 S2 S y192 (w12 + (1 : Int32)) (by omega) t191 t2 h
set_option maxHeartbeats 4000000 in
set_option maxRecDepth 100000 in
theorem k_L_badges_B542 (l : Launch) (hfl : l.stackTraces = false) (v : Ev) {x9 : P9} {A : Nat → Prop} {E : State → Prop} {X0 Y : va_W} (C : ∀ X, Cx l v RL cL_badges 14 (some .boolean) "badges" (x9, X, A, E)) (Q : Int32 → Hp → Hp → Hp → Prop) (T : E3 v rm_L_badges (Q3i v) Q X0 Y A E x9) (S1 S2 S : Hp) (t1 : g_T S1 = v.2.2.1) (t2 : g_T S2 = v.2.2.1) (w0 : Nat) (w1 : Nat) (w2 : Nat) (w3 : Int32) (w4 : Int32) (w5 : Int32) (w6 : Int32) (w7 : Int32) (w8 : Int32) (w9 : Int32) (w10 : Int32) (w11 : Int32) (h : wp_L_badges_B542 Q S1 S2 S w0 w1 w2 w3 w4 w5 w6 w7 w8 w9 w10 w11) : ZZ l v 14 rm_L_badges (x9, Y3 v.2.1 Y S1 S2, A, E) 138 4410 S 542 [(0, va_rf (some w0)), (1, va_rf (some w1)), (2, va_rf (some w2)), (3, .int w3), (4, .int w4), (5, .int w5), (6, .int w6), (7, .int w7), (8, .int w8), (9, .int w9), (10, .int w10), (11, .int w11)] [] := by
  unfold wp_L_badges_B542 at h
  refine z_iconst (C _) (pc := 542) (x := (0 : Int32)) dL_badges_542 kic_0 ?_
  refine z_istore (C _) (pc := 543) (lv' := [(12, .int (0 : Int32)), (0, va_rf (some w0)), (1, va_rf (some w1)), (2, va_rf (some w2)), (3, .int w3), (4, .int w4), (5, .int w5), (6, .int w6), (7, .int w7), (8, .int w8), (9, .int w9), (10, .int w10), (11, .int w11)]) dL_badges_543 (by decide) rfl ?_
  obtain ⟨n193, hn9, h⟩ := h
  refine z_sub [1, 2, 3, 4, 5, 6, 7, 8, 9, 10, 11, 12, 0] (lv' := [(0, va_rf (some w0)), (1, va_rf (some w1)), (2, va_rf (some w2)), (3, .int w3), (4, .int w4), (5, .int w5), (6, .int w6), (7, .int w7), (8, .int w8), (9, .int w9), (10, .int w10), (11, .int w11), (12, .int (0 : Int32))]) rfl ?_
  refine z_wide (kc' := 552 - n193 * 46) (ks' := 17640 - n193 * 1470) (by omega) (by omega) ?_
  exact l_L_badges_L545 l hfl v C Q T w0 w1 w2 w3 w4 w5 w6 w7 w8 w9 w10 n193 S1 S2 S w11 (0 : Int32) hn9 t1 t2 h
set_option maxHeartbeats 4000000 in
set_option maxRecDepth 100000 in
theorem k_L_badges_B429 (l : Launch) (hfl : l.stackTraces = false) (v : Ev) {x9 : P9} {A : Nat → Prop} {E : State → Prop} {X0 Y : va_W} (C : ∀ X, Cx l v RL cL_badges 14 (some .boolean) "badges" (x9, X, A, E)) (Q : Int32 → Hp → Hp → Hp → Prop) (T : E3 v rm_L_badges (Q3i v) Q X0 Y A E x9) (S1 S2 S : Hp) (t1 : g_T S1 = v.2.2.1) (t2 : g_T S2 = v.2.2.1) (w0 : Nat) (w1 : Nat) (w2 : Nat) (w3 : Int32) (w4 : Int32) (w5 : Int32) (w6 : Int32) (w7 : Int32) (w8 : Int32) (h : wp_L_badges_B429 Q S1 S2 S w0 w1 w2 w3 w4 w5 w6 w7 w8) : ZZ l v 14 rm_L_badges (x9, Y3 v.2.1 Y S1 S2, A, E) 0 0 S 429 [(0, va_rf (some w0)), (1, va_rf (some w1)), (2, va_rf (some w2)), (3, .int w3), (4, .int w4), (5, .int w5), (6, .int w6), (7, .int w7), (8, .int w8)] [] := by
  unfold wp_L_badges_B429 at h
  refine z_iload (C _) (pc := 429) dL_badges_429 4 rfl ?_
  refine z_bipush (C _) (pc := 431) (x := (6 : Int32)) dL_badges_431 kbp_6 ?_
  refine z_ishr (C _) (pc := 433) dL_badges_433 ?_
  refine z_bipush (C _) (pc := 434) (x := (12 : Int32)) dL_badges_434 kbp_12 ?_
  refine z_Si8 (C _) (pc := 436) (KX := fun _ _ => False) (kc' := 0) (ks' := 0) (As := [.int (w4 >>> ((6 : Int32) &&& 31)), .int (12 : Int32)]) (rest := []) (c_L_some l v S (w4 >>> ((6 : Int32) &&& 31)) (12 : Int32)) mw_L_some bw_101 bw_102 (fit_of rfl) rfl rfl (Nat.le_of_ble_eq_true rfl) dL_badges_436 h (fun r124 S123 h => ?_) (fun En S9 h => h.elim)
  refine z_istore (C _) (pc := 439) (lv' := [(9, .int r124), (0, va_rf (some w0)), (1, va_rf (some w1)), (2, va_rf (some w2)), (3, .int w3), (4, .int w4), (5, .int w5), (6, .int w6), (7, .int w7), (8, .int w8)]) dL_badges_439 (by decide) rfl ?_
  refine z_aload_n (C _) (pc := 441) dL_badges_441 1 rfl ?_
  refine z_aload_n (C _) (pc := 442) dL_badges_442 2 rfl ?_
  refine z_bipush (C _) (pc := 443) (x := (13 : Int32)) dL_badges_443 kbp_13 ?_
  refine z_iload (C _) (pc := 445) dL_badges_445 8 rfl ?_
  refine z_iload (C _) (pc := 447) dL_badges_447 0 rfl ?_
  refine z_iload_n (C _) (pc := 449) dL_badges_449 4 rfl ?_
  refine z_iconst (C _) (pc := 450) (x := (4 : Int32)) dL_badges_450 kic_4 ?_
  refine z_ishr (C _) (pc := 451) dL_badges_451 ?_
  refine z_aload_n (C _) (pc := 452) dL_badges_452 3 rfl ?_
  refine z_iconst (C _) (pc := 453) (x := (2 : Int32)) dL_badges_453 kic_2 ?_
  obtain ⟨o125, h⟩ := h
  obtain ⟨v126, h⟩ := h
  refine z_iald (C _) (pc := 454) dL_badges_454 rfl o125 v126 ?_
  refine z_Si8 (C _) (pc := 455) (KX := fun _ _ => False) (kc' := 0) (ks' := 0) (As := [.int (w3 >>> ((4 : Int32) &&& 31)), .int (g_R S123 w2 (2 : Int32).toNatClampNeg)]) (rest := [.int r124, .int w7, .int (13 : Int32), va_rf (some w1), va_rf (some w0)]) (c_L_some l v S123 (w3 >>> ((4 : Int32) &&& 31)) (g_R S123 w2 (2 : Int32).toNatClampNeg)) mw_L_some bw_101 bw_102 (fit_of rfl) rfl rfl (Nat.le_of_ble_eq_true rfl) dL_badges_455 h (fun r128 S127 h => ?_) (fun En S9 h => h.elim)
  refine z_iconst (C _) (pc := 458) (x := (0 : Int32)) dL_badges_458 kic_0 ?_
  refine z_S3i (C []) (pc := 459) (kc' := 92) (ks' := 2940) (As := [va_rf (some w0), va_rf (some w1), .int (13 : Int32), .int w7, .int r124, .int r128, .int (0 : Int32)]) (rest := []) (c_L_both l hfl v S1 S2 S127 w0 w1 (13 : Int32) w7 r124 r128 (0 : Int32)) mw_L_both bw_364 bw_365 (fit_of rfl) rfl rfl (Nat.le_of_ble_eq_true rfl) t1 t2 dL_badges_459 h (fun r132 S129 S130 S131 t133 t134 h => ?_)
  refine z_istore (C _) (pc := 462) (lv' := [(10, .int r132), (9, .int r124), (0, va_rf (some w0)), (1, va_rf (some w1)), (2, va_rf (some w2)), (3, .int w3), (4, .int w4), (5, .int w5), (6, .int w6), (7, .int w7), (8, .int w8)]) dL_badges_462 (by decide) rfl ?_
  refine z_iload (C _) (pc := 464) dL_badges_464 0 rfl ?_
  refine z_ldc (C _) (pc := 466) (x := (-2000000003 : Int32)) dL_badges_466 bw_778 ?_
  refine z_icmp_ne (C _) (pc := 468) (tgt := 491) dL_badges_468 (by decide) h (fun h => ?_) (fun h => ?_)
  · refine z_iload (C _) (pc := 491) dL_badges_491 0 rfl ?_
    refine z_iload (C _) (pc := 493) dL_badges_493 10 rfl ?_
    refine z_icmp_lt (C _) (pc := 495) (tgt := 539) dL_badges_495 (by decide) h (fun h => ?_) (fun h => ?_)
    · refine z_iconst (C _) (pc := 539) (x := (0 : Int32)) dL_badges_539 kic_0 ?_
      refine z_istore (C _) (pc := 540) (lv' := [(11, .int (0 : Int32)), (10, .int r132), (9, .int r124), (0, va_rf (some w0)), (1, va_rf (some w1)), (2, va_rf (some w2)), (3, .int w3), (4, .int w4), (5, .int w5), (6, .int w6), (7, .int w7), (8, .int w8)]) dL_badges_540 (by decide) rfl ?_
      refine z_sub [3, 4, 5, 6, 7, 8, 9, 10, 11, 2, 1, 0] (lv' := [(0, va_rf (some w0)), (1, va_rf (some w1)), (2, va_rf (some w2)), (3, .int w3), (4, .int w4), (5, .int w5), (6, .int w6), (7, .int w7), (8, .int w8), (9, .int r124), (10, .int r132), (11, .int (0 : Int32))]) rfl ?_
      refine z_wide (kc' := 138) (ks' := 4410) (by decide) (by decide) ?_
      exact k_L_badges_B542 l hfl v C Q T S129 S130 S131 t133 t134 w0 w1 w2 w3 w4 w5 w6 w7 w8 r124 r132 (0 : Int32) h
    · refine z_iload (C _) (pc := 498) dL_badges_498 0 rfl ?_
      refine z_aload_n (C _) (pc := 500) dL_badges_500 2 rfl ?_
      refine z_iload (C _) (pc := 501) dL_badges_501 9 rfl ?_
      refine z_iconst (C _) (pc := 503) (x := (4 : Int32)) dL_badges_503 kic_4 ?_
      obtain ⟨o194, h⟩ := h
      refine z_s1 t133 (fun t195 => ?_)
      refine z_Vi (C _) (pc := 504) (KX := fun _ _ => False) (kc' := 92) (ks' := 2940) (As := [.int w7, .int (4 : Int32)]) (rest := [.int r132]) rfl (c_X8_ofChild_n l v S129 w0 w7 (4 : Int32)) mw_X8_ofChild bw_113 bw_114 bw_115 (fit_of rfl) rfl rfl (Nat.le_of_ble_eq_true rfl) (by decide) rfl o194 dL_badges_504 h (fun r197 S196 h => ?_) (fun En S9 h => h.elim)
      refine z_s1' t195 (fun t198 => ?_)
      refine z_icmp_ne (C _) (pc := 507) (tgt := 539) dL_badges_507 (by decide) h (fun h => ?_) (fun h => ?_)
      · refine z_iconst (C _) (pc := 539) (x := (0 : Int32)) dL_badges_539 kic_0 ?_
        refine z_istore (C _) (pc := 540) (lv' := [(11, .int (0 : Int32)), (10, .int r132), (9, .int r124), (0, va_rf (some w0)), (1, va_rf (some w1)), (2, va_rf (some w2)), (3, .int w3), (4, .int w4), (5, .int w5), (6, .int w6), (7, .int w7), (8, .int w8)]) dL_badges_540 (by decide) rfl ?_
        refine z_sub [3, 4, 5, 6, 7, 8, 9, 10, 11, 2, 1, 0] (lv' := [(0, va_rf (some w0)), (1, va_rf (some w1)), (2, va_rf (some w2)), (3, .int w3), (4, .int w4), (5, .int w5), (6, .int w6), (7, .int w7), (8, .int w8), (9, .int r124), (10, .int r132), (11, .int (0 : Int32))]) rfl ?_
        refine z_wide (kc' := 138) (ks' := 4410) (by decide) (by decide) ?_
        exact k_L_badges_B542 l hfl v C Q T S196 S130 S131 t198 t134 w0 w1 w2 w3 w4 w5 w6 w7 w8 r124 r132 (0 : Int32) h
      · refine z_aload_n (C _) (pc := 510) dL_badges_510 2 rfl ?_
        refine z_bipush (C _) (pc := 511) (x := (13 : Int32)) dL_badges_511 kbp_13 ?_
        refine z_iload (C _) (pc := 513) dL_badges_513 9 rfl ?_
        refine z_iload (C _) (pc := 515) dL_badges_515 1 rfl ?_
        refine z_iload_n (C _) (pc := 517) dL_badges_517 5 rfl ?_
        refine z_iconst (C _) (pc := 518) (x := (4 : Int32)) dL_badges_518 kic_4 ?_
        refine z_ishr (C _) (pc := 519) dL_badges_519 ?_
        refine z_aload_n (C _) (pc := 520) dL_badges_520 4 rfl ?_
        refine z_iconst (C _) (pc := 521) (x := (2 : Int32)) dL_badges_521 kic_2 ?_
        obtain ⟨o199, h⟩ := h
        obtain ⟨v200, h⟩ := h
        refine z_iald (C _) (pc := 522) dL_badges_522 rfl o199 v200 ?_
        refine z_Si8 (C _) (pc := 523) (KX := fun _ _ => False) (kc' := 92) (ks' := 2940) (As := [.int (w3 >>> ((4 : Int32) &&& 31)), .int (g_R S131 w2 (2 : Int32).toNatClampNeg)]) (rest := [.int r124, .int w7, .int (13 : Int32), va_rf (some w0)]) (c_L_some l v S131 (w3 >>> ((4 : Int32) &&& 31)) (g_R S131 w2 (2 : Int32).toNatClampNeg)) mw_L_some bw_101 bw_102 (fit_of rfl) rfl rfl (Nat.le_of_ble_eq_true rfl) dL_badges_523 h (fun r202 S201 h => ?_) (fun En S9 h => h.elim)
        refine z_iconst (C _) (pc := 526) (x := (0 : Int32)) dL_badges_526 kic_0 ?_
        refine z_s1 t198 (fun t203 => ?_)
        refine z_SW (C _) (pc := 527) (kc' := 138) (ks' := 4410) (As := [va_rf (some w0), .int (13 : Int32), .int w7, .int r124, .int r202, .int (0 : Int32)]) (rest := []) (c_L_call l hfl v S196 w0 (13 : Int32) w7 r124 r202 (0 : Int32)) bw_369 bw_0 (by decide +kernel) (n := 6) (by decide +kernel) bw_367 bw_368 (fit_of rfl) rfl rfl (Nat.le_of_ble_eq_true rfl) dL_badges_527 h (fun r205 S204 h => ?_)
        refine z_s1' t203 (fun t206 => ?_)
        refine z_ldc (C _) (pc := 530) (x := (-2000000003 : Int32)) dL_badges_530 bw_778 ?_
        refine z_t_icmp_ne (C _) (pc := 532) dL_badges_532 dL_badges_535 kic_1 dL_badges_536 dL_badges_539 kic_0 ?_
        refine z_nI h (fun y207 h => ?_)
        refine z_istore (C _) (pc := 540) (lv' := [(11, .int y207), (10, .int r132), (9, .int r124), (0, va_rf (some w0)), (1, va_rf (some w1)), (2, va_rf (some w2)), (3, .int w3), (4, .int w4), (5, .int w5), (6, .int w6), (7, .int w7), (8, .int w8)]) dL_badges_540 (by decide) rfl ?_
        refine z_sub [3, 4, 5, 6, 7, 8, 9, 10, 11, 2, 1, 0] (lv' := [(0, va_rf (some w0)), (1, va_rf (some w1)), (2, va_rf (some w2)), (3, .int w3), (4, .int w4), (5, .int w5), (6, .int w6), (7, .int w7), (8, .int w8), (9, .int r124), (10, .int r132), (11, .int y207)]) rfl ?_
        exact k_L_badges_B542 l hfl v C Q T S204 S130 S201 t206 t134 w0 w1 w2 w3 w4 w5 w6 w7 w8 r124 r132 y207 h
  · refine z_aload_n (C _) (pc := 471) dL_badges_471 2 rfl ?_
    refine z_iload (C _) (pc := 472) dL_badges_472 9 rfl ?_
    refine z_iconst (C _) (pc := 474) (x := (4 : Int32)) dL_badges_474 kic_4 ?_
    obtain ⟨o208, h⟩ := h
    refine z_s1 t133 (fun t209 => ?_)
    refine z_Vi (C _) (pc := 475) (KX := fun _ _ => False) (kc' := 92) (ks' := 2940) (As := [.int w7, .int (4 : Int32)]) (rest := []) rfl (c_X8_ofChild_n l v S129 w0 w7 (4 : Int32)) mw_X8_ofChild bw_113 bw_114 bw_115 (fit_of rfl) rfl rfl (Nat.le_of_ble_eq_true rfl) (by decide) rfl o208 dL_badges_475 h (fun r211 S210 h => ?_) (fun En S9 h => h.elim)
    refine z_s1' t209 (fun t212 => ?_)
    refine z_iload (C _) (pc := 478) dL_badges_478 10 rfl ?_
    refine z_icmp_ne (C _) (pc := 480) (tgt := 487) dL_badges_480 (by decide) h (fun h => ?_) (fun h => ?_)
    · refine z_iconst (C _) (pc := 487) (x := (0 : Int32)) dL_badges_487 kic_0 ?_
      refine z_goto (C _) (pc := 488) (tgt := 540) dL_badges_488 (by decide) ?_
      refine z_istore (C _) (pc := 540) (lv' := [(11, .int (0 : Int32)), (10, .int r132), (9, .int r124), (0, va_rf (some w0)), (1, va_rf (some w1)), (2, va_rf (some w2)), (3, .int w3), (4, .int w4), (5, .int w5), (6, .int w6), (7, .int w7), (8, .int w8)]) dL_badges_540 (by decide) rfl ?_
      refine z_sub [3, 4, 5, 6, 7, 8, 9, 10, 11, 2, 1, 0] (lv' := [(0, va_rf (some w0)), (1, va_rf (some w1)), (2, va_rf (some w2)), (3, .int w3), (4, .int w4), (5, .int w5), (6, .int w6), (7, .int w7), (8, .int w8), (9, .int r124), (10, .int r132), (11, .int (0 : Int32))]) rfl ?_
      refine z_wide (kc' := 138) (ks' := 4410) (by decide) (by decide) ?_
      exact k_L_badges_B542 l hfl v C Q T S210 S130 S131 t212 t134 w0 w1 w2 w3 w4 w5 w6 w7 w8 r124 r132 (0 : Int32) h
    · refine z_iconst (C _) (pc := 483) (x := (1 : Int32)) dL_badges_483 kic_1 ?_
      refine z_goto (C _) (pc := 484) (tgt := 540) dL_badges_484 (by decide) ?_
      refine z_istore (C _) (pc := 540) (lv' := [(11, .int (1 : Int32)), (10, .int r132), (9, .int r124), (0, va_rf (some w0)), (1, va_rf (some w1)), (2, va_rf (some w2)), (3, .int w3), (4, .int w4), (5, .int w5), (6, .int w6), (7, .int w7), (8, .int w8)]) dL_badges_540 (by decide) rfl ?_
      refine z_sub [3, 4, 5, 6, 7, 8, 9, 10, 11, 2, 1, 0] (lv' := [(0, va_rf (some w0)), (1, va_rf (some w1)), (2, va_rf (some w2)), (3, .int w3), (4, .int w4), (5, .int w5), (6, .int w6), (7, .int w7), (8, .int w8), (9, .int r124), (10, .int r132), (11, .int (1 : Int32))]) rfl ?_
      refine z_wide (kc' := 138) (ks' := 4410) (by decide) (by decide) ?_
      exact k_L_badges_B542 l hfl v C Q T S210 S130 S131 t212 t134 w0 w1 w2 w3 w4 w5 w6 w7 w8 r124 r132 (1 : Int32) h
set_option maxHeartbeats 4000000 in
set_option maxRecDepth 100000 in
theorem k_L_badges_B293 (l : Launch) (hfl : l.stackTraces = false) (v : Ev) {x9 : P9} {A : Nat → Prop} {E : State → Prop} {X0 Y : va_W} (C : ∀ X, Cx l v RL cL_badges 14 (some .boolean) "badges" (x9, X, A, E)) (Q : Int32 → Hp → Hp → Hp → Prop) (T : E3 v rm_L_badges (Q3i v) Q X0 Y A E x9) (S1 S2 S : Hp) (t1 : g_T S1 = v.2.2.1) (t2 : g_T S2 = v.2.2.1) (w0 : Nat) (w1 : Nat) (w2 : Nat) (w3 : Int32) (w4 : Int32) (w5 : Int32) (w6 : Int32) (w7 : Int32) (w8 : Int32) (h : wp_L_badges_B293 Q S1 S2 S w0 w1 w2 w3 w4 w5 w6 w7 w8) : ZZ l v 14 rm_L_badges (x9, Y3 v.2.1 Y S1 S2, A, E) 0 0 S 293 [(0, va_rf (some w0)), (1, va_rf (some w1)), (2, va_rf (some w2)), (3, .int w3), (4, .int w4), (5, .int w5), (6, .int w6), (7, .int w7), (8, .int w8)] [] := by
  unfold wp_L_badges_B293 at h
  refine z_aload_n (C _) (pc := 293) dL_badges_293 0 rfl ?_
  refine z_aload_n (C _) (pc := 294) dL_badges_294 1 rfl ?_
  refine z_bipush (C _) (pc := 295) (x := (12 : Int32)) dL_badges_295 kbp_12 ?_
  refine z_iload (C _) (pc := 297) dL_badges_297 7 rfl ?_
  refine z_iload (C _) (pc := 299) dL_badges_299 6 rfl ?_
  refine z_iconst (C _) (pc := 301) (x := (0 : Int32)) dL_badges_301 kic_0 ?_
  refine z_iconst (C _) (pc := 302) (x := (0 : Int32)) dL_badges_302 kic_0 ?_
  refine z_S3i (C []) (pc := 303) (kc' := 92) (ks' := 2940) (As := [va_rf (some w0), va_rf (some w1), .int (12 : Int32), .int w7, .int w6, .int (0 : Int32), .int (0 : Int32)]) (rest := []) (c_L_both l hfl v S1 S2 S w0 w1 (12 : Int32) w7 w6 (0 : Int32) (0 : Int32)) mw_L_both bw_364 bw_365 (fit_of rfl) rfl rfl (Nat.le_of_ble_eq_true rfl) t1 t2 dL_badges_303 h (fun r216 S213 S214 S215 t217 t218 h => ?_)
  refine z_istore (C _) (pc := 306) (lv' := [(9, .int r216), (0, va_rf (some w0)), (1, va_rf (some w1)), (2, va_rf (some w2)), (3, .int w3), (4, .int w4), (5, .int w5), (6, .int w6), (7, .int w7), (8, .int w8)]) dL_badges_306 (by decide) rfl ?_
  refine z_aload_n (C _) (pc := 308) dL_badges_308 1 rfl ?_
  refine z_bipush (C _) (pc := 309) (x := (24 : Int32)) dL_badges_309 kbp_24 ?_
  refine z_iload (C _) (pc := 311) dL_badges_311 8 rfl ?_
  refine z_iload (C _) (pc := 313) dL_badges_313 7 rfl ?_
  refine z_iconst (C _) (pc := 315) (x := (0 : Int32)) dL_badges_315 kic_0 ?_
  refine z_iconst (C _) (pc := 316) (x := (0 : Int32)) dL_badges_316 kic_0 ?_
  refine z_s1 t217 (fun t219 => ?_)
  refine z_SW (C _) (pc := 317) (kc' := 138) (ks' := 4410) (As := [va_rf (some w0), .int (24 : Int32), .int w7, .int w6, .int (0 : Int32), .int (0 : Int32)]) (rest := []) (c_L_call l hfl v S213 w0 (24 : Int32) w7 w6 (0 : Int32) (0 : Int32)) bw_369 bw_0 (by decide +kernel) (n := 6) (by decide +kernel) bw_367 bw_368 (fit_of rfl) rfl rfl (Nat.le_of_ble_eq_true rfl) dL_badges_317 h (fun r221 S220 h => ?_)
  refine z_s1' t219 (fun t222 => ?_)
  refine z_istore (C _) (pc := 320) (lv' := [(10, .int r221), (9, .int r216), (0, va_rf (some w0)), (1, va_rf (some w1)), (2, va_rf (some w2)), (3, .int w3), (4, .int w4), (5, .int w5), (6, .int w6), (7, .int w7), (8, .int w8)]) dL_badges_320 (by decide) rfl ?_
  refine z_iload (C _) (pc := 322) dL_badges_322 1 rfl ?_
  refine z_ldc (C _) (pc := 324) (x := (-2000000003 : Int32)) dL_badges_324 bw_778 ?_
  refine z_icmp_ne (C _) (pc := 326) (tgt := 366) dL_badges_326 (by decide) h (fun h => ?_) (fun h => ?_)
  · refine z_iload (C _) (pc := 366) dL_badges_366 1 rfl ?_
    refine z_aload_n (C _) (pc := 368) dL_badges_368 4 rfl ?_
    refine z_iconst (C _) (pc := 369) (x := (4 : Int32)) dL_badges_369 kic_4 ?_
    refine z_iload (C _) (pc := 370) dL_badges_370 8 rfl ?_
    refine z_iadd (C _) (pc := 372) dL_badges_372 ?_
    obtain ⟨o223, h⟩ := h
    obtain ⟨v224, h⟩ := h
    refine z_iald (C _) (pc := 373) dL_badges_373 rfl o223 v224 ?_
    refine z_iconst (C _) (pc := 374) (x := (1 : Int32)) dL_badges_374 kic_1 ?_
    refine z_isub (C _) (pc := 375) dL_badges_375 ?_
    refine z_icmp_ne (C _) (pc := 376) (tgt := 427) dL_badges_376 (by decide) h (fun h => ?_) (fun h => ?_)
    · refine z_iconst (C _) (pc := 427) (x := (0 : Int32)) dL_badges_427 kic_0 ?_
      exact z_zret3 (C []) (pc := 428) T t222 t218 dL_badges_428 (by decide) (by decide) h
    · refine z_iload (C _) (pc := 379) dL_badges_379 0 rfl ?_
      refine z_if_lt (C _) (pc := 381) (tgt := 427) dL_badges_381 (by decide) h (fun h => ?_) (fun h => ?_)
      · refine z_iconst (C _) (pc := 427) (x := (0 : Int32)) dL_badges_427 kic_0 ?_
        exact z_zret3 (C []) (pc := 428) T t222 t218 dL_badges_428 (by decide) (by decide) h
      · refine z_aload_n (C _) (pc := 384) dL_badges_384 2 rfl ?_
        refine z_iload (C _) (pc := 385) dL_badges_385 9 rfl ?_
        refine z_iload (C _) (pc := 387) dL_badges_387 8 rfl ?_
        obtain ⟨o225, h⟩ := h
        refine z_s1 t222 (fun t226 => ?_)
        refine z_Vi (C _) (pc := 389) (KX := fun _ _ => False) (kc' := 138) (ks' := 4410) (As := [.int w7, .int w6]) (rest := []) rfl (c_X8_earned_n l v S220 w0 w7 w6) mw_X8_earned bw_240 bw_241 bw_242 (fit_of rfl) rfl rfl (Nat.le_of_ble_eq_true rfl) (by decide) rfl o225 dL_badges_389 h (fun r228 S227 h => ?_) (fun En S9 h => h.elim)
        refine z_s1' t226 (fun t229 => ?_)
        refine z_iconst (C _) (pc := 392) (x := (-1 : Int32)) dL_badges_392 kic_m1 ?_
        refine z_icmp_eq (C _) (pc := 393) (tgt := 411) dL_badges_393 (by decide) h (fun h => ?_) (fun h => ?_)
        · refine z_aload_n (C _) (pc := 411) dL_badges_411 2 rfl ?_
          refine z_iload (C _) (pc := 412) dL_badges_412 9 rfl ?_
          refine z_iconst (C _) (pc := 414) (x := (4 : Int32)) dL_badges_414 kic_4 ?_
          obtain ⟨o230, h⟩ := h
          refine z_s1 t229 (fun t231 => ?_)
          refine z_Vi (C _) (pc := 415) (KX := fun _ _ => False) (kc' := 138) (ks' := 4410) (As := [.int w7, .int (4 : Int32)]) (rest := []) rfl (c_X8_ofChild_n l v S227 w0 w7 (4 : Int32)) mw_X8_ofChild bw_113 bw_114 bw_115 (fit_of rfl) rfl rfl (Nat.le_of_ble_eq_true rfl) (by decide) rfl o230 dL_badges_415 h (fun r233 S232 h => ?_) (fun En S9 h => h.elim)
          refine z_s1' t231 (fun t234 => ?_)
          refine z_iload (C _) (pc := 418) dL_badges_418 10 rfl ?_
          refine z_t_icmp_lt (C _) (pc := 420) dL_badges_420 dL_badges_423 kic_1 dL_badges_424 dL_badges_427 kic_0 ?_
          exact z_zret3 (C []) (pc := 428) T t234 t218 dL_badges_428 (by decide) (by decide) h
        · refine z_aload_n (C _) (pc := 396) dL_badges_396 2 rfl ?_
          refine z_iload (C _) (pc := 397) dL_badges_397 9 rfl ?_
          refine z_iload (C _) (pc := 399) dL_badges_399 8 rfl ?_
          obtain ⟨o235, h⟩ := h
          refine z_s1 t229 (fun t236 => ?_)
          refine z_Vi (C _) (pc := 401) (KX := fun _ _ => False) (kc' := 138) (ks' := 4410) (As := [.int w7, .int w6]) (rest := []) rfl (c_X8_earned_n l v S227 w0 w7 w6) mw_X8_earned bw_240 bw_241 bw_242 (fit_of rfl) rfl rfl (Nat.le_of_ble_eq_true rfl) (by decide) rfl o235 dL_badges_401 h (fun r238 S237 h => ?_) (fun En S9 h => h.elim)
          refine z_s1' t236 (fun t239 => ?_)
          refine z_aload_n (C _) (pc := 404) dL_badges_404 2 rfl ?_
          obtain ⟨o240, h⟩ := h
          refine z_s1 t239 (fun t241 => ?_)
          refine z_Vi (C _) (pc := 405) (KX := fun _ _ => False) (kc' := 138) (ks' := 4410) (As := []) (rest := [.int r238]) rfl (c_X8_today l v S237 w0) mw_X8_today bw_108 bw_109 bw_110 (fit_of rfl) rfl rfl (Nat.le_of_ble_eq_true rfl) (by decide) rfl o240 dL_badges_405 h (fun r243 S242 h => ?_) (fun En S9 h => h.elim)
          refine z_s1' t241 (fun t244 => ?_)
          refine z_icmp_ne (C _) (pc := 408) (tgt := 427) dL_badges_408 (by decide) h (fun h => ?_) (fun h => ?_)
          · refine z_iconst (C _) (pc := 427) (x := (0 : Int32)) dL_badges_427 kic_0 ?_
            exact z_zret3 (C []) (pc := 428) T t244 t218 dL_badges_428 (by decide) (by decide) h
          · refine z_aload_n (C _) (pc := 411) dL_badges_411 2 rfl ?_
            refine z_iload (C _) (pc := 412) dL_badges_412 9 rfl ?_
            refine z_iconst (C _) (pc := 414) (x := (4 : Int32)) dL_badges_414 kic_4 ?_
            obtain ⟨o245, h⟩ := h
            refine z_s1 t244 (fun t246 => ?_)
            refine z_Vi (C _) (pc := 415) (KX := fun _ _ => False) (kc' := 138) (ks' := 4410) (As := [.int w7, .int (4 : Int32)]) (rest := []) rfl (c_X8_ofChild_n l v S242 w0 w7 (4 : Int32)) mw_X8_ofChild bw_113 bw_114 bw_115 (fit_of rfl) rfl rfl (Nat.le_of_ble_eq_true rfl) (by decide) rfl o245 dL_badges_415 h (fun r248 S247 h => ?_) (fun En S9 h => h.elim)
            refine z_s1' t246 (fun t249 => ?_)
            refine z_iload (C _) (pc := 418) dL_badges_418 10 rfl ?_
            refine z_t_icmp_lt (C _) (pc := 420) dL_badges_420 dL_badges_423 kic_1 dL_badges_424 dL_badges_427 kic_0 ?_
            exact z_zret3 (C []) (pc := 428) T t249 t218 dL_badges_428 (by decide) (by decide) h
  · refine z_aload_n (C _) (pc := 329) dL_badges_329 4 rfl ?_
    refine z_iconst (C _) (pc := 330) (x := (4 : Int32)) dL_badges_330 kic_4 ?_
    refine z_iload (C _) (pc := 331) dL_badges_331 8 rfl ?_
    refine z_iadd (C _) (pc := 333) dL_badges_333 ?_
    obtain ⟨o250, h⟩ := h
    obtain ⟨v251, h⟩ := h
    refine z_iald (C _) (pc := 334) dL_badges_334 rfl o250 v251 ?_
    refine z_t_if_ne (C _) (pc := 335) dL_badges_335 dL_badges_338 kic_1 dL_badges_339 dL_badges_342 kic_0 ?_
    refine z_iload (C _) (pc := 343) dL_badges_343 0 rfl ?_
    refine z_ldc (C _) (pc := 345) (x := (-2000000003 : Int32)) dL_badges_345 bw_778 ?_
    refine z_t_icmp_ne (C _) (pc := 347) dL_badges_347 dL_badges_350 kic_1 dL_badges_351 dL_badges_354 kic_0 ?_
    refine z_icmp_ne (C _) (pc := 355) (tgt := 362) dL_badges_355 (by decide) h (fun h => ?_) (fun h => ?_)
    · refine z_iconst (C _) (pc := 362) (x := (0 : Int32)) dL_badges_362 kic_0 ?_
      refine z_goto (C _) (pc := 363) (tgt := 428) dL_badges_363 (by decide) ?_
      exact z_zret3 (C []) (pc := 428) T t222 t218 dL_badges_428 (by decide) (by decide) h
    · refine z_iconst (C _) (pc := 358) (x := (1 : Int32)) dL_badges_358 kic_1 ?_
      refine z_goto (C _) (pc := 359) (tgt := 428) dL_badges_359 (by decide) ?_
      exact z_zret3 (C []) (pc := 428) T t222 t218 dL_badges_428 (by decide) (by decide) h
set_option maxHeartbeats 4000000 in
set_option maxRecDepth 100000 in
theorem k_L_badges_B265 (l : Launch) (hfl : l.stackTraces = false) (v : Ev) {x9 : P9} {A : Nat → Prop} {E : State → Prop} {X0 Y : va_W} (C : ∀ X, Cx l v RL cL_badges 14 (some .boolean) "badges" (x9, X, A, E)) (Q : Int32 → Hp → Hp → Hp → Prop) (T : E3 v rm_L_badges (Q3i v) Q X0 Y A E x9) (S1 S2 S : Hp) (t1 : g_T S1 = v.2.2.1) (t2 : g_T S2 = v.2.2.1) (w0 : Nat) (w1 : Nat) (w2 : Nat) (w3 : Int32) (w4 : Int32) (w5 : Int32) (w6 : Int32) (h : wp_L_badges_B265 Q S1 S2 S w0 w1 w2 w3 w4 w5 w6) : ZZ l v 14 rm_L_badges (x9, Y3 v.2.1 Y S1 S2, A, E) 0 0 S 265 [(0, va_rf (some w0)), (1, va_rf (some w1)), (2, va_rf (some w2)), (3, .int w3), (4, .int w4), (5, .int w5), (6, .int w6)] [] := by
  unfold wp_L_badges_B265 at h
  refine z_iload (C _) (pc := 265) dL_badges_265 4 rfl ?_
  refine z_iconst (C _) (pc := 267) (x := (3 : Int32)) dL_badges_267 kic_3 ?_
  refine z_ishr (C _) (pc := 268) dL_badges_268 ?_
  refine z_aload_n (C _) (pc := 269) dL_badges_269 2 rfl ?_
  refine z_iconst (C _) (pc := 270) (x := (0 : Int32)) dL_badges_270 kic_0 ?_
  obtain ⟨o114, h⟩ := h
  obtain ⟨v115, h⟩ := h
  refine z_iald (C _) (pc := 271) dL_badges_271 rfl o114 v115 ?_
  refine z_Si8 (C _) (pc := 272) (KX := fun _ _ => False) (kc' := 0) (ks' := 0) (As := [.int (w4 >>> ((3 : Int32) &&& 31)), .int (g_R S w2 (0 : Int32).toNatClampNeg)]) (rest := []) (c_L_some l v S (w4 >>> ((3 : Int32) &&& 31)) (g_R S w2 (0 : Int32).toNatClampNeg)) mw_L_some bw_101 bw_102 (fit_of rfl) rfl rfl (Nat.le_of_ble_eq_true rfl) dL_badges_272 h (fun r117 S116 h => ?_) (fun En S9 h => h.elim)
  refine z_istore (C _) (pc := 275) (lv' := [(7, .int r117), (0, va_rf (some w0)), (1, va_rf (some w1)), (2, va_rf (some w2)), (3, .int w3), (4, .int w4), (5, .int w5), (6, .int w6)]) dL_badges_275 (by decide) rfl ?_
  refine z_aload_n (C _) (pc := 277) dL_badges_277 1 rfl ?_
  refine z_iload (C _) (pc := 278) dL_badges_278 0 rfl ?_
  refine z_iconst (C _) (pc := 280) (x := (4 : Int32)) dL_badges_280 kic_4 ?_
  obtain ⟨o118, h⟩ := h
  refine z_s1 t1 (fun t119 => ?_)
  refine z_Vi (C _) (pc := 281) (KX := fun _ _ => False) (kc' := 0) (ks' := 0) (As := [.int r117, .int (4 : Int32)]) (rest := []) rfl (c_X8_ofChild_n l v S1 w0 r117 (4 : Int32)) mw_X8_ofChild bw_113 bw_114 bw_115 (fit_of rfl) rfl rfl (Nat.le_of_ble_eq_true rfl) (by decide) rfl o118 dL_badges_281 h (fun r121 S120 h => ?_) (fun En S9 h => h.elim)
  refine z_s1' t119 (fun t122 => ?_)
  refine z_istore (C _) (pc := 284) (lv' := [(8, .int r121), (7, .int r117), (0, va_rf (some w0)), (1, va_rf (some w1)), (2, va_rf (some w2)), (3, .int w3), (4, .int w4), (5, .int w5), (6, .int w6)]) dL_badges_284 (by decide) rfl ?_
  refine z_iload (C _) (pc := 286) dL_badges_286 7 rfl ?_
  refine z_bipush (C _) (pc := 288) (x := (6 : Int32)) dL_badges_288 kbp_6 ?_
  refine z_icmp_ge (C _) (pc := 290) (tgt := 429) dL_badges_290 (by decide) h (fun h => ?_) (fun h => ?_)
  · refine z_sub [2, 3, 4, 5, 6, 7, 8, 1, 0] (lv' := [(0, va_rf (some w0)), (1, va_rf (some w1)), (2, va_rf (some w2)), (3, .int w3), (4, .int w4), (5, .int w5), (6, .int w6), (7, .int r117), (8, .int r121)]) rfl ?_
    exact k_L_badges_B429 l hfl v C Q T S120 S2 S116 t122 t2 w0 w1 w2 w3 w4 w5 w6 r117 r121 h
  · refine z_sub [2, 3, 4, 5, 6, 7, 8, 1, 0] (lv' := [(0, va_rf (some w0)), (1, va_rf (some w1)), (2, va_rf (some w2)), (3, .int w3), (4, .int w4), (5, .int w5), (6, .int w6), (7, .int r117), (8, .int r121)]) rfl ?_
    exact k_L_badges_B293 l hfl v C Q T S120 S2 S116 t122 t2 w0 w1 w2 w3 w4 w5 w6 r117 r121 h
set_option maxHeartbeats 4000000 in
set_option maxRecDepth 100000 in
theorem k_L_badges_B228 (l : Launch) (hfl : l.stackTraces = false) (v : Ev) {x9 : P9} {A : Nat → Prop} {E : State → Prop} {X0 Y : va_W} (C : ∀ X, Cx l v RL cL_badges 14 (some .boolean) "badges" (x9, X, A, E)) (Q : Int32 → Hp → Hp → Hp → Prop) (T : E3 v rm_L_badges (Q3i v) Q X0 Y A E x9) (S1 S2 S : Hp) (t1 : g_T S1 = v.2.2.1) (t2 : g_T S2 = v.2.2.1) (w0 : Nat) (w1 : Nat) (w2 : Nat) (w3 : Int32) (w4 : Int32) (w5 : Int32) (w6 : Int32) (h : wp_L_badges_B228 Q S1 S2 S w0 w1 w2 w3 w4 w5 w6) : ZZ l v 14 rm_L_badges (x9, Y3 v.2.1 Y S1 S2, A, E) 0 0 S 228 [(0, va_rf (some w0)), (1, va_rf (some w1)), (2, va_rf (some w2)), (3, .int w3), (4, .int w4), (5, .int w5), (6, .int w6)] [] := by
  unfold wp_L_badges_B228 at h
  refine z_aload_n (C _) (pc := 228) dL_badges_228 2 rfl ?_
  refine z_iconst (C _) (pc := 229) (x := (0 : Int32)) dL_badges_229 kic_0 ?_
  obtain ⟨o105, h⟩ := h
  obtain ⟨v106, h⟩ := h
  refine z_iald (C _) (pc := 230) dL_badges_230 rfl o105 v106 ?_
  refine z_if_eq (C _) (pc := 231) (tgt := 240) dL_badges_231 (by decide) h (fun h => ?_) (fun h => ?_)
  · refine z_aload_n (C _) (pc := 240) dL_badges_240 0 rfl ?_
    refine z_bipush (C _) (pc := 241) (x := (13 : Int32)) dL_badges_241 kbp_13 ?_
    refine z_aload_n (C _) (pc := 243) dL_badges_243 2 rfl ?_
    refine z_iconst (C _) (pc := 244) (x := (0 : Int32)) dL_badges_244 kic_0 ?_
    obtain ⟨v107, h⟩ := h
    refine z_iald (C _) (pc := 245) dL_badges_245 rfl o105 v107 ?_
    refine z_iconst (C _) (pc := 246) (x := (0 : Int32)) dL_badges_246 kic_0 ?_
    refine z_aload_n (C _) (pc := 247) dL_badges_247 2 rfl ?_
    refine z_iconst (C _) (pc := 248) (x := (2 : Int32)) dL_badges_248 kic_2 ?_
    obtain ⟨v108, h⟩ := h
    refine z_iald (C _) (pc := 249) dL_badges_249 rfl o105 v108 ?_
    refine z_iconst (C _) (pc := 250) (x := (0 : Int32)) dL_badges_250 kic_0 ?_
    refine z_s1 t1 (fun t109 => ?_)
    refine z_SW (C _) (pc := 251) (kc' := 46) (ks' := 1470) (As := [va_rf (some w0), .int (13 : Int32), .int (g_R S w2 (0 : Int32).toNatClampNeg), .int (0 : Int32), .int (g_R S w2 (2 : Int32).toNatClampNeg), .int (0 : Int32)]) (rest := []) (c_L_call l hfl v S1 w0 (13 : Int32) (g_R S w2 (0 : Int32).toNatClampNeg) (0 : Int32) (g_R S w2 (2 : Int32).toNatClampNeg) (0 : Int32)) bw_369 bw_0 (by decide +kernel) (n := 6) (by decide +kernel) bw_367 bw_368 (fit_of rfl) rfl rfl (Nat.le_of_ble_eq_true rfl) dL_badges_251 h (fun r111 S110 h => ?_)
    refine z_s1' t109 (fun t112 => ?_)
    refine z_ldc (C _) (pc := 254) (x := (-2000000001 : Int32)) dL_badges_254 bw_776 ?_
    refine z_t_icmp_ne (C _) (pc := 256) dL_badges_256 dL_badges_259 kic_1 dL_badges_260 dL_badges_263 kic_0 ?_
    exact z_zret3 (C []) (pc := 264) T t112 t2 dL_badges_264 (by decide) (by decide) h
  · refine z_aload_n (C _) (pc := 234) dL_badges_234 2 rfl ?_
    refine z_iconst (C _) (pc := 235) (x := (2 : Int32)) dL_badges_235 kic_2 ?_
    obtain ⟨v113, h⟩ := h
    refine z_iald (C _) (pc := 236) dL_badges_236 rfl o105 v113 ?_
    refine z_if_ne (C _) (pc := 237) (tgt := 265) dL_badges_237 (by decide) h (fun h => ?_) (fun h => ?_)
    · refine z_sub [0, 1, 2, 3, 4, 5, 6] (lv' := [(0, va_rf (some w0)), (1, va_rf (some w1)), (2, va_rf (some w2)), (3, .int w3), (4, .int w4), (5, .int w5), (6, .int w6)]) rfl ?_
      exact k_L_badges_B265 l hfl v C Q T S1 S2 S t1 t2 w0 w1 w2 w3 w4 w5 w6 h
    · refine z_aload_n (C _) (pc := 240) dL_badges_240 0 rfl ?_
      refine z_bipush (C _) (pc := 241) (x := (13 : Int32)) dL_badges_241 kbp_13 ?_
      refine z_aload_n (C _) (pc := 243) dL_badges_243 2 rfl ?_
      refine z_iconst (C _) (pc := 244) (x := (0 : Int32)) dL_badges_244 kic_0 ?_
      obtain ⟨v252, h⟩ := h
      refine z_iald (C _) (pc := 245) dL_badges_245 rfl o105 v252 ?_
      refine z_iconst (C _) (pc := 246) (x := (0 : Int32)) dL_badges_246 kic_0 ?_
      refine z_aload_n (C _) (pc := 247) dL_badges_247 2 rfl ?_
      refine z_iconst (C _) (pc := 248) (x := (2 : Int32)) dL_badges_248 kic_2 ?_
      obtain ⟨v253, h⟩ := h
      refine z_iald (C _) (pc := 249) dL_badges_249 rfl o105 v253 ?_
      refine z_iconst (C _) (pc := 250) (x := (0 : Int32)) dL_badges_250 kic_0 ?_
      refine z_s1 t1 (fun t254 => ?_)
      refine z_SW (C _) (pc := 251) (kc' := 46) (ks' := 1470) (As := [va_rf (some w0), .int (13 : Int32), .int (g_R S w2 (0 : Int32).toNatClampNeg), .int (0 : Int32), .int (g_R S w2 (2 : Int32).toNatClampNeg), .int (0 : Int32)]) (rest := []) (c_L_call l hfl v S1 w0 (13 : Int32) (g_R S w2 (0 : Int32).toNatClampNeg) (0 : Int32) (g_R S w2 (2 : Int32).toNatClampNeg) (0 : Int32)) bw_369 bw_0 (by decide +kernel) (n := 6) (by decide +kernel) bw_367 bw_368 (fit_of rfl) rfl rfl (Nat.le_of_ble_eq_true rfl) dL_badges_251 h (fun r256 S255 h => ?_)
      refine z_s1' t254 (fun t257 => ?_)
      refine z_ldc (C _) (pc := 254) (x := (-2000000001 : Int32)) dL_badges_254 bw_776 ?_
      refine z_t_icmp_ne (C _) (pc := 256) dL_badges_256 dL_badges_259 kic_1 dL_badges_260 dL_badges_263 kic_0 ?_
      exact z_zret3 (C []) (pc := 264) T t257 t2 dL_badges_264 (by decide) (by decide) h
set_option maxHeartbeats 4000000 in
set_option maxRecDepth 100000 in
theorem k_L_badges_B165 (l : Launch) (hfl : l.stackTraces = false) (v : Ev) {x9 : P9} {A : Nat → Prop} {E : State → Prop} {X0 Y : va_W} (C : ∀ X, Cx l v RL cL_badges 14 (some .boolean) "badges" (x9, X, A, E)) (Q : Int32 → Hp → Hp → Hp → Prop) (T : E3 v rm_L_badges (Q3i v) Q X0 Y A E x9) (S1 S2 S : Hp) (t1 : g_T S1 = v.2.2.1) (t2 : g_T S2 = v.2.2.1) (w0 : Nat) (w1 : Nat) (w2 : Nat) (w3 : Int32) (w4 : Int32) (w5 : Int32) (w6 : Int32) (w7 : Int32) (w8 : Int32) (w9 : Int32) (w10 : Int32) (w11 : Int32) (w12 : Int32) (h : wp_L_badges_B165 Q S1 S2 S w0 w1 w2 w3 w4 w5 w6 w7 w8 w9 w10 w11 w12) : ZZ l v 14 rm_L_badges (x9, Y3 v.2.1 Y S1 S2, A, E) 20 236 S 165 [(0, va_rf (some w0)), (1, va_rf (some w1)), (2, va_rf (some w2)), (3, .int w3), (4, .int w4), (5, .int w5), (6, .int w6), (7, .int w7), (8, .int w8), (9, .int w9), (10, .int w10), (11, .int w11), (12, .int w12)] [] := by
  unfold wp_L_badges_B165 at h
  refine z_aload_n (C _) (pc := 165) dL_badges_165 2 rfl ?_
  refine z_iconst (C _) (pc := 166) (x := (4 : Int32)) dL_badges_166 kic_4 ?_
  refine z_iload (C _) (pc := 167) dL_badges_167 6 rfl ?_
  refine z_iadd (C _) (pc := 169) dL_badges_169 ?_
  refine z_dup2 (C _) (pc := 170) dL_badges_170 rfl (cat_rf _) ?_
  obtain ⟨o284, h⟩ := h
  obtain ⟨v285, h⟩ := h
  refine z_iald (C _) (pc := 171) dL_badges_171 rfl o284 v285 ?_
  refine z_iload (C _) (pc := 172) dL_badges_172 11 rfl ?_
  refine z_t_if_lt (C _) (pc := 174) dL_badges_174 dL_badges_177 kic_1 dL_badges_178 dL_badges_181 kic_0 ?_
  refine z_iadd (C _) (pc := 182) dL_badges_182 ?_
  obtain ⟨v286, h⟩ := h
  refine z_iast (C _) (pc := 183) dL_badges_183 rfl o284 v286 ?_
  refine z_lt h (fun S287 h => ?_)
  refine z_iload (C _) (pc := 184) dL_badges_184 12 rfl ?_
  refine z_if_eq (C _) (pc := 186) (tgt := 226) dL_badges_186 (by decide) h (fun h => ?_) (fun h => ?_)
  · refine z_iconst (C _) (pc := 226) (x := (0 : Int32)) dL_badges_226 kic_0 ?_
    exact z_zret3 (C []) (pc := 227) T t1 t2 dL_badges_227 (by decide) (by decide) h
  · refine z_iload (C _) (pc := 189) dL_badges_189 11 rfl ?_
    refine z_ldc (C _) (pc := 191) (x := (-2000000003 : Int32)) dL_badges_191 bw_778 ?_
    refine z_icmp_ne (C _) (pc := 193) (tgt := 209) dL_badges_193 (by decide) h (fun h => ?_) (fun h => ?_)
    · refine z_iload (C _) (pc := 209) dL_badges_209 11 rfl ?_
      refine z_aload_n (C _) (pc := 211) dL_badges_211 2 rfl ?_
      refine z_iconst (C _) (pc := 212) (x := (4 : Int32)) dL_badges_212 kic_4 ?_
      refine z_iload (C _) (pc := 213) dL_badges_213 6 rfl ?_
      refine z_iadd (C _) (pc := 215) dL_badges_215 ?_
      obtain ⟨o288, h⟩ := h
      obtain ⟨v289, h⟩ := h
      refine z_iald (C _) (pc := 216) dL_badges_216 rfl o288 v289 ?_
      refine z_iconst (C _) (pc := 217) (x := (1 : Int32)) dL_badges_217 kic_1 ?_
      refine z_isub (C _) (pc := 218) dL_badges_218 ?_
      refine z_t_icmp_ne (C _) (pc := 219) dL_badges_219 dL_badges_222 kic_1 dL_badges_223 dL_badges_226 kic_0 ?_
      exact z_zret3 (C []) (pc := 227) T t1 t2 dL_badges_227 (by decide) (by decide) h
    · refine z_aload_n (C _) (pc := 196) dL_badges_196 2 rfl ?_
      refine z_iconst (C _) (pc := 197) (x := (4 : Int32)) dL_badges_197 kic_4 ?_
      refine z_iload (C _) (pc := 198) dL_badges_198 6 rfl ?_
      refine z_iadd (C _) (pc := 200) dL_badges_200 ?_
      obtain ⟨o290, h⟩ := h
      obtain ⟨v291, h⟩ := h
      refine z_iald (C _) (pc := 201) dL_badges_201 rfl o290 v291 ?_
      refine z_iconst (C _) (pc := 202) (x := (3 : Int32)) dL_badges_202 kic_3 ?_
      refine z_icmp_ne (C _) (pc := 203) (tgt := 226) dL_badges_203 (by decide) h (fun h => ?_) (fun h => ?_)
      · refine z_iconst (C _) (pc := 226) (x := (0 : Int32)) dL_badges_226 kic_0 ?_
        exact z_zret3 (C []) (pc := 227) T t1 t2 dL_badges_227 (by decide) (by decide) h
      · refine z_goto (C _) (pc := 206) (tgt := 222) dL_badges_206 (by decide) ?_
        refine z_iconst (C _) (pc := 222) (x := (1 : Int32)) dL_badges_222 kic_1 ?_
        refine z_goto (C _) (pc := 223) (tgt := 227) dL_badges_223 (by decide) ?_
        exact z_zret3 (C []) (pc := 227) T t1 t2 dL_badges_227 (by decide) (by decide) h
set_option maxHeartbeats 4000000 in
set_option maxRecDepth 100000 in
theorem k_L_badges_B87 (l : Launch) (hfl : l.stackTraces = false) (v : Ev) {x9 : P9} {A : Nat → Prop} {E : State → Prop} {X0 Y : va_W} (C : ∀ X, Cx l v RL cL_badges 14 (some .boolean) "badges" (x9, X, A, E)) (Q : Int32 → Hp → Hp → Hp → Prop) (T : E3 v rm_L_badges (Q3i v) Q X0 Y A E x9) (S1 S2 S : Hp) (t1 : g_T S1 = v.2.2.1) (t2 : g_T S2 = v.2.2.1) (w0 : Nat) (w1 : Nat) (w2 : Nat) (w3 : Int32) (w4 : Int32) (w5 : Int32) (w6 : Int32) (w7 : Int32) (w8 : Int32) (w9 : Int32) (w10 : Int32) (h : wp_L_badges_B87 Q S1 S2 S w0 w1 w2 w3 w4 w5 w6 w7 w8 w9 w10) : ZZ l v 14 rm_L_badges (x9, Y3 v.2.1 Y S1 S2, A, E) 0 0 S 87 [(0, va_rf (some w0)), (1, va_rf (some w1)), (2, va_rf (some w2)), (3, .int w3), (4, .int w4), (5, .int w5), (6, .int w6), (7, .int w7), (8, .int w8), (9, .int w9), (10, .int w10)] [] := by
  unfold wp_L_badges_B87 at h
  refine z_aload_n (C _) (pc := 87) dL_badges_87 0 rfl ?_
  refine z_iload (C _) (pc := 88) dL_badges_88 6 rfl ?_
  refine z_iload (C _) (pc := 90) dL_badges_90 7 rfl ?_
  refine z_iload (C _) (pc := 92) dL_badges_92 8 rfl ?_
  refine z_iload (C _) (pc := 94) dL_badges_94 9 rfl ?_
  refine z_iload (C _) (pc := 96) dL_badges_96 10 rfl ?_
  refine z_iload_n (C _) (pc := 98) dL_badges_98 3 rfl ?_
  refine z_bipush (C _) (pc := 99) (x := (7 : Int32)) dL_badges_99 kbp_7 ?_
  refine z_ishr (C _) (pc := 101) dL_badges_101 ?_
  refine z_bipush (C _) (pc := 102) (x := (30 : Int32)) dL_badges_102 kbp_30 ?_
  refine z_Si8 (C _) (pc := 104) (KX := fun _ _ => False) (kc' := 0) (ks' := 0) (As := [.int (w3 >>> ((7 : Int32) &&& 31)), .int (30 : Int32)]) (rest := [.int w10, .int w9, .int w8, .int w7, .int w6, va_rf (some w0)]) (c_L_some l v S (w3 >>> ((7 : Int32) &&& 31)) (30 : Int32)) mw_L_some bw_101 bw_102 (fit_of rfl) rfl rfl (Nat.le_of_ble_eq_true rfl) dL_badges_104 h (fun r268 S267 h => ?_) (fun En S9 h => h.elim)
  refine z_iload_n (C _) (pc := 107) dL_badges_107 3 rfl ?_
  refine z_bipush (C _) (pc := 108) (x := (9 : Int32)) dL_badges_108 kbp_9 ?_
  refine z_ishr (C _) (pc := 110) dL_badges_110 ?_
  refine z_bipush (C _) (pc := 111) (x := (40 : Int32)) dL_badges_111 kbp_40 ?_
  refine z_Si8 (C _) (pc := 113) (KX := fun _ _ => False) (kc' := 0) (ks' := 0) (As := [.int (w3 >>> ((9 : Int32) &&& 31)), .int (40 : Int32)]) (rest := [.int r268, .int w10, .int w9, .int w8, .int w7, .int w6, va_rf (some w0)]) (c_L_some l v S267 (w3 >>> ((9 : Int32) &&& 31)) (40 : Int32)) mw_L_some bw_101 bw_102 (fit_of rfl) rfl rfl (Nat.le_of_ble_eq_true rfl) dL_badges_113 h (fun r270 S269 h => ?_) (fun En S9 h => h.elim)
  refine z_s1 t1 (fun t271 => ?_)
  refine z_SW (C _) (pc := 116) (kc' := 10) (ks' := 118) (As := [va_rf (some w0), .int w6, .int w7, .int w8, .int w9, .int w10, .int r268, .int r270]) (rest := []) (c_L_edition l hfl v S1 w0 w6 w7 w8 w9 w10 r268 r270) bw_788 bw_0 (by decide +kernel) (n := 8) (by decide +kernel) bw_786 bw_787 (fit_of rfl) rfl rfl (Nat.le_of_ble_eq_true rfl) dL_badges_116 h (fun r273 S272 h => ?_)
  refine z_s1' t271 (fun t274 => ?_)
  refine z_istore (C _) (pc := 119) (lv' := [(11, .int r273), (0, va_rf (some w0)), (1, va_rf (some w1)), (2, va_rf (some w2)), (3, .int w3), (4, .int w4), (5, .int w5), (6, .int w6), (7, .int w7), (8, .int w8), (9, .int w9), (10, .int w10)]) dL_badges_119 (by decide) rfl ?_
  refine z_iload (C _) (pc := 121) dL_badges_121 0 rfl ?_
  refine z_aload_n (C _) (pc := 123) dL_badges_123 2 rfl ?_
  refine z_iload (C _) (pc := 124) dL_badges_124 7 rfl ?_
  refine z_iload (C _) (pc := 126) dL_badges_126 8 rfl ?_
  refine z_iload (C _) (pc := 128) dL_badges_128 9 rfl ?_
  refine z_iload (C _) (pc := 130) dL_badges_130 10 rfl ?_
  refine z_iload (C _) (pc := 132) dL_badges_132 11 rfl ?_
  refine z_iload_n (C _) (pc := 134) dL_badges_134 4 rfl ?_
  refine z_bipush (C _) (pc := 135) (x := (7 : Int32)) dL_badges_135 kbp_7 ?_
  refine z_ishr (C _) (pc := 137) dL_badges_137 ?_
  refine z_bipush (C _) (pc := 138) (x := (30 : Int32)) dL_badges_138 kbp_30 ?_
  refine z_Si8 (C _) (pc := 140) (KX := fun _ _ => False) (kc' := 10) (ks' := 118) (As := [.int (w3 >>> ((7 : Int32) &&& 31)), .int (30 : Int32)]) (rest := [.int w10, .int w9, .int w8, .int w7, .int w6, va_rf (some w1), .int r273]) (c_L_some l v S269 (w3 >>> ((7 : Int32) &&& 31)) (30 : Int32)) mw_L_some bw_101 bw_102 (fit_of rfl) rfl rfl (Nat.le_of_ble_eq_true rfl) dL_badges_140 h (fun r276 S275 h => ?_) (fun En S9 h => h.elim)
  refine z_iload_n (C _) (pc := 143) dL_badges_143 4 rfl ?_
  refine z_bipush (C _) (pc := 144) (x := (9 : Int32)) dL_badges_144 kbp_9 ?_
  refine z_ishr (C _) (pc := 146) dL_badges_146 ?_
  refine z_bipush (C _) (pc := 147) (x := (40 : Int32)) dL_badges_147 kbp_40 ?_
  refine z_Si8 (C _) (pc := 149) (KX := fun _ _ => False) (kc' := 10) (ks' := 118) (As := [.int (w3 >>> ((9 : Int32) &&& 31)), .int (40 : Int32)]) (rest := [.int r276, .int w10, .int w9, .int w8, .int w7, .int w6, va_rf (some w1), .int r273]) (c_L_some l v S275 (w3 >>> ((9 : Int32) &&& 31)) (40 : Int32)) mw_L_some bw_101 bw_102 (fit_of rfl) rfl rfl (Nat.le_of_ble_eq_true rfl) dL_badges_149 h (fun r278 S277 h => ?_) (fun En S9 h => h.elim)
  refine z_s2 t2 (fun t279 => ?_)
  refine z_SW (C _) (pc := 152) (kc' := 20) (ks' := 236) (As := [va_rf (some w1), .int w6, .int w7, .int w8, .int w9, .int w10, .int r276, .int r278]) (rest := [.int r273]) (c_L_edition l hfl v S2 w1 w6 w7 w8 w9 w10 r276 r278) bw_788 bw_0 (by decide +kernel) (n := 8) (by decide +kernel) bw_786 bw_787 (fit_of rfl) rfl rfl (Nat.le_of_ble_eq_true rfl) dL_badges_152 h (fun r281 S280 h => ?_)
  refine z_s2' t279 (fun t282 => ?_)
  refine z_t_icmp_ne (C _) (pc := 155) dL_badges_155 dL_badges_158 kic_1 dL_badges_159 dL_badges_162 kic_0 ?_
  refine z_nI h (fun y283 h => ?_)
  refine z_istore (C _) (pc := 163) (lv' := [(12, .int y283), (11, .int r273), (0, va_rf (some w0)), (1, va_rf (some w1)), (2, va_rf (some w2)), (3, .int w3), (4, .int w4), (5, .int w5), (6, .int w6), (7, .int w7), (8, .int w8), (9, .int w9), (10, .int w10)]) dL_badges_163 (by decide) rfl ?_
  refine z_sub [2, 3, 4, 5, 6, 7, 8, 9, 10, 11, 12, 1, 0] (lv' := [(0, va_rf (some w0)), (1, va_rf (some w1)), (2, va_rf (some w2)), (3, .int w3), (4, .int w4), (5, .int w5), (6, .int w6), (7, .int w7), (8, .int w8), (9, .int w9), (10, .int w10), (11, .int r273), (12, .int y283)]) rfl ?_
  exact k_L_badges_B165 l hfl v C Q T S272 S280 S277 t274 t282 w0 w1 w2 w3 w4 w5 w6 w7 w8 w9 w10 r273 y283 h
set_option maxHeartbeats 4000000 in
set_option maxRecDepth 100000 in
theorem k_L_badges_B23 (l : Launch) (hfl : l.stackTraces = false) (v : Ev) {x9 : P9} {A : Nat → Prop} {E : State → Prop} {X0 Y : va_W} (C : ∀ X, Cx l v RL cL_badges 14 (some .boolean) "badges" (x9, X, A, E)) (Q : Int32 → Hp → Hp → Hp → Prop) (T : E3 v rm_L_badges (Q3i v) Q X0 Y A E x9) (S1 S2 S : Hp) (t1 : g_T S1 = v.2.2.1) (t2 : g_T S2 = v.2.2.1) (w0 : Nat) (w1 : Nat) (w2 : Nat) (w3 : Int32) (w4 : Int32) (w5 : Int32) (w6 : Int32) (h : wp_L_badges_B23 Q S1 S2 S w0 w1 w2 w3 w4 w5 w6) : ZZ l v 14 rm_L_badges (x9, Y3 v.2.1 Y S1 S2, A, E) 0 0 S 23 [(0, va_rf (some w0)), (1, va_rf (some w1)), (2, va_rf (some w2)), (3, .int w3), (4, .int w4), (5, .int w5), (6, .int w6)] [] := by
  unfold wp_L_badges_B23 at h
  refine z_iload (C _) (pc := 23) dL_badges_23 4 rfl ?_
  refine z_iconst (C _) (pc := 25) (x := (3 : Int32)) dL_badges_25 kic_3 ?_
  refine z_ishr (C _) (pc := 26) dL_badges_26 ?_
  refine z_bipush (C _) (pc := 27) (x := (64 : Int32)) dL_badges_27 kbp_64 ?_
  refine z_Si8 (C _) (pc := 29) (KX := fun _ _ => False) (kc' := 0) (ks' := 0) (As := [.int (w4 >>> ((3 : Int32) &&& 31)), .int (64 : Int32)]) (rest := []) (c_L_some l v S (w4 >>> ((3 : Int32) &&& 31)) (64 : Int32)) mw_L_some bw_101 bw_102 (fit_of rfl) rfl rfl (Nat.le_of_ble_eq_true rfl) dL_badges_29 h (fun r259 S258 h => ?_) (fun En S9 h => h.elim)
  refine z_istore (C _) (pc := 32) (lv' := [(7, .int r259), (0, va_rf (some w0)), (1, va_rf (some w1)), (2, va_rf (some w2)), (3, .int w3), (4, .int w4), (5, .int w5), (6, .int w6)]) dL_badges_32 (by decide) rfl ?_
  refine z_iload (C _) (pc := 34) dL_badges_34 5 rfl ?_
  refine z_bipush (C _) (pc := 36) (x := (6 : Int32)) dL_badges_36 kbp_6 ?_
  refine z_ishr (C _) (pc := 38) dL_badges_38 ?_
  refine z_sipush (C _) (pc := 39) (x := (1024 : Int32)) dL_badges_39 ksp_1024 ?_
  refine z_Si8 (C _) (pc := 42) (KX := fun _ _ => False) (kc' := 0) (ks' := 0) (As := [.int (w4 >>> ((6 : Int32) &&& 31)), .int (1024 : Int32)]) (rest := []) (c_L_some l v S258 (w4 >>> ((6 : Int32) &&& 31)) (1024 : Int32)) mw_L_some bw_101 bw_102 (fit_of rfl) rfl rfl (Nat.le_of_ble_eq_true rfl) dL_badges_42 h (fun r261 S260 h => ?_) (fun En S9 h => h.elim)
  refine z_iload (C _) (pc := 45) dL_badges_45 0 rfl ?_
  refine z_iconst (C _) (pc := 47) (x := (-1 : Int32)) dL_badges_47 kic_m1 ?_
  refine z_ixor (C _) (pc := 48) dL_badges_48 ?_
  refine z_iand (C _) (pc := 49) dL_badges_49 ?_
  refine z_nI h (fun y262 h => ?_)
  refine z_istore (C _) (pc := 50) (lv' := [(8, .int y262), (7, .int r259), (0, va_rf (some w0)), (1, va_rf (some w1)), (2, va_rf (some w2)), (3, .int w3), (4, .int w4), (5, .int w5), (6, .int w6)]) dL_badges_50 (by decide) rfl ?_
  refine z_iload (C _) (pc := 52) dL_badges_52 0 rfl ?_
  refine z_t_if_ne (C _) (pc := 54) dL_badges_54 dL_badges_57 kic_0 dL_badges_58 dL_badges_61 kic_1 ?_
  refine z_nI h (fun y263 h => ?_)
  refine z_istore (C _) (pc := 62) (lv' := [(9, .int y263), (8, .int y262), (7, .int r259), (0, va_rf (some w0)), (1, va_rf (some w1)), (2, va_rf (some w2)), (3, .int w3), (4, .int w4), (5, .int w5), (6, .int w6)]) dL_badges_62 (by decide) rfl ?_
  refine z_iload (C _) (pc := 64) dL_badges_64 9 rfl ?_
  refine z_if_ne (C _) (pc := 66) (tgt := 73) dL_badges_66 (by decide) h (fun h => ?_) (fun h => ?_)
  · refine z_iload_n (C _) (pc := 73) dL_badges_73 6 rfl ?_
    refine z_iconst (C _) (pc := 74) (x := (4 : Int32)) dL_badges_74 kic_4 ?_
    refine z_ishr (C _) (pc := 75) dL_badges_75 ?_
    refine z_iload (C _) (pc := 76) dL_badges_76 9 rfl ?_
    refine z_iconst (C _) (pc := 78) (x := (1 : Int32)) dL_badges_78 kic_1 ?_
    refine z_iadd (C _) (pc := 79) dL_badges_79 ?_
    refine z_Si8 (C _) (pc := 80) (KX := fun _ _ => False) (kc' := 0) (ks' := 0) (As := [.int (w3 >>> ((4 : Int32) &&& 31)), .int (w6 + (1 : Int32))]) (rest := []) (c_L_some l v S260 (w3 >>> ((4 : Int32) &&& 31)) (w6 + (1 : Int32))) mw_L_some bw_101 bw_102 (fit_of rfl) rfl rfl (Nat.le_of_ble_eq_true rfl) dL_badges_80 h (fun r265 S264 h => ?_) (fun En S9 h => h.elim)
    refine z_iconst (C _) (pc := 83) (x := (1 : Int32)) dL_badges_83 kic_1 ?_
    refine z_isub (C _) (pc := 84) dL_badges_84 ?_
    refine z_nI h (fun y266 h => ?_)
    refine z_istore (C _) (pc := 85) (lv' := [(10, .int y266), (9, .int y263), (8, .int y262), (7, .int r259), (0, va_rf (some w0)), (1, va_rf (some w1)), (2, va_rf (some w2)), (3, .int w3), (4, .int w4), (5, .int w5), (6, .int w6)]) dL_badges_85 (by decide) rfl ?_
    refine z_sub [4, 5, 6, 7, 8, 9, 10, 3, 2, 1, 0] (lv' := [(0, va_rf (some w0)), (1, va_rf (some w1)), (2, va_rf (some w2)), (3, .int w3), (4, .int w4), (5, .int w5), (6, .int w6), (7, .int r259), (8, .int y262), (9, .int y263), (10, .int y266)]) rfl ?_
    exact k_L_badges_B87 l hfl v C Q T S1 S2 S264 t1 t2 w0 w1 w2 w3 w4 w5 w6 r259 y262 y263 y266 h
  · refine z_iconst (C _) (pc := 69) (x := (-1 : Int32)) dL_badges_69 kic_m1 ?_
    refine z_goto (C _) (pc := 70) (tgt := 85) dL_badges_70 (by decide) ?_
    refine z_istore (C _) (pc := 85) (lv' := [(10, .int (-1 : Int32)), (9, .int y263), (8, .int y262), (7, .int r259), (0, va_rf (some w0)), (1, va_rf (some w1)), (2, va_rf (some w2)), (3, .int w3), (4, .int w4), (5, .int w5), (6, .int w6)]) dL_badges_85 (by decide) rfl ?_
    refine z_sub [4, 5, 6, 7, 8, 9, 10, 3, 2, 1, 0] (lv' := [(0, va_rf (some w0)), (1, va_rf (some w1)), (2, va_rf (some w2)), (3, .int w3), (4, .int w4), (5, .int w5), (6, .int w6), (7, .int r259), (8, .int y262), (9, .int y263), (10, .int (-1 : Int32))]) rfl ?_
    exact k_L_badges_B87 l hfl v C Q T S1 S2 S260 t1 t2 w0 w1 w2 w3 w4 w5 w6 r259 y262 y263 (-1 : Int32) h
set_option maxHeartbeats 4000000 in
set_option maxRecDepth 100000 in
theorem c_L_badges (l : Launch) (hfl : l.stackTraces = false) (v : Ev) (S1 S2 S : Hp) (x0 : Nat) (x1 : Nat) (x2 : Nat) (x3 : Int32) (x4 : Int32) : C3 l v yL_badges cL_badges 14 (some .boolean) rm_L_badges [va_rf (some x0), va_rf (some x1), va_rf (some x2), .int x3, .int x4] S1 S2 S (Q3i v) (fun Q => wp_L_badges S1 S2 S x0 x1 x2 x3 x4 Q) := by
  refine z_start3 [(0, va_rf (some x0)), (1, va_rf (some x1)), (2, va_rf (some x2)), (3, .int x3), (4, .int x4)] (by decide +kernel) (by simp only [la_i, la_r, la_n]) (cat_cr (cat_cr (cat_cr (cat_ci (cat_ci cat_nil))))) (by simp only [ls_i, ls_r, ls_n]; decide) (fun x9 A E Y Q h t1 t2 C T => ?_)
  unfold wp_L_badges at h
  refine z_iload_n (C _) (pc := 0) dL_badges_0 3 rfl ?_
  refine z_bipush (C _) (pc := 1) (x := (12 : Int32)) dL_badges_1 kbp_12 ?_
  refine z_Si8 (C _) (pc := 3) (KX := fun _ _ => False) (kc' := 0) (ks' := 0) (As := [.int x3, .int (12 : Int32)]) (rest := []) (c_L_some l v S x3 (12 : Int32)) mw_L_some bw_101 bw_102 (fit_of rfl) rfl rfl (Nat.le_of_ble_eq_true rfl) dL_badges_3 h (fun r102 S101 h => ?_) (fun En S9 h => h.elim)
  refine z_istore (C _) (pc := 6) (lv' := [(5, .int r102), (0, va_rf (some x0)), (1, va_rf (some x1)), (2, va_rf (some x2)), (3, .int x3), (4, .int x4)]) dL_badges_6 (by decide) rfl ?_
  refine z_iload (C _) (pc := 8) dL_badges_8 5 rfl ?_
  refine z_bipush (C _) (pc := 10) (x := (8 : Int32)) dL_badges_10 kbp_8 ?_
  refine z_Si8 (C _) (pc := 12) (KX := fun _ _ => False) (kc' := 0) (ks' := 0) (As := [.int x4, .int (8 : Int32)]) (rest := []) (c_L_some l v S101 x4 (8 : Int32)) mw_L_some bw_101 bw_102 (fit_of rfl) rfl rfl (Nat.le_of_ble_eq_true rfl) dL_badges_12 h (fun r104 S103 h => ?_) (fun En S9 h => h.elim)
  refine z_istore (C _) (pc := 15) (lv' := [(6, .int r104), (5, .int r102), (0, va_rf (some x0)), (1, va_rf (some x1)), (2, va_rf (some x2)), (3, .int x3), (4, .int x4)]) dL_badges_15 (by decide) rfl ?_
  refine z_iload (C _) (pc := 17) dL_badges_17 1 rfl ?_
  refine z_iconst (C _) (pc := 19) (x := (3 : Int32)) dL_badges_19 kic_3 ?_
  refine z_icmp_ge (C _) (pc := 20) (tgt := 228) dL_badges_20 (by decide) h (fun h => ?_) (fun h => ?_)
  · refine z_sub [2, 3, 4, 5, 6, 1, 0] (lv' := [(0, va_rf (some x0)), (1, va_rf (some x1)), (2, va_rf (some x2)), (3, .int x3), (4, .int x4), (5, .int r102), (6, .int r104)]) rfl ?_
    exact k_L_badges_B228 l hfl v C Q T S1 S2 S103 t1 t2 x0 x1 x2 x3 x4 r102 r104 h
  · refine z_sub [2, 3, 4, 5, 6, 1, 0] (lv' := [(0, va_rf (some x0)), (1, va_rf (some x1)), (2, va_rf (some x2)), (3, .int x3), (4, .int x4), (5, .int r102), (6, .int r104)]) rfl ?_
    exact k_L_badges_B23 l hfl v C Q T S1 S2 S103 t1 t2 x0 x1 x2 x3 x4 r102 r104 h
