def wp_L_badges_L545 (Q : Int32 → Hp → Hp → Hp → Prop) (f0 : Nat) (f1 : Nat) (f2 : Nat) (f3 : Int32) (f4 : Int32) (f5 : Int32) (f6 : Int32) (f7 : Int32) (f8 : Int32) (f9 : Int32) (f10 : Int32) : Nat → Hp → Hp → Hp → Int32 → Int32 → Prop
  | 0, _, _, _, _, _ => False
  | n + 1, S1, S2, S, w11, w12 => if (8 : Int32) ≤ w12 then (bz w11 (Q w11 S1 S2 S)) else (if w11 = 0 then (bz w11 (Q w11 S1 S2 S)) else (if f10 < 0 then (bz w11 (Q w11 S1 S2 S)) else (wp_L_call S1 f0 (24 : Int32) f7 w12 (0 : Int32) (0 : Int32) (fun r37 S36 => if r37 = (-2000000003 : Int32) then (okA S36 8 f0 ∧ (wp_X8_earned S36 f0 f7 w12 (fun r42 S41 => if r42 = (-1 : Int32) then (okA S41 8 f0 ∧ (wp_X8_holds S41 f0 f7 w12 (fun r47 S46 => if r47 = 0 then (wp_L_badges_L545 Q f0 f1 f2 f3 f4 f5 f6 f7 f8 f9 f10 n S46 S2 S (1 : Int32) (w12 + (1 : Int32))) else (okA S46 8 f0 ∧ (wp_X8_earned S46 f0 f7 w12 (fun r52 S51 => lt (if r52 < 0 then (0 : Int32) else (1 : Int32)) (fun y54 => wp_L_badges_L545 Q f0 f1 f2 f3 f4 f5 f6 f7 f8 f9 f10 n S51 S2 S y54 (w12 + (1 : Int32)))) (fun _ _ => False)))) (fun _ _ => False))) else (if r37 = 0 then (okA S41 8 f0 ∧ (wp_X8_holds S41 f0 f7 w12 (fun r58 S57 => if r58 = 0 then (wp_L_badges_L545 Q f0 f1 f2 f3 f4 f5 f6 f7 f8 f9 f10 n S57 S2 S (1 : Int32) (w12 + (1 : Int32))) else (okA S57 8 f0 ∧ (wp_X8_earned S57 f0 f7 w12 (fun r63 S62 => lt (if r63 < 0 then (0 : Int32) else (1 : Int32)) (fun y65 => wp_L_badges_L545 Q f0 f1 f2 f3 f4 f5 f6 f7 f8 f9 f10 n S62 S2 S y65 (w12 + (1 : Int32)))) (fun _ _ => False)))) (fun _ _ => False))) else (wp_L_badges_L545 Q f0 f1 f2 f3 f4 f5 f6 f7 f8 f9 f10 n S41 S2 S (0 : Int32) (w12 + (1 : Int32))))) (fun _ _ => False))) else (if ((r37 >>> (f9 &&& 31)) &&& (1 : Int32)) = 0 then (okA S36 8 f0 ∧ (wp_X8_earned S36 f0 f7 w12 (fun r69 S68 => if r69 = (-1 : Int32) then (okA S68 8 f0 ∧ (wp_X8_holds S68 f0 f7 w12 (fun r74 S73 => if r74 = 0 then (wp_L_badges_L545 Q f0 f1 f2 f3 f4 f5 f6 f7 f8 f9 f10 n S73 S2 S (1 : Int32) (w12 + (1 : Int32))) else (okA S73 8 f0 ∧ (wp_X8_earned S73 f0 f7 w12 (fun r79 S78 => lt (if r79 < 0 then (0 : Int32) else (1 : Int32)) (fun y81 => wp_L_badges_L545 Q f0 f1 f2 f3 f4 f5 f6 f7 f8 f9 f10 n S78 S2 S y81 (w12 + (1 : Int32)))) (fun _ _ => False)))) (fun _ _ => False))) else (if r37 = 0 then (okA S68 8 f0 ∧ (wp_X8_holds S68 f0 f7 w12 (fun r85 S84 => if r85 = 0 then (wp_L_badges_L545 Q f0 f1 f2 f3 f4 f5 f6 f7 f8 f9 f10 n S84 S2 S (1 : Int32) (w12 + (1 : Int32))) else (okA S84 8 f0 ∧ (wp_X8_earned S84 f0 f7 w12 (fun r90 S89 => lt (if r90 < 0 then (0 : Int32) else (1 : Int32)) (fun y92 => wp_L_badges_L545 Q f0 f1 f2 f3 f4 f5 f6 f7 f8 f9 f10 n S89 S2 S y92 (w12 + (1 : Int32)))) (fun _ _ => False)))) (fun _ _ => False))) else (wp_L_badges_L545 Q f0 f1 f2 f3 f4 f5 f6 f7 f8 f9 f10 n S68 S2 S (0 : Int32) (w12 + (1 : Int32))))) (fun _ _ => False))) else (wp_L_badges_L545 Q f0 f1 f2 f3 f4 f5 f6 f7 f8 f9 f10 n S36 S2 S (0 : Int32) (w12 + (1 : Int32))))))))
def wp_L_badges_B542 (Q : Int32 → Hp → Hp → Hp → Prop) (S1 S2 S : Hp) (w0 : Nat) (w1 : Nat) (w2 : Nat) (w3 : Int32) (w4 : Int32) (w5 : Int32) (w6 : Int32) (w7 : Int32) (w8 : Int32) (w9 : Int32) (w10 : Int32) (w11 : Int32) : Prop :=
  ∃ n93, n93 ≤ 9 ∧ wp_L_badges_L545 Q w0 w1 w2 w3 w4 w5 w6 w7 w8 w9 w10 n93 S1 S2 S w11 (0 : Int32)
def wp_L_badges_B429 (Q : Int32 → Hp → Hp → Hp → Prop) (S1 S2 S : Hp) (w0 : Nat) (w1 : Nat) (w2 : Nat) (w3 : Int32) (w4 : Int32) (w5 : Int32) (w6 : Int32) (w7 : Int32) (w8 : Int32) : Prop :=
  wp_L_some S (w4 >>> ((6 : Int32) &&& 31)) (12 : Int32) (fun r24 S23 => okA S23 11 w2 ∧ (vp_in (2 : Int32) (g_N S23 w2) ∧ (wp_L_some S23 (w3 >>> ((4 : Int32) &&& 31)) (g_R S23 w2 (2 : Int32).toNatClampNeg) (fun r28 S27 => wp_L_both S1 S2 S27 w0 w1 (13 : Int32) w7 r24 r28 (0 : Int32) (fun r32 S29 S30 S31 => if r32 = (-2000000003 : Int32) then (okA S29 8 w0 ∧ (wp_X8_ofChild S29 w0 w7 (4 : Int32) (fun r111 S110 => if r111 = w8 then (wp_L_badges_B542 Q S110 S30 S31 w0 w1 w2 w3 w4 w5 w6 w7 w8 r24 r32 (1 : Int32)) else (wp_L_badges_B542 Q S110 S30 S31 w0 w1 w2 w3 w4 w5 w6 w7 w8 r24 r32 (0 : Int32))) (fun _ _ => False))) else (if r32 < w8 then (wp_L_badges_B542 Q S29 S30 S31 w0 w1 w2 w3 w4 w5 w6 w7 w8 r24 r32 (0 : Int32)) else (okA S29 8 w0 ∧ (wp_X8_ofChild S29 w0 w7 (4 : Int32) (fun r97 S96 => if r32 = r97 then (okA S31 11 w2 ∧ (vp_in (2 : Int32) (g_N S31 w2) ∧ (wp_L_some S31 (w3 >>> ((4 : Int32) &&& 31)) (g_R S31 w2 (2 : Int32).toNatClampNeg) (fun r102 S101 => wp_L_call S96 w0 (13 : Int32) w7 r24 r102 (0 : Int32) (fun r105 S104 => lt (if r105 = (-2000000003 : Int32) then (1 : Int32) else (0 : Int32)) (fun y107 => wp_L_badges_B542 Q S104 S30 S101 w0 w1 w2 w3 w4 w5 w6 w7 w8 r24 r32 y107)))))) else (wp_L_badges_B542 Q S96 S30 S31 w0 w1 w2 w3 w4 w5 w6 w7 w8 r24 r32 (0 : Int32))) (fun _ _ => False)))))))))
def wp_L_badges_B293 (Q : Int32 → Hp → Hp → Hp → Prop) (S1 S2 S : Hp) (w0 : Nat) (w1 : Nat) (w2 : Nat) (w3 : Int32) (w4 : Int32) (w5 : Int32) (w6 : Int32) (w7 : Int32) (w8 : Int32) : Prop :=
  wp_L_both S1 S2 S w0 w1 (12 : Int32) w7 w6 (0 : Int32) (0 : Int32) (fun r116 S113 S114 S115 => wp_L_call S113 w0 (24 : Int32) w7 w6 (0 : Int32) (0 : Int32) (fun r121 S120 => if r116 = (-2000000003 : Int32) then (okA S115 11 w2 ∧ (vp_in ((4 : Int32) + w6) (g_N S115 w2) ∧ (if (if (g_R S115 w2 ((4 : Int32) + w6).toNatClampNeg) = 0 then (1 : Int32) else (0 : Int32)) = (if r121 = (-2000000003 : Int32) then (1 : Int32) else (0 : Int32)) then (bz (1 : Int32) (Q (1 : Int32) S120 S114 S115)) else (bz (0 : Int32) (Q (0 : Int32) S120 S114 S115))))) else (okA S115 11 w2 ∧ (vp_in ((4 : Int32) + w6) (g_N S115 w2) ∧ (if r116 = ((g_R S115 w2 ((4 : Int32) + w6).toNatClampNeg) - (1 : Int32)) then (if r121 < 0 then (bz (0 : Int32) (Q (0 : Int32) S120 S114 S115)) else (okA S120 8 w0 ∧ (wp_X8_earned S120 w0 w7 w6 (fun r128 S127 => if r128 = (-1 : Int32) then (okA S127 8 w0 ∧ (wp_X8_ofChild S127 w0 w7 (4 : Int32) (fun r133 S132 => bz (if r133 < w8 then (0 : Int32) else (1 : Int32)) (Q (if r133 < w8 then (0 : Int32) else (1 : Int32)) S132 S114 S115)) (fun _ _ => False))) else (okA S127 8 w0 ∧ (wp_X8_earned S127 w0 w7 w6 (fun r138 S137 => okA S137 8 w0 ∧ (wp_X8_today S137 w0 (fun r143 S142 => if r138 = r143 then (okA S142 8 w0 ∧ (wp_X8_ofChild S142 w0 w7 (4 : Int32) (fun r148 S147 => bz (if r148 < w8 then (0 : Int32) else (1 : Int32)) (Q (if r148 < w8 then (0 : Int32) else (1 : Int32)) S147 S114 S115)) (fun _ _ => False))) else (bz (0 : Int32) (Q (0 : Int32) S142 S114 S115))))) (fun _ _ => False)))) (fun _ _ => False)))) else (bz (0 : Int32) (Q (0 : Int32) S120 S114 S115)))))))
def wp_L_badges_B265 (Q : Int32 → Hp → Hp → Hp → Prop) (S1 S2 S : Hp) (w0 : Nat) (w1 : Nat) (w2 : Nat) (w3 : Int32) (w4 : Int32) (w5 : Int32) (w6 : Int32) : Prop :=
  okA S 11 w2 ∧ (vp_in (0 : Int32) (g_N S w2) ∧ (wp_L_some S (w4 >>> ((3 : Int32) &&& 31)) (g_R S w2 (0 : Int32).toNatClampNeg) (fun r17 S16 => okA S1 8 w0 ∧ (wp_X8_ofChild S1 w0 r17 (4 : Int32) (fun r21 S20 => if (6 : Int32) ≤ w5 then (wp_L_badges_B429 Q S20 S2 S16 w0 w1 w2 w3 w4 w5 w6 r17 r21) else (wp_L_badges_B293 Q S20 S2 S16 w0 w1 w2 w3 w4 w5 w6 r17 r21)) (fun _ _ => False)))))
def wp_L_badges_B228 (Q : Int32 → Hp → Hp → Hp → Prop) (S1 S2 S : Hp) (w0 : Nat) (w1 : Nat) (w2 : Nat) (w3 : Int32) (w4 : Int32) (w5 : Int32) (w6 : Int32) : Prop :=
  okA S 11 w2 ∧ (vp_in (0 : Int32) (g_N S w2) ∧ (if (g_R S w2 (0 : Int32).toNatClampNeg) = 0 then (vp_in (0 : Int32) (g_N S w2) ∧ (vp_in (2 : Int32) (g_N S w2) ∧ (wp_L_call S1 w0 (13 : Int32) (g_R S w2 (0 : Int32).toNatClampNeg) (0 : Int32) (g_R S w2 (2 : Int32).toNatClampNeg) (0 : Int32) (fun r11 S10 => bz (if r11 = (-2000000001 : Int32) then (1 : Int32) else (0 : Int32)) (Q (if r11 = (-2000000001 : Int32) then (1 : Int32) else (0 : Int32)) S10 S2 S))))) else (vp_in (2 : Int32) (g_N S w2) ∧ (if (g_R S w2 (2 : Int32).toNatClampNeg) = 0 then (vp_in (0 : Int32) (g_N S w2) ∧ (vp_in (2 : Int32) (g_N S w2) ∧ (wp_L_call S1 w0 (13 : Int32) (g_R S w2 (0 : Int32).toNatClampNeg) (0 : Int32) (g_R S w2 (2 : Int32).toNatClampNeg) (0 : Int32) (fun r156 S155 => bz (if r156 = (-2000000001 : Int32) then (1 : Int32) else (0 : Int32)) (Q (if r156 = (-2000000001 : Int32) then (1 : Int32) else (0 : Int32)) S155 S2 S))))) else (wp_L_badges_B265 Q S1 S2 S w0 w1 w2 w3 w4 w5 w6)))))
def wp_L_badges_B165 (Q : Int32 → Hp → Hp → Hp → Prop) (S1 S2 S : Hp) (w0 : Nat) (w1 : Nat) (w2 : Nat) (w3 : Int32) (w4 : Int32) (w5 : Int32) (w6 : Int32) (w7 : Int32) (w8 : Int32) (w9 : Int32) (w10 : Int32) (w11 : Int32) (w12 : Int32) : Prop :=
  okA S 11 w2 ∧ (vp_in ((4 : Int32) + w6) (g_N S w2) ∧ (vp_in ((4 : Int32) + w6) (g_N S w2) ∧ (lt (s_R S w2 ((4 : Int32) + w6).toNatClampNeg ((g_R S w2 ((4 : Int32) + w6).toNatClampNeg) + (if w11 < 0 then (0 : Int32) else (1 : Int32)))) (fun S187 => if w12 = 0 then (bz (0 : Int32) (Q (0 : Int32) S1 S2 S187)) else (if w11 = (-2000000003 : Int32) then (okA S187 11 w2 ∧ (vp_in ((4 : Int32) + w6) (g_N S187 w2) ∧ (if (g_R S187 w2 ((4 : Int32) + w6).toNatClampNeg) = (3 : Int32) then (bz (1 : Int32) (Q (1 : Int32) S1 S2 S187)) else (bz (0 : Int32) (Q (0 : Int32) S1 S2 S187))))) else (okA S187 11 w2 ∧ (vp_in ((4 : Int32) + w6) (g_N S187 w2) ∧ (bz (if w11 = ((g_R S187 w2 ((4 : Int32) + w6).toNatClampNeg) - (1 : Int32)) then (1 : Int32) else (0 : Int32)) (Q (if w11 = ((g_R S187 w2 ((4 : Int32) + w6).toNatClampNeg) - (1 : Int32)) then (1 : Int32) else (0 : Int32)) S1 S2 S187)))))))))
def wp_L_badges_B87 (Q : Int32 → Hp → Hp → Hp → Prop) (S1 S2 S : Hp) (w0 : Nat) (w1 : Nat) (w2 : Nat) (w3 : Int32) (w4 : Int32) (w5 : Int32) (w6 : Int32) (w7 : Int32) (w8 : Int32) (w9 : Int32) (w10 : Int32) : Prop :=
  wp_L_some S (w3 >>> ((7 : Int32) &&& 31)) (30 : Int32) (fun r168 S167 => wp_L_some S167 (w3 >>> ((9 : Int32) &&& 31)) (40 : Int32) (fun r170 S169 => wp_L_edition S1 w0 w6 w7 w8 w9 w10 r168 r170 (fun r173 S172 => wp_L_some S169 (w3 >>> ((7 : Int32) &&& 31)) (30 : Int32) (fun r176 S175 => wp_L_some S175 (w3 >>> ((9 : Int32) &&& 31)) (40 : Int32) (fun r178 S177 => wp_L_edition S2 w1 w6 w7 w8 w9 w10 r176 r178 (fun r181 S180 => lt (if r173 = r181 then (1 : Int32) else (0 : Int32)) (fun y183 => wp_L_badges_B165 Q S172 S180 S177 w0 w1 w2 w3 w4 w5 w6 w7 w8 w9 w10 r173 y183)))))))
def wp_L_badges_B23 (Q : Int32 → Hp → Hp → Hp → Prop) (S1 S2 S : Hp) (w0 : Nat) (w1 : Nat) (w2 : Nat) (w3 : Int32) (w4 : Int32) (w5 : Int32) (w6 : Int32) : Prop :=
  wp_L_some S (w4 >>> ((3 : Int32) &&& 31)) (64 : Int32) (fun r159 S158 => wp_L_some S158 (w4 >>> ((6 : Int32) &&& 31)) (1024 : Int32) (fun r161 S160 => lt (r161 &&& (r159 ^^^ (-1 : Int32))) (fun y162 => lt (if y162 = 0 then (0 : Int32) else (1 : Int32)) (fun y163 => if w6 = 0 then (wp_L_badges_B87 Q S1 S2 S160 w0 w1 w2 w3 w4 w5 w6 r159 y162 y163 (-1 : Int32)) else (wp_L_some S160 (w3 >>> ((4 : Int32) &&& 31)) (w6 + (1 : Int32)) (fun r165 S164 => lt (r165 - (1 : Int32)) (fun y166 => wp_L_badges_B87 Q S1 S2 S164 w0 w1 w2 w3 w4 w5 w6 r159 y162 y163 y166)))))))
def wp_L_badges (S1 S2 S : Hp) (x0 : Nat) (x1 : Nat) (x2 : Nat) (x3 : Int32) (x4 : Int32) (Q : Int32 → Hp → Hp → Hp → Prop) : Prop :=
  wp_L_some S x3 (12 : Int32) (fun r2 S1 => wp_L_some S1 x4 (8 : Int32) (fun r4 S3 => if (3 : Int32) ≤ r2 then (wp_L_badges_B228 Q S1 S2 S3 x0 x1 x2 x3 x4 r2 r4) else (wp_L_badges_B23 Q S1 S2 S3 x0 x1 x2 x3 x4 r2 r4)))
def rm_L_badges : Room := { frames := 12, cells := 552, slots := 17640, locals := 356 }
set_option maxHeartbeats 4000000 in
set_option maxRecDepth 100000 in
theorem l_L_badges_L545 (l : Launch) (hfl : l.stackTraces = false) (v : Ev) {x9 : P9} {A : Nat → Prop} {E : State → Prop} {X0 Y : va_W} (C : ∀ X, Cx l v RL cL_badges 14 (some .boolean) "badges" (x9, X, A, E)) (Q : Int32 → Hp → Hp → Hp → Prop) (T : E3 v rm_L_badges (Q3i v) Q X0 Y A E x9) (f0 : Nat) (f1 : Nat) (f2 : Nat) (f3 : Int32) (f4 : Int32) (f5 : Int32) (f6 : Int32) (f7 : Int32) (f8 : Int32) (f9 : Int32) (f10 : Int32) : ∀ (n : Nat) (S1 S2 S : Hp) (w11 : Int32) (w12 : Int32) (hn : n ≤ 9), g_T S1 = v.2.2.1 → g_T S2 = v.2.2.1 → wp_L_badges_L545 Q f0 f1 f2 f3 f4 f5 f6 f7 f8 f9 f10 n S1 S2 S w11 w12 → ZZ l v 14 rm_L_badges (x9, Y3 v.2.1 Y S1 S2, A, E) (552 - n * 46) (17640 - n * 1470) S 545 [(0, va_rf (some f0)), (1, va_rf (some f1)), (2, va_rf (some f2)), (3, .int f3), (4, .int f4), (5, .int f5), (6, .int f6), (7, .int f7), (8, .int f8), (9, .int f9), (10, .int f10), (11, .int w11), (12, .int w12)] [] := by
  intro n
  induction n with
  | zero =>
    intro S1 S2 S w11 w12 hn t1 t2 h
    exact h.elim
  | succ n ih =>
    intro S1 S2 S w11 w12 hn t1 t2 h
    unfold wp_L_badges_L545 at h
    obtain ⟨B, hB⟩ : ∃ B, B = 552 - (n + 1) * 46 := ⟨_, rfl⟩
    obtain ⟨B2, hB2⟩ : ∃ B2, B2 = 17640 - (n + 1) * 1470 := ⟨_, rfl⟩
    have hR : rm_L_badges.cells = 552 := rfl
    have hR2 : rm_L_badges.slots = 17640 := rfl
    rw [← hB, ← hB2]
    refine z_wide (kc' := B + 0) (ks' := B2 + 0) (Nat.le_refl _) (Nat.le_refl _) ?_
    refine z_iload (C _) (pc := 545) dL_badges_545 12 rfl ?_
    refine z_bipush (C _) (pc := 547) (x := (8 : Int32)) dL_badges_547 kbp_8 ?_
    refine z_icmp_ge (C _) (pc := 549) (tgt := 645) dL_badges_549 (by decide) h (fun h => ?_) (fun h => ?_)
    · refine z_iload (C _) (pc := 645) dL_badges_645 11 rfl ?_
      exact z_zret3 (C _) (pc := 647) T t1 t2 dL_badges_647 (by omega) (by omega) h
    · refine z_iload (C _) (pc := 552) dL_badges_552 11 rfl ?_
      refine z_if_eq (C _) (pc := 554) (tgt := 645) dL_badges_554 (by decide) h (fun h => ?_) (fun h => ?_)
      · refine z_iload (C _) (pc := 645) dL_badges_645 11 rfl ?_
        exact z_zret3 (C _) (pc := 647) T t1 t2 dL_badges_647 (by omega) (by omega) h
      · refine z_iload (C _) (pc := 557) dL_badges_557 10 rfl ?_
        refine z_if_lt (C _) (pc := 559) (tgt := 645) dL_badges_559 (by decide) h (fun h => ?_) (fun h => ?_)
        · refine z_iload (C _) (pc := 645) dL_badges_645 11 rfl ?_
          exact z_zret3 (C _) (pc := 647) T t1 t2 dL_badges_647 (by omega) (by omega) h
        · refine z_aload_n (C _) (pc := 562) dL_badges_562 0 rfl ?_
          refine z_bipush (C _) (pc := 563) (x := (24 : Int32)) dL_badges_563 kbp_24 ?_
          refine z_iload (C _) (pc := 565) dL_badges_565 7 rfl ?_
          refine z_iload (C _) (pc := 567) dL_badges_567 12 rfl ?_
          refine z_iconst (C _) (pc := 569) (x := (0 : Int32)) dL_badges_569 kic_0 ?_
          refine z_iconst (C _) (pc := 570) (x := (0 : Int32)) dL_badges_570 kic_0 ?_
          refine z_s1 t1 (fun t35 => ?_)
          refine z_SW (C _) (pc := 571) (kc' := (B + 46)) (ks' := (B2 + 1470)) (As := [va_rf (some f0), .int (24 : Int32), .int f7, .int w12, .int (0 : Int32), .int (0 : Int32)]) (rest := []) (c_L_call l hfl v S1 f0 (24 : Int32) f7 w12 (0 : Int32) (0 : Int32)) bw_369 bw_0 (by decide +kernel) (n := 6) (by decide +kernel) bw_367 bw_368 ⟨by have h9 : rm_L_call.cells = 46 := rfl; omega, by omega, by have h9 : rm_L_call.slots = 1470 := rfl; omega, by omega, by decide, by decide⟩ rfl rfl (Nat.le_of_ble_eq_true rfl) dL_badges_571 h (fun r37 S36 h => ?_)
          refine z_s1' t35 (fun t38 => ?_)
          refine z_istore (C _) (pc := 574) (lv' := [(13, .int r37), (0, va_rf (some f0)), (1, va_rf (some f1)), (2, va_rf (some f2)), (3, .int f3), (4, .int f4), (5, .int f5), (6, .int f6), (7, .int f7), (8, .int f8), (9, .int f9), (10, .int f10), (11, .int w11), (12, .int w12)]) dL_badges_574 (by decide) rfl ?_
          refine z_iload (C _) (pc := 576) dL_badges_576 0 rfl ?_
          refine z_ldc (C _) (pc := 578) (x := (-2000000003 : Int32)) dL_badges_578 bw_778 ?_
          refine z_icmp_eq (C _) (pc := 580) (tgt := 593) dL_badges_580 (by decide) h (fun h => ?_) (fun h => ?_)
          · refine z_aload_n (C _) (pc := 593) dL_badges_593 1 rfl ?_
            refine z_iload (C _) (pc := 594) dL_badges_594 8 rfl ?_
            refine z_iload (C _) (pc := 596) dL_badges_596 13 rfl ?_
            obtain ⟨o39, h⟩ := h
            refine z_s1 t38 (fun t40 => ?_)
            refine z_Vi (C _) (pc := 598) (KX := fun _ _ => False) (kc' := (B + 46)) (ks' := (B2 + 1470)) (As := [.int f7, .int w12]) (rest := []) rfl (c_X8_earned_n l v S36 f0 f7 w12) mw_X8_earned bw_240 bw_241 bw_242 ⟨by have h9 : rm_X8_earned_n.cells = 0 := rfl; omega, by omega, by have h9 : rm_X8_earned_n.slots = 0 := rfl; omega, by omega, by decide, by decide⟩ rfl rfl (Nat.le_of_ble_eq_true rfl) (by decide) rfl o39 dL_badges_598 h (fun r42 S41 h => ?_) (fun En S9 h => h.elim)
            refine z_s1' t40 (fun t43 => ?_)
            refine z_iconst (C _) (pc := 601) (x := (-1 : Int32)) dL_badges_601 kic_m1 ?_
            refine z_icmp_eq (C _) (pc := 602) (tgt := 610) dL_badges_602 (by decide) h (fun h => ?_) (fun h => ?_)
            · refine z_aload_n (C _) (pc := 610) dL_badges_610 1 rfl ?_
              refine z_iload (C _) (pc := 611) dL_badges_611 8 rfl ?_
              refine z_iload (C _) (pc := 613) dL_badges_613 13 rfl ?_
              obtain ⟨o44, h⟩ := h
              refine z_s1 t43 (fun t45 => ?_)
              refine z_Vi (C _) (pc := 615) (KX := fun _ _ => False) (kc' := (B + 46)) (ks' := (B2 + 1470)) (As := [.int f7, .int w12]) (rest := []) rfl (c_X8_holds_n l v S41 f0 f7 w12) mw_X8_holds bw_245 bw_246 bw_247 ⟨by have h9 : rm_X8_holds_n.cells = 0 := rfl; omega, by omega, by have h9 : rm_X8_holds_n.slots = 0 := rfl; omega, by omega, by decide, by decide⟩ rfl rfl (Nat.le_of_ble_eq_true rfl) (by decide) rfl o44 dL_badges_615 h (fun r47 S46 h => ?_) (fun En S9 h => h.elim)
              refine z_s1' t45 (fun t48 => ?_)
              refine z_if_eq (C _) (pc := 618) (tgt := 632) dL_badges_618 (by decide) h (fun h => ?_) (fun h => ?_)
              · refine z_iconst (C _) (pc := 632) (x := (1 : Int32)) dL_badges_632 kic_1 ?_
                refine z_goto (C _) (pc := 633) (tgt := 637) dL_badges_633 (by decide) ?_
                refine z_istore (C _) (pc := 637) (lv' := [(11, .int (1 : Int32)), (13, .int r37), (0, va_rf (some f0)), (1, va_rf (some f1)), (2, va_rf (some f2)), (3, .int f3), (4, .int f4), (5, .int f5), (6, .int f6), (7, .int f7), (8, .int f8), (9, .int f9), (10, .int f10), (12, .int w12)]) dL_badges_637 (by decide) rfl ?_
                refine z_iinc (C _) (pc := 639) (y := w12 + (1 : Int32)) (lv' := [(12, .int (w12 + (1 : Int32))), (11, .int (1 : Int32)), (13, .int r37), (0, va_rf (some f0)), (1, va_rf (some f1)), (2, va_rf (some f2)), (3, .int f3), (4, .int f4), (5, .int f5), (6, .int f6), (7, .int f7), (8, .int f8), (9, .int f9), (10, .int f10)]) dL_badges_639 13 rfl rfl (by decide) rfl ?_
                refine z_goto (C _) (pc := 642) (tgt := 545) dL_badges_642 (by decide) ?_
                refine z_sub [3, 4, 5, 6, 7, 8, 9, 10, 11, 12, 13, 1, 0] (lv' := [(0, va_rf (some f0)), (1, va_rf (some f1)), (2, va_rf (some f2)), (3, .int f3), (4, .int f4), (5, .int f5), (6, .int f6), (7, .int f7), (8, .int f8), (9, .int f9), (10, .int f10), (11, .int (1 : Int32)), (12, .int (w12 + (1 : Int32)))]) rfl ?_
                refine z_wide (kc' := 552 - n * 46) (ks' := 17640 - n * 1470) (by omega) (by omega) ?_
                exact ih S46 S2 S (1 : Int32) (w12 + (1 : Int32)) (by omega) t48 t2 h
              · refine z_aload_n (C _) (pc := 621) dL_badges_621 1 rfl ?_
                refine z_iload (C _) (pc := 622) dL_badges_622 8 rfl ?_
                refine z_iload (C _) (pc := 624) dL_badges_624 13 rfl ?_
                obtain ⟨o49, h⟩ := h
                refine z_s1 t48 (fun t50 => ?_)
                refine z_Vi (C _) (pc := 626) (KX := fun _ _ => False) (kc' := (B + 46)) (ks' := (B2 + 1470)) (As := [.int f7, .int w12]) (rest := []) rfl (c_X8_earned_n l v S46 f0 f7 w12) mw_X8_earned bw_240 bw_241 bw_242 ⟨by have h9 : rm_X8_earned_n.cells = 0 := rfl; omega, by omega, by have h9 : rm_X8_earned_n.slots = 0 := rfl; omega, by omega, by decide, by decide⟩ rfl rfl (Nat.le_of_ble_eq_true rfl) (by decide) rfl o49 dL_badges_626 h (fun r52 S51 h => ?_) (fun En S9 h => h.elim)
                refine z_s1' t50 (fun t53 => ?_)
                refine z_t_if_lt (C _) (pc := 629) dL_badges_629 dL_badges_632 kic_1 dL_badges_633 dL_badges_636 kic_0 ?_
                refine z_nI h (fun y54 h => ?_)
                refine z_istore (C _) (pc := 637) (lv' := [(11, .int y54), (13, .int r37), (0, va_rf (some f0)), (1, va_rf (some f1)), (2, va_rf (some f2)), (3, .int f3), (4, .int f4), (5, .int f5), (6, .int f6), (7, .int f7), (8, .int f8), (9, .int f9), (10, .int f10), (12, .int w12)]) dL_badges_637 (by decide) rfl ?_
                refine z_iinc (C _) (pc := 639) (y := w12 + (1 : Int32)) (lv' := [(12, .int (w12 + (1 : Int32))), (11, .int y54), (13, .int r37), (0, va_rf (some f0)), (1, va_rf (some f1)), (2, va_rf (some f2)), (3, .int f3), (4, .int f4), (5, .int f5), (6, .int f6), (7, .int f7), (8, .int f8), (9, .int f9), (10, .int f10)]) dL_badges_639 13 rfl rfl (by decide) rfl ?_
                refine z_goto (C _) (pc := 642) (tgt := 545) dL_badges_642 (by decide) ?_
                refine z_sub [3, 4, 5, 6, 7, 8, 9, 10, 11, 12, 13, 1, 0] (lv' := [(0, va_rf (some f0)), (1, va_rf (some f1)), (2, va_rf (some f2)), (3, .int f3), (4, .int f4), (5, .int f5), (6, .int f6), (7, .int f7), (8, .int f8), (9, .int f9), (10, .int f10), (11, .int y54), (12, .int (w12 + (1 : Int32)))]) rfl ?_
                refine z_wide (kc' := 552 - n * 46) (ks' := 17640 - n * 1470) (by omega) (by omega) ?_
                exact ih S51 S2 S y54 (w12 + (1 : Int32)) (by omega) t53 t2 h
            · refine z_iload (C _) (pc := 605) dL_badges_605 0 rfl ?_
              refine z_if_ne (C _) (pc := 607) (tgt := 636) dL_badges_607 (by decide) h (fun h => ?_) (fun h => ?_)
              · refine z_iconst (C _) (pc := 636) (x := (0 : Int32)) dL_badges_636 kic_0 ?_
                refine z_istore (C _) (pc := 637) (lv' := [(11, .int (0 : Int32)), (13, .int r37), (0, va_rf (some f0)), (1, va_rf (some f1)), (2, va_rf (some f2)), (3, .int f3), (4, .int f4), (5, .int f5), (6, .int f6), (7, .int f7), (8, .int f8), (9, .int f9), (10, .int f10), (12, .int w12)]) dL_badges_637 (by decide) rfl ?_
                refine z_iinc (C _) (pc := 639) (y := w12 + (1 : Int32)) (lv' := [(12, .int (w12 + (1 : Int32))), (11, .int (0 : Int32)), (13, .int r37), (0, va_rf (some f0)), (1, va_rf (some f1)), (2, va_rf (some f2)), (3, .int f3), (4, .int f4), (5, .int f5), (6, .int f6), (7, .int f7), (8, .int f8), (9, .int f9), (10, .int f10)]) dL_badges_639 13 rfl rfl (by decide) rfl ?_
                refine z_goto (C _) (pc := 642) (tgt := 545) dL_badges_642 (by decide) ?_
                refine z_sub [3, 4, 5, 6, 7, 8, 9, 10, 11, 12, 13, 1, 0] (lv' := [(0, va_rf (some f0)), (1, va_rf (some f1)), (2, va_rf (some f2)), (3, .int f3), (4, .int f4), (5, .int f5), (6, .int f6), (7, .int f7), (8, .int f8), (9, .int f9), (10, .int f10), (11, .int (0 : Int32)), (12, .int (w12 + (1 : Int32)))]) rfl ?_
                refine z_wide (kc' := 552 - n * 46) (ks' := 17640 - n * 1470) (by omega) (by omega) ?_
                exact ih S41 S2 S (0 : Int32) (w12 + (1 : Int32)) (by omega) t43 t2 h
              · refine z_aload_n (C _) (pc := 610) dL_badges_610 1 rfl ?_
                refine z_iload (C _) (pc := 611) dL_badges_611 8 rfl ?_
                refine z_iload (C _) (pc := 613) dL_badges_613 13 rfl ?_
                obtain ⟨o55, h⟩ := h
                refine z_s1 t43 (fun t56 => ?_)
                refine z_Vi (C _) (pc := 615) (KX := fun _ _ => False) (kc' := (B + 46)) (ks' := (B2 + 1470)) (As := [.int f7, .int w12]) (rest := []) rfl (c_X8_holds_n l v S41 f0 f7 w12) mw_X8_holds bw_245 bw_246 bw_247 ⟨by have h9 : rm_X8_holds_n.cells = 0 := rfl; omega, by omega, by have h9 : rm_X8_holds_n.slots = 0 := rfl; omega, by omega, by decide, by decide⟩ rfl rfl (Nat.le_of_ble_eq_true rfl) (by decide) rfl o55 dL_badges_615 h (fun r58 S57 h => ?_) (fun En S9 h => h.elim)
                refine z_s1' t56 (fun t59 => ?_)
                refine z_if_eq (C _) (pc := 618) (tgt := 632) dL_badges_618 (by decide) h (fun h => ?_) (fun h => ?_)
                · refine z_iconst (C _) (pc := 632) (x := (1 : Int32)) dL_badges_632 kic_1 ?_
                  refine z_goto (C _) (pc := 633) (tgt := 637) dL_badges_633 (by decide) ?_
                  refine z_istore (C _) (pc := 637) (lv' := [(11, .int (1 : Int32)), (13, .int r37), (0, va_rf (some f0)), (1, va_rf (some f1)), (2, va_rf (some f2)), (3, .int f3), (4, .int f4), (5, .int f5), (6, .int f6), (7, .int f7), (8, .int f8), (9, .int f9), (10, .int f10), (12, .int w12)]) dL_badges_637 (by decide) rfl ?_
                  refine z_iinc (C _) (pc := 639) (y := w12 + (1 : Int32)) (lv' := [(12, .int (w12 + (1 : Int32))), (11, .int (1 : Int32)), (13, .int r37), (0, va_rf (some f0)), (1, va_rf (some f1)), (2, va_rf (some f2)), (3, .int f3), (4, .int f4), (5, .int f5), (6, .int f6), (7, .int f7), (8, .int f8), (9, .int f9), (10, .int f10)]) dL_badges_639 13 rfl rfl (by decide) rfl ?_
                  refine z_goto (C _) (pc := 642) (tgt := 545) dL_badges_642 (by decide) ?_
                  refine z_sub [3, 4, 5, 6, 7, 8, 9, 10, 11, 12, 13, 1, 0] (lv' := [(0, va_rf (some f0)), (1, va_rf (some f1)), (2, va_rf (some f2)), (3, .int f3), (4, .int f4), (5, .int f5), (6, .int f6), (7, .int f7), (8, .int f8), (9, .int f9), (10, .int f10), (11, .int (1 : Int32)), (12, .int (w12 + (1 : Int32)))]) rfl ?_
                  refine z_wide (kc' := 552 - n * 46) (ks' := 17640 - n * 1470) (by omega) (by omega) ?_
                  exact ih S57 S2 S (1 : Int32) (w12 + (1 : Int32)) (by omega) t59 t2 h
                · refine z_aload_n (C _) (pc := 621) dL_badges_621 1 rfl ?_
                  refine z_iload (C _) (pc := 622) dL_badges_622 8 rfl ?_
                  refine z_iload (C _) (pc := 624) dL_badges_624 13 rfl ?_
                  obtain ⟨o60, h⟩ := h
                  refine z_s1 t59 (fun t61 => ?_)
                  refine z_Vi (C _) (pc := 626) (KX := fun _ _ => False) (kc' := (B + 46)) (ks' := (B2 + 1470)) (As := [.int f7, .int w12]) (rest := []) rfl (c_X8_earned_n l v S57 f0 f7 w12) mw_X8_earned bw_240 bw_241 bw_242 ⟨by have h9 : rm_X8_earned_n.cells = 0 := rfl; omega, by omega, by have h9 : rm_X8_earned_n.slots = 0 := rfl; omega, by omega, by decide, by decide⟩ rfl rfl (Nat.le_of_ble_eq_true rfl) (by decide) rfl o60 dL_badges_626 h (fun r63 S62 h => ?_) (fun En S9 h => h.elim)
                  refine z_s1' t61 (fun t64 => ?_)
                  refine z_t_if_lt (C _) (pc := 629) dL_badges_629 dL_badges_632 kic_1 dL_badges_633 dL_badges_636 kic_0 ?_
                  refine z_nI h (fun y65 h => ?_)
                  refine z_istore (C _) (pc := 637) (lv' := [(11, .int y65), (13, .int r37), (0, va_rf (some f0)), (1, va_rf (some f1)), (2, va_rf (some f2)), (3, .int f3), (4, .int f4), (5, .int f5), (6, .int f6), (7, .int f7), (8, .int f8), (9, .int f9), (10, .int f10), (12, .int w12)]) dL_badges_637 (by decide) rfl ?_
                  refine z_iinc (C _) (pc := 639) (y := w12 + (1 : Int32)) (lv' := [(12, .int (w12 + (1 : Int32))), (11, .int y65), (13, .int r37), (0, va_rf (some f0)), (1, va_rf (some f1)), (2, va_rf (some f2)), (3, .int f3), (4, .int f4), (5, .int f5), (6, .int f6), (7, .int f7), (8, .int f8), (9, .int f9), (10, .int f10)]) dL_badges_639 13 rfl rfl (by decide) rfl ?_
                  refine z_goto (C _) (pc := 642) (tgt := 545) dL_badges_642 (by decide) ?_
                  refine z_sub [3, 4, 5, 6, 7, 8, 9, 10, 11, 12, 13, 1, 0] (lv' := [(0, va_rf (some f0)), (1, va_rf (some f1)), (2, va_rf (some f2)), (3, .int f3), (4, .int f4), (5, .int f5), (6, .int f6), (7, .int f7), (8, .int f8), (9, .int f9), (10, .int f10), (11, .int y65), (12, .int (w12 + (1 : Int32)))]) rfl ?_
                  refine z_wide (kc' := 552 - n * 46) (ks' := 17640 - n * 1470) (by omega) (by omega) ?_
                  exact ih S62 S2 S y65 (w12 + (1 : Int32)) (by omega) t64 t2 h
          · refine z_iload (C _) (pc := 583) dL_badges_583 0 rfl ?_
            refine z_iload (C _) (pc := 585) dL_badges_585 10 rfl ?_
            refine z_ishr (C _) (pc := 587) dL_badges_587 ?_
            refine z_iconst (C _) (pc := 588) (x := (1 : Int32)) dL_badges_588 kic_1 ?_
            refine z_iand (C _) (pc := 589) dL_badges_589 ?_
            refine z_if_ne (C _) (pc := 590) (tgt := 636) dL_badges_590 (by decide) h (fun h => ?_) (fun h => ?_)
            · refine z_iconst (C _) (pc := 636) (x := (0 : Int32)) dL_badges_636 kic_0 ?_
              refine z_istore (C _) (pc := 637) (lv' := [(11, .int (0 : Int32)), (13, .int r37), (0, va_rf (some f0)), (1, va_rf (some f1)), (2, va_rf (some f2)), (3, .int f3), (4, .int f4), (5, .int f5), (6, .int f6), (7, .int f7), (8, .int f8), (9, .int f9), (10, .int f10), (12, .int w12)]) dL_badges_637 (by decide) rfl ?_
              refine z_iinc (C _) (pc := 639) (y := w12 + (1 : Int32)) (lv' := [(12, .int (w12 + (1 : Int32))), (11, .int (0 : Int32)), (13, .int r37), (0, va_rf (some f0)), (1, va_rf (some f1)), (2, va_rf (some f2)), (3, .int f3), (4, .int f4), (5, .int f5), (6, .int f6), (7, .int f7), (8, .int f8), (9, .int f9), (10, .int f10)]) dL_badges_639 13 rfl rfl (by decide) rfl ?_
              refine z_goto (C _) (pc := 642) (tgt := 545) dL_badges_642 (by decide) ?_
              refine z_sub [3, 4, 5, 6, 7, 8, 9, 10, 11, 12, 13, 1, 0] (lv' := [(0, va_rf (some f0)), (1, va_rf (some f1)), (2, va_rf (some f2)), (3, .int f3), (4, .int f4), (5, .int f5), (6, .int f6), (7, .int f7), (8, .int f8), (9, .int f9), (10, .int f10), (11, .int (0 : Int32)), (12, .int (w12 + (1 : Int32)))]) rfl ?_
              refine z_wide (kc' := 552 - n * 46) (ks' := 17640 - n * 1470) (by omega) (by omega) ?_
              exact ih S36 S2 S (0 : Int32) (w12 + (1 : Int32)) (by omega) t38 t2 h
            · refine z_aload_n (C _) (pc := 593) dL_badges_593 1 rfl ?_
              refine z_iload (C _) (pc := 594) dL_badges_594 8 rfl ?_
              refine z_iload (C _) (pc := 596) dL_badges_596 13 rfl ?_
              obtain ⟨o66, h⟩ := h
              refine z_s1 t38 (fun t67 => ?_)
              refine z_Vi (C _) (pc := 598) (KX := fun _ _ => False) (kc' := (B + 46)) (ks' := (B2 + 1470)) (As := [.int f7, .int w12]) (rest := []) rfl (c_X8_earned_n l v S36 f0 f7 w12) mw_X8_earned bw_240 bw_241 bw_242 ⟨by have h9 : rm_X8_earned_n.cells = 0 := rfl; omega, by omega, by have h9 : rm_X8_earned_n.slots = 0 := rfl; omega, by omega, by decide, by decide⟩ rfl rfl (Nat.le_of_ble_eq_true rfl) (by decide) rfl o66 dL_badges_598 h (fun r69 S68 h => ?_) (fun En S9 h => h.elim)
              refine z_s1' t67 (fun t70 => ?_)
              refine z_iconst (C _) (pc := 601) (x := (-1 : Int32)) dL_badges_601 kic_m1 ?_
              refine z_icmp_eq (C _) (pc := 602) (tgt := 610) dL_badges_602 (by decide) h (fun h => ?_) (fun h => ?_)
              · refine z_aload_n (C _) (pc := 610) dL_badges_610 1 rfl ?_
                refine z_iload (C _) (pc := 611) dL_badges_611 8 rfl ?_
                refine z_iload (C _) (pc := 613) dL_badges_613 13 rfl ?_
                obtain ⟨o71, h⟩ := h
                refine z_s1 t70 (fun t72 => ?_)
                refine z_Vi (C _) (pc := 615) (KX := fun _ _ => False) (kc' := (B + 46)) (ks' := (B2 + 1470)) (As := [.int f7, .int w12]) (rest := []) rfl (c_X8_holds_n l v S68 f0 f7 w12) mw_X8_holds bw_245 bw_246 bw_247 ⟨by have h9 : rm_X8_holds_n.cells = 0 := rfl; omega, by omega, by have h9 : rm_X8_holds_n.slots = 0 := rfl; omega, by omega, by decide, by decide⟩ rfl rfl (Nat.le_of_ble_eq_true rfl) (by decide) rfl o71 dL_badges_615 h (fun r74 S73 h => ?_) (fun En S9 h => h.elim)
                refine z_s1' t72 (fun t75 => ?_)
                refine z_if_eq (C _) (pc := 618) (tgt := 632) dL_badges_618 (by decide) h (fun h => ?_) (fun h => ?_)
                · refine z_iconst (C _) (pc := 632) (x := (1 : Int32)) dL_badges_632 kic_1 ?_
                  refine z_goto (C _) (pc := 633) (tgt := 637) dL_badges_633 (by decide) ?_
                  refine z_istore (C _) (pc := 637) (lv' := [(11, .int (1 : Int32)), (13, .int r37), (0, va_rf (some f0)), (1, va_rf (some f1)), (2, va_rf (some f2)), (3, .int f3), (4, .int f4), (5, .int f5), (6, .int f6), (7, .int f7), (8, .int f8), (9, .int f9), (10, .int f10), (12, .int w12)]) dL_badges_637 (by decide) rfl ?_
                  refine z_iinc (C _) (pc := 639) (y := w12 + (1 : Int32)) (lv' := [(12, .int (w12 + (1 : Int32))), (11, .int (1 : Int32)), (13, .int r37), (0, va_rf (some f0)), (1, va_rf (some f1)), (2, va_rf (some f2)), (3, .int f3), (4, .int f4), (5, .int f5), (6, .int f6), (7, .int f7), (8, .int f8), (9, .int f9), (10, .int f10)]) dL_badges_639 13 rfl rfl (by decide) rfl ?_
                  refine z_goto (C _) (pc := 642) (tgt := 545) dL_badges_642 (by decide) ?_
                  refine z_sub [3, 4, 5, 6, 7, 8, 9, 10, 11, 12, 13, 1, 0] (lv' := [(0, va_rf (some f0)), (1, va_rf (some f1)), (2, va_rf (some f2)), (3, .int f3), (4, .int f4), (5, .int f5), (6, .int f6), (7, .int f7), (8, .int f8), (9, .int f9), (10, .int f10), (11, .int (1 : Int32)), (12, .int (w12 + (1 : Int32)))]) rfl ?_
                  refine z_wide (kc' := 552 - n * 46) (ks' := 17640 - n * 1470) (by omega) (by omega) ?_
                  exact ih S73 S2 S (1 : Int32) (w12 + (1 : Int32)) (by omega) t75 t2 h
                · refine z_aload_n (C _) (pc := 621) dL_badges_621 1 rfl ?_
                  refine z_iload (C _) (pc := 622) dL_badges_622 8 rfl ?_
                  refine z_iload (C _) (pc := 624) dL_badges_624 13 rfl ?_
                  obtain ⟨o76, h⟩ := h
                  refine z_s1 t75 (fun t77 => ?_)
                  refine z_Vi (C _) (pc := 626) (KX := fun _ _ => False) (kc' := (B + 46)) (ks' := (B2 + 1470)) (As := [.int f7, .int w12]) (rest := []) rfl (c_X8_earned_n l v S73 f0 f7 w12) mw_X8_earned bw_240 bw_241 bw_242 ⟨by have h9 : rm_X8_earned_n.cells = 0 := rfl; omega, by omega, by have h9 : rm_X8_earned_n.slots = 0 := rfl; omega, by omega, by decide, by decide⟩ rfl rfl (Nat.le_of_ble_eq_true rfl) (by decide) rfl o76 dL_badges_626 h (fun r79 S78 h => ?_) (fun En S9 h => h.elim)
                  refine z_s1' t77 (fun t80 => ?_)
                  refine z_t_if_lt (C _) (pc := 629) dL_badges_629 dL_badges_632 kic_1 dL_badges_633 dL_badges_636 kic_0 ?_
                  refine z_nI h (fun y81 h => ?_)
                  refine z_istore (C _) (pc := 637) (lv' := [(11, .int y81), (13, .int r37), (0, va_rf (some f0)), (1, va_rf (some f1)), (2, va_rf (some f2)), (3, .int f3), (4, .int f4), (5, .int f5), (6, .int f6), (7, .int f7), (8, .int f8), (9, .int f9), (10, .int f10), (12, .int w12)]) dL_badges_637 (by decide) rfl ?_
                  refine z_iinc (C _) (pc := 639) (y := w12 + (1 : Int32)) (lv' := [(12, .int (w12 + (1 : Int32))), (11, .int y81), (13, .int r37), (0, va_rf (some f0)), (1, va_rf (some f1)), (2, va_rf (some f2)), (3, .int f3), (4, .int f4), (5, .int f5), (6, .int f6), (7, .int f7), (8, .int f8), (9, .int f9), (10, .int f10)]) dL_badges_639 13 rfl rfl (by decide) rfl ?_
                  refine z_goto (C _) (pc := 642) (tgt := 545) dL_badges_642 (by decide) ?_
                  refine z_sub [3, 4, 5, 6, 7, 8, 9, 10, 11, 12, 13, 1, 0] (lv' := [(0, va_rf (some f0)), (1, va_rf (some f1)), (2, va_rf (some f2)), (3, .int f3), (4, .int f4), (5, .int f5), (6, .int f6), (7, .int f7), (8, .int f8), (9, .int f9), (10, .int f10), (11, .int y81), (12, .int (w12 + (1 : Int32)))]) rfl ?_
                  refine z_wide (kc' := 552 - n * 46) (ks' := 17640 - n * 1470) (by omega) (by omega) ?_
                  exact ih S78 S2 S y81 (w12 + (1 : Int32)) (by omega) t80 t2 h
              · refine z_iload (C _) (pc := 605) dL_badges_605 0 rfl ?_
                refine z_if_ne (C _) (pc := 607) (tgt := 636) dL_badges_607 (by decide) h (fun h => ?_) (fun h => ?_)
                · refine z_iconst (C _) (pc := 636) (x := (0 : Int32)) dL_badges_636 kic_0 ?_
                  refine z_istore (C _) (pc := 637) (lv' := [(11, .int (0 : Int32)), (13, .int r37), (0, va_rf (some f0)), (1, va_rf (some f1)), (2, va_rf (some f2)), (3, .int f3), (4, .int f4), (5, .int f5), (6, .int f6), (7, .int f7), (8, .int f8), (9, .int f9), (10, .int f10), (12, .int w12)]) dL_badges_637 (by decide) rfl ?_
                  refine z_iinc (C _) (pc := 639) (y := w12 + (1 : Int32)) (lv' := [(12, .int (w12 + (1 : Int32))), (11, .int (0 : Int32)), (13, .int r37), (0, va_rf (some f0)), (1, va_rf (some f1)), (2, va_rf (some f2)), (3, .int f3), (4, .int f4), (5, .int f5), (6, .int f6), (7, .int f7), (8, .int f8), (9, .int f9), (10, .int f10)]) dL_badges_639 13 rfl rfl (by decide) rfl ?_
                  refine z_goto (C _) (pc := 642) (tgt := 545) dL_badges_642 (by decide) ?_
                  refine z_sub [3, 4, 5, 6, 7, 8, 9, 10, 11, 12, 13, 1, 0] (lv' := [(0, va_rf (some f0)), (1, va_rf (some f1)), (2, va_rf (some f2)), (3, .int f3), (4, .int f4), (5, .int f5), (6, .int f6), (7, .int f7), (8, .int f8), (9, .int f9), (10, .int f10), (11, .int (0 : Int32)), (12, .int (w12 + (1 : Int32)))]) rfl ?_
                  refine z_wide (kc' := 552 - n * 46) (ks' := 17640 - n * 1470) (by omega) (by omega) ?_
                  exact ih S68 S2 S (0 : Int32) (w12 + (1 : Int32)) (by omega) t70 t2 h
                · refine z_aload_n (C _) (pc := 610) dL_badges_610 1 rfl ?_
                  refine z_iload (C _) (pc := 611) dL_badges_611 8 rfl ?_
                  refine z_iload (C _) (pc := 613) dL_badges_613 13 rfl ?_
                  obtain ⟨o82, h⟩ := h
                  refine z_s1 t70 (fun t83 => ?_)
                  refine z_Vi (C _) (pc := 615) (KX := fun _ _ => False) (kc' := (B + 46)) (ks' := (B2 + 1470)) (As := [.int f7, .int w12]) (rest := []) rfl (c_X8_holds_n l v S68 f0 f7 w12) mw_X8_holds bw_245 bw_246 bw_247 ⟨by have h9 : rm_X8_holds_n.cells = 0 := rfl; omega, by omega, by have h9 : rm_X8_holds_n.slots = 0 := rfl; omega, by omega, by decide, by decide⟩ rfl rfl (Nat.le_of_ble_eq_true rfl) (by decide) rfl o82 dL_badges_615 h (fun r85 S84 h => ?_) (fun En S9 h => h.elim)
                  refine z_s1' t83 (fun t86 => ?_)
                  refine z_if_eq (C _) (pc := 618) (tgt := 632) dL_badges_618 (by decide) h (fun h => ?_) (fun h => ?_)
                  · refine z_iconst (C _) (pc := 632) (x := (1 : Int32)) dL_badges_632 kic_1 ?_
                    refine z_goto (C _) (pc := 633) (tgt := 637) dL_badges_633 (by decide) ?_
                    refine z_istore (C _) (pc := 637) (lv' := [(11, .int (1 : Int32)), (13, .int r37), (0, va_rf (some f0)), (1, va_rf (some f1)), (2, va_rf (some f2)), (3, .int f3), (4, .int f4), (5, .int f5), (6, .int f6), (7, .int f7), (8, .int f8), (9, .int f9), (10, .int f10), (12, .int w12)]) dL_badges_637 (by decide) rfl ?_
                    refine z_iinc (C _) (pc := 639) (y := w12 + (1 : Int32)) (lv' := [(12, .int (w12 + (1 : Int32))), (11, .int (1 : Int32)), (13, .int r37), (0, va_rf (some f0)), (1, va_rf (some f1)), (2, va_rf (some f2)), (3, .int f3), (4, .int f4), (5, .int f5), (6, .int f6), (7, .int f7), (8, .int f8), (9, .int f9), (10, .int f10)]) dL_badges_639 13 rfl rfl (by decide) rfl ?_
                    refine z_goto (C _) (pc := 642) (tgt := 545) dL_badges_642 (by decide) ?_
                    refine z_sub [3, 4, 5, 6, 7, 8, 9, 10, 11, 12, 13, 1, 0] (lv' := [(0, va_rf (some f0)), (1, va_rf (some f1)), (2, va_rf (some f2)), (3, .int f3), (4, .int f4), (5, .int f5), (6, .int f6), (7, .int f7), (8, .int f8), (9, .int f9), (10, .int f10), (11, .int (1 : Int32)), (12, .int (w12 + (1 : Int32)))]) rfl ?_
                    refine z_wide (kc' := 552 - n * 46) (ks' := 17640 - n * 1470) (by omega) (by omega) ?_
                    exact ih S84 S2 S (1 : Int32) (w12 + (1 : Int32)) (by omega) t86 t2 h
                  · refine z_aload_n (C _) (pc := 621) dL_badges_621 1 rfl ?_
                    refine z_iload (C _) (pc := 622) dL_badges_622 8 rfl ?_
                    refine z_iload (C _) (pc := 624) dL_badges_624 13 rfl ?_
                    obtain ⟨o87, h⟩ := h
                    refine z_s1 t86 (fun t88 => ?_)
                    refine z_Vi (C _) (pc := 626) (KX := fun _ _ => False) (kc' := (B + 46)) (ks' := (B2 + 1470)) (As := [.int f7, .int w12]) (rest := []) rfl (c_X8_earned_n l v S84 f0 f7 w12) mw_X8_earned bw_240 bw_241 bw_242 ⟨by have h9 : rm_X8_earned_n.cells = 0 := rfl; omega, by omega, by have h9 : rm_X8_earned_n.slots = 0 := rfl; omega, by omega, by decide, by decide⟩ rfl rfl (Nat.le_of_ble_eq_true rfl) (by decide) rfl o87 dL_badges_626 h (fun r90 S89 h => ?_) (fun En S9 h => h.elim)
                    refine z_s1' t88 (fun t91 => ?_)
                    refine z_t_if_lt (C _) (pc := 629) dL_badges_629 dL_badges_632 kic_1 dL_badges_633 dL_badges_636 kic_0 ?_
                    refine z_nI h (fun y92 h => ?_)
                    refine z_istore (C _) (pc := 637) (lv' := [(11, .int y92), (13, .int r37), (0, va_rf (some f0)), (1, va_rf (some f1)), (2, va_rf (some f2)), (3, .int f3), (4, .int f4), (5, .int f5), (6, .int f6), (7, .int f7), (8, .int f8), (9, .int f9), (10, .int f10), (12, .int w12)]) dL_badges_637 (by decide) rfl ?_
                    refine z_iinc (C _) (pc := 639) (y := w12 + (1 : Int32)) (lv' := [(12, .int (w12 + (1 : Int32))), (11, .int y92), (13, .int r37), (0, va_rf (some f0)), (1, va_rf (some f1)), (2, va_rf (some f2)), (3, .int f3), (4, .int f4), (5, .int f5), (6, .int f6), (7, .int f7), (8, .int f8), (9, .int f9), (10, .int f10)]) dL_badges_639 13 rfl rfl (by decide) rfl ?_
                    refine z_goto (C _) (pc := 642) (tgt := 545) dL_badges_642 (by decide) ?_
                    refine z_sub [3, 4, 5, 6, 7, 8, 9, 10, 11, 12, 13, 1, 0] (lv' := [(0, va_rf (some f0)), (1, va_rf (some f1)), (2, va_rf (some f2)), (3, .int f3), (4, .int f4), (5, .int f5), (6, .int f6), (7, .int f7), (8, .int f8), (9, .int f9), (10, .int f10), (11, .int y92), (12, .int (w12 + (1 : Int32)))]) rfl ?_
                    refine z_wide (kc' := 552 - n * 46) (ks' := 17640 - n * 1470) (by omega) (by omega) ?_
                    exact ih S89 S2 S y92 (w12 + (1 : Int32)) (by omega) t91 t2 h
set_option maxHeartbeats 4000000 in
set_option maxRecDepth 100000 in
theorem k_L_badges_B542 (l : Launch) (hfl : l.stackTraces = false) (v : Ev) {x9 : P9} {A : Nat → Prop} {E : State → Prop} {X0 Y : va_W} (C : ∀ X, Cx l v RL cL_badges 14 (some .boolean) "badges" (x9, X, A, E)) (Q : Int32 → Hp → Hp → Hp → Prop) (T : E3 v rm_L_badges (Q3i v) Q X0 Y A E x9) (S1 S2 S : Hp) (t1 : g_T S1 = v.2.2.1) (t2 : g_T S2 = v.2.2.1) (w0 : Nat) (w1 : Nat) (w2 : Nat) (w3 : Int32) (w4 : Int32) (w5 : Int32) (w6 : Int32) (w7 : Int32) (w8 : Int32) (w9 : Int32) (w10 : Int32) (w11 : Int32) (h : wp_L_badges_B542 Q S1 S2 S w0 w1 w2 w3 w4 w5 w6 w7 w8 w9 w10 w11) : ZZ l v 14 rm_L_badges (x9, Y3 v.2.1 Y S1 S2, A, E) 138 4410 S 542 [(0, va_rf (some w0)), (1, va_rf (some w1)), (2, va_rf (some w2)), (3, .int w3), (4, .int w4), (5, .int w5), (6, .int w6), (7, .int w7), (8, .int w8), (9, .int w9), (10, .int w10), (11, .int w11)] [] := by
  unfold wp_L_badges_B542 at h
  refine z_iconst (C _) (pc := 542) (x := (0 : Int32)) dL_badges_542 kic_0 ?_
  refine z_istore (C _) (pc := 543) (lv' := [(12, .int (0 : Int32)), (0, va_rf (some w0)), (1, va_rf (some w1)), (2, va_rf (some w2)), (3, .int w3), (4, .int w4), (5, .int w5), (6, .int w6), (7, .int w7), (8, .int w8), (9, .int w9), (10, .int w10), (11, .int w11)]) dL_badges_543 (by decide) rfl ?_
  obtain ⟨n93, hn9, h⟩ := h
  refine z_sub [1, 2, 3, 4, 5, 6, 7, 8, 9, 10, 11, 12, 0] (lv' := [(0, va_rf (some w0)), (1, va_rf (some w1)), (2, va_rf (some w2)), (3, .int w3), (4, .int w4), (5, .int w5), (6, .int w6), (7, .int w7), (8, .int w8), (9, .int w9), (10, .int w10), (11, .int w11), (12, .int (0 : Int32))]) rfl ?_
  refine z_wide (kc' := 552 - n93 * 46) (ks' := 17640 - n93 * 1470) (by omega) (by omega) ?_
  exact l_L_badges_L545 l hfl v C Q T w0 w1 w2 w3 w4 w5 w6 w7 w8 w9 w10 n93 S1 S2 S w11 (0 : Int32) hn9 t1 t2 h
set_option maxHeartbeats 4000000 in
set_option maxRecDepth 100000 in
theorem k_L_badges_B429 (l : Launch) (hfl : l.stackTraces = false) (v : Ev) {x9 : P9} {A : Nat → Prop} {E : State → Prop} {X0 Y : va_W} (C : ∀ X, Cx l v RL cL_badges 14 (some .boolean) "badges" (x9, X, A, E)) (Q : Int32 → Hp → Hp → Hp → Prop) (T : E3 v rm_L_badges (Q3i v) Q X0 Y A E x9) (S1 S2 S : Hp) (t1 : g_T S1 = v.2.2.1) (t2 : g_T S2 = v.2.2.1) (w0 : Nat) (w1 : Nat) (w2 : Nat) (w3 : Int32) (w4 : Int32) (w5 : Int32) (w6 : Int32) (w7 : Int32) (w8 : Int32) (h : wp_L_badges_B429 Q S1 S2 S w0 w1 w2 w3 w4 w5 w6 w7 w8) : ZZ l v 14 rm_L_badges (x9, Y3 v.2.1 Y S1 S2, A, E) 0 0 S 429 [(0, va_rf (some w0)), (1, va_rf (some w1)), (2, va_rf (some w2)), (3, .int w3), (4, .int w4), (5, .int w5), (6, .int w6), (7, .int w7), (8, .int w8)] [] := by
  unfold wp_L_badges_B429 at h
  refine z_iload (C _) (pc := 429) dL_badges_429 4 rfl ?_
  refine z_bipush (C _) (pc := 431) (x := (6 : Int32)) dL_badges_431 kbp_6 ?_
  refine z_ishr (C _) (pc := 433) dL_badges_433 ?_
  refine z_bipush (C _) (pc := 434) (x := (12 : Int32)) dL_badges_434 kbp_12 ?_
  refine z_Si8 (C _) (pc := 436) (KX := fun _ _ => False) (kc' := 0) (ks' := 0) (As := [.int (w4 >>> ((6 : Int32) &&& 31)), .int (12 : Int32)]) (rest := []) (c_L_some l v S (w4 >>> ((6 : Int32) &&& 31)) (12 : Int32)) mw_L_some bw_101 bw_102 (fit_of rfl) rfl rfl (Nat.le_of_ble_eq_true rfl) dL_badges_436 h (fun r24 S23 h => ?_) (fun En S9 h => h.elim)
  refine z_istore (C _) (pc := 439) (lv' := [(9, .int r24), (0, va_rf (some w0)), (1, va_rf (some w1)), (2, va_rf (some w2)), (3, .int w3), (4, .int w4), (5, .int w5), (6, .int w6), (7, .int w7), (8, .int w8)]) dL_badges_439 (by decide) rfl ?_
  refine z_aload_n (C _) (pc := 441) dL_badges_441 1 rfl ?_
  refine z_aload_n (C _) (pc := 442) dL_badges_442 2 rfl ?_
  refine z_bipush (C _) (pc := 443) (x := (13 : Int32)) dL_badges_443 kbp_13 ?_
  refine z_iload (C _) (pc := 445) dL_badges_445 8 rfl ?_
  refine z_iload (C _) (pc := 447) dL_badges_447 0 rfl ?_
  refine z_iload_n (C _) (pc := 449) dL_badges_449 4 rfl ?_
  refine z_iconst (C _) (pc := 450) (x := (4 : Int32)) dL_badges_450 kic_4 ?_
  refine z_ishr (C _) (pc := 451) dL_badges_451 ?_
  refine z_aload_n (C _) (pc := 452) dL_badges_452 3 rfl ?_
  refine z_iconst (C _) (pc := 453) (x := (2 : Int32)) dL_badges_453 kic_2 ?_
  obtain ⟨o25, h⟩ := h
  obtain ⟨v26, h⟩ := h
  refine z_iald (C _) (pc := 454) dL_badges_454 rfl o25 v26 ?_
  refine z_Si8 (C _) (pc := 455) (KX := fun _ _ => False) (kc' := 0) (ks' := 0) (As := [.int (w3 >>> ((4 : Int32) &&& 31)), .int (g_R S23 w2 (2 : Int32).toNatClampNeg)]) (rest := [.int r24, .int w7, .int (13 : Int32), va_rf (some w1), va_rf (some w0)]) (c_L_some l v S23 (w3 >>> ((4 : Int32) &&& 31)) (g_R S23 w2 (2 : Int32).toNatClampNeg)) mw_L_some bw_101 bw_102 (fit_of rfl) rfl rfl (Nat.le_of_ble_eq_true rfl) dL_badges_455 h (fun r28 S27 h => ?_) (fun En S9 h => h.elim)
  refine z_iconst (C _) (pc := 458) (x := (0 : Int32)) dL_badges_458 kic_0 ?_
  refine z_S3i (C _) (pc := 459) (kc' := 92) (ks' := 2940) (As := [va_rf (some w0), va_rf (some w1), .int (13 : Int32), .int w7, .int r24, .int r28, .int (0 : Int32)]) (rest := []) (c_L_both l hfl v S1 S2 S27 w0 w1 (13 : Int32) w7 r24 r28 (0 : Int32)) mw_L_both bw_364 bw_365 (fit_of rfl) rfl rfl (Nat.le_of_ble_eq_true rfl) t1 t2 dL_badges_459 h (fun r32 S29 S30 S31 t33 t34 h => ?_)
  refine z_istore (C _) (pc := 462) (lv' := [(10, .int r32), (9, .int r24), (0, va_rf (some w0)), (1, va_rf (some w1)), (2, va_rf (some w2)), (3, .int w3), (4, .int w4), (5, .int w5), (6, .int w6), (7, .int w7), (8, .int w8)]) dL_badges_462 (by decide) rfl ?_
  refine z_iload (C _) (pc := 464) dL_badges_464 0 rfl ?_
  refine z_ldc (C _) (pc := 466) (x := (-2000000003 : Int32)) dL_badges_466 bw_778 ?_
  refine z_icmp_ne (C _) (pc := 468) (tgt := 491) dL_badges_468 (by decide) h (fun h => ?_) (fun h => ?_)
  · refine z_iload (C _) (pc := 491) dL_badges_491 0 rfl ?_
    refine z_iload (C _) (pc := 493) dL_badges_493 10 rfl ?_
    refine z_icmp_lt (C _) (pc := 495) (tgt := 539) dL_badges_495 (by decide) h (fun h => ?_) (fun h => ?_)
    · refine z_iconst (C _) (pc := 539) (x := (0 : Int32)) dL_badges_539 kic_0 ?_
      refine z_istore (C _) (pc := 540) (lv' := [(11, .int (0 : Int32)), (10, .int r32), (9, .int r24), (0, va_rf (some w0)), (1, va_rf (some w1)), (2, va_rf (some w2)), (3, .int w3), (4, .int w4), (5, .int w5), (6, .int w6), (7, .int w7), (8, .int w8)]) dL_badges_540 (by decide) rfl ?_
      refine z_sub [3, 4, 5, 6, 7, 8, 9, 10, 11, 2, 1, 0] (lv' := [(0, va_rf (some w0)), (1, va_rf (some w1)), (2, va_rf (some w2)), (3, .int w3), (4, .int w4), (5, .int w5), (6, .int w6), (7, .int w7), (8, .int w8), (9, .int r24), (10, .int r32), (11, .int (0 : Int32))]) rfl ?_
      refine z_wide (kc' := 138) (ks' := 4410) (by decide) (by decide) ?_
      exact k_L_badges_B542 l hfl v C Q T S29 S30 S31 t33 t34 w0 w1 w2 w3 w4 w5 w6 w7 w8 r24 r32 (0 : Int32) h
    · refine z_iload (C _) (pc := 498) dL_badges_498 0 rfl ?_
      refine z_aload_n (C _) (pc := 500) dL_badges_500 2 rfl ?_
      refine z_iload (C _) (pc := 501) dL_badges_501 9 rfl ?_
      refine z_iconst (C _) (pc := 503) (x := (4 : Int32)) dL_badges_503 kic_4 ?_
      obtain ⟨o94, h⟩ := h
      refine z_s1 t33 (fun t95 => ?_)
      refine z_Vi (C _) (pc := 504) (KX := fun _ _ => False) (kc' := 92) (ks' := 2940) (As := [.int w7, .int (4 : Int32)]) (rest := [.int r32]) rfl (c_X8_ofChild_n l v S29 w0 w7 (4 : Int32)) mw_X8_ofChild bw_113 bw_114 bw_115 (fit_of rfl) rfl rfl (Nat.le_of_ble_eq_true rfl) (by decide) rfl o94 dL_badges_504 h (fun r97 S96 h => ?_) (fun En S9 h => h.elim)
      refine z_s1' t95 (fun t98 => ?_)
      refine z_icmp_ne (C _) (pc := 507) (tgt := 539) dL_badges_507 (by decide) h (fun h => ?_) (fun h => ?_)
      · refine z_iconst (C _) (pc := 539) (x := (0 : Int32)) dL_badges_539 kic_0 ?_
        refine z_istore (C _) (pc := 540) (lv' := [(11, .int (0 : Int32)), (10, .int r32), (9, .int r24), (0, va_rf (some w0)), (1, va_rf (some w1)), (2, va_rf (some w2)), (3, .int w3), (4, .int w4), (5, .int w5), (6, .int w6), (7, .int w7), (8, .int w8)]) dL_badges_540 (by decide) rfl ?_
        refine z_sub [3, 4, 5, 6, 7, 8, 9, 10, 11, 2, 1, 0] (lv' := [(0, va_rf (some w0)), (1, va_rf (some w1)), (2, va_rf (some w2)), (3, .int w3), (4, .int w4), (5, .int w5), (6, .int w6), (7, .int w7), (8, .int w8), (9, .int r24), (10, .int r32), (11, .int (0 : Int32))]) rfl ?_
        refine z_wide (kc' := 138) (ks' := 4410) (by decide) (by decide) ?_
        exact k_L_badges_B542 l hfl v C Q T S96 S30 S31 t98 t34 w0 w1 w2 w3 w4 w5 w6 w7 w8 r24 r32 (0 : Int32) h
      · refine z_aload_n (C _) (pc := 510) dL_badges_510 2 rfl ?_
        refine z_bipush (C _) (pc := 511) (x := (13 : Int32)) dL_badges_511 kbp_13 ?_
        refine z_iload (C _) (pc := 513) dL_badges_513 9 rfl ?_
        refine z_iload (C _) (pc := 515) dL_badges_515 1 rfl ?_
        refine z_iload_n (C _) (pc := 517) dL_badges_517 5 rfl ?_
        refine z_iconst (C _) (pc := 518) (x := (4 : Int32)) dL_badges_518 kic_4 ?_
        refine z_ishr (C _) (pc := 519) dL_badges_519 ?_
        refine z_aload_n (C _) (pc := 520) dL_badges_520 4 rfl ?_
        refine z_iconst (C _) (pc := 521) (x := (2 : Int32)) dL_badges_521 kic_2 ?_
        obtain ⟨o99, h⟩ := h
        obtain ⟨v100, h⟩ := h
        refine z_iald (C _) (pc := 522) dL_badges_522 rfl o99 v100 ?_
        refine z_Si8 (C _) (pc := 523) (KX := fun _ _ => False) (kc' := 92) (ks' := 2940) (As := [.int (w3 >>> ((4 : Int32) &&& 31)), .int (g_R S31 w2 (2 : Int32).toNatClampNeg)]) (rest := [.int r24, .int w7, .int (13 : Int32), va_rf (some w0)]) (c_L_some l v S31 (w3 >>> ((4 : Int32) &&& 31)) (g_R S31 w2 (2 : Int32).toNatClampNeg)) mw_L_some bw_101 bw_102 (fit_of rfl) rfl rfl (Nat.le_of_ble_eq_true rfl) dL_badges_523 h (fun r102 S101 h => ?_) (fun En S9 h => h.elim)
        refine z_iconst (C _) (pc := 526) (x := (0 : Int32)) dL_badges_526 kic_0 ?_
        refine z_s1 t98 (fun t103 => ?_)
        refine z_SW (C _) (pc := 527) (kc' := 138) (ks' := 4410) (As := [va_rf (some w0), .int (13 : Int32), .int w7, .int r24, .int r102, .int (0 : Int32)]) (rest := []) (c_L_call l hfl v S96 w0 (13 : Int32) w7 r24 r102 (0 : Int32)) bw_369 bw_0 (by decide +kernel) (n := 6) (by decide +kernel) bw_367 bw_368 (fit_of rfl) rfl rfl (Nat.le_of_ble_eq_true rfl) dL_badges_527 h (fun r105 S104 h => ?_)
        refine z_s1' t103 (fun t106 => ?_)
        refine z_ldc (C _) (pc := 530) (x := (-2000000003 : Int32)) dL_badges_530 bw_778 ?_
        refine z_t_icmp_ne (C _) (pc := 532) dL_badges_532 dL_badges_535 kic_1 dL_badges_536 dL_badges_539 kic_0 ?_
        refine z_nI h (fun y107 h => ?_)
        refine z_istore (C _) (pc := 540) (lv' := [(11, .int y107), (10, .int r32), (9, .int r24), (0, va_rf (some w0)), (1, va_rf (some w1)), (2, va_rf (some w2)), (3, .int w3), (4, .int w4), (5, .int w5), (6, .int w6), (7, .int w7), (8, .int w8)]) dL_badges_540 (by decide) rfl ?_
        refine z_sub [3, 4, 5, 6, 7, 8, 9, 10, 11, 2, 1, 0] (lv' := [(0, va_rf (some w0)), (1, va_rf (some w1)), (2, va_rf (some w2)), (3, .int w3), (4, .int w4), (5, .int w5), (6, .int w6), (7, .int w7), (8, .int w8), (9, .int r24), (10, .int r32), (11, .int y107)]) rfl ?_
        exact k_L_badges_B542 l hfl v C Q T S104 S30 S101 t106 t34 w0 w1 w2 w3 w4 w5 w6 w7 w8 r24 r32 y107 h
  · refine z_aload_n (C _) (pc := 471) dL_badges_471 2 rfl ?_
    refine z_iload (C _) (pc := 472) dL_badges_472 9 rfl ?_
    refine z_iconst (C _) (pc := 474) (x := (4 : Int32)) dL_badges_474 kic_4 ?_
    obtain ⟨o108, h⟩ := h
    refine z_s1 t33 (fun t109 => ?_)
    refine z_Vi (C _) (pc := 475) (KX := fun _ _ => False) (kc' := 92) (ks' := 2940) (As := [.int w7, .int (4 : Int32)]) (rest := []) rfl (c_X8_ofChild_n l v S29 w0 w7 (4 : Int32)) mw_X8_ofChild bw_113 bw_114 bw_115 (fit_of rfl) rfl rfl (Nat.le_of_ble_eq_true rfl) (by decide) rfl o108 dL_badges_475 h (fun r111 S110 h => ?_) (fun En S9 h => h.elim)
    refine z_s1' t109 (fun t112 => ?_)
    refine z_iload (C _) (pc := 478) dL_badges_478 10 rfl ?_
    refine z_icmp_ne (C _) (pc := 480) (tgt := 487) dL_badges_480 (by decide) h (fun h => ?_) (fun h => ?_)
    · refine z_iconst (C _) (pc := 487) (x := (0 : Int32)) dL_badges_487 kic_0 ?_
      refine z_goto (C _) (pc := 488) (tgt := 540) dL_badges_488 (by decide) ?_
      refine z_istore (C _) (pc := 540) (lv' := [(11, .int (0 : Int32)), (10, .int r32), (9, .int r24), (0, va_rf (some w0)), (1, va_rf (some w1)), (2, va_rf (some w2)), (3, .int w3), (4, .int w4), (5, .int w5), (6, .int w6), (7, .int w7), (8, .int w8)]) dL_badges_540 (by decide) rfl ?_
      refine z_sub [3, 4, 5, 6, 7, 8, 9, 10, 11, 2, 1, 0] (lv' := [(0, va_rf (some w0)), (1, va_rf (some w1)), (2, va_rf (some w2)), (3, .int w3), (4, .int w4), (5, .int w5), (6, .int w6), (7, .int w7), (8, .int w8), (9, .int r24), (10, .int r32), (11, .int (0 : Int32))]) rfl ?_
      refine z_wide (kc' := 138) (ks' := 4410) (by decide) (by decide) ?_
      exact k_L_badges_B542 l hfl v C Q T S110 S30 S31 t112 t34 w0 w1 w2 w3 w4 w5 w6 w7 w8 r24 r32 (0 : Int32) h
    · refine z_iconst (C _) (pc := 483) (x := (1 : Int32)) dL_badges_483 kic_1 ?_
      refine z_goto (C _) (pc := 484) (tgt := 540) dL_badges_484 (by decide) ?_
      refine z_istore (C _) (pc := 540) (lv' := [(11, .int (1 : Int32)), (10, .int r32), (9, .int r24), (0, va_rf (some w0)), (1, va_rf (some w1)), (2, va_rf (some w2)), (3, .int w3), (4, .int w4), (5, .int w5), (6, .int w6), (7, .int w7), (8, .int w8)]) dL_badges_540 (by decide) rfl ?_
      refine z_sub [3, 4, 5, 6, 7, 8, 9, 10, 11, 2, 1, 0] (lv' := [(0, va_rf (some w0)), (1, va_rf (some w1)), (2, va_rf (some w2)), (3, .int w3), (4, .int w4), (5, .int w5), (6, .int w6), (7, .int w7), (8, .int w8), (9, .int r24), (10, .int r32), (11, .int (1 : Int32))]) rfl ?_
      refine z_wide (kc' := 138) (ks' := 4410) (by decide) (by decide) ?_
      exact k_L_badges_B542 l hfl v C Q T S110 S30 S31 t112 t34 w0 w1 w2 w3 w4 w5 w6 w7 w8 r24 r32 (1 : Int32) h
set_option maxHeartbeats 4000000 in
set_option maxRecDepth 100000 in
theorem k_L_badges_B293 (l : Launch) (hfl : l.stackTraces = false) (v : Ev) {x9 : P9} {A : Nat → Prop} {E : State → Prop} {X0 Y : va_W} (C : ∀ X, Cx l v RL cL_badges 14 (some .boolean) "badges" (x9, X, A, E)) (Q : Int32 → Hp → Hp → Hp → Prop) (T : E3 v rm_L_badges (Q3i v) Q X0 Y A E x9) (S1 S2 S : Hp) (t1 : g_T S1 = v.2.2.1) (t2 : g_T S2 = v.2.2.1) (w0 : Nat) (w1 : Nat) (w2 : Nat) (w3 : Int32) (w4 : Int32) (w5 : Int32) (w6 : Int32) (w7 : Int32) (w8 : Int32) (h : wp_L_badges_B293 Q S1 S2 S w0 w1 w2 w3 w4 w5 w6 w7 w8) : ZZ l v 14 rm_L_badges (x9, Y3 v.2.1 Y S1 S2, A, E) 0 0 S 293 [(0, va_rf (some w0)), (1, va_rf (some w1)), (2, va_rf (some w2)), (3, .int w3), (4, .int w4), (5, .int w5), (6, .int w6), (7, .int w7), (8, .int w8)] [] := by
  unfold wp_L_badges_B293 at h
  refine z_aload_n (C _) (pc := 293) dL_badges_293 0 rfl ?_
  refine z_aload_n (C _) (pc := 294) dL_badges_294 1 rfl ?_
  refine z_bipush (C _) (pc := 295) (x := (12 : Int32)) dL_badges_295 kbp_12 ?_
  refine z_iload (C _) (pc := 297) dL_badges_297 7 rfl ?_
  refine z_iload (C _) (pc := 299) dL_badges_299 6 rfl ?_
  refine z_iconst (C _) (pc := 301) (x := (0 : Int32)) dL_badges_301 kic_0 ?_
  refine z_iconst (C _) (pc := 302) (x := (0 : Int32)) dL_badges_302 kic_0 ?_
  refine z_S3i (C _) (pc := 303) (kc' := 92) (ks' := 2940) (As := [va_rf (some w0), va_rf (some w1), .int (12 : Int32), .int w7, .int w6, .int (0 : Int32), .int (0 : Int32)]) (rest := []) (c_L_both l hfl v S1 S2 S w0 w1 (12 : Int32) w7 w6 (0 : Int32) (0 : Int32)) mw_L_both bw_364 bw_365 (fit_of rfl) rfl rfl (Nat.le_of_ble_eq_true rfl) t1 t2 dL_badges_303 h (fun r116 S113 S114 S115 t117 t118 h => ?_)
  refine z_istore (C _) (pc := 306) (lv' := [(9, .int r116), (0, va_rf (some w0)), (1, va_rf (some w1)), (2, va_rf (some w2)), (3, .int w3), (4, .int w4), (5, .int w5), (6, .int w6), (7, .int w7), (8, .int w8)]) dL_badges_306 (by decide) rfl ?_
  refine z_aload_n (C _) (pc := 308) dL_badges_308 1 rfl ?_
  refine z_bipush (C _) (pc := 309) (x := (24 : Int32)) dL_badges_309 kbp_24 ?_
  refine z_iload (C _) (pc := 311) dL_badges_311 8 rfl ?_
  refine z_iload (C _) (pc := 313) dL_badges_313 7 rfl ?_
  refine z_iconst (C _) (pc := 315) (x := (0 : Int32)) dL_badges_315 kic_0 ?_
  refine z_iconst (C _) (pc := 316) (x := (0 : Int32)) dL_badges_316 kic_0 ?_
  refine z_s1 t117 (fun t119 => ?_)
  refine z_SW (C _) (pc := 317) (kc' := 138) (ks' := 4410) (As := [va_rf (some w0), .int (24 : Int32), .int w7, .int w6, .int (0 : Int32), .int (0 : Int32)]) (rest := []) (c_L_call l hfl v S113 w0 (24 : Int32) w7 w6 (0 : Int32) (0 : Int32)) bw_369 bw_0 (by decide +kernel) (n := 6) (by decide +kernel) bw_367 bw_368 (fit_of rfl) rfl rfl (Nat.le_of_ble_eq_true rfl) dL_badges_317 h (fun r121 S120 h => ?_)
  refine z_s1' t119 (fun t122 => ?_)
  refine z_istore (C _) (pc := 320) (lv' := [(10, .int r121), (9, .int r116), (0, va_rf (some w0)), (1, va_rf (some w1)), (2, va_rf (some w2)), (3, .int w3), (4, .int w4), (5, .int w5), (6, .int w6), (7, .int w7), (8, .int w8)]) dL_badges_320 (by decide) rfl ?_
  refine z_iload (C _) (pc := 322) dL_badges_322 1 rfl ?_
  refine z_ldc (C _) (pc := 324) (x := (-2000000003 : Int32)) dL_badges_324 bw_778 ?_
  refine z_icmp_ne (C _) (pc := 326) (tgt := 366) dL_badges_326 (by decide) h (fun h => ?_) (fun h => ?_)
  · refine z_iload (C _) (pc := 366) dL_badges_366 1 rfl ?_
    refine z_aload_n (C _) (pc := 368) dL_badges_368 4 rfl ?_
    refine z_iconst (C _) (pc := 369) (x := (4 : Int32)) dL_badges_369 kic_4 ?_
    refine z_iload (C _) (pc := 370) dL_badges_370 8 rfl ?_
    refine z_iadd (C _) (pc := 372) dL_badges_372 ?_
    obtain ⟨o123, h⟩ := h
    obtain ⟨v124, h⟩ := h
    refine z_iald (C _) (pc := 373) dL_badges_373 rfl o123 v124 ?_
    refine z_iconst (C _) (pc := 374) (x := (1 : Int32)) dL_badges_374 kic_1 ?_
    refine z_isub (C _) (pc := 375) dL_badges_375 ?_
    refine z_icmp_ne (C _) (pc := 376) (tgt := 427) dL_badges_376 (by decide) h (fun h => ?_) (fun h => ?_)
    · refine z_iconst (C _) (pc := 427) (x := (0 : Int32)) dL_badges_427 kic_0 ?_
      exact z_zret3 (C _) (pc := 428) T t122 t118 dL_badges_428 (by decide) (by decide) h
    · refine z_iload (C _) (pc := 379) dL_badges_379 0 rfl ?_
      refine z_if_lt (C _) (pc := 381) (tgt := 427) dL_badges_381 (by decide) h (fun h => ?_) (fun h => ?_)
      · refine z_iconst (C _) (pc := 427) (x := (0 : Int32)) dL_badges_427 kic_0 ?_
        exact z_zret3 (C _) (pc := 428) T t122 t118 dL_badges_428 (by decide) (by decide) h
      · refine z_aload_n (C _) (pc := 384) dL_badges_384 2 rfl ?_
        refine z_iload (C _) (pc := 385) dL_badges_385 9 rfl ?_
        refine z_iload (C _) (pc := 387) dL_badges_387 8 rfl ?_
        obtain ⟨o125, h⟩ := h
        refine z_s1 t122 (fun t126 => ?_)
        refine z_Vi (C _) (pc := 389) (KX := fun _ _ => False) (kc' := 138) (ks' := 4410) (As := [.int w7, .int w6]) (rest := []) rfl (c_X8_earned_n l v S120 w0 w7 w6) mw_X8_earned bw_240 bw_241 bw_242 (fit_of rfl) rfl rfl (Nat.le_of_ble_eq_true rfl) (by decide) rfl o125 dL_badges_389 h (fun r128 S127 h => ?_) (fun En S9 h => h.elim)
        refine z_s1' t126 (fun t129 => ?_)
        refine z_iconst (C _) (pc := 392) (x := (-1 : Int32)) dL_badges_392 kic_m1 ?_
        refine z_icmp_eq (C _) (pc := 393) (tgt := 411) dL_badges_393 (by decide) h (fun h => ?_) (fun h => ?_)
        · refine z_aload_n (C _) (pc := 411) dL_badges_411 2 rfl ?_
          refine z_iload (C _) (pc := 412) dL_badges_412 9 rfl ?_
          refine z_iconst (C _) (pc := 414) (x := (4 : Int32)) dL_badges_414 kic_4 ?_
          obtain ⟨o130, h⟩ := h
          refine z_s1 t129 (fun t131 => ?_)
          refine z_Vi (C _) (pc := 415) (KX := fun _ _ => False) (kc' := 138) (ks' := 4410) (As := [.int w7, .int (4 : Int32)]) (rest := []) rfl (c_X8_ofChild_n l v S127 w0 w7 (4 : Int32)) mw_X8_ofChild bw_113 bw_114 bw_115 (fit_of rfl) rfl rfl (Nat.le_of_ble_eq_true rfl) (by decide) rfl o130 dL_badges_415 h (fun r133 S132 h => ?_) (fun En S9 h => h.elim)
          refine z_s1' t131 (fun t134 => ?_)
          refine z_iload (C _) (pc := 418) dL_badges_418 10 rfl ?_
          refine z_t_icmp_lt (C _) (pc := 420) dL_badges_420 dL_badges_423 kic_1 dL_badges_424 dL_badges_427 kic_0 ?_
          exact z_zret3 (C _) (pc := 428) T t134 t118 dL_badges_428 (by decide) (by decide) h
        · refine z_aload_n (C _) (pc := 396) dL_badges_396 2 rfl ?_
          refine z_iload (C _) (pc := 397) dL_badges_397 9 rfl ?_
          refine z_iload (C _) (pc := 399) dL_badges_399 8 rfl ?_
          obtain ⟨o135, h⟩ := h
          refine z_s1 t129 (fun t136 => ?_)
          refine z_Vi (C _) (pc := 401) (KX := fun _ _ => False) (kc' := 138) (ks' := 4410) (As := [.int w7, .int w6]) (rest := []) rfl (c_X8_earned_n l v S127 w0 w7 w6) mw_X8_earned bw_240 bw_241 bw_242 (fit_of rfl) rfl rfl (Nat.le_of_ble_eq_true rfl) (by decide) rfl o135 dL_badges_401 h (fun r138 S137 h => ?_) (fun En S9 h => h.elim)
          refine z_s1' t136 (fun t139 => ?_)
          refine z_aload_n (C _) (pc := 404) dL_badges_404 2 rfl ?_
          obtain ⟨o140, h⟩ := h
          refine z_s1 t139 (fun t141 => ?_)
          refine z_Vi (C _) (pc := 405) (KX := fun _ _ => False) (kc' := 138) (ks' := 4410) (As := []) (rest := [.int r138]) rfl (c_X8_today l v S137 w0) mw_X8_today bw_108 bw_109 bw_110 (fit_of rfl) rfl rfl (Nat.le_of_ble_eq_true rfl) (by decide) rfl o140 dL_badges_405 h (fun r143 S142 h => ?_) (fun En S9 h => h.elim)
          refine z_s1' t141 (fun t144 => ?_)
          refine z_icmp_ne (C _) (pc := 408) (tgt := 427) dL_badges_408 (by decide) h (fun h => ?_) (fun h => ?_)
          · refine z_iconst (C _) (pc := 427) (x := (0 : Int32)) dL_badges_427 kic_0 ?_
            exact z_zret3 (C _) (pc := 428) T t144 t118 dL_badges_428 (by decide) (by decide) h
          · refine z_aload_n (C _) (pc := 411) dL_badges_411 2 rfl ?_
            refine z_iload (C _) (pc := 412) dL_badges_412 9 rfl ?_
            refine z_iconst (C _) (pc := 414) (x := (4 : Int32)) dL_badges_414 kic_4 ?_
            obtain ⟨o145, h⟩ := h
            refine z_s1 t144 (fun t146 => ?_)
            refine z_Vi (C _) (pc := 415) (KX := fun _ _ => False) (kc' := 138) (ks' := 4410) (As := [.int w7, .int (4 : Int32)]) (rest := []) rfl (c_X8_ofChild_n l v S142 w0 w7 (4 : Int32)) mw_X8_ofChild bw_113 bw_114 bw_115 (fit_of rfl) rfl rfl (Nat.le_of_ble_eq_true rfl) (by decide) rfl o145 dL_badges_415 h (fun r148 S147 h => ?_) (fun En S9 h => h.elim)
            refine z_s1' t146 (fun t149 => ?_)
            refine z_iload (C _) (pc := 418) dL_badges_418 10 rfl ?_
            refine z_t_icmp_lt (C _) (pc := 420) dL_badges_420 dL_badges_423 kic_1 dL_badges_424 dL_badges_427 kic_0 ?_
            exact z_zret3 (C _) (pc := 428) T t149 t118 dL_badges_428 (by decide) (by decide) h
  · refine z_aload_n (C _) (pc := 329) dL_badges_329 4 rfl ?_
    refine z_iconst (C _) (pc := 330) (x := (4 : Int32)) dL_badges_330 kic_4 ?_
    refine z_iload (C _) (pc := 331) dL_badges_331 8 rfl ?_
    refine z_iadd (C _) (pc := 333) dL_badges_333 ?_
    obtain ⟨o150, h⟩ := h
    obtain ⟨v151, h⟩ := h
    refine z_iald (C _) (pc := 334) dL_badges_334 rfl o150 v151 ?_
    refine z_t_if_ne (C _) (pc := 335) dL_badges_335 dL_badges_338 kic_1 dL_badges_339 dL_badges_342 kic_0 ?_
    refine z_iload (C _) (pc := 343) dL_badges_343 0 rfl ?_
    refine z_ldc (C _) (pc := 345) (x := (-2000000003 : Int32)) dL_badges_345 bw_778 ?_
    refine z_t_icmp_ne (C _) (pc := 347) dL_badges_347 dL_badges_350 kic_1 dL_badges_351 dL_badges_354 kic_0 ?_
    refine z_icmp_ne (C _) (pc := 355) (tgt := 362) dL_badges_355 (by decide) h (fun h => ?_) (fun h => ?_)
    · refine z_iconst (C _) (pc := 362) (x := (0 : Int32)) dL_badges_362 kic_0 ?_
      refine z_goto (C _) (pc := 363) (tgt := 428) dL_badges_363 (by decide) ?_
      exact z_zret3 (C _) (pc := 428) T t122 t118 dL_badges_428 (by decide) (by decide) h
    · refine z_iconst (C _) (pc := 358) (x := (1 : Int32)) dL_badges_358 kic_1 ?_
      refine z_goto (C _) (pc := 359) (tgt := 428) dL_badges_359 (by decide) ?_
      exact z_zret3 (C _) (pc := 428) T t122 t118 dL_badges_428 (by decide) (by decide) h
set_option maxHeartbeats 4000000 in
set_option maxRecDepth 100000 in
theorem k_L_badges_B265 (l : Launch) (hfl : l.stackTraces = false) (v : Ev) {x9 : P9} {A : Nat → Prop} {E : State → Prop} {X0 Y : va_W} (C : ∀ X, Cx l v RL cL_badges 14 (some .boolean) "badges" (x9, X, A, E)) (Q : Int32 → Hp → Hp → Hp → Prop) (T : E3 v rm_L_badges (Q3i v) Q X0 Y A E x9) (S1 S2 S : Hp) (t1 : g_T S1 = v.2.2.1) (t2 : g_T S2 = v.2.2.1) (w0 : Nat) (w1 : Nat) (w2 : Nat) (w3 : Int32) (w4 : Int32) (w5 : Int32) (w6 : Int32) (h : wp_L_badges_B265 Q S1 S2 S w0 w1 w2 w3 w4 w5 w6) : ZZ l v 14 rm_L_badges (x9, Y3 v.2.1 Y S1 S2, A, E) 0 0 S 265 [(0, va_rf (some w0)), (1, va_rf (some w1)), (2, va_rf (some w2)), (3, .int w3), (4, .int w4), (5, .int w5), (6, .int w6)] [] := by
  unfold wp_L_badges_B265 at h
  refine z_iload (C _) (pc := 265) dL_badges_265 4 rfl ?_
  refine z_iconst (C _) (pc := 267) (x := (3 : Int32)) dL_badges_267 kic_3 ?_
  refine z_ishr (C _) (pc := 268) dL_badges_268 ?_
  refine z_aload_n (C _) (pc := 269) dL_badges_269 2 rfl ?_
  refine z_iconst (C _) (pc := 270) (x := (0 : Int32)) dL_badges_270 kic_0 ?_
  obtain ⟨o14, h⟩ := h
  obtain ⟨v15, h⟩ := h
  refine z_iald (C _) (pc := 271) dL_badges_271 rfl o14 v15 ?_
  refine z_Si8 (C _) (pc := 272) (KX := fun _ _ => False) (kc' := 0) (ks' := 0) (As := [.int (w4 >>> ((3 : Int32) &&& 31)), .int (g_R S w2 (0 : Int32).toNatClampNeg)]) (rest := []) (c_L_some l v S (w4 >>> ((3 : Int32) &&& 31)) (g_R S w2 (0 : Int32).toNatClampNeg)) mw_L_some bw_101 bw_102 (fit_of rfl) rfl rfl (Nat.le_of_ble_eq_true rfl) dL_badges_272 h (fun r17 S16 h => ?_) (fun En S9 h => h.elim)
  refine z_istore (C _) (pc := 275) (lv' := [(7, .int r17), (0, va_rf (some w0)), (1, va_rf (some w1)), (2, va_rf (some w2)), (3, .int w3), (4, .int w4), (5, .int w5), (6, .int w6)]) dL_badges_275 (by decide) rfl ?_
  refine z_aload_n (C _) (pc := 277) dL_badges_277 1 rfl ?_
  refine z_iload (C _) (pc := 278) dL_badges_278 0 rfl ?_
  refine z_iconst (C _) (pc := 280) (x := (4 : Int32)) dL_badges_280 kic_4 ?_
  obtain ⟨o18, h⟩ := h
  refine z_s1 t1 (fun t19 => ?_)
  refine z_Vi (C _) (pc := 281) (KX := fun _ _ => False) (kc' := 0) (ks' := 0) (As := [.int r17, .int (4 : Int32)]) (rest := []) rfl (c_X8_ofChild_n l v S1 w0 r17 (4 : Int32)) mw_X8_ofChild bw_113 bw_114 bw_115 (fit_of rfl) rfl rfl (Nat.le_of_ble_eq_true rfl) (by decide) rfl o18 dL_badges_281 h (fun r21 S20 h => ?_) (fun En S9 h => h.elim)
  refine z_s1' t19 (fun t22 => ?_)
  refine z_istore (C _) (pc := 284) (lv' := [(8, .int r21), (7, .int r17), (0, va_rf (some w0)), (1, va_rf (some w1)), (2, va_rf (some w2)), (3, .int w3), (4, .int w4), (5, .int w5), (6, .int w6)]) dL_badges_284 (by decide) rfl ?_
  refine z_iload (C _) (pc := 286) dL_badges_286 7 rfl ?_
  refine z_bipush (C _) (pc := 288) (x := (6 : Int32)) dL_badges_288 kbp_6 ?_
  refine z_icmp_ge (C _) (pc := 290) (tgt := 429) dL_badges_290 (by decide) h (fun h => ?_) (fun h => ?_)
  · refine z_sub [2, 3, 4, 5, 6, 7, 8, 1, 0] (lv' := [(0, va_rf (some w0)), (1, va_rf (some w1)), (2, va_rf (some w2)), (3, .int w3), (4, .int w4), (5, .int w5), (6, .int w6), (7, .int r17), (8, .int r21)]) rfl ?_
    exact k_L_badges_B429 l hfl v C Q T S20 S2 S16 t22 t2 w0 w1 w2 w3 w4 w5 w6 r17 r21 h
  · refine z_sub [2, 3, 4, 5, 6, 7, 8, 1, 0] (lv' := [(0, va_rf (some w0)), (1, va_rf (some w1)), (2, va_rf (some w2)), (3, .int w3), (4, .int w4), (5, .int w5), (6, .int w6), (7, .int r17), (8, .int r21)]) rfl ?_
    exact k_L_badges_B293 l hfl v C Q T S20 S2 S16 t22 t2 w0 w1 w2 w3 w4 w5 w6 r17 r21 h
set_option maxHeartbeats 4000000 in
set_option maxRecDepth 100000 in
theorem k_L_badges_B228 (l : Launch) (hfl : l.stackTraces = false) (v : Ev) {x9 : P9} {A : Nat → Prop} {E : State → Prop} {X0 Y : va_W} (C : ∀ X, Cx l v RL cL_badges 14 (some .boolean) "badges" (x9, X, A, E)) (Q : Int32 → Hp → Hp → Hp → Prop) (T : E3 v rm_L_badges (Q3i v) Q X0 Y A E x9) (S1 S2 S : Hp) (t1 : g_T S1 = v.2.2.1) (t2 : g_T S2 = v.2.2.1) (w0 : Nat) (w1 : Nat) (w2 : Nat) (w3 : Int32) (w4 : Int32) (w5 : Int32) (w6 : Int32) (h : wp_L_badges_B228 Q S1 S2 S w0 w1 w2 w3 w4 w5 w6) : ZZ l v 14 rm_L_badges (x9, Y3 v.2.1 Y S1 S2, A, E) 0 0 S 228 [(0, va_rf (some w0)), (1, va_rf (some w1)), (2, va_rf (some w2)), (3, .int w3), (4, .int w4), (5, .int w5), (6, .int w6)] [] := by
  unfold wp_L_badges_B228 at h
  refine z_aload_n (C _) (pc := 228) dL_badges_228 2 rfl ?_
  refine z_iconst (C _) (pc := 229) (x := (0 : Int32)) dL_badges_229 kic_0 ?_
  obtain ⟨o5, h⟩ := h
  obtain ⟨v6, h⟩ := h
  refine z_iald (C _) (pc := 230) dL_badges_230 rfl o5 v6 ?_
  refine z_if_eq (C _) (pc := 231) (tgt := 240) dL_badges_231 (by decide) h (fun h => ?_) (fun h => ?_)
  · refine z_aload_n (C _) (pc := 240) dL_badges_240 0 rfl ?_
    refine z_bipush (C _) (pc := 241) (x := (13 : Int32)) dL_badges_241 kbp_13 ?_
    refine z_aload_n (C _) (pc := 243) dL_badges_243 2 rfl ?_
    refine z_iconst (C _) (pc := 244) (x := (0 : Int32)) dL_badges_244 kic_0 ?_
    obtain ⟨v7, h⟩ := h
    refine z_iald (C _) (pc := 245) dL_badges_245 rfl o5 v7 ?_
    refine z_iconst (C _) (pc := 246) (x := (0 : Int32)) dL_badges_246 kic_0 ?_
    refine z_aload_n (C _) (pc := 247) dL_badges_247 2 rfl ?_
    refine z_iconst (C _) (pc := 248) (x := (2 : Int32)) dL_badges_248 kic_2 ?_
    obtain ⟨v8, h⟩ := h
    refine z_iald (C _) (pc := 249) dL_badges_249 rfl o5 v8 ?_
    refine z_iconst (C _) (pc := 250) (x := (0 : Int32)) dL_badges_250 kic_0 ?_
    refine z_s1 t1 (fun t9 => ?_)
    refine z_SW (C _) (pc := 251) (kc' := 46) (ks' := 1470) (As := [va_rf (some w0), .int (13 : Int32), .int (g_R S w2 (0 : Int32).toNatClampNeg), .int (0 : Int32), .int (g_R S w2 (2 : Int32).toNatClampNeg), .int (0 : Int32)]) (rest := []) (c_L_call l hfl v S1 w0 (13 : Int32) (g_R S w2 (0 : Int32).toNatClampNeg) (0 : Int32) (g_R S w2 (2 : Int32).toNatClampNeg) (0 : Int32)) bw_369 bw_0 (by decide +kernel) (n := 6) (by decide +kernel) bw_367 bw_368 (fit_of rfl) rfl rfl (Nat.le_of_ble_eq_true rfl) dL_badges_251 h (fun r11 S10 h => ?_)
    refine z_s1' t9 (fun t12 => ?_)
    refine z_ldc (C _) (pc := 254) (x := (-2000000001 : Int32)) dL_badges_254 bw_776 ?_
    refine z_t_icmp_ne (C _) (pc := 256) dL_badges_256 dL_badges_259 kic_1 dL_badges_260 dL_badges_263 kic_0 ?_
    exact z_zret3 (C _) (pc := 264) T t12 t2 dL_badges_264 (by decide) (by decide) h
  · refine z_aload_n (C _) (pc := 234) dL_badges_234 2 rfl ?_
    refine z_iconst (C _) (pc := 235) (x := (2 : Int32)) dL_badges_235 kic_2 ?_
    obtain ⟨v13, h⟩ := h
    refine z_iald (C _) (pc := 236) dL_badges_236 rfl o5 v13 ?_
    refine z_if_ne (C _) (pc := 237) (tgt := 265) dL_badges_237 (by decide) h (fun h => ?_) (fun h => ?_)
    · refine z_sub [0, 1, 2, 3, 4, 5, 6] (lv' := [(0, va_rf (some w0)), (1, va_rf (some w1)), (2, va_rf (some w2)), (3, .int w3), (4, .int w4), (5, .int w5), (6, .int w6)]) rfl ?_
      exact k_L_badges_B265 l hfl v C Q T S1 S2 S t1 t2 w0 w1 w2 w3 w4 w5 w6 h
    · refine z_aload_n (C _) (pc := 240) dL_badges_240 0 rfl ?_
      refine z_bipush (C _) (pc := 241) (x := (13 : Int32)) dL_badges_241 kbp_13 ?_
      refine z_aload_n (C _) (pc := 243) dL_badges_243 2 rfl ?_
      refine z_iconst (C _) (pc := 244) (x := (0 : Int32)) dL_badges_244 kic_0 ?_
      obtain ⟨v152, h⟩ := h
      refine z_iald (C _) (pc := 245) dL_badges_245 rfl o5 v152 ?_
      refine z_iconst (C _) (pc := 246) (x := (0 : Int32)) dL_badges_246 kic_0 ?_
      refine z_aload_n (C _) (pc := 247) dL_badges_247 2 rfl ?_
      refine z_iconst (C _) (pc := 248) (x := (2 : Int32)) dL_badges_248 kic_2 ?_
      obtain ⟨v153, h⟩ := h
      refine z_iald (C _) (pc := 249) dL_badges_249 rfl o5 v153 ?_
      refine z_iconst (C _) (pc := 250) (x := (0 : Int32)) dL_badges_250 kic_0 ?_
      refine z_s1 t1 (fun t154 => ?_)
      refine z_SW (C _) (pc := 251) (kc' := 46) (ks' := 1470) (As := [va_rf (some w0), .int (13 : Int32), .int (g_R S w2 (0 : Int32).toNatClampNeg), .int (0 : Int32), .int (g_R S w2 (2 : Int32).toNatClampNeg), .int (0 : Int32)]) (rest := []) (c_L_call l hfl v S1 w0 (13 : Int32) (g_R S w2 (0 : Int32).toNatClampNeg) (0 : Int32) (g_R S w2 (2 : Int32).toNatClampNeg) (0 : Int32)) bw_369 bw_0 (by decide +kernel) (n := 6) (by decide +kernel) bw_367 bw_368 (fit_of rfl) rfl rfl (Nat.le_of_ble_eq_true rfl) dL_badges_251 h (fun r156 S155 h => ?_)
      refine z_s1' t154 (fun t157 => ?_)
      refine z_ldc (C _) (pc := 254) (x := (-2000000001 : Int32)) dL_badges_254 bw_776 ?_
      refine z_t_icmp_ne (C _) (pc := 256) dL_badges_256 dL_badges_259 kic_1 dL_badges_260 dL_badges_263 kic_0 ?_
      exact z_zret3 (C _) (pc := 264) T t157 t2 dL_badges_264 (by decide) (by decide) h
set_option maxHeartbeats 4000000 in
set_option maxRecDepth 100000 in
theorem k_L_badges_B165 (l : Launch) (hfl : l.stackTraces = false) (v : Ev) {x9 : P9} {A : Nat → Prop} {E : State → Prop} {X0 Y : va_W} (C : ∀ X, Cx l v RL cL_badges 14 (some .boolean) "badges" (x9, X, A, E)) (Q : Int32 → Hp → Hp → Hp → Prop) (T : E3 v rm_L_badges (Q3i v) Q X0 Y A E x9) (S1 S2 S : Hp) (t1 : g_T S1 = v.2.2.1) (t2 : g_T S2 = v.2.2.1) (w0 : Nat) (w1 : Nat) (w2 : Nat) (w3 : Int32) (w4 : Int32) (w5 : Int32) (w6 : Int32) (w7 : Int32) (w8 : Int32) (w9 : Int32) (w10 : Int32) (w11 : Int32) (w12 : Int32) (h : wp_L_badges_B165 Q S1 S2 S w0 w1 w2 w3 w4 w5 w6 w7 w8 w9 w10 w11 w12) : ZZ l v 14 rm_L_badges (x9, Y3 v.2.1 Y S1 S2, A, E) 20 236 S 165 [(0, va_rf (some w0)), (1, va_rf (some w1)), (2, va_rf (some w2)), (3, .int w3), (4, .int w4), (5, .int w5), (6, .int w6), (7, .int w7), (8, .int w8), (9, .int w9), (10, .int w10), (11, .int w11), (12, .int w12)] [] := by
  unfold wp_L_badges_B165 at h
  refine z_aload_n (C _) (pc := 165) dL_badges_165 2 rfl ?_
  refine z_iconst (C _) (pc := 166) (x := (4 : Int32)) dL_badges_166 kic_4 ?_
  refine z_iload (C _) (pc := 167) dL_badges_167 6 rfl ?_
  refine z_iadd (C _) (pc := 169) dL_badges_169 ?_
  refine z_dup2 (C _) (pc := 170) dL_badges_170 rfl (cat_rf _) ?_
  obtain ⟨o184, h⟩ := h
  obtain ⟨v185, h⟩ := h
  refine z_iald (C _) (pc := 171) dL_badges_171 rfl o184 v185 ?_
  refine z_iload (C _) (pc := 172) dL_badges_172 11 rfl ?_
  refine z_t_if_lt (C _) (pc := 174) dL_badges_174 dL_badges_177 kic_1 dL_badges_178 dL_badges_181 kic_0 ?_
  refine z_iadd (C _) (pc := 182) dL_badges_182 ?_
  obtain ⟨v186, h⟩ := h
  refine z_iast (C _) (pc := 183) dL_badges_183 rfl o184 v186 ?_
  refine z_lt h (fun S187 h => ?_)
  refine z_iload (C _) (pc := 184) dL_badges_184 12 rfl ?_
  refine z_if_eq (C _) (pc := 186) (tgt := 226) dL_badges_186 (by decide) h (fun h => ?_) (fun h => ?_)
  · refine z_iconst (C _) (pc := 226) (x := (0 : Int32)) dL_badges_226 kic_0 ?_
    exact z_zret3 (C _) (pc := 227) T t1 t2 dL_badges_227 (by decide) (by decide) h
  · refine z_iload (C _) (pc := 189) dL_badges_189 11 rfl ?_
    refine z_ldc (C _) (pc := 191) (x := (-2000000003 : Int32)) dL_badges_191 bw_778 ?_
    refine z_icmp_ne (C _) (pc := 193) (tgt := 209) dL_badges_193 (by decide) h (fun h => ?_) (fun h => ?_)
    · refine z_iload (C _) (pc := 209) dL_badges_209 11 rfl ?_
      refine z_aload_n (C _) (pc := 211) dL_badges_211 2 rfl ?_
      refine z_iconst (C _) (pc := 212) (x := (4 : Int32)) dL_badges_212 kic_4 ?_
      refine z_iload (C _) (pc := 213) dL_badges_213 6 rfl ?_
      refine z_iadd (C _) (pc := 215) dL_badges_215 ?_
      obtain ⟨o188, h⟩ := h
      obtain ⟨v189, h⟩ := h
      refine z_iald (C _) (pc := 216) dL_badges_216 rfl o188 v189 ?_
      refine z_iconst (C _) (pc := 217) (x := (1 : Int32)) dL_badges_217 kic_1 ?_
      refine z_isub (C _) (pc := 218) dL_badges_218 ?_
      refine z_t_icmp_ne (C _) (pc := 219) dL_badges_219 dL_badges_222 kic_1 dL_badges_223 dL_badges_226 kic_0 ?_
      exact z_zret3 (C _) (pc := 227) T t1 t2 dL_badges_227 (by decide) (by decide) h
    · refine z_aload_n (C _) (pc := 196) dL_badges_196 2 rfl ?_
      refine z_iconst (C _) (pc := 197) (x := (4 : Int32)) dL_badges_197 kic_4 ?_
      refine z_iload (C _) (pc := 198) dL_badges_198 6 rfl ?_
      refine z_iadd (C _) (pc := 200) dL_badges_200 ?_
      obtain ⟨o190, h⟩ := h
      obtain ⟨v191, h⟩ := h
      refine z_iald (C _) (pc := 201) dL_badges_201 rfl o190 v191 ?_
      refine z_iconst (C _) (pc := 202) (x := (3 : Int32)) dL_badges_202 kic_3 ?_
      refine z_icmp_ne (C _) (pc := 203) (tgt := 226) dL_badges_203 (by decide) h (fun h => ?_) (fun h => ?_)
      · refine z_iconst (C _) (pc := 226) (x := (0 : Int32)) dL_badges_226 kic_0 ?_
        exact z_zret3 (C _) (pc := 227) T t1 t2 dL_badges_227 (by decide) (by decide) h
      · refine z_goto (C _) (pc := 206) (tgt := 222) dL_badges_206 (by decide) ?_
        refine z_iconst (C _) (pc := 222) (x := (1 : Int32)) dL_badges_222 kic_1 ?_
        refine z_goto (C _) (pc := 223) (tgt := 227) dL_badges_223 (by decide) ?_
        exact z_zret3 (C _) (pc := 227) T t1 t2 dL_badges_227 (by decide) (by decide) h
set_option maxHeartbeats 4000000 in
set_option maxRecDepth 100000 in
theorem k_L_badges_B87 (l : Launch) (hfl : l.stackTraces = false) (v : Ev) {x9 : P9} {A : Nat → Prop} {E : State → Prop} {X0 Y : va_W} (C : ∀ X, Cx l v RL cL_badges 14 (some .boolean) "badges" (x9, X, A, E)) (Q : Int32 → Hp → Hp → Hp → Prop) (T : E3 v rm_L_badges (Q3i v) Q X0 Y A E x9) (S1 S2 S : Hp) (t1 : g_T S1 = v.2.2.1) (t2 : g_T S2 = v.2.2.1) (w0 : Nat) (w1 : Nat) (w2 : Nat) (w3 : Int32) (w4 : Int32) (w5 : Int32) (w6 : Int32) (w7 : Int32) (w8 : Int32) (w9 : Int32) (w10 : Int32) (h : wp_L_badges_B87 Q S1 S2 S w0 w1 w2 w3 w4 w5 w6 w7 w8 w9 w10) : ZZ l v 14 rm_L_badges (x9, Y3 v.2.1 Y S1 S2, A, E) 0 0 S 87 [(0, va_rf (some w0)), (1, va_rf (some w1)), (2, va_rf (some w2)), (3, .int w3), (4, .int w4), (5, .int w5), (6, .int w6), (7, .int w7), (8, .int w8), (9, .int w9), (10, .int w10)] [] := by
  unfold wp_L_badges_B87 at h
  refine z_aload_n (C _) (pc := 87) dL_badges_87 0 rfl ?_
  refine z_iload (C _) (pc := 88) dL_badges_88 6 rfl ?_
  refine z_iload (C _) (pc := 90) dL_badges_90 7 rfl ?_
  refine z_iload (C _) (pc := 92) dL_badges_92 8 rfl ?_
  refine z_iload (C _) (pc := 94) dL_badges_94 9 rfl ?_
  refine z_iload (C _) (pc := 96) dL_badges_96 10 rfl ?_
  refine z_iload_n (C _) (pc := 98) dL_badges_98 3 rfl ?_
  refine z_bipush (C _) (pc := 99) (x := (7 : Int32)) dL_badges_99 kbp_7 ?_
  refine z_ishr (C _) (pc := 101) dL_badges_101 ?_
  refine z_bipush (C _) (pc := 102) (x := (30 : Int32)) dL_badges_102 kbp_30 ?_
  refine z_Si8 (C _) (pc := 104) (KX := fun _ _ => False) (kc' := 0) (ks' := 0) (As := [.int (w3 >>> ((7 : Int32) &&& 31)), .int (30 : Int32)]) (rest := [.int w10, .int w9, .int w8, .int w7, .int w6, va_rf (some w0)]) (c_L_some l v S (w3 >>> ((7 : Int32) &&& 31)) (30 : Int32)) mw_L_some bw_101 bw_102 (fit_of rfl) rfl rfl (Nat.le_of_ble_eq_true rfl) dL_badges_104 h (fun r168 S167 h => ?_) (fun En S9 h => h.elim)
  refine z_iload_n (C _) (pc := 107) dL_badges_107 3 rfl ?_
  refine z_bipush (C _) (pc := 108) (x := (9 : Int32)) dL_badges_108 kbp_9 ?_
  refine z_ishr (C _) (pc := 110) dL_badges_110 ?_
  refine z_bipush (C _) (pc := 111) (x := (40 : Int32)) dL_badges_111 kbp_40 ?_
  refine z_Si8 (C _) (pc := 113) (KX := fun _ _ => False) (kc' := 0) (ks' := 0) (As := [.int (w3 >>> ((9 : Int32) &&& 31)), .int (40 : Int32)]) (rest := [.int r168, .int w10, .int w9, .int w8, .int w7, .int w6, va_rf (some w0)]) (c_L_some l v S167 (w3 >>> ((9 : Int32) &&& 31)) (40 : Int32)) mw_L_some bw_101 bw_102 (fit_of rfl) rfl rfl (Nat.le_of_ble_eq_true rfl) dL_badges_113 h (fun r170 S169 h => ?_) (fun En S9 h => h.elim)
  refine z_s1 t1 (fun t171 => ?_)
  refine z_SW (C _) (pc := 116) (kc' := 10) (ks' := 118) (As := [va_rf (some w0), .int w6, .int w7, .int w8, .int w9, .int w10, .int r168, .int r170]) (rest := []) (c_L_edition l hfl v S1 w0 w6 w7 w8 w9 w10 r168 r170) bw_788 bw_0 (by decide +kernel) (n := 8) (by decide +kernel) bw_786 bw_787 (fit_of rfl) rfl rfl (Nat.le_of_ble_eq_true rfl) dL_badges_116 h (fun r173 S172 h => ?_)
  refine z_s1' t171 (fun t174 => ?_)
  refine z_istore (C _) (pc := 119) (lv' := [(11, .int r173), (0, va_rf (some w0)), (1, va_rf (some w1)), (2, va_rf (some w2)), (3, .int w3), (4, .int w4), (5, .int w5), (6, .int w6), (7, .int w7), (8, .int w8), (9, .int w9), (10, .int w10)]) dL_badges_119 (by decide) rfl ?_
  refine z_iload (C _) (pc := 121) dL_badges_121 0 rfl ?_
  refine z_aload_n (C _) (pc := 123) dL_badges_123 2 rfl ?_
  refine z_iload (C _) (pc := 124) dL_badges_124 7 rfl ?_
  refine z_iload (C _) (pc := 126) dL_badges_126 8 rfl ?_
  refine z_iload (C _) (pc := 128) dL_badges_128 9 rfl ?_
  refine z_iload (C _) (pc := 130) dL_badges_130 10 rfl ?_
  refine z_iload (C _) (pc := 132) dL_badges_132 11 rfl ?_
  refine z_iload_n (C _) (pc := 134) dL_badges_134 4 rfl ?_
  refine z_bipush (C _) (pc := 135) (x := (7 : Int32)) dL_badges_135 kbp_7 ?_
  refine z_ishr (C _) (pc := 137) dL_badges_137 ?_
  refine z_bipush (C _) (pc := 138) (x := (30 : Int32)) dL_badges_138 kbp_30 ?_
  refine z_Si8 (C _) (pc := 140) (KX := fun _ _ => False) (kc' := 10) (ks' := 118) (As := [.int (w3 >>> ((7 : Int32) &&& 31)), .int (30 : Int32)]) (rest := [.int w10, .int w9, .int w8, .int w7, .int w6, va_rf (some w1), .int r173]) (c_L_some l v S169 (w3 >>> ((7 : Int32) &&& 31)) (30 : Int32)) mw_L_some bw_101 bw_102 (fit_of rfl) rfl rfl (Nat.le_of_ble_eq_true rfl) dL_badges_140 h (fun r176 S175 h => ?_) (fun En S9 h => h.elim)
  refine z_iload_n (C _) (pc := 143) dL_badges_143 4 rfl ?_
  refine z_bipush (C _) (pc := 144) (x := (9 : Int32)) dL_badges_144 kbp_9 ?_
  refine z_ishr (C _) (pc := 146) dL_badges_146 ?_
  refine z_bipush (C _) (pc := 147) (x := (40 : Int32)) dL_badges_147 kbp_40 ?_
  refine z_Si8 (C _) (pc := 149) (KX := fun _ _ => False) (kc' := 10) (ks' := 118) (As := [.int (w3 >>> ((9 : Int32) &&& 31)), .int (40 : Int32)]) (rest := [.int r176, .int w10, .int w9, .int w8, .int w7, .int w6, va_rf (some w1), .int r173]) (c_L_some l v S175 (w3 >>> ((9 : Int32) &&& 31)) (40 : Int32)) mw_L_some bw_101 bw_102 (fit_of rfl) rfl rfl (Nat.le_of_ble_eq_true rfl) dL_badges_149 h (fun r178 S177 h => ?_) (fun En S9 h => h.elim)
  refine z_s2 t2 (fun t179 => ?_)
  refine z_SW (C _) (pc := 152) (kc' := 20) (ks' := 236) (As := [va_rf (some w1), .int w6, .int w7, .int w8, .int w9, .int w10, .int r176, .int r178]) (rest := [.int r173]) (c_L_edition l hfl v S2 w1 w6 w7 w8 w9 w10 r176 r178) bw_788 bw_0 (by decide +kernel) (n := 8) (by decide +kernel) bw_786 bw_787 (fit_of rfl) rfl rfl (Nat.le_of_ble_eq_true rfl) dL_badges_152 h (fun r181 S180 h => ?_)
  refine z_s2' t179 (fun t182 => ?_)
  refine z_t_icmp_ne (C _) (pc := 155) dL_badges_155 dL_badges_158 kic_1 dL_badges_159 dL_badges_162 kic_0 ?_
  refine z_nI h (fun y183 h => ?_)
  refine z_istore (C _) (pc := 163) (lv' := [(12, .int y183), (11, .int r173), (0, va_rf (some w0)), (1, va_rf (some w1)), (2, va_rf (some w2)), (3, .int w3), (4, .int w4), (5, .int w5), (6, .int w6), (7, .int w7), (8, .int w8), (9, .int w9), (10, .int w10)]) dL_badges_163 (by decide) rfl ?_
  refine z_sub [2, 3, 4, 5, 6, 7, 8, 9, 10, 11, 12, 1, 0] (lv' := [(0, va_rf (some w0)), (1, va_rf (some w1)), (2, va_rf (some w2)), (3, .int w3), (4, .int w4), (5, .int w5), (6, .int w6), (7, .int w7), (8, .int w8), (9, .int w9), (10, .int w10), (11, .int r173), (12, .int y183)]) rfl ?_
  exact k_L_badges_B165 l hfl v C Q T S172 S180 S177 t174 t182 w0 w1 w2 w3 w4 w5 w6 w7 w8 w9 w10 r173 y183 h
set_option maxHeartbeats 4000000 in
set_option maxRecDepth 100000 in
theorem k_L_badges_B23 (l : Launch) (hfl : l.stackTraces = false) (v : Ev) {x9 : P9} {A : Nat → Prop} {E : State → Prop} {X0 Y : va_W} (C : ∀ X, Cx l v RL cL_badges 14 (some .boolean) "badges" (x9, X, A, E)) (Q : Int32 → Hp → Hp → Hp → Prop) (T : E3 v rm_L_badges (Q3i v) Q X0 Y A E x9) (S1 S2 S : Hp) (t1 : g_T S1 = v.2.2.1) (t2 : g_T S2 = v.2.2.1) (w0 : Nat) (w1 : Nat) (w2 : Nat) (w3 : Int32) (w4 : Int32) (w5 : Int32) (w6 : Int32) (h : wp_L_badges_B23 Q S1 S2 S w0 w1 w2 w3 w4 w5 w6) : ZZ l v 14 rm_L_badges (x9, Y3 v.2.1 Y S1 S2, A, E) 0 0 S 23 [(0, va_rf (some w0)), (1, va_rf (some w1)), (2, va_rf (some w2)), (3, .int w3), (4, .int w4), (5, .int w5), (6, .int w6)] [] := by
  unfold wp_L_badges_B23 at h
  refine z_iload (C _) (pc := 23) dL_badges_23 4 rfl ?_
  refine z_iconst (C _) (pc := 25) (x := (3 : Int32)) dL_badges_25 kic_3 ?_
  refine z_ishr (C _) (pc := 26) dL_badges_26 ?_
  refine z_bipush (C _) (pc := 27) (x := (64 : Int32)) dL_badges_27 kbp_64 ?_
  refine z_Si8 (C _) (pc := 29) (KX := fun _ _ => False) (kc' := 0) (ks' := 0) (As := [.int (w4 >>> ((3 : Int32) &&& 31)), .int (64 : Int32)]) (rest := []) (c_L_some l v S (w4 >>> ((3 : Int32) &&& 31)) (64 : Int32)) mw_L_some bw_101 bw_102 (fit_of rfl) rfl rfl (Nat.le_of_ble_eq_true rfl) dL_badges_29 h (fun r159 S158 h => ?_) (fun En S9 h => h.elim)
  refine z_istore (C _) (pc := 32) (lv' := [(7, .int r159), (0, va_rf (some w0)), (1, va_rf (some w1)), (2, va_rf (some w2)), (3, .int w3), (4, .int w4), (5, .int w5), (6, .int w6)]) dL_badges_32 (by decide) rfl ?_
  refine z_iload (C _) (pc := 34) dL_badges_34 5 rfl ?_
  refine z_bipush (C _) (pc := 36) (x := (6 : Int32)) dL_badges_36 kbp_6 ?_
  refine z_ishr (C _) (pc := 38) dL_badges_38 ?_
  refine z_sipush (C _) (pc := 39) (x := (1024 : Int32)) dL_badges_39 ksp_1024 ?_
  refine z_Si8 (C _) (pc := 42) (KX := fun _ _ => False) (kc' := 0) (ks' := 0) (As := [.int (w4 >>> ((6 : Int32) &&& 31)), .int (1024 : Int32)]) (rest := []) (c_L_some l v S158 (w4 >>> ((6 : Int32) &&& 31)) (1024 : Int32)) mw_L_some bw_101 bw_102 (fit_of rfl) rfl rfl (Nat.le_of_ble_eq_true rfl) dL_badges_42 h (fun r161 S160 h => ?_) (fun En S9 h => h.elim)
  refine z_iload (C _) (pc := 45) dL_badges_45 0 rfl ?_
  refine z_iconst (C _) (pc := 47) (x := (-1 : Int32)) dL_badges_47 kic_m1 ?_
  refine z_ixor (C _) (pc := 48) dL_badges_48 ?_
  refine z_iand (C _) (pc := 49) dL_badges_49 ?_
  refine z_nI h (fun y162 h => ?_)
  refine z_istore (C _) (pc := 50) (lv' := [(8, .int y162), (7, .int r159), (0, va_rf (some w0)), (1, va_rf (some w1)), (2, va_rf (some w2)), (3, .int w3), (4, .int w4), (5, .int w5), (6, .int w6)]) dL_badges_50 (by decide) rfl ?_
  refine z_iload (C _) (pc := 52) dL_badges_52 0 rfl ?_
  refine z_t_if_ne (C _) (pc := 54) dL_badges_54 dL_badges_57 kic_0 dL_badges_58 dL_badges_61 kic_1 ?_
  refine z_nI h (fun y163 h => ?_)
  refine z_istore (C _) (pc := 62) (lv' := [(9, .int y163), (8, .int y162), (7, .int r159), (0, va_rf (some w0)), (1, va_rf (some w1)), (2, va_rf (some w2)), (3, .int w3), (4, .int w4), (5, .int w5), (6, .int w6)]) dL_badges_62 (by decide) rfl ?_
  refine z_iload (C _) (pc := 64) dL_badges_64 9 rfl ?_
  refine z_if_ne (C _) (pc := 66) (tgt := 73) dL_badges_66 (by decide) h (fun h => ?_) (fun h => ?_)
  · refine z_iload_n (C _) (pc := 73) dL_badges_73 6 rfl ?_
    refine z_iconst (C _) (pc := 74) (x := (4 : Int32)) dL_badges_74 kic_4 ?_
    refine z_ishr (C _) (pc := 75) dL_badges_75 ?_
    refine z_iload (C _) (pc := 76) dL_badges_76 9 rfl ?_
    refine z_iconst (C _) (pc := 78) (x := (1 : Int32)) dL_badges_78 kic_1 ?_
    refine z_iadd (C _) (pc := 79) dL_badges_79 ?_
    refine z_Si8 (C _) (pc := 80) (KX := fun _ _ => False) (kc' := 0) (ks' := 0) (As := [.int (w3 >>> ((4 : Int32) &&& 31)), .int (w6 + (1 : Int32))]) (rest := []) (c_L_some l v S160 (w3 >>> ((4 : Int32) &&& 31)) (w6 + (1 : Int32))) mw_L_some bw_101 bw_102 (fit_of rfl) rfl rfl (Nat.le_of_ble_eq_true rfl) dL_badges_80 h (fun r165 S164 h => ?_) (fun En S9 h => h.elim)
    refine z_iconst (C _) (pc := 83) (x := (1 : Int32)) dL_badges_83 kic_1 ?_
    refine z_isub (C _) (pc := 84) dL_badges_84 ?_
    refine z_nI h (fun y166 h => ?_)
    refine z_istore (C _) (pc := 85) (lv' := [(10, .int y166), (9, .int y163), (8, .int y162), (7, .int r159), (0, va_rf (some w0)), (1, va_rf (some w1)), (2, va_rf (some w2)), (3, .int w3), (4, .int w4), (5, .int w5), (6, .int w6)]) dL_badges_85 (by decide) rfl ?_
    refine z_sub [4, 5, 6, 7, 8, 9, 10, 3, 2, 1, 0] (lv' := [(0, va_rf (some w0)), (1, va_rf (some w1)), (2, va_rf (some w2)), (3, .int w3), (4, .int w4), (5, .int w5), (6, .int w6), (7, .int r159), (8, .int y162), (9, .int y163), (10, .int y166)]) rfl ?_
    exact k_L_badges_B87 l hfl v C Q T S1 S2 S164 t1 t2 w0 w1 w2 w3 w4 w5 w6 r159 y162 y163 y166 h
  · refine z_iconst (C _) (pc := 69) (x := (-1 : Int32)) dL_badges_69 kic_m1 ?_
    refine z_goto (C _) (pc := 70) (tgt := 85) dL_badges_70 (by decide) ?_
    refine z_istore (C _) (pc := 85) (lv' := [(10, .int (-1 : Int32)), (9, .int y163), (8, .int y162), (7, .int r159), (0, va_rf (some w0)), (1, va_rf (some w1)), (2, va_rf (some w2)), (3, .int w3), (4, .int w4), (5, .int w5), (6, .int w6)]) dL_badges_85 (by decide) rfl ?_
    refine z_sub [4, 5, 6, 7, 8, 9, 10, 3, 2, 1, 0] (lv' := [(0, va_rf (some w0)), (1, va_rf (some w1)), (2, va_rf (some w2)), (3, .int w3), (4, .int w4), (5, .int w5), (6, .int w6), (7, .int r159), (8, .int y162), (9, .int y163), (10, .int (-1 : Int32))]) rfl ?_
    exact k_L_badges_B87 l hfl v C Q T S1 S2 S160 t1 t2 w0 w1 w2 w3 w4 w5 w6 r159 y162 y163 (-1 : Int32) h
set_option maxHeartbeats 4000000 in
set_option maxRecDepth 100000 in
theorem c_L_badges (l : Launch) (hfl : l.stackTraces = false) (v : Ev) (S1 S2 S : Hp) (x0 : Nat) (x1 : Nat) (x2 : Nat) (x3 : Int32) (x4 : Int32) : C3 l v yL_badges cL_badges 14 (some .boolean) rm_L_badges [va_rf (some x0), va_rf (some x1), va_rf (some x2), .int x3, .int x4] S1 S2 S (Q3i v) (fun Q => wp_L_badges S1 S2 S x0 x1 x2 x3 x4 Q) := by
  refine z_start3 [(0, va_rf (some x0)), (1, va_rf (some x1)), (2, va_rf (some x2)), (3, .int x3), (4, .int x4)] (by decide +kernel) (by simp only [la_i, la_r, la_n]) (cat_cr (cat_cr (cat_cr (cat_ci (cat_ci cat_nil))))) (by simp only [ls_i, ls_r, ls_n]; decide) (fun x9 A E Y Q h t1 t2 C T => ?_)
  unfold wp_L_badges at h
  refine z_iload_n (C _) (pc := 0) dL_badges_0 3 rfl ?_
  refine z_bipush (C _) (pc := 1) (x := (12 : Int32)) dL_badges_1 kbp_12 ?_
  refine z_Si8 (C _) (pc := 3) (KX := fun _ _ => False) (kc' := 0) (ks' := 0) (As := [.int x3, .int (12 : Int32)]) (rest := []) (c_L_some l v S x3 (12 : Int32)) mw_L_some bw_101 bw_102 (fit_of rfl) rfl rfl (Nat.le_of_ble_eq_true rfl) dL_badges_3 h (fun r2 S1 h => ?_) (fun En S9 h => h.elim)
  refine z_istore (C _) (pc := 6) (lv' := [(5, .int r2), (0, va_rf (some x0)), (1, va_rf (some x1)), (2, va_rf (some x2)), (3, .int x3), (4, .int x4)]) dL_badges_6 (by decide) rfl ?_
  refine z_iload (C _) (pc := 8) dL_badges_8 5 rfl ?_
  refine z_bipush (C _) (pc := 10) (x := (8 : Int32)) dL_badges_10 kbp_8 ?_
  refine z_Si8 (C _) (pc := 12) (KX := fun _ _ => False) (kc' := 0) (ks' := 0) (As := [.int x4, .int (8 : Int32)]) (rest := []) (c_L_some l v S1 x4 (8 : Int32)) mw_L_some bw_101 bw_102 (fit_of rfl) rfl rfl (Nat.le_of_ble_eq_true rfl) dL_badges_12 h (fun r4 S3 h => ?_) (fun En S9 h => h.elim)
  refine z_istore (C _) (pc := 15) (lv' := [(6, .int r4), (5, .int r2), (0, va_rf (some x0)), (1, va_rf (some x1)), (2, va_rf (some x2)), (3, .int x3), (4, .int x4)]) dL_badges_15 (by decide) rfl ?_
  refine z_iload (C _) (pc := 17) dL_badges_17 1 rfl ?_
  refine z_iconst (C _) (pc := 19) (x := (3 : Int32)) dL_badges_19 kic_3 ?_
  refine z_icmp_ge (C _) (pc := 20) (tgt := 228) dL_badges_20 (by decide) h (fun h => ?_) (fun h => ?_)
  · refine z_sub [2, 3, 4, 5, 6, 1, 0] (lv' := [(0, va_rf (some x0)), (1, va_rf (some x1)), (2, va_rf (some x2)), (3, .int x3), (4, .int x4), (5, .int r2), (6, .int r4)]) rfl ?_
    exact k_L_badges_B228 l hfl v C Q T S1 S2 S3 t1 t2 x0 x1 x2 x3 x4 r2 r4 h
  · refine z_sub [2, 3, 4, 5, 6, 1, 0] (lv' := [(0, va_rf (some x0)), (1, va_rf (some x1)), (2, va_rf (some x2)), (3, .int x3), (4, .int x4), (5, .int r2), (6, .int r4)]) rfl ?_
    exact k_L_badges_B23 l hfl v C Q T S1 S2 S3 t1 t2 x0 x1 x2 x3 x4 r2 r4 h
