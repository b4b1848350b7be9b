def wp_X9_init_L283 (f0 : Nat) (Q : Hp → Prop) : Nat → Hp → Int32 → Prop
  | 0, _, _ => False
  | n + 1, S, w1 => if (24 : Int32) ≤ w1 then (Q S) else (okA S 9 f0 ∧ (rd S 11 (g_P S 921 f0) (fun a102 => vp_in w1 (g_N S a102) ∧ (lt (s_R S a102 w1.toNatClampNeg (-1 : Int32)) (fun S106 => wp_X9_init_L283 f0 Q n S106 (w1 + (1 : Int32)))))))
def wp_X9_init_L252 (f0 : Nat) (Q : Hp → Prop) : Nat → Hp → Int32 → Prop
  | 0, _, _ => False
  | n + 1, S, w1 => if (48 : Int32) ≤ w1 then (∃ n107, wp_X9_init_L283 f0 Q n107 S (0 : Int32)) else (okA S 9 f0 ∧ (if (w1 - w1 / (2 : Int32) * (2 : Int32)) = 0 then (rd S 11 (g_P S 920 f0) (fun a114 => vp_in w1 (g_N S a114) ∧ (lt (s_R S a114 w1.toNatClampNeg (1 : Int32)) (fun S118 => wp_X9_init_L252 f0 Q n S118 (w1 + (1 : Int32)))))) else (rd S 11 (g_P S 920 f0) (fun a109 => vp_in w1 (g_N S a109) ∧ (lt (s_R S a109 w1.toNatClampNeg (0 : Int32)) (fun S113 => wp_X9_init_L252 f0 Q n S113 (w1 + (1 : Int32))))))))
def wp_X9_init_L230 (f0 : Nat) (Q : Hp → Prop) : Nat → Hp → Int32 → Prop
  | 0, _, _ => False
  | n + 1, S, w1 => if (192 : Int32) ≤ w1 then (∃ n119, wp_X9_init_L252 f0 Q n119 S (0 : Int32)) else (okA S 9 f0 ∧ (rd S 11 (g_P S 917 f0) (fun a121 => vp_in w1 (g_N S a121) ∧ (lt (s_R S a121 w1.toNatClampNeg (-1 : Int32)) (fun S125 => wp_X9_init_L230 f0 Q n S125 (w1 + (1 : Int32)))))))
def wp_X9_init_L208 (f0 : Nat) (Q : Hp → Prop) : Nat → Hp → Int32 → Prop
  | 0, _, _ => False
  | n + 1, S, w1 => if (384 : Int32) ≤ w1 then (∃ n126, wp_X9_init_L230 f0 Q n126 S (0 : Int32)) else (okA S 9 f0 ∧ (rd S 11 (g_P S 916 f0) (fun a128 => vp_in w1 (g_N S a128) ∧ (lt (s_R S a128 w1.toNatClampNeg (-1 : Int32)) (fun S132 => wp_X9_init_L208 f0 Q n S132 (w1 + (1 : Int32)))))))
def wp_X9_init (S : Hp) (x0 : Nat) (Q : Hp → Prop) : Prop :=
  (∀ a1, a1 ∉ g_L S → lt (n_A 11 S a1 6) (fun S2 => okA S2 9 x0 ∧ (lt (s_P S2 902 x0 (some a1)) (fun S4 => (∀ a5, a5 ∉ g_L S4 → lt (n_A 11 S4 a5 6) (fun S6 => okA S6 9 x0 ∧ (lt (s_P S6 903 x0 (some a5)) (fun S8 => (∀ a9, a9 ∉ g_L S8 → lt (n_A 11 S8 a9 6) (fun S10 => okA S10 9 x0 ∧ (lt (s_P S10 904 x0 (some a9)) (fun S12 => (∀ a13, a13 ∉ g_L S12 → lt (n_A 11 S12 a13 24) (fun S14 => okA S14 9 x0 ∧ (lt (s_P S14 906 x0 (some a13)) (fun S16 => (∀ a17, a17 ∉ g_L S16 → lt (n_A 11 S16 a17 24) (fun S18 => okA S18 9 x0 ∧ (lt (s_P S18 907 x0 (some a17)) (fun S20 => (∀ a21, a21 ∉ g_L S20 → lt (n_A 11 S20 a21 24) (fun S22 => okA S22 9 x0 ∧ (lt (s_P S22 908 x0 (some a21)) (fun S24 => (∀ a25, a25 ∉ g_L S24 → lt (n_A 11 S24 a25 24) (fun S26 => okA S26 9 x0 ∧ (lt (s_P S26 909 x0 (some a25)) (fun S28 => (∀ a29, a29 ∉ g_L S28 → lt (n_A 11 S28 a29 24) (fun S30 => okA S30 9 x0 ∧ (lt (s_P S30 911 x0 (some a29)) (fun S32 => (∀ a33, a33 ∉ g_L S32 → lt (n_A 11 S32 a33 24) (fun S34 => okA S34 9 x0 ∧ (lt (s_P S34 912 x0 (some a33)) (fun S36 => (∀ a37, a37 ∉ g_L S36 → lt (n_A 11 S36 a37 24) (fun S38 => okA S38 9 x0 ∧ (lt (s_P S38 913 x0 (some a37)) (fun S40 => (∀ a41, a41 ∉ g_L S40 → lt (n_A 11 S40 a41 24) (fun S42 => okA S42 9 x0 ∧ (lt (s_P S42 914 x0 (some a41)) (fun S44 => (∀ a45, a45 ∉ g_L S44 → lt (n_A 12 S44 a45 24) (fun S46 => okA S46 9 x0 ∧ (lt (s_P S46 915 x0 (some a45)) (fun S48 => (∀ a49, a49 ∉ g_L S48 → lt (n_A 11 S48 a49 384) (fun S50 => okA S50 9 x0 ∧ (lt (s_P S50 916 x0 (some a49)) (fun S52 => (∀ a53, a53 ∉ g_L S52 → lt (n_A 11 S52 a53 192) (fun S54 => okA S54 9 x0 ∧ (lt (s_P S54 917 x0 (some a53)) (fun S56 => (∀ a57, a57 ∉ g_L S56 → lt (n_A 11 S56 a57 192) (fun S58 => okA S58 9 x0 ∧ (lt (s_P S58 918 x0 (some a57)) (fun S60 => (∀ a61, a61 ∉ g_L S60 → lt (n_A 11 S60 a61 48) (fun S62 => okA S62 9 x0 ∧ (lt (s_P S62 920 x0 (some a61)) (fun S64 => (∀ a65, a65 ∉ g_L S64 → lt (n_A 11 S64 a65 24) (fun S66 => okA S66 9 x0 ∧ (lt (s_P S66 921 x0 (some a65)) (fun S68 => (∀ a69, a69 ∉ g_L S68 → lt (n_A 11 S68 a69 8) (fun S70 => okA S70 9 x0 ∧ (lt (s_P S70 922 x0 (some a69)) (fun S72 => (∀ a73, a73 ∉ g_L S72 → lt (n_A 11 S72 a73 8) (fun S74 => okA S74 9 x0 ∧ (lt (s_P S74 923 x0 (some a73)) (fun S76 => (∀ a77, a77 ∉ g_L S76 → lt (n_A 11 S76 a77 144) (fun S78 => okA S78 9 x0 ∧ (lt (s_P S78 924 x0 (some a77)) (fun S80 => (∀ a81, a81 ∉ g_L S80 → lt (n_A 11 S80 a81 8) (fun S82 => okA S82 9 x0 ∧ (lt (s_P S82 925 x0 (some a81)) (fun S84 => (∀ a85, a85 ∉ g_L S84 → lt (n_A 11 S84 a85 120) (fun S86 => okA S86 9 x0 ∧ (lt (s_P S86 927 x0 (some a85)) (fun S88 => (∀ a89, a89 ∉ g_L S88 → lt (n_A 11 S88 a89 20) (fun S90 => okA S90 9 x0 ∧ (lt (s_P S90 928 x0 (some a89)) (fun S92 => (∀ a93, a93 ∉ g_L S92 → lt (n_A 11 S92 a93 4) (fun S94 => okA S94 9 x0 ∧ (lt (s_P S94 929 x0 (some a93)) (fun S96 => (∀ a97, a97 ∉ g_L S96 → lt (n_A 11 S96 a97 4) (fun S98 => okA S98 9 x0 ∧ (lt (s_P S98 930 x0 (some a97)) (fun S100 => ∃ n133, wp_X9_init_L208 x0 Q n133 S100 (0 : Int32)))))))))))))))))))))))))))))))))))))))))))))))))))))))))))))))))))))))))))))))))))))))))))))))))))))
def rm_X9_init : Room := { frames := 1, cells := 25, slots := 1390, locals := 12 }
set_option maxHeartbeats 4000000 in
set_option maxRecDepth 100000 in
theorem l_X9_init_L283 (l : Launch) (v : Ev) (f0 : Nat) (Q : Hp → Prop) {EQ : String → Hp → Prop} {z : Z9} (C : Cx l v RX9 cX9_init 2 none "<init>" z) (N : NT z) (T : EE v rm_X9_init (QV v Q) EQ z) : ∀ (n : Nat) (S : Hp) (w1 : Int32), wp_X9_init_L283 f0 Q n S w1 → ZZ l v 2 rm_X9_init z 25 1390 S 283 [(0, va_rf (some f0)), (1, .int w1)] [] := by
  intro n
  induction n with
  | zero =>
    intro S w1 h
    exact h.elim
  | succ n ih =>
    intro S w1 h
    unfold wp_X9_init_L283 at h
    refine z_iload_n C (pc := 283) dX9_init_283 1 rfl ?_
    refine z_bipush C (pc := 284) (x := (24 : Int32)) dX9_init_284 kbp_24 ?_
    refine z_icmp_ge C (pc := 286) (tgt := 302) dX9_init_286 (by decide) h (fun h => ?_) (fun h => ?_)
    · exact z_vret C (pc := 302) T dX9_init_302 (by decide) (by decide) h
    · refine z_aload_n C (pc := 289) dX9_init_289 0 rfl ?_
      obtain ⟨o101, h⟩ := h
      refine z_getP C (pc := 290) kf9 21 (by decide) rfl bw_929 (fun _ _ _ _ h => h) dX9_init_290 rfl o101 ?_
      refine z_iload_n C (pc := 293) dX9_init_293 1 rfl ?_
      refine z_iconst C (pc := 294) (x := (-1 : Int32)) dX9_init_294 kic_m1 ?_
      obtain ⟨a102, e103, o104, h⟩ := h
      obtain ⟨v105, h⟩ := h
      refine z_iast C (pc := 295) dX9_init_295 e103 o104 v105 ?_
      refine z_lt h (fun S106 h => ?_)
      refine z_iinc C (pc := 296) (y := w1 + (1 : Int32)) (lv' := [(1, .int (w1 + (1 : Int32))), (0, va_rf (some f0))]) dX9_init_296 1 rfl rfl (by decide) rfl ?_
      refine z_goto C (pc := 299) (tgt := 283) dX9_init_299 (by decide) ?_
      refine z_sub [1, 0] (lv' := [(0, va_rf (some f0)), (1, .int (w1 + (1 : Int32)))]) rfl ?_
      exact ih S106 (w1 + (1 : Int32)) h
set_option maxHeartbeats 4000000 in
set_option maxRecDepth 100000 in
theorem l_X9_init_L252 (l : Launch) (v : Ev) (f0 : Nat) (Q : Hp → Prop) {EQ : String → Hp → Prop} {z : Z9} (C : Cx l v RX9 cX9_init 2 none "<init>" z) (N : NT z) (T : EE v rm_X9_init (QV v Q) EQ z) : ∀ (n : Nat) (S : Hp) (w1 : Int32), wp_X9_init_L252 f0 Q n S w1 → ZZ l v 2 rm_X9_init z 25 1390 S 252 [(0, va_rf (some f0)), (1, .int w1)] [] := by
  intro n
  induction n with
  | zero =>
    intro S w1 h
    exact h.elim
  | succ n ih =>
    intro S w1 h
    unfold wp_X9_init_L252 at h
    refine z_iload_n C (pc := 252) dX9_init_252 1 rfl ?_
    refine z_bipush C (pc := 253) (x := (48 : Int32)) dX9_init_253 kbp_48 ?_
    refine z_icmp_ge C (pc := 255) (tgt := 281) dX9_init_255 (by decide) h (fun h => ?_) (fun h => ?_)
    · refine z_iconst C (pc := 281) (x := (0 : Int32)) dX9_init_281 kic_0 ?_
      refine z_istore_n C (pc := 282) (lv' := [(1, .int (0 : Int32)), (0, va_rf (some f0))]) dX9_init_282 (by decide) rfl ?_
      obtain ⟨n107, h⟩ := h
      refine z_sub [1, 0] (lv' := [(0, va_rf (some f0)), (1, .int (0 : Int32))]) rfl ?_
      exact l_X9_init_L283 l v f0 Q C N T n107 S (0 : Int32) h
    · refine z_aload_n C (pc := 258) dX9_init_258 0 rfl ?_
      obtain ⟨o108, h⟩ := h
      refine z_getP C (pc := 259) kf9 20 (by decide) rfl bw_928 (fun _ _ _ _ h => h) dX9_init_259 rfl o108 ?_
      refine z_iload_n C (pc := 262) dX9_init_262 1 rfl ?_
      refine z_iload_n C (pc := 263) dX9_init_263 1 rfl ?_
      refine z_iconst C (pc := 264) (x := (2 : Int32)) dX9_init_264 kic_2 ?_
      refine z_irem C (pc := 265) dX9_init_265 (by decide) ?_
      refine z_if_ne C (pc := 266) (tgt := 273) dX9_init_266 (by decide) h (fun h => ?_) (fun h => ?_)
      · refine z_iconst C (pc := 273) (x := (0 : Int32)) dX9_init_273 kic_0 ?_
        obtain ⟨a109, e110, o111, h⟩ := h
        obtain ⟨v112, h⟩ := h
        refine z_iast C (pc := 274) dX9_init_274 e110 o111 v112 ?_
        refine z_lt h (fun S113 h => ?_)
        refine z_iinc C (pc := 275) (y := w1 + (1 : Int32)) (lv' := [(1, .int (w1 + (1 : Int32))), (0, va_rf (some f0))]) dX9_init_275 1 rfl rfl (by decide) rfl ?_
        refine z_goto C (pc := 278) (tgt := 252) dX9_init_278 (by decide) ?_
        refine z_sub [1, 0] (lv' := [(0, va_rf (some f0)), (1, .int (w1 + (1 : Int32)))]) rfl ?_
        exact ih S113 (w1 + (1 : Int32)) h
      · refine z_iconst C (pc := 269) (x := (1 : Int32)) dX9_init_269 kic_1 ?_
        refine z_goto C (pc := 270) (tgt := 274) dX9_init_270 (by decide) ?_
        obtain ⟨a114, e115, o116, h⟩ := h
        obtain ⟨v117, h⟩ := h
        refine z_iast C (pc := 274) dX9_init_274 e115 o116 v117 ?_
        refine z_lt h (fun S118 h => ?_)
        refine z_iinc C (pc := 275) (y := w1 + (1 : Int32)) (lv' := [(1, .int (w1 + (1 : Int32))), (0, va_rf (some f0))]) dX9_init_275 1 rfl rfl (by decide) rfl ?_
        refine z_goto C (pc := 278) (tgt := 252) dX9_init_278 (by decide) ?_
        refine z_sub [1, 0] (lv' := [(0, va_rf (some f0)), (1, .int (w1 + (1 : Int32)))]) rfl ?_
        exact ih S118 (w1 + (1 : Int32)) h
set_option maxHeartbeats 4000000 in
set_option maxRecDepth 100000 in
theorem l_X9_init_L230 (l : Launch) (v : Ev) (f0 : Nat) (Q : Hp → Prop) {EQ : String → Hp → Prop} {z : Z9} (C : Cx l v RX9 cX9_init 2 none "<init>" z) (N : NT z) (T : EE v rm_X9_init (QV v Q) EQ z) : ∀ (n : Nat) (S : Hp) (w1 : Int32), wp_X9_init_L230 f0 Q n S w1 → ZZ l v 2 rm_X9_init z 25 1390 S 230 [(0, va_rf (some f0)), (1, .int w1)] [] := by
  intro n
  induction n with
  | zero =>
    intro S w1 h
    exact h.elim
  | succ n ih =>
    intro S w1 h
    unfold wp_X9_init_L230 at h
    refine z_iload_n C (pc := 230) dX9_init_230 1 rfl ?_
    refine z_sipush C (pc := 231) (x := (192 : Int32)) dX9_init_231 ksp_192 ?_
    refine z_icmp_ge C (pc := 234) (tgt := 250) dX9_init_234 (by decide) h (fun h => ?_) (fun h => ?_)
    · refine z_iconst C (pc := 250) (x := (0 : Int32)) dX9_init_250 kic_0 ?_
      refine z_istore_n C (pc := 251) (lv' := [(1, .int (0 : Int32)), (0, va_rf (some f0))]) dX9_init_251 (by decide) rfl ?_
      obtain ⟨n119, h⟩ := h
      refine z_sub [1, 0] (lv' := [(0, va_rf (some f0)), (1, .int (0 : Int32))]) rfl ?_
      exact l_X9_init_L252 l v f0 Q C N T n119 S (0 : Int32) h
    · refine z_aload_n C (pc := 237) dX9_init_237 0 rfl ?_
      obtain ⟨o120, h⟩ := h
      refine z_getP C (pc := 238) kf9 17 (by decide) rfl bw_925 (fun _ _ _ _ h => h) dX9_init_238 rfl o120 ?_
      refine z_iload_n C (pc := 241) dX9_init_241 1 rfl ?_
      refine z_iconst C (pc := 242) (x := (-1 : Int32)) dX9_init_242 kic_m1 ?_
      obtain ⟨a121, e122, o123, h⟩ := h
      obtain ⟨v124, h⟩ := h
      refine z_iast C (pc := 243) dX9_init_243 e122 o123 v124 ?_
      refine z_lt h (fun S125 h => ?_)
      refine z_iinc C (pc := 244) (y := w1 + (1 : Int32)) (lv' := [(1, .int (w1 + (1 : Int32))), (0, va_rf (some f0))]) dX9_init_244 1 rfl rfl (by decide) rfl ?_
      refine z_goto C (pc := 247) (tgt := 230) dX9_init_247 (by decide) ?_
      refine z_sub [1, 0] (lv' := [(0, va_rf (some f0)), (1, .int (w1 + (1 : Int32)))]) rfl ?_
      exact ih S125 (w1 + (1 : Int32)) h
set_option maxHeartbeats 4000000 in
set_option maxRecDepth 100000 in
theorem l_X9_init_L208 (l : Launch) (v : Ev) (f0 : Nat) (Q : Hp → Prop) {EQ : String → Hp → Prop} {z : Z9} (C : Cx l v RX9 cX9_init 2 none "<init>" z) (N : NT z) (T : EE v rm_X9_init (QV v Q) EQ z) : ∀ (n : Nat) (S : Hp) (w1 : Int32), wp_X9_init_L208 f0 Q n S w1 → ZZ l v 2 rm_X9_init z 25 1390 S 208 [(0, va_rf (some f0)), (1, .int w1)] [] := by
  intro n
  induction n with
  | zero =>
    intro S w1 h
    exact h.elim
  | succ n ih =>
    intro S w1 h
    unfold wp_X9_init_L208 at h
    refine z_iload_n C (pc := 208) dX9_init_208 1 rfl ?_
    refine z_sipush C (pc := 209) (x := (384 : Int32)) dX9_init_209 ksp_384 ?_
    refine z_icmp_ge C (pc := 212) (tgt := 228) dX9_init_212 (by decide) h (fun h => ?_) (fun h => ?_)
    · refine z_iconst C (pc := 228) (x := (0 : Int32)) dX9_init_228 kic_0 ?_
      refine z_istore_n C (pc := 229) (lv' := [(1, .int (0 : Int32)), (0, va_rf (some f0))]) dX9_init_229 (by decide) rfl ?_
      obtain ⟨n126, h⟩ := h
      refine z_sub [1, 0] (lv' := [(0, va_rf (some f0)), (1, .int (0 : Int32))]) rfl ?_
      exact l_X9_init_L230 l v f0 Q C N T n126 S (0 : Int32) h
    · refine z_aload_n C (pc := 215) dX9_init_215 0 rfl ?_
      obtain ⟨o127, h⟩ := h
      refine z_getP C (pc := 216) kf9 16 (by decide) rfl bw_924 (fun _ _ _ _ h => h) dX9_init_216 rfl o127 ?_
      refine z_iload_n C (pc := 219) dX9_init_219 1 rfl ?_
      refine z_iconst C (pc := 220) (x := (-1 : Int32)) dX9_init_220 kic_m1 ?_
      obtain ⟨a128, e129, o130, h⟩ := h
      obtain ⟨v131, h⟩ := h
      refine z_iast C (pc := 221) dX9_init_221 e129 o130 v131 ?_
      refine z_lt h (fun S132 h => ?_)
      refine z_iinc C (pc := 222) (y := w1 + (1 : Int32)) (lv' := [(1, .int (w1 + (1 : Int32))), (0, va_rf (some f0))]) dX9_init_222 1 rfl rfl (by decide) rfl ?_
      refine z_goto C (pc := 225) (tgt := 208) dX9_init_225 (by decide) ?_
      refine z_sub [1, 0] (lv' := [(0, va_rf (some f0)), (1, .int (w1 + (1 : Int32)))]) rfl ?_
      exact ih S132 (w1 + (1 : Int32)) h
set_option maxHeartbeats 4000000 in
set_option maxRecDepth 100000 in
theorem c_X9_init (l : Launch) (v : Ev) (S : Hp) (x0 : Nat) : CV l v yX9_init cX9_init 2 none rm_X9_init [va_rf (some x0)] S (fun Q _ => wp_X9_init S x0 Q) := by
  intro Q EQ h
  refine z_start [(0, va_rf (some x0))] (by decide +kernel) (by simp only [la_i, la_r, la_n]) (cat_cr cat_nil) (by simp only [ls_i, ls_r, ls_n]; decide) (fun z C N T => ?_)
  unfold wp_X9_init at h
  refine z_aload_n C (pc := 0) dX9_init_0 0 rfl ?_
  refine z_obj C (pc := 1) bw_907 bw_oi bw_oc ⟨by decide, Nat.le_of_ble_eq_true rfl⟩ dX9_init_1 ?_
  refine z_aload_n C (pc := 4) dX9_init_4 0 rfl ?_
  refine z_bipush C (pc := 5) (x := (6 : Int32)) dX9_init_5 kbp_6 ?_
  refine z_newI C (pc := 7) (kc' := 1) (ks' := 6) (lim := 6) bw_434 dX9_init_7 (by decide) (by decide) (by decide) (by decide) (by decide) ⟨by decide, by decide, h⟩ (fun a1 S2 h => ?_)
  obtain ⟨o3, h⟩ := h
  refine z_putFP C (pc := 9) kf9 2 (by decide) rfl rfl rfl rfl bw_910 (fun _ _ _ _ h => h) dX9_init_9 rfl o3 ?_
  refine z_lt h (fun S4 h => ?_)
  refine z_aload_n C (pc := 12) dX9_init_12 0 rfl ?_
  refine z_bipush C (pc := 13) (x := (6 : Int32)) dX9_init_13 kbp_6 ?_
  refine z_newI C (pc := 15) (kc' := 2) (ks' := 12) (lim := 6) bw_434 dX9_init_15 (by decide) (by decide) (by decide) (by decide) (by decide) ⟨by decide, by decide, h⟩ (fun a5 S6 h => ?_)
  obtain ⟨o7, h⟩ := h
  refine z_putFP C (pc := 17) kf9 3 (by decide) rfl rfl rfl rfl bw_911 (fun _ _ _ _ h => h) dX9_init_17 rfl o7 ?_
  refine z_lt h (fun S8 h => ?_)
  refine z_aload_n C (pc := 20) dX9_init_20 0 rfl ?_
  refine z_bipush C (pc := 21) (x := (6 : Int32)) dX9_init_21 kbp_6 ?_
  refine z_newI C (pc := 23) (kc' := 3) (ks' := 18) (lim := 6) bw_434 dX9_init_23 (by decide) (by decide) (by decide) (by decide) (by decide) ⟨by decide, by decide, h⟩ (fun a9 S10 h => ?_)
  obtain ⟨o11, h⟩ := h
  refine z_putFP C (pc := 25) kf9 4 (by decide) rfl rfl rfl rfl bw_912 (fun _ _ _ _ h => h) dX9_init_25 rfl o11 ?_
  refine z_lt h (fun S12 h => ?_)
  refine z_aload_n C (pc := 28) dX9_init_28 0 rfl ?_
  refine z_bipush C (pc := 29) (x := (24 : Int32)) dX9_init_29 kbp_24 ?_
  refine z_newI C (pc := 31) (kc' := 4) (ks' := 42) (lim := 24) bw_434 dX9_init_31 (by decide) (by decide) (by decide) (by decide) (by decide) ⟨by decide, by decide, h⟩ (fun a13 S14 h => ?_)
  obtain ⟨o15, h⟩ := h
  refine z_putFP C (pc := 33) kf9 6 (by decide) rfl rfl rfl rfl bw_914 (fun _ _ _ _ h => h) dX9_init_33 rfl o15 ?_
  refine z_lt h (fun S16 h => ?_)
  refine z_aload_n C (pc := 36) dX9_init_36 0 rfl ?_
  refine z_bipush C (pc := 37) (x := (24 : Int32)) dX9_init_37 kbp_24 ?_
  refine z_newI C (pc := 39) (kc' := 5) (ks' := 66) (lim := 24) bw_434 dX9_init_39 (by decide) (by decide) (by decide) (by decide) (by decide) ⟨by decide, by decide, h⟩ (fun a17 S18 h => ?_)
  obtain ⟨o19, h⟩ := h
  refine z_putFP C (pc := 41) kf9 7 (by decide) rfl rfl rfl rfl bw_915 (fun _ _ _ _ h => h) dX9_init_41 rfl o19 ?_
  refine z_lt h (fun S20 h => ?_)
  refine z_aload_n C (pc := 44) dX9_init_44 0 rfl ?_
  refine z_bipush C (pc := 45) (x := (24 : Int32)) dX9_init_45 kbp_24 ?_
  refine z_newI C (pc := 47) (kc' := 6) (ks' := 90) (lim := 24) bw_434 dX9_init_47 (by decide) (by decide) (by decide) (by decide) (by decide) ⟨by decide, by decide, h⟩ (fun a21 S22 h => ?_)
  obtain ⟨o23, h⟩ := h
  refine z_putFP C (pc := 49) kf9 8 (by decide) rfl rfl rfl rfl bw_916 (fun _ _ _ _ h => h) dX9_init_49 rfl o23 ?_
  refine z_lt h (fun S24 h => ?_)
  refine z_aload_n C (pc := 52) dX9_init_52 0 rfl ?_
  refine z_bipush C (pc := 53) (x := (24 : Int32)) dX9_init_53 kbp_24 ?_
  refine z_newI C (pc := 55) (kc' := 7) (ks' := 114) (lim := 24) bw_434 dX9_init_55 (by decide) (by decide) (by decide) (by decide) (by decide) ⟨by decide, by decide, h⟩ (fun a25 S26 h => ?_)
  obtain ⟨o27, h⟩ := h
  refine z_putFP C (pc := 57) kf9 9 (by decide) rfl rfl rfl rfl bw_917 (fun _ _ _ _ h => h) dX9_init_57 rfl o27 ?_
  refine z_lt h (fun S28 h => ?_)
  refine z_aload_n C (pc := 60) dX9_init_60 0 rfl ?_
  refine z_bipush C (pc := 61) (x := (24 : Int32)) dX9_init_61 kbp_24 ?_
  refine z_newI C (pc := 63) (kc' := 8) (ks' := 138) (lim := 24) bw_434 dX9_init_63 (by decide) (by decide) (by decide) (by decide) (by decide) ⟨by decide, by decide, h⟩ (fun a29 S30 h => ?_)
  obtain ⟨o31, h⟩ := h
  refine z_putFP C (pc := 65) kf9 11 (by decide) rfl rfl rfl rfl bw_919 (fun _ _ _ _ h => h) dX9_init_65 rfl o31 ?_
  refine z_lt h (fun S32 h => ?_)
  refine z_aload_n C (pc := 68) dX9_init_68 0 rfl ?_
  refine z_bipush C (pc := 69) (x := (24 : Int32)) dX9_init_69 kbp_24 ?_
  refine z_newI C (pc := 71) (kc' := 9) (ks' := 162) (lim := 24) bw_434 dX9_init_71 (by decide) (by decide) (by decide) (by decide) (by decide) ⟨by decide, by decide, h⟩ (fun a33 S34 h => ?_)
  obtain ⟨o35, h⟩ := h
  refine z_putFP C (pc := 73) kf9 12 (by decide) rfl rfl rfl rfl bw_920 (fun _ _ _ _ h => h) dX9_init_73 rfl o35 ?_
  refine z_lt h (fun S36 h => ?_)
  refine z_aload_n C (pc := 76) dX9_init_76 0 rfl ?_
  refine z_bipush C (pc := 77) (x := (24 : Int32)) dX9_init_77 kbp_24 ?_
  refine z_newI C (pc := 79) (kc' := 10) (ks' := 186) (lim := 24) bw_434 dX9_init_79 (by decide) (by decide) (by decide) (by decide) (by decide) ⟨by decide, by decide, h⟩ (fun a37 S38 h => ?_)
  obtain ⟨o39, h⟩ := h
  refine z_putFP C (pc := 81) kf9 13 (by decide) rfl rfl rfl rfl bw_921 (fun _ _ _ _ h => h) dX9_init_81 rfl o39 ?_
  refine z_lt h (fun S40 h => ?_)
  refine z_aload_n C (pc := 84) dX9_init_84 0 rfl ?_
  refine z_bipush C (pc := 85) (x := (24 : Int32)) dX9_init_85 kbp_24 ?_
  refine z_newI C (pc := 87) (kc' := 11) (ks' := 210) (lim := 24) bw_434 dX9_init_87 (by decide) (by decide) (by decide) (by decide) (by decide) ⟨by decide, by decide, h⟩ (fun a41 S42 h => ?_)
  obtain ⟨o43, h⟩ := h
  refine z_putFP C (pc := 89) kf9 14 (by decide) rfl rfl rfl rfl bw_922 (fun _ _ _ _ h => h) dX9_init_89 rfl o43 ?_
  refine z_lt h (fun S44 h => ?_)
  refine z_aload_n C (pc := 92) dX9_init_92 0 rfl ?_
  refine z_bipush C (pc := 93) (x := (24 : Int32)) dX9_init_93 kbp_24 ?_
  refine z_newZ C (pc := 95) (kc' := 12) (ks' := 234) (lim := 24) bw_1005 dX9_init_95 (by decide) (by decide) (by decide) (by decide) (by decide) ⟨by decide, by decide, h⟩ (fun a45 S46 h => ?_)
  obtain ⟨o47, h⟩ := h
  refine z_putFP C (pc := 97) kf9 15 (by decide) rfl rfl rfl rfl bw_923 (fun _ _ _ _ h => h) dX9_init_97 rfl o47 ?_
  refine z_lt h (fun S48 h => ?_)
  refine z_aload_n C (pc := 100) dX9_init_100 0 rfl ?_
  refine z_sipush C (pc := 101) (x := (384 : Int32)) dX9_init_101 ksp_384 ?_
  refine z_newI C (pc := 104) (kc' := 13) (ks' := 618) (lim := 384) bw_434 dX9_init_104 (by decide) (by decide) (by decide) (by decide) (by decide) ⟨by decide, by decide, h⟩ (fun a49 S50 h => ?_)
  obtain ⟨o51, h⟩ := h
  refine z_putFP C (pc := 106) kf9 16 (by decide) rfl rfl rfl rfl bw_924 (fun _ _ _ _ h => h) dX9_init_106 rfl o51 ?_
  refine z_lt h (fun S52 h => ?_)
  refine z_aload_n C (pc := 109) dX9_init_109 0 rfl ?_
  refine z_sipush C (pc := 110) (x := (192 : Int32)) dX9_init_110 ksp_192 ?_
  refine z_newI C (pc := 113) (kc' := 14) (ks' := 810) (lim := 192) bw_434 dX9_init_113 (by decide) (by decide) (by decide) (by decide) (by decide) ⟨by decide, by decide, h⟩ (fun a53 S54 h => ?_)
  obtain ⟨o55, h⟩ := h
  refine z_putFP C (pc := 115) kf9 17 (by decide) rfl rfl rfl rfl bw_925 (fun _ _ _ _ h => h) dX9_init_115 rfl o55 ?_
  refine z_lt h (fun S56 h => ?_)
  refine z_aload_n C (pc := 118) dX9_init_118 0 rfl ?_
  refine z_sipush C (pc := 119) (x := (192 : Int32)) dX9_init_119 ksp_192 ?_
  refine z_newI C (pc := 122) (kc' := 15) (ks' := 1002) (lim := 192) bw_434 dX9_init_122 (by decide) (by decide) (by decide) (by decide) (by decide) ⟨by decide, by decide, h⟩ (fun a57 S58 h => ?_)
  obtain ⟨o59, h⟩ := h
  refine z_putFP C (pc := 124) kf9 18 (by decide) rfl rfl rfl rfl bw_926 (fun _ _ _ _ h => h) dX9_init_124 rfl o59 ?_
  refine z_lt h (fun S60 h => ?_)
  refine z_aload_n C (pc := 127) dX9_init_127 0 rfl ?_
  refine z_bipush C (pc := 128) (x := (48 : Int32)) dX9_init_128 kbp_48 ?_
  refine z_newI C (pc := 130) (kc' := 16) (ks' := 1050) (lim := 48) bw_434 dX9_init_130 (by decide) (by decide) (by decide) (by decide) (by decide) ⟨by decide, by decide, h⟩ (fun a61 S62 h => ?_)
  obtain ⟨o63, h⟩ := h
  refine z_putFP C (pc := 132) kf9 20 (by decide) rfl rfl rfl rfl bw_928 (fun _ _ _ _ h => h) dX9_init_132 rfl o63 ?_
  refine z_lt h (fun S64 h => ?_)
  refine z_aload_n C (pc := 135) dX9_init_135 0 rfl ?_
  refine z_bipush C (pc := 136) (x := (24 : Int32)) dX9_init_136 kbp_24 ?_
  refine z_newI C (pc := 138) (kc' := 17) (ks' := 1074) (lim := 24) bw_434 dX9_init_138 (by decide) (by decide) (by decide) (by decide) (by decide) ⟨by decide, by decide, h⟩ (fun a65 S66 h => ?_)
  obtain ⟨o67, h⟩ := h
  refine z_putFP C (pc := 140) kf9 21 (by decide) rfl rfl rfl rfl bw_929 (fun _ _ _ _ h => h) dX9_init_140 rfl o67 ?_
  refine z_lt h (fun S68 h => ?_)
  refine z_aload_n C (pc := 143) dX9_init_143 0 rfl ?_
  refine z_bipush C (pc := 144) (x := (8 : Int32)) dX9_init_144 kbp_8 ?_
  refine z_newI C (pc := 146) (kc' := 18) (ks' := 1082) (lim := 8) bw_434 dX9_init_146 (by decide) (by decide) (by decide) (by decide) (by decide) ⟨by decide, by decide, h⟩ (fun a69 S70 h => ?_)
  obtain ⟨o71, h⟩ := h
  refine z_putFP C (pc := 148) kf9 22 (by decide) rfl rfl rfl rfl bw_930 (fun _ _ _ _ h => h) dX9_init_148 rfl o71 ?_
  refine z_lt h (fun S72 h => ?_)
  refine z_aload_n C (pc := 151) dX9_init_151 0 rfl ?_
  refine z_bipush C (pc := 152) (x := (8 : Int32)) dX9_init_152 kbp_8 ?_
  refine z_newI C (pc := 154) (kc' := 19) (ks' := 1090) (lim := 8) bw_434 dX9_init_154 (by decide) (by decide) (by decide) (by decide) (by decide) ⟨by decide, by decide, h⟩ (fun a73 S74 h => ?_)
  obtain ⟨o75, h⟩ := h
  refine z_putFP C (pc := 156) kf9 23 (by decide) rfl rfl rfl rfl bw_931 (fun _ _ _ _ h => h) dX9_init_156 rfl o75 ?_
  refine z_lt h (fun S76 h => ?_)
  refine z_aload_n C (pc := 159) dX9_init_159 0 rfl ?_
  refine z_sipush C (pc := 160) (x := (144 : Int32)) dX9_init_160 ksp_144 ?_
  refine z_newI C (pc := 163) (kc' := 20) (ks' := 1234) (lim := 144) bw_434 dX9_init_163 (by decide) (by decide) (by decide) (by decide) (by decide) ⟨by decide, by decide, h⟩ (fun a77 S78 h => ?_)
  obtain ⟨o79, h⟩ := h
  refine z_putFP C (pc := 165) kf9 24 (by decide) rfl rfl rfl rfl bw_932 (fun _ _ _ _ h => h) dX9_init_165 rfl o79 ?_
  refine z_lt h (fun S80 h => ?_)
  refine z_aload_n C (pc := 168) dX9_init_168 0 rfl ?_
  refine z_bipush C (pc := 169) (x := (8 : Int32)) dX9_init_169 kbp_8 ?_
  refine z_newI C (pc := 171) (kc' := 21) (ks' := 1242) (lim := 8) bw_434 dX9_init_171 (by decide) (by decide) (by decide) (by decide) (by decide) ⟨by decide, by decide, h⟩ (fun a81 S82 h => ?_)
  obtain ⟨o83, h⟩ := h
  refine z_putFP C (pc := 173) kf9 25 (by decide) rfl rfl rfl rfl bw_933 (fun _ _ _ _ h => h) dX9_init_173 rfl o83 ?_
  refine z_lt h (fun S84 h => ?_)
  refine z_aload_n C (pc := 176) dX9_init_176 0 rfl ?_
  refine z_bipush C (pc := 177) (x := (120 : Int32)) dX9_init_177 kbp_120 ?_
  refine z_newI C (pc := 179) (kc' := 22) (ks' := 1362) (lim := 120) bw_434 dX9_init_179 (by decide) (by decide) (by decide) (by decide) (by decide) ⟨by decide, by decide, h⟩ (fun a85 S86 h => ?_)
  obtain ⟨o87, h⟩ := h
  refine z_putFP C (pc := 181) kf9 27 (by decide) rfl rfl rfl rfl bw_935 (fun _ _ _ _ h => h) dX9_init_181 rfl o87 ?_
  refine z_lt h (fun S88 h => ?_)
  refine z_aload_n C (pc := 184) dX9_init_184 0 rfl ?_
  refine z_bipush C (pc := 185) (x := (20 : Int32)) dX9_init_185 kbp_20 ?_
  refine z_newI C (pc := 187) (kc' := 23) (ks' := 1382) (lim := 20) bw_434 dX9_init_187 (by decide) (by decide) (by decide) (by decide) (by decide) ⟨by decide, by decide, h⟩ (fun a89 S90 h => ?_)
  obtain ⟨o91, h⟩ := h
  refine z_putFP C (pc := 189) kf9 28 (by decide) rfl rfl rfl rfl bw_936 (fun _ _ _ _ h => h) dX9_init_189 rfl o91 ?_
  refine z_lt h (fun S92 h => ?_)
  refine z_aload_n C (pc := 192) dX9_init_192 0 rfl ?_
  refine z_iconst C (pc := 193) (x := (4 : Int32)) dX9_init_193 kic_4 ?_
  refine z_newI C (pc := 194) (kc' := 24) (ks' := 1386) (lim := 4) bw_434 dX9_init_194 (by decide) (by decide) (by decide) (by decide) (by decide) ⟨by decide, by decide, h⟩ (fun a93 S94 h => ?_)
  obtain ⟨o95, h⟩ := h
  refine z_putFP C (pc := 196) kf9 29 (by decide) rfl rfl rfl rfl bw_937 (fun _ _ _ _ h => h) dX9_init_196 rfl o95 ?_
  refine z_lt h (fun S96 h => ?_)
  refine z_aload_n C (pc := 199) dX9_init_199 0 rfl ?_
  refine z_iconst C (pc := 200) (x := (4 : Int32)) dX9_init_200 kic_4 ?_
  refine z_newI C (pc := 201) (kc' := 25) (ks' := 1390) (lim := 4) bw_434 dX9_init_201 (by decide) (by decide) (by decide) (by decide) (by decide) ⟨by decide, by decide, h⟩ (fun a97 S98 h => ?_)
  obtain ⟨o99, h⟩ := h
  refine z_putFP C (pc := 203) kf9 30 (by decide) rfl rfl rfl rfl bw_938 (fun _ _ _ _ h => h) dX9_init_203 rfl o99 ?_
  refine z_lt h (fun S100 h => ?_)
  refine z_iconst C (pc := 206) (x := (0 : Int32)) dX9_init_206 kic_0 ?_
  refine z_istore_n C (pc := 207) (lv' := [(1, .int (0 : Int32)), (0, va_rf (some x0))]) dX9_init_207 (by decide) rfl ?_
  obtain ⟨n133, h⟩ := h
  refine z_sub [1, 0] (lv' := [(0, va_rf (some x0)), (1, .int (0 : Int32))]) rfl ?_
  exact l_X9_init_L208 l v x0 Q C N T n133 S100 (0 : Int32) h
def wp_X9_thrown (S : Hp) (x0 : Nat) (Q : Int32 → Hp → Prop) : Prop :=
  okA S 9 x0 ∧ (Q (g_I S 931 x0) S)
def rm_X9_thrown : Room := { frames := 0, cells := 0, slots := 0, locals := 0 }
set_option maxHeartbeats 4000000 in
set_option maxRecDepth 100000 in
theorem c_X9_thrown (l : Launch) (v : Ev) (S : Hp) (x0 : Nat) : CI l v yX9_thrown cX9_thrown 1 (some .int) rm_X9_thrown [va_rf (some x0)] S (fun Q _ => wp_X9_thrown S x0 Q) := by
  intro Q EQ h
  refine z_start [(0, va_rf (some x0))] (by decide +kernel) (by simp only [la_i, la_r, la_n]) (cat_cr cat_nil) (by simp only [ls_i, ls_r, ls_n]; decide) (fun z C N T => ?_)
  unfold wp_X9_thrown at h
  refine z_aload_n C (pc := 0) dX9_thrown_0 0 rfl ?_
  obtain ⟨o1, h⟩ := h
  refine z_getI C (pc := 1) kf9 31 (by decide) rfl bw_939 (fun _ _ _ _ h => h) dX9_thrown_1 rfl o1 ?_
  exact z_iret C (pc := 4) T dX9_thrown_4 (by decide) (by decide) h
def wp_X9_fails (S : Hp) (x0 : Nat) (x1 : Int32) (Q : Int32 → Hp → Prop) : Prop :=
  okA S 9 x0 ∧ (lt (s_I S 931 x0 x1) (fun S2 => Q (0 : Int32) S2))
def rm_X9_fails : Room := { frames := 0, cells := 0, slots := 0, locals := 0 }
set_option maxHeartbeats 4000000 in
set_option maxRecDepth 100000 in
theorem c_X9_fails (l : Launch) (v : Ev) (S : Hp) (x0 : Nat) (x1 : Int32) : CI l v yX9_fails cX9_fails 2 (some .int) rm_X9_fails [va_rf (some x0), .int x1] S (fun Q _ => wp_X9_fails S x0 x1 Q) := by
  intro Q EQ h
  refine z_start [(0, va_rf (some x0)), (1, .int x1)] (by decide +kernel) (by simp only [la_i, la_r, la_n]) (cat_cr (cat_ci cat_nil)) (by simp only [ls_i, ls_r, ls_n]; decide) (fun z C N T => ?_)
  unfold wp_X9_fails at h
  refine z_aload_n C (pc := 0) dX9_fails_0 0 rfl ?_
  refine z_iload_n C (pc := 1) dX9_fails_1 1 rfl ?_
  obtain ⟨o1, h⟩ := h
  refine z_putI C (pc := 2) kf9 31 (by decide) rfl rfl bw_939 (fun _ _ _ _ h => h) dX9_fails_2 rfl o1 ?_
  refine z_lt h (fun S2 h => ?_)
  refine z_iconst C (pc := 5) (x := (0 : Int32)) dX9_fails_5 kic_0 ?_
  exact z_iret C (pc := 6) T dX9_fails_6 (by decide) (by decide) h
def wp_X9_asks (S : Hp) (x0 : Nat) (x1 : Int32) (Q : Int32 → Hp → Prop) : Prop :=
  if x1 = 0 then (okA S 9 x0 ∧ (lt (s_I S 931 x0 (1 : Int32)) (fun S2 => bz x1 (Q x1 S2)))) else (okA S 9 x0 ∧ (lt (s_I S 931 x0 (0 : Int32)) (fun S4 => bz x1 (Q x1 S4))))
def rm_X9_asks : Room := { frames := 0, cells := 0, slots := 0, locals := 0 }
set_option maxHeartbeats 4000000 in
set_option maxRecDepth 100000 in
theorem c_X9_asks (l : Launch) (v : Ev) (S : Hp) (x0 : Nat) (x1 : Int32) : CI l v yX9_asks cX9_asks 2 (some .boolean) rm_X9_asks [va_rf (some x0), .int x1] S (fun Q _ => wp_X9_asks S x0 x1 Q) := by
  intro Q EQ h
  refine z_start [(0, va_rf (some x0)), (1, .int x1)] (by decide +kernel) (by simp only [la_i, la_r, la_n]) (cat_cr (cat_ci cat_nil)) (by simp only [ls_i, ls_r, ls_n]; decide) (fun z C N T => ?_)
  unfold wp_X9_asks at h
  refine z_aload_n C (pc := 0) dX9_asks_0 0 rfl ?_
  refine z_iload_n C (pc := 1) dX9_asks_1 1 rfl ?_
  refine z_if_eq C (pc := 2) (tgt := 9) dX9_asks_2 (by decide) h (fun h => ?_) (fun h => ?_)
  · refine z_iconst C (pc := 9) (x := (1 : Int32)) dX9_asks_9 kic_1 ?_
    obtain ⟨o1, h⟩ := h
    refine z_putI C (pc := 10) kf9 31 (by decide) rfl rfl bw_939 (fun _ _ _ _ h => h) dX9_asks_10 rfl o1 ?_
    refine z_lt h (fun S2 h => ?_)
    refine z_iload_n C (pc := 13) dX9_asks_13 1 rfl ?_
    exact z_zret C (pc := 14) T dX9_asks_14 (by decide) (by decide) h
  · refine z_iconst C (pc := 5) (x := (0 : Int32)) dX9_asks_5 kic_0 ?_
    refine z_goto C (pc := 6) (tgt := 10) dX9_asks_6 (by decide) ?_
    obtain ⟨o3, h⟩ := h
    refine z_putI C (pc := 10) kf9 31 (by decide) rfl rfl bw_939 (fun _ _ _ _ h => h) dX9_asks_10 rfl o3 ?_
    refine z_lt h (fun S4 h => ?_)
    refine z_iload_n C (pc := 13) dX9_asks_13 1 rfl ?_
    exact z_zret C (pc := 14) T dX9_asks_14 (by decide) (by decide) h
def wp_X9_in (S : Hp) (x0 : Int32) (x1 : Int32) (x2 : Int32) (Q : Int32 → Hp → Prop) : Prop :=
  if x0 < x1 then (bz (0 : Int32) (Q (0 : Int32) S)) else (if x2 < x0 then (bz (0 : Int32) (Q (0 : Int32) S)) else (bz (1 : Int32) (Q (1 : Int32) S)))
def rm_X9_in : Room := { frames := 0, cells := 0, slots := 0, locals := 0 }
set_option maxHeartbeats 4000000 in
set_option maxRecDepth 100000 in
theorem c_X9_in (l : Launch) (v : Ev) (S : Hp) (x0 : Int32) (x1 : Int32) (x2 : Int32) : CI l v yX9_in cX9_in 3 (some .boolean) rm_X9_in [.int x0, .int x1, .int x2] S (fun Q _ => wp_X9_in S x0 x1 x2 Q) := by
  intro Q EQ h
  refine z_start [(0, .int x0), (1, .int x1), (2, .int x2)] (by decide +kernel) (by simp only [la_i, la_r, la_n]) (cat_ci (cat_ci (cat_ci cat_nil))) (by simp only [ls_i, ls_r, ls_n]; decide) (fun z C N T => ?_)
  unfold wp_X9_in at h
  refine z_iload_n C (pc := 0) dX9_in_0 0 rfl ?_
  refine z_iload_n C (pc := 1) dX9_in_1 1 rfl ?_
  refine z_icmp_lt C (pc := 2) (tgt := 14) dX9_in_2 (by decide) h (fun h => ?_) (fun h => ?_)
  · refine z_iconst C (pc := 14) (x := (0 : Int32)) dX9_in_14 kic_0 ?_
    exact z_zret C (pc := 15) T dX9_in_15 (by decide) (by decide) h
  · refine z_iload_n C (pc := 5) dX9_in_5 0 rfl ?_
    refine z_iload_n C (pc := 6) dX9_in_6 2 rfl ?_
    refine z_icmp_gt C (pc := 7) (tgt := 14) dX9_in_7 (by decide) h (fun h => ?_) (fun h => ?_)
    · refine z_iconst C (pc := 14) (x := (0 : Int32)) dX9_in_14 kic_0 ?_
      exact z_zret C (pc := 15) T dX9_in_15 (by decide) (by decide) h
    · refine z_iconst C (pc := 10) (x := (1 : Int32)) dX9_in_10 kic_1 ?_
      refine z_goto C (pc := 11) (tgt := 15) dX9_in_11 (by decide) ?_
      exact z_zret C (pc := 15) T dX9_in_15 (by decide) (by decide) h
def wp_X9_isTroop (S : Hp) (x0 : Nat) (x1 : Int32) (Q : Int32 → Hp → Prop) : Prop :=
  okA S 9 x0 ∧ (wp_X9_in S x1 (0 : Int32) ((g_I S 901 x0) - (1 : Int32)) (fun r3 S2 => bz r3 (Q r3 S2)))
def rm_X9_isTroop : Room := { frames := 1, cells := 0, slots := 0, locals := 22 }
set_option maxHeartbeats 4000000 in
set_option maxRecDepth 100000 in
theorem c_X9_isTroop (l : Launch) (v : Ev) (S : Hp) (x0 : Nat) (x1 : Int32) : CI l v yX9_isTroop cX9_isTroop 2 (some .boolean) rm_X9_isTroop [va_rf (some x0), .int x1] S (fun Q _ => wp_X9_isTroop S x0 x1 Q) := by
  intro Q EQ h
  refine z_start [(0, va_rf (some x0)), (1, .int x1)] (by decide +kernel) (by simp only [la_i, la_r, la_n]) (cat_cr (cat_ci cat_nil)) (by simp only [ls_i, ls_r, ls_n]; decide) (fun z C N T => ?_)
  unfold wp_X9_isTroop at h
  refine z_iload_n C (pc := 0) dX9_isTroop_0 1 rfl ?_
  refine z_iconst C (pc := 1) (x := (0 : Int32)) dX9_isTroop_1 kic_0 ?_
  refine z_aload_n C (pc := 2) dX9_isTroop_2 0 rfl ?_
  obtain ⟨o1, h⟩ := h
  refine z_getI C (pc := 3) kf9 1 (by decide) rfl bw_909 (fun _ _ _ _ h => h) dX9_isTroop_3 rfl o1 ?_
  refine z_iconst C (pc := 6) (x := (1 : Int32)) dX9_isTroop_6 kic_1 ?_
  refine z_isub C (pc := 7) dX9_isTroop_7 ?_
  refine z_Si C (pc := 8) (KX := fun _ _ => False) (kc' := 0) (ks' := 0) (As := [.int x1, .int (0 : Int32), .int ((g_I S 901 x0) - (1 : Int32))]) (rest := []) (c_X9_in l v S x1 (0 : Int32) ((g_I S 901 x0) - (1 : Int32))) mw_X9_in bw_1014 bw_1015 (fit_of rfl) rfl rfl (Nat.le_of_ble_eq_true rfl) dX9_isTroop_8 h (fun r3 S2 h => ?_) (fun En S9 h => h.elim)
  exact z_zret C (pc := 11) T dX9_isTroop_11 (by decide) (by decide) h
def wp_X9_isChild (S : Hp) (x0 : Nat) (x1 : Int32) (Q : Int32 → Hp → Prop) : Prop :=
  okA S 9 x0 ∧ (wp_X9_in S x1 (0 : Int32) ((g_I S 905 x0) - (1 : Int32)) (fun r3 S2 => bz r3 (Q r3 S2)))
def rm_X9_isChild : Room := { frames := 1, cells := 0, slots := 0, locals := 22 }
set_option maxHeartbeats 4000000 in
set_option maxRecDepth 100000 in
theorem c_X9_isChild (l : Launch) (v : Ev) (S : Hp) (x0 : Nat) (x1 : Int32) : CI l v yX9_isChild cX9_isChild 2 (some .boolean) rm_X9_isChild [va_rf (some x0), .int x1] S (fun Q _ => wp_X9_isChild S x0 x1 Q) := by
  intro Q EQ h
  refine z_start [(0, va_rf (some x0)), (1, .int x1)] (by decide +kernel) (by simp only [la_i, la_r, la_n]) (cat_cr (cat_ci cat_nil)) (by simp only [ls_i, ls_r, ls_n]; decide) (fun z C N T => ?_)
  unfold wp_X9_isChild at h
  refine z_iload_n C (pc := 0) dX9_isChild_0 1 rfl ?_
  refine z_iconst C (pc := 1) (x := (0 : Int32)) dX9_isChild_1 kic_0 ?_
  refine z_aload_n C (pc := 2) dX9_isChild_2 0 rfl ?_
  obtain ⟨o1, h⟩ := h
  refine z_getI C (pc := 3) kf9 5 (by decide) rfl bw_913 (fun _ _ _ _ h => h) dX9_isChild_3 rfl o1 ?_
  refine z_iconst C (pc := 6) (x := (1 : Int32)) dX9_isChild_6 kic_1 ?_
  refine z_isub C (pc := 7) dX9_isChild_7 ?_
  refine z_Si C (pc := 8) (KX := fun _ _ => False) (kc' := 0) (ks' := 0) (As := [.int x1, .int (0 : Int32), .int ((g_I S 905 x0) - (1 : Int32))]) (rest := []) (c_X9_in l v S x1 (0 : Int32) ((g_I S 905 x0) - (1 : Int32))) mw_X9_in bw_1014 bw_1015 (fit_of rfl) rfl rfl (Nat.le_of_ble_eq_true rfl) dX9_isChild_8 h (fun r3 S2 h => ?_) (fun En S9 h => h.elim)
  exact z_zret C (pc := 11) T dX9_isChild_11 (by decide) (by decide) h
def wp_X9_isLeader (S : Hp) (x0 : Nat) (x1 : Int32) (Q : Int32 → Hp → Prop) : Prop :=
  okA S 9 x0 ∧ (wp_X9_in S x1 (0 : Int32) ((g_I S 919 x0) - (1 : Int32)) (fun r3 S2 => bz r3 (Q r3 S2)))
def rm_X9_isLeader : Room := { frames := 1, cells := 0, slots := 0, locals := 22 }
set_option maxHeartbeats 4000000 in
set_option maxRecDepth 100000 in
theorem c_X9_isLeader (l : Launch) (v : Ev) (S : Hp) (x0 : Nat) (x1 : Int32) : CI l v yX9_isLeader cX9_isLeader 2 (some .boolean) rm_X9_isLeader [va_rf (some x0), .int x1] S (fun Q _ => wp_X9_isLeader S x0 x1 Q) := by
  intro Q EQ h
  refine z_start [(0, va_rf (some x0)), (1, .int x1)] (by decide +kernel) (by simp only [la_i, la_r, la_n]) (cat_cr (cat_ci cat_nil)) (by simp only [ls_i, ls_r, ls_n]; decide) (fun z C N T => ?_)
  unfold wp_X9_isLeader at h
  refine z_iload_n C (pc := 0) dX9_isLeader_0 1 rfl ?_
  refine z_iconst C (pc := 1) (x := (0 : Int32)) dX9_isLeader_1 kic_0 ?_
  refine z_aload_n C (pc := 2) dX9_isLeader_2 0 rfl ?_
  obtain ⟨o1, h⟩ := h
  refine z_getI C (pc := 3) kf9 19 (by decide) rfl bw_927 (fun _ _ _ _ h => h) dX9_isLeader_3 rfl o1 ?_
  refine z_iconst C (pc := 6) (x := (1 : Int32)) dX9_isLeader_6 kic_1 ?_
  refine z_isub C (pc := 7) dX9_isLeader_7 ?_
  refine z_Si C (pc := 8) (KX := fun _ _ => False) (kc' := 0) (ks' := 0) (As := [.int x1, .int (0 : Int32), .int ((g_I S 919 x0) - (1 : Int32))]) (rest := []) (c_X9_in l v S x1 (0 : Int32) ((g_I S 919 x0) - (1 : Int32))) mw_X9_in bw_1014 bw_1015 (fit_of rfl) rfl rfl (Nat.le_of_ble_eq_true rfl) dX9_isLeader_8 h (fun r3 S2 h => ?_) (fun En S9 h => h.elim)
  exact z_zret C (pc := 11) T dX9_isLeader_11 (by decide) (by decide) h
def wp_X9_isSkills (S : Hp) (x0 : Int32) (Q : Int32 → Hp → Prop) : Prop :=
  wp_X9_in S x0 (0 : Int32) (65535 : Int32) (fun r2 S1 => bz r2 (Q r2 S1))
def rm_X9_isSkills : Room := { frames := 1, cells := 0, slots := 0, locals := 22 }
set_option maxHeartbeats 4000000 in
set_option maxRecDepth 100000 in
theorem c_X9_isSkills (l : Launch) (v : Ev) (S : Hp) (x0 : Int32) : CI l v yX9_isSkills cX9_isSkills 1 (some .boolean) rm_X9_isSkills [.int x0] S (fun Q _ => wp_X9_isSkills S x0 Q) := by
  intro Q EQ h
  refine z_start [(0, .int x0)] (by decide +kernel) (by simp only [la_i, la_r, la_n]) (cat_ci cat_nil) (by simp only [ls_i, ls_r, ls_n]; decide) (fun z C N T => ?_)
  unfold wp_X9_isSkills at h
  refine z_iload_n C (pc := 0) dX9_isSkills_0 0 rfl ?_
  refine z_iconst C (pc := 1) (x := (0 : Int32)) dX9_isSkills_1 kic_0 ?_
  refine z_ldc C (pc := 2) (x := (65535 : Int32)) dX9_isSkills_2 bw_1126 ?_
  refine z_Si C (pc := 4) (KX := fun _ _ => False) (kc' := 0) (ks' := 0) (As := [.int x0, .int (0 : Int32), .int (65535 : Int32)]) (rest := []) (c_X9_in l v S x0 (0 : Int32) (65535 : Int32)) mw_X9_in bw_1014 bw_1015 (fit_of rfl) rfl rfl (Nat.le_of_ble_eq_true rfl) dX9_isSkills_4 h (fun r2 S1 h => ?_) (fun En S9 h => h.elim)
  exact z_zret C (pc := 7) T dX9_isSkills_7 (by decide) (by decide) h
def wp_X9_ones_L4 (f0 : Int32) (Q : Int32 → Hp → Prop) : Nat → Hp → Int32 → Int32 → Prop
  | 0, _, _, _ => False
  | n + 1, S, w1, w2 => if (16 : Int32) ≤ w2 then (Q w1 S) else (lt (w1 + ((f0 >>> (w2 &&& 31)) &&& (1 : Int32))) (fun y1 => wp_X9_ones_L4 f0 Q n S y1 (w2 + (1 : Int32))))
def wp_X9_ones (S : Hp) (x0 : Int32) (Q : Int32 → Hp → Prop) : Prop :=
  ∃ n2, wp_X9_ones_L4 x0 Q n2 S (0 : Int32) (0 : Int32)
def rm_X9_ones : Room := { frames := 0, cells := 0, slots := 0, locals := 0 }
set_option maxHeartbeats 4000000 in
set_option maxRecDepth 100000 in
theorem l_X9_ones_L4 (l : Launch) (v : Ev) (f0 : Int32) (Q : Int32 → Hp → Prop) {EQ : String → Hp → Prop} {z : Z9} (C : Cx l v RX9 cX9_ones 3 (some .int) "ones" z) (N : NT z) (T : EE v rm_X9_ones (QI v Q) EQ z) : ∀ (n : Nat) (S : Hp) (w1 : Int32) (w2 : Int32), wp_X9_ones_L4 f0 Q n S w1 w2 → ZZ l v 3 rm_X9_ones z 0 0 S 4 [(0, .int f0), (1, .int w1), (2, .int w2)] [] := by
  intro n
  induction n with
  | zero =>
    intro S w1 w2 h
    exact h.elim
  | succ n ih =>
    intro S w1 w2 h
    unfold wp_X9_ones_L4 at h
    refine z_iload_n C (pc := 4) dX9_ones_4 2 rfl ?_
    refine z_bipush C (pc := 5) (x := (16 : Int32)) dX9_ones_5 kbp_16 ?_
    refine z_icmp_ge C (pc := 7) (tgt := 24) dX9_ones_7 (by decide) h (fun h => ?_) (fun h => ?_)
    · refine z_iload_n C (pc := 24) dX9_ones_24 1 rfl ?_
      exact z_iret C (pc := 25) T dX9_ones_25 (by decide) (by decide) h
    · refine z_iload_n C (pc := 10) dX9_ones_10 1 rfl ?_
      refine z_iload_n C (pc := 11) dX9_ones_11 0 rfl ?_
      refine z_iload_n C (pc := 12) dX9_ones_12 2 rfl ?_
      refine z_ishr C (pc := 13) dX9_ones_13 ?_
      refine z_iconst C (pc := 14) (x := (1 : Int32)) dX9_ones_14 kic_1 ?_
      refine z_iand C (pc := 15) dX9_ones_15 ?_
      refine z_iadd C (pc := 16) dX9_ones_16 ?_
      refine z_nI h (fun y1 h => ?_)
      refine z_istore_n C (pc := 17) (lv' := [(1, .int y1), (0, .int f0), (2, .int w2)]) dX9_ones_17 (by decide) rfl ?_
      refine z_iinc C (pc := 18) (y := w2 + (1 : Int32)) (lv' := [(2, .int (w2 + (1 : Int32))), (1, .int y1), (0, .int f0)]) dX9_ones_18 2 rfl rfl (by decide) rfl ?_
      refine z_goto C (pc := 21) (tgt := 4) dX9_ones_21 (by decide) ?_
      refine z_sub [2, 1, 0] (lv' := [(0, .int f0), (1, .int y1), (2, .int (w2 + (1 : Int32)))]) rfl ?_
      exact ih S y1 (w2 + (1 : Int32)) h
set_option maxHeartbeats 4000000 in
set_option maxRecDepth 100000 in
theorem c_X9_ones (l : Launch) (v : Ev) (S : Hp) (x0 : Int32) : CI l v yX9_ones cX9_ones 3 (some .int) rm_X9_ones [.int x0] S (fun Q _ => wp_X9_ones S x0 Q) := by
  intro Q EQ h
  refine z_start [(0, .int x0)] (by decide +kernel) (by simp only [la_i, la_r, la_n]) (cat_ci cat_nil) (by simp only [ls_i, ls_r, ls_n]; decide) (fun z C N T => ?_)
  unfold wp_X9_ones at h
  refine z_iconst C (pc := 0) (x := (0 : Int32)) dX9_ones_0 kic_0 ?_
  refine z_istore_n C (pc := 1) (lv' := [(1, .int (0 : Int32)), (0, .int x0)]) dX9_ones_1 (by decide) rfl ?_
  refine z_iconst C (pc := 2) (x := (0 : Int32)) dX9_ones_2 kic_0 ?_
  refine z_istore_n C (pc := 3) (lv' := [(2, .int (0 : Int32)), (1, .int (0 : Int32)), (0, .int x0)]) dX9_ones_3 (by decide) rfl ?_
  obtain ⟨n2, h⟩ := h
  refine z_sub [2, 1, 0] (lv' := [(0, .int x0), (1, .int (0 : Int32)), (2, .int (0 : Int32))]) rfl ?_
  exact l_X9_ones_L4 l v x0 Q C N T n2 S (0 : Int32) (0 : Int32) h
def wp_X9_troop (S : Hp) (x0 : Nat) (x1 : Int32) (x2 : Int32) (x3 : Int32) (Q : Int32 → Hp → Prop) : Prop :=
  wp_X9_in S x1 (5 : Int32) (20 : Int32) (fun r2 S1 => if r2 = 0 then (okA S1 9 x0 ∧ (wp_X9_asks S1 x0 (0 : Int32) (fun r5 S4 => if r5 = 0 then (Q (0 : Int32) S4) else (okA S4 9 x0 ∧ (if (g_I S4 901 x0) = (6 : Int32) then (wp_X9_fails S4 x0 (2 : Int32) (fun r28 S27 => Q r28 S27)) else (rd S4 11 (g_P S4 902 x0) (fun a7 => vp_in (g_I S4 901 x0) (g_N S4 a7) ∧ (lt (s_R S4 a7 (g_I S4 901 x0).toNatClampNeg x1) (fun S11 => okA S11 9 x0 ∧ (rd S11 11 (g_P S11 903 x0) (fun a13 => vp_in (g_I S11 901 x0) (g_N S11 a13) ∧ (lt (s_R S11 a13 (g_I S11 901 x0).toNatClampNeg x2) (fun S17 => okA S17 9 x0 ∧ (rd S17 11 (g_P S17 904 x0) (fun a19 => vp_in (g_I S17 901 x0) (g_N S17 a19) ∧ (lt (s_R S17 a19 (g_I S17 901 x0).toNatClampNeg x3) (fun S23 => okA S23 9 x0 ∧ (lt (s_I S23 901 x0 ((g_I S23 901 x0) + (1 : Int32))) (fun S25 => okA S25 9 x0 ∧ (Q ((g_I S25 901 x0) - (1 : Int32)) S25)))))))))))))))))))) else (wp_X9_in S1 x2 x1 (20 : Int32) (fun r30 S29 => if r30 = 0 then (okA S29 9 x0 ∧ (wp_X9_asks S29 x0 (0 : Int32) (fun r33 S32 => if r33 = 0 then (Q (0 : Int32) S32) else (okA S32 9 x0 ∧ (if (g_I S32 901 x0) = (6 : Int32) then (wp_X9_fails S32 x0 (2 : Int32) (fun r56 S55 => Q r56 S55)) else (rd S32 11 (g_P S32 902 x0) (fun a35 => vp_in (g_I S32 901 x0) (g_N S32 a35) ∧ (lt (s_R S32 a35 (g_I S32 901 x0).toNatClampNeg x1) (fun S39 => okA S39 9 x0 ∧ (rd S39 11 (g_P S39 903 x0) (fun a41 => vp_in (g_I S39 901 x0) (g_N S39 a41) ∧ (lt (s_R S39 a41 (g_I S39 901 x0).toNatClampNeg x2) (fun S45 => okA S45 9 x0 ∧ (rd S45 11 (g_P S45 904 x0) (fun a47 => vp_in (g_I S45 901 x0) (g_N S45 a47) ∧ (lt (s_R S45 a47 (g_I S45 901 x0).toNatClampNeg x3) (fun S51 => okA S51 9 x0 ∧ (lt (s_I S51 901 x0 ((g_I S51 901 x0) + (1 : Int32))) (fun S53 => okA S53 9 x0 ∧ (Q ((g_I S53 901 x0) - (1 : Int32)) S53)))))))))))))))))))) else (wp_X9_in S29 x3 (1 : Int32) (12 : Int32) (fun r58 S57 => if r58 = 0 then (okA S57 9 x0 ∧ (wp_X9_asks S57 x0 (0 : Int32) (fun r61 S60 => if r61 = 0 then (Q (0 : Int32) S60) else (okA S60 9 x0 ∧ (if (g_I S60 901 x0) = (6 : Int32) then (wp_X9_fails S60 x0 (2 : Int32) (fun r84 S83 => Q r84 S83)) else (rd S60 11 (g_P S60 902 x0) (fun a63 => vp_in (g_I S60 901 x0) (g_N S60 a63) ∧ (lt (s_R S60 a63 (g_I S60 901 x0).toNatClampNeg x1) (fun S67 => okA S67 9 x0 ∧ (rd S67 11 (g_P S67 903 x0) (fun a69 => vp_in (g_I S67 901 x0) (g_N S67 a69) ∧ (lt (s_R S67 a69 (g_I S67 901 x0).toNatClampNeg x2) (fun S73 => okA S73 9 x0 ∧ (rd S73 11 (g_P S73 904 x0) (fun a75 => vp_in (g_I S73 901 x0) (g_N S73 a75) ∧ (lt (s_R S73 a75 (g_I S73 901 x0).toNatClampNeg x3) (fun S79 => okA S79 9 x0 ∧ (lt (s_I S79 901 x0 ((g_I S79 901 x0) + (1 : Int32))) (fun S81 => okA S81 9 x0 ∧ (Q ((g_I S81 901 x0) - (1 : Int32)) S81)))))))))))))))))))) else (okA S57 9 x0 ∧ (wp_X9_asks S57 x0 (1 : Int32) (fun r87 S86 => if r87 = 0 then (Q (0 : Int32) S86) else (okA S86 9 x0 ∧ (if (g_I S86 901 x0) = (6 : Int32) then (wp_X9_fails S86 x0 (2 : Int32) (fun r110 S109 => Q r110 S109)) else (rd S86 11 (g_P S86 902 x0) (fun a89 => vp_in (g_I S86 901 x0) (g_N S86 a89) ∧ (lt (s_R S86 a89 (g_I S86 901 x0).toNatClampNeg x1) (fun S93 => okA S93 9 x0 ∧ (rd S93 11 (g_P S93 903 x0) (fun a95 => vp_in (g_I S93 901 x0) (g_N S93 a95) ∧ (lt (s_R S93 a95 (g_I S93 901 x0).toNatClampNeg x2) (fun S99 => okA S99 9 x0 ∧ (rd S99 11 (g_P S99 904 x0) (fun a101 => vp_in (g_I S99 901 x0) (g_N S99 a101) ∧ (lt (s_R S99 a101 (g_I S99 901 x0).toNatClampNeg x3) (fun S105 => okA S105 9 x0 ∧ (lt (s_I S105 901 x0 ((g_I S105 901 x0) + (1 : Int32))) (fun S107 => okA S107 9 x0 ∧ (Q ((g_I S107 901 x0) - (1 : Int32)) S107)))))))))))))))))))))))))
def rm_X9_troop : Room := { frames := 1, cells := 0, slots := 0, locals := 22 }
set_option maxHeartbeats 4000000 in
set_option maxRecDepth 100000 in
theorem c_X9_troop (l : Launch) (v : Ev) (S : Hp) (x0 : Nat) (x1 : Int32) (x2 : Int32) (x3 : Int32) : CI l v yX9_troop cX9_troop 4 (some .int) rm_X9_troop [va_rf (some x0), .int x1, .int x2, .int x3] S (fun Q _ => wp_X9_troop S x0 x1 x2 x3 Q) := by
  intro Q EQ h
  refine z_start [(0, va_rf (some x0)), (1, .int x1), (2, .int x2), (3, .int x3)] (by decide +kernel) (by simp only [la_i, la_r, la_n]) (cat_cr (cat_ci (cat_ci (cat_ci cat_nil)))) (by simp only [ls_i, ls_r, ls_n]; decide) (fun z C N T => ?_)
  unfold wp_X9_troop at h
  refine z_aload_n C (pc := 0) dX9_troop_0 0 rfl ?_
  refine z_iload_n C (pc := 1) dX9_troop_1 1 rfl ?_
  refine z_iconst C (pc := 2) (x := (5 : Int32)) dX9_troop_2 kic_5 ?_
  refine z_bipush C (pc := 3) (x := (20 : Int32)) dX9_troop_3 kbp_20 ?_
  refine z_Si C (pc := 5) (KX := fun _ _ => False) (kc' := 0) (ks' := 0) (As := [.int x1, .int (5 : Int32), .int (20 : Int32)]) (rest := [va_rf (some x0)]) (c_X9_in l v S x1 (5 : Int32) (20 : Int32)) mw_X9_in bw_1014 bw_1015 (fit_of rfl) rfl rfl (Nat.le_of_ble_eq_true rfl) dX9_troop_5 h (fun r2 S1 h => ?_) (fun En S9 h => h.elim)
  refine z_if_eq C (pc := 8) (tgt := 35) dX9_troop_8 (by decide) h (fun h => ?_) (fun h => ?_)
  · refine z_iconst C (pc := 35) (x := (0 : Int32)) dX9_troop_35 kic_0 ?_
    obtain ⟨o3, h⟩ := h
    refine z_Vi C (pc := 36) (KX := fun _ _ => False) (kc' := 0) (ks' := 0) (As := [.int (0 : Int32)]) (rest := []) rfl (c_X9_asks l v S1 x0 (0 : Int32)) mw_X9_asks bw_1017 bw_1019 bw_p30 (fit_of rfl) rfl rfl (Nat.le_of_ble_eq_true rfl) (by decide) rfl o3 dX9_troop_36 h (fun r5 S4 h => ?_) (fun En S9 h => h.elim)
    refine z_if_ne C (pc := 39) (tgt := 44) dX9_troop_39 (by decide) h (fun h => ?_) (fun h => ?_)
    · refine z_aload_n C (pc := 44) dX9_troop_44 0 rfl ?_
      obtain ⟨o6, h⟩ := h
      refine z_getI C (pc := 45) kf9 1 (by decide) rfl bw_909 (fun _ _ _ _ h => h) dX9_troop_45 rfl o6 ?_
      refine z_bipush C (pc := 48) (x := (6 : Int32)) dX9_troop_48 kbp_6 ?_
      refine z_icmp_ne C (pc := 50) (tgt := 59) dX9_troop_50 (by decide) h (fun h => ?_) (fun h => ?_)
      · refine z_aload_n C (pc := 59) dX9_troop_59 0 rfl ?_
        refine z_getP C (pc := 60) kf9 2 (by decide) rfl bw_910 (fun _ _ _ _ h => h) dX9_troop_60 rfl o6 ?_
        refine z_aload_n C (pc := 63) dX9_troop_63 0 rfl ?_
        refine z_getI C (pc := 64) kf9 1 (by decide) rfl bw_909 (fun _ _ _ _ h => h) dX9_troop_64 rfl o6 ?_
        refine z_iload_n C (pc := 67) dX9_troop_67 1 rfl ?_
        obtain ⟨a7, e8, o9, h⟩ := h
        obtain ⟨v10, h⟩ := h
        refine z_iast C (pc := 68) dX9_troop_68 e8 o9 v10 ?_
        refine z_lt h (fun S11 h => ?_)
        refine z_aload_n C (pc := 69) dX9_troop_69 0 rfl ?_
        obtain ⟨o12, h⟩ := h
        refine z_getP C (pc := 70) kf9 3 (by decide) rfl bw_911 (fun _ _ _ _ h => h) dX9_troop_70 rfl o12 ?_
        refine z_aload_n C (pc := 73) dX9_troop_73 0 rfl ?_
        refine z_getI C (pc := 74) kf9 1 (by decide) rfl bw_909 (fun _ _ _ _ h => h) dX9_troop_74 rfl o12 ?_
        refine z_iload_n C (pc := 77) dX9_troop_77 2 rfl ?_
        obtain ⟨a13, e14, o15, h⟩ := h
        obtain ⟨v16, h⟩ := h
        refine z_iast C (pc := 78) dX9_troop_78 e14 o15 v16 ?_
        refine z_lt h (fun S17 h => ?_)
        refine z_aload_n C (pc := 79) dX9_troop_79 0 rfl ?_
        obtain ⟨o18, h⟩ := h
        refine z_getP C (pc := 80) kf9 4 (by decide) rfl bw_912 (fun _ _ _ _ h => h) dX9_troop_80 rfl o18 ?_
        refine z_aload_n C (pc := 83) dX9_troop_83 0 rfl ?_
        refine z_getI C (pc := 84) kf9 1 (by decide) rfl bw_909 (fun _ _ _ _ h => h) dX9_troop_84 rfl o18 ?_
        refine z_iload_n C (pc := 87) dX9_troop_87 3 rfl ?_
        obtain ⟨a19, e20, o21, h⟩ := h
        obtain ⟨v22, h⟩ := h
        refine z_iast C (pc := 88) dX9_troop_88 e20 o21 v22 ?_
        refine z_lt h (fun S23 h => ?_)
        refine z_aload_n C (pc := 89) dX9_troop_89 0 rfl ?_
        refine z_dup C (pc := 90) dX9_troop_90 (cat_rf _) ?_
        obtain ⟨o24, h⟩ := h
        refine z_getI C (pc := 91) kf9 1 (by decide) rfl bw_909 (fun _ _ _ _ h => h) dX9_troop_91 rfl o24 ?_
        refine z_iconst C (pc := 94) (x := (1 : Int32)) dX9_troop_94 kic_1 ?_
        refine z_iadd C (pc := 95) dX9_troop_95 ?_
        refine z_putI C (pc := 96) kf9 1 (by decide) rfl rfl bw_909 (fun _ _ _ _ h => h) dX9_troop_96 rfl o24 ?_
        refine z_lt h (fun S25 h => ?_)
        refine z_aload_n C (pc := 99) dX9_troop_99 0 rfl ?_
        obtain ⟨o26, h⟩ := h
        refine z_getI C (pc := 100) kf9 1 (by decide) rfl bw_909 (fun _ _ _ _ h => h) dX9_troop_100 rfl o26 ?_
        refine z_iconst C (pc := 103) (x := (1 : Int32)) dX9_troop_103 kic_1 ?_
        refine z_isub C (pc := 104) dX9_troop_104 ?_
        exact z_iret C (pc := 105) T dX9_troop_105 (by decide) (by decide) h
      · refine z_aload_n C (pc := 53) dX9_troop_53 0 rfl ?_
        refine z_iconst C (pc := 54) (x := (2 : Int32)) dX9_troop_54 kic_2 ?_
        refine z_Vi C (pc := 55) (KX := fun _ _ => False) (kc' := 0) (ks' := 0) (As := [.int (2 : Int32)]) (rest := []) rfl (c_X9_fails l v S4 x0 (2 : Int32)) mw_X9_fails bw_1021 bw_1023 bw_p31 (fit_of rfl) rfl rfl (Nat.le_of_ble_eq_true rfl) (by decide) rfl o6 dX9_troop_55 h (fun r28 S27 h => ?_) (fun En S9 h => h.elim)
        exact z_iret C (pc := 58) T dX9_troop_58 (by decide) (by decide) h
    · refine z_iconst C (pc := 42) (x := (0 : Int32)) dX9_troop_42 kic_0 ?_
      exact z_iret C (pc := 43) T dX9_troop_43 (by decide) (by decide) h
  · refine z_iload_n C (pc := 11) dX9_troop_11 2 rfl ?_
    refine z_iload_n C (pc := 12) dX9_troop_12 1 rfl ?_
    refine z_bipush C (pc := 13) (x := (20 : Int32)) dX9_troop_13 kbp_20 ?_
    refine z_Si C (pc := 15) (KX := fun _ _ => False) (kc' := 0) (ks' := 0) (As := [.int x2, .int x1, .int (20 : Int32)]) (rest := [va_rf (some x0)]) (c_X9_in l v S1 x2 x1 (20 : Int32)) mw_X9_in bw_1014 bw_1015 (fit_of rfl) rfl rfl (Nat.le_of_ble_eq_true rfl) dX9_troop_15 h (fun r30 S29 h => ?_) (fun En S9 h => h.elim)
    refine z_if_eq C (pc := 18) (tgt := 35) dX9_troop_18 (by decide) h (fun h => ?_) (fun h => ?_)
    · refine z_iconst C (pc := 35) (x := (0 : Int32)) dX9_troop_35 kic_0 ?_
      obtain ⟨o31, h⟩ := h
      refine z_Vi C (pc := 36) (KX := fun _ _ => False) (kc' := 0) (ks' := 0) (As := [.int (0 : Int32)]) (rest := []) rfl (c_X9_asks l v S29 x0 (0 : Int32)) mw_X9_asks bw_1017 bw_1019 bw_p30 (fit_of rfl) rfl rfl (Nat.le_of_ble_eq_true rfl) (by decide) rfl o31 dX9_troop_36 h (fun r33 S32 h => ?_) (fun En S9 h => h.elim)
      refine z_if_ne C (pc := 39) (tgt := 44) dX9_troop_39 (by decide) h (fun h => ?_) (fun h => ?_)
      · refine z_aload_n C (pc := 44) dX9_troop_44 0 rfl ?_
        obtain ⟨o34, h⟩ := h
        refine z_getI C (pc := 45) kf9 1 (by decide) rfl bw_909 (fun _ _ _ _ h => h) dX9_troop_45 rfl o34 ?_
        refine z_bipush C (pc := 48) (x := (6 : Int32)) dX9_troop_48 kbp_6 ?_
        refine z_icmp_ne C (pc := 50) (tgt := 59) dX9_troop_50 (by decide) h (fun h => ?_) (fun h => ?_)
        · refine z_aload_n C (pc := 59) dX9_troop_59 0 rfl ?_
          refine z_getP C (pc := 60) kf9 2 (by decide) rfl bw_910 (fun _ _ _ _ h => h) dX9_troop_60 rfl o34 ?_
          refine z_aload_n C (pc := 63) dX9_troop_63 0 rfl ?_
          refine z_getI C (pc := 64) kf9 1 (by decide) rfl bw_909 (fun _ _ _ _ h => h) dX9_troop_64 rfl o34 ?_
          refine z_iload_n C (pc := 67) dX9_troop_67 1 rfl ?_
          obtain ⟨a35, e36, o37, h⟩ := h
          obtain ⟨v38, h⟩ := h
          refine z_iast C (pc := 68) dX9_troop_68 e36 o37 v38 ?_
          refine z_lt h (fun S39 h => ?_)
          refine z_aload_n C (pc := 69) dX9_troop_69 0 rfl ?_
          obtain ⟨o40, h⟩ := h
          refine z_getP C (pc := 70) kf9 3 (by decide) rfl bw_911 (fun _ _ _ _ h => h) dX9_troop_70 rfl o40 ?_
          refine z_aload_n C (pc := 73) dX9_troop_73 0 rfl ?_
          refine z_getI C (pc := 74) kf9 1 (by decide) rfl bw_909 (fun _ _ _ _ h => h) dX9_troop_74 rfl o40 ?_
          refine z_iload_n C (pc := 77) dX9_troop_77 2 rfl ?_
          obtain ⟨a41, e42, o43, h⟩ := h
          obtain ⟨v44, h⟩ := h
          refine z_iast C (pc := 78) dX9_troop_78 e42 o43 v44 ?_
          refine z_lt h (fun S45 h => ?_)
          refine z_aload_n C (pc := 79) dX9_troop_79 0 rfl ?_
          obtain ⟨o46, h⟩ := h
          refine z_getP C (pc := 80) kf9 4 (by decide) rfl bw_912 (fun _ _ _ _ h => h) dX9_troop_80 rfl o46 ?_
          refine z_aload_n C (pc := 83) dX9_troop_83 0 rfl ?_
          refine z_getI C (pc := 84) kf9 1 (by decide) rfl bw_909 (fun _ _ _ _ h => h) dX9_troop_84 rfl o46 ?_
          refine z_iload_n C (pc := 87) dX9_troop_87 3 rfl ?_
          obtain ⟨a47, e48, o49, h⟩ := h
          obtain ⟨v50, h⟩ := h
          refine z_iast C (pc := 88) dX9_troop_88 e48 o49 v50 ?_
          refine z_lt h (fun S51 h => ?_)
          refine z_aload_n C (pc := 89) dX9_troop_89 0 rfl ?_
          refine z_dup C (pc := 90) dX9_troop_90 (cat_rf _) ?_
          obtain ⟨o52, h⟩ := h
          refine z_getI C (pc := 91) kf9 1 (by decide) rfl bw_909 (fun _ _ _ _ h => h) dX9_troop_91 rfl o52 ?_
          refine z_iconst C (pc := 94) (x := (1 : Int32)) dX9_troop_94 kic_1 ?_
          refine z_iadd C (pc := 95) dX9_troop_95 ?_
          refine z_putI C (pc := 96) kf9 1 (by decide) rfl rfl bw_909 (fun _ _ _ _ h => h) dX9_troop_96 rfl o52 ?_
          refine z_lt h (fun S53 h => ?_)
          refine z_aload_n C (pc := 99) dX9_troop_99 0 rfl ?_
          obtain ⟨o54, h⟩ := h
          refine z_getI C (pc := 100) kf9 1 (by decide) rfl bw_909 (fun _ _ _ _ h => h) dX9_troop_100 rfl o54 ?_
          refine z_iconst C (pc := 103) (x := (1 : Int32)) dX9_troop_103 kic_1 ?_
          refine z_isub C (pc := 104) dX9_troop_104 ?_
          exact z_iret C (pc := 105) T dX9_troop_105 (by decide) (by decide) h
        · refine z_aload_n C (pc := 53) dX9_troop_53 0 rfl ?_
          refine z_iconst C (pc := 54) (x := (2 : Int32)) dX9_troop_54 kic_2 ?_
          refine z_Vi C (pc := 55) (KX := fun _ _ => False) (kc' := 0) (ks' := 0) (As := [.int (2 : Int32)]) (rest := []) rfl (c_X9_fails l v S32 x0 (2 : Int32)) mw_X9_fails bw_1021 bw_1023 bw_p31 (fit_of rfl) rfl rfl (Nat.le_of_ble_eq_true rfl) (by decide) rfl o34 dX9_troop_55 h (fun r56 S55 h => ?_) (fun En S9 h => h.elim)
          exact z_iret C (pc := 58) T dX9_troop_58 (by decide) (by decide) h
      · refine z_iconst C (pc := 42) (x := (0 : Int32)) dX9_troop_42 kic_0 ?_
        exact z_iret C (pc := 43) T dX9_troop_43 (by decide) (by decide) h
    · refine z_iload_n C (pc := 21) dX9_troop_21 3 rfl ?_
      refine z_iconst C (pc := 22) (x := (1 : Int32)) dX9_troop_22 kic_1 ?_
      refine z_bipush C (pc := 23) (x := (12 : Int32)) dX9_troop_23 kbp_12 ?_
      refine z_Si C (pc := 25) (KX := fun _ _ => False) (kc' := 0) (ks' := 0) (As := [.int x3, .int (1 : Int32), .int (12 : Int32)]) (rest := [va_rf (some x0)]) (c_X9_in l v S29 x3 (1 : Int32) (12 : Int32)) mw_X9_in bw_1014 bw_1015 (fit_of rfl) rfl rfl (Nat.le_of_ble_eq_true rfl) dX9_troop_25 h (fun r58 S57 h => ?_) (fun En S9 h => h.elim)
      refine z_if_eq C (pc := 28) (tgt := 35) dX9_troop_28 (by decide) h (fun h => ?_) (fun h => ?_)
      · refine z_iconst C (pc := 35) (x := (0 : Int32)) dX9_troop_35 kic_0 ?_
        obtain ⟨o59, h⟩ := h
        refine z_Vi C (pc := 36) (KX := fun _ _ => False) (kc' := 0) (ks' := 0) (As := [.int (0 : Int32)]) (rest := []) rfl (c_X9_asks l v S57 x0 (0 : Int32)) mw_X9_asks bw_1017 bw_1019 bw_p30 (fit_of rfl) rfl rfl (Nat.le_of_ble_eq_true rfl) (by decide) rfl o59 dX9_troop_36 h (fun r61 S60 h => ?_) (fun En S9 h => h.elim)
        refine z_if_ne C (pc := 39) (tgt := 44) dX9_troop_39 (by decide) h (fun h => ?_) (fun h => ?_)
        · refine z_aload_n C (pc := 44) dX9_troop_44 0 rfl ?_
          obtain ⟨o62, h⟩ := h
          refine z_getI C (pc := 45) kf9 1 (by decide) rfl bw_909 (fun _ _ _ _ h => h) dX9_troop_45 rfl o62 ?_
          refine z_bipush C (pc := 48) (x := (6 : Int32)) dX9_troop_48 kbp_6 ?_
          refine z_icmp_ne C (pc := 50) (tgt := 59) dX9_troop_50 (by decide) h (fun h => ?_) (fun h => ?_)
          · refine z_aload_n C (pc := 59) dX9_troop_59 0 rfl ?_
            refine z_getP C (pc := 60) kf9 2 (by decide) rfl bw_910 (fun _ _ _ _ h => h) dX9_troop_60 rfl o62 ?_
            refine z_aload_n C (pc := 63) dX9_troop_63 0 rfl ?_
            refine z_getI C (pc := 64) kf9 1 (by decide) rfl bw_909 (fun _ _ _ _ h => h) dX9_troop_64 rfl o62 ?_
            refine z_iload_n C (pc := 67) dX9_troop_67 1 rfl ?_
            obtain ⟨a63, e64, o65, h⟩ := h
            obtain ⟨v66, h⟩ := h
            refine z_iast C (pc := 68) dX9_troop_68 e64 o65 v66 ?_
            refine z_lt h (fun S67 h => ?_)
            refine z_aload_n C (pc := 69) dX9_troop_69 0 rfl ?_
            obtain ⟨o68, h⟩ := h
            refine z_getP C (pc := 70) kf9 3 (by decide) rfl bw_911 (fun _ _ _ _ h => h) dX9_troop_70 rfl o68 ?_
            refine z_aload_n C (pc := 73) dX9_troop_73 0 rfl ?_
            refine z_getI C (pc := 74) kf9 1 (by decide) rfl bw_909 (fun _ _ _ _ h => h) dX9_troop_74 rfl o68 ?_
            refine z_iload_n C (pc := 77) dX9_troop_77 2 rfl ?_
            obtain ⟨a69, e70, o71, h⟩ := h
            obtain ⟨v72, h⟩ := h
            refine z_iast C (pc := 78) dX9_troop_78 e70 o71 v72 ?_
            refine z_lt h (fun S73 h => ?_)
            refine z_aload_n C (pc := 79) dX9_troop_79 0 rfl ?_
            obtain ⟨o74, h⟩ := h
            refine z_getP C (pc := 80) kf9 4 (by decide) rfl bw_912 (fun _ _ _ _ h => h) dX9_troop_80 rfl o74 ?_
            refine z_aload_n C (pc := 83) dX9_troop_83 0 rfl ?_
            refine z_getI C (pc := 84) kf9 1 (by decide) rfl bw_909 (fun _ _ _ _ h => h) dX9_troop_84 rfl o74 ?_
            refine z_iload_n C (pc := 87) dX9_troop_87 3 rfl ?_
            obtain ⟨a75, e76, o77, h⟩ := h
            obtain ⟨v78, h⟩ := h
            refine z_iast C (pc := 88) dX9_troop_88 e76 o77 v78 ?_
            refine z_lt h (fun S79 h => ?_)
            refine z_aload_n C (pc := 89) dX9_troop_89 0 rfl ?_
            refine z_dup C (pc := 90) dX9_troop_90 (cat_rf _) ?_
            obtain ⟨o80, h⟩ := h
            refine z_getI C (pc := 91) kf9 1 (by decide) rfl bw_909 (fun _ _ _ _ h => h) dX9_troop_91 rfl o80 ?_
            refine z_iconst C (pc := 94) (x := (1 : Int32)) dX9_troop_94 kic_1 ?_
            refine z_iadd C (pc := 95) dX9_troop_95 ?_
            refine z_putI C (pc := 96) kf9 1 (by decide) rfl rfl bw_909 (fun _ _ _ _ h => h) dX9_troop_96 rfl o80 ?_
            refine z_lt h (fun S81 h => ?_)
            refine z_aload_n C (pc := 99) dX9_troop_99 0 rfl ?_
            obtain ⟨o82, h⟩ := h
            refine z_getI C (pc := 100) kf9 1 (by decide) rfl bw_909 (fun _ _ _ _ h => h) dX9_troop_100 rfl o82 ?_
            refine z_iconst C (pc := 103) (x := (1 : Int32)) dX9_troop_103 kic_1 ?_
            refine z_isub C (pc := 104) dX9_troop_104 ?_
            exact z_iret C (pc := 105) T dX9_troop_105 (by decide) (by decide) h
          · refine z_aload_n C (pc := 53) dX9_troop_53 0 rfl ?_
            refine z_iconst C (pc := 54) (x := (2 : Int32)) dX9_troop_54 kic_2 ?_
            refine z_Vi C (pc := 55) (KX := fun _ _ => False) (kc' := 0) (ks' := 0) (As := [.int (2 : Int32)]) (rest := []) rfl (c_X9_fails l v S60 x0 (2 : Int32)) mw_X9_fails bw_1021 bw_1023 bw_p31 (fit_of rfl) rfl rfl (Nat.le_of_ble_eq_true rfl) (by decide) rfl o62 dX9_troop_55 h (fun r84 S83 h => ?_) (fun En S9 h => h.elim)
            exact z_iret C (pc := 58) T dX9_troop_58 (by decide) (by decide) h
        · refine z_iconst C (pc := 42) (x := (0 : Int32)) dX9_troop_42 kic_0 ?_
          exact z_iret C (pc := 43) T dX9_troop_43 (by decide) (by decide) h
      · refine z_iconst C (pc := 31) (x := (1 : Int32)) dX9_troop_31 kic_1 ?_
        refine z_goto C (pc := 32) (tgt := 36) dX9_troop_32 (by decide) ?_
        obtain ⟨o85, h⟩ := h
        refine z_Vi C (pc := 36) (KX := fun _ _ => False) (kc' := 0) (ks' := 0) (As := [.int (1 : Int32)]) (rest := []) rfl (c_X9_asks l v S57 x0 (1 : Int32)) mw_X9_asks bw_1017 bw_1019 bw_p30 (fit_of rfl) rfl rfl (Nat.le_of_ble_eq_true rfl) (by decide) rfl o85 dX9_troop_36 h (fun r87 S86 h => ?_) (fun En S9 h => h.elim)
        refine z_if_ne C (pc := 39) (tgt := 44) dX9_troop_39 (by decide) h (fun h => ?_) (fun h => ?_)
        · refine z_aload_n C (pc := 44) dX9_troop_44 0 rfl ?_
          obtain ⟨o88, h⟩ := h
          refine z_getI C (pc := 45) kf9 1 (by decide) rfl bw_909 (fun _ _ _ _ h => h) dX9_troop_45 rfl o88 ?_
          refine z_bipush C (pc := 48) (x := (6 : Int32)) dX9_troop_48 kbp_6 ?_
          refine z_icmp_ne C (pc := 50) (tgt := 59) dX9_troop_50 (by decide) h (fun h => ?_) (fun h => ?_)
          · refine z_aload_n C (pc := 59) dX9_troop_59 0 rfl ?_
            refine z_getP C (pc := 60) kf9 2 (by decide) rfl bw_910 (fun _ _ _ _ h => h) dX9_troop_60 rfl o88 ?_
            refine z_aload_n C (pc := 63) dX9_troop_63 0 rfl ?_
            refine z_getI C (pc := 64) kf9 1 (by decide) rfl bw_909 (fun _ _ _ _ h => h) dX9_troop_64 rfl o88 ?_
            refine z_iload_n C (pc := 67) dX9_troop_67 1 rfl ?_
            obtain ⟨a89, e90, o91, h⟩ := h
            obtain ⟨v92, h⟩ := h
            refine z_iast C (pc := 68) dX9_troop_68 e90 o91 v92 ?_
            refine z_lt h (fun S93 h => ?_)
            refine z_aload_n C (pc := 69) dX9_troop_69 0 rfl ?_
            obtain ⟨o94, h⟩ := h
            refine z_getP C (pc := 70) kf9 3 (by decide) rfl bw_911 (fun _ _ _ _ h => h) dX9_troop_70 rfl o94 ?_
            refine z_aload_n C (pc := 73) dX9_troop_73 0 rfl ?_
            refine z_getI C (pc := 74) kf9 1 (by decide) rfl bw_909 (fun _ _ _ _ h => h) dX9_troop_74 rfl o94 ?_
            refine z_iload_n C (pc := 77) dX9_troop_77 2 rfl ?_
            obtain ⟨a95, e96, o97, h⟩ := h
            obtain ⟨v98, h⟩ := h
            refine z_iast C (pc := 78) dX9_troop_78 e96 o97 v98 ?_
            refine z_lt h (fun S99 h => ?_)
            refine z_aload_n C (pc := 79) dX9_troop_79 0 rfl ?_
            obtain ⟨o100, h⟩ := h
            refine z_getP C (pc := 80) kf9 4 (by decide) rfl bw_912 (fun _ _ _ _ h => h) dX9_troop_80 rfl o100 ?_
            refine z_aload_n C (pc := 83) dX9_troop_83 0 rfl ?_
            refine z_getI C (pc := 84) kf9 1 (by decide) rfl bw_909 (fun _ _ _ _ h => h) dX9_troop_84 rfl o100 ?_
            refine z_iload_n C (pc := 87) dX9_troop_87 3 rfl ?_
            obtain ⟨a101, e102, o103, h⟩ := h
            obtain ⟨v104, h⟩ := h
            refine z_iast C (pc := 88) dX9_troop_88 e102 o103 v104 ?_
            refine z_lt h (fun S105 h => ?_)
            refine z_aload_n C (pc := 89) dX9_troop_89 0 rfl ?_
            refine z_dup C (pc := 90) dX9_troop_90 (cat_rf _) ?_
            obtain ⟨o106, h⟩ := h
            refine z_getI C (pc := 91) kf9 1 (by decide) rfl bw_909 (fun _ _ _ _ h => h) dX9_troop_91 rfl o106 ?_
            refine z_iconst C (pc := 94) (x := (1 : Int32)) dX9_troop_94 kic_1 ?_
            refine z_iadd C (pc := 95) dX9_troop_95 ?_
            refine z_putI C (pc := 96) kf9 1 (by decide) rfl rfl bw_909 (fun _ _ _ _ h => h) dX9_troop_96 rfl o106 ?_
            refine z_lt h (fun S107 h => ?_)
            refine z_aload_n C (pc := 99) dX9_troop_99 0 rfl ?_
            obtain ⟨o108, h⟩ := h
            refine z_getI C (pc := 100) kf9 1 (by decide) rfl bw_909 (fun _ _ _ _ h => h) dX9_troop_100 rfl o108 ?_
            refine z_iconst C (pc := 103) (x := (1 : Int32)) dX9_troop_103 kic_1 ?_
            refine z_isub C (pc := 104) dX9_troop_104 ?_
            exact z_iret C (pc := 105) T dX9_troop_105 (by decide) (by decide) h
          · refine z_aload_n C (pc := 53) dX9_troop_53 0 rfl ?_
            refine z_iconst C (pc := 54) (x := (2 : Int32)) dX9_troop_54 kic_2 ?_
            refine z_Vi C (pc := 55) (KX := fun _ _ => False) (kc' := 0) (ks' := 0) (As := [.int (2 : Int32)]) (rest := []) rfl (c_X9_fails l v S86 x0 (2 : Int32)) mw_X9_fails bw_1021 bw_1023 bw_p31 (fit_of rfl) rfl rfl (Nat.le_of_ble_eq_true rfl) (by decide) rfl o88 dX9_troop_55 h (fun r110 S109 h => ?_) (fun En S9 h => h.elim)
            exact z_iret C (pc := 58) T dX9_troop_58 (by decide) (by decide) h
        · refine z_iconst C (pc := 42) (x := (0 : Int32)) dX9_troop_42 kic_0 ?_
          exact z_iret C (pc := 43) T dX9_troop_43 (by decide) (by decide) h
def wp_X9_child (S : Hp) (x0 : Nat) (x1 : Int32) (Q : Int32 → Hp → Prop) : Prop :=
  wp_X9_in S x1 (5 : Int32) (17 : Int32) (fun r2 S1 => okA S1 9 x0 ∧ (wp_X9_asks S1 x0 r2 (fun r5 S4 => if r5 = 0 then (Q (0 : Int32) S4) else (okA S4 9 x0 ∧ (if (g_I S4 905 x0) = (24 : Int32) then (wp_X9_fails S4 x0 (2 : Int32) (fun r34 S33 => Q r34 S33)) else (rd S4 11 (g_P S4 906 x0) (fun a7 => vp_in (g_I S4 905 x0) (g_N S4 a7) ∧ (lt (s_R S4 a7 (g_I S4 905 x0).toNatClampNeg x1) (fun S11 => okA S11 9 x0 ∧ (rd S11 11 (g_P S11 907 x0) (fun a13 => vp_in (g_I S11 905 x0) (g_N S11 a13) ∧ (lt (s_R S11 a13 (g_I S11 905 x0).toNatClampNeg (-1 : Int32)) (fun S17 => okA S17 9 x0 ∧ (rd S17 11 (g_P S17 908 x0) (fun a19 => vp_in (g_I S17 905 x0) (g_N S17 a19) ∧ (lt (s_R S17 a19 (g_I S17 905 x0).toNatClampNeg (-1 : Int32)) (fun S23 => okA S23 9 x0 ∧ (rd S23 11 (g_P S23 911 x0) (fun a25 => vp_in (g_I S23 905 x0) (g_N S23 a25) ∧ (lt (s_R S23 a25 (g_I S23 905 x0).toNatClampNeg (-1 : Int32)) (fun S29 => okA S29 9 x0 ∧ (lt (s_I S29 905 x0 ((g_I S29 905 x0) + (1 : Int32))) (fun S31 => okA S31 9 x0 ∧ (Q ((g_I S31 905 x0) - (1 : Int32)) S31))))))))))))))))))))))))
def rm_X9_child : Room := { frames := 1, cells := 0, slots := 0, locals := 22 }
set_option maxHeartbeats 4000000 in
set_option maxRecDepth 100000 in
theorem c_X9_child (l : Launch) (v : Ev) (S : Hp) (x0 : Nat) (x1 : Int32) : CI l v yX9_child cX9_child 2 (some .int) rm_X9_child [va_rf (some x0), .int x1] S (fun Q _ => wp_X9_child S x0 x1 Q) := by
  intro Q EQ h
  refine z_start [(0, va_rf (some x0)), (1, .int x1)] (by decide +kernel) (by simp only [la_i, la_r, la_n]) (cat_cr (cat_ci cat_nil)) (by simp only [ls_i, ls_r, ls_n]; decide) (fun z C N T => ?_)
  unfold wp_X9_child at h
  refine z_aload_n C (pc := 0) dX9_child_0 0 rfl ?_
  refine z_iload_n C (pc := 1) dX9_child_1 1 rfl ?_
  refine z_iconst C (pc := 2) (x := (5 : Int32)) dX9_child_2 kic_5 ?_
  refine z_bipush C (pc := 3) (x := (17 : Int32)) dX9_child_3 kbp_17 ?_
  refine z_Si C (pc := 5) (KX := fun _ _ => False) (kc' := 0) (ks' := 0) (As := [.int x1, .int (5 : Int32), .int (17 : Int32)]) (rest := [va_rf (some x0)]) (c_X9_in l v S x1 (5 : Int32) (17 : Int32)) mw_X9_in bw_1014 bw_1015 (fit_of rfl) rfl rfl (Nat.le_of_ble_eq_true rfl) dX9_child_5 h (fun r2 S1 h => ?_) (fun En S9 h => h.elim)
  obtain ⟨o3, h⟩ := h
  refine z_Vi C (pc := 8) (KX := fun _ _ => False) (kc' := 0) (ks' := 0) (As := [.int r2]) (rest := []) rfl (c_X9_asks l v S1 x0 r2) mw_X9_asks bw_1017 bw_1019 bw_p30 (fit_of rfl) rfl rfl (Nat.le_of_ble_eq_true rfl) (by decide) rfl o3 dX9_child_8 h (fun r5 S4 h => ?_) (fun En S9 h => h.elim)
  refine z_if_ne C (pc := 11) (tgt := 16) dX9_child_11 (by decide) h (fun h => ?_) (fun h => ?_)
  · refine z_aload_n C (pc := 16) dX9_child_16 0 rfl ?_
    obtain ⟨o6, h⟩ := h
    refine z_getI C (pc := 17) kf9 5 (by decide) rfl bw_913 (fun _ _ _ _ h => h) dX9_child_17 rfl o6 ?_
    refine z_bipush C (pc := 20) (x := (24 : Int32)) dX9_child_20 kbp_24 ?_
    refine z_icmp_ne C (pc := 22) (tgt := 31) dX9_child_22 (by decide) h (fun h => ?_) (fun h => ?_)
    · refine z_aload_n C (pc := 31) dX9_child_31 0 rfl ?_
      refine z_getP C (pc := 32) kf9 6 (by decide) rfl bw_914 (fun _ _ _ _ h => h) dX9_child_32 rfl o6 ?_
      refine z_aload_n C (pc := 35) dX9_child_35 0 rfl ?_
      refine z_getI C (pc := 36) kf9 5 (by decide) rfl bw_913 (fun _ _ _ _ h => h) dX9_child_36 rfl o6 ?_
      refine z_iload_n C (pc := 39) dX9_child_39 1 rfl ?_
      obtain ⟨a7, e8, o9, h⟩ := h
      obtain ⟨v10, h⟩ := h
      refine z_iast C (pc := 40) dX9_child_40 e8 o9 v10 ?_
      refine z_lt h (fun S11 h => ?_)
      refine z_aload_n C (pc := 41) dX9_child_41 0 rfl ?_
      obtain ⟨o12, h⟩ := h
      refine z_getP C (pc := 42) kf9 7 (by decide) rfl bw_915 (fun _ _ _ _ h => h) dX9_child_42 rfl o12 ?_
      refine z_aload_n C (pc := 45) dX9_child_45 0 rfl ?_
      refine z_getI C (pc := 46) kf9 5 (by decide) rfl bw_913 (fun _ _ _ _ h => h) dX9_child_46 rfl o12 ?_
      refine z_iconst C (pc := 49) (x := (-1 : Int32)) dX9_child_49 kic_m1 ?_
      obtain ⟨a13, e14, o15, h⟩ := h
      obtain ⟨v16, h⟩ := h
      refine z_iast C (pc := 50) dX9_child_50 e14 o15 v16 ?_
      refine z_lt h (fun S17 h => ?_)
      refine z_aload_n C (pc := 51) dX9_child_51 0 rfl ?_
      obtain ⟨o18, h⟩ := h
      refine z_getP C (pc := 52) kf9 8 (by decide) rfl bw_916 (fun _ _ _ _ h => h) dX9_child_52 rfl o18 ?_
      refine z_aload_n C (pc := 55) dX9_child_55 0 rfl ?_
      refine z_getI C (pc := 56) kf9 5 (by decide) rfl bw_913 (fun _ _ _ _ h => h) dX9_child_56 rfl o18 ?_
      refine z_iconst C (pc := 59) (x := (-1 : Int32)) dX9_child_59 kic_m1 ?_
      obtain ⟨a19, e20, o21, h⟩ := h
      obtain ⟨v22, h⟩ := h
      refine z_iast C (pc := 60) dX9_child_60 e20 o21 v22 ?_
      refine z_lt h (fun S23 h => ?_)
      refine z_aload_n C (pc := 61) dX9_child_61 0 rfl ?_
      obtain ⟨o24, h⟩ := h
      refine z_getP C (pc := 62) kf9 11 (by decide) rfl bw_919 (fun _ _ _ _ h => h) dX9_child_62 rfl o24 ?_
      refine z_aload_n C (pc := 65) dX9_child_65 0 rfl ?_
      refine z_getI C (pc := 66) kf9 5 (by decide) rfl bw_913 (fun _ _ _ _ h => h) dX9_child_66 rfl o24 ?_
      refine z_iconst C (pc := 69) (x := (-1 : Int32)) dX9_child_69 kic_m1 ?_
      obtain ⟨a25, e26, o27, h⟩ := h
      obtain ⟨v28, h⟩ := h
      refine z_iast C (pc := 70) dX9_child_70 e26 o27 v28 ?_
      refine z_lt h (fun S29 h => ?_)
      refine z_aload_n C (pc := 71) dX9_child_71 0 rfl ?_
      refine z_dup C (pc := 72) dX9_child_72 (cat_rf _) ?_
      obtain ⟨o30, h⟩ := h
      refine z_getI C (pc := 73) kf9 5 (by decide) rfl bw_913 (fun _ _ _ _ h => h) dX9_child_73 rfl o30 ?_
      refine z_iconst C (pc := 76) (x := (1 : Int32)) dX9_child_76 kic_1 ?_
      refine z_iadd C (pc := 77) dX9_child_77 ?_
      refine z_putI C (pc := 78) kf9 5 (by decide) rfl rfl bw_913 (fun _ _ _ _ h => h) dX9_child_78 rfl o30 ?_
      refine z_lt h (fun S31 h => ?_)
      refine z_aload_n C (pc := 81) dX9_child_81 0 rfl ?_
      obtain ⟨o32, h⟩ := h
      refine z_getI C (pc := 82) kf9 5 (by decide) rfl bw_913 (fun _ _ _ _ h => h) dX9_child_82 rfl o32 ?_
      refine z_iconst C (pc := 85) (x := (1 : Int32)) dX9_child_85 kic_1 ?_
      refine z_isub C (pc := 86) dX9_child_86 ?_
      exact z_iret C (pc := 87) T dX9_child_87 (by decide) (by decide) h
    · refine z_aload_n C (pc := 25) dX9_child_25 0 rfl ?_
      refine z_iconst C (pc := 26) (x := (2 : Int32)) dX9_child_26 kic_2 ?_
      refine z_Vi C (pc := 27) (KX := fun _ _ => False) (kc' := 0) (ks' := 0) (As := [.int (2 : Int32)]) (rest := []) rfl (c_X9_fails l v S4 x0 (2 : Int32)) mw_X9_fails bw_1021 bw_1023 bw_p31 (fit_of rfl) rfl rfl (Nat.le_of_ble_eq_true rfl) (by decide) rfl o6 dX9_child_27 h (fun r34 S33 h => ?_) (fun En S9 h => h.elim)
      exact z_iret C (pc := 30) T dX9_child_30 (by decide) (by decide) h
  · refine z_iconst C (pc := 14) (x := (0 : Int32)) dX9_child_14 kic_0 ?_
    exact z_iret C (pc := 15) T dX9_child_15 (by decide) (by decide) h
def wp_X9_inTroop_L4 (f0 : Nat) (f1 : Int32) (Q : Int32 → Hp → Prop) : Nat → Hp → Int32 → Int32 → Prop
  | 0, _, _, _ => False
  | n + 1, S, w2, w3 => okA S 9 f0 ∧ (if (g_I S 905 f0) ≤ w3 then (Q w2 S) else (rd S 11 (g_P S 907 f0) (fun a2 => vp_in w3 (g_N S a2) ∧ (if (g_R S a2 w3.toNatClampNeg) = f1 then (lt (w2 + (1 : Int32)) (fun y7 => wp_X9_inTroop_L4 f0 f1 Q n S y7 (w3 + (1 : Int32)))) else (lt (w2 + (0 : Int32)) (fun y6 => wp_X9_inTroop_L4 f0 f1 Q n S y6 (w3 + (1 : Int32))))))))
def wp_X9_inTroop (S : Hp) (x0 : Nat) (x1 : Int32) (Q : Int32 → Hp → Prop) : Prop :=
  ∃ n8, wp_X9_inTroop_L4 x0 x1 Q n8 S (0 : Int32) (0 : Int32)
def rm_X9_inTroop : Room := { frames := 0, cells := 0, slots := 0, locals := 0 }
set_option maxHeartbeats 4000000 in
set_option maxRecDepth 100000 in
theorem l_X9_inTroop_L4 (l : Launch) (v : Ev) (f0 : Nat) (f1 : Int32) (Q : Int32 → Hp → Prop) {EQ : String → Hp → Prop} {z : Z9} (C : Cx l v RX9 cX9_inTroop 4 (some .int) "inTroop" z) (N : NT z) (T : EE v rm_X9_inTroop (QI v Q) EQ z) : ∀ (n : Nat) (S : Hp) (w2 : Int32) (w3 : Int32), wp_X9_inTroop_L4 f0 f1 Q n S w2 w3 → ZZ l v 4 rm_X9_inTroop z 0 0 S 4 [(0, va_rf (some f0)), (1, .int f1), (2, .int w2), (3, .int w3)] [] := by
  intro n
  induction n with
  | zero =>
    intro S w2 w3 h
    exact h.elim
  | succ n ih =>
    intro S w2 w3 h
    unfold wp_X9_inTroop_L4 at h
    refine z_iload_n C (pc := 4) dX9_inTroop_4 3 rfl ?_
    refine z_aload_n C (pc := 5) dX9_inTroop_5 0 rfl ?_
    obtain ⟨o1, h⟩ := h
    refine z_getI C (pc := 6) kf9 5 (by decide) rfl bw_913 (fun _ _ _ _ h => h) dX9_inTroop_6 rfl o1 ?_
    refine z_icmp_ge C (pc := 9) (tgt := 36) dX9_inTroop_9 (by decide) h (fun h => ?_) (fun h => ?_)
    · refine z_iload_n C (pc := 36) dX9_inTroop_36 2 rfl ?_
      exact z_iret C (pc := 37) T dX9_inTroop_37 (by decide) (by decide) h
    · refine z_iload_n C (pc := 12) dX9_inTroop_12 2 rfl ?_
      refine z_aload_n C (pc := 13) dX9_inTroop_13 0 rfl ?_
      refine z_getP C (pc := 14) kf9 7 (by decide) rfl bw_915 (fun _ _ _ _ h => h) dX9_inTroop_14 rfl o1 ?_
      refine z_iload_n C (pc := 17) dX9_inTroop_17 3 rfl ?_
      obtain ⟨a2, e3, o4, h⟩ := h
      obtain ⟨v5, h⟩ := h
      refine z_iald C (pc := 18) dX9_inTroop_18 e3 o4 v5 ?_
      refine z_iload_n C (pc := 19) dX9_inTroop_19 1 rfl ?_
      refine z_icmp_ne C (pc := 20) (tgt := 27) dX9_inTroop_20 (by decide) h (fun h => ?_) (fun h => ?_)
      · refine z_iconst C (pc := 27) (x := (0 : Int32)) dX9_inTroop_27 kic_0 ?_
        refine z_iadd C (pc := 28) dX9_inTroop_28 ?_
        refine z_nI h (fun y6 h => ?_)
        refine z_istore_n C (pc := 29) (lv' := [(2, .int y6), (0, va_rf (some f0)), (1, .int f1), (3, .int w3)]) dX9_inTroop_29 (by decide) rfl ?_
        refine z_iinc C (pc := 30) (y := w3 + (1 : Int32)) (lv' := [(3, .int (w3 + (1 : Int32))), (2, .int y6), (0, va_rf (some f0)), (1, .int f1)]) dX9_inTroop_30 3 rfl rfl (by decide) rfl ?_
        refine z_goto C (pc := 33) (tgt := 4) dX9_inTroop_33 (by decide) ?_
        refine z_sub [2, 3, 1, 0] (lv' := [(0, va_rf (some f0)), (1, .int f1), (2, .int y6), (3, .int (w3 + (1 : Int32)))]) rfl ?_
        exact ih S y6 (w3 + (1 : Int32)) h
      · refine z_iconst C (pc := 23) (x := (1 : Int32)) dX9_inTroop_23 kic_1 ?_
        refine z_goto C (pc := 24) (tgt := 28) dX9_inTroop_24 (by decide) ?_
        refine z_iadd C (pc := 28) dX9_inTroop_28 ?_
        refine z_nI h (fun y7 h => ?_)
        refine z_istore_n C (pc := 29) (lv' := [(2, .int y7), (0, va_rf (some f0)), (1, .int f1), (3, .int w3)]) dX9_inTroop_29 (by decide) rfl ?_
        refine z_iinc C (pc := 30) (y := w3 + (1 : Int32)) (lv' := [(3, .int (w3 + (1 : Int32))), (2, .int y7), (0, va_rf (some f0)), (1, .int f1)]) dX9_inTroop_30 3 rfl rfl (by decide) rfl ?_
        refine z_goto C (pc := 33) (tgt := 4) dX9_inTroop_33 (by decide) ?_
        refine z_sub [2, 3, 1, 0] (lv' := [(0, va_rf (some f0)), (1, .int f1), (2, .int y7), (3, .int (w3 + (1 : Int32)))]) rfl ?_
        exact ih S y7 (w3 + (1 : Int32)) h
set_option maxHeartbeats 4000000 in
set_option maxRecDepth 100000 in
theorem c_X9_inTroop (l : Launch) (v : Ev) (S : Hp) (x0 : Nat) (x1 : Int32) : CI l v yX9_inTroop cX9_inTroop 4 (some .int) rm_X9_inTroop [va_rf (some x0), .int x1] S (fun Q _ => wp_X9_inTroop S x0 x1 Q) := by
  intro Q EQ h
  refine z_start [(0, va_rf (some x0)), (1, .int x1)] (by decide +kernel) (by simp only [la_i, la_r, la_n]) (cat_cr (cat_ci cat_nil)) (by simp only [ls_i, ls_r, ls_n]; decide) (fun z C N T => ?_)
  unfold wp_X9_inTroop at h
  refine z_iconst C (pc := 0) (x := (0 : Int32)) dX9_inTroop_0 kic_0 ?_
  refine z_istore_n C (pc := 1) (lv' := [(2, .int (0 : Int32)), (0, va_rf (some x0)), (1, .int x1)]) dX9_inTroop_1 (by decide) rfl ?_
  refine z_iconst C (pc := 2) (x := (0 : Int32)) dX9_inTroop_2 kic_0 ?_
  refine z_istore_n C (pc := 3) (lv' := [(3, .int (0 : Int32)), (2, .int (0 : Int32)), (0, va_rf (some x0)), (1, .int x1)]) dX9_inTroop_3 (by decide) rfl ?_
  obtain ⟨n8, h⟩ := h
  refine z_sub [2, 3, 1, 0] (lv' := [(0, va_rf (some x0)), (1, .int x1), (2, .int (0 : Int32)), (3, .int (0 : Int32))]) rfl ?_
  exact l_X9_inTroop_L4 l v x0 x1 Q C N T n8 S (0 : Int32) (0 : Int32) h
def wp_X9_waiting_L4 (f0 : Nat) (f1 : Int32) (Q : Int32 → Hp → Prop) : Nat → Hp → Int32 → Int32 → Prop
  | 0, _, _, _ => False
  | n + 1, S, w2, w3 => okA S 9 f0 ∧ (if (g_I S 905 f0) ≤ w3 then (Q w2 S) else (rd S 11 (g_P S 908 f0) (fun a2 => vp_in w3 (g_N S a2) ∧ (if (g_R S a2 w3.toNatClampNeg) = f1 then (lt (w2 + (1 : Int32)) (fun y7 => wp_X9_waiting_L4 f0 f1 Q n S y7 (w3 + (1 : Int32)))) else (lt (w2 + (0 : Int32)) (fun y6 => wp_X9_waiting_L4 f0 f1 Q n S y6 (w3 + (1 : Int32))))))))
def wp_X9_waiting (S : Hp) (x0 : Nat) (x1 : Int32) (Q : Int32 → Hp → Prop) : Prop :=
  ∃ n8, wp_X9_waiting_L4 x0 x1 Q n8 S (0 : Int32) (0 : Int32)
def rm_X9_waiting : Room := { frames := 0, cells := 0, slots := 0, locals := 0 }
set_option maxHeartbeats 4000000 in
set_option maxRecDepth 100000 in
theorem l_X9_waiting_L4 (l : Launch) (v : Ev) (f0 : Nat) (f1 : Int32) (Q : Int32 → Hp → Prop) {EQ : String → Hp → Prop} {z : Z9} (C : Cx l v RX9 cX9_waiting 4 (some .int) "waiting" z) (N : NT z) (T : EE v rm_X9_waiting (QI v Q) EQ z) : ∀ (n : Nat) (S : Hp) (w2 : Int32) (w3 : Int32), wp_X9_waiting_L4 f0 f1 Q n S w2 w3 → ZZ l v 4 rm_X9_waiting z 0 0 S 4 [(0, va_rf (some f0)), (1, .int f1), (2, .int w2), (3, .int w3)] [] := by
  intro n
  induction n with
  | zero =>
    intro S w2 w3 h
    exact h.elim
  | succ n ih =>
    intro S w2 w3 h
    unfold wp_X9_waiting_L4 at h
    refine z_iload_n C (pc := 4) dX9_waiting_4 3 rfl ?_
    refine z_aload_n C (pc := 5) dX9_waiting_5 0 rfl ?_
    obtain ⟨o1, h⟩ := h
    refine z_getI C (pc := 6) kf9 5 (by decide) rfl bw_913 (fun _ _ _ _ h => h) dX9_waiting_6 rfl o1 ?_
    refine z_icmp_ge C (pc := 9) (tgt := 36) dX9_waiting_9 (by decide) h (fun h => ?_) (fun h => ?_)
    · refine z_iload_n C (pc := 36) dX9_waiting_36 2 rfl ?_
      exact z_iret C (pc := 37) T dX9_waiting_37 (by decide) (by decide) h
    · refine z_iload_n C (pc := 12) dX9_waiting_12 2 rfl ?_
      refine z_aload_n C (pc := 13) dX9_waiting_13 0 rfl ?_
      refine z_getP C (pc := 14) kf9 8 (by decide) rfl bw_916 (fun _ _ _ _ h => h) dX9_waiting_14 rfl o1 ?_
      refine z_iload_n C (pc := 17) dX9_waiting_17 3 rfl ?_
      obtain ⟨a2, e3, o4, h⟩ := h
      obtain ⟨v5, h⟩ := h
      refine z_iald C (pc := 18) dX9_waiting_18 e3 o4 v5 ?_
      refine z_iload_n C (pc := 19) dX9_waiting_19 1 rfl ?_
      refine z_icmp_ne C (pc := 20) (tgt := 27) dX9_waiting_20 (by decide) h (fun h => ?_) (fun h => ?_)
      · refine z_iconst C (pc := 27) (x := (0 : Int32)) dX9_waiting_27 kic_0 ?_
        refine z_iadd C (pc := 28) dX9_waiting_28 ?_
        refine z_nI h (fun y6 h => ?_)
        refine z_istore_n C (pc := 29) (lv' := [(2, .int y6), (0, va_rf (some f0)), (1, .int f1), (3, .int w3)]) dX9_waiting_29 (by decide) rfl ?_
        refine z_iinc C (pc := 30) (y := w3 + (1 : Int32)) (lv' := [(3, .int (w3 + (1 : Int32))), (2, .int y6), (0, va_rf (some f0)), (1, .int f1)]) dX9_waiting_30 3 rfl rfl (by decide) rfl ?_
        refine z_goto C (pc := 33) (tgt := 4) dX9_waiting_33 (by decide) ?_
        refine z_sub [2, 3, 1, 0] (lv' := [(0, va_rf (some f0)), (1, .int f1), (2, .int y6), (3, .int (w3 + (1 : Int32)))]) rfl ?_
        exact ih S y6 (w3 + (1 : Int32)) h
      · refine z_iconst C (pc := 23) (x := (1 : Int32)) dX9_waiting_23 kic_1 ?_
        refine z_goto C (pc := 24) (tgt := 28) dX9_waiting_24 (by decide) ?_
        refine z_iadd C (pc := 28) dX9_waiting_28 ?_
        refine z_nI h (fun y7 h => ?_)
        refine z_istore_n C (pc := 29) (lv' := [(2, .int y7), (0, va_rf (some f0)), (1, .int f1), (3, .int w3)]) dX9_waiting_29 (by decide) rfl ?_
        refine z_iinc C (pc := 30) (y := w3 + (1 : Int32)) (lv' := [(3, .int (w3 + (1 : Int32))), (2, .int y7), (0, va_rf (some f0)), (1, .int f1)]) dX9_waiting_30 3 rfl rfl (by decide) rfl ?_
        refine z_goto C (pc := 33) (tgt := 4) dX9_waiting_33 (by decide) ?_
        refine z_sub [2, 3, 1, 0] (lv' := [(0, va_rf (some f0)), (1, .int f1), (2, .int y7), (3, .int (w3 + (1 : Int32)))]) rfl ?_
        exact ih S y7 (w3 + (1 : Int32)) h
set_option maxHeartbeats 4000000 in
set_option maxRecDepth 100000 in
theorem c_X9_waiting (l : Launch) (v : Ev) (S : Hp) (x0 : Nat) (x1 : Int32) : CI l v yX9_waiting cX9_waiting 4 (some .int) rm_X9_waiting [va_rf (some x0), .int x1] S (fun Q _ => wp_X9_waiting S x0 x1 Q) := by
  intro Q EQ h
  refine z_start [(0, va_rf (some x0)), (1, .int x1)] (by decide +kernel) (by simp only [la_i, la_r, la_n]) (cat_cr (cat_ci cat_nil)) (by simp only [ls_i, ls_r, ls_n]; decide) (fun z C N T => ?_)
  unfold wp_X9_waiting at h
  refine z_iconst C (pc := 0) (x := (0 : Int32)) dX9_waiting_0 kic_0 ?_
  refine z_istore_n C (pc := 1) (lv' := [(2, .int (0 : Int32)), (0, va_rf (some x0)), (1, .int x1)]) dX9_waiting_1 (by decide) rfl ?_
  refine z_iconst C (pc := 2) (x := (0 : Int32)) dX9_waiting_2 kic_0 ?_
  refine z_istore_n C (pc := 3) (lv' := [(3, .int (0 : Int32)), (2, .int (0 : Int32)), (0, va_rf (some x0)), (1, .int x1)]) dX9_waiting_3 (by decide) rfl ?_
  obtain ⟨n8, h⟩ := h
  refine z_sub [2, 3, 1, 0] (lv' := [(0, va_rf (some x0)), (1, .int x1), (2, .int (0 : Int32)), (3, .int (0 : Int32))]) rfl ?_
  exact l_X9_waiting_L4 l v x0 x1 Q C N T n8 S (0 : Int32) (0 : Int32) h
def wp_X9_inPatrol_L5 (f0 : Nat) (f1 : Int32) (f2 : Int32) (Q : Int32 → Hp → Prop) : Nat → Hp → Int32 → Int32 → Prop
  | 0, _, _, _ => False
  | n + 1, S, w3, w4 => okA S 9 f0 ∧ (if (g_I S 905 f0) ≤ w4 then (Q w3 S) else (rd S 11 (g_P S 907 f0) (fun a2 => vp_in w4 (g_N S a2) ∧ (if (g_R S a2 w4.toNatClampNeg) = f1 then (rd S 11 (g_P S 911 f0) (fun a7 => vp_in w4 (g_N S a7) ∧ (if (g_R S a7 w4.toNatClampNeg) = f2 then (lt (w3 + (1 : Int32)) (fun y12 => wp_X9_inPatrol_L5 f0 f1 f2 Q n S y12 (w4 + (1 : Int32)))) else (lt (w3 + (0 : Int32)) (fun y11 => wp_X9_inPatrol_L5 f0 f1 f2 Q n S y11 (w4 + (1 : Int32))))))) else (lt (w3 + (0 : Int32)) (fun y6 => wp_X9_inPatrol_L5 f0 f1 f2 Q n S y6 (w4 + (1 : Int32))))))))
def wp_X9_inPatrol (S : Hp) (x0 : Nat) (x1 : Int32) (x2 : Int32) (Q : Int32 → Hp → Prop) : Prop :=
  ∃ n13, wp_X9_inPatrol_L5 x0 x1 x2 Q n13 S (0 : Int32) (0 : Int32)
def rm_X9_inPatrol : Room := { frames := 0, cells := 0, slots := 0, locals := 0 }
set_option maxHeartbeats 4000000 in
set_option maxRecDepth 100000 in
theorem l_X9_inPatrol_L5 (l : Launch) (v : Ev) (f0 : Nat) (f1 : Int32) (f2 : Int32) (Q : Int32 → Hp → Prop) {EQ : String → Hp → Prop} {z : Z9} (C : Cx l v RX9 cX9_inPatrol 5 (some .int) "inPatrol" z) (N : NT z) (T : EE v rm_X9_inPatrol (QI v Q) EQ z) : ∀ (n : Nat) (S : Hp) (w3 : Int32) (w4 : Int32), wp_X9_inPatrol_L5 f0 f1 f2 Q n S w3 w4 → ZZ l v 5 rm_X9_inPatrol z 0 0 S 5 [(0, va_rf (some f0)), (1, .int f1), (2, .int f2), (3, .int w3), (4, .int w4)] [] := by
  intro n
  induction n with
  | zero =>
    intro S w3 w4 h
    exact h.elim
  | succ n ih =>
    intro S w3 w4 h
    unfold wp_X9_inPatrol_L5 at h
    refine z_iload C (pc := 5) dX9_inPatrol_5 4 rfl ?_
    refine z_aload_n C (pc := 7) dX9_inPatrol_7 0 rfl ?_
    obtain ⟨o1, h⟩ := h
    refine z_getI C (pc := 8) kf9 5 (by decide) rfl bw_913 (fun _ _ _ _ h => h) dX9_inPatrol_8 rfl o1 ?_
    refine z_icmp_ge C (pc := 11) (tgt := 50) dX9_inPatrol_11 (by decide) h (fun h => ?_) (fun h => ?_)
    · refine z_iload_n C (pc := 50) dX9_inPatrol_50 3 rfl ?_
      exact z_iret C (pc := 51) T dX9_inPatrol_51 (by decide) (by decide) h
    · refine z_iload_n C (pc := 14) dX9_inPatrol_14 3 rfl ?_
      refine z_aload_n C (pc := 15) dX9_inPatrol_15 0 rfl ?_
      refine z_getP C (pc := 16) kf9 7 (by decide) rfl bw_915 (fun _ _ _ _ h => h) dX9_inPatrol_16 rfl o1 ?_
      refine z_iload C (pc := 19) dX9_inPatrol_19 4 rfl ?_
      obtain ⟨a2, e3, o4, h⟩ := h
      obtain ⟨v5, h⟩ := h
      refine z_iald C (pc := 21) dX9_inPatrol_21 e3 o4 v5 ?_
      refine z_iload_n C (pc := 22) dX9_inPatrol_22 1 rfl ?_
      refine z_icmp_ne C (pc := 23) (tgt := 41) dX9_inPatrol_23 (by decide) h (fun h => ?_) (fun h => ?_)
      · refine z_iconst C (pc := 41) (x := (0 : Int32)) dX9_inPatrol_41 kic_0 ?_
        refine z_iadd C (pc := 42) dX9_inPatrol_42 ?_
        refine z_nI h (fun y6 h => ?_)
        refine z_istore_n C (pc := 43) (lv' := [(3, .int y6), (0, va_rf (some f0)), (1, .int f1), (2, .int f2), (4, .int w4)]) dX9_inPatrol_43 (by decide) rfl ?_
        refine z_iinc C (pc := 44) (y := w4 + (1 : Int32)) (lv' := [(4, .int (w4 + (1 : Int32))), (3, .int y6), (0, va_rf (some f0)), (1, .int f1), (2, .int f2)]) dX9_inPatrol_44 4 rfl rfl (by decide) rfl ?_
        refine z_goto C (pc := 47) (tgt := 5) dX9_inPatrol_47 (by decide) ?_
        refine z_sub [2, 3, 4, 1, 0] (lv' := [(0, va_rf (some f0)), (1, .int f1), (2, .int f2), (3, .int y6), (4, .int (w4 + (1 : Int32)))]) rfl ?_
        exact ih S y6 (w4 + (1 : Int32)) h
      · refine z_aload_n C (pc := 26) dX9_inPatrol_26 0 rfl ?_
        refine z_getP C (pc := 27) kf9 11 (by decide) rfl bw_919 (fun _ _ _ _ h => h) dX9_inPatrol_27 rfl o1 ?_
        refine z_iload C (pc := 30) dX9_inPatrol_30 4 rfl ?_
        obtain ⟨a7, e8, o9, h⟩ := h
        obtain ⟨v10, h⟩ := h
        refine z_iald C (pc := 32) dX9_inPatrol_32 e8 o9 v10 ?_
        refine z_iload_n C (pc := 33) dX9_inPatrol_33 2 rfl ?_
        refine z_icmp_ne C (pc := 34) (tgt := 41) dX9_inPatrol_34 (by decide) h (fun h => ?_) (fun h => ?_)
        · refine z_iconst C (pc := 41) (x := (0 : Int32)) dX9_inPatrol_41 kic_0 ?_
          refine z_iadd C (pc := 42) dX9_inPatrol_42 ?_
          refine z_nI h (fun y11 h => ?_)
          refine z_istore_n C (pc := 43) (lv' := [(3, .int y11), (0, va_rf (some f0)), (1, .int f1), (2, .int f2), (4, .int w4)]) dX9_inPatrol_43 (by decide) rfl ?_
          refine z_iinc C (pc := 44) (y := w4 + (1 : Int32)) (lv' := [(4, .int (w4 + (1 : Int32))), (3, .int y11), (0, va_rf (some f0)), (1, .int f1), (2, .int f2)]) dX9_inPatrol_44 4 rfl rfl (by decide) rfl ?_
          refine z_goto C (pc := 47) (tgt := 5) dX9_inPatrol_47 (by decide) ?_
          refine z_sub [2, 3, 4, 1, 0] (lv' := [(0, va_rf (some f0)), (1, .int f1), (2, .int f2), (3, .int y11), (4, .int (w4 + (1 : Int32)))]) rfl ?_
          exact ih S y11 (w4 + (1 : Int32)) h
        · refine z_iconst C (pc := 37) (x := (1 : Int32)) dX9_inPatrol_37 kic_1 ?_
          refine z_goto C (pc := 38) (tgt := 42) dX9_inPatrol_38 (by decide) ?_
          refine z_iadd C (pc := 42) dX9_inPatrol_42 ?_
          refine z_nI h (fun y12 h => ?_)
          refine z_istore_n C (pc := 43) (lv' := [(3, .int y12), (0, va_rf (some f0)), (1, .int f1), (2, .int f2), (4, .int w4)]) dX9_inPatrol_43 (by decide) rfl ?_
          refine z_iinc C (pc := 44) (y := w4 + (1 : Int32)) (lv' := [(4, .int (w4 + (1 : Int32))), (3, .int y12), (0, va_rf (some f0)), (1, .int f1), (2, .int f2)]) dX9_inPatrol_44 4 rfl rfl (by decide) rfl ?_
          refine z_goto C (pc := 47) (tgt := 5) dX9_inPatrol_47 (by decide) ?_
          refine z_sub [2, 3, 4, 1, 0] (lv' := [(0, va_rf (some f0)), (1, .int f1), (2, .int f2), (3, .int y12), (4, .int (w4 + (1 : Int32)))]) rfl ?_
          exact ih S y12 (w4 + (1 : Int32)) h
set_option maxHeartbeats 4000000 in
set_option maxRecDepth 100000 in
theorem c_X9_inPatrol (l : Launch) (v : Ev) (S : Hp) (x0 : Nat) (x1 : Int32) (x2 : Int32) : CI l v yX9_inPatrol cX9_inPatrol 5 (some .int) rm_X9_inPatrol [va_rf (some x0), .int x1, .int x2] S (fun Q _ => wp_X9_inPatrol S x0 x1 x2 Q) := by
  intro Q EQ h
  refine z_start [(0, va_rf (some x0)), (1, .int x1), (2, .int x2)] (by decide +kernel) (by simp only [la_i, la_r, la_n]) (cat_cr (cat_ci (cat_ci cat_nil))) (by simp only [ls_i, ls_r, ls_n]; decide) (fun z C N T => ?_)
  unfold wp_X9_inPatrol at h
  refine z_iconst C (pc := 0) (x := (0 : Int32)) dX9_inPatrol_0 kic_0 ?_
  refine z_istore_n C (pc := 1) (lv' := [(3, .int (0 : Int32)), (0, va_rf (some x0)), (1, .int x1), (2, .int x2)]) dX9_inPatrol_1 (by decide) rfl ?_
  refine z_iconst C (pc := 2) (x := (0 : Int32)) dX9_inPatrol_2 kic_0 ?_
  refine z_istore C (pc := 3) (lv' := [(4, .int (0 : Int32)), (3, .int (0 : Int32)), (0, va_rf (some x0)), (1, .int x1), (2, .int x2)]) dX9_inPatrol_3 (by decide) rfl ?_
  obtain ⟨n13, h⟩ := h
  refine z_sub [2, 3, 4, 1, 0] (lv' := [(0, va_rf (some x0)), (1, .int x1), (2, .int x2), (3, .int (0 : Int32)), (4, .int (0 : Int32))]) rfl ?_
  exact l_X9_inPatrol_L5 l v x0 x1 x2 Q C N T n13 S (0 : Int32) (0 : Int32) h
def wp_X9_comesIn_L5 (f0 : Nat) (f1 : Int32) (f2 : Int32) (Q : Hp → Prop) : Nat → Hp → Int32 → Int32 → Prop
  | 0, _, _, _ => False
  | n + 1, S, w3, w4 => if (4 : Int32) ≤ w4 then (okA S 9 f0 ∧ (rd S 11 (g_P S 908 f0) (fun a2 => vp_in f1 (g_N S a2) ∧ (lt (s_R S a2 f1.toNatClampNeg (-1 : Int32)) (fun S6 => okA S6 9 f0 ∧ (rd S6 11 (g_P S6 907 f0) (fun a8 => vp_in f1 (g_N S6 a8) ∧ (lt (s_R S6 a8 f1.toNatClampNeg f2) (fun S12 => okA S12 9 f0 ∧ (rd S12 11 (g_P S12 911 f0) (fun a14 => vp_in f1 (g_N S12 a14) ∧ (lt (s_R S12 a14 f1.toNatClampNeg w3) (fun S18 => Q S18))))))))))))) else (okA S 9 f0 ∧ (wp_X9_inPatrol S f0 f2 w4 (fun r21 S20 => okA S20 9 f0 ∧ (wp_X9_inPatrol S20 f0 f2 w3 (fun r24 S23 => if r24 ≤ r21 then (wp_X9_comesIn_L5 f0 f1 f2 Q n S23 w3 (w4 + (1 : Int32))) else (wp_X9_comesIn_L5 f0 f1 f2 Q n S23 w4 (w4 + (1 : Int32))))))))
def wp_X9_comesIn (S : Hp) (x0 : Nat) (x1 : Int32) (x2 : Int32) (Q : Hp → Prop) : Prop :=
  ∃ n25, wp_X9_comesIn_L5 x0 x1 x2 Q n25 S (0 : Int32) (1 : Int32)
def rm_X9_comesIn : Room := { frames := 1, cells := 0, slots := 0, locals := 24 }
set_option maxHeartbeats 4000000 in
set_option maxRecDepth 100000 in
theorem l_X9_comesIn_L5 (l : Launch) (v : Ev) (f0 : Nat) (f1 : Int32) (f2 : Int32) (Q : Hp → Prop) {EQ : String → Hp → Prop} {z : Z9} (C : Cx l v RX9 cX9_comesIn 5 none "comesIn" z) (N : NT z) (T : EE v rm_X9_comesIn (QV v Q) EQ z) : ∀ (n : Nat) (S : Hp) (w3 : Int32) (w4 : Int32), wp_X9_comesIn_L5 f0 f1 f2 Q n S w3 w4 → ZZ l v 5 rm_X9_comesIn z 0 0 S 5 [(0, va_rf (some f0)), (1, .int f1), (2, .int f2), (3, .int w3), (4, .int w4)] [] := by
  intro n
  induction n with
  | zero =>
    intro S w3 w4 h
    exact h.elim
  | succ n ih =>
    intro S w3 w4 h
    unfold wp_X9_comesIn_L5 at h
    refine z_iload C (pc := 5) dX9_comesIn_5 4 rfl ?_
    refine z_iconst C (pc := 7) (x := (4 : Int32)) dX9_comesIn_7 kic_4 ?_
    refine z_icmp_ge C (pc := 8) (tgt := 40) dX9_comesIn_8 (by decide) h (fun h => ?_) (fun h => ?_)
    · refine z_aload_n C (pc := 40) dX9_comesIn_40 0 rfl ?_
      obtain ⟨o1, h⟩ := h
      refine z_getP C (pc := 41) kf9 8 (by decide) rfl bw_916 (fun _ _ _ _ h => h) dX9_comesIn_41 rfl o1 ?_
      refine z_iload_n C (pc := 44) dX9_comesIn_44 1 rfl ?_
      refine z_iconst C (pc := 45) (x := (-1 : Int32)) dX9_comesIn_45 kic_m1 ?_
      obtain ⟨a2, e3, o4, h⟩ := h
      obtain ⟨v5, h⟩ := h
      refine z_iast C (pc := 46) dX9_comesIn_46 e3 o4 v5 ?_
      refine z_lt h (fun S6 h => ?_)
      refine z_aload_n C (pc := 47) dX9_comesIn_47 0 rfl ?_
      obtain ⟨o7, h⟩ := h
      refine z_getP C (pc := 48) kf9 7 (by decide) rfl bw_915 (fun _ _ _ _ h => h) dX9_comesIn_48 rfl o7 ?_
      refine z_iload_n C (pc := 51) dX9_comesIn_51 1 rfl ?_
      refine z_iload_n C (pc := 52) dX9_comesIn_52 2 rfl ?_
      obtain ⟨a8, e9, o10, h⟩ := h
      obtain ⟨v11, h⟩ := h
      refine z_iast C (pc := 53) dX9_comesIn_53 e9 o10 v11 ?_
      refine z_lt h (fun S12 h => ?_)
      refine z_aload_n C (pc := 54) dX9_comesIn_54 0 rfl ?_
      obtain ⟨o13, h⟩ := h
      refine z_getP C (pc := 55) kf9 11 (by decide) rfl bw_919 (fun _ _ _ _ h => h) dX9_comesIn_55 rfl o13 ?_
      refine z_iload_n C (pc := 58) dX9_comesIn_58 1 rfl ?_
      refine z_iload_n C (pc := 59) dX9_comesIn_59 3 rfl ?_
      obtain ⟨a14, e15, o16, h⟩ := h
      obtain ⟨v17, h⟩ := h
      refine z_iast C (pc := 60) dX9_comesIn_60 e15 o16 v17 ?_
      refine z_lt h (fun S18 h => ?_)
      exact z_vret C (pc := 61) T dX9_comesIn_61 (by decide) (by decide) h
    · refine z_aload_n C (pc := 11) dX9_comesIn_11 0 rfl ?_
      refine z_iload_n C (pc := 12) dX9_comesIn_12 2 rfl ?_
      refine z_iload C (pc := 13) dX9_comesIn_13 4 rfl ?_
      obtain ⟨o19, h⟩ := h
      refine z_Vi C (pc := 15) (KX := fun _ _ => False) (kc' := 0) (ks' := 0) (As := [.int f2, .int w4]) (rest := []) rfl (c_X9_inPatrol l v S f0 f2 w4) mw_X9_inPatrol bw_1057 bw_1059 bw_p38 (fit_of rfl) rfl rfl (Nat.le_of_ble_eq_true rfl) (by decide) rfl o19 dX9_comesIn_15 h (fun r21 S20 h => ?_) (fun En S9 h => h.elim)
      refine z_aload_n C (pc := 18) dX9_comesIn_18 0 rfl ?_
      refine z_iload_n C (pc := 19) dX9_comesIn_19 2 rfl ?_
      refine z_iload_n C (pc := 20) dX9_comesIn_20 3 rfl ?_
      obtain ⟨o22, h⟩ := h
      refine z_Vi C (pc := 21) (KX := fun _ _ => False) (kc' := 0) (ks' := 0) (As := [.int f2, .int w3]) (rest := [.int r21]) rfl (c_X9_inPatrol l v S20 f0 f2 w3) mw_X9_inPatrol bw_1057 bw_1059 bw_p38 (fit_of rfl) rfl rfl (Nat.le_of_ble_eq_true rfl) (by decide) rfl o22 dX9_comesIn_21 h (fun r24 S23 h => ?_) (fun En S9 h => h.elim)
      refine z_icmp_ge C (pc := 24) (tgt := 32) dX9_comesIn_24 (by decide) h (fun h => ?_) (fun h => ?_)
      · refine z_iload_n C (pc := 32) dX9_comesIn_32 3 rfl ?_
        refine z_istore_n C (pc := 33) (lv' := [(3, .int w3), (0, va_rf (some f0)), (1, .int f1), (2, .int f2), (4, .int w4)]) dX9_comesIn_33 (by decide) rfl ?_
        refine z_iinc C (pc := 34) (y := w4 + (1 : Int32)) (lv' := [(4, .int (w4 + (1 : Int32))), (3, .int w3), (0, va_rf (some f0)), (1, .int f1), (2, .int f2)]) dX9_comesIn_34 4 rfl rfl (by decide) rfl ?_
        refine z_goto C (pc := 37) (tgt := 5) dX9_comesIn_37 (by decide) ?_
        refine z_sub [2, 3, 4, 1, 0] (lv' := [(0, va_rf (some f0)), (1, .int f1), (2, .int f2), (3, .int w3), (4, .int (w4 + (1 : Int32)))]) rfl ?_
        exact ih S23 w3 (w4 + (1 : Int32)) h
      · refine z_iload C (pc := 27) dX9_comesIn_27 4 rfl ?_
        refine z_goto C (pc := 29) (tgt := 33) dX9_comesIn_29 (by decide) ?_
        refine z_istore_n C (pc := 33) (lv' := [(3, .int w4), (0, va_rf (some f0)), (1, .int f1), (2, .int f2), (4, .int w4)]) dX9_comesIn_33 (by decide) rfl ?_
        refine z_iinc C (pc := 34) (y := w4 + (1 : Int32)) (lv' := [(4, .int (w4 + (1 : Int32))), (3, .int w4), (0, va_rf (some f0)), (1, .int f1), (2, .int f2)]) dX9_comesIn_34 4 rfl rfl (by decide) rfl ?_
        refine z_goto C (pc := 37) (tgt := 5) dX9_comesIn_37 (by decide) ?_
        refine z_sub [2, 3, 4, 1, 0] (lv' := [(0, va_rf (some f0)), (1, .int f1), (2, .int f2), (3, .int w4), (4, .int (w4 + (1 : Int32)))]) rfl ?_
        exact ih S23 w4 (w4 + (1 : Int32)) h
set_option maxHeartbeats 4000000 in
set_option maxRecDepth 100000 in
theorem c_X9_comesIn (l : Launch) (v : Ev) (S : Hp) (x0 : Nat) (x1 : Int32) (x2 : Int32) : CV l v yX9_comesIn cX9_comesIn 5 none rm_X9_comesIn [va_rf (some x0), .int x1, .int x2] S (fun Q _ => wp_X9_comesIn S x0 x1 x2 Q) := by
  intro Q EQ h
  refine z_start [(0, va_rf (some x0)), (1, .int x1), (2, .int x2)] (by decide +kernel) (by simp only [la_i, la_r, la_n]) (cat_cr (cat_ci (cat_ci cat_nil))) (by simp only [ls_i, ls_r, ls_n]; decide) (fun z C N T => ?_)
  unfold wp_X9_comesIn at h
  refine z_iconst C (pc := 0) (x := (0 : Int32)) dX9_comesIn_0 kic_0 ?_
  refine z_istore_n C (pc := 1) (lv' := [(3, .int (0 : Int32)), (0, va_rf (some x0)), (1, .int x1), (2, .int x2)]) dX9_comesIn_1 (by decide) rfl ?_
  refine z_iconst C (pc := 2) (x := (1 : Int32)) dX9_comesIn_2 kic_1 ?_
  refine z_istore C (pc := 3) (lv' := [(4, .int (1 : Int32)), (3, .int (0 : Int32)), (0, va_rf (some x0)), (1, .int x1), (2, .int x2)]) dX9_comesIn_3 (by decide) rfl ?_
  obtain ⟨n25, h⟩ := h
  refine z_sub [2, 3, 4, 1, 0] (lv' := [(0, va_rf (some x0)), (1, .int x1), (2, .int x2), (3, .int (0 : Int32)), (4, .int (1 : Int32))]) rfl ?_
  exact l_X9_comesIn_L5 l v x0 x1 x2 Q C N T n25 S (0 : Int32) (1 : Int32) h
def wp_X9_joins (S : Hp) (x0 : Nat) (x1 : Int32) (x2 : Int32) (Q : Int32 → Hp → Prop) : Prop :=
  okA S 9 x0 ∧ (wp_X9_inTroop S x0 x2 (fun r3 S2 => okA S2 9 x0 ∧ (rd S2 11 (g_P S2 904 x0) (fun a5 => vp_in x2 (g_N S2 a5) ∧ (if (g_R S2 a5 x2.toNatClampNeg) ≤ r3 then (rd S2 11 (g_P S2 908 x0) (fun a9 => vp_in x1 (g_N S2 a9) ∧ (lt (s_R S2 a9 x1.toNatClampNeg x2) (fun S13 => okA S13 9 x0 ∧ (rd S13 11 (g_P S13 909 x0) (fun a15 => vp_in x1 (g_N S13 a15) ∧ (lt (s_R S13 a15 x1.toNatClampNeg (g_I S13 910 x0)) (fun S19 => okA S19 9 x0 ∧ (lt (s_I S19 910 x0 ((g_I S19 910 x0) + (1 : Int32))) (fun S21 => okA S21 9 x0 ∧ (wp_X9_waiting S21 x0 x2 (fun r24 S23 => Q r24 S23)))))))))))) else (wp_X9_comesIn S2 x0 x1 x2 (fun S25 => Q (0 : Int32) S25)))))))
def rm_X9_joins : Room := { frames := 2, cells := 0, slots := 0, locals := 48 }
set_option maxHeartbeats 4000000 in
set_option maxRecDepth 100000 in
theorem c_X9_joins (l : Launch) (v : Ev) (S : Hp) (x0 : Nat) (x1 : Int32) (x2 : Int32) : CI l v yX9_joins cX9_joins 3 (some .int) rm_X9_joins [va_rf (some x0), .int x1, .int x2] S (fun Q _ => wp_X9_joins S x0 x1 x2 Q) := by
  intro Q EQ h
  refine z_start [(0, va_rf (some x0)), (1, .int x1), (2, .int x2)] (by decide +kernel) (by simp only [la_i, la_r, la_n]) (cat_cr (cat_ci (cat_ci cat_nil))) (by simp only [ls_i, ls_r, ls_n]; decide) (fun z C N T => ?_)
  unfold wp_X9_joins at h
  refine z_aload_n C (pc := 0) dX9_joins_0 0 rfl ?_
  refine z_iload_n C (pc := 1) dX9_joins_1 2 rfl ?_
  obtain ⟨o1, h⟩ := h
  refine z_Vi C (pc := 2) (KX := fun _ _ => False) (kc' := 0) (ks' := 0) (As := [.int x2]) (rest := []) rfl (c_X9_inTroop l v S x0 x2) mw_X9_inTroop bw_1049 bw_1051 bw_p36 (fit_of rfl) rfl rfl (Nat.le_of_ble_eq_true rfl) (by decide) rfl o1 dX9_joins_2 h (fun r3 S2 h => ?_) (fun En S9 h => h.elim)
  refine z_aload_n C (pc := 5) dX9_joins_5 0 rfl ?_
  obtain ⟨o4, h⟩ := h
  refine z_getP C (pc := 6) kf9 4 (by decide) rfl bw_912 (fun _ _ _ _ h => h) dX9_joins_6 rfl o4 ?_
  refine z_iload_n C (pc := 9) dX9_joins_9 2 rfl ?_
  obtain ⟨a5, e6, o7, h⟩ := h
  obtain ⟨v8, h⟩ := h
  refine z_iald C (pc := 10) dX9_joins_10 e6 o7 v8 ?_
  refine z_icmp_ge C (pc := 11) (tgt := 22) dX9_joins_11 (by decide) h (fun h => ?_) (fun h => ?_)
  · refine z_aload_n C (pc := 22) dX9_joins_22 0 rfl ?_
    refine z_getP C (pc := 23) kf9 8 (by decide) rfl bw_916 (fun _ _ _ _ h => h) dX9_joins_23 rfl o4 ?_
    refine z_iload_n C (pc := 26) dX9_joins_26 1 rfl ?_
    refine z_iload_n C (pc := 27) dX9_joins_27 2 rfl ?_
    obtain ⟨a9, e10, o11, h⟩ := h
    obtain ⟨v12, h⟩ := h
    refine z_iast C (pc := 28) dX9_joins_28 e10 o11 v12 ?_
    refine z_lt h (fun S13 h => ?_)
    refine z_aload_n C (pc := 29) dX9_joins_29 0 rfl ?_
    obtain ⟨o14, h⟩ := h
    refine z_getP C (pc := 30) kf9 9 (by decide) rfl bw_917 (fun _ _ _ _ h => h) dX9_joins_30 rfl o14 ?_
    refine z_iload_n C (pc := 33) dX9_joins_33 1 rfl ?_
    refine z_aload_n C (pc := 34) dX9_joins_34 0 rfl ?_
    refine z_getI C (pc := 35) kf9 10 (by decide) rfl bw_918 (fun _ _ _ _ h => h) dX9_joins_35 rfl o14 ?_
    obtain ⟨a15, e16, o17, h⟩ := h
    obtain ⟨v18, h⟩ := h
    refine z_iast C (pc := 38) dX9_joins_38 e16 o17 v18 ?_
    refine z_lt h (fun S19 h => ?_)
    refine z_aload_n C (pc := 39) dX9_joins_39 0 rfl ?_
    refine z_dup C (pc := 40) dX9_joins_40 (cat_rf _) ?_
    obtain ⟨o20, h⟩ := h
    refine z_getI C (pc := 41) kf9 10 (by decide) rfl bw_918 (fun _ _ _ _ h => h) dX9_joins_41 rfl o20 ?_
    refine z_iconst C (pc := 44) (x := (1 : Int32)) dX9_joins_44 kic_1 ?_
    refine z_iadd C (pc := 45) dX9_joins_45 ?_
    refine z_putI C (pc := 46) kf9 10 (by decide) rfl rfl bw_918 (fun _ _ _ _ h => h) dX9_joins_46 rfl o20 ?_
    refine z_lt h (fun S21 h => ?_)
    refine z_aload_n C (pc := 49) dX9_joins_49 0 rfl ?_
    refine z_iload_n C (pc := 50) dX9_joins_50 2 rfl ?_
    obtain ⟨o22, h⟩ := h
    refine z_Vi C (pc := 51) (KX := fun _ _ => False) (kc' := 0) (ks' := 0) (As := [.int x2]) (rest := []) rfl (c_X9_waiting l v S21 x0 x2) mw_X9_waiting bw_1061 bw_1063 bw_p39 (fit_of rfl) rfl rfl (Nat.le_of_ble_eq_true rfl) (by decide) rfl o22 dX9_joins_51 h (fun r24 S23 h => ?_) (fun En S9 h => h.elim)
    exact z_iret C (pc := 54) T dX9_joins_54 (by decide) (by decide) h
  · refine z_aload_n C (pc := 14) dX9_joins_14 0 rfl ?_
    refine z_iload_n C (pc := 15) dX9_joins_15 1 rfl ?_
    refine z_iload_n C (pc := 16) dX9_joins_16 2 rfl ?_
    refine z_Vv C (pc := 17) (KX := fun _ _ => False) (kc' := 0) (ks' := 0) (As := [.int x1, .int x2]) (rest := []) rfl (c_X9_comesIn l v S2 x0 x1 x2) mw_X9_comesIn bw_1053 bw_1055 bw_p37 (fit_of rfl) rfl rfl (Nat.le_of_ble_eq_true rfl) (by decide) rfl o4 dX9_joins_17 h (fun S25 h => ?_) (fun En S9 h => h.elim)
    refine z_iconst C (pc := 20) (x := (0 : Int32)) dX9_joins_20 kic_0 ?_
    exact z_iret C (pc := 21) T dX9_joins_21 (by decide) (by decide) h
def wp_X9_isFor (S : Hp) (x0 : Nat) (x1 : Int32) (x2 : Int32) (Q : Int32 → Hp → Prop) : Prop :=
  okA S 9 x0 ∧ (rd S 11 (g_P S 906 x0) (fun a2 => vp_in x2 (g_N S a2) ∧ (rd S 11 (g_P S 902 x0) (fun a6 => vp_in x1 (g_N S a6) ∧ (rd S 11 (g_P S 903 x0) (fun a10 => vp_in x1 (g_N S a10) ∧ (wp_X9_in S (g_R S a2 x2.toNatClampNeg) (g_R S a6 x1.toNatClampNeg) (g_R S a10 x1.toNatClampNeg) (fun r15 S14 => bz r15 (Q r15 S14)))))))))
def rm_X9_isFor : Room := { frames := 1, cells := 0, slots := 0, locals := 22 }
set_option maxHeartbeats 4000000 in
set_option maxRecDepth 100000 in
theorem c_X9_isFor (l : Launch) (v : Ev) (S : Hp) (x0 : Nat) (x1 : Int32) (x2 : Int32) : CI l v yX9_isFor cX9_isFor 3 (some .boolean) rm_X9_isFor [va_rf (some x0), .int x1, .int x2] S (fun Q _ => wp_X9_isFor S x0 x1 x2 Q) := by
  intro Q EQ h
  refine z_start [(0, va_rf (some x0)), (1, .int x1), (2, .int x2)] (by decide +kernel) (by simp only [la_i, la_r, la_n]) (cat_cr (cat_ci (cat_ci cat_nil))) (by simp only [ls_i, ls_r, ls_n]; decide) (fun z C N T => ?_)
  unfold wp_X9_isFor at h
  refine z_aload_n C (pc := 0) dX9_isFor_0 0 rfl ?_
  obtain ⟨o1, h⟩ := h
  refine z_getP C (pc := 1) kf9 6 (by decide) rfl bw_914 (fun _ _ _ _ h => h) dX9_isFor_1 rfl o1 ?_
  refine z_iload_n C (pc := 4) dX9_isFor_4 2 rfl ?_
  obtain ⟨a2, e3, o4, h⟩ := h
  obtain ⟨v5, h⟩ := h
  refine z_iald C (pc := 5) dX9_isFor_5 e3 o4 v5 ?_
  refine z_aload_n C (pc := 6) dX9_isFor_6 0 rfl ?_
  refine z_getP C (pc := 7) kf9 2 (by decide) rfl bw_910 (fun _ _ _ _ h => h) dX9_isFor_7 rfl o1 ?_
  refine z_iload_n C (pc := 10) dX9_isFor_10 1 rfl ?_
  obtain ⟨a6, e7, o8, h⟩ := h
  obtain ⟨v9, h⟩ := h
  refine z_iald C (pc := 11) dX9_isFor_11 e7 o8 v9 ?_
  refine z_aload_n C (pc := 12) dX9_isFor_12 0 rfl ?_
  refine z_getP C (pc := 13) kf9 3 (by decide) rfl bw_911 (fun _ _ _ _ h => h) dX9_isFor_13 rfl o1 ?_
  refine z_iload_n C (pc := 16) dX9_isFor_16 1 rfl ?_
  obtain ⟨a10, e11, o12, h⟩ := h
  obtain ⟨v13, h⟩ := h
  refine z_iald C (pc := 17) dX9_isFor_17 e11 o12 v13 ?_
  refine z_Si C (pc := 18) (KX := fun _ _ => False) (kc' := 0) (ks' := 0) (As := [.int (g_R S a2 x2.toNatClampNeg), .int (g_R S a6 x1.toNatClampNeg), .int (g_R S a10 x1.toNatClampNeg)]) (rest := []) (c_X9_in l v S (g_R S a2 x2.toNatClampNeg) (g_R S a6 x1.toNatClampNeg) (g_R S a10 x1.toNatClampNeg)) mw_X9_in bw_1014 bw_1015 (fit_of rfl) rfl rfl (Nat.le_of_ble_eq_true rfl) dX9_isFor_18 h (fun r15 S14 h => ?_) (fun En S9 h => h.elim)
  exact z_zret C (pc := 21) T dX9_isFor_21 (by decide) (by decide) h
def wp_X9_join (S : Hp) (x0 : Nat) (x1 : Int32) (x2 : Int32) (Q : Int32 → Hp → Prop) : Prop :=
  okA S 9 x0 ∧ (wp_X9_isChild S x0 x1 (fun r3 S2 => if r3 = 0 then (okA S2 9 x0 ∧ (wp_X9_asks S2 x0 (0 : Int32) (fun r6 S5 => if r6 = 0 then (Q (0 : Int32) S5) else (okA S5 9 x0 ∧ (rd S5 11 (g_P S5 907 x0) (fun a8 => vp_in x1 (g_N S5 a8) ∧ (if (g_R S5 a8 x1.toNatClampNeg) = (-1 : Int32) then (rd S5 11 (g_P S5 908 x0) (fun a14 => vp_in x1 (g_N S5 a14) ∧ (if (g_R S5 a14 x1.toNatClampNeg) = (-1 : Int32) then (wp_X9_isFor S5 x0 x2 x1 (fun r21 S20 => if r21 = 0 then (okA S20 9 x0 ∧ (wp_X9_fails S20 x0 (2 : Int32) (fun r27 S26 => Q r27 S26))) else (okA S20 9 x0 ∧ (wp_X9_joins S20 x0 x1 x2 (fun r24 S23 => Q r24 S23))))) else (wp_X9_fails S5 x0 (2 : Int32) (fun r19 S18 => Q r19 S18))))) else (wp_X9_fails S5 x0 (2 : Int32) (fun r13 S12 => Q r13 S12))))))))) else (okA S2 9 x0 ∧ (wp_X9_isTroop S2 x0 x2 (fun r30 S29 => if r30 = 0 then (okA S29 9 x0 ∧ (wp_X9_asks S29 x0 (0 : Int32) (fun r33 S32 => if r33 = 0 then (Q (0 : Int32) S32) else (okA S32 9 x0 ∧ (rd S32 11 (g_P S32 907 x0) (fun a35 => vp_in x1 (g_N S32 a35) ∧ (if (g_R S32 a35 x1.toNatClampNeg) = (-1 : Int32) then (rd S32 11 (g_P S32 908 x0) (fun a41 => vp_in x1 (g_N S32 a41) ∧ (if (g_R S32 a41 x1.toNatClampNeg) = (-1 : Int32) then (wp_X9_isFor S32 x0 x2 x1 (fun r48 S47 => if r48 = 0 then (okA S47 9 x0 ∧ (wp_X9_fails S47 x0 (2 : Int32) (fun r54 S53 => Q r54 S53))) else (okA S47 9 x0 ∧ (wp_X9_joins S47 x0 x1 x2 (fun r51 S50 => Q r51 S50))))) else (wp_X9_fails S32 x0 (2 : Int32) (fun r46 S45 => Q r46 S45))))) else (wp_X9_fails S32 x0 (2 : Int32) (fun r40 S39 => Q r40 S39))))))))) else (okA S29 9 x0 ∧ (wp_X9_asks S29 x0 (1 : Int32) (fun r57 S56 => if r57 = 0 then (Q (0 : Int32) S56) else (okA S56 9 x0 ∧ (rd S56 11 (g_P S56 907 x0) (fun a59 => vp_in x1 (g_N S56 a59) ∧ (if (g_R S56 a59 x1.toNatClampNeg) = (-1 : Int32) then (rd S56 11 (g_P S56 908 x0) (fun a65 => vp_in x1 (g_N S56 a65) ∧ (if (g_R S56 a65 x1.toNatClampNeg) = (-1 : Int32) then (wp_X9_isFor S56 x0 x2 x1 (fun r72 S71 => if r72 = 0 then (okA S71 9 x0 ∧ (wp_X9_fails S71 x0 (2 : Int32) (fun r78 S77 => Q r78 S77))) else (okA S71 9 x0 ∧ (wp_X9_joins S71 x0 x1 x2 (fun r75 S74 => Q r75 S74))))) else (wp_X9_fails S56 x0 (2 : Int32) (fun r70 S69 => Q r70 S69))))) else (wp_X9_fails S56 x0 (2 : Int32) (fun r64 S63 => Q r64 S63))))))))))))))
def rm_X9_join : Room := { frames := 3, cells := 0, slots := 0, locals := 70 }
set_option maxHeartbeats 4000000 in
set_option maxRecDepth 100000 in
theorem c_X9_join (l : Launch) (v : Ev) (S : Hp) (x0 : Nat) (x1 : Int32) (x2 : Int32) : CI l v yX9_join cX9_join 3 (some .int) rm_X9_join [va_rf (some x0), .int x1, .int x2] S (fun Q _ => wp_X9_join S x0 x1 x2 Q) := by
  intro Q EQ h
  refine z_start [(0, va_rf (some x0)), (1, .int x1), (2, .int x2)] (by decide +kernel) (by simp only [la_i, la_r, la_n]) (cat_cr (cat_ci (cat_ci cat_nil))) (by simp only [ls_i, ls_r, ls_n]; decide) (fun z C N T => ?_)
  unfold wp_X9_join at h
  refine z_aload_n C (pc := 0) dX9_join_0 0 rfl ?_
  refine z_aload_n C (pc := 1) dX9_join_1 0 rfl ?_
  refine z_iload_n C (pc := 2) dX9_join_2 1 rfl ?_
  obtain ⟨o1, h⟩ := h
  refine z_Vi C (pc := 3) (KX := fun _ _ => False) (kc' := 0) (ks' := 0) (As := [.int x1]) (rest := [va_rf (some x0)]) rfl (c_X9_isChild l v S x0 x1) mw_X9_isChild bw_1033 bw_1035 bw_p32 (fit_of rfl) rfl rfl (Nat.le_of_ble_eq_true rfl) (by decide) rfl o1 dX9_join_3 h (fun r3 S2 h => ?_) (fun En S9 h => h.elim)
  refine z_if_eq C (pc := 6) (tgt := 21) dX9_join_6 (by decide) h (fun h => ?_) (fun h => ?_)
  · refine z_iconst C (pc := 21) (x := (0 : Int32)) dX9_join_21 kic_0 ?_
    obtain ⟨o4, h⟩ := h
    refine z_Vi C (pc := 22) (KX := fun _ _ => False) (kc' := 0) (ks' := 0) (As := [.int (0 : Int32)]) (rest := []) rfl (c_X9_asks l v S2 x0 (0 : Int32)) mw_X9_asks bw_1017 bw_1019 bw_p30 (fit_of rfl) rfl rfl (Nat.le_of_ble_eq_true rfl) (by decide) rfl o4 dX9_join_22 h (fun r6 S5 h => ?_) (fun En S9 h => h.elim)
    refine z_if_ne C (pc := 25) (tgt := 30) dX9_join_25 (by decide) h (fun h => ?_) (fun h => ?_)
    · refine z_aload_n C (pc := 30) dX9_join_30 0 rfl ?_
      obtain ⟨o7, h⟩ := h
      refine z_getP C (pc := 31) kf9 7 (by decide) rfl bw_915 (fun _ _ _ _ h => h) dX9_join_31 rfl o7 ?_
      refine z_iload_n C (pc := 34) dX9_join_34 1 rfl ?_
      obtain ⟨a8, e9, o10, h⟩ := h
      obtain ⟨v11, h⟩ := h
      refine z_iald C (pc := 35) dX9_join_35 e9 o10 v11 ?_
      refine z_iconst C (pc := 36) (x := (-1 : Int32)) dX9_join_36 kic_m1 ?_
      refine z_icmp_ne C (pc := 37) (tgt := 59) dX9_join_37 (by decide) h (fun h => ?_) (fun h => ?_)
      · refine z_aload_n C (pc := 59) dX9_join_59 0 rfl ?_
        refine z_iconst C (pc := 60) (x := (2 : Int32)) dX9_join_60 kic_2 ?_
        refine z_Vi C (pc := 61) (KX := fun _ _ => False) (kc' := 0) (ks' := 0) (As := [.int (2 : Int32)]) (rest := []) rfl (c_X9_fails l v S5 x0 (2 : Int32)) mw_X9_fails bw_1021 bw_1023 bw_p31 (fit_of rfl) rfl rfl (Nat.le_of_ble_eq_true rfl) (by decide) rfl o7 dX9_join_61 h (fun r13 S12 h => ?_) (fun En S9 h => h.elim)
        exact z_iret C (pc := 64) T dX9_join_64 (by decide) (by decide) h
      · refine z_aload_n C (pc := 40) dX9_join_40 0 rfl ?_
        refine z_getP C (pc := 41) kf9 8 (by decide) rfl bw_916 (fun _ _ _ _ h => h) dX9_join_41 rfl o7 ?_
        refine z_iload_n C (pc := 44) dX9_join_44 1 rfl ?_
        obtain ⟨a14, e15, o16, h⟩ := h
        obtain ⟨v17, h⟩ := h
        refine z_iald C (pc := 45) dX9_join_45 e15 o16 v17 ?_
        refine z_iconst C (pc := 46) (x := (-1 : Int32)) dX9_join_46 kic_m1 ?_
        refine z_icmp_ne C (pc := 47) (tgt := 59) dX9_join_47 (by decide) h (fun h => ?_) (fun h => ?_)
        · refine z_aload_n C (pc := 59) dX9_join_59 0 rfl ?_
          refine z_iconst C (pc := 60) (x := (2 : Int32)) dX9_join_60 kic_2 ?_
          refine z_Vi C (pc := 61) (KX := fun _ _ => False) (kc' := 0) (ks' := 0) (As := [.int (2 : Int32)]) (rest := []) rfl (c_X9_fails l v S5 x0 (2 : Int32)) mw_X9_fails bw_1021 bw_1023 bw_p31 (fit_of rfl) rfl rfl (Nat.le_of_ble_eq_true rfl) (by decide) rfl o7 dX9_join_61 h (fun r19 S18 h => ?_) (fun En S9 h => h.elim)
          exact z_iret C (pc := 64) T dX9_join_64 (by decide) (by decide) h
        · refine z_aload_n C (pc := 50) dX9_join_50 0 rfl ?_
          refine z_iload_n C (pc := 51) dX9_join_51 2 rfl ?_
          refine z_iload_n C (pc := 52) dX9_join_52 1 rfl ?_
          refine z_Vi C (pc := 53) (KX := fun _ _ => False) (kc' := 0) (ks' := 0) (As := [.int x2, .int x1]) (rest := []) rfl (c_X9_isFor l v S5 x0 x2 x1) mw_X9_isFor bw_1041 bw_1043 bw_p34 (fit_of rfl) rfl rfl (Nat.le_of_ble_eq_true rfl) (by decide) rfl o7 dX9_join_53 h (fun r21 S20 h => ?_) (fun En S9 h => h.elim)
          refine z_if_ne C (pc := 56) (tgt := 65) dX9_join_56 (by decide) h (fun h => ?_) (fun h => ?_)
          · refine z_aload_n C (pc := 65) dX9_join_65 0 rfl ?_
            refine z_iload_n C (pc := 66) dX9_join_66 1 rfl ?_
            refine z_iload_n C (pc := 67) dX9_join_67 2 rfl ?_
            obtain ⟨o22, h⟩ := h
            refine z_Vi C (pc := 68) (KX := fun _ _ => False) (kc' := 0) (ks' := 0) (As := [.int x1, .int x2]) (rest := []) rfl (c_X9_joins l v S20 x0 x1 x2) mw_X9_joins bw_1045 bw_1047 bw_p35 (fit_of rfl) rfl rfl (Nat.le_of_ble_eq_true rfl) (by decide) rfl o22 dX9_join_68 h (fun r24 S23 h => ?_) (fun En S9 h => h.elim)
            exact z_iret C (pc := 71) T dX9_join_71 (by decide) (by decide) h
          · refine z_aload_n C (pc := 59) dX9_join_59 0 rfl ?_
            refine z_iconst C (pc := 60) (x := (2 : Int32)) dX9_join_60 kic_2 ?_
            obtain ⟨o25, h⟩ := h
            refine z_Vi C (pc := 61) (KX := fun _ _ => False) (kc' := 0) (ks' := 0) (As := [.int (2 : Int32)]) (rest := []) rfl (c_X9_fails l v S20 x0 (2 : Int32)) mw_X9_fails bw_1021 bw_1023 bw_p31 (fit_of rfl) rfl rfl (Nat.le_of_ble_eq_true rfl) (by decide) rfl o25 dX9_join_61 h (fun r27 S26 h => ?_) (fun En S9 h => h.elim)
            exact z_iret C (pc := 64) T dX9_join_64 (by decide) (by decide) h
    · refine z_iconst C (pc := 28) (x := (0 : Int32)) dX9_join_28 kic_0 ?_
      exact z_iret C (pc := 29) T dX9_join_29 (by decide) (by decide) h
  · refine z_aload_n C (pc := 9) dX9_join_9 0 rfl ?_
    refine z_iload_n C (pc := 10) dX9_join_10 2 rfl ?_
    obtain ⟨o28, h⟩ := h
    refine z_Vi C (pc := 11) (KX := fun _ _ => False) (kc' := 0) (ks' := 0) (As := [.int x2]) (rest := [va_rf (some x0)]) rfl (c_X9_isTroop l v S2 x0 x2) mw_X9_isTroop bw_1037 bw_1039 bw_p33 (fit_of rfl) rfl rfl (Nat.le_of_ble_eq_true rfl) (by decide) rfl o28 dX9_join_11 h (fun r30 S29 h => ?_) (fun En S9 h => h.elim)
    refine z_if_eq C (pc := 14) (tgt := 21) dX9_join_14 (by decide) h (fun h => ?_) (fun h => ?_)
    · refine z_iconst C (pc := 21) (x := (0 : Int32)) dX9_join_21 kic_0 ?_
      obtain ⟨o31, h⟩ := h
      refine z_Vi C (pc := 22) (KX := fun _ _ => False) (kc' := 0) (ks' := 0) (As := [.int (0 : Int32)]) (rest := []) rfl (c_X9_asks l v S29 x0 (0 : Int32)) mw_X9_asks bw_1017 bw_1019 bw_p30 (fit_of rfl) rfl rfl (Nat.le_of_ble_eq_true rfl) (by decide) rfl o31 dX9_join_22 h (fun r33 S32 h => ?_) (fun En S9 h => h.elim)
      refine z_if_ne C (pc := 25) (tgt := 30) dX9_join_25 (by decide) h (fun h => ?_) (fun h => ?_)
      · refine z_aload_n C (pc := 30) dX9_join_30 0 rfl ?_
        obtain ⟨o34, h⟩ := h
        refine z_getP C (pc := 31) kf9 7 (by decide) rfl bw_915 (fun _ _ _ _ h => h) dX9_join_31 rfl o34 ?_
        refine z_iload_n C (pc := 34) dX9_join_34 1 rfl ?_
        obtain ⟨a35, e36, o37, h⟩ := h
        obtain ⟨v38, h⟩ := h
        refine z_iald C (pc := 35) dX9_join_35 e36 o37 v38 ?_
        refine z_iconst C (pc := 36) (x := (-1 : Int32)) dX9_join_36 kic_m1 ?_
        refine z_icmp_ne C (pc := 37) (tgt := 59) dX9_join_37 (by decide) h (fun h => ?_) (fun h => ?_)
        · refine z_aload_n C (pc := 59) dX9_join_59 0 rfl ?_
          refine z_iconst C (pc := 60) (x := (2 : Int32)) dX9_join_60 kic_2 ?_
          refine z_Vi C (pc := 61) (KX := fun _ _ => False) (kc' := 0) (ks' := 0) (As := [.int (2 : Int32)]) (rest := []) rfl (c_X9_fails l v S32 x0 (2 : Int32)) mw_X9_fails bw_1021 bw_1023 bw_p31 (fit_of rfl) rfl rfl (Nat.le_of_ble_eq_true rfl) (by decide) rfl o34 dX9_join_61 h (fun r40 S39 h => ?_) (fun En S9 h => h.elim)
          exact z_iret C (pc := 64) T dX9_join_64 (by decide) (by decide) h
        · refine z_aload_n C (pc := 40) dX9_join_40 0 rfl ?_
          refine z_getP C (pc := 41) kf9 8 (by decide) rfl bw_916 (fun _ _ _ _ h => h) dX9_join_41 rfl o34 ?_
          refine z_iload_n C (pc := 44) dX9_join_44 1 rfl ?_
          obtain ⟨a41, e42, o43, h⟩ := h
          obtain ⟨v44, h⟩ := h
          refine z_iald C (pc := 45) dX9_join_45 e42 o43 v44 ?_
          refine z_iconst C (pc := 46) (x := (-1 : Int32)) dX9_join_46 kic_m1 ?_
          refine z_icmp_ne C (pc := 47) (tgt := 59) dX9_join_47 (by decide) h (fun h => ?_) (fun h => ?_)
          · refine z_aload_n C (pc := 59) dX9_join_59 0 rfl ?_
            refine z_iconst C (pc := 60) (x := (2 : Int32)) dX9_join_60 kic_2 ?_
            refine z_Vi C (pc := 61) (KX := fun _ _ => False) (kc' := 0) (ks' := 0) (As := [.int (2 : Int32)]) (rest := []) rfl (c_X9_fails l v S32 x0 (2 : Int32)) mw_X9_fails bw_1021 bw_1023 bw_p31 (fit_of rfl) rfl rfl (Nat.le_of_ble_eq_true rfl) (by decide) rfl o34 dX9_join_61 h (fun r46 S45 h => ?_) (fun En S9 h => h.elim)
            exact z_iret C (pc := 64) T dX9_join_64 (by decide) (by decide) h
          · refine z_aload_n C (pc := 50) dX9_join_50 0 rfl ?_
            refine z_iload_n C (pc := 51) dX9_join_51 2 rfl ?_
            refine z_iload_n C (pc := 52) dX9_join_52 1 rfl ?_
            refine z_Vi C (pc := 53) (KX := fun _ _ => False) (kc' := 0) (ks' := 0) (As := [.int x2, .int x1]) (rest := []) rfl (c_X9_isFor l v S32 x0 x2 x1) mw_X9_isFor bw_1041 bw_1043 bw_p34 (fit_of rfl) rfl rfl (Nat.le_of_ble_eq_true rfl) (by decide) rfl o34 dX9_join_53 h (fun r48 S47 h => ?_) (fun En S9 h => h.elim)
            refine z_if_ne C (pc := 56) (tgt := 65) dX9_join_56 (by decide) h (fun h => ?_) (fun h => ?_)
            · refine z_aload_n C (pc := 65) dX9_join_65 0 rfl ?_
              refine z_iload_n C (pc := 66) dX9_join_66 1 rfl ?_
              refine z_iload_n C (pc := 67) dX9_join_67 2 rfl ?_
              obtain ⟨o49, h⟩ := h
              refine z_Vi C (pc := 68) (KX := fun _ _ => False) (kc' := 0) (ks' := 0) (As := [.int x1, .int x2]) (rest := []) rfl (c_X9_joins l v S47 x0 x1 x2) mw_X9_joins bw_1045 bw_1047 bw_p35 (fit_of rfl) rfl rfl (Nat.le_of_ble_eq_true rfl) (by decide) rfl o49 dX9_join_68 h (fun r51 S50 h => ?_) (fun En S9 h => h.elim)
              exact z_iret C (pc := 71) T dX9_join_71 (by decide) (by decide) h
            · refine z_aload_n C (pc := 59) dX9_join_59 0 rfl ?_
              refine z_iconst C (pc := 60) (x := (2 : Int32)) dX9_join_60 kic_2 ?_
              obtain ⟨o52, h⟩ := h
              refine z_Vi C (pc := 61) (KX := fun _ _ => False) (kc' := 0) (ks' := 0) (As := [.int (2 : Int32)]) (rest := []) rfl (c_X9_fails l v S47 x0 (2 : Int32)) mw_X9_fails bw_1021 bw_1023 bw_p31 (fit_of rfl) rfl rfl (Nat.le_of_ble_eq_true rfl) (by decide) rfl o52 dX9_join_61 h (fun r54 S53 h => ?_) (fun En S9 h => h.elim)
              exact z_iret C (pc := 64) T dX9_join_64 (by decide) (by decide) h
      · refine z_iconst C (pc := 28) (x := (0 : Int32)) dX9_join_28 kic_0 ?_
        exact z_iret C (pc := 29) T dX9_join_29 (by decide) (by decide) h
    · refine z_iconst C (pc := 17) (x := (1 : Int32)) dX9_join_17 kic_1 ?_
      refine z_goto C (pc := 18) (tgt := 22) dX9_join_18 (by decide) ?_
      obtain ⟨o55, h⟩ := h
      refine z_Vi C (pc := 22) (KX := fun _ _ => False) (kc' := 0) (ks' := 0) (As := [.int (1 : Int32)]) (rest := []) rfl (c_X9_asks l v S29 x0 (1 : Int32)) mw_X9_asks bw_1017 bw_1019 bw_p30 (fit_of rfl) rfl rfl (Nat.le_of_ble_eq_true rfl) (by decide) rfl o55 dX9_join_22 h (fun r57 S56 h => ?_) (fun En S9 h => h.elim)
      refine z_if_ne C (pc := 25) (tgt := 30) dX9_join_25 (by decide) h (fun h => ?_) (fun h => ?_)
      · refine z_aload_n C (pc := 30) dX9_join_30 0 rfl ?_
        obtain ⟨o58, h⟩ := h
        refine z_getP C (pc := 31) kf9 7 (by decide) rfl bw_915 (fun _ _ _ _ h => h) dX9_join_31 rfl o58 ?_
        refine z_iload_n C (pc := 34) dX9_join_34 1 rfl ?_
        obtain ⟨a59, e60, o61, h⟩ := h
        obtain ⟨v62, h⟩ := h
        refine z_iald C (pc := 35) dX9_join_35 e60 o61 v62 ?_
        refine z_iconst C (pc := 36) (x := (-1 : Int32)) dX9_join_36 kic_m1 ?_
        refine z_icmp_ne C (pc := 37) (tgt := 59) dX9_join_37 (by decide) h (fun h => ?_) (fun h => ?_)
        · refine z_aload_n C (pc := 59) dX9_join_59 0 rfl ?_
          refine z_iconst C (pc := 60) (x := (2 : Int32)) dX9_join_60 kic_2 ?_
          refine z_Vi C (pc := 61) (KX := fun _ _ => False) (kc' := 0) (ks' := 0) (As := [.int (2 : Int32)]) (rest := []) rfl (c_X9_fails l v S56 x0 (2 : Int32)) mw_X9_fails bw_1021 bw_1023 bw_p31 (fit_of rfl) rfl rfl (Nat.le_of_ble_eq_true rfl) (by decide) rfl o58 dX9_join_61 h (fun r64 S63 h => ?_) (fun En S9 h => h.elim)
          exact z_iret C (pc := 64) T dX9_join_64 (by decide) (by decide) h
        · refine z_aload_n C (pc := 40) dX9_join_40 0 rfl ?_
          refine z_getP C (pc := 41) kf9 8 (by decide) rfl bw_916 (fun _ _ _ _ h => h) dX9_join_41 rfl o58 ?_
          refine z_iload_n C (pc := 44) dX9_join_44 1 rfl ?_
          obtain ⟨a65, e66, o67, h⟩ := h
          obtain ⟨v68, h⟩ := h
          refine z_iald C (pc := 45) dX9_join_45 e66 o67 v68 ?_
          refine z_iconst C (pc := 46) (x := (-1 : Int32)) dX9_join_46 kic_m1 ?_
          refine z_icmp_ne C (pc := 47) (tgt := 59) dX9_join_47 (by decide) h (fun h => ?_) (fun h => ?_)
          · refine z_aload_n C (pc := 59) dX9_join_59 0 rfl ?_
            refine z_iconst C (pc := 60) (x := (2 : Int32)) dX9_join_60 kic_2 ?_
            refine z_Vi C (pc := 61) (KX := fun _ _ => False) (kc' := 0) (ks' := 0) (As := [.int (2 : Int32)]) (rest := []) rfl (c_X9_fails l v S56 x0 (2 : Int32)) mw_X9_fails bw_1021 bw_1023 bw_p31 (fit_of rfl) rfl rfl (Nat.le_of_ble_eq_true rfl) (by decide) rfl o58 dX9_join_61 h (fun r70 S69 h => ?_) (fun En S9 h => h.elim)
            exact z_iret C (pc := 64) T dX9_join_64 (by decide) (by decide) h
          · refine z_aload_n C (pc := 50) dX9_join_50 0 rfl ?_
            refine z_iload_n C (pc := 51) dX9_join_51 2 rfl ?_
            refine z_iload_n C (pc := 52) dX9_join_52 1 rfl ?_
            refine z_Vi C (pc := 53) (KX := fun _ _ => False) (kc' := 0) (ks' := 0) (As := [.int x2, .int x1]) (rest := []) rfl (c_X9_isFor l v S56 x0 x2 x1) mw_X9_isFor bw_1041 bw_1043 bw_p34 (fit_of rfl) rfl rfl (Nat.le_of_ble_eq_true rfl) (by decide) rfl o58 dX9_join_53 h (fun r72 S71 h => ?_) (fun En S9 h => h.elim)
            refine z_if_ne C (pc := 56) (tgt := 65) dX9_join_56 (by decide) h (fun h => ?_) (fun h => ?_)
            · refine z_aload_n C (pc := 65) dX9_join_65 0 rfl ?_
              refine z_iload_n C (pc := 66) dX9_join_66 1 rfl ?_
              refine z_iload_n C (pc := 67) dX9_join_67 2 rfl ?_
              obtain ⟨o73, h⟩ := h
              refine z_Vi C (pc := 68) (KX := fun _ _ => False) (kc' := 0) (ks' := 0) (As := [.int x1, .int x2]) (rest := []) rfl (c_X9_joins l v S71 x0 x1 x2) mw_X9_joins bw_1045 bw_1047 bw_p35 (fit_of rfl) rfl rfl (Nat.le_of_ble_eq_true rfl) (by decide) rfl o73 dX9_join_68 h (fun r75 S74 h => ?_) (fun En S9 h => h.elim)
              exact z_iret C (pc := 71) T dX9_join_71 (by decide) (by decide) h
            · refine z_aload_n C (pc := 59) dX9_join_59 0 rfl ?_
              refine z_iconst C (pc := 60) (x := (2 : Int32)) dX9_join_60 kic_2 ?_
              obtain ⟨o76, h⟩ := h
              refine z_Vi C (pc := 61) (KX := fun _ _ => False) (kc' := 0) (ks' := 0) (As := [.int (2 : Int32)]) (rest := []) rfl (c_X9_fails l v S71 x0 (2 : Int32)) mw_X9_fails bw_1021 bw_1023 bw_p31 (fit_of rfl) rfl rfl (Nat.le_of_ble_eq_true rfl) (by decide) rfl o76 dX9_join_61 h (fun r78 S77 h => ?_) (fun En S9 h => h.elim)
              exact z_iret C (pc := 64) T dX9_join_64 (by decide) (by decide) h
      · refine z_iconst C (pc := 28) (x := (0 : Int32)) dX9_join_28 kic_0 ?_
        exact z_iret C (pc := 29) T dX9_join_29 (by decide) (by decide) h
def wp_X9_firstWaiting_L4 (f0 : Nat) (f1 : Int32) (Q : Int32 → Hp → Prop) : Nat → Hp → Int32 → Int32 → Prop
  | 0, _, _, _ => False
  | n + 1, S, w2, w3 => okA S 9 f0 ∧ (if (g_I S 905 f0) ≤ w3 then (Q w2 S) else (rd S 11 (g_P S 908 f0) (fun a2 => vp_in w3 (g_N S a2) ∧ (if (g_R S a2 w3.toNatClampNeg) = f1 then (if w2 = (-1 : Int32) then (wp_X9_firstWaiting_L4 f0 f1 Q n S w3 (w3 + (1 : Int32))) else (rd S 11 (g_P S 909 f0) (fun a6 => vp_in w3 (g_N S a6) ∧ (rd S 11 (g_P S 909 f0) (fun a10 => vp_in w2 (g_N S a10) ∧ (if (g_R S a10 w2.toNatClampNeg) ≤ (g_R S a6 w3.toNatClampNeg) then (wp_X9_firstWaiting_L4 f0 f1 Q n S w2 (w3 + (1 : Int32))) else (wp_X9_firstWaiting_L4 f0 f1 Q n S w3 (w3 + (1 : Int32))))))))) else (wp_X9_firstWaiting_L4 f0 f1 Q n S w2 (w3 + (1 : Int32)))))))
def wp_X9_firstWaiting (S : Hp) (x0 : Nat) (x1 : Int32) (Q : Int32 → Hp → Prop) : Prop :=
  ∃ n14, wp_X9_firstWaiting_L4 x0 x1 Q n14 S (-1 : Int32) (0 : Int32)
def rm_X9_firstWaiting : Room := { frames := 0, cells := 0, slots := 0, locals := 0 }
set_option maxHeartbeats 4000000 in
set_option maxRecDepth 100000 in
theorem l_X9_firstWaiting_L4 (l : Launch) (v : Ev) (f0 : Nat) (f1 : Int32) (Q : Int32 → Hp → Prop) {EQ : String → Hp → Prop} {z : Z9} (C : Cx l v RX9 cX9_firstWaiting 4 (some .int) "firstWaiting" z) (N : NT z) (T : EE v rm_X9_firstWaiting (QI v Q) EQ z) : ∀ (n : Nat) (S : Hp) (w2 : Int32) (w3 : Int32), wp_X9_firstWaiting_L4 f0 f1 Q n S w2 w3 → ZZ l v 4 rm_X9_firstWaiting z 0 0 S 4 [(0, va_rf (some f0)), (1, .int f1), (2, .int w2), (3, .int w3)] [] := by
  intro n
  induction n with
  | zero =>
    intro S w2 w3 h
    exact h.elim
  | succ n ih =>
    intro S w2 w3 h
    unfold wp_X9_firstWaiting_L4 at h
    refine z_iload_n C (pc := 4) dX9_firstWaiting_4 3 rfl ?_
    refine z_aload_n C (pc := 5) dX9_firstWaiting_5 0 rfl ?_
    obtain ⟨o1, h⟩ := h
    refine z_getI C (pc := 6) kf9 5 (by decide) rfl bw_913 (fun _ _ _ _ h => h) dX9_firstWaiting_6 rfl o1 ?_
    refine z_icmp_ge C (pc := 9) (tgt := 54) dX9_firstWaiting_9 (by decide) h (fun h => ?_) (fun h => ?_)
    · refine z_iload_n C (pc := 54) dX9_firstWaiting_54 2 rfl ?_
      exact z_iret C (pc := 55) T dX9_firstWaiting_55 (by decide) (by decide) h
    · refine z_aload_n C (pc := 12) dX9_firstWaiting_12 0 rfl ?_
      refine z_getP C (pc := 13) kf9 8 (by decide) rfl bw_916 (fun _ _ _ _ h => h) dX9_firstWaiting_13 rfl o1 ?_
      refine z_iload_n C (pc := 16) dX9_firstWaiting_16 3 rfl ?_
      obtain ⟨a2, e3, o4, h⟩ := h
      obtain ⟨v5, h⟩ := h
      refine z_iald C (pc := 17) dX9_firstWaiting_17 e3 o4 v5 ?_
      refine z_iload_n C (pc := 18) dX9_firstWaiting_18 1 rfl ?_
      refine z_icmp_ne C (pc := 19) (tgt := 46) dX9_firstWaiting_19 (by decide) h (fun h => ?_) (fun h => ?_)
      · refine z_iload_n C (pc := 46) dX9_firstWaiting_46 2 rfl ?_
        refine z_istore_n C (pc := 47) (lv' := [(2, .int w2), (0, va_rf (some f0)), (1, .int f1), (3, .int w3)]) dX9_firstWaiting_47 (by decide) rfl ?_
        refine z_iinc C (pc := 48) (y := w3 + (1 : Int32)) (lv' := [(3, .int (w3 + (1 : Int32))), (2, .int w2), (0, va_rf (some f0)), (1, .int f1)]) dX9_firstWaiting_48 3 rfl rfl (by decide) rfl ?_
        refine z_goto C (pc := 51) (tgt := 4) dX9_firstWaiting_51 (by decide) ?_
        refine z_sub [2, 3, 1, 0] (lv' := [(0, va_rf (some f0)), (1, .int f1), (2, .int w2), (3, .int (w3 + (1 : Int32)))]) rfl ?_
        exact ih S w2 (w3 + (1 : Int32)) h
      · refine z_iload_n C (pc := 22) dX9_firstWaiting_22 2 rfl ?_
        refine z_iconst C (pc := 23) (x := (-1 : Int32)) dX9_firstWaiting_23 kic_m1 ?_
        refine z_icmp_eq C (pc := 24) (tgt := 42) dX9_firstWaiting_24 (by decide) h (fun h => ?_) (fun h => ?_)
        · refine z_iload_n C (pc := 42) dX9_firstWaiting_42 3 rfl ?_
          refine z_goto C (pc := 43) (tgt := 47) dX9_firstWaiting_43 (by decide) ?_
          refine z_istore_n C (pc := 47) (lv' := [(2, .int w3), (0, va_rf (some f0)), (1, .int f1), (3, .int w3)]) dX9_firstWaiting_47 (by decide) rfl ?_
          refine z_iinc C (pc := 48) (y := w3 + (1 : Int32)) (lv' := [(3, .int (w3 + (1 : Int32))), (2, .int w3), (0, va_rf (some f0)), (1, .int f1)]) dX9_firstWaiting_48 3 rfl rfl (by decide) rfl ?_
          refine z_goto C (pc := 51) (tgt := 4) dX9_firstWaiting_51 (by decide) ?_
          refine z_sub [2, 3, 1, 0] (lv' := [(0, va_rf (some f0)), (1, .int f1), (2, .int w3), (3, .int (w3 + (1 : Int32)))]) rfl ?_
          exact ih S w3 (w3 + (1 : Int32)) h
        · refine z_aload_n C (pc := 27) dX9_firstWaiting_27 0 rfl ?_
          refine z_getP C (pc := 28) kf9 9 (by decide) rfl bw_917 (fun _ _ _ _ h => h) dX9_firstWaiting_28 rfl o1 ?_
          refine z_iload_n C (pc := 31) dX9_firstWaiting_31 3 rfl ?_
          obtain ⟨a6, e7, o8, h⟩ := h
          obtain ⟨v9, h⟩ := h
          refine z_iald C (pc := 32) dX9_firstWaiting_32 e7 o8 v9 ?_
          refine z_aload_n C (pc := 33) dX9_firstWaiting_33 0 rfl ?_
          refine z_getP C (pc := 34) kf9 9 (by decide) rfl bw_917 (fun _ _ _ _ h => h) dX9_firstWaiting_34 rfl o1 ?_
          refine z_iload_n C (pc := 37) dX9_firstWaiting_37 2 rfl ?_
          obtain ⟨a10, e11, o12, h⟩ := h
          obtain ⟨v13, h⟩ := h
          refine z_iald C (pc := 38) dX9_firstWaiting_38 e11 o12 v13 ?_
          refine z_icmp_ge C (pc := 39) (tgt := 46) dX9_firstWaiting_39 (by decide) h (fun h => ?_) (fun h => ?_)
          · refine z_iload_n C (pc := 46) dX9_firstWaiting_46 2 rfl ?_
            refine z_istore_n C (pc := 47) (lv' := [(2, .int w2), (0, va_rf (some f0)), (1, .int f1), (3, .int w3)]) dX9_firstWaiting_47 (by decide) rfl ?_
            refine z_iinc C (pc := 48) (y := w3 + (1 : Int32)) (lv' := [(3, .int (w3 + (1 : Int32))), (2, .int w2), (0, va_rf (some f0)), (1, .int f1)]) dX9_firstWaiting_48 3 rfl rfl (by decide) rfl ?_
            refine z_goto C (pc := 51) (tgt := 4) dX9_firstWaiting_51 (by decide) ?_
            refine z_sub [2, 3, 1, 0] (lv' := [(0, va_rf (some f0)), (1, .int f1), (2, .int w2), (3, .int (w3 + (1 : Int32)))]) rfl ?_
            exact ih S w2 (w3 + (1 : Int32)) h
          · refine z_iload_n C (pc := 42) dX9_firstWaiting_42 3 rfl ?_
            refine z_goto C (pc := 43) (tgt := 47) dX9_firstWaiting_43 (by decide) ?_
            refine z_istore_n C (pc := 47) (lv' := [(2, .int w3), (0, va_rf (some f0)), (1, .int f1), (3, .int w3)]) dX9_firstWaiting_47 (by decide) rfl ?_
            refine z_iinc C (pc := 48) (y := w3 + (1 : Int32)) (lv' := [(3, .int (w3 + (1 : Int32))), (2, .int w3), (0, va_rf (some f0)), (1, .int f1)]) dX9_firstWaiting_48 3 rfl rfl (by decide) rfl ?_
            refine z_goto C (pc := 51) (tgt := 4) dX9_firstWaiting_51 (by decide) ?_
            refine z_sub [2, 3, 1, 0] (lv' := [(0, va_rf (some f0)), (1, .int f1), (2, .int w3), (3, .int (w3 + (1 : Int32)))]) rfl ?_
            exact ih S w3 (w3 + (1 : Int32)) h
set_option maxHeartbeats 4000000 in
set_option maxRecDepth 100000 in
theorem c_X9_firstWaiting (l : Launch) (v : Ev) (S : Hp) (x0 : Nat) (x1 : Int32) : CI l v yX9_firstWaiting cX9_firstWaiting 4 (some .int) rm_X9_firstWaiting [va_rf (some x0), .int x1] S (fun Q _ => wp_X9_firstWaiting S x0 x1 Q) := by
  intro Q EQ h
  refine z_start [(0, va_rf (some x0)), (1, .int x1)] (by decide +kernel) (by simp only [la_i, la_r, la_n]) (cat_cr (cat_ci cat_nil)) (by simp only [ls_i, ls_r, ls_n]; decide) (fun z C N T => ?_)
  unfold wp_X9_firstWaiting at h
  refine z_iconst C (pc := 0) (x := (-1 : Int32)) dX9_firstWaiting_0 kic_m1 ?_
  refine z_istore_n C (pc := 1) (lv' := [(2, .int (-1 : Int32)), (0, va_rf (some x0)), (1, .int x1)]) dX9_firstWaiting_1 (by decide) rfl ?_
  refine z_iconst C (pc := 2) (x := (0 : Int32)) dX9_firstWaiting_2 kic_0 ?_
  refine z_istore_n C (pc := 3) (lv' := [(3, .int (0 : Int32)), (2, .int (-1 : Int32)), (0, va_rf (some x0)), (1, .int x1)]) dX9_firstWaiting_3 (by decide) rfl ?_
  obtain ⟨n14, h⟩ := h
  refine z_sub [2, 3, 1, 0] (lv' := [(0, va_rf (some x0)), (1, .int x1), (2, .int (-1 : Int32)), (3, .int (0 : Int32))]) rfl ?_
  exact l_X9_firstWaiting_L4 l v x0 x1 Q C N T n14 S (-1 : Int32) (0 : Int32) h
def wp_X9_goesOut (S : Hp) (x0 : Nat) (x1 : Int32) (Q : Hp → Prop) : Prop :=
  okA S 9 x0 ∧ (rd S 11 (g_P S 907 x0) (fun a2 => vp_in x1 (g_N S a2) ∧ (lt (s_R S a2 x1.toNatClampNeg (-1 : Int32)) (fun S6 => okA S6 9 x0 ∧ (rd S6 11 (g_P S6 911 x0) (fun a8 => vp_in x1 (g_N S6 a8) ∧ (lt (s_R S6 a8 x1.toNatClampNeg (-1 : Int32)) (fun S12 => Q S12))))))))
def rm_X9_goesOut : Room := { frames := 0, cells := 0, slots := 0, locals := 0 }
set_option maxHeartbeats 4000000 in
set_option maxRecDepth 100000 in
theorem c_X9_goesOut (l : Launch) (v : Ev) (S : Hp) (x0 : Nat) (x1 : Int32) : CV l v yX9_goesOut cX9_goesOut 2 none rm_X9_goesOut [va_rf (some x0), .int x1] S (fun Q _ => wp_X9_goesOut S x0 x1 Q) := by
  intro Q EQ h
  refine z_start [(0, va_rf (some x0)), (1, .int x1)] (by decide +kernel) (by simp only [la_i, la_r, la_n]) (cat_cr (cat_ci cat_nil)) (by simp only [ls_i, ls_r, ls_n]; decide) (fun z C N T => ?_)
  unfold wp_X9_goesOut at h
  refine z_aload_n C (pc := 0) dX9_goesOut_0 0 rfl ?_
  obtain ⟨o1, h⟩ := h
  refine z_getP C (pc := 1) kf9 7 (by decide) rfl bw_915 (fun _ _ _ _ h => h) dX9_goesOut_1 rfl o1 ?_
  refine z_iload_n C (pc := 4) dX9_goesOut_4 1 rfl ?_
  refine z_iconst C (pc := 5) (x := (-1 : Int32)) dX9_goesOut_5 kic_m1 ?_
  obtain ⟨a2, e3, o4, h⟩ := h
  obtain ⟨v5, h⟩ := h
  refine z_iast C (pc := 6) dX9_goesOut_6 e3 o4 v5 ?_
  refine z_lt h (fun S6 h => ?_)
  refine z_aload_n C (pc := 7) dX9_goesOut_7 0 rfl ?_
  obtain ⟨o7, h⟩ := h
  refine z_getP C (pc := 8) kf9 11 (by decide) rfl bw_919 (fun _ _ _ _ h => h) dX9_goesOut_8 rfl o7 ?_
  refine z_iload_n C (pc := 11) dX9_goesOut_11 1 rfl ?_
  refine z_iconst C (pc := 12) (x := (-1 : Int32)) dX9_goesOut_12 kic_m1 ?_
  obtain ⟨a8, e9, o10, h⟩ := h
  obtain ⟨v11, h⟩ := h
  refine z_iast C (pc := 13) dX9_goesOut_13 e9 o10 v11 ?_
  refine z_lt h (fun S12 h => ?_)
  exact z_vret C (pc := 14) T dX9_goesOut_14 (by decide) (by decide) h
def wp_X9_leave (S : Hp) (x0 : Nat) (x1 : Int32) (Q : Int32 → Hp → Prop) : Prop :=
  okA S 9 x0 ∧ (wp_X9_isChild S x0 x1 (fun r3 S2 => okA S2 9 x0 ∧ (wp_X9_asks S2 x0 r3 (fun r6 S5 => if r6 = 0 then (Q (0 : Int32) S5) else (okA S5 9 x0 ∧ (rd S5 11 (g_P S5 907 x0) (fun a8 => vp_in x1 (g_N S5 a8) ∧ (lt (g_R S5 a8 x1.toNatClampNeg) (fun y12 => if y12 = (-1 : Int32) then (rd S5 11 (g_P S5 908 x0) (fun a25 => vp_in x1 (g_N S5 a25) ∧ (if (g_R S5 a25 x1.toNatClampNeg) = (-1 : Int32) then (wp_X9_fails S5 x0 (2 : Int32) (fun r42 S41 => Q r42 S41)) else (rd S5 11 (g_P S5 908 x0) (fun a29 => vp_in x1 (g_N S5 a29) ∧ (lt (s_R S5 a29 x1.toNatClampNeg (-1 : Int32)) (fun S33 => okA S33 9 x0 ∧ (wp_X9_goesOut S33 x0 x1 (fun S35 => if y12 = (-1 : Int32) then (Q (-1 : Int32) S35) else (okA S35 9 x0 ∧ (wp_X9_firstWaiting S35 x0 y12 (fun r38 S37 => if r38 = (-1 : Int32) then (Q r38 S37) else (okA S37 9 x0 ∧ (wp_X9_comesIn S37 x0 r38 y12 (fun S40 => Q r38 S40))))))))))))))) else (rd S5 11 (g_P S5 908 x0) (fun a13 => vp_in x1 (g_N S5 a13) ∧ (lt (s_R S5 a13 x1.toNatClampNeg (-1 : Int32)) (fun S17 => okA S17 9 x0 ∧ (wp_X9_goesOut S17 x0 x1 (fun S19 => if y12 = (-1 : Int32) then (Q (-1 : Int32) S19) else (okA S19 9 x0 ∧ (wp_X9_firstWaiting S19 x0 y12 (fun r22 S21 => if r22 = (-1 : Int32) then (Q r22 S21) else (okA S21 9 x0 ∧ (wp_X9_comesIn S21 x0 r22 y12 (fun S24 => Q r22 S24)))))))))))))))))))))
def rm_X9_leave : Room := { frames := 2, cells := 0, slots := 0, locals := 48 }
set_option maxHeartbeats 4000000 in
set_option maxRecDepth 100000 in
theorem c_X9_leave (l : Launch) (v : Ev) (S : Hp) (x0 : Nat) (x1 : Int32) : CI l v yX9_leave cX9_leave 4 (some .int) rm_X9_leave [va_rf (some x0), .int x1] S (fun Q _ => wp_X9_leave S x0 x1 Q) := by
  intro Q EQ h
  refine z_start [(0, va_rf (some x0)), (1, .int x1)] (by decide +kernel) (by simp only [la_i, la_r, la_n]) (cat_cr (cat_ci cat_nil)) (by simp only [ls_i, ls_r, ls_n]; decide) (fun z C N T => ?_)
  unfold wp_X9_leave at h
  refine z_aload_n C (pc := 0) dX9_leave_0 0 rfl ?_
  refine z_aload_n C (pc := 1) dX9_leave_1 0 rfl ?_
  refine z_iload_n C (pc := 2) dX9_leave_2 1 rfl ?_
  obtain ⟨o1, h⟩ := h
  refine z_Vi C (pc := 3) (KX := fun _ _ => False) (kc' := 0) (ks' := 0) (As := [.int x1]) (rest := [va_rf (some x0)]) rfl (c_X9_isChild l v S x0 x1) mw_X9_isChild bw_1033 bw_1035 bw_p32 (fit_of rfl) rfl rfl (Nat.le_of_ble_eq_true rfl) (by decide) rfl o1 dX9_leave_3 h (fun r3 S2 h => ?_) (fun En S9 h => h.elim)
  obtain ⟨o4, h⟩ := h
  refine z_Vi C (pc := 6) (KX := fun _ _ => False) (kc' := 0) (ks' := 0) (As := [.int r3]) (rest := []) rfl (c_X9_asks l v S2 x0 r3) mw_X9_asks bw_1017 bw_1019 bw_p30 (fit_of rfl) rfl rfl (Nat.le_of_ble_eq_true rfl) (by decide) rfl o4 dX9_leave_6 h (fun r6 S5 h => ?_) (fun En S9 h => h.elim)
  refine z_if_ne C (pc := 9) (tgt := 14) dX9_leave_9 (by decide) h (fun h => ?_) (fun h => ?_)
  · refine z_aload_n C (pc := 14) dX9_leave_14 0 rfl ?_
    obtain ⟨o7, h⟩ := h
    refine z_getP C (pc := 15) kf9 7 (by decide) rfl bw_915 (fun _ _ _ _ h => h) dX9_leave_15 rfl o7 ?_
    refine z_iload_n C (pc := 18) dX9_leave_18 1 rfl ?_
    obtain ⟨a8, e9, o10, h⟩ := h
    obtain ⟨v11, h⟩ := h
    refine z_iald C (pc := 19) dX9_leave_19 e9 o10 v11 ?_
    refine z_nI h (fun y12 h => ?_)
    refine z_istore_n C (pc := 20) (lv' := [(2, .int y12), (0, va_rf (some x0)), (1, .int x1)]) dX9_leave_20 (by decide) rfl ?_
    refine z_iload_n C (pc := 21) dX9_leave_21 0 rfl ?_
    refine z_iconst C (pc := 22) (x := (-1 : Int32)) dX9_leave_22 kic_m1 ?_
    refine z_icmp_ne C (pc := 23) (tgt := 42) dX9_leave_23 (by decide) h (fun h => ?_) (fun h => ?_)
    · refine z_aload_n C (pc := 42) dX9_leave_42 1 rfl ?_
      refine z_getP C (pc := 43) kf9 8 (by decide) rfl bw_916 (fun _ _ _ _ h => h) dX9_leave_43 rfl o7 ?_
      refine z_iload_n C (pc := 46) dX9_leave_46 2 rfl ?_
      refine z_iconst C (pc := 47) (x := (-1 : Int32)) dX9_leave_47 kic_m1 ?_
      obtain ⟨a13, e14, o15, h⟩ := h
      obtain ⟨v16, h⟩ := h
      refine z_iast C (pc := 48) dX9_leave_48 e14 o15 v16 ?_
      refine z_lt h (fun S17 h => ?_)
      refine z_aload_n C (pc := 49) dX9_leave_49 1 rfl ?_
      refine z_iload_n C (pc := 50) dX9_leave_50 2 rfl ?_
      obtain ⟨o18, h⟩ := h
      refine z_Vv C (pc := 51) (KX := fun _ _ => False) (kc' := 0) (ks' := 0) (As := [.int x1]) (rest := []) rfl (c_X9_goesOut l v S17 x0 x1) mw_X9_goesOut bw_1069 bw_1071 bw_p40 (fit_of rfl) rfl rfl (Nat.le_of_ble_eq_true rfl) (by decide) rfl o18 dX9_leave_51 h (fun S19 h => ?_) (fun En S9 h => h.elim)
      refine z_iload_n C (pc := 54) dX9_leave_54 0 rfl ?_
      refine z_iconst C (pc := 55) (x := (-1 : Int32)) dX9_leave_55 kic_m1 ?_
      refine z_icmp_ne C (pc := 56) (tgt := 63) dX9_leave_56 (by decide) h (fun h => ?_) (fun h => ?_)
      · refine z_aload_n C (pc := 63) dX9_leave_63 1 rfl ?_
        refine z_iload_n C (pc := 64) dX9_leave_64 0 rfl ?_
        obtain ⟨o20, h⟩ := h
        refine z_Vi C (pc := 65) (KX := fun _ _ => False) (kc' := 0) (ks' := 0) (As := [.int y12]) (rest := []) rfl (c_X9_firstWaiting l v S19 x0 y12) mw_X9_firstWaiting bw_1073 bw_1075 bw_p41 (fit_of rfl) rfl rfl (Nat.le_of_ble_eq_true rfl) (by decide) rfl o20 dX9_leave_65 h (fun r22 S21 h => ?_) (fun En S9 h => h.elim)
        refine z_istore_n C (pc := 68) (lv' := [(3, .int r22), (2, .int y12), (0, va_rf (some x0)), (1, .int x1)]) dX9_leave_68 (by decide) rfl ?_
        refine z_iload_n C (pc := 69) dX9_leave_69 0 rfl ?_
        refine z_iconst C (pc := 70) (x := (-1 : Int32)) dX9_leave_70 kic_m1 ?_
        refine z_icmp_eq C (pc := 71) (tgt := 80) dX9_leave_71 (by decide) h (fun h => ?_) (fun h => ?_)
        · refine z_iload_n C (pc := 80) dX9_leave_80 0 rfl ?_
          exact z_iret C (pc := 81) T dX9_leave_81 (by decide) (by decide) h
        · refine z_aload_n C (pc := 74) dX9_leave_74 2 rfl ?_
          refine z_iload_n C (pc := 75) dX9_leave_75 0 rfl ?_
          refine z_iload_n C (pc := 76) dX9_leave_76 1 rfl ?_
          obtain ⟨o23, h⟩ := h
          refine z_Vv C (pc := 77) (KX := fun _ _ => False) (kc' := 0) (ks' := 0) (As := [.int r22, .int y12]) (rest := []) rfl (c_X9_comesIn l v S21 x0 r22 y12) mw_X9_comesIn bw_1053 bw_1055 bw_p37 (fit_of rfl) rfl rfl (Nat.le_of_ble_eq_true rfl) (by decide) rfl o23 dX9_leave_77 h (fun S24 h => ?_) (fun En S9 h => h.elim)
          refine z_iload_n C (pc := 80) dX9_leave_80 0 rfl ?_
          exact z_iret C (pc := 81) T dX9_leave_81 (by decide) (by decide) h
      · refine z_iconst C (pc := 59) (x := (-1 : Int32)) dX9_leave_59 kic_m1 ?_
        refine z_goto C (pc := 60) (tgt := 68) dX9_leave_60 (by decide) ?_
        refine z_istore_n C (pc := 68) (lv' := [(3, .int (-1 : Int32)), (2, .int y12), (0, va_rf (some x0)), (1, .int x1)]) dX9_leave_68 (by decide) rfl ?_
        refine z_iload_n C (pc := 69) dX9_leave_69 0 rfl ?_
        refine z_iconst C (pc := 70) (x := (-1 : Int32)) dX9_leave_70 kic_m1 ?_
        refine z_icmp_eq C (pc := 71) (tgt := 80) dX9_leave_71 (by decide) (ifT (c := (-1 : Int32) = (-1 : Int32)) (by decide) h) (fun h => ?_) (fun h => h.elim)
        refine z_iload_n C (pc := 80) dX9_leave_80 0 rfl ?_
        exact z_iret C (pc := 81) T dX9_leave_81 (by decide) (by decide) h
    · refine z_aload_n C (pc := 26) dX9_leave_26 1 rfl ?_
      refine z_getP C (pc := 27) kf9 8 (by decide) rfl bw_916 (fun _ _ _ _ h => h) dX9_leave_27 rfl o7 ?_
      refine z_iload_n C (pc := 30) dX9_leave_30 2 rfl ?_
      obtain ⟨a25, e26, o27, h⟩ := h
      obtain ⟨v28, h⟩ := h
      refine z_iald C (pc := 31) dX9_leave_31 e26 o27 v28 ?_
      refine z_iconst C (pc := 32) (x := (-1 : Int32)) dX9_leave_32 kic_m1 ?_
      refine z_icmp_ne C (pc := 33) (tgt := 42) dX9_leave_33 (by decide) h (fun h => ?_) (fun h => ?_)
      · refine z_aload_n C (pc := 42) dX9_leave_42 1 rfl ?_
        refine z_getP C (pc := 43) kf9 8 (by decide) rfl bw_916 (fun _ _ _ _ h => h) dX9_leave_43 rfl o7 ?_
        refine z_iload_n C (pc := 46) dX9_leave_46 2 rfl ?_
        refine z_iconst C (pc := 47) (x := (-1 : Int32)) dX9_leave_47 kic_m1 ?_
        obtain ⟨a29, e30, o31, h⟩ := h
        obtain ⟨v32, h⟩ := h
        refine z_iast C (pc := 48) dX9_leave_48 e30 o31 v32 ?_
        refine z_lt h (fun S33 h => ?_)
        refine z_aload_n C (pc := 49) dX9_leave_49 1 rfl ?_
        refine z_iload_n C (pc := 50) dX9_leave_50 2 rfl ?_
        obtain ⟨o34, h⟩ := h
        refine z_Vv C (pc := 51) (KX := fun _ _ => False) (kc' := 0) (ks' := 0) (As := [.int x1]) (rest := []) rfl (c_X9_goesOut l v S33 x0 x1) mw_X9_goesOut bw_1069 bw_1071 bw_p40 (fit_of rfl) rfl rfl (Nat.le_of_ble_eq_true rfl) (by decide) rfl o34 dX9_leave_51 h (fun S35 h => ?_) (fun En S9 h => h.elim)
        refine z_iload_n C (pc := 54) dX9_leave_54 0 rfl ?_
        refine z_iconst C (pc := 55) (x := (-1 : Int32)) dX9_leave_55 kic_m1 ?_
        refine z_icmp_ne C (pc := 56) (tgt := 63) dX9_leave_56 (by decide) h (fun h => ?_) (fun h => ?_)
        · refine z_aload_n C (pc := 63) dX9_leave_63 1 rfl ?_
          refine z_iload_n C (pc := 64) dX9_leave_64 0 rfl ?_
          obtain ⟨o36, h⟩ := h
          refine z_Vi C (pc := 65) (KX := fun _ _ => False) (kc' := 0) (ks' := 0) (As := [.int y12]) (rest := []) rfl (c_X9_firstWaiting l v S35 x0 y12) mw_X9_firstWaiting bw_1073 bw_1075 bw_p41 (fit_of rfl) rfl rfl (Nat.le_of_ble_eq_true rfl) (by decide) rfl o36 dX9_leave_65 h (fun r38 S37 h => ?_) (fun En S9 h => h.elim)
          refine z_istore_n C (pc := 68) (lv' := [(3, .int r38), (2, .int y12), (0, va_rf (some x0)), (1, .int x1)]) dX9_leave_68 (by decide) rfl ?_
          refine z_iload_n C (pc := 69) dX9_leave_69 0 rfl ?_
          refine z_iconst C (pc := 70) (x := (-1 : Int32)) dX9_leave_70 kic_m1 ?_
          refine z_icmp_eq C (pc := 71) (tgt := 80) dX9_leave_71 (by decide) h (fun h => ?_) (fun h => ?_)
          · refine z_iload_n C (pc := 80) dX9_leave_80 0 rfl ?_
            exact z_iret C (pc := 81) T dX9_leave_81 (by decide) (by decide) h
          · refine z_aload_n C (pc := 74) dX9_leave_74 2 rfl ?_
            refine z_iload_n C (pc := 75) dX9_leave_75 0 rfl ?_
            refine z_iload_n C (pc := 76) dX9_leave_76 1 rfl ?_
            obtain ⟨o39, h⟩ := h
            refine z_Vv C (pc := 77) (KX := fun _ _ => False) (kc' := 0) (ks' := 0) (As := [.int r38, .int y12]) (rest := []) rfl (c_X9_comesIn l v S37 x0 r38 y12) mw_X9_comesIn bw_1053 bw_1055 bw_p37 (fit_of rfl) rfl rfl (Nat.le_of_ble_eq_true rfl) (by decide) rfl o39 dX9_leave_77 h (fun S40 h => ?_) (fun En S9 h => h.elim)
            refine z_iload_n C (pc := 80) dX9_leave_80 0 rfl ?_
            exact z_iret C (pc := 81) T dX9_leave_81 (by decide) (by decide) h
        · refine z_iconst C (pc := 59) (x := (-1 : Int32)) dX9_leave_59 kic_m1 ?_
          refine z_goto C (pc := 60) (tgt := 68) dX9_leave_60 (by decide) ?_
          refine z_istore_n C (pc := 68) (lv' := [(3, .int (-1 : Int32)), (2, .int y12), (0, va_rf (some x0)), (1, .int x1)]) dX9_leave_68 (by decide) rfl ?_
          refine z_iload_n C (pc := 69) dX9_leave_69 0 rfl ?_
          refine z_iconst C (pc := 70) (x := (-1 : Int32)) dX9_leave_70 kic_m1 ?_
          refine z_icmp_eq C (pc := 71) (tgt := 80) dX9_leave_71 (by decide) (ifT (c := (-1 : Int32) = (-1 : Int32)) (by decide) h) (fun h => ?_) (fun h => h.elim)
          refine z_iload_n C (pc := 80) dX9_leave_80 0 rfl ?_
          exact z_iret C (pc := 81) T dX9_leave_81 (by decide) (by decide) h
      · refine z_aload_n C (pc := 36) dX9_leave_36 1 rfl ?_
        refine z_iconst C (pc := 37) (x := (2 : Int32)) dX9_leave_37 kic_2 ?_
        refine z_Vi C (pc := 38) (KX := fun _ _ => False) (kc' := 0) (ks' := 0) (As := [.int (2 : Int32)]) (rest := []) rfl (c_X9_fails l v S5 x0 (2 : Int32)) mw_X9_fails bw_1021 bw_1023 bw_p31 (fit_of rfl) rfl rfl (Nat.le_of_ble_eq_true rfl) (by decide) rfl o7 dX9_leave_38 h (fun r42 S41 h => ?_) (fun En S9 h => h.elim)
        exact z_iret C (pc := 41) T dX9_leave_41 (by decide) (by decide) h
  · refine z_iconst C (pc := 12) (x := (0 : Int32)) dX9_leave_12 kic_0 ?_
    exact z_iret C (pc := 13) T dX9_leave_13 (by decide) (by decide) h
def wp_X9_patrol (S : Hp) (x0 : Nat) (x1 : Int32) (x2 : Int32) (Q : Int32 → Hp → Prop) : Prop :=
  okA S 9 x0 ∧ (wp_X9_isChild S x0 x1 (fun r3 S2 => okA S2 9 x0 ∧ (wp_X9_asks S2 x0 r3 (fun r6 S5 => if r6 = 0 then (Q (0 : Int32) S5) else (wp_X9_in S5 x2 (0 : Int32) (3 : Int32) (fun r8 S7 => if r8 = 0 then (okA S7 9 x0 ∧ (wp_X9_fails S7 x0 (2 : Int32) (fun r28 S27 => Q r28 S27))) else (okA S7 9 x0 ∧ (rd S7 11 (g_P S7 907 x0) (fun a10 => vp_in x1 (g_N S7 a10) ∧ (if (g_R S7 a10 x1.toNatClampNeg) = (-1 : Int32) then (wp_X9_fails S7 x0 (3 : Int32) (fun r25 S24 => Q r25 S24)) else (rd S7 11 (g_P S7 911 x0) (fun a14 => vp_in x1 (g_N S7 a14) ∧ (lt (g_R S7 a14 x1.toNatClampNeg) (fun y18 => rd S7 11 (g_P S7 911 x0) (fun a19 => vp_in x1 (g_N S7 a19) ∧ (lt (s_R S7 a19 x1.toNatClampNeg x2) (fun S23 => Q y18 S23)))))))))))))))))
def rm_X9_patrol : Room := { frames := 2, cells := 0, slots := 0, locals := 43 }
set_option maxHeartbeats 4000000 in
set_option maxRecDepth 100000 in
theorem c_X9_patrol (l : Launch) (v : Ev) (S : Hp) (x0 : Nat) (x1 : Int32) (x2 : Int32) : CI l v yX9_patrol cX9_patrol 4 (some .int) rm_X9_patrol [va_rf (some x0), .int x1, .int x2] S (fun Q _ => wp_X9_patrol S x0 x1 x2 Q) := by
  intro Q EQ h
  refine z_start [(0, va_rf (some x0)), (1, .int x1), (2, .int x2)] (by decide +kernel) (by simp only [la_i, la_r, la_n]) (cat_cr (cat_ci (cat_ci cat_nil))) (by simp only [ls_i, ls_r, ls_n]; decide) (fun z C N T => ?_)
  unfold wp_X9_patrol at h
  refine z_aload_n C (pc := 0) dX9_patrol_0 0 rfl ?_
  refine z_aload_n C (pc := 1) dX9_patrol_1 0 rfl ?_
  refine z_iload_n C (pc := 2) dX9_patrol_2 1 rfl ?_
  obtain ⟨o1, h⟩ := h
  refine z_Vi C (pc := 3) (KX := fun _ _ => False) (kc' := 0) (ks' := 0) (As := [.int x1]) (rest := [va_rf (some x0)]) rfl (c_X9_isChild l v S x0 x1) mw_X9_isChild bw_1033 bw_1035 bw_p32 (fit_of rfl) rfl rfl (Nat.le_of_ble_eq_true rfl) (by decide) rfl o1 dX9_patrol_3 h (fun r3 S2 h => ?_) (fun En S9 h => h.elim)
  obtain ⟨o4, h⟩ := h
  refine z_Vi C (pc := 6) (KX := fun _ _ => False) (kc' := 0) (ks' := 0) (As := [.int r3]) (rest := []) rfl (c_X9_asks l v S2 x0 r3) mw_X9_asks bw_1017 bw_1019 bw_p30 (fit_of rfl) rfl rfl (Nat.le_of_ble_eq_true rfl) (by decide) rfl o4 dX9_patrol_6 h (fun r6 S5 h => ?_) (fun En S9 h => h.elim)
  refine z_if_ne C (pc := 9) (tgt := 14) dX9_patrol_9 (by decide) h (fun h => ?_) (fun h => ?_)
  · refine z_iload_n C (pc := 14) dX9_patrol_14 2 rfl ?_
    refine z_iconst C (pc := 15) (x := (0 : Int32)) dX9_patrol_15 kic_0 ?_
    refine z_iconst C (pc := 16) (x := (3 : Int32)) dX9_patrol_16 kic_3 ?_
    refine z_Si C (pc := 17) (KX := fun _ _ => False) (kc' := 0) (ks' := 0) (As := [.int x2, .int (0 : Int32), .int (3 : Int32)]) (rest := []) (c_X9_in l v S5 x2 (0 : Int32) (3 : Int32)) mw_X9_in bw_1014 bw_1015 (fit_of rfl) rfl rfl (Nat.le_of_ble_eq_true rfl) dX9_patrol_17 h (fun r8 S7 h => ?_) (fun En S9 h => h.elim)
    refine z_if_ne C (pc := 20) (tgt := 29) dX9_patrol_20 (by decide) h (fun h => ?_) (fun h => ?_)
    · refine z_aload_n C (pc := 29) dX9_patrol_29 0 rfl ?_
      obtain ⟨o9, h⟩ := h
      refine z_getP C (pc := 30) kf9 7 (by decide) rfl bw_915 (fun _ _ _ _ h => h) dX9_patrol_30 rfl o9 ?_
      refine z_iload_n C (pc := 33) dX9_patrol_33 1 rfl ?_
      obtain ⟨a10, e11, o12, h⟩ := h
      obtain ⟨v13, h⟩ := h
      refine z_iald C (pc := 34) dX9_patrol_34 e11 o12 v13 ?_
      refine z_iconst C (pc := 35) (x := (-1 : Int32)) dX9_patrol_35 kic_m1 ?_
      refine z_icmp_ne C (pc := 36) (tgt := 45) dX9_patrol_36 (by decide) h (fun h => ?_) (fun h => ?_)
      · refine z_aload_n C (pc := 45) dX9_patrol_45 0 rfl ?_
        refine z_getP C (pc := 46) kf9 11 (by decide) rfl bw_919 (fun _ _ _ _ h => h) dX9_patrol_46 rfl o9 ?_
        refine z_iload_n C (pc := 49) dX9_patrol_49 1 rfl ?_
        obtain ⟨a14, e15, o16, h⟩ := h
        obtain ⟨v17, h⟩ := h
        refine z_iald C (pc := 50) dX9_patrol_50 e15 o16 v17 ?_
        refine z_nI h (fun y18 h => ?_)
        refine z_istore_n C (pc := 51) (lv' := [(3, .int y18), (0, va_rf (some x0)), (1, .int x1), (2, .int x2)]) dX9_patrol_51 (by decide) rfl ?_
        refine z_aload_n C (pc := 52) dX9_patrol_52 1 rfl ?_
        refine z_getP C (pc := 53) kf9 11 (by decide) rfl bw_919 (fun _ _ _ _ h => h) dX9_patrol_53 rfl o9 ?_
        refine z_iload_n C (pc := 56) dX9_patrol_56 2 rfl ?_
        refine z_iload_n C (pc := 57) dX9_patrol_57 3 rfl ?_
        obtain ⟨a19, e20, o21, h⟩ := h
        obtain ⟨v22, h⟩ := h
        refine z_iast C (pc := 58) dX9_patrol_58 e20 o21 v22 ?_
        refine z_lt h (fun S23 h => ?_)
        refine z_iload_n C (pc := 59) dX9_patrol_59 0 rfl ?_
        exact z_iret C (pc := 60) T dX9_patrol_60 (by decide) (by decide) h
      · refine z_aload_n C (pc := 39) dX9_patrol_39 0 rfl ?_
        refine z_iconst C (pc := 40) (x := (3 : Int32)) dX9_patrol_40 kic_3 ?_
        refine z_Vi C (pc := 41) (KX := fun _ _ => False) (kc' := 0) (ks' := 0) (As := [.int (3 : Int32)]) (rest := []) rfl (c_X9_fails l v S7 x0 (3 : Int32)) mw_X9_fails bw_1021 bw_1023 bw_p31 (fit_of rfl) rfl rfl (Nat.le_of_ble_eq_true rfl) (by decide) rfl o9 dX9_patrol_41 h (fun r25 S24 h => ?_) (fun En S9 h => h.elim)
        exact z_iret C (pc := 44) T dX9_patrol_44 (by decide) (by decide) h
    · refine z_aload_n C (pc := 23) dX9_patrol_23 0 rfl ?_
      refine z_iconst C (pc := 24) (x := (2 : Int32)) dX9_patrol_24 kic_2 ?_
      obtain ⟨o26, h⟩ := h
      refine z_Vi C (pc := 25) (KX := fun _ _ => False) (kc' := 0) (ks' := 0) (As := [.int (2 : Int32)]) (rest := []) rfl (c_X9_fails l v S7 x0 (2 : Int32)) mw_X9_fails bw_1021 bw_1023 bw_p31 (fit_of rfl) rfl rfl (Nat.le_of_ble_eq_true rfl) (by decide) rfl o26 dX9_patrol_25 h (fun r28 S27 h => ?_) (fun En S9 h => h.elim)
      exact z_iret C (pc := 28) T dX9_patrol_28 (by decide) (by decide) h
  · refine z_iconst C (pc := 12) (x := (0 : Int32)) dX9_patrol_12 kic_0 ?_
    exact z_iret C (pc := 13) T dX9_patrol_13 (by decide) (by decide) h
def wp_X9_isDay (S : Hp) (x0 : Int32) (Q : Int32 → Hp → Prop) : Prop :=
  wp_X9_in S x0 (0 : Int32) (9999 : Int32) (fun r2 S1 => bz r2 (Q r2 S1))
def rm_X9_isDay : Room := { frames := 1, cells := 0, slots := 0, locals := 22 }
set_option maxHeartbeats 4000000 in
set_option maxRecDepth 100000 in
theorem c_X9_isDay (l : Launch) (v : Ev) (S : Hp) (x0 : Int32) : CI l v yX9_isDay cX9_isDay 1 (some .boolean) rm_X9_isDay [.int x0] S (fun Q _ => wp_X9_isDay S x0 Q) := by
  intro Q EQ h
  refine z_start [(0, .int x0)] (by decide +kernel) (by simp only [la_i, la_r, la_n]) (cat_ci cat_nil) (by simp only [ls_i, ls_r, ls_n]; decide) (fun z C N T => ?_)
  unfold wp_X9_isDay at h
  refine z_iload_n C (pc := 0) dX9_isDay_0 0 rfl ?_
  refine z_iconst C (pc := 1) (x := (0 : Int32)) dX9_isDay_1 kic_0 ?_
  refine z_sipush C (pc := 2) (x := (9999 : Int32)) dX9_isDay_2 ksp_9999 ?_
  refine z_Si C (pc := 5) (KX := fun _ _ => False) (kc' := 0) (ks' := 0) (As := [.int x0, .int (0 : Int32), .int (9999 : Int32)]) (rest := []) (c_X9_in l v S x0 (0 : Int32) (9999 : Int32)) mw_X9_in bw_1014 bw_1015 (fit_of rfl) rfl rfl (Nat.le_of_ble_eq_true rfl) dX9_isDay_5 h (fun r2 S1 h => ?_) (fun En S9 h => h.elim)
  exact z_zret C (pc := 8) T dX9_isDay_8 (by decide) (by decide) h
def wp_X9_duty_L81 (f0 : Nat) (f1 : Int32) (f2 : Int32) (f3 : Int32) (Q : Int32 → Hp → Prop) : Nat → Hp → Int32 → Int32 → Int32 → Prop
  | 0, _, _, _, _ => False
  | n + 1, S, w4, w5, w6 => if (4 : Int32) ≤ w6 then (Q w5 S) else (okA S 9 f0 ∧ (wp_X9_inPatrol S f0 f1 w6 (fun r13 S12 => if r13 ≤ 0 then (lt (w4 - (0 : Int32)) (fun y14 => wp_X9_duty_L81 f0 f1 f2 f3 Q n S12 y14 w5 (w6 + (1 : Int32)))) else (if w4 = 0 then (lt (w4 - (1 : Int32)) (fun y16 => wp_X9_duty_L81 f0 f1 f2 f3 Q n S12 y16 w6 (w6 + (1 : Int32)))) else (lt (w4 - (1 : Int32)) (fun y15 => wp_X9_duty_L81 f0 f1 f2 f3 Q n S12 y15 w5 (w6 + (1 : Int32))))))))
def wp_X9_duty_L32 (f0 : Nat) (f1 : Int32) (f2 : Int32) (Q : Int32 → Hp → Prop) : Nat → Hp → Int32 → Int32 → Prop
  | 0, _, _, _ => False
  | n + 1, S, w3, w4 => if (4 : Int32) ≤ w4 then (if w3 = 0 then (∃ n18, wp_X9_duty_L81 f0 f1 f2 w3 Q n18 S (0 : Int32) (-1 : Int32) (0 : Int32)) else (¬ w3 = 0 ∧ (lt (f2 - f2 / w3 * w3) (fun y10 => ∃ n17, wp_X9_duty_L81 f0 f1 f2 w3 Q n17 S y10 (-1 : Int32) (0 : Int32))))) else (okA S 9 f0 ∧ (wp_X9_inPatrol S f0 f1 w4 (fun r21 S20 => if r21 ≤ 0 then (lt (w3 + (0 : Int32)) (fun y22 => wp_X9_duty_L32 f0 f1 f2 Q n S20 y22 (w4 + (1 : Int32)))) else (lt (w3 + (1 : Int32)) (fun y23 => wp_X9_duty_L32 f0 f1 f2 Q n S20 y23 (w4 + (1 : Int32)))))))
def wp_X9_duty (S : Hp) (x0 : Nat) (x1 : Int32) (x2 : Int32) (Q : Int32 → Hp → Prop) : Prop :=
  okA S 9 x0 ∧ (wp_X9_isTroop S x0 x1 (fun r3 S2 => okA S2 9 x0 ∧ (wp_X9_asks S2 x0 r3 (fun r6 S5 => if r6 = 0 then (Q (0 : Int32) S5) else (wp_X9_isDay S5 x2 (fun r8 S7 => if r8 = 0 then (okA S7 9 x0 ∧ (wp_X9_fails S7 x0 (2 : Int32) (fun r27 S26 => Q r27 S26))) else (∃ n24, wp_X9_duty_L32 x0 x1 x2 Q n24 S7 (0 : Int32) (0 : Int32))))))))
def rm_X9_duty : Room := { frames := 2, cells := 0, slots := 0, locals := 43 }
set_option maxHeartbeats 4000000 in
set_option maxRecDepth 100000 in
theorem l_X9_duty_L81 (l : Launch) (v : Ev) (f0 : Nat) (f1 : Int32) (f2 : Int32) (f3 : Int32) (Q : Int32 → Hp → Prop) {EQ : String → Hp → Prop} {z : Z9} (C : Cx l v RX9 cX9_duty 8 (some .int) "duty" z) (N : NT z) (T : EE v rm_X9_duty (QI v Q) EQ z) : ∀ (n : Nat) (S : Hp) (w4 : Int32) (w5 : Int32) (w6 : Int32), wp_X9_duty_L81 f0 f1 f2 f3 Q n S w4 w5 w6 → ZZ l v 8 rm_X9_duty z 0 0 S 81 [(0, va_rf (some f0)), (1, .int f1), (2, .int f2), (3, .int f3), (4, .int w4), (5, .int w5), (6, .int w6)] [] := by
  intro n
  induction n with
  | zero =>
    intro S w4 w5 w6 h
    exact h.elim
  | succ n ih =>
    intro S w4 w5 w6 h
    unfold wp_X9_duty_L81 at h
    refine z_iload C (pc := 81) dX9_duty_81 6 rfl ?_
    refine z_iconst C (pc := 83) (x := (4 : Int32)) dX9_duty_83 kic_4 ?_
    refine z_icmp_ge C (pc := 84) (tgt := 144) dX9_duty_84 (by decide) h (fun h => ?_) (fun h => ?_)
    · refine z_iload C (pc := 144) dX9_duty_144 5 rfl ?_
      exact z_iret C (pc := 146) T dX9_duty_146 (by decide) (by decide) h
    · refine z_aload_n C (pc := 87) dX9_duty_87 0 rfl ?_
      refine z_iload_n C (pc := 88) dX9_duty_88 1 rfl ?_
      refine z_iload C (pc := 89) dX9_duty_89 6 rfl ?_
      obtain ⟨o11, h⟩ := h
      refine z_Vi C (pc := 91) (KX := fun _ _ => False) (kc' := 0) (ks' := 0) (As := [.int f1, .int w6]) (rest := []) rfl (c_X9_inPatrol l v S f0 f1 w6) mw_X9_inPatrol bw_1057 bw_1059 bw_p38 (fit_of rfl) rfl rfl (Nat.le_of_ble_eq_true rfl) (by decide) rfl o11 dX9_duty_91 h (fun r13 S12 h => ?_) (fun En S9 h => h.elim)
      refine z_if_le C (pc := 94) (tgt := 101) dX9_duty_94 (by decide) h (fun h => ?_) (fun h => ?_)
      · refine z_iconst C (pc := 101) (x := (0 : Int32)) dX9_duty_101 kic_0 ?_
        refine z_istore C (pc := 102) (lv' := [(7, .int (0 : Int32)), (0, va_rf (some f0)), (1, .int f1), (2, .int f2), (3, .int f3), (4, .int w4), (5, .int w5), (6, .int w6)]) dX9_duty_102 (by decide) rfl ?_
        refine z_iload C (pc := 104) dX9_duty_104 0 rfl ?_
        refine z_if_eq C (pc := 106) (tgt := 119) dX9_duty_106 (by decide) (ifT (c := (0 : Int32) = 0) (by decide) h) (fun h => ?_) (fun h => h.elim)
        refine z_iload C (pc := 119) dX9_duty_119 6 rfl ?_
        refine z_istore C (pc := 121) (lv' := [(5, .int w5), (7, .int (0 : Int32)), (0, va_rf (some f0)), (1, .int f1), (2, .int f2), (3, .int f3), (4, .int w4), (6, .int w6)]) dX9_duty_121 (by decide) rfl ?_
        refine z_iload C (pc := 123) dX9_duty_123 6 rfl ?_
        refine z_iload C (pc := 125) dX9_duty_125 1 rfl ?_
        refine z_if_eq C (pc := 127) (tgt := 134) dX9_duty_127 (by decide) (ifT (c := (0 : Int32) = 0) (by decide) h) (fun h => ?_) (fun h => h.elim)
        refine z_iconst C (pc := 134) (x := (0 : Int32)) dX9_duty_134 kic_0 ?_
        refine z_isub C (pc := 135) dX9_duty_135 ?_
        refine z_nI h (fun y14 h => ?_)
        refine z_istore C (pc := 136) (lv' := [(4, .int y14), (5, .int w5), (7, .int (0 : Int32)), (0, va_rf (some f0)), (1, .int f1), (2, .int f2), (3, .int f3), (6, .int w6)]) dX9_duty_136 (by decide) rfl ?_
        refine z_iinc C (pc := 138) (y := w6 + (1 : Int32)) (lv' := [(6, .int (w6 + (1 : Int32))), (4, .int y14), (5, .int w5), (7, .int (0 : Int32)), (0, va_rf (some f0)), (1, .int f1), (2, .int f2), (3, .int f3)]) dX9_duty_138 7 rfl rfl (by decide) rfl ?_
        refine z_goto C (pc := 141) (tgt := 81) dX9_duty_141 (by decide) ?_
        refine z_sub [4, 5, 6, 7, 1, 2, 0] (lv' := [(0, va_rf (some f0)), (1, .int f1), (2, .int f2), (3, .int f3), (4, .int y14), (5, .int w5), (6, .int (w6 + (1 : Int32)))]) rfl ?_
        exact ih S12 y14 w5 (w6 + (1 : Int32)) h
      · refine z_iconst C (pc := 97) (x := (1 : Int32)) dX9_duty_97 kic_1 ?_
        refine z_goto C (pc := 98) (tgt := 102) dX9_duty_98 (by decide) ?_
        refine z_istore C (pc := 102) (lv' := [(7, .int (1 : Int32)), (0, va_rf (some f0)), (1, .int f1), (2, .int f2), (3, .int f3), (4, .int w4), (5, .int w5), (6, .int w6)]) dX9_duty_102 (by decide) rfl ?_
        refine z_iload C (pc := 104) dX9_duty_104 0 rfl ?_
        refine z_if_eq C (pc := 106) (tgt := 119) dX9_duty_106 (by decide) (ifF (c := (1 : Int32) = 0) (by decide) h) (fun h => h.elim) (fun h => ?_)
        refine z_iload C (pc := 109) dX9_duty_109 5 rfl ?_
        refine z_if_ne C (pc := 111) (tgt := 119) dX9_duty_111 (by decide) h (fun h => ?_) (fun h => ?_)
        · refine z_iload C (pc := 119) dX9_duty_119 6 rfl ?_
          refine z_istore C (pc := 121) (lv' := [(5, .int w5), (7, .int (1 : Int32)), (0, va_rf (some f0)), (1, .int f1), (2, .int f2), (3, .int f3), (4, .int w4), (6, .int w6)]) dX9_duty_121 (by decide) rfl ?_
          refine z_iload C (pc := 123) dX9_duty_123 6 rfl ?_
          refine z_iload C (pc := 125) dX9_duty_125 1 rfl ?_
          refine z_if_eq C (pc := 127) (tgt := 134) dX9_duty_127 (by decide) (ifF (c := (1 : Int32) = 0) (by decide) h) (fun h => h.elim) (fun h => ?_)
          refine z_iconst C (pc := 130) (x := (1 : Int32)) dX9_duty_130 kic_1 ?_
          refine z_goto C (pc := 131) (tgt := 135) dX9_duty_131 (by decide) ?_
          refine z_isub C (pc := 135) dX9_duty_135 ?_
          refine z_nI h (fun y15 h => ?_)
          refine z_istore C (pc := 136) (lv' := [(4, .int y15), (5, .int w5), (7, .int (1 : Int32)), (0, va_rf (some f0)), (1, .int f1), (2, .int f2), (3, .int f3), (6, .int w6)]) dX9_duty_136 (by decide) rfl ?_
          refine z_iinc C (pc := 138) (y := w6 + (1 : Int32)) (lv' := [(6, .int (w6 + (1 : Int32))), (4, .int y15), (5, .int w5), (7, .int (1 : Int32)), (0, va_rf (some f0)), (1, .int f1), (2, .int f2), (3, .int f3)]) dX9_duty_138 7 rfl rfl (by decide) rfl ?_
          refine z_goto C (pc := 141) (tgt := 81) dX9_duty_141 (by decide) ?_
          refine z_sub [4, 5, 6, 7, 1, 2, 0] (lv' := [(0, va_rf (some f0)), (1, .int f1), (2, .int f2), (3, .int f3), (4, .int y15), (5, .int w5), (6, .int (w6 + (1 : Int32)))]) rfl ?_
          exact ih S12 y15 w5 (w6 + (1 : Int32)) h
        · refine z_iload C (pc := 114) dX9_duty_114 7 rfl ?_
          refine z_goto C (pc := 116) (tgt := 121) dX9_duty_116 (by decide) ?_
          refine z_istore C (pc := 121) (lv' := [(5, .int w6), (7, .int (1 : Int32)), (0, va_rf (some f0)), (1, .int f1), (2, .int f2), (3, .int f3), (4, .int w4), (6, .int w6)]) dX9_duty_121 (by decide) rfl ?_
          refine z_iload C (pc := 123) dX9_duty_123 6 rfl ?_
          refine z_iload C (pc := 125) dX9_duty_125 1 rfl ?_
          refine z_if_eq C (pc := 127) (tgt := 134) dX9_duty_127 (by decide) (ifF (c := (1 : Int32) = 0) (by decide) h) (fun h => h.elim) (fun h => ?_)
          refine z_iconst C (pc := 130) (x := (1 : Int32)) dX9_duty_130 kic_1 ?_
          refine z_goto C (pc := 131) (tgt := 135) dX9_duty_131 (by decide) ?_
          refine z_isub C (pc := 135) dX9_duty_135 ?_
          refine z_nI h (fun y16 h => ?_)
          refine z_istore C (pc := 136) (lv' := [(4, .int y16), (5, .int w6), (7, .int (1 : Int32)), (0, va_rf (some f0)), (1, .int f1), (2, .int f2), (3, .int f3), (6, .int w6)]) dX9_duty_136 (by decide) rfl ?_
          refine z_iinc C (pc := 138) (y := w6 + (1 : Int32)) (lv' := [(6, .int (w6 + (1 : Int32))), (4, .int y16), (5, .int w6), (7, .int (1 : Int32)), (0, va_rf (some f0)), (1, .int f1), (2, .int f2), (3, .int f3)]) dX9_duty_138 7 rfl rfl (by decide) rfl ?_
          refine z_goto C (pc := 141) (tgt := 81) dX9_duty_141 (by decide) ?_
          refine z_sub [4, 5, 6, 7, 1, 2, 0] (lv' := [(0, va_rf (some f0)), (1, .int f1), (2, .int f2), (3, .int f3), (4, .int y16), (5, .int w6), (6, .int (w6 + (1 : Int32)))]) rfl ?_
          exact ih S12 y16 w6 (w6 + (1 : Int32)) h
set_option maxHeartbeats 4000000 in
set_option maxRecDepth 100000 in
theorem l_X9_duty_L32 (l : Launch) (v : Ev) (f0 : Nat) (f1 : Int32) (f2 : Int32) (Q : Int32 → Hp → Prop) {EQ : String → Hp → Prop} {z : Z9} (C : Cx l v RX9 cX9_duty 8 (some .int) "duty" z) (N : NT z) (T : EE v rm_X9_duty (QI v Q) EQ z) : ∀ (n : Nat) (S : Hp) (w3 : Int32) (w4 : Int32), wp_X9_duty_L32 f0 f1 f2 Q n S w3 w4 → ZZ l v 8 rm_X9_duty z 0 0 S 32 [(0, va_rf (some f0)), (1, .int f1), (2, .int f2), (3, .int w3), (4, .int w4)] [] := by
  intro n
  induction n with
  | zero =>
    intro S w3 w4 h
    exact h.elim
  | succ n ih =>
    intro S w3 w4 h
    unfold wp_X9_duty_L32 at h
    refine z_iload C (pc := 32) dX9_duty_32 4 rfl ?_
    refine z_iconst C (pc := 34) (x := (4 : Int32)) dX9_duty_34 kic_4 ?_
    refine z_icmp_ge C (pc := 35) (tgt := 62) dX9_duty_35 (by decide) h (fun h => ?_) (fun h => ?_)
    · refine z_iload_n C (pc := 62) dX9_duty_62 3 rfl ?_
      refine z_if_ne C (pc := 63) (tgt := 70) dX9_duty_63 (by decide) h (fun h => ?_) (fun h => ?_)
      · refine z_iload_n C (pc := 70) dX9_duty_70 2 rfl ?_
        refine z_iload_n C (pc := 71) dX9_duty_71 3 rfl ?_
        obtain ⟨n9, h⟩ := h
        refine z_irem C (pc := 72) dX9_duty_72 n9 ?_
        refine z_nI h (fun y10 h => ?_)
        refine z_istore C (pc := 73) (lv' := [(4, .int y10), (0, va_rf (some f0)), (1, .int f1), (2, .int f2), (3, .int w3)]) dX9_duty_73 (by decide) rfl ?_
        refine z_iconst C (pc := 75) (x := (-1 : Int32)) dX9_duty_75 kic_m1 ?_
        refine z_istore C (pc := 76) (lv' := [(5, .int (-1 : Int32)), (4, .int y10), (0, va_rf (some f0)), (1, .int f1), (2, .int f2), (3, .int w3)]) dX9_duty_76 (by decide) rfl ?_
        refine z_iconst C (pc := 78) (x := (0 : Int32)) dX9_duty_78 kic_0 ?_
        refine z_istore C (pc := 79) (lv' := [(6, .int (0 : Int32)), (5, .int (-1 : Int32)), (4, .int y10), (0, va_rf (some f0)), (1, .int f1), (2, .int f2), (3, .int w3)]) dX9_duty_79 (by decide) rfl ?_
        obtain ⟨n17, h⟩ := h
        refine z_sub [3, 4, 5, 6, 2, 1, 0] (lv' := [(0, va_rf (some f0)), (1, .int f1), (2, .int f2), (3, .int w3), (4, .int y10), (5, .int (-1 : Int32)), (6, .int (0 : Int32))]) rfl ?_
        exact l_X9_duty_L81 l v f0 f1 f2 w3 Q C N T n17 S y10 (-1 : Int32) (0 : Int32) h
      · refine z_iconst C (pc := 66) (x := (0 : Int32)) dX9_duty_66 kic_0 ?_
        refine z_goto C (pc := 67) (tgt := 73) dX9_duty_67 (by decide) ?_
        refine z_istore C (pc := 73) (lv' := [(4, .int (0 : Int32)), (0, va_rf (some f0)), (1, .int f1), (2, .int f2), (3, .int w3)]) dX9_duty_73 (by decide) rfl ?_
        refine z_iconst C (pc := 75) (x := (-1 : Int32)) dX9_duty_75 kic_m1 ?_
        refine z_istore C (pc := 76) (lv' := [(5, .int (-1 : Int32)), (4, .int (0 : Int32)), (0, va_rf (some f0)), (1, .int f1), (2, .int f2), (3, .int w3)]) dX9_duty_76 (by decide) rfl ?_
        refine z_iconst C (pc := 78) (x := (0 : Int32)) dX9_duty_78 kic_0 ?_
        refine z_istore C (pc := 79) (lv' := [(6, .int (0 : Int32)), (5, .int (-1 : Int32)), (4, .int (0 : Int32)), (0, va_rf (some f0)), (1, .int f1), (2, .int f2), (3, .int w3)]) dX9_duty_79 (by decide) rfl ?_
        obtain ⟨n18, h⟩ := h
        refine z_sub [3, 4, 5, 6, 2, 1, 0] (lv' := [(0, va_rf (some f0)), (1, .int f1), (2, .int f2), (3, .int w3), (4, .int (0 : Int32)), (5, .int (-1 : Int32)), (6, .int (0 : Int32))]) rfl ?_
        exact l_X9_duty_L81 l v f0 f1 f2 w3 Q C N T n18 S (0 : Int32) (-1 : Int32) (0 : Int32) h
    · refine z_iload_n C (pc := 38) dX9_duty_38 3 rfl ?_
      refine z_aload_n C (pc := 39) dX9_duty_39 0 rfl ?_
      refine z_iload_n C (pc := 40) dX9_duty_40 1 rfl ?_
      refine z_iload C (pc := 41) dX9_duty_41 4 rfl ?_
      obtain ⟨o19, h⟩ := h
      refine z_Vi C (pc := 43) (KX := fun _ _ => False) (kc' := 0) (ks' := 0) (As := [.int f1, .int w4]) (rest := [.int w3]) rfl (c_X9_inPatrol l v S f0 f1 w4) mw_X9_inPatrol bw_1057 bw_1059 bw_p38 (fit_of rfl) rfl rfl (Nat.le_of_ble_eq_true rfl) (by decide) rfl o19 dX9_duty_43 h (fun r21 S20 h => ?_) (fun En S9 h => h.elim)
      refine z_if_le C (pc := 46) (tgt := 53) dX9_duty_46 (by decide) h (fun h => ?_) (fun h => ?_)
      · refine z_iconst C (pc := 53) (x := (0 : Int32)) dX9_duty_53 kic_0 ?_
        refine z_iadd C (pc := 54) dX9_duty_54 ?_
        refine z_nI h (fun y22 h => ?_)
        refine z_istore_n C (pc := 55) (lv' := [(3, .int y22), (0, va_rf (some f0)), (1, .int f1), (2, .int f2), (4, .int w4)]) dX9_duty_55 (by decide) rfl ?_
        refine z_iinc C (pc := 56) (y := w4 + (1 : Int32)) (lv' := [(4, .int (w4 + (1 : Int32))), (3, .int y22), (0, va_rf (some f0)), (1, .int f1), (2, .int f2)]) dX9_duty_56 4 rfl rfl (by decide) rfl ?_
        refine z_goto C (pc := 59) (tgt := 32) dX9_duty_59 (by decide) ?_
        refine z_sub [2, 3, 4, 1, 0] (lv' := [(0, va_rf (some f0)), (1, .int f1), (2, .int f2), (3, .int y22), (4, .int (w4 + (1 : Int32)))]) rfl ?_
        exact ih S20 y22 (w4 + (1 : Int32)) h
      · refine z_iconst C (pc := 49) (x := (1 : Int32)) dX9_duty_49 kic_1 ?_
        refine z_goto C (pc := 50) (tgt := 54) dX9_duty_50 (by decide) ?_
        refine z_iadd C (pc := 54) dX9_duty_54 ?_
        refine z_nI h (fun y23 h => ?_)
        refine z_istore_n C (pc := 55) (lv' := [(3, .int y23), (0, va_rf (some f0)), (1, .int f1), (2, .int f2), (4, .int w4)]) dX9_duty_55 (by decide) rfl ?_
        refine z_iinc C (pc := 56) (y := w4 + (1 : Int32)) (lv' := [(4, .int (w4 + (1 : Int32))), (3, .int y23), (0, va_rf (some f0)), (1, .int f1), (2, .int f2)]) dX9_duty_56 4 rfl rfl (by decide) rfl ?_
        refine z_goto C (pc := 59) (tgt := 32) dX9_duty_59 (by decide) ?_
        refine z_sub [2, 3, 4, 1, 0] (lv' := [(0, va_rf (some f0)), (1, .int f1), (2, .int f2), (3, .int y23), (4, .int (w4 + (1 : Int32)))]) rfl ?_
        exact ih S20 y23 (w4 + (1 : Int32)) h
set_option maxHeartbeats 4000000 in
set_option maxRecDepth 100000 in
theorem c_X9_duty (l : Launch) (v : Ev) (S : Hp) (x0 : Nat) (x1 : Int32) (x2 : Int32) : CI l v yX9_duty cX9_duty 8 (some .int) rm_X9_duty [va_rf (some x0), .int x1, .int x2] S (fun Q _ => wp_X9_duty S x0 x1 x2 Q) := by
  intro Q EQ h
  refine z_start [(0, va_rf (some x0)), (1, .int x1), (2, .int x2)] (by decide +kernel) (by simp only [la_i, la_r, la_n]) (cat_cr (cat_ci (cat_ci cat_nil))) (by simp only [ls_i, ls_r, ls_n]; decide) (fun z C N T => ?_)
  unfold wp_X9_duty at h
  refine z_aload_n C (pc := 0) dX9_duty_0 0 rfl ?_
  refine z_aload_n C (pc := 1) dX9_duty_1 0 rfl ?_
  refine z_iload_n C (pc := 2) dX9_duty_2 1 rfl ?_
  obtain ⟨o1, h⟩ := h
  refine z_Vi C (pc := 3) (KX := fun _ _ => False) (kc' := 0) (ks' := 0) (As := [.int x1]) (rest := [va_rf (some x0)]) rfl (c_X9_isTroop l v S x0 x1) mw_X9_isTroop bw_1037 bw_1039 bw_p33 (fit_of rfl) rfl rfl (Nat.le_of_ble_eq_true rfl) (by decide) rfl o1 dX9_duty_3 h (fun r3 S2 h => ?_) (fun En S9 h => h.elim)
  obtain ⟨o4, h⟩ := h
  refine z_Vi C (pc := 6) (KX := fun _ _ => False) (kc' := 0) (ks' := 0) (As := [.int r3]) (rest := []) rfl (c_X9_asks l v S2 x0 r3) mw_X9_asks bw_1017 bw_1019 bw_p30 (fit_of rfl) rfl rfl (Nat.le_of_ble_eq_true rfl) (by decide) rfl o4 dX9_duty_6 h (fun r6 S5 h => ?_) (fun En S9 h => h.elim)
  refine z_if_ne C (pc := 9) (tgt := 14) dX9_duty_9 (by decide) h (fun h => ?_) (fun h => ?_)
  · refine z_iload_n C (pc := 14) dX9_duty_14 2 rfl ?_
    refine z_Si C (pc := 15) (KX := fun _ _ => False) (kc' := 0) (ks' := 0) (As := [.int x2]) (rest := []) (c_X9_isDay l v S5 x2) mw_X9_isDay bw_1085 bw_1086 (fit_of rfl) rfl rfl (Nat.le_of_ble_eq_true rfl) dX9_duty_15 h (fun r8 S7 h => ?_) (fun En S9 h => h.elim)
    refine z_if_ne C (pc := 18) (tgt := 27) dX9_duty_18 (by decide) h (fun h => ?_) (fun h => ?_)
    · refine z_iconst C (pc := 27) (x := (0 : Int32)) dX9_duty_27 kic_0 ?_
      refine z_istore_n C (pc := 28) (lv' := [(3, .int (0 : Int32)), (0, va_rf (some x0)), (1, .int x1), (2, .int x2)]) dX9_duty_28 (by decide) rfl ?_
      refine z_iconst C (pc := 29) (x := (0 : Int32)) dX9_duty_29 kic_0 ?_
      refine z_istore C (pc := 30) (lv' := [(4, .int (0 : Int32)), (3, .int (0 : Int32)), (0, va_rf (some x0)), (1, .int x1), (2, .int x2)]) dX9_duty_30 (by decide) rfl ?_
      obtain ⟨n24, h⟩ := h
      refine z_sub [2, 3, 4, 1, 0] (lv' := [(0, va_rf (some x0)), (1, .int x1), (2, .int x2), (3, .int (0 : Int32)), (4, .int (0 : Int32))]) rfl ?_
      exact l_X9_duty_L32 l v x0 x1 x2 Q C N T n24 S7 (0 : Int32) (0 : Int32) h
    · refine z_aload_n C (pc := 21) dX9_duty_21 0 rfl ?_
      refine z_iconst C (pc := 22) (x := (2 : Int32)) dX9_duty_22 kic_2 ?_
      obtain ⟨o25, h⟩ := h
      refine z_Vi C (pc := 23) (KX := fun _ _ => False) (kc' := 0) (ks' := 0) (As := [.int (2 : Int32)]) (rest := []) rfl (c_X9_fails l v S7 x0 (2 : Int32)) mw_X9_fails bw_1021 bw_1023 bw_p31 (fit_of rfl) rfl rfl (Nat.le_of_ble_eq_true rfl) (by decide) rfl o25 dX9_duty_23 h (fun r27 S26 h => ?_) (fun En S9 h => h.elim)
      exact z_iret C (pc := 26) T dX9_duty_26 (by decide) (by decide) h
  · refine z_iconst C (pc := 12) (x := (0 : Int32)) dX9_duty_12 kic_0 ?_
    exact z_iret C (pc := 13) T dX9_duty_13 (by decide) (by decide) h
def wp_X9_pass (S : Hp) (x0 : Nat) (x1 : Int32) (Q : Int32 → Hp → Prop) : Prop :=
  wp_X9_in S x1 (1 : Int32) (400 : Int32) (fun r2 S1 => okA S1 9 x0 ∧ (wp_X9_asks S1 x0 r2 (fun r5 S4 => if r5 = 0 then (Q (0 : Int32) S4) else (okA S4 9 x0 ∧ (if ((g_I S4 900 x0) + x1) ≤ (9999 : Int32) then (lt (s_I S4 900 x0 ((g_I S4 900 x0) + x1)) (fun S7 => okA S7 9 x0 ∧ (Q (g_I S7 900 x0) S7))) else (wp_X9_fails S4 x0 (2 : Int32) (fun r10 S9 => Q r10 S9)))))))
def rm_X9_pass : Room := { frames := 1, cells := 0, slots := 0, locals := 22 }
set_option maxHeartbeats 4000000 in
set_option maxRecDepth 100000 in
theorem c_X9_pass (l : Launch) (v : Ev) (S : Hp) (x0 : Nat) (x1 : Int32) : CI l v yX9_pass cX9_pass 2 (some .int) rm_X9_pass [va_rf (some x0), .int x1] S (fun Q _ => wp_X9_pass S x0 x1 Q) := by
  intro Q EQ h
  refine z_start [(0, va_rf (some x0)), (1, .int x1)] (by decide +kernel) (by simp only [la_i, la_r, la_n]) (cat_cr (cat_ci cat_nil)) (by simp only [ls_i, ls_r, ls_n]; decide) (fun z C N T => ?_)
  unfold wp_X9_pass at h
  refine z_aload_n C (pc := 0) dX9_pass_0 0 rfl ?_
  refine z_iload_n C (pc := 1) dX9_pass_1 1 rfl ?_
  refine z_iconst C (pc := 2) (x := (1 : Int32)) dX9_pass_2 kic_1 ?_
  refine z_sipush C (pc := 3) (x := (400 : Int32)) dX9_pass_3 ksp_400 ?_
  refine z_Si C (pc := 6) (KX := fun _ _ => False) (kc' := 0) (ks' := 0) (As := [.int x1, .int (1 : Int32), .int (400 : Int32)]) (rest := [va_rf (some x0)]) (c_X9_in l v S x1 (1 : Int32) (400 : Int32)) mw_X9_in bw_1014 bw_1015 (fit_of rfl) rfl rfl (Nat.le_of_ble_eq_true rfl) dX9_pass_6 h (fun r2 S1 h => ?_) (fun En S9 h => h.elim)
  obtain ⟨o3, h⟩ := h
  refine z_Vi C (pc := 9) (KX := fun _ _ => False) (kc' := 0) (ks' := 0) (As := [.int r2]) (rest := []) rfl (c_X9_asks l v S1 x0 r2) mw_X9_asks bw_1017 bw_1019 bw_p30 (fit_of rfl) rfl rfl (Nat.le_of_ble_eq_true rfl) (by decide) rfl o3 dX9_pass_9 h (fun r5 S4 h => ?_) (fun En S9 h => h.elim)
  refine z_if_ne C (pc := 12) (tgt := 17) dX9_pass_12 (by decide) h (fun h => ?_) (fun h => ?_)
  · refine z_aload_n C (pc := 17) dX9_pass_17 0 rfl ?_
    obtain ⟨o6, h⟩ := h
    refine z_getI C (pc := 18) kf9 0 (by decide) rfl bw_908 (fun _ _ _ _ h => h) dX9_pass_18 rfl o6 ?_
    refine z_iload_n C (pc := 21) dX9_pass_21 1 rfl ?_
    refine z_iadd C (pc := 22) dX9_pass_22 ?_
    refine z_sipush C (pc := 23) (x := (9999 : Int32)) dX9_pass_23 ksp_9999 ?_
    refine z_icmp_le C (pc := 26) (tgt := 35) dX9_pass_26 (by decide) h (fun h => ?_) (fun h => ?_)
    · refine z_aload_n C (pc := 35) dX9_pass_35 0 rfl ?_
      refine z_dup C (pc := 36) dX9_pass_36 (cat_rf _) ?_
      refine z_getI C (pc := 37) kf9 0 (by decide) rfl bw_908 (fun _ _ _ _ h => h) dX9_pass_37 rfl o6 ?_
      refine z_iload_n C (pc := 40) dX9_pass_40 1 rfl ?_
      refine z_iadd C (pc := 41) dX9_pass_41 ?_
      refine z_putI C (pc := 42) kf9 0 (by decide) rfl rfl bw_908 (fun _ _ _ _ h => h) dX9_pass_42 rfl o6 ?_
      refine z_lt h (fun S7 h => ?_)
      refine z_aload_n C (pc := 45) dX9_pass_45 0 rfl ?_
      obtain ⟨o8, h⟩ := h
      refine z_getI C (pc := 46) kf9 0 (by decide) rfl bw_908 (fun _ _ _ _ h => h) dX9_pass_46 rfl o8 ?_
      exact z_iret C (pc := 49) T dX9_pass_49 (by decide) (by decide) h
    · refine z_aload_n C (pc := 29) dX9_pass_29 0 rfl ?_
      refine z_iconst C (pc := 30) (x := (2 : Int32)) dX9_pass_30 kic_2 ?_
      refine z_Vi C (pc := 31) (KX := fun _ _ => False) (kc' := 0) (ks' := 0) (As := [.int (2 : Int32)]) (rest := []) rfl (c_X9_fails l v S4 x0 (2 : Int32)) mw_X9_fails bw_1021 bw_1023 bw_p31 (fit_of rfl) rfl rfl (Nat.le_of_ble_eq_true rfl) (by decide) rfl o6 dX9_pass_31 h (fun r10 S9 h => ?_) (fun En S9 h => h.elim)
      exact z_iret C (pc := 34) T dX9_pass_34 (by decide) (by decide) h
  · refine z_iconst C (pc := 15) (x := (0 : Int32)) dX9_pass_15 kic_0 ?_
    exact z_iret C (pc := 16) T dX9_pass_16 (by decide) (by decide) h
def wp_X9_joinsLowest_L9 (f0 : Nat) (f1 : Int32) (Q : Hp → Prop) : Nat → Hp → Int32 → Int32 → Prop
  | 0, _, _, _ => False
  | n + 1, S, w2, w3 => if w3 < 0 then (if w2 = (-1 : Int32) then (Q S) else (okA S 9 f0 ∧ (wp_X9_joins S f0 f1 w2 (fun r5 S4 => Q S4)))) else (okA S 9 f0 ∧ (wp_X9_isFor S f0 w3 f1 (fun r8 S7 => if r8 = 0 then (wp_X9_joinsLowest_L9 f0 f1 Q n S7 w2 (w3 + (-1 : Int32))) else (wp_X9_joinsLowest_L9 f0 f1 Q n S7 w3 (w3 + (-1 : Int32))))))
def wp_X9_joinsLowest (S : Hp) (x0 : Nat) (x1 : Int32) (Q : Hp → Prop) : Prop :=
  okA S 9 x0 ∧ (lt ((g_I S 901 x0) - (1 : Int32)) (fun y2 => ∃ n9, wp_X9_joinsLowest_L9 x0 x1 Q n9 S (-1 : Int32) y2))
def rm_X9_joinsLowest : Room := { frames := 3, cells := 0, slots := 0, locals := 70 }
set_option maxHeartbeats 4000000 in
set_option maxRecDepth 100000 in
theorem l_X9_joinsLowest_L9 (l : Launch) (v : Ev) (f0 : Nat) (f1 : Int32) (Q : Hp → Prop) {EQ : String → Hp → Prop} {z : Z9} (C : Cx l v RX9 cX9_joinsLowest 4 none "joinsLowest" z) (N : NT z) (T : EE v rm_X9_joinsLowest (QV v Q) EQ z) : ∀ (n : Nat) (S : Hp) (w2 : Int32) (w3 : Int32), wp_X9_joinsLowest_L9 f0 f1 Q n S w2 w3 → ZZ l v 4 rm_X9_joinsLowest z 0 0 S 9 [(0, va_rf (some f0)), (1, .int f1), (2, .int w2), (3, .int w3)] [] := by
  intro n
  induction n with
  | zero =>
    intro S w2 w3 h
    exact h.elim
  | succ n ih =>
    intro S w2 w3 h
    unfold wp_X9_joinsLowest_L9 at h
    refine z_iload_n C (pc := 9) dX9_joinsLowest_9 3 rfl ?_
    refine z_if_lt C (pc := 10) (tgt := 34) dX9_joinsLowest_10 (by decide) h (fun h => ?_) (fun h => ?_)
    · refine z_iload_n C (pc := 34) dX9_joinsLowest_34 2 rfl ?_
      refine z_iconst C (pc := 35) (x := (-1 : Int32)) dX9_joinsLowest_35 kic_m1 ?_
      refine z_icmp_eq C (pc := 36) (tgt := 46) dX9_joinsLowest_36 (by decide) h (fun h => ?_) (fun h => ?_)
      · exact z_vret C (pc := 46) T dX9_joinsLowest_46 (by decide) (by decide) h
      · refine z_aload_n C (pc := 39) dX9_joinsLowest_39 0 rfl ?_
        refine z_iload_n C (pc := 40) dX9_joinsLowest_40 1 rfl ?_
        refine z_iload_n C (pc := 41) dX9_joinsLowest_41 2 rfl ?_
        obtain ⟨o3, h⟩ := h
        refine z_Vi C (pc := 42) (KX := fun _ _ => False) (kc' := 0) (ks' := 0) (As := [.int f1, .int w2]) (rest := []) rfl (c_X9_joins l v S f0 f1 w2) mw_X9_joins bw_1045 bw_1047 bw_p35 (fit_of rfl) rfl rfl (Nat.le_of_ble_eq_true rfl) (by decide) rfl o3 dX9_joinsLowest_42 h (fun r5 S4 h => ?_) (fun En S9 h => h.elim)
        refine z_pop C (pc := 45) dX9_joinsLowest_45 rfl ?_
        exact z_vret C (pc := 46) T dX9_joinsLowest_46 (by decide) (by decide) h
    · refine z_aload_n C (pc := 13) dX9_joinsLowest_13 0 rfl ?_
      refine z_iload_n C (pc := 14) dX9_joinsLowest_14 3 rfl ?_
      refine z_iload_n C (pc := 15) dX9_joinsLowest_15 1 rfl ?_
      obtain ⟨o6, h⟩ := h
      refine z_Vi C (pc := 16) (KX := fun _ _ => False) (kc' := 0) (ks' := 0) (As := [.int w3, .int f1]) (rest := []) rfl (c_X9_isFor l v S f0 w3 f1) mw_X9_isFor bw_1041 bw_1043 bw_p34 (fit_of rfl) rfl rfl (Nat.le_of_ble_eq_true rfl) (by decide) rfl o6 dX9_joinsLowest_16 h (fun r8 S7 h => ?_) (fun En S9 h => h.elim)
      refine z_if_eq C (pc := 19) (tgt := 26) dX9_joinsLowest_19 (by decide) h (fun h => ?_) (fun h => ?_)
      · refine z_iload_n C (pc := 26) dX9_joinsLowest_26 2 rfl ?_
        refine z_istore_n C (pc := 27) (lv' := [(2, .int w2), (0, va_rf (some f0)), (1, .int f1), (3, .int w3)]) dX9_joinsLowest_27 (by decide) rfl ?_
        refine z_iinc C (pc := 28) (y := w3 + (-1 : Int32)) (lv' := [(3, .int (w3 + (-1 : Int32))), (2, .int w2), (0, va_rf (some f0)), (1, .int f1)]) dX9_joinsLowest_28 3 rfl rfl (by decide) rfl ?_
        refine z_goto C (pc := 31) (tgt := 9) dX9_joinsLowest_31 (by decide) ?_
        refine z_sub [2, 3, 1, 0] (lv' := [(0, va_rf (some f0)), (1, .int f1), (2, .int w2), (3, .int (w3 + (-1 : Int32)))]) rfl ?_
        exact ih S7 w2 (w3 + (-1 : Int32)) h
      · refine z_iload_n C (pc := 22) dX9_joinsLowest_22 3 rfl ?_
        refine z_goto C (pc := 23) (tgt := 27) dX9_joinsLowest_23 (by decide) ?_
        refine z_istore_n C (pc := 27) (lv' := [(2, .int w3), (0, va_rf (some f0)), (1, .int f1), (3, .int w3)]) dX9_joinsLowest_27 (by decide) rfl ?_
        refine z_iinc C (pc := 28) (y := w3 + (-1 : Int32)) (lv' := [(3, .int (w3 + (-1 : Int32))), (2, .int w3), (0, va_rf (some f0)), (1, .int f1)]) dX9_joinsLowest_28 3 rfl rfl (by decide) rfl ?_
        refine z_goto C (pc := 31) (tgt := 9) dX9_joinsLowest_31 (by decide) ?_
        refine z_sub [2, 3, 1, 0] (lv' := [(0, va_rf (some f0)), (1, .int f1), (2, .int w3), (3, .int (w3 + (-1 : Int32)))]) rfl ?_
        exact ih S7 w3 (w3 + (-1 : Int32)) h
set_option maxHeartbeats 4000000 in
set_option maxRecDepth 100000 in
theorem c_X9_joinsLowest (l : Launch) (v : Ev) (S : Hp) (x0 : Nat) (x1 : Int32) : CV l v yX9_joinsLowest cX9_joinsLowest 4 none rm_X9_joinsLowest [va_rf (some x0), .int x1] S (fun Q _ => wp_X9_joinsLowest S x0 x1 Q) := by
  intro Q EQ h
  refine z_start [(0, va_rf (some x0)), (1, .int x1)] (by decide +kernel) (by simp only [la_i, la_r, la_n]) (cat_cr (cat_ci cat_nil)) (by simp only [ls_i, ls_r, ls_n]; decide) (fun z C N T => ?_)
  unfold wp_X9_joinsLowest at h
  refine z_iconst C (pc := 0) (x := (-1 : Int32)) dX9_joinsLowest_0 kic_m1 ?_
  refine z_istore_n C (pc := 1) (lv' := [(2, .int (-1 : Int32)), (0, va_rf (some x0)), (1, .int x1)]) dX9_joinsLowest_1 (by decide) rfl ?_
  refine z_aload_n C (pc := 2) dX9_joinsLowest_2 1 rfl ?_
  obtain ⟨o1, h⟩ := h
  refine z_getI C (pc := 3) kf9 1 (by decide) rfl bw_909 (fun _ _ _ _ h => h) dX9_joinsLowest_3 rfl o1 ?_
  refine z_iconst C (pc := 6) (x := (1 : Int32)) dX9_joinsLowest_6 kic_1 ?_
  refine z_isub C (pc := 7) dX9_joinsLowest_7 ?_
  refine z_nI h (fun y2 h => ?_)
  refine z_istore_n C (pc := 8) (lv' := [(3, .int y2), (2, .int (-1 : Int32)), (0, va_rf (some x0)), (1, .int x1)]) dX9_joinsLowest_8 (by decide) rfl ?_
  obtain ⟨n9, h⟩ := h
  refine z_sub [2, 3, 1, 0] (lv' := [(0, va_rf (some x0)), (1, .int x1), (2, .int (-1 : Int32)), (3, .int y2)]) rfl ?_
  exact l_X9_joinsLowest_L9 l v x0 x1 Q C N T n9 S (-1 : Int32) y2 h
def wp_X9_season_L170 (f0 : Nat) (f1 : Int32) (Q : Int32 → Hp → Prop) : Nat → Hp → Int32 → Prop
  | 0, _, _ => False
  | n + 1, S, w2 => okA S 9 f0 ∧ (if (g_I S 905 f0) ≤ w2 then (Q f1 S) else (rd S 12 (g_P S 915 f0) (fun a6 => vp_in w2 (g_N S a6) ∧ (if (g_R S a6 w2.toNatClampNeg) = 0 then (wp_X9_season_L170 f0 f1 Q n S (w2 + (1 : Int32))) else (wp_X9_joinsLowest S f0 w2 (fun S10 => wp_X9_season_L170 f0 f1 Q n S10 (w2 + (1 : Int32))))))))
def wp_X9_season_L126 (f0 : Nat) (f1 : Int32) (f2 : Int32) (K118 : Hp → Int32 → Prop) (Q : Int32 → Hp → Prop) : Nat → Hp → Prop
  | 0, _ => False
  | n + 1, S => okA S 9 f0 ∧ (wp_X9_inTroop S f0 f2 (fun r14 S13 => okA S13 9 f0 ∧ (rd S13 11 (g_P S13 904 f0) (fun a16 => vp_in f2 (g_N S13 a16) ∧ (if (g_R S13 a16 f2.toNatClampNeg) ≤ r14 then (K118 S13 (f2 + (1 : Int32))) else (wp_X9_firstWaiting S13 f0 f2 (fun r21 S20 => if r21 = (-1 : Int32) then (K118 S20 (f2 + (1 : Int32))) else (okA S20 9 f0 ∧ (wp_X9_firstWaiting S20 f0 f2 (fun r24 S23 => okA S23 9 f0 ∧ (wp_X9_comesIn S23 f0 r24 f2 (fun S26 => wp_X9_season_L126 f0 f1 f2 K118 Q n S26))))))))))))
def wp_X9_season_L118 (f0 : Nat) (f1 : Int32) (Q : Int32 → Hp → Prop) : Nat → Hp → Int32 → Prop
  | 0, _, _ => False
  | n + 1, S, w2 => okA S 9 f0 ∧ (if (g_I S 901 f0) ≤ w2 then (∃ n11, wp_X9_season_L170 f0 f1 Q n11 S (0 : Int32)) else (∃ n27, wp_X9_season_L126 f0 f1 w2 (wp_X9_season_L118 f0 f1 Q n) Q n27 S))
def wp_X9_season_L9 (f0 : Nat) (Q : Int32 → Hp → Prop) : Nat → Hp → Int32 → Int32 → Prop
  | 0, _, _, _ => False
  | n + 1, S, w1, w2 => okA S 9 f0 ∧ (if (g_I S 905 f0) ≤ w2 then (∃ n28, wp_X9_season_L118 f0 w1 Q n28 S (0 : Int32)) else (rd S 11 (g_P S 906 f0) (fun a29 => vp_in w2 (g_N S a29) ∧ (rd S 11 (g_P S 906 f0) (fun a33 => vp_in w2 (g_N S a33) ∧ (lt (s_R S a33 w2.toNatClampNeg ((g_R S a29 w2.toNatClampNeg) + (1 : Int32))) (fun S37 => okA S37 9 f0 ∧ (rd S37 11 (g_P S37 907 f0) (fun a39 => vp_in w2 (g_N S37 a39) ∧ (if (g_R S37 a39 w2.toNatClampNeg) = (-1 : Int32) then (rd S37 12 (g_P S37 915 f0) (fun a43 => vp_in w2 (g_N S37 a43) ∧ (lt (s_R S37 a43 w2.toNatClampNeg (vp_nar .boolean (0 : Int32))) (fun S47 => okA S47 9 f0 ∧ (rd S47 12 (g_P S47 915 f0) (fun a49 => vp_in w2 (g_N S47 a49) ∧ (if (g_R S47 a49 w2.toNatClampNeg) = 0 then (rd S47 11 (g_P S47 908 f0) (fun a53 => vp_in w2 (g_N S47 a53) ∧ (if (g_R S47 a53 w2.toNatClampNeg) = (-1 : Int32) then (wp_X9_season_L9 f0 Q n S47 w1 (w2 + (1 : Int32))) else (rd S47 11 (g_P S47 908 f0) (fun a57 => vp_in w2 (g_N S47 a57) ∧ (wp_X9_isFor S47 f0 (g_R S47 a57 w2.toNatClampNeg) w2 (fun r62 S61 => if r62 = 0 then (okA S61 9 f0 ∧ (rd S61 11 (g_P S61 908 f0) (fun a64 => vp_in w2 (g_N S61 a64) ∧ (lt (s_R S61 a64 w2.toNatClampNeg (-1 : Int32)) (fun S68 => wp_X9_season_L9 f0 Q n S68 w1 (w2 + (1 : Int32))))))) else (wp_X9_season_L9 f0 Q n S61 w1 (w2 + (1 : Int32)))))))))) else (wp_X9_goesOut S47 f0 w2 (fun S69 => okA S69 9 f0 ∧ (rd S69 11 (g_P S69 908 f0) (fun a71 => vp_in w2 (g_N S69 a71) ∧ (if (g_R S69 a71 w2.toNatClampNeg) = (-1 : Int32) then (wp_X9_season_L9 f0 Q n S69 (w1 + (1 : Int32)) (w2 + (1 : Int32))) else (rd S69 11 (g_P S69 908 f0) (fun a75 => vp_in w2 (g_N S69 a75) ∧ (wp_X9_isFor S69 f0 (g_R S69 a75 w2.toNatClampNeg) w2 (fun r80 S79 => if r80 = 0 then (okA S79 9 f0 ∧ (rd S79 11 (g_P S79 908 f0) (fun a82 => vp_in w2 (g_N S79 a82) ∧ (lt (s_R S79 a82 w2.toNatClampNeg (-1 : Int32)) (fun S86 => wp_X9_season_L9 f0 Q n S86 (w1 + (1 : Int32)) (w2 + (1 : Int32))))))) else (wp_X9_season_L9 f0 Q n S79 (w1 + (1 : Int32)) (w2 + (1 : Int32))))))))))))))))))) else (rd S37 11 (g_P S37 907 f0) (fun a87 => vp_in w2 (g_N S37 a87) ∧ (wp_X9_isFor S37 f0 (g_R S37 a87 w2.toNatClampNeg) w2 (fun r92 S91 => if r92 = 0 then (rd S91 12 (g_P S37 915 f0) (fun a137 => vp_in w2 (g_N S91 a137) ∧ (lt (s_R S91 a137 w2.toNatClampNeg (vp_nar .boolean (1 : Int32))) (fun S141 => okA S141 9 f0 ∧ (rd S141 12 (g_P S141 915 f0) (fun a143 => vp_in w2 (g_N S141 a143) ∧ (if (g_R S141 a143 w2.toNatClampNeg) = 0 then (rd S141 11 (g_P S141 908 f0) (fun a147 => vp_in w2 (g_N S141 a147) ∧ (if (g_R S141 a147 w2.toNatClampNeg) = (-1 : Int32) then (wp_X9_season_L9 f0 Q n S141 w1 (w2 + (1 : Int32))) else (rd S141 11 (g_P S141 908 f0) (fun a151 => vp_in w2 (g_N S141 a151) ∧ (wp_X9_isFor S141 f0 (g_R S141 a151 w2.toNatClampNeg) w2 (fun r156 S155 => if r156 = 0 then (okA S155 9 f0 ∧ (rd S155 11 (g_P S155 908 f0) (fun a158 => vp_in w2 (g_N S155 a158) ∧ (lt (s_R S155 a158 w2.toNatClampNeg (-1 : Int32)) (fun S162 => wp_X9_season_L9 f0 Q n S162 w1 (w2 + (1 : Int32))))))) else (wp_X9_season_L9 f0 Q n S155 w1 (w2 + (1 : Int32)))))))))) else (wp_X9_goesOut S141 f0 w2 (fun S163 => okA S163 9 f0 ∧ (rd S163 11 (g_P S163 908 f0) (fun a165 => vp_in w2 (g_N S163 a165) ∧ (if (g_R S163 a165 w2.toNatClampNeg) = (-1 : Int32) then (wp_X9_season_L9 f0 Q n S163 (w1 + (1 : Int32)) (w2 + (1 : Int32))) else (rd S163 11 (g_P S163 908 f0) (fun a169 => vp_in w2 (g_N S163 a169) ∧ (wp_X9_isFor S163 f0 (g_R S163 a169 w2.toNatClampNeg) w2 (fun r174 S173 => if r174 = 0 then (okA S173 9 f0 ∧ (rd S173 11 (g_P S173 908 f0) (fun a176 => vp_in w2 (g_N S173 a176) ∧ (lt (s_R S173 a176 w2.toNatClampNeg (-1 : Int32)) (fun S180 => wp_X9_season_L9 f0 Q n S180 (w1 + (1 : Int32)) (w2 + (1 : Int32))))))) else (wp_X9_season_L9 f0 Q n S173 (w1 + (1 : Int32)) (w2 + (1 : Int32))))))))))))))))))) else (rd S91 12 (g_P S37 915 f0) (fun a93 => vp_in w2 (g_N S91 a93) ∧ (lt (s_R S91 a93 w2.toNatClampNeg (vp_nar .boolean (0 : Int32))) (fun S97 => okA S97 9 f0 ∧ (rd S97 12 (g_P S97 915 f0) (fun a99 => vp_in w2 (g_N S97 a99) ∧ (if (g_R S97 a99 w2.toNatClampNeg) = 0 then (rd S97 11 (g_P S97 908 f0) (fun a103 => vp_in w2 (g_N S97 a103) ∧ (if (g_R S97 a103 w2.toNatClampNeg) = (-1 : Int32) then (wp_X9_season_L9 f0 Q n S97 w1 (w2 + (1 : Int32))) else (rd S97 11 (g_P S97 908 f0) (fun a107 => vp_in w2 (g_N S97 a107) ∧ (wp_X9_isFor S97 f0 (g_R S97 a107 w2.toNatClampNeg) w2 (fun r112 S111 => if r112 = 0 then (okA S111 9 f0 ∧ (rd S111 11 (g_P S111 908 f0) (fun a114 => vp_in w2 (g_N S111 a114) ∧ (lt (s_R S111 a114 w2.toNatClampNeg (-1 : Int32)) (fun S118 => wp_X9_season_L9 f0 Q n S118 w1 (w2 + (1 : Int32))))))) else (wp_X9_season_L9 f0 Q n S111 w1 (w2 + (1 : Int32)))))))))) else (wp_X9_goesOut S97 f0 w2 (fun S119 => okA S119 9 f0 ∧ (rd S119 11 (g_P S119 908 f0) (fun a121 => vp_in w2 (g_N S119 a121) ∧ (if (g_R S119 a121 w2.toNatClampNeg) = (-1 : Int32) then (wp_X9_season_L9 f0 Q n S119 (w1 + (1 : Int32)) (w2 + (1 : Int32))) else (rd S119 11 (g_P S119 908 f0) (fun a125 => vp_in w2 (g_N S119 a125) ∧ (wp_X9_isFor S119 f0 (g_R S119 a125 w2.toNatClampNeg) w2 (fun r130 S129 => if r130 = 0 then (okA S129 9 f0 ∧ (rd S129 11 (g_P S129 908 f0) (fun a132 => vp_in w2 (g_N S129 a132) ∧ (lt (s_R S129 a132 w2.toNatClampNeg (-1 : Int32)) (fun S136 => wp_X9_season_L9 f0 Q n S136 (w1 + (1 : Int32)) (w2 + (1 : Int32))))))) else (wp_X9_season_L9 f0 Q n S129 (w1 + (1 : Int32)) (w2 + (1 : Int32)))))))))))))))))))))))))))))))))
def wp_X9_season (S : Hp) (x0 : Nat) (Q : Int32 → Hp → Prop) : Prop :=
  okA S 9 x0 ∧ (lt (s_I S 931 x0 (0 : Int32)) (fun S2 => ∃ n181, wp_X9_season_L9 x0 Q n181 S2 (0 : Int32) (0 : Int32)))
def rm_X9_season : Room := { frames := 4, cells := 0, slots := 0, locals := 93 }
set_option maxHeartbeats 4000000 in
set_option maxRecDepth 100000 in
theorem l_X9_season_L170 (l : Launch) (v : Ev) (f0 : Nat) (f1 : Int32) (Q : Int32 → Hp → Prop) {EQ : String → Hp → Prop} {z : Z9} (C : Cx l v RX9 cX9_season 3 (some .int) "season" z) (N : NT z) (T : EE v rm_X9_season (QI v Q) EQ z) : ∀ (n : Nat) (S : Hp) (w2 : Int32), wp_X9_season_L170 f0 f1 Q n S w2 → ZZ l v 3 rm_X9_season z 0 0 S 170 [(0, va_rf (some f0)), (1, .int f1), (2, .int w2)] [] := by
  intro n
  induction n with
  | zero =>
    intro S w2 h
    exact h.elim
  | succ n ih =>
    intro S w2 h
    unfold wp_X9_season_L170 at h
    refine z_iload_n C (pc := 170) dX9_season_170 2 rfl ?_
    refine z_aload_n C (pc := 171) dX9_season_171 0 rfl ?_
    obtain ⟨o5, h⟩ := h
    refine z_getI C (pc := 172) kf9 5 (by decide) rfl bw_913 (fun _ _ _ _ h => h) dX9_season_172 rfl o5 ?_
    refine z_icmp_ge C (pc := 175) (tgt := 198) dX9_season_175 (by decide) h (fun h => ?_) (fun h => ?_)
    · refine z_iload_n C (pc := 198) dX9_season_198 1 rfl ?_
      exact z_iret C (pc := 199) T dX9_season_199 (by decide) (by decide) h
    · refine z_aload_n C (pc := 178) dX9_season_178 0 rfl ?_
      refine z_getP C (pc := 179) kf9 15 (by decide) rfl bw_923 (fun _ _ _ _ h => h) dX9_season_179 rfl o5 ?_
      refine z_iload_n C (pc := 182) dX9_season_182 2 rfl ?_
      obtain ⟨a6, e7, o8, h⟩ := h
      obtain ⟨v9, h⟩ := h
      refine z_bald C (pc := 183) dX9_season_183 e7 o8 v9 ?_
      refine z_if_eq C (pc := 184) (tgt := 192) dX9_season_184 (by decide) h (fun h => ?_) (fun h => ?_)
      · refine z_iinc C (pc := 192) (y := w2 + (1 : Int32)) (lv' := [(2, .int (w2 + (1 : Int32))), (0, va_rf (some f0)), (1, .int f1)]) dX9_season_192 2 rfl rfl (by decide) rfl ?_
        refine z_goto C (pc := 195) (tgt := 170) dX9_season_195 (by decide) ?_
        refine z_sub [1, 2, 0] (lv' := [(0, va_rf (some f0)), (1, .int f1), (2, .int (w2 + (1 : Int32)))]) rfl ?_
        exact ih S (w2 + (1 : Int32)) h
      · refine z_aload_n C (pc := 187) dX9_season_187 0 rfl ?_
        refine z_iload_n C (pc := 188) dX9_season_188 2 rfl ?_
        refine z_Vv C (pc := 189) (KX := fun _ _ => False) (kc' := 0) (ks' := 0) (As := [.int w2]) (rest := []) rfl (c_X9_joinsLowest l v S f0 w2) mw_X9_joinsLowest bw_1096 bw_1098 bw_p42 (fit_of rfl) rfl rfl (Nat.le_of_ble_eq_true rfl) (by decide) rfl o5 dX9_season_189 h (fun S10 h => ?_) (fun En S9 h => h.elim)
        refine z_iinc C (pc := 192) (y := w2 + (1 : Int32)) (lv' := [(2, .int (w2 + (1 : Int32))), (0, va_rf (some f0)), (1, .int f1)]) dX9_season_192 2 rfl rfl (by decide) rfl ?_
        refine z_goto C (pc := 195) (tgt := 170) dX9_season_195 (by decide) ?_
        refine z_sub [1, 2, 0] (lv' := [(0, va_rf (some f0)), (1, .int f1), (2, .int (w2 + (1 : Int32)))]) rfl ?_
        exact ih S10 (w2 + (1 : Int32)) h
set_option maxHeartbeats 4000000 in
set_option maxRecDepth 100000 in
theorem l_X9_season_L126 (l : Launch) (v : Ev) (f0 : Nat) (f1 : Int32) (f2 : Int32) (K118 : Hp → Int32 → Prop) (Q : Int32 → Hp → Prop) {EQ : String → Hp → Prop} {z : Z9} (C : Cx l v RX9 cX9_season 3 (some .int) "season" z) (N : NT z) (T : EE v rm_X9_season (QI v Q) EQ z) (hK118 : ∀ (S : Hp) (u2 : Int32), K118 S u2 → ZZ l v 3 rm_X9_season z 0 0 S 118 [(0, va_rf (some f0)), (1, .int f1), (2, .int u2)] []) : ∀ (n : Nat) (S : Hp), wp_X9_season_L126 f0 f1 f2 K118 Q n S → ZZ l v 3 rm_X9_season z 0 0 S 126 [(0, va_rf (some f0)), (1, .int f1), (2, .int f2)] [] := by
  intro n
  induction n with
  | zero =>
    intro S h
    exact h.elim
  | succ n ih =>
    intro S h
    unfold wp_X9_season_L126 at h
    refine z_aload_n C (pc := 126) dX9_season_126 0 rfl ?_
    refine z_iload_n C (pc := 127) dX9_season_127 2 rfl ?_
    obtain ⟨o12, h⟩ := h
    refine z_Vi C (pc := 128) (KX := fun _ _ => False) (kc' := 0) (ks' := 0) (As := [.int f2]) (rest := []) rfl (c_X9_inTroop l v S f0 f2) mw_X9_inTroop bw_1049 bw_1051 bw_p36 (fit_of rfl) rfl rfl (Nat.le_of_ble_eq_true rfl) (by decide) rfl o12 dX9_season_128 h (fun r14 S13 h => ?_) (fun En S9 h => h.elim)
    refine z_aload_n C (pc := 131) dX9_season_131 0 rfl ?_
    obtain ⟨o15, h⟩ := h
    refine z_getP C (pc := 132) kf9 4 (by decide) rfl bw_912 (fun _ _ _ _ h => h) dX9_season_132 rfl o15 ?_
    refine z_iload_n C (pc := 135) dX9_season_135 2 rfl ?_
    obtain ⟨a16, e17, o18, h⟩ := h
    obtain ⟨v19, h⟩ := h
    refine z_iald C (pc := 136) dX9_season_136 e17 o18 v19 ?_
    refine z_icmp_ge C (pc := 137) (tgt := 162) dX9_season_137 (by decide) h (fun h => ?_) (fun h => ?_)
    · refine z_iinc C (pc := 162) (y := f2 + (1 : Int32)) (lv' := [(2, .int (f2 + (1 : Int32))), (0, va_rf (some f0)), (1, .int f1)]) dX9_season_162 2 rfl rfl (by decide) rfl ?_
      refine z_goto C (pc := 165) (tgt := 118) dX9_season_165 (by decide) ?_
      refine z_sub [1, 2, 0] (lv' := [(0, va_rf (some f0)), (1, .int f1), (2, .int (f2 + (1 : Int32)))]) rfl ?_
      exact hK118 S13 (f2 + (1 : Int32)) h
    · refine z_aload_n C (pc := 140) dX9_season_140 0 rfl ?_
      refine z_iload_n C (pc := 141) dX9_season_141 2 rfl ?_
      refine z_Vi C (pc := 142) (KX := fun _ _ => False) (kc' := 0) (ks' := 0) (As := [.int f2]) (rest := []) rfl (c_X9_firstWaiting l v S13 f0 f2) mw_X9_firstWaiting bw_1073 bw_1075 bw_p41 (fit_of rfl) rfl rfl (Nat.le_of_ble_eq_true rfl) (by decide) rfl o15 dX9_season_142 h (fun r21 S20 h => ?_) (fun En S9 h => h.elim)
      refine z_iconst C (pc := 145) (x := (-1 : Int32)) dX9_season_145 kic_m1 ?_
      refine z_icmp_eq C (pc := 146) (tgt := 162) dX9_season_146 (by decide) h (fun h => ?_) (fun h => ?_)
      · refine z_iinc C (pc := 162) (y := f2 + (1 : Int32)) (lv' := [(2, .int (f2 + (1 : Int32))), (0, va_rf (some f0)), (1, .int f1)]) dX9_season_162 2 rfl rfl (by decide) rfl ?_
        refine z_goto C (pc := 165) (tgt := 118) dX9_season_165 (by decide) ?_
        refine z_sub [1, 2, 0] (lv' := [(0, va_rf (some f0)), (1, .int f1), (2, .int (f2 + (1 : Int32)))]) rfl ?_
        exact hK118 S20 (f2 + (1 : Int32)) h
      · refine z_aload_n C (pc := 149) dX9_season_149 0 rfl ?_
        refine z_aload_n C (pc := 150) dX9_season_150 0 rfl ?_
        refine z_iload_n C (pc := 151) dX9_season_151 2 rfl ?_
        obtain ⟨o22, h⟩ := h
        refine z_Vi C (pc := 152) (KX := fun _ _ => False) (kc' := 0) (ks' := 0) (As := [.int f2]) (rest := [va_rf (some f0)]) rfl (c_X9_firstWaiting l v S20 f0 f2) mw_X9_firstWaiting bw_1073 bw_1075 bw_p41 (fit_of rfl) rfl rfl (Nat.le_of_ble_eq_true rfl) (by decide) rfl o22 dX9_season_152 h (fun r24 S23 h => ?_) (fun En S9 h => h.elim)
        refine z_iload_n C (pc := 155) dX9_season_155 2 rfl ?_
        obtain ⟨o25, h⟩ := h
        refine z_Vv C (pc := 156) (KX := fun _ _ => False) (kc' := 0) (ks' := 0) (As := [.int r24, .int f2]) (rest := []) rfl (c_X9_comesIn l v S23 f0 r24 f2) mw_X9_comesIn bw_1053 bw_1055 bw_p37 (fit_of rfl) rfl rfl (Nat.le_of_ble_eq_true rfl) (by decide) rfl o25 dX9_season_156 h (fun S26 h => ?_) (fun En S9 h => h.elim)
        refine z_goto C (pc := 159) (tgt := 126) dX9_season_159 (by decide) ?_
        refine z_sub [0, 1, 2] (lv' := [(0, va_rf (some f0)), (1, .int f1), (2, .int f2)]) rfl ?_
        exact ih S26 h
set_option maxHeartbeats 4000000 in
set_option maxRecDepth 100000 in
theorem l_X9_season_L118 (l : Launch) (v : Ev) (f0 : Nat) (f1 : Int32) (Q : Int32 → Hp → Prop) {EQ : String → Hp → Prop} {z : Z9} (C : Cx l v RX9 cX9_season 3 (some .int) "season" z) (N : NT z) (T : EE v rm_X9_season (QI v Q) EQ z) : ∀ (n : Nat) (S : Hp) (w2 : Int32), wp_X9_season_L118 f0 f1 Q n S w2 → ZZ l v 3 rm_X9_season z 0 0 S 118 [(0, va_rf (some f0)), (1, .int f1), (2, .int w2)] [] := by
  intro n
  induction n with
  | zero =>
    intro S w2 h
    exact h.elim
  | succ n ih =>
    intro S w2 h
    unfold wp_X9_season_L118 at h
    refine z_iload_n C (pc := 118) dX9_season_118 2 rfl ?_
    refine z_aload_n C (pc := 119) dX9_season_119 0 rfl ?_
    obtain ⟨o4, h⟩ := h
    refine z_getI C (pc := 120) kf9 1 (by decide) rfl bw_909 (fun _ _ _ _ h => h) dX9_season_120 rfl o4 ?_
    refine z_icmp_ge C (pc := 123) (tgt := 168) dX9_season_123 (by decide) h (fun h => ?_) (fun h => ?_)
    · refine z_iconst C (pc := 168) (x := (0 : Int32)) dX9_season_168 kic_0 ?_
      refine z_istore_n C (pc := 169) (lv' := [(2, .int (0 : Int32)), (0, va_rf (some f0)), (1, .int f1)]) dX9_season_169 (by decide) rfl ?_
      obtain ⟨n11, h⟩ := h
      refine z_sub [1, 2, 0] (lv' := [(0, va_rf (some f0)), (1, .int f1), (2, .int (0 : Int32))]) rfl ?_
      exact l_X9_season_L170 l v f0 f1 Q C N T n11 S (0 : Int32) h
    · obtain ⟨n27, h⟩ := h
      refine z_sub [0, 1, 2] (lv' := [(0, va_rf (some f0)), (1, .int f1), (2, .int w2)]) rfl ?_
      exact l_X9_season_L126 l v f0 f1 w2 (wp_X9_season_L118 f0 f1 Q n) Q C N T ih n27 S h
set_option maxHeartbeats 4000000 in
set_option maxRecDepth 100000 in
theorem l_X9_season_L9 (l : Launch) (v : Ev) (f0 : Nat) (Q : Int32 → Hp → Prop) {EQ : String → Hp → Prop} {z : Z9} (C : Cx l v RX9 cX9_season 3 (some .int) "season" z) (N : NT z) (T : EE v rm_X9_season (QI v Q) EQ z) : ∀ (n : Nat) (S : Hp) (w1 : Int32) (w2 : Int32), wp_X9_season_L9 f0 Q n S w1 w2 → ZZ l v 3 rm_X9_season z 0 0 S 9 [(0, va_rf (some f0)), (1, .int w1), (2, .int w2)] [] := by
  intro n
  induction n with
  | zero =>
    intro S w1 w2 h
    exact h.elim
  | succ n ih =>
    intro S w1 w2 h
    unfold wp_X9_season_L9 at h
    refine z_iload_n C (pc := 9) dX9_season_9 2 rfl ?_
    refine z_aload_n C (pc := 10) dX9_season_10 0 rfl ?_
    obtain ⟨o3, h⟩ := h
    refine z_getI C (pc := 11) kf9 5 (by decide) rfl bw_913 (fun _ _ _ _ h => h) dX9_season_11 rfl o3 ?_
    refine z_icmp_ge C (pc := 14) (tgt := 116) dX9_season_14 (by decide) h (fun h => ?_) (fun h => ?_)
    · refine z_iconst C (pc := 116) (x := (0 : Int32)) dX9_season_116 kic_0 ?_
      refine z_istore_n C (pc := 117) (lv' := [(2, .int (0 : Int32)), (0, va_rf (some f0)), (1, .int w1)]) dX9_season_117 (by decide) rfl ?_
      obtain ⟨n28, h⟩ := h
      refine z_sub [1, 2, 0] (lv' := [(0, va_rf (some f0)), (1, .int w1), (2, .int (0 : Int32))]) rfl ?_
      exact l_X9_season_L118 l v f0 w1 Q C N T n28 S (0 : Int32) h
    · refine z_aload_n C (pc := 17) dX9_season_17 0 rfl ?_
      refine z_getP C (pc := 18) kf9 6 (by decide) rfl bw_914 (fun _ _ _ _ h => h) dX9_season_18 rfl o3 ?_
      refine z_iload_n C (pc := 21) dX9_season_21 2 rfl ?_
      refine z_dup2 C (pc := 22) dX9_season_22 rfl (cat_rf _) ?_
      obtain ⟨a29, e30, o31, h⟩ := h
      obtain ⟨v32, h⟩ := h
      refine z_iald C (pc := 23) dX9_season_23 e30 o31 v32 ?_
      refine z_iconst C (pc := 24) (x := (1 : Int32)) dX9_season_24 kic_1 ?_
      refine z_iadd C (pc := 25) dX9_season_25 ?_
      obtain ⟨a33, e34, o35, h⟩ := h
      obtain ⟨v36, h⟩ := h
      refine z_iast C (pc := 26) dX9_season_26 e34 o35 v36 ?_
      refine z_lt h (fun S37 h => ?_)
      refine z_aload_n C (pc := 27) dX9_season_27 0 rfl ?_
      obtain ⟨o38, h⟩ := h
      refine z_getP C (pc := 28) kf9 15 (by decide) rfl bw_923 (fun _ _ _ _ h => h) dX9_season_28 rfl o38 ?_
      refine z_iload_n C (pc := 31) dX9_season_31 2 rfl ?_
      refine z_aload_n C (pc := 32) dX9_season_32 0 rfl ?_
      refine z_getP C (pc := 33) kf9 7 (by decide) rfl bw_915 (fun _ _ _ _ h => h) dX9_season_33 rfl o38 ?_
      refine z_iload_n C (pc := 36) dX9_season_36 2 rfl ?_
      obtain ⟨a39, e40, o41, h⟩ := h
      obtain ⟨v42, h⟩ := h
      refine z_iald C (pc := 37) dX9_season_37 e40 o41 v42 ?_
      refine z_iconst C (pc := 38) (x := (-1 : Int32)) dX9_season_38 kic_m1 ?_
      refine z_icmp_eq C (pc := 39) (tgt := 60) dX9_season_39 (by decide) h (fun h => ?_) (fun h => ?_)
      · refine z_iconst C (pc := 60) (x := (0 : Int32)) dX9_season_60 kic_0 ?_
        obtain ⟨a43, e44, o45, h⟩ := h
        obtain ⟨v46, h⟩ := h
        refine z_bast C (pc := 61) dX9_season_61 e44 o45 v46 ?_
        refine z_lt h (fun S47 h => ?_)
        refine z_aload_n C (pc := 62) dX9_season_62 0 rfl ?_
        obtain ⟨o48, h⟩ := h
        refine z_getP C (pc := 63) kf9 15 (by decide) rfl bw_923 (fun _ _ _ _ h => h) dX9_season_63 rfl o48 ?_
        refine z_iload_n C (pc := 66) dX9_season_66 2 rfl ?_
        obtain ⟨a49, e50, o51, h⟩ := h
        obtain ⟨v52, h⟩ := h
        refine z_bald C (pc := 67) dX9_season_67 e50 o51 v52 ?_
        refine z_if_eq C (pc := 68) (tgt := 79) dX9_season_68 (by decide) h (fun h => ?_) (fun h => ?_)
        · refine z_aload_n C (pc := 79) dX9_season_79 0 rfl ?_
          refine z_getP C (pc := 80) kf9 8 (by decide) rfl bw_916 (fun _ _ _ _ h => h) dX9_season_80 rfl o48 ?_
          refine z_iload_n C (pc := 83) dX9_season_83 2 rfl ?_
          obtain ⟨a53, e54, o55, h⟩ := h
          obtain ⟨v56, h⟩ := h
          refine z_iald C (pc := 84) dX9_season_84 e54 o55 v56 ?_
          refine z_iconst C (pc := 85) (x := (-1 : Int32)) dX9_season_85 kic_m1 ?_
          refine z_icmp_eq C (pc := 86) (tgt := 110) dX9_season_86 (by decide) h (fun h => ?_) (fun h => ?_)
          · refine z_iinc C (pc := 110) (y := w2 + (1 : Int32)) (lv' := [(2, .int (w2 + (1 : Int32))), (0, va_rf (some f0)), (1, .int w1)]) dX9_season_110 2 rfl rfl (by decide) rfl ?_
            refine z_goto C (pc := 113) (tgt := 9) dX9_season_113 (by decide) ?_
            refine z_sub [1, 2, 0] (lv' := [(0, va_rf (some f0)), (1, .int w1), (2, .int (w2 + (1 : Int32)))]) rfl ?_
            exact ih S47 w1 (w2 + (1 : Int32)) h
          · refine z_aload_n C (pc := 89) dX9_season_89 0 rfl ?_
            refine z_aload_n C (pc := 90) dX9_season_90 0 rfl ?_
            refine z_getP C (pc := 91) kf9 8 (by decide) rfl bw_916 (fun _ _ _ _ h => h) dX9_season_91 rfl o48 ?_
            refine z_iload_n C (pc := 94) dX9_season_94 2 rfl ?_
            obtain ⟨a57, e58, o59, h⟩ := h
            obtain ⟨v60, h⟩ := h
            refine z_iald C (pc := 95) dX9_season_95 e58 o59 v60 ?_
            refine z_iload_n C (pc := 96) dX9_season_96 2 rfl ?_
            refine z_Vi C (pc := 97) (KX := fun _ _ => False) (kc' := 0) (ks' := 0) (As := [.int (g_R S47 a57 w2.toNatClampNeg), .int w2]) (rest := []) rfl (c_X9_isFor l v S47 f0 (g_R S47 a57 w2.toNatClampNeg) w2) mw_X9_isFor bw_1041 bw_1043 bw_p34 (fit_of rfl) rfl rfl (Nat.le_of_ble_eq_true rfl) (by decide) rfl o48 dX9_season_97 h (fun r62 S61 h => ?_) (fun En S9 h => h.elim)
            refine z_if_ne C (pc := 100) (tgt := 110) dX9_season_100 (by decide) h (fun h => ?_) (fun h => ?_)
            · refine z_iinc C (pc := 110) (y := w2 + (1 : Int32)) (lv' := [(2, .int (w2 + (1 : Int32))), (0, va_rf (some f0)), (1, .int w1)]) dX9_season_110 2 rfl rfl (by decide) rfl ?_
              refine z_goto C (pc := 113) (tgt := 9) dX9_season_113 (by decide) ?_
              refine z_sub [1, 2, 0] (lv' := [(0, va_rf (some f0)), (1, .int w1), (2, .int (w2 + (1 : Int32)))]) rfl ?_
              exact ih S61 w1 (w2 + (1 : Int32)) h
            · refine z_aload_n C (pc := 103) dX9_season_103 0 rfl ?_
              obtain ⟨o63, h⟩ := h
              refine z_getP C (pc := 104) kf9 8 (by decide) rfl bw_916 (fun _ _ _ _ h => h) dX9_season_104 rfl o63 ?_
              refine z_iload_n C (pc := 107) dX9_season_107 2 rfl ?_
              refine z_iconst C (pc := 108) (x := (-1 : Int32)) dX9_season_108 kic_m1 ?_
              obtain ⟨a64, e65, o66, h⟩ := h
              obtain ⟨v67, h⟩ := h
              refine z_iast C (pc := 109) dX9_season_109 e65 o66 v67 ?_
              refine z_lt h (fun S68 h => ?_)
              refine z_iinc C (pc := 110) (y := w2 + (1 : Int32)) (lv' := [(2, .int (w2 + (1 : Int32))), (0, va_rf (some f0)), (1, .int w1)]) dX9_season_110 2 rfl rfl (by decide) rfl ?_
              refine z_goto C (pc := 113) (tgt := 9) dX9_season_113 (by decide) ?_
              refine z_sub [1, 2, 0] (lv' := [(0, va_rf (some f0)), (1, .int w1), (2, .int (w2 + (1 : Int32)))]) rfl ?_
              exact ih S68 w1 (w2 + (1 : Int32)) h
        · refine z_aload_n C (pc := 71) dX9_season_71 0 rfl ?_
          refine z_iload_n C (pc := 72) dX9_season_72 2 rfl ?_
          refine z_Vv C (pc := 73) (KX := fun _ _ => False) (kc' := 0) (ks' := 0) (As := [.int w2]) (rest := []) rfl (c_X9_goesOut l v S47 f0 w2) mw_X9_goesOut bw_1069 bw_1071 bw_p40 (fit_of rfl) rfl rfl (Nat.le_of_ble_eq_true rfl) (by decide) rfl o48 dX9_season_73 h (fun S69 h => ?_) (fun En S9 h => h.elim)
          refine z_iinc C (pc := 76) (y := w1 + (1 : Int32)) (lv' := [(1, .int (w1 + (1 : Int32))), (0, va_rf (some f0)), (2, .int w2)]) dX9_season_76 1 rfl rfl (by decide) rfl ?_
          refine z_aload_n C (pc := 79) dX9_season_79 1 rfl ?_
          obtain ⟨o70, h⟩ := h
          refine z_getP C (pc := 80) kf9 8 (by decide) rfl bw_916 (fun _ _ _ _ h => h) dX9_season_80 rfl o70 ?_
          refine z_iload_n C (pc := 83) dX9_season_83 2 rfl ?_
          obtain ⟨a71, e72, o73, h⟩ := h
          obtain ⟨v74, h⟩ := h
          refine z_iald C (pc := 84) dX9_season_84 e72 o73 v74 ?_
          refine z_iconst C (pc := 85) (x := (-1 : Int32)) dX9_season_85 kic_m1 ?_
          refine z_icmp_eq C (pc := 86) (tgt := 110) dX9_season_86 (by decide) h (fun h => ?_) (fun h => ?_)
          · refine z_iinc C (pc := 110) (y := w2 + (1 : Int32)) (lv' := [(2, .int (w2 + (1 : Int32))), (1, .int (w1 + (1 : Int32))), (0, va_rf (some f0))]) dX9_season_110 2 rfl rfl (by decide) rfl ?_
            refine z_goto C (pc := 113) (tgt := 9) dX9_season_113 (by decide) ?_
            refine z_sub [2, 1, 0] (lv' := [(0, va_rf (some f0)), (1, .int (w1 + (1 : Int32))), (2, .int (w2 + (1 : Int32)))]) rfl ?_
            exact ih S69 (w1 + (1 : Int32)) (w2 + (1 : Int32)) h
          · refine z_aload_n C (pc := 89) dX9_season_89 1 rfl ?_
            refine z_aload_n C (pc := 90) dX9_season_90 1 rfl ?_
            refine z_getP C (pc := 91) kf9 8 (by decide) rfl bw_916 (fun _ _ _ _ h => h) dX9_season_91 rfl o70 ?_
            refine z_iload_n C (pc := 94) dX9_season_94 2 rfl ?_
            obtain ⟨a75, e76, o77, h⟩ := h
            obtain ⟨v78, h⟩ := h
            refine z_iald C (pc := 95) dX9_season_95 e76 o77 v78 ?_
            refine z_iload_n C (pc := 96) dX9_season_96 2 rfl ?_
            refine z_Vi C (pc := 97) (KX := fun _ _ => False) (kc' := 0) (ks' := 0) (As := [.int (g_R S69 a75 w2.toNatClampNeg), .int w2]) (rest := []) rfl (c_X9_isFor l v S69 f0 (g_R S69 a75 w2.toNatClampNeg) w2) mw_X9_isFor bw_1041 bw_1043 bw_p34 (fit_of rfl) rfl rfl (Nat.le_of_ble_eq_true rfl) (by decide) rfl o70 dX9_season_97 h (fun r80 S79 h => ?_) (fun En S9 h => h.elim)
            refine z_if_ne C (pc := 100) (tgt := 110) dX9_season_100 (by decide) h (fun h => ?_) (fun h => ?_)
            · refine z_iinc C (pc := 110) (y := w2 + (1 : Int32)) (lv' := [(2, .int (w2 + (1 : Int32))), (1, .int (w1 + (1 : Int32))), (0, va_rf (some f0))]) dX9_season_110 2 rfl rfl (by decide) rfl ?_
              refine z_goto C (pc := 113) (tgt := 9) dX9_season_113 (by decide) ?_
              refine z_sub [2, 1, 0] (lv' := [(0, va_rf (some f0)), (1, .int (w1 + (1 : Int32))), (2, .int (w2 + (1 : Int32)))]) rfl ?_
              exact ih S79 (w1 + (1 : Int32)) (w2 + (1 : Int32)) h
            · refine z_aload_n C (pc := 103) dX9_season_103 1 rfl ?_
              obtain ⟨o81, h⟩ := h
              refine z_getP C (pc := 104) kf9 8 (by decide) rfl bw_916 (fun _ _ _ _ h => h) dX9_season_104 rfl o81 ?_
              refine z_iload_n C (pc := 107) dX9_season_107 2 rfl ?_
              refine z_iconst C (pc := 108) (x := (-1 : Int32)) dX9_season_108 kic_m1 ?_
              obtain ⟨a82, e83, o84, h⟩ := h
              obtain ⟨v85, h⟩ := h
              refine z_iast C (pc := 109) dX9_season_109 e83 o84 v85 ?_
              refine z_lt h (fun S86 h => ?_)
              refine z_iinc C (pc := 110) (y := w2 + (1 : Int32)) (lv' := [(2, .int (w2 + (1 : Int32))), (1, .int (w1 + (1 : Int32))), (0, va_rf (some f0))]) dX9_season_110 2 rfl rfl (by decide) rfl ?_
              refine z_goto C (pc := 113) (tgt := 9) dX9_season_113 (by decide) ?_
              refine z_sub [2, 1, 0] (lv' := [(0, va_rf (some f0)), (1, .int (w1 + (1 : Int32))), (2, .int (w2 + (1 : Int32)))]) rfl ?_
              exact ih S86 (w1 + (1 : Int32)) (w2 + (1 : Int32)) h
      · refine z_aload_n C (pc := 42) dX9_season_42 0 rfl ?_
        refine z_aload_n C (pc := 43) dX9_season_43 0 rfl ?_
        refine z_getP C (pc := 44) kf9 7 (by decide) rfl bw_915 (fun _ _ _ _ h => h) dX9_season_44 rfl o38 ?_
        refine z_iload_n C (pc := 47) dX9_season_47 2 rfl ?_
        obtain ⟨a87, e88, o89, h⟩ := h
        obtain ⟨v90, h⟩ := h
        refine z_iald C (pc := 48) dX9_season_48 e88 o89 v90 ?_
        refine z_iload_n C (pc := 49) dX9_season_49 2 rfl ?_
        refine z_Vi C (pc := 50) (KX := fun _ _ => False) (kc' := 0) (ks' := 0) (As := [.int (g_R S37 a87 w2.toNatClampNeg), .int w2]) (rest := [.int w2, va_rf (g_P S37 915 f0)]) rfl (c_X9_isFor l v S37 f0 (g_R S37 a87 w2.toNatClampNeg) w2) mw_X9_isFor bw_1041 bw_1043 bw_p34 (fit_of rfl) rfl rfl (Nat.le_of_ble_eq_true rfl) (by decide) rfl o38 dX9_season_50 h (fun r92 S91 h => ?_) (fun En S9 h => h.elim)
        refine z_if_ne C (pc := 53) (tgt := 60) dX9_season_53 (by decide) h (fun h => ?_) (fun h => ?_)
        · refine z_iconst C (pc := 60) (x := (0 : Int32)) dX9_season_60 kic_0 ?_
          obtain ⟨a93, e94, o95, h⟩ := h
          obtain ⟨v96, h⟩ := h
          refine z_bast C (pc := 61) dX9_season_61 e94 o95 v96 ?_
          refine z_lt h (fun S97 h => ?_)
          refine z_aload_n C (pc := 62) dX9_season_62 0 rfl ?_
          obtain ⟨o98, h⟩ := h
          refine z_getP C (pc := 63) kf9 15 (by decide) rfl bw_923 (fun _ _ _ _ h => h) dX9_season_63 rfl o98 ?_
          refine z_iload_n C (pc := 66) dX9_season_66 2 rfl ?_
          obtain ⟨a99, e100, o101, h⟩ := h
          obtain ⟨v102, h⟩ := h
          refine z_bald C (pc := 67) dX9_season_67 e100 o101 v102 ?_
          refine z_if_eq C (pc := 68) (tgt := 79) dX9_season_68 (by decide) h (fun h => ?_) (fun h => ?_)
          · refine z_aload_n C (pc := 79) dX9_season_79 0 rfl ?_
            refine z_getP C (pc := 80) kf9 8 (by decide) rfl bw_916 (fun _ _ _ _ h => h) dX9_season_80 rfl o98 ?_
            refine z_iload_n C (pc := 83) dX9_season_83 2 rfl ?_
            obtain ⟨a103, e104, o105, h⟩ := h
            obtain ⟨v106, h⟩ := h
            refine z_iald C (pc := 84) dX9_season_84 e104 o105 v106 ?_
            refine z_iconst C (pc := 85) (x := (-1 : Int32)) dX9_season_85 kic_m1 ?_
            refine z_icmp_eq C (pc := 86) (tgt := 110) dX9_season_86 (by decide) h (fun h => ?_) (fun h => ?_)
            · refine z_iinc C (pc := 110) (y := w2 + (1 : Int32)) (lv' := [(2, .int (w2 + (1 : Int32))), (0, va_rf (some f0)), (1, .int w1)]) dX9_season_110 2 rfl rfl (by decide) rfl ?_
              refine z_goto C (pc := 113) (tgt := 9) dX9_season_113 (by decide) ?_
              refine z_sub [1, 2, 0] (lv' := [(0, va_rf (some f0)), (1, .int w1), (2, .int (w2 + (1 : Int32)))]) rfl ?_
              exact ih S97 w1 (w2 + (1 : Int32)) h
            · refine z_aload_n C (pc := 89) dX9_season_89 0 rfl ?_
              refine z_aload_n C (pc := 90) dX9_season_90 0 rfl ?_
              refine z_getP C (pc := 91) kf9 8 (by decide) rfl bw_916 (fun _ _ _ _ h => h) dX9_season_91 rfl o98 ?_
              refine z_iload_n C (pc := 94) dX9_season_94 2 rfl ?_
              obtain ⟨a107, e108, o109, h⟩ := h
              obtain ⟨v110, h⟩ := h
              refine z_iald C (pc := 95) dX9_season_95 e108 o109 v110 ?_
              refine z_iload_n C (pc := 96) dX9_season_96 2 rfl ?_
              refine z_Vi C (pc := 97) (KX := fun _ _ => False) (kc' := 0) (ks' := 0) (As := [.int (g_R S97 a107 w2.toNatClampNeg), .int w2]) (rest := []) rfl (c_X9_isFor l v S97 f0 (g_R S97 a107 w2.toNatClampNeg) w2) mw_X9_isFor bw_1041 bw_1043 bw_p34 (fit_of rfl) rfl rfl (Nat.le_of_ble_eq_true rfl) (by decide) rfl o98 dX9_season_97 h (fun r112 S111 h => ?_) (fun En S9 h => h.elim)
              refine z_if_ne C (pc := 100) (tgt := 110) dX9_season_100 (by decide) h (fun h => ?_) (fun h => ?_)
              · refine z_iinc C (pc := 110) (y := w2 + (1 : Int32)) (lv' := [(2, .int (w2 + (1 : Int32))), (0, va_rf (some f0)), (1, .int w1)]) dX9_season_110 2 rfl rfl (by decide) rfl ?_
                refine z_goto C (pc := 113) (tgt := 9) dX9_season_113 (by decide) ?_
                refine z_sub [1, 2, 0] (lv' := [(0, va_rf (some f0)), (1, .int w1), (2, .int (w2 + (1 : Int32)))]) rfl ?_
                exact ih S111 w1 (w2 + (1 : Int32)) h
              · refine z_aload_n C (pc := 103) dX9_season_103 0 rfl ?_
                obtain ⟨o113, h⟩ := h
                refine z_getP C (pc := 104) kf9 8 (by decide) rfl bw_916 (fun _ _ _ _ h => h) dX9_season_104 rfl o113 ?_
                refine z_iload_n C (pc := 107) dX9_season_107 2 rfl ?_
                refine z_iconst C (pc := 108) (x := (-1 : Int32)) dX9_season_108 kic_m1 ?_
                obtain ⟨a114, e115, o116, h⟩ := h
                obtain ⟨v117, h⟩ := h
                refine z_iast C (pc := 109) dX9_season_109 e115 o116 v117 ?_
                refine z_lt h (fun S118 h => ?_)
                refine z_iinc C (pc := 110) (y := w2 + (1 : Int32)) (lv' := [(2, .int (w2 + (1 : Int32))), (0, va_rf (some f0)), (1, .int w1)]) dX9_season_110 2 rfl rfl (by decide) rfl ?_
                refine z_goto C (pc := 113) (tgt := 9) dX9_season_113 (by decide) ?_
                refine z_sub [1, 2, 0] (lv' := [(0, va_rf (some f0)), (1, .int w1), (2, .int (w2 + (1 : Int32)))]) rfl ?_
                exact ih S118 w1 (w2 + (1 : Int32)) h
          · refine z_aload_n C (pc := 71) dX9_season_71 0 rfl ?_
            refine z_iload_n C (pc := 72) dX9_season_72 2 rfl ?_
            refine z_Vv C (pc := 73) (KX := fun _ _ => False) (kc' := 0) (ks' := 0) (As := [.int w2]) (rest := []) rfl (c_X9_goesOut l v S97 f0 w2) mw_X9_goesOut bw_1069 bw_1071 bw_p40 (fit_of rfl) rfl rfl (Nat.le_of_ble_eq_true rfl) (by decide) rfl o98 dX9_season_73 h (fun S119 h => ?_) (fun En S9 h => h.elim)
            refine z_iinc C (pc := 76) (y := w1 + (1 : Int32)) (lv' := [(1, .int (w1 + (1 : Int32))), (0, va_rf (some f0)), (2, .int w2)]) dX9_season_76 1 rfl rfl (by decide) rfl ?_
            refine z_aload_n C (pc := 79) dX9_season_79 1 rfl ?_
            obtain ⟨o120, h⟩ := h
            refine z_getP C (pc := 80) kf9 8 (by decide) rfl bw_916 (fun _ _ _ _ h => h) dX9_season_80 rfl o120 ?_
            refine z_iload_n C (pc := 83) dX9_season_83 2 rfl ?_
            obtain ⟨a121, e122, o123, h⟩ := h
            obtain ⟨v124, h⟩ := h
            refine z_iald C (pc := 84) dX9_season_84 e122 o123 v124 ?_
            refine z_iconst C (pc := 85) (x := (-1 : Int32)) dX9_season_85 kic_m1 ?_
            refine z_icmp_eq C (pc := 86) (tgt := 110) dX9_season_86 (by decide) h (fun h => ?_) (fun h => ?_)
            · refine z_iinc C (pc := 110) (y := w2 + (1 : Int32)) (lv' := [(2, .int (w2 + (1 : Int32))), (1, .int (w1 + (1 : Int32))), (0, va_rf (some f0))]) dX9_season_110 2 rfl rfl (by decide) rfl ?_
              refine z_goto C (pc := 113) (tgt := 9) dX9_season_113 (by decide) ?_
              refine z_sub [2, 1, 0] (lv' := [(0, va_rf (some f0)), (1, .int (w1 + (1 : Int32))), (2, .int (w2 + (1 : Int32)))]) rfl ?_
              exact ih S119 (w1 + (1 : Int32)) (w2 + (1 : Int32)) h
            · refine z_aload_n C (pc := 89) dX9_season_89 1 rfl ?_
              refine z_aload_n C (pc := 90) dX9_season_90 1 rfl ?_
              refine z_getP C (pc := 91) kf9 8 (by decide) rfl bw_916 (fun _ _ _ _ h => h) dX9_season_91 rfl o120 ?_
              refine z_iload_n C (pc := 94) dX9_season_94 2 rfl ?_
              obtain ⟨a125, e126, o127, h⟩ := h
              obtain ⟨v128, h⟩ := h
              refine z_iald C (pc := 95) dX9_season_95 e126 o127 v128 ?_
              refine z_iload_n C (pc := 96) dX9_season_96 2 rfl ?_
              refine z_Vi C (pc := 97) (KX := fun _ _ => False) (kc' := 0) (ks' := 0) (As := [.int (g_R S119 a125 w2.toNatClampNeg), .int w2]) (rest := []) rfl (c_X9_isFor l v S119 f0 (g_R S119 a125 w2.toNatClampNeg) w2) mw_X9_isFor bw_1041 bw_1043 bw_p34 (fit_of rfl) rfl rfl (Nat.le_of_ble_eq_true rfl) (by decide) rfl o120 dX9_season_97 h (fun r130 S129 h => ?_) (fun En S9 h => h.elim)
              refine z_if_ne C (pc := 100) (tgt := 110) dX9_season_100 (by decide) h (fun h => ?_) (fun h => ?_)
              · refine z_iinc C (pc := 110) (y := w2 + (1 : Int32)) (lv' := [(2, .int (w2 + (1 : Int32))), (1, .int (w1 + (1 : Int32))), (0, va_rf (some f0))]) dX9_season_110 2 rfl rfl (by decide) rfl ?_
                refine z_goto C (pc := 113) (tgt := 9) dX9_season_113 (by decide) ?_
                refine z_sub [2, 1, 0] (lv' := [(0, va_rf (some f0)), (1, .int (w1 + (1 : Int32))), (2, .int (w2 + (1 : Int32)))]) rfl ?_
                exact ih S129 (w1 + (1 : Int32)) (w2 + (1 : Int32)) h
              · refine z_aload_n C (pc := 103) dX9_season_103 1 rfl ?_
                obtain ⟨o131, h⟩ := h
                refine z_getP C (pc := 104) kf9 8 (by decide) rfl bw_916 (fun _ _ _ _ h => h) dX9_season_104 rfl o131 ?_
                refine z_iload_n C (pc := 107) dX9_season_107 2 rfl ?_
                refine z_iconst C (pc := 108) (x := (-1 : Int32)) dX9_season_108 kic_m1 ?_
                obtain ⟨a132, e133, o134, h⟩ := h
                obtain ⟨v135, h⟩ := h
                refine z_iast C (pc := 109) dX9_season_109 e133 o134 v135 ?_
                refine z_lt h (fun S136 h => ?_)
                refine z_iinc C (pc := 110) (y := w2 + (1 : Int32)) (lv' := [(2, .int (w2 + (1 : Int32))), (1, .int (w1 + (1 : Int32))), (0, va_rf (some f0))]) dX9_season_110 2 rfl rfl (by decide) rfl ?_
                refine z_goto C (pc := 113) (tgt := 9) dX9_season_113 (by decide) ?_
                refine z_sub [2, 1, 0] (lv' := [(0, va_rf (some f0)), (1, .int (w1 + (1 : Int32))), (2, .int (w2 + (1 : Int32)))]) rfl ?_
                exact ih S136 (w1 + (1 : Int32)) (w2 + (1 : Int32)) h
        · refine z_iconst C (pc := 56) (x := (1 : Int32)) dX9_season_56 kic_1 ?_
          refine z_goto C (pc := 57) (tgt := 61) dX9_season_57 (by decide) ?_
          obtain ⟨a137, e138, o139, h⟩ := h
          obtain ⟨v140, h⟩ := h
          refine z_bast C (pc := 61) dX9_season_61 e138 o139 v140 ?_
          refine z_lt h (fun S141 h => ?_)
          refine z_aload_n C (pc := 62) dX9_season_62 0 rfl ?_
          obtain ⟨o142, h⟩ := h
          refine z_getP C (pc := 63) kf9 15 (by decide) rfl bw_923 (fun _ _ _ _ h => h) dX9_season_63 rfl o142 ?_
          refine z_iload_n C (pc := 66) dX9_season_66 2 rfl ?_
          obtain ⟨a143, e144, o145, h⟩ := h
          obtain ⟨v146, h⟩ := h
          refine z_bald C (pc := 67) dX9_season_67 e144 o145 v146 ?_
          refine z_if_eq C (pc := 68) (tgt := 79) dX9_season_68 (by decide) h (fun h => ?_) (fun h => ?_)
          · refine z_aload_n C (pc := 79) dX9_season_79 0 rfl ?_
            refine z_getP C (pc := 80) kf9 8 (by decide) rfl bw_916 (fun _ _ _ _ h => h) dX9_season_80 rfl o142 ?_
            refine z_iload_n C (pc := 83) dX9_season_83 2 rfl ?_
            obtain ⟨a147, e148, o149, h⟩ := h
            obtain ⟨v150, h⟩ := h
            refine z_iald C (pc := 84) dX9_season_84 e148 o149 v150 ?_
            refine z_iconst C (pc := 85) (x := (-1 : Int32)) dX9_season_85 kic_m1 ?_
            refine z_icmp_eq C (pc := 86) (tgt := 110) dX9_season_86 (by decide) h (fun h => ?_) (fun h => ?_)
            · refine z_iinc C (pc := 110) (y := w2 + (1 : Int32)) (lv' := [(2, .int (w2 + (1 : Int32))), (0, va_rf (some f0)), (1, .int w1)]) dX9_season_110 2 rfl rfl (by decide) rfl ?_
              refine z_goto C (pc := 113) (tgt := 9) dX9_season_113 (by decide) ?_
              refine z_sub [1, 2, 0] (lv' := [(0, va_rf (some f0)), (1, .int w1), (2, .int (w2 + (1 : Int32)))]) rfl ?_
              exact ih S141 w1 (w2 + (1 : Int32)) h
            · refine z_aload_n C (pc := 89) dX9_season_89 0 rfl ?_
              refine z_aload_n C (pc := 90) dX9_season_90 0 rfl ?_
              refine z_getP C (pc := 91) kf9 8 (by decide) rfl bw_916 (fun _ _ _ _ h => h) dX9_season_91 rfl o142 ?_
              refine z_iload_n C (pc := 94) dX9_season_94 2 rfl ?_
              obtain ⟨a151, e152, o153, h⟩ := h
              obtain ⟨v154, h⟩ := h
              refine z_iald C (pc := 95) dX9_season_95 e152 o153 v154 ?_
              refine z_iload_n C (pc := 96) dX9_season_96 2 rfl ?_
              refine z_Vi C (pc := 97) (KX := fun _ _ => False) (kc' := 0) (ks' := 0) (As := [.int (g_R S141 a151 w2.toNatClampNeg), .int w2]) (rest := []) rfl (c_X9_isFor l v S141 f0 (g_R S141 a151 w2.toNatClampNeg) w2) mw_X9_isFor bw_1041 bw_1043 bw_p34 (fit_of rfl) rfl rfl (Nat.le_of_ble_eq_true rfl) (by decide) rfl o142 dX9_season_97 h (fun r156 S155 h => ?_) (fun En S9 h => h.elim)
              refine z_if_ne C (pc := 100) (tgt := 110) dX9_season_100 (by decide) h (fun h => ?_) (fun h => ?_)
              · refine z_iinc C (pc := 110) (y := w2 + (1 : Int32)) (lv' := [(2, .int (w2 + (1 : Int32))), (0, va_rf (some f0)), (1, .int w1)]) dX9_season_110 2 rfl rfl (by decide) rfl ?_
                refine z_goto C (pc := 113) (tgt := 9) dX9_season_113 (by decide) ?_
                refine z_sub [1, 2, 0] (lv' := [(0, va_rf (some f0)), (1, .int w1), (2, .int (w2 + (1 : Int32)))]) rfl ?_
                exact ih S155 w1 (w2 + (1 : Int32)) h
              · refine z_aload_n C (pc := 103) dX9_season_103 0 rfl ?_
                obtain ⟨o157, h⟩ := h
                refine z_getP C (pc := 104) kf9 8 (by decide) rfl bw_916 (fun _ _ _ _ h => h) dX9_season_104 rfl o157 ?_
                refine z_iload_n C (pc := 107) dX9_season_107 2 rfl ?_
                refine z_iconst C (pc := 108) (x := (-1 : Int32)) dX9_season_108 kic_m1 ?_
                obtain ⟨a158, e159, o160, h⟩ := h
                obtain ⟨v161, h⟩ := h
                refine z_iast C (pc := 109) dX9_season_109 e159 o160 v161 ?_
                refine z_lt h (fun S162 h => ?_)
                refine z_iinc C (pc := 110) (y := w2 + (1 : Int32)) (lv' := [(2, .int (w2 + (1 : Int32))), (0, va_rf (some f0)), (1, .int w1)]) dX9_season_110 2 rfl rfl (by decide) rfl ?_
                refine z_goto C (pc := 113) (tgt := 9) dX9_season_113 (by decide) ?_
                refine z_sub [1, 2, 0] (lv' := [(0, va_rf (some f0)), (1, .int w1), (2, .int (w2 + (1 : Int32)))]) rfl ?_
                exact ih S162 w1 (w2 + (1 : Int32)) h
          · refine z_aload_n C (pc := 71) dX9_season_71 0 rfl ?_
            refine z_iload_n C (pc := 72) dX9_season_72 2 rfl ?_
            refine z_Vv C (pc := 73) (KX := fun _ _ => False) (kc' := 0) (ks' := 0) (As := [.int w2]) (rest := []) rfl (c_X9_goesOut l v S141 f0 w2) mw_X9_goesOut bw_1069 bw_1071 bw_p40 (fit_of rfl) rfl rfl (Nat.le_of_ble_eq_true rfl) (by decide) rfl o142 dX9_season_73 h (fun S163 h => ?_) (fun En S9 h => h.elim)
            refine z_iinc C (pc := 76) (y := w1 + (1 : Int32)) (lv' := [(1, .int (w1 + (1 : Int32))), (0, va_rf (some f0)), (2, .int w2)]) dX9_season_76 1 rfl rfl (by decide) rfl ?_
            refine z_aload_n C (pc := 79) dX9_season_79 1 rfl ?_
            obtain ⟨o164, h⟩ := h
            refine z_getP C (pc := 80) kf9 8 (by decide) rfl bw_916 (fun _ _ _ _ h => h) dX9_season_80 rfl o164 ?_
            refine z_iload_n C (pc := 83) dX9_season_83 2 rfl ?_
            obtain ⟨a165, e166, o167, h⟩ := h
            obtain ⟨v168, h⟩ := h
            refine z_iald C (pc := 84) dX9_season_84 e166 o167 v168 ?_
            refine z_iconst C (pc := 85) (x := (-1 : Int32)) dX9_season_85 kic_m1 ?_
            refine z_icmp_eq C (pc := 86) (tgt := 110) dX9_season_86 (by decide) h (fun h => ?_) (fun h => ?_)
            · refine z_iinc C (pc := 110) (y := w2 + (1 : Int32)) (lv' := [(2, .int (w2 + (1 : Int32))), (1, .int (w1 + (1 : Int32))), (0, va_rf (some f0))]) dX9_season_110 2 rfl rfl (by decide) rfl ?_
              refine z_goto C (pc := 113) (tgt := 9) dX9_season_113 (by decide) ?_
              refine z_sub [2, 1, 0] (lv' := [(0, va_rf (some f0)), (1, .int (w1 + (1 : Int32))), (2, .int (w2 + (1 : Int32)))]) rfl ?_
              exact ih S163 (w1 + (1 : Int32)) (w2 + (1 : Int32)) h
            · refine z_aload_n C (pc := 89) dX9_season_89 1 rfl ?_
              refine z_aload_n C (pc := 90) dX9_season_90 1 rfl ?_
              refine z_getP C (pc := 91) kf9 8 (by decide) rfl bw_916 (fun _ _ _ _ h => h) dX9_season_91 rfl o164 ?_
              refine z_iload_n C (pc := 94) dX9_season_94 2 rfl ?_
              obtain ⟨a169, e170, o171, h⟩ := h
              obtain ⟨v172, h⟩ := h
              refine z_iald C (pc := 95) dX9_season_95 e170 o171 v172 ?_
              refine z_iload_n C (pc := 96) dX9_season_96 2 rfl ?_
              refine z_Vi C (pc := 97) (KX := fun _ _ => False) (kc' := 0) (ks' := 0) (As := [.int (g_R S163 a169 w2.toNatClampNeg), .int w2]) (rest := []) rfl (c_X9_isFor l v S163 f0 (g_R S163 a169 w2.toNatClampNeg) w2) mw_X9_isFor bw_1041 bw_1043 bw_p34 (fit_of rfl) rfl rfl (Nat.le_of_ble_eq_true rfl) (by decide) rfl o164 dX9_season_97 h (fun r174 S173 h => ?_) (fun En S9 h => h.elim)
              refine z_if_ne C (pc := 100) (tgt := 110) dX9_season_100 (by decide) h (fun h => ?_) (fun h => ?_)
              · refine z_iinc C (pc := 110) (y := w2 + (1 : Int32)) (lv' := [(2, .int (w2 + (1 : Int32))), (1, .int (w1 + (1 : Int32))), (0, va_rf (some f0))]) dX9_season_110 2 rfl rfl (by decide) rfl ?_
                refine z_goto C (pc := 113) (tgt := 9) dX9_season_113 (by decide) ?_
                refine z_sub [2, 1, 0] (lv' := [(0, va_rf (some f0)), (1, .int (w1 + (1 : Int32))), (2, .int (w2 + (1 : Int32)))]) rfl ?_
                exact ih S173 (w1 + (1 : Int32)) (w2 + (1 : Int32)) h
              · refine z_aload_n C (pc := 103) dX9_season_103 1 rfl ?_
                obtain ⟨o175, h⟩ := h
                refine z_getP C (pc := 104) kf9 8 (by decide) rfl bw_916 (fun _ _ _ _ h => h) dX9_season_104 rfl o175 ?_
                refine z_iload_n C (pc := 107) dX9_season_107 2 rfl ?_
                refine z_iconst C (pc := 108) (x := (-1 : Int32)) dX9_season_108 kic_m1 ?_
                obtain ⟨a176, e177, o178, h⟩ := h
                obtain ⟨v179, h⟩ := h
                refine z_iast C (pc := 109) dX9_season_109 e177 o178 v179 ?_
                refine z_lt h (fun S180 h => ?_)
                refine z_iinc C (pc := 110) (y := w2 + (1 : Int32)) (lv' := [(2, .int (w2 + (1 : Int32))), (1, .int (w1 + (1 : Int32))), (0, va_rf (some f0))]) dX9_season_110 2 rfl rfl (by decide) rfl ?_
                refine z_goto C (pc := 113) (tgt := 9) dX9_season_113 (by decide) ?_
                refine z_sub [2, 1, 0] (lv' := [(0, va_rf (some f0)), (1, .int (w1 + (1 : Int32))), (2, .int (w2 + (1 : Int32)))]) rfl ?_
                exact ih S180 (w1 + (1 : Int32)) (w2 + (1 : Int32)) h
set_option maxHeartbeats 4000000 in
set_option maxRecDepth 100000 in
theorem c_X9_season (l : Launch) (v : Ev) (S : Hp) (x0 : Nat) : CI l v yX9_season cX9_season 3 (some .int) rm_X9_season [va_rf (some x0)] S (fun Q _ => wp_X9_season S x0 Q) := by
  intro Q EQ h
  refine z_start [(0, va_rf (some x0))] (by decide +kernel) (by simp only [la_i, la_r, la_n]) (cat_cr cat_nil) (by simp only [ls_i, ls_r, ls_n]; decide) (fun z C N T => ?_)
  unfold wp_X9_season at h
  refine z_aload_n C (pc := 0) dX9_season_0 0 rfl ?_
  refine z_iconst C (pc := 1) (x := (0 : Int32)) dX9_season_1 kic_0 ?_
  obtain ⟨o1, h⟩ := h
  refine z_putI C (pc := 2) kf9 31 (by decide) rfl rfl bw_939 (fun _ _ _ _ h => h) dX9_season_2 rfl o1 ?_
  refine z_lt h (fun S2 h => ?_)
  refine z_iconst C (pc := 5) (x := (0 : Int32)) dX9_season_5 kic_0 ?_
  refine z_istore_n C (pc := 6) (lv' := [(1, .int (0 : Int32)), (0, va_rf (some x0))]) dX9_season_6 (by decide) rfl ?_
  refine z_iconst C (pc := 7) (x := (0 : Int32)) dX9_season_7 kic_0 ?_
  refine z_istore_n C (pc := 8) (lv' := [(2, .int (0 : Int32)), (1, .int (0 : Int32)), (0, va_rf (some x0))]) dX9_season_8 (by decide) rfl ?_
  obtain ⟨n181, h⟩ := h
  refine z_sub [2, 1, 0] (lv' := [(0, va_rf (some x0)), (1, .int (0 : Int32)), (2, .int (0 : Int32))]) rfl ?_
  exact l_X9_season_L9 l v x0 Q C N T n181 S2 (0 : Int32) (0 : Int32) h
def wp_X9_leader (S : Hp) (x0 : Nat) (Q : Int32 → Hp → Prop) : Prop :=
  okA S 9 x0 ∧ (if (8 : Int32) ≤ (g_I S 919 x0) then (wp_X9_asks S x0 (0 : Int32) (fun r3 S2 => if r3 = 0 then (Q (0 : Int32) S2) else (okA S2 9 x0 ∧ (lt (s_I S2 919 x0 ((g_I S2 919 x0) + (1 : Int32))) (fun S5 => okA S5 9 x0 ∧ (Q ((g_I S5 919 x0) - (1 : Int32)) S5)))))) else (wp_X9_asks S x0 (1 : Int32) (fun r8 S7 => if r8 = 0 then (Q (0 : Int32) S7) else (okA S7 9 x0 ∧ (lt (s_I S7 919 x0 ((g_I S7 919 x0) + (1 : Int32))) (fun S10 => okA S10 9 x0 ∧ (Q ((g_I S10 919 x0) - (1 : Int32)) S10)))))))
def rm_X9_leader : Room := { frames := 1, cells := 0, slots := 0, locals := 21 }
set_option maxHeartbeats 4000000 in
set_option maxRecDepth 100000 in
theorem c_X9_leader (l : Launch) (v : Ev) (S : Hp) (x0 : Nat) : CI l v yX9_leader cX9_leader 1 (some .int) rm_X9_leader [va_rf (some x0)] S (fun Q _ => wp_X9_leader S x0 Q) := by
  intro Q EQ h
  refine z_start [(0, va_rf (some x0))] (by decide +kernel) (by simp only [la_i, la_r, la_n]) (cat_cr cat_nil) (by simp only [ls_i, ls_r, ls_n]; decide) (fun z C N T => ?_)
  unfold wp_X9_leader at h
  refine z_aload_n C (pc := 0) dX9_leader_0 0 rfl ?_
  refine z_aload_n C (pc := 1) dX9_leader_1 0 rfl ?_
  obtain ⟨o1, h⟩ := h
  refine z_getI C (pc := 2) kf9 19 (by decide) rfl bw_927 (fun _ _ _ _ h => h) dX9_leader_2 rfl o1 ?_
  refine z_bipush C (pc := 5) (x := (8 : Int32)) dX9_leader_5 kbp_8 ?_
  refine z_icmp_ge C (pc := 7) (tgt := 14) dX9_leader_7 (by decide) h (fun h => ?_) (fun h => ?_)
  · refine z_iconst C (pc := 14) (x := (0 : Int32)) dX9_leader_14 kic_0 ?_
    refine z_Vi C (pc := 15) (KX := fun _ _ => False) (kc' := 0) (ks' := 0) (As := [.int (0 : Int32)]) (rest := []) rfl (c_X9_asks l v S x0 (0 : Int32)) mw_X9_asks bw_1017 bw_1019 bw_p30 (fit_of rfl) rfl rfl (Nat.le_of_ble_eq_true rfl) (by decide) rfl o1 dX9_leader_15 h (fun r3 S2 h => ?_) (fun En S9 h => h.elim)
    refine z_if_ne C (pc := 18) (tgt := 23) dX9_leader_18 (by decide) h (fun h => ?_) (fun h => ?_)
    · refine z_aload_n C (pc := 23) dX9_leader_23 0 rfl ?_
      refine z_dup C (pc := 24) dX9_leader_24 (cat_rf _) ?_
      obtain ⟨o4, h⟩ := h
      refine z_getI C (pc := 25) kf9 19 (by decide) rfl bw_927 (fun _ _ _ _ h => h) dX9_leader_25 rfl o4 ?_
      refine z_iconst C (pc := 28) (x := (1 : Int32)) dX9_leader_28 kic_1 ?_
      refine z_iadd C (pc := 29) dX9_leader_29 ?_
      refine z_putI C (pc := 30) kf9 19 (by decide) rfl rfl bw_927 (fun _ _ _ _ h => h) dX9_leader_30 rfl o4 ?_
      refine z_lt h (fun S5 h => ?_)
      refine z_aload_n C (pc := 33) dX9_leader_33 0 rfl ?_
      obtain ⟨o6, h⟩ := h
      refine z_getI C (pc := 34) kf9 19 (by decide) rfl bw_927 (fun _ _ _ _ h => h) dX9_leader_34 rfl o6 ?_
      refine z_iconst C (pc := 37) (x := (1 : Int32)) dX9_leader_37 kic_1 ?_
      refine z_isub C (pc := 38) dX9_leader_38 ?_
      exact z_iret C (pc := 39) T dX9_leader_39 (by decide) (by decide) h
    · refine z_iconst C (pc := 21) (x := (0 : Int32)) dX9_leader_21 kic_0 ?_
      exact z_iret C (pc := 22) T dX9_leader_22 (by decide) (by decide) h
  · refine z_iconst C (pc := 10) (x := (1 : Int32)) dX9_leader_10 kic_1 ?_
    refine z_goto C (pc := 11) (tgt := 15) dX9_leader_11 (by decide) ?_
    refine z_Vi C (pc := 15) (KX := fun _ _ => False) (kc' := 0) (ks' := 0) (As := [.int (1 : Int32)]) (rest := []) rfl (c_X9_asks l v S x0 (1 : Int32)) mw_X9_asks bw_1017 bw_1019 bw_p30 (fit_of rfl) rfl rfl (Nat.le_of_ble_eq_true rfl) (by decide) rfl o1 dX9_leader_15 h (fun r8 S7 h => ?_) (fun En S9 h => h.elim)
    refine z_if_ne C (pc := 18) (tgt := 23) dX9_leader_18 (by decide) h (fun h => ?_) (fun h => ?_)
    · refine z_aload_n C (pc := 23) dX9_leader_23 0 rfl ?_
      refine z_dup C (pc := 24) dX9_leader_24 (cat_rf _) ?_
      obtain ⟨o9, h⟩ := h
      refine z_getI C (pc := 25) kf9 19 (by decide) rfl bw_927 (fun _ _ _ _ h => h) dX9_leader_25 rfl o9 ?_
      refine z_iconst C (pc := 28) (x := (1 : Int32)) dX9_leader_28 kic_1 ?_
      refine z_iadd C (pc := 29) dX9_leader_29 ?_
      refine z_putI C (pc := 30) kf9 19 (by decide) rfl rfl bw_927 (fun _ _ _ _ h => h) dX9_leader_30 rfl o9 ?_
      refine z_lt h (fun S10 h => ?_)
      refine z_aload_n C (pc := 33) dX9_leader_33 0 rfl ?_
      obtain ⟨o11, h⟩ := h
      refine z_getI C (pc := 34) kf9 19 (by decide) rfl bw_927 (fun _ _ _ _ h => h) dX9_leader_34 rfl o11 ?_
      refine z_iconst C (pc := 37) (x := (1 : Int32)) dX9_leader_37 kic_1 ?_
      refine z_isub C (pc := 38) dX9_leader_38 ?_
      exact z_iret C (pc := 39) T dX9_leader_39 (by decide) (by decide) h
    · refine z_iconst C (pc := 21) (x := (0 : Int32)) dX9_leader_21 kic_0 ?_
      exact z_iret C (pc := 22) T dX9_leader_22 (by decide) (by decide) h
def wp_X9_isLand (S : Hp) (x0 : Int32) (Q : Int32 → Hp → Prop) : Prop :=
  wp_X9_in S x0 (0 : Int32) (2 : Int32) (fun r2 S1 => bz r2 (Q r2 S1))
def rm_X9_isLand : Room := { frames := 1, cells := 0, slots := 0, locals := 22 }
set_option maxHeartbeats 4000000 in
set_option maxRecDepth 100000 in
theorem c_X9_isLand (l : Launch) (v : Ev) (S : Hp) (x0 : Int32) : CI l v yX9_isLand cX9_isLand 1 (some .boolean) rm_X9_isLand [.int x0] S (fun Q _ => wp_X9_isLand S x0 Q) := by
  intro Q EQ h
  refine z_start [(0, .int x0)] (by decide +kernel) (by simp only [la_i, la_r, la_n]) (cat_ci cat_nil) (by simp only [ls_i, ls_r, ls_n]; decide) (fun z C N T => ?_)
  unfold wp_X9_isLand at h
  refine z_iload_n C (pc := 0) dX9_isLand_0 0 rfl ?_
  refine z_iconst C (pc := 1) (x := (0 : Int32)) dX9_isLand_1 kic_0 ?_
  refine z_iconst C (pc := 2) (x := (2 : Int32)) dX9_isLand_2 kic_2 ?_
  refine z_Si C (pc := 3) (KX := fun _ _ => False) (kc' := 0) (ks' := 0) (As := [.int x0, .int (0 : Int32), .int (2 : Int32)]) (rest := []) (c_X9_in l v S x0 (0 : Int32) (2 : Int32)) mw_X9_in bw_1014 bw_1015 (fit_of rfl) rfl rfl (Nat.le_of_ble_eq_true rfl) dX9_isLand_3 h (fun r2 S1 h => ?_) (fun En S9 h => h.elim)
  exact z_zret C (pc := 6) T dX9_isLand_6 (by decide) (by decide) h
def wp_X9_vet (S : Hp) (x0 : Nat) (x1 : Int32) (x2 : Int32) (x3 : Int32) (x4 : Int32) (Q : Hp → Prop) : Prop :=
  okA S 9 x0 ∧ (wp_X9_isLeader S x0 x1 (fun r3 S2 => if r3 = 0 then (okA S2 9 x0 ∧ (wp_X9_asks S2 x0 (0 : Int32) (fun r6 S5 => if r6 = 0 then (Q S5) else (wp_X9_isDay S5 x3 (fun r8 S7 => if r8 = 0 then (okA S7 9 x0 ∧ (lt (s_I S7 931 x0 (2 : Int32)) (fun S10 => Q S10))) else (wp_X9_in S7 x4 x3 (9999 : Int32) (fun r12 S11 => if r12 = 0 then (okA S11 9 x0 ∧ (lt (s_I S11 931 x0 (2 : Int32)) (fun S26 => Q S26))) else (okA S11 9 x0 ∧ (rd S11 11 (g_P S11 920 x0) (fun a14 => vp_in (((6 : Int32) * x1) + ((2 : Int32) * x2)) (g_N S11 a14) ∧ (lt (s_R S11 a14 (((6 : Int32) * x1) + ((2 : Int32) * x2)).toNatClampNeg x3) (fun S18 => okA S18 9 x0 ∧ (rd S18 11 (g_P S18 920 x0) (fun a20 => vp_in ((((6 : Int32) * x1) + ((2 : Int32) * x2)) + (1 : Int32)) (g_N S18 a20) ∧ (lt (s_R S18 a20 ((((6 : Int32) * x1) + ((2 : Int32) * x2)) + (1 : Int32)).toNatClampNeg x4) (fun S24 => Q S24)))))))))))))))) else (wp_X9_isLand S2 x2 (fun r28 S27 => if r28 = 0 then (okA S27 9 x0 ∧ (wp_X9_asks S27 x0 (0 : Int32) (fun r31 S30 => if r31 = 0 then (Q S30) else (wp_X9_isDay S30 x3 (fun r33 S32 => if r33 = 0 then (okA S32 9 x0 ∧ (lt (s_I S32 931 x0 (2 : Int32)) (fun S35 => Q S35))) else (wp_X9_in S32 x4 x3 (9999 : Int32) (fun r37 S36 => if r37 = 0 then (okA S36 9 x0 ∧ (lt (s_I S36 931 x0 (2 : Int32)) (fun S51 => Q S51))) else (okA S36 9 x0 ∧ (rd S36 11 (g_P S36 920 x0) (fun a39 => vp_in (((6 : Int32) * x1) + ((2 : Int32) * x2)) (g_N S36 a39) ∧ (lt (s_R S36 a39 (((6 : Int32) * x1) + ((2 : Int32) * x2)).toNatClampNeg x3) (fun S43 => okA S43 9 x0 ∧ (rd S43 11 (g_P S43 920 x0) (fun a45 => vp_in ((((6 : Int32) * x1) + ((2 : Int32) * x2)) + (1 : Int32)) (g_N S43 a45) ∧ (lt (s_R S43 a45 ((((6 : Int32) * x1) + ((2 : Int32) * x2)) + (1 : Int32)).toNatClampNeg x4) (fun S49 => Q S49)))))))))))))))) else (okA S27 9 x0 ∧ (wp_X9_asks S27 x0 (1 : Int32) (fun r54 S53 => if r54 = 0 then (Q S53) else (wp_X9_isDay S53 x3 (fun r56 S55 => if r56 = 0 then (okA S55 9 x0 ∧ (lt (s_I S55 931 x0 (2 : Int32)) (fun S58 => Q S58))) else (wp_X9_in S55 x4 x3 (9999 : Int32) (fun r60 S59 => if r60 = 0 then (okA S59 9 x0 ∧ (lt (s_I S59 931 x0 (2 : Int32)) (fun S74 => Q S74))) else (okA S59 9 x0 ∧ (rd S59 11 (g_P S59 920 x0) (fun a62 => vp_in (((6 : Int32) * x1) + ((2 : Int32) * x2)) (g_N S59 a62) ∧ (lt (s_R S59 a62 (((6 : Int32) * x1) + ((2 : Int32) * x2)).toNatClampNeg x3) (fun S66 => okA S66 9 x0 ∧ (rd S66 11 (g_P S66 920 x0) (fun a68 => vp_in ((((6 : Int32) * x1) + ((2 : Int32) * x2)) + (1 : Int32)) (g_N S66 a68) ∧ (lt (s_R S66 a68 ((((6 : Int32) * x1) + ((2 : Int32) * x2)) + (1 : Int32)).toNatClampNeg x4) (fun S72 => Q S72))))))))))))))))))))
def rm_X9_vet : Room := { frames := 2, cells := 0, slots := 0, locals := 43 }
set_option maxHeartbeats 4000000 in
set_option maxRecDepth 100000 in
theorem c_X9_vet (l : Launch) (v : Ev) (S : Hp) (x0 : Nat) (x1 : Int32) (x2 : Int32) (x3 : Int32) (x4 : Int32) : CV l v yX9_vet cX9_vet 5 none rm_X9_vet [va_rf (some x0), .int x1, .int x2, .int x3, .int x4] S (fun Q _ => wp_X9_vet S x0 x1 x2 x3 x4 Q) := by
  intro Q EQ h
  refine z_start [(0, va_rf (some x0)), (1, .int x1), (2, .int x2), (3, .int x3), (4, .int x4)] (by decide +kernel) (by simp only [la_i, la_r, la_n]) (cat_cr (cat_ci (cat_ci (cat_ci (cat_ci cat_nil))))) (by simp only [ls_i, ls_r, ls_n]; decide) (fun z C N T => ?_)
  unfold wp_X9_vet at h
  refine z_aload_n C (pc := 0) dX9_vet_0 0 rfl ?_
  refine z_aload_n C (pc := 1) dX9_vet_1 0 rfl ?_
  refine z_iload_n C (pc := 2) dX9_vet_2 1 rfl ?_
  obtain ⟨o1, h⟩ := h
  refine z_Vi C (pc := 3) (KX := fun _ _ => False) (kc' := 0) (ks' := 0) (As := [.int x1]) (rest := [va_rf (some x0)]) rfl (c_X9_isLeader l v S x0 x1) mw_X9_isLeader bw_1108 bw_1110 bw_p43 (fit_of rfl) rfl rfl (Nat.le_of_ble_eq_true rfl) (by decide) rfl o1 dX9_vet_3 h (fun r3 S2 h => ?_) (fun En S9 h => h.elim)
  refine z_if_eq C (pc := 6) (tgt := 20) dX9_vet_6 (by decide) h (fun h => ?_) (fun h => ?_)
  · refine z_iconst C (pc := 20) (x := (0 : Int32)) dX9_vet_20 kic_0 ?_
    obtain ⟨o4, h⟩ := h
    refine z_Vi C (pc := 21) (KX := fun _ _ => False) (kc' := 0) (ks' := 0) (As := [.int (0 : Int32)]) (rest := []) rfl (c_X9_asks l v S2 x0 (0 : Int32)) mw_X9_asks bw_1017 bw_1019 bw_p30 (fit_of rfl) rfl rfl (Nat.le_of_ble_eq_true rfl) (by decide) rfl o4 dX9_vet_21 h (fun r6 S5 h => ?_) (fun En S9 h => h.elim)
    refine z_if_ne C (pc := 24) (tgt := 28) dX9_vet_24 (by decide) h (fun h => ?_) (fun h => ?_)
    · refine z_iload_n C (pc := 28) dX9_vet_28 3 rfl ?_
      refine z_Si C (pc := 29) (KX := fun _ _ => False) (kc' := 0) (ks' := 0) (As := [.int x3]) (rest := []) (c_X9_isDay l v S5 x3) mw_X9_isDay bw_1085 bw_1086 (fit_of rfl) rfl rfl (Nat.le_of_ble_eq_true rfl) dX9_vet_29 h (fun r8 S7 h => ?_) (fun En S9 h => h.elim)
      refine z_if_eq C (pc := 32) (tgt := 47) dX9_vet_32 (by decide) h (fun h => ?_) (fun h => ?_)
      · refine z_aload_n C (pc := 47) dX9_vet_47 0 rfl ?_
        refine z_iconst C (pc := 48) (x := (2 : Int32)) dX9_vet_48 kic_2 ?_
        obtain ⟨o9, h⟩ := h
        refine z_putI C (pc := 49) kf9 31 (by decide) rfl rfl bw_939 (fun _ _ _ _ h => h) dX9_vet_49 rfl o9 ?_
        refine z_lt h (fun S10 h => ?_)
        exact z_vret C (pc := 52) T dX9_vet_52 (by decide) (by decide) h
      · refine z_iload C (pc := 35) dX9_vet_35 4 rfl ?_
        refine z_iload_n C (pc := 37) dX9_vet_37 3 rfl ?_
        refine z_sipush C (pc := 38) (x := (9999 : Int32)) dX9_vet_38 ksp_9999 ?_
        refine z_Si C (pc := 41) (KX := fun _ _ => False) (kc' := 0) (ks' := 0) (As := [.int x4, .int x3, .int (9999 : Int32)]) (rest := []) (c_X9_in l v S7 x4 x3 (9999 : Int32)) mw_X9_in bw_1014 bw_1015 (fit_of rfl) rfl rfl (Nat.le_of_ble_eq_true rfl) dX9_vet_41 h (fun r12 S11 h => ?_) (fun En S9 h => h.elim)
        refine z_if_ne C (pc := 44) (tgt := 53) dX9_vet_44 (by decide) h (fun h => ?_) (fun h => ?_)
        · refine z_aload_n C (pc := 53) dX9_vet_53 0 rfl ?_
          obtain ⟨o13, h⟩ := h
          refine z_getP C (pc := 54) kf9 20 (by decide) rfl bw_928 (fun _ _ _ _ h => h) dX9_vet_54 rfl o13 ?_
          refine z_bipush C (pc := 57) (x := (6 : Int32)) dX9_vet_57 kbp_6 ?_
          refine z_iload_n C (pc := 59) dX9_vet_59 1 rfl ?_
          refine z_imul C (pc := 60) dX9_vet_60 ?_
          refine z_iconst C (pc := 61) (x := (2 : Int32)) dX9_vet_61 kic_2 ?_
          refine z_iload_n C (pc := 62) dX9_vet_62 2 rfl ?_
          refine z_imul C (pc := 63) dX9_vet_63 ?_
          refine z_iadd C (pc := 64) dX9_vet_64 ?_
          refine z_iload_n C (pc := 65) dX9_vet_65 3 rfl ?_
          obtain ⟨a14, e15, o16, h⟩ := h
          obtain ⟨v17, h⟩ := h
          refine z_iast C (pc := 66) dX9_vet_66 e15 o16 v17 ?_
          refine z_lt h (fun S18 h => ?_)
          refine z_aload_n C (pc := 67) dX9_vet_67 0 rfl ?_
          obtain ⟨o19, h⟩ := h
          refine z_getP C (pc := 68) kf9 20 (by decide) rfl bw_928 (fun _ _ _ _ h => h) dX9_vet_68 rfl o19 ?_
          refine z_bipush C (pc := 71) (x := (6 : Int32)) dX9_vet_71 kbp_6 ?_
          refine z_iload_n C (pc := 73) dX9_vet_73 1 rfl ?_
          refine z_imul C (pc := 74) dX9_vet_74 ?_
          refine z_iconst C (pc := 75) (x := (2 : Int32)) dX9_vet_75 kic_2 ?_
          refine z_iload_n C (pc := 76) dX9_vet_76 2 rfl ?_
          refine z_imul C (pc := 77) dX9_vet_77 ?_
          refine z_iadd C (pc := 78) dX9_vet_78 ?_
          refine z_iconst C (pc := 79) (x := (1 : Int32)) dX9_vet_79 kic_1 ?_
          refine z_iadd C (pc := 80) dX9_vet_80 ?_
          refine z_iload C (pc := 81) dX9_vet_81 4 rfl ?_
          obtain ⟨a20, e21, o22, h⟩ := h
          obtain ⟨v23, h⟩ := h
          refine z_iast C (pc := 83) dX9_vet_83 e21 o22 v23 ?_
          refine z_lt h (fun S24 h => ?_)
          exact z_vret C (pc := 84) T dX9_vet_84 (by decide) (by decide) h
        · refine z_aload_n C (pc := 47) dX9_vet_47 0 rfl ?_
          refine z_iconst C (pc := 48) (x := (2 : Int32)) dX9_vet_48 kic_2 ?_
          obtain ⟨o25, h⟩ := h
          refine z_putI C (pc := 49) kf9 31 (by decide) rfl rfl bw_939 (fun _ _ _ _ h => h) dX9_vet_49 rfl o25 ?_
          refine z_lt h (fun S26 h => ?_)
          exact z_vret C (pc := 52) T dX9_vet_52 (by decide) (by decide) h
    · exact z_vret C (pc := 27) T dX9_vet_27 (by decide) (by decide) h
  · refine z_iload_n C (pc := 9) dX9_vet_9 2 rfl ?_
    refine z_Si C (pc := 10) (KX := fun _ _ => False) (kc' := 0) (ks' := 0) (As := [.int x2]) (rest := [va_rf (some x0)]) (c_X9_isLand l v S2 x2) mw_X9_isLand bw_1112 bw_1113 (fit_of rfl) rfl rfl (Nat.le_of_ble_eq_true rfl) dX9_vet_10 h (fun r28 S27 h => ?_) (fun En S9 h => h.elim)
    refine z_if_eq C (pc := 13) (tgt := 20) dX9_vet_13 (by decide) h (fun h => ?_) (fun h => ?_)
    · refine z_iconst C (pc := 20) (x := (0 : Int32)) dX9_vet_20 kic_0 ?_
      obtain ⟨o29, h⟩ := h
      refine z_Vi C (pc := 21) (KX := fun _ _ => False) (kc' := 0) (ks' := 0) (As := [.int (0 : Int32)]) (rest := []) rfl (c_X9_asks l v S27 x0 (0 : Int32)) mw_X9_asks bw_1017 bw_1019 bw_p30 (fit_of rfl) rfl rfl (Nat.le_of_ble_eq_true rfl) (by decide) rfl o29 dX9_vet_21 h (fun r31 S30 h => ?_) (fun En S9 h => h.elim)
      refine z_if_ne C (pc := 24) (tgt := 28) dX9_vet_24 (by decide) h (fun h => ?_) (fun h => ?_)
      · refine z_iload_n C (pc := 28) dX9_vet_28 3 rfl ?_
        refine z_Si C (pc := 29) (KX := fun _ _ => False) (kc' := 0) (ks' := 0) (As := [.int x3]) (rest := []) (c_X9_isDay l v S30 x3) mw_X9_isDay bw_1085 bw_1086 (fit_of rfl) rfl rfl (Nat.le_of_ble_eq_true rfl) dX9_vet_29 h (fun r33 S32 h => ?_) (fun En S9 h => h.elim)
        refine z_if_eq C (pc := 32) (tgt := 47) dX9_vet_32 (by decide) h (fun h => ?_) (fun h => ?_)
        · refine z_aload_n C (pc := 47) dX9_vet_47 0 rfl ?_
          refine z_iconst C (pc := 48) (x := (2 : Int32)) dX9_vet_48 kic_2 ?_
          obtain ⟨o34, h⟩ := h
          refine z_putI C (pc := 49) kf9 31 (by decide) rfl rfl bw_939 (fun _ _ _ _ h => h) dX9_vet_49 rfl o34 ?_
          refine z_lt h (fun S35 h => ?_)
          exact z_vret C (pc := 52) T dX9_vet_52 (by decide) (by decide) h
        · refine z_iload C (pc := 35) dX9_vet_35 4 rfl ?_
          refine z_iload_n C (pc := 37) dX9_vet_37 3 rfl ?_
          refine z_sipush C (pc := 38) (x := (9999 : Int32)) dX9_vet_38 ksp_9999 ?_
          refine z_Si C (pc := 41) (KX := fun _ _ => False) (kc' := 0) (ks' := 0) (As := [.int x4, .int x3, .int (9999 : Int32)]) (rest := []) (c_X9_in l v S32 x4 x3 (9999 : Int32)) mw_X9_in bw_1014 bw_1015 (fit_of rfl) rfl rfl (Nat.le_of_ble_eq_true rfl) dX9_vet_41 h (fun r37 S36 h => ?_) (fun En S9 h => h.elim)
          refine z_if_ne C (pc := 44) (tgt := 53) dX9_vet_44 (by decide) h (fun h => ?_) (fun h => ?_)
          · refine z_aload_n C (pc := 53) dX9_vet_53 0 rfl ?_
            obtain ⟨o38, h⟩ := h
            refine z_getP C (pc := 54) kf9 20 (by decide) rfl bw_928 (fun _ _ _ _ h => h) dX9_vet_54 rfl o38 ?_
            refine z_bipush C (pc := 57) (x := (6 : Int32)) dX9_vet_57 kbp_6 ?_
            refine z_iload_n C (pc := 59) dX9_vet_59 1 rfl ?_
            refine z_imul C (pc := 60) dX9_vet_60 ?_
            refine z_iconst C (pc := 61) (x := (2 : Int32)) dX9_vet_61 kic_2 ?_
            refine z_iload_n C (pc := 62) dX9_vet_62 2 rfl ?_
            refine z_imul C (pc := 63) dX9_vet_63 ?_
            refine z_iadd C (pc := 64) dX9_vet_64 ?_
            refine z_iload_n C (pc := 65) dX9_vet_65 3 rfl ?_
            obtain ⟨a39, e40, o41, h⟩ := h
            obtain ⟨v42, h⟩ := h
            refine z_iast C (pc := 66) dX9_vet_66 e40 o41 v42 ?_
            refine z_lt h (fun S43 h => ?_)
            refine z_aload_n C (pc := 67) dX9_vet_67 0 rfl ?_
            obtain ⟨o44, h⟩ := h
            refine z_getP C (pc := 68) kf9 20 (by decide) rfl bw_928 (fun _ _ _ _ h => h) dX9_vet_68 rfl o44 ?_
            refine z_bipush C (pc := 71) (x := (6 : Int32)) dX9_vet_71 kbp_6 ?_
            refine z_iload_n C (pc := 73) dX9_vet_73 1 rfl ?_
            refine z_imul C (pc := 74) dX9_vet_74 ?_
            refine z_iconst C (pc := 75) (x := (2 : Int32)) dX9_vet_75 kic_2 ?_
            refine z_iload_n C (pc := 76) dX9_vet_76 2 rfl ?_
            refine z_imul C (pc := 77) dX9_vet_77 ?_
            refine z_iadd C (pc := 78) dX9_vet_78 ?_
            refine z_iconst C (pc := 79) (x := (1 : Int32)) dX9_vet_79 kic_1 ?_
            refine z_iadd C (pc := 80) dX9_vet_80 ?_
            refine z_iload C (pc := 81) dX9_vet_81 4 rfl ?_
            obtain ⟨a45, e46, o47, h⟩ := h
            obtain ⟨v48, h⟩ := h
            refine z_iast C (pc := 83) dX9_vet_83 e46 o47 v48 ?_
            refine z_lt h (fun S49 h => ?_)
            exact z_vret C (pc := 84) T dX9_vet_84 (by decide) (by decide) h
          · refine z_aload_n C (pc := 47) dX9_vet_47 0 rfl ?_
            refine z_iconst C (pc := 48) (x := (2 : Int32)) dX9_vet_48 kic_2 ?_
            obtain ⟨o50, h⟩ := h
            refine z_putI C (pc := 49) kf9 31 (by decide) rfl rfl bw_939 (fun _ _ _ _ h => h) dX9_vet_49 rfl o50 ?_
            refine z_lt h (fun S51 h => ?_)
            exact z_vret C (pc := 52) T dX9_vet_52 (by decide) (by decide) h
      · exact z_vret C (pc := 27) T dX9_vet_27 (by decide) (by decide) h
    · refine z_iconst C (pc := 16) (x := (1 : Int32)) dX9_vet_16 kic_1 ?_
      refine z_goto C (pc := 17) (tgt := 21) dX9_vet_17 (by decide) ?_
      obtain ⟨o52, h⟩ := h
      refine z_Vi C (pc := 21) (KX := fun _ _ => False) (kc' := 0) (ks' := 0) (As := [.int (1 : Int32)]) (rest := []) rfl (c_X9_asks l v S27 x0 (1 : Int32)) mw_X9_asks bw_1017 bw_1019 bw_p30 (fit_of rfl) rfl rfl (Nat.le_of_ble_eq_true rfl) (by decide) rfl o52 dX9_vet_21 h (fun r54 S53 h => ?_) (fun En S9 h => h.elim)
      refine z_if_ne C (pc := 24) (tgt := 28) dX9_vet_24 (by decide) h (fun h => ?_) (fun h => ?_)
      · refine z_iload_n C (pc := 28) dX9_vet_28 3 rfl ?_
        refine z_Si C (pc := 29) (KX := fun _ _ => False) (kc' := 0) (ks' := 0) (As := [.int x3]) (rest := []) (c_X9_isDay l v S53 x3) mw_X9_isDay bw_1085 bw_1086 (fit_of rfl) rfl rfl (Nat.le_of_ble_eq_true rfl) dX9_vet_29 h (fun r56 S55 h => ?_) (fun En S9 h => h.elim)
        refine z_if_eq C (pc := 32) (tgt := 47) dX9_vet_32 (by decide) h (fun h => ?_) (fun h => ?_)
        · refine z_aload_n C (pc := 47) dX9_vet_47 0 rfl ?_
          refine z_iconst C (pc := 48) (x := (2 : Int32)) dX9_vet_48 kic_2 ?_
          obtain ⟨o57, h⟩ := h
          refine z_putI C (pc := 49) kf9 31 (by decide) rfl rfl bw_939 (fun _ _ _ _ h => h) dX9_vet_49 rfl o57 ?_
          refine z_lt h (fun S58 h => ?_)
          exact z_vret C (pc := 52) T dX9_vet_52 (by decide) (by decide) h
        · refine z_iload C (pc := 35) dX9_vet_35 4 rfl ?_
          refine z_iload_n C (pc := 37) dX9_vet_37 3 rfl ?_
          refine z_sipush C (pc := 38) (x := (9999 : Int32)) dX9_vet_38 ksp_9999 ?_
          refine z_Si C (pc := 41) (KX := fun _ _ => False) (kc' := 0) (ks' := 0) (As := [.int x4, .int x3, .int (9999 : Int32)]) (rest := []) (c_X9_in l v S55 x4 x3 (9999 : Int32)) mw_X9_in bw_1014 bw_1015 (fit_of rfl) rfl rfl (Nat.le_of_ble_eq_true rfl) dX9_vet_41 h (fun r60 S59 h => ?_) (fun En S9 h => h.elim)
          refine z_if_ne C (pc := 44) (tgt := 53) dX9_vet_44 (by decide) h (fun h => ?_) (fun h => ?_)
          · refine z_aload_n C (pc := 53) dX9_vet_53 0 rfl ?_
            obtain ⟨o61, h⟩ := h
            refine z_getP C (pc := 54) kf9 20 (by decide) rfl bw_928 (fun _ _ _ _ h => h) dX9_vet_54 rfl o61 ?_
            refine z_bipush C (pc := 57) (x := (6 : Int32)) dX9_vet_57 kbp_6 ?_
            refine z_iload_n C (pc := 59) dX9_vet_59 1 rfl ?_
            refine z_imul C (pc := 60) dX9_vet_60 ?_
            refine z_iconst C (pc := 61) (x := (2 : Int32)) dX9_vet_61 kic_2 ?_
            refine z_iload_n C (pc := 62) dX9_vet_62 2 rfl ?_
            refine z_imul C (pc := 63) dX9_vet_63 ?_
            refine z_iadd C (pc := 64) dX9_vet_64 ?_
            refine z_iload_n C (pc := 65) dX9_vet_65 3 rfl ?_
            obtain ⟨a62, e63, o64, h⟩ := h
            obtain ⟨v65, h⟩ := h
            refine z_iast C (pc := 66) dX9_vet_66 e63 o64 v65 ?_
            refine z_lt h (fun S66 h => ?_)
            refine z_aload_n C (pc := 67) dX9_vet_67 0 rfl ?_
            obtain ⟨o67, h⟩ := h
            refine z_getP C (pc := 68) kf9 20 (by decide) rfl bw_928 (fun _ _ _ _ h => h) dX9_vet_68 rfl o67 ?_
            refine z_bipush C (pc := 71) (x := (6 : Int32)) dX9_vet_71 kbp_6 ?_
            refine z_iload_n C (pc := 73) dX9_vet_73 1 rfl ?_
            refine z_imul C (pc := 74) dX9_vet_74 ?_
            refine z_iconst C (pc := 75) (x := (2 : Int32)) dX9_vet_75 kic_2 ?_
            refine z_iload_n C (pc := 76) dX9_vet_76 2 rfl ?_
            refine z_imul C (pc := 77) dX9_vet_77 ?_
            refine z_iadd C (pc := 78) dX9_vet_78 ?_
            refine z_iconst C (pc := 79) (x := (1 : Int32)) dX9_vet_79 kic_1 ?_
            refine z_iadd C (pc := 80) dX9_vet_80 ?_
            refine z_iload C (pc := 81) dX9_vet_81 4 rfl ?_
            obtain ⟨a68, e69, o70, h⟩ := h
            obtain ⟨v71, h⟩ := h
            refine z_iast C (pc := 83) dX9_vet_83 e69 o70 v71 ?_
            refine z_lt h (fun S72 h => ?_)
            exact z_vret C (pc := 84) T dX9_vet_84 (by decide) (by decide) h
          · refine z_aload_n C (pc := 47) dX9_vet_47 0 rfl ?_
            refine z_iconst C (pc := 48) (x := (2 : Int32)) dX9_vet_48 kic_2 ?_
            obtain ⟨o73, h⟩ := h
            refine z_putI C (pc := 49) kf9 31 (by decide) rfl rfl bw_939 (fun _ _ _ _ h => h) dX9_vet_49 rfl o73 ?_
            refine z_lt h (fun S74 h => ?_)
            exact z_vret C (pc := 52) T dX9_vet_52 (by decide) (by decide) h
      · exact z_vret C (pc := 27) T dX9_vet_27 (by decide) (by decide) h
def wp_X9_isVetted (S : Hp) (x0 : Nat) (x1 : Int32) (x2 : Int32) (x3 : Int32) (Q : Int32 → Hp → Prop) : Prop :=
  okA S 9 x0 ∧ (rd S 11 (g_P S 920 x0) (fun a2 => vp_in (((6 : Int32) * x1) + ((2 : Int32) * x2)) (g_N S a2) ∧ (rd S 11 (g_P S 920 x0) (fun a6 => vp_in ((((6 : Int32) * x1) + ((2 : Int32) * x2)) + (1 : Int32)) (g_N S a6) ∧ (wp_X9_in S x3 (g_R S a2 (((6 : Int32) * x1) + ((2 : Int32) * x2)).toNatClampNeg) (g_R S a6 ((((6 : Int32) * x1) + ((2 : Int32) * x2)) + (1 : Int32)).toNatClampNeg) (fun r11 S10 => bz r11 (Q r11 S10)))))))
def rm_X9_isVetted : Room := { frames := 1, cells := 0, slots := 0, locals := 22 }
set_option maxHeartbeats 4000000 in
set_option maxRecDepth 100000 in
theorem c_X9_isVetted (l : Launch) (v : Ev) (S : Hp) (x0 : Nat) (x1 : Int32) (x2 : Int32) (x3 : Int32) : CI l v yX9_isVetted cX9_isVetted 4 (some .boolean) rm_X9_isVetted [va_rf (some x0), .int x1, .int x2, .int x3] S (fun Q _ => wp_X9_isVetted S x0 x1 x2 x3 Q) := by
  intro Q EQ h
  refine z_start [(0, va_rf (some x0)), (1, .int x1), (2, .int x2), (3, .int x3)] (by decide +kernel) (by simp only [la_i, la_r, la_n]) (cat_cr (cat_ci (cat_ci (cat_ci cat_nil)))) (by simp only [ls_i, ls_r, ls_n]; decide) (fun z C N T => ?_)
  unfold wp_X9_isVetted at h
  refine z_iload_n C (pc := 0) dX9_isVetted_0 3 rfl ?_
  refine z_aload_n C (pc := 1) dX9_isVetted_1 0 rfl ?_
  obtain ⟨o1, h⟩ := h
  refine z_getP C (pc := 2) kf9 20 (by decide) rfl bw_928 (fun _ _ _ _ h => h) dX9_isVetted_2 rfl o1 ?_
  refine z_bipush C (pc := 5) (x := (6 : Int32)) dX9_isVetted_5 kbp_6 ?_
  refine z_iload_n C (pc := 7) dX9_isVetted_7 1 rfl ?_
  refine z_imul C (pc := 8) dX9_isVetted_8 ?_
  refine z_iconst C (pc := 9) (x := (2 : Int32)) dX9_isVetted_9 kic_2 ?_
  refine z_iload_n C (pc := 10) dX9_isVetted_10 2 rfl ?_
  refine z_imul C (pc := 11) dX9_isVetted_11 ?_
  refine z_iadd C (pc := 12) dX9_isVetted_12 ?_
  obtain ⟨a2, e3, o4, h⟩ := h
  obtain ⟨v5, h⟩ := h
  refine z_iald C (pc := 13) dX9_isVetted_13 e3 o4 v5 ?_
  refine z_aload_n C (pc := 14) dX9_isVetted_14 0 rfl ?_
  refine z_getP C (pc := 15) kf9 20 (by decide) rfl bw_928 (fun _ _ _ _ h => h) dX9_isVetted_15 rfl o1 ?_
  refine z_bipush C (pc := 18) (x := (6 : Int32)) dX9_isVetted_18 kbp_6 ?_
  refine z_iload_n C (pc := 20) dX9_isVetted_20 1 rfl ?_
  refine z_imul C (pc := 21) dX9_isVetted_21 ?_
  refine z_iconst C (pc := 22) (x := (2 : Int32)) dX9_isVetted_22 kic_2 ?_
  refine z_iload_n C (pc := 23) dX9_isVetted_23 2 rfl ?_
  refine z_imul C (pc := 24) dX9_isVetted_24 ?_
  refine z_iadd C (pc := 25) dX9_isVetted_25 ?_
  refine z_iconst C (pc := 26) (x := (1 : Int32)) dX9_isVetted_26 kic_1 ?_
  refine z_iadd C (pc := 27) dX9_isVetted_27 ?_
  obtain ⟨a6, e7, o8, h⟩ := h
  obtain ⟨v9, h⟩ := h
  refine z_iald C (pc := 28) dX9_isVetted_28 e7 o8 v9 ?_
  refine z_Si C (pc := 29) (KX := fun _ _ => False) (kc' := 0) (ks' := 0) (As := [.int x3, .int (g_R S a2 (((6 : Int32) * x1) + ((2 : Int32) * x2)).toNatClampNeg), .int (g_R S a6 ((((6 : Int32) * x1) + ((2 : Int32) * x2)) + (1 : Int32)).toNatClampNeg)]) (rest := []) (c_X9_in l v S x3 (g_R S a2 (((6 : Int32) * x1) + ((2 : Int32) * x2)).toNatClampNeg) (g_R S a6 ((((6 : Int32) * x1) + ((2 : Int32) * x2)) + (1 : Int32)).toNatClampNeg)) mw_X9_in bw_1014 bw_1015 (fit_of rfl) rfl rfl (Nat.le_of_ble_eq_true rfl) dX9_isVetted_29 h (fun r11 S10 h => ?_) (fun En S9 h => h.elim)
  exact z_zret C (pc := 32) T dX9_isVetted_32 (by decide) (by decide) h
def wp_X9_permit (S : Hp) (x0 : Nat) (x1 : Int32) (x2 : Int32) (x3 : Int32) (Q : Int32 → Hp → Prop) : Prop :=
  okA S 9 x0 ∧ (wp_X9_isLeader S x0 x1 (fun r3 S2 => okA S2 9 x0 ∧ (wp_X9_asks S2 x0 r3 (fun r6 S5 => if r6 = 0 then (Q (0 : Int32) S5) else (wp_X9_in S5 x2 (1 : Int32) (3 : Int32) (fun r8 S7 => if r8 = 0 then (okA S7 9 x0 ∧ (wp_X9_fails S7 x0 (2 : Int32) (fun r11 S10 => Q r11 S10))) else (wp_X9_in S7 x3 (-1 : Int32) (9999 : Int32) (fun r13 S12 => if r13 = 0 then (okA S12 9 x0 ∧ (wp_X9_fails S12 x0 (2 : Int32) (fun r27 S26 => Q r27 S26))) else (okA S12 9 x0 ∧ (rd S12 11 (g_P S12 921 x0) (fun a15 => vp_in ((((3 : Int32) * x1) + x2) - (1 : Int32)) (g_N S12 a15) ∧ (lt (g_R S12 a15 ((((3 : Int32) * x1) + x2) - (1 : Int32)).toNatClampNeg) (fun y19 => rd S12 11 (g_P S12 921 x0) (fun a20 => vp_in ((((3 : Int32) * x1) + x2) - (1 : Int32)) (g_N S12 a20) ∧ (lt (s_R S12 a20 ((((3 : Int32) * x1) + x2) - (1 : Int32)).toNatClampNeg x3) (fun S24 => Q y19 S24))))))))))))))))
def rm_X9_permit : Room := { frames := 2, cells := 0, slots := 0, locals := 43 }
set_option maxHeartbeats 4000000 in
set_option maxRecDepth 100000 in
theorem c_X9_permit (l : Launch) (v : Ev) (S : Hp) (x0 : Nat) (x1 : Int32) (x2 : Int32) (x3 : Int32) : CI l v yX9_permit cX9_permit 5 (some .int) rm_X9_permit [va_rf (some x0), .int x1, .int x2, .int x3] S (fun Q _ => wp_X9_permit S x0 x1 x2 x3 Q) := by
  intro Q EQ h
  refine z_start [(0, va_rf (some x0)), (1, .int x1), (2, .int x2), (3, .int x3)] (by decide +kernel) (by simp only [la_i, la_r, la_n]) (cat_cr (cat_ci (cat_ci (cat_ci cat_nil)))) (by simp only [ls_i, ls_r, ls_n]; decide) (fun z C N T => ?_)
  unfold wp_X9_permit at h
  refine z_aload_n C (pc := 0) dX9_permit_0 0 rfl ?_
  refine z_aload_n C (pc := 1) dX9_permit_1 0 rfl ?_
  refine z_iload_n C (pc := 2) dX9_permit_2 1 rfl ?_
  obtain ⟨o1, h⟩ := h
  refine z_Vi C (pc := 3) (KX := fun _ _ => False) (kc' := 0) (ks' := 0) (As := [.int x1]) (rest := [va_rf (some x0)]) rfl (c_X9_isLeader l v S x0 x1) mw_X9_isLeader bw_1108 bw_1110 bw_p43 (fit_of rfl) rfl rfl (Nat.le_of_ble_eq_true rfl) (by decide) rfl o1 dX9_permit_3 h (fun r3 S2 h => ?_) (fun En S9 h => h.elim)
  obtain ⟨o4, h⟩ := h
  refine z_Vi C (pc := 6) (KX := fun _ _ => False) (kc' := 0) (ks' := 0) (As := [.int r3]) (rest := []) rfl (c_X9_asks l v S2 x0 r3) mw_X9_asks bw_1017 bw_1019 bw_p30 (fit_of rfl) rfl rfl (Nat.le_of_ble_eq_true rfl) (by decide) rfl o4 dX9_permit_6 h (fun r6 S5 h => ?_) (fun En S9 h => h.elim)
  refine z_if_ne C (pc := 9) (tgt := 14) dX9_permit_9 (by decide) h (fun h => ?_) (fun h => ?_)
  · refine z_iload_n C (pc := 14) dX9_permit_14 2 rfl ?_
    refine z_iconst C (pc := 15) (x := (1 : Int32)) dX9_permit_15 kic_1 ?_
    refine z_iconst C (pc := 16) (x := (3 : Int32)) dX9_permit_16 kic_3 ?_
    refine z_Si C (pc := 17) (KX := fun _ _ => False) (kc' := 0) (ks' := 0) (As := [.int x2, .int (1 : Int32), .int (3 : Int32)]) (rest := []) (c_X9_in l v S5 x2 (1 : Int32) (3 : Int32)) mw_X9_in bw_1014 bw_1015 (fit_of rfl) rfl rfl (Nat.le_of_ble_eq_true rfl) dX9_permit_17 h (fun r8 S7 h => ?_) (fun En S9 h => h.elim)
    refine z_if_eq C (pc := 20) (tgt := 34) dX9_permit_20 (by decide) h (fun h => ?_) (fun h => ?_)
    · refine z_aload_n C (pc := 34) dX9_permit_34 0 rfl ?_
      refine z_iconst C (pc := 35) (x := (2 : Int32)) dX9_permit_35 kic_2 ?_
      obtain ⟨o9, h⟩ := h
      refine z_Vi C (pc := 36) (KX := fun _ _ => False) (kc' := 0) (ks' := 0) (As := [.int (2 : Int32)]) (rest := []) rfl (c_X9_fails l v S7 x0 (2 : Int32)) mw_X9_fails bw_1021 bw_1023 bw_p31 (fit_of rfl) rfl rfl (Nat.le_of_ble_eq_true rfl) (by decide) rfl o9 dX9_permit_36 h (fun r11 S10 h => ?_) (fun En S9 h => h.elim)
      exact z_iret C (pc := 39) T dX9_permit_39 (by decide) (by decide) h
    · refine z_iload_n C (pc := 23) dX9_permit_23 3 rfl ?_
      refine z_iconst C (pc := 24) (x := (-1 : Int32)) dX9_permit_24 kic_m1 ?_
      refine z_sipush C (pc := 25) (x := (9999 : Int32)) dX9_permit_25 ksp_9999 ?_
      refine z_Si C (pc := 28) (KX := fun _ _ => False) (kc' := 0) (ks' := 0) (As := [.int x3, .int (-1 : Int32), .int (9999 : Int32)]) (rest := []) (c_X9_in l v S7 x3 (-1 : Int32) (9999 : Int32)) mw_X9_in bw_1014 bw_1015 (fit_of rfl) rfl rfl (Nat.le_of_ble_eq_true rfl) dX9_permit_28 h (fun r13 S12 h => ?_) (fun En S9 h => h.elim)
      refine z_if_ne C (pc := 31) (tgt := 40) dX9_permit_31 (by decide) h (fun h => ?_) (fun h => ?_)
      · refine z_aload_n C (pc := 40) dX9_permit_40 0 rfl ?_
        obtain ⟨o14, h⟩ := h
        refine z_getP C (pc := 41) kf9 21 (by decide) rfl bw_929 (fun _ _ _ _ h => h) dX9_permit_41 rfl o14 ?_
        refine z_iconst C (pc := 44) (x := (3 : Int32)) dX9_permit_44 kic_3 ?_
        refine z_iload_n C (pc := 45) dX9_permit_45 1 rfl ?_
        refine z_imul C (pc := 46) dX9_permit_46 ?_
        refine z_iload_n C (pc := 47) dX9_permit_47 2 rfl ?_
        refine z_iadd C (pc := 48) dX9_permit_48 ?_
        refine z_iconst C (pc := 49) (x := (1 : Int32)) dX9_permit_49 kic_1 ?_
        refine z_isub C (pc := 50) dX9_permit_50 ?_
        obtain ⟨a15, e16, o17, h⟩ := h
        obtain ⟨v18, h⟩ := h
        refine z_iald C (pc := 51) dX9_permit_51 e16 o17 v18 ?_
        refine z_nI h (fun y19 h => ?_)
        refine z_istore C (pc := 52) (lv' := [(4, .int y19), (0, va_rf (some x0)), (1, .int x1), (2, .int x2), (3, .int x3)]) dX9_permit_52 (by decide) rfl ?_
        refine z_aload_n C (pc := 54) dX9_permit_54 1 rfl ?_
        refine z_getP C (pc := 55) kf9 21 (by decide) rfl bw_929 (fun _ _ _ _ h => h) dX9_permit_55 rfl o14 ?_
        refine z_iconst C (pc := 58) (x := (3 : Int32)) dX9_permit_58 kic_3 ?_
        refine z_iload_n C (pc := 59) dX9_permit_59 2 rfl ?_
        refine z_imul C (pc := 60) dX9_permit_60 ?_
        refine z_iload_n C (pc := 61) dX9_permit_61 3 rfl ?_
        refine z_iadd C (pc := 62) dX9_permit_62 ?_
        refine z_iconst C (pc := 63) (x := (1 : Int32)) dX9_permit_63 kic_1 ?_
        refine z_isub C (pc := 64) dX9_permit_64 ?_
        refine z_iload_n C (pc := 65) dX9_permit_65 4 rfl ?_
        obtain ⟨a20, e21, o22, h⟩ := h
        obtain ⟨v23, h⟩ := h
        refine z_iast C (pc := 66) dX9_permit_66 e21 o22 v23 ?_
        refine z_lt h (fun S24 h => ?_)
        refine z_iload C (pc := 67) dX9_permit_67 0 rfl ?_
        exact z_iret C (pc := 69) T dX9_permit_69 (by decide) (by decide) h
      · refine z_aload_n C (pc := 34) dX9_permit_34 0 rfl ?_
        refine z_iconst C (pc := 35) (x := (2 : Int32)) dX9_permit_35 kic_2 ?_
        obtain ⟨o25, h⟩ := h
        refine z_Vi C (pc := 36) (KX := fun _ _ => False) (kc' := 0) (ks' := 0) (As := [.int (2 : Int32)]) (rest := []) rfl (c_X9_fails l v S12 x0 (2 : Int32)) mw_X9_fails bw_1021 bw_1023 bw_p31 (fit_of rfl) rfl rfl (Nat.le_of_ble_eq_true rfl) (by decide) rfl o25 dX9_permit_36 h (fun r27 S26 h => ?_) (fun En S9 h => h.elim)
        exact z_iret C (pc := 39) T dX9_permit_39 (by decide) (by decide) h
  · refine z_iconst C (pc := 12) (x := (0 : Int32)) dX9_permit_12 kic_0 ?_
    exact z_iret C (pc := 13) T dX9_permit_13 (by decide) (by decide) h
def wp_X9_teach (S : Hp) (x0 : Nat) (x1 : Int32) (x2 : Int32) (Q : Int32 → Hp → Prop) : Prop :=
  okA S 9 x0 ∧ (wp_X9_isLeader S x0 x1 (fun r3 S2 => okA S2 9 x0 ∧ (wp_X9_asks S2 x0 r3 (fun r6 S5 => if r6 = 0 then (Q (0 : Int32) S5) else (wp_X9_isSkills S5 x2 (fun r8 S7 => if r8 = 0 then (okA S7 9 x0 ∧ (wp_X9_fails S7 x0 (2 : Int32) (fun r22 S21 => Q r22 S21))) else (okA S7 9 x0 ∧ (rd S7 11 (g_P S7 922 x0) (fun a10 => vp_in x1 (g_N S7 a10) ∧ (lt (g_R S7 a10 x1.toNatClampNeg) (fun y14 => rd S7 11 (g_P S7 922 x0) (fun a15 => vp_in x1 (g_N S7 a15) ∧ (lt (s_R S7 a15 x1.toNatClampNeg x2) (fun S19 => Q y14 S19))))))))))))))
def rm_X9_teach : Room := { frames := 2, cells := 0, slots := 0, locals := 43 }
set_option maxHeartbeats 4000000 in
set_option maxRecDepth 100000 in
theorem c_X9_teach (l : Launch) (v : Ev) (S : Hp) (x0 : Nat) (x1 : Int32) (x2 : Int32) : CI l v yX9_teach cX9_teach 4 (some .int) rm_X9_teach [va_rf (some x0), .int x1, .int x2] S (fun Q _ => wp_X9_teach S x0 x1 x2 Q) := by
  intro Q EQ h
  refine z_start [(0, va_rf (some x0)), (1, .int x1), (2, .int x2)] (by decide +kernel) (by simp only [la_i, la_r, la_n]) (cat_cr (cat_ci (cat_ci cat_nil))) (by simp only [ls_i, ls_r, ls_n]; decide) (fun z C N T => ?_)
  unfold wp_X9_teach at h
  refine z_aload_n C (pc := 0) dX9_teach_0 0 rfl ?_
  refine z_aload_n C (pc := 1) dX9_teach_1 0 rfl ?_
  refine z_iload_n C (pc := 2) dX9_teach_2 1 rfl ?_
  obtain ⟨o1, h⟩ := h
  refine z_Vi C (pc := 3) (KX := fun _ _ => False) (kc' := 0) (ks' := 0) (As := [.int x1]) (rest := [va_rf (some x0)]) rfl (c_X9_isLeader l v S x0 x1) mw_X9_isLeader bw_1108 bw_1110 bw_p43 (fit_of rfl) rfl rfl (Nat.le_of_ble_eq_true rfl) (by decide) rfl o1 dX9_teach_3 h (fun r3 S2 h => ?_) (fun En S9 h => h.elim)
  obtain ⟨o4, h⟩ := h
  refine z_Vi C (pc := 6) (KX := fun _ _ => False) (kc' := 0) (ks' := 0) (As := [.int r3]) (rest := []) rfl (c_X9_asks l v S2 x0 r3) mw_X9_asks bw_1017 bw_1019 bw_p30 (fit_of rfl) rfl rfl (Nat.le_of_ble_eq_true rfl) (by decide) rfl o4 dX9_teach_6 h (fun r6 S5 h => ?_) (fun En S9 h => h.elim)
  refine z_if_ne C (pc := 9) (tgt := 14) dX9_teach_9 (by decide) h (fun h => ?_) (fun h => ?_)
  · refine z_iload_n C (pc := 14) dX9_teach_14 2 rfl ?_
    refine z_Si C (pc := 15) (KX := fun _ _ => False) (kc' := 0) (ks' := 0) (As := [.int x2]) (rest := []) (c_X9_isSkills l v S5 x2) mw_X9_isSkills bw_1123 bw_1124 (fit_of rfl) rfl rfl (Nat.le_of_ble_eq_true rfl) dX9_teach_15 h (fun r8 S7 h => ?_) (fun En S9 h => h.elim)
    refine z_if_ne C (pc := 18) (tgt := 27) dX9_teach_18 (by decide) h (fun h => ?_) (fun h => ?_)
    · refine z_aload_n C (pc := 27) dX9_teach_27 0 rfl ?_
      obtain ⟨o9, h⟩ := h
      refine z_getP C (pc := 28) kf9 22 (by decide) rfl bw_930 (fun _ _ _ _ h => h) dX9_teach_28 rfl o9 ?_
      refine z_iload_n C (pc := 31) dX9_teach_31 1 rfl ?_
      obtain ⟨a10, e11, o12, h⟩ := h
      obtain ⟨v13, h⟩ := h
      refine z_iald C (pc := 32) dX9_teach_32 e11 o12 v13 ?_
      refine z_nI h (fun y14 h => ?_)
      refine z_istore_n C (pc := 33) (lv' := [(3, .int y14), (0, va_rf (some x0)), (1, .int x1), (2, .int x2)]) dX9_teach_33 (by decide) rfl ?_
      refine z_aload_n C (pc := 34) dX9_teach_34 1 rfl ?_
      refine z_getP C (pc := 35) kf9 22 (by decide) rfl bw_930 (fun _ _ _ _ h => h) dX9_teach_35 rfl o9 ?_
      refine z_iload_n C (pc := 38) dX9_teach_38 2 rfl ?_
      refine z_iload_n C (pc := 39) dX9_teach_39 3 rfl ?_
      obtain ⟨a15, e16, o17, h⟩ := h
      obtain ⟨v18, h⟩ := h
      refine z_iast C (pc := 40) dX9_teach_40 e16 o17 v18 ?_
      refine z_lt h (fun S19 h => ?_)
      refine z_iload_n C (pc := 41) dX9_teach_41 0 rfl ?_
      exact z_iret C (pc := 42) T dX9_teach_42 (by decide) (by decide) h
    · refine z_aload_n C (pc := 21) dX9_teach_21 0 rfl ?_
      refine z_iconst C (pc := 22) (x := (2 : Int32)) dX9_teach_22 kic_2 ?_
      obtain ⟨o20, h⟩ := h
      refine z_Vi C (pc := 23) (KX := fun _ _ => False) (kc' := 0) (ks' := 0) (As := [.int (2 : Int32)]) (rest := []) rfl (c_X9_fails l v S7 x0 (2 : Int32)) mw_X9_fails bw_1021 bw_1023 bw_p31 (fit_of rfl) rfl rfl (Nat.le_of_ble_eq_true rfl) (by decide) rfl o20 dX9_teach_23 h (fun r22 S21 h => ?_) (fun En S9 h => h.elim)
      exact z_iret C (pc := 26) T dX9_teach_26 (by decide) (by decide) h
  · refine z_iconst C (pc := 12) (x := (0 : Int32)) dX9_teach_12 kic_0 ?_
    exact z_iret C (pc := 13) T dX9_teach_13 (by decide) (by decide) h
def wp_X9_isBadge (S : Hp) (x0 : Int32) (Q : Int32 → Hp → Prop) : Prop :=
  wp_X9_in S x0 (0 : Int32) (7 : Int32) (fun r2 S1 => bz r2 (Q r2 S1))
def rm_X9_isBadge : Room := { frames := 1, cells := 0, slots := 0, locals := 22 }
set_option maxHeartbeats 4000000 in
set_option maxRecDepth 100000 in
theorem c_X9_isBadge (l : Launch) (v : Ev) (S : Hp) (x0 : Int32) : CI l v yX9_isBadge cX9_isBadge 1 (some .boolean) rm_X9_isBadge [.int x0] S (fun Q _ => wp_X9_isBadge S x0 Q) := by
  intro Q EQ h
  refine z_start [(0, .int x0)] (by decide +kernel) (by simp only [la_i, la_r, la_n]) (cat_ci cat_nil) (by simp only [ls_i, ls_r, ls_n]; decide) (fun z C N T => ?_)
  unfold wp_X9_isBadge at h
  refine z_iload_n C (pc := 0) dX9_isBadge_0 0 rfl ?_
  refine z_iconst C (pc := 1) (x := (0 : Int32)) dX9_isBadge_1 kic_0 ?_
  refine z_bipush C (pc := 2) (x := (7 : Int32)) dX9_isBadge_2 kbp_7 ?_
  refine z_Si C (pc := 4) (KX := fun _ _ => False) (kc' := 0) (ks' := 0) (As := [.int x0, .int (0 : Int32), .int (7 : Int32)]) (rest := []) (c_X9_in l v S x0 (0 : Int32) (7 : Int32)) mw_X9_in bw_1014 bw_1015 (fit_of rfl) rfl rfl (Nat.le_of_ble_eq_true rfl) dX9_isBadge_4 h (fun r2 S1 h => ?_) (fun En S9 h => h.elim)
  exact z_zret C (pc := 7) T dX9_isBadge_7 (by decide) (by decide) h
def wp_X9_edition (S : Hp) (x0 : Nat) (x1 : Int32) (x2 : Int32) (x3 : Int32) (x4 : Int32) (x5 : Int32) (x6 : Int32) (x7 : Int32) (Q : Int32 → Hp → Prop) : Prop :=
  wp_X9_isBadge S x1 (fun r2 S1 => okA S1 9 x0 ∧ (wp_X9_asks S1 x0 r2 (fun r5 S4 => if r5 = 0 then (Q (0 : Int32) S4) else (wp_X9_isSkills S4 x2 (fun r7 S6 => if r7 = 0 then (okA S6 9 x0 ∧ (wp_X9_fails S6 x0 (2 : Int32) (fun r10 S9 => Q r10 S9))) else (wp_X9_isSkills S6 x3 (fun r12 S11 => if r12 = 0 then (okA S11 9 x0 ∧ (wp_X9_fails S11 x0 (2 : Int32) (fun r15 S14 => Q r15 S14))) else (if (x2 &&& x3) = 0 then (wp_X9_ones S11 x3 (fun r20 S19 => wp_X9_in S19 x4 (0 : Int32) r20 (fun r22 S21 => if r22 = 0 then (okA S21 9 x0 ∧ (wp_X9_fails S21 x0 (2 : Int32) (fun r25 S24 => Q r25 S24))) else (wp_X9_in S21 x5 (-1 : Int32) (x1 - (1 : Int32)) (fun r27 S26 => if r27 = 0 then (okA S26 9 x0 ∧ (wp_X9_fails S26 x0 (2 : Int32) (fun r30 S29 => Q r30 S29))) else (if x5 = (-1 : Int32) then (wp_X9_in S26 x7 (0 : Int32) (4000 : Int32) (fun r32 S31 => if r32 = 0 then (okA S31 9 x0 ∧ (wp_X9_fails S31 x0 (2 : Int32) (fun r97 S96 => Q r97 S96))) else (okA S31 9 x0 ∧ (rd S31 11 (g_P S31 923 x0) (fun a34 => vp_in x1 (g_N S31 a34) ∧ (if (g_R S31 a34 x1.toNatClampNeg) = (3 : Int32) then (wp_X9_fails S31 x0 (3 : Int32) (fun r94 S93 => Q r94 S93)) else (rd S31 11 (g_P S31 923 x0) (fun a38 => vp_in x1 (g_N S31 a38) ∧ (lt (((18 : Int32) * x1) + ((6 : Int32) * (g_R S31 a38 x1.toNatClampNeg))) (fun y42 => rd S31 11 (g_P S31 924 x0) (fun a43 => vp_in y42 (g_N S31 a43) ∧ (lt (s_R S31 a43 y42.toNatClampNeg x2) (fun S47 => okA S47 9 x0 ∧ (rd S47 11 (g_P S47 924 x0) (fun a49 => vp_in (y42 + (1 : Int32)) (g_N S47 a49) ∧ (lt (s_R S47 a49 (y42 + (1 : Int32)).toNatClampNeg x3) (fun S53 => okA S53 9 x0 ∧ (rd S53 11 (g_P S53 924 x0) (fun a55 => vp_in (y42 + (2 : Int32)) (g_N S53 a55) ∧ (lt (s_R S53 a55 (y42 + (2 : Int32)).toNatClampNeg x4) (fun S59 => okA S59 9 x0 ∧ (rd S59 11 (g_P S59 924 x0) (fun a61 => vp_in (y42 + (3 : Int32)) (g_N S59 a61) ∧ (lt (s_R S59 a61 (y42 + (3 : Int32)).toNatClampNeg x5) (fun S65 => okA S65 9 x0 ∧ (rd S65 11 (g_P S65 924 x0) (fun a67 => vp_in (y42 + (4 : Int32)) (g_N S65 a67) ∧ (lt (s_R S65 a67 (y42 + (4 : Int32)).toNatClampNeg x6) (fun S71 => okA S71 9 x0 ∧ (rd S71 11 (g_P S71 924 x0) (fun a73 => vp_in (y42 + (5 : Int32)) (g_N S71 a73) ∧ (lt (s_R S71 a73 (y42 + (5 : Int32)).toNatClampNeg x7) (fun S77 => okA S77 9 x0 ∧ (rd S77 11 (g_P S77 923 x0) (fun a79 => vp_in x1 (g_N S77 a79) ∧ (rd S77 11 (g_P S77 923 x0) (fun a83 => vp_in x1 (g_N S77 a83) ∧ (lt (s_R S77 a83 x1.toNatClampNeg ((g_R S77 a79 x1.toNatClampNeg) + (1 : Int32))) (fun S87 => okA S87 9 x0 ∧ (rd S87 11 (g_P S87 923 x0) (fun a89 => vp_in x1 (g_N S87 a89) ∧ (Q ((g_R S87 a89 x1.toNatClampNeg) - (1 : Int32)) S87)))))))))))))))))))))))))))))))))))))))))) else (wp_X9_in S26 x6 (0 : Int32) (400 : Int32) (fun r99 S98 => if r99 = 0 then (okA S98 9 x0 ∧ (wp_X9_fails S98 x0 (2 : Int32) (fun r102 S101 => Q r102 S101))) else (wp_X9_in S98 x7 (0 : Int32) (4000 : Int32) (fun r104 S103 => if r104 = 0 then (okA S103 9 x0 ∧ (wp_X9_fails S103 x0 (2 : Int32) (fun r169 S168 => Q r169 S168))) else (okA S103 9 x0 ∧ (rd S103 11 (g_P S103 923 x0) (fun a106 => vp_in x1 (g_N S103 a106) ∧ (if (g_R S103 a106 x1.toNatClampNeg) = (3 : Int32) then (wp_X9_fails S103 x0 (3 : Int32) (fun r166 S165 => Q r166 S165)) else (rd S103 11 (g_P S103 923 x0) (fun a110 => vp_in x1 (g_N S103 a110) ∧ (lt (((18 : Int32) * x1) + ((6 : Int32) * (g_R S103 a110 x1.toNatClampNeg))) (fun y114 => rd S103 11 (g_P S103 924 x0) (fun a115 => vp_in y114 (g_N S103 a115) ∧ (lt (s_R S103 a115 y114.toNatClampNeg x2) (fun S119 => okA S119 9 x0 ∧ (rd S119 11 (g_P S119 924 x0) (fun a121 => vp_in (y114 + (1 : Int32)) (g_N S119 a121) ∧ (lt (s_R S119 a121 (y114 + (1 : Int32)).toNatClampNeg x3) (fun S125 => okA S125 9 x0 ∧ (rd S125 11 (g_P S125 924 x0) (fun a127 => vp_in (y114 + (2 : Int32)) (g_N S125 a127) ∧ (lt (s_R S125 a127 (y114 + (2 : Int32)).toNatClampNeg x4) (fun S131 => okA S131 9 x0 ∧ (rd S131 11 (g_P S131 924 x0) (fun a133 => vp_in (y114 + (3 : Int32)) (g_N S131 a133) ∧ (lt (s_R S131 a133 (y114 + (3 : Int32)).toNatClampNeg x5) (fun S137 => okA S137 9 x0 ∧ (rd S137 11 (g_P S137 924 x0) (fun a139 => vp_in (y114 + (4 : Int32)) (g_N S137 a139) ∧ (lt (s_R S137 a139 (y114 + (4 : Int32)).toNatClampNeg x6) (fun S143 => okA S143 9 x0 ∧ (rd S143 11 (g_P S143 924 x0) (fun a145 => vp_in (y114 + (5 : Int32)) (g_N S143 a145) ∧ (lt (s_R S143 a145 (y114 + (5 : Int32)).toNatClampNeg x7) (fun S149 => okA S149 9 x0 ∧ (rd S149 11 (g_P S149 923 x0) (fun a151 => vp_in x1 (g_N S149 a151) ∧ (rd S149 11 (g_P S149 923 x0) (fun a155 => vp_in x1 (g_N S149 a155) ∧ (lt (s_R S149 a155 x1.toNatClampNeg ((g_R S149 a151 x1.toNatClampNeg) + (1 : Int32))) (fun S159 => okA S159 9 x0 ∧ (rd S159 11 (g_P S159 923 x0) (fun a161 => vp_in x1 (g_N S159 a161) ∧ (Q ((g_R S159 a161 x1.toNatClampNeg) - (1 : Int32)) S159)))))))))))))))))))))))))))))))))))))))))))))))))) else (okA S11 9 x0 ∧ (wp_X9_fails S11 x0 (2 : Int32) (fun r18 S17 => Q r18 S17)))))))))))
def rm_X9_edition : Room := { frames := 2, cells := 0, slots := 0, locals := 42 }
set_option maxHeartbeats 4000000 in
set_option maxRecDepth 100000 in
theorem c_X9_edition (l : Launch) (v : Ev) (S : Hp) (x0 : Nat) (x1 : Int32) (x2 : Int32) (x3 : Int32) (x4 : Int32) (x5 : Int32) (x6 : Int32) (x7 : Int32) : CI l v yX9_edition cX9_edition 10 (some .int) rm_X9_edition [va_rf (some x0), .int x1, .int x2, .int x3, .int x4, .int x5, .int x6, .int x7] S (fun Q _ => wp_X9_edition S x0 x1 x2 x3 x4 x5 x6 x7 Q) := by
  intro Q EQ h
  refine z_start [(0, va_rf (some x0)), (1, .int x1), (2, .int x2), (3, .int x3), (4, .int x4), (5, .int x5), (6, .int x6), (7, .int x7)] (by decide +kernel) (by simp only [la_i, la_r, la_n]) (cat_cr (cat_ci (cat_ci (cat_ci (cat_ci (cat_ci (cat_ci (cat_ci cat_nil)))))))) (by simp only [ls_i, ls_r, ls_n]; decide) (fun z C N T => ?_)
  unfold wp_X9_edition at h
  refine z_aload_n C (pc := 0) dX9_edition_0 0 rfl ?_
  refine z_iload_n C (pc := 1) dX9_edition_1 1 rfl ?_
  refine z_Si C (pc := 2) (KX := fun _ _ => False) (kc' := 0) (ks' := 0) (As := [.int x1]) (rest := [va_rf (some x0)]) (c_X9_isBadge l v S x1) mw_X9_isBadge bw_1131 bw_1132 (fit_of rfl) rfl rfl (Nat.le_of_ble_eq_true rfl) dX9_edition_2 h (fun r2 S1 h => ?_) (fun En S9 h => h.elim)
  obtain ⟨o3, h⟩ := h
  refine z_Vi C (pc := 5) (KX := fun _ _ => False) (kc' := 0) (ks' := 0) (As := [.int r2]) (rest := []) rfl (c_X9_asks l v S1 x0 r2) mw_X9_asks bw_1017 bw_1019 bw_p30 (fit_of rfl) rfl rfl (Nat.le_of_ble_eq_true rfl) (by decide) rfl o3 dX9_edition_5 h (fun r5 S4 h => ?_) (fun En S9 h => h.elim)
  refine z_if_ne C (pc := 8) (tgt := 13) dX9_edition_8 (by decide) h (fun h => ?_) (fun h => ?_)
  · refine z_iload_n C (pc := 13) dX9_edition_13 2 rfl ?_
    refine z_Si C (pc := 14) (KX := fun _ _ => False) (kc' := 0) (ks' := 0) (As := [.int x2]) (rest := []) (c_X9_isSkills l v S4 x2) mw_X9_isSkills bw_1123 bw_1124 (fit_of rfl) rfl rfl (Nat.le_of_ble_eq_true rfl) dX9_edition_14 h (fun r7 S6 h => ?_) (fun En S9 h => h.elim)
    refine z_if_eq C (pc := 17) (tgt := 37) dX9_edition_17 (by decide) h (fun h => ?_) (fun h => ?_)
    · refine z_iconst C (pc := 37) (x := (0 : Int32)) dX9_edition_37 kic_0 ?_
      refine z_istore C (pc := 38) (lv' := [(8, .int (0 : Int32)), (0, va_rf (some x0)), (1, .int x1), (2, .int x2), (3, .int x3), (4, .int x4), (5, .int x5), (6, .int x6), (7, .int x7)]) dX9_edition_38 (by decide) rfl ?_
      refine z_iload C (pc := 40) dX9_edition_40 0 rfl ?_
      refine z_if_eq C (pc := 42) (tgt := 100) dX9_edition_42 (by decide) (ifT (c := (0 : Int32) = 0) (by decide) h) (fun h => ?_) (fun h => h.elim)
      refine z_aload_n C (pc := 100) dX9_edition_100 1 rfl ?_
      refine z_iconst C (pc := 101) (x := (2 : Int32)) dX9_edition_101 kic_2 ?_
      obtain ⟨o8, h⟩ := h
      refine z_Vi C (pc := 102) (KX := fun _ _ => False) (kc' := 0) (ks' := 0) (As := [.int (2 : Int32)]) (rest := []) rfl (c_X9_fails l v S6 x0 (2 : Int32)) mw_X9_fails bw_1021 bw_1023 bw_p31 (fit_of rfl) rfl rfl (Nat.le_of_ble_eq_true rfl) (by decide) rfl o8 dX9_edition_102 h (fun r10 S9 h => ?_) (fun En S9 h => h.elim)
      exact z_iret C (pc := 105) T dX9_edition_105 (by decide) (by decide) h
    · refine z_iload_n C (pc := 20) dX9_edition_20 3 rfl ?_
      refine z_Si C (pc := 21) (KX := fun _ _ => False) (kc' := 0) (ks' := 0) (As := [.int x3]) (rest := []) (c_X9_isSkills l v S6 x3) mw_X9_isSkills bw_1123 bw_1124 (fit_of rfl) rfl rfl (Nat.le_of_ble_eq_true rfl) dX9_edition_21 h (fun r12 S11 h => ?_) (fun En S9 h => h.elim)
      refine z_if_eq C (pc := 24) (tgt := 37) dX9_edition_24 (by decide) h (fun h => ?_) (fun h => ?_)
      · refine z_iconst C (pc := 37) (x := (0 : Int32)) dX9_edition_37 kic_0 ?_
        refine z_istore C (pc := 38) (lv' := [(8, .int (0 : Int32)), (0, va_rf (some x0)), (1, .int x1), (2, .int x2), (3, .int x3), (4, .int x4), (5, .int x5), (6, .int x6), (7, .int x7)]) dX9_edition_38 (by decide) rfl ?_
        refine z_iload C (pc := 40) dX9_edition_40 0 rfl ?_
        refine z_if_eq C (pc := 42) (tgt := 100) dX9_edition_42 (by decide) (ifT (c := (0 : Int32) = 0) (by decide) h) (fun h => ?_) (fun h => h.elim)
        refine z_aload_n C (pc := 100) dX9_edition_100 1 rfl ?_
        refine z_iconst C (pc := 101) (x := (2 : Int32)) dX9_edition_101 kic_2 ?_
        obtain ⟨o13, h⟩ := h
        refine z_Vi C (pc := 102) (KX := fun _ _ => False) (kc' := 0) (ks' := 0) (As := [.int (2 : Int32)]) (rest := []) rfl (c_X9_fails l v S11 x0 (2 : Int32)) mw_X9_fails bw_1021 bw_1023 bw_p31 (fit_of rfl) rfl rfl (Nat.le_of_ble_eq_true rfl) (by decide) rfl o13 dX9_edition_102 h (fun r15 S14 h => ?_) (fun En S9 h => h.elim)
        exact z_iret C (pc := 105) T dX9_edition_105 (by decide) (by decide) h
      · refine z_iload_n C (pc := 27) dX9_edition_27 2 rfl ?_
        refine z_iload_n C (pc := 28) dX9_edition_28 3 rfl ?_
        refine z_iand C (pc := 29) dX9_edition_29 ?_
        refine z_if_ne C (pc := 30) (tgt := 37) dX9_edition_30 (by decide) h (fun h => ?_) (fun h => ?_)
        · refine z_iconst C (pc := 37) (x := (0 : Int32)) dX9_edition_37 kic_0 ?_
          refine z_istore C (pc := 38) (lv' := [(8, .int (0 : Int32)), (0, va_rf (some x0)), (1, .int x1), (2, .int x2), (3, .int x3), (4, .int x4), (5, .int x5), (6, .int x6), (7, .int x7)]) dX9_edition_38 (by decide) rfl ?_
          refine z_iload C (pc := 40) dX9_edition_40 0 rfl ?_
          refine z_if_eq C (pc := 42) (tgt := 100) dX9_edition_42 (by decide) (ifT (c := (0 : Int32) = 0) (by decide) h) (fun h => ?_) (fun h => h.elim)
          refine z_aload_n C (pc := 100) dX9_edition_100 1 rfl ?_
          refine z_iconst C (pc := 101) (x := (2 : Int32)) dX9_edition_101 kic_2 ?_
          obtain ⟨o16, h⟩ := h
          refine z_Vi C (pc := 102) (KX := fun _ _ => False) (kc' := 0) (ks' := 0) (As := [.int (2 : Int32)]) (rest := []) rfl (c_X9_fails l v S11 x0 (2 : Int32)) mw_X9_fails bw_1021 bw_1023 bw_p31 (fit_of rfl) rfl rfl (Nat.le_of_ble_eq_true rfl) (by decide) rfl o16 dX9_edition_102 h (fun r18 S17 h => ?_) (fun En S9 h => h.elim)
          exact z_iret C (pc := 105) T dX9_edition_105 (by decide) (by decide) h
        · refine z_iconst C (pc := 33) (x := (1 : Int32)) dX9_edition_33 kic_1 ?_
          refine z_goto C (pc := 34) (tgt := 38) dX9_edition_34 (by decide) ?_
          refine z_istore C (pc := 38) (lv' := [(8, .int (1 : Int32)), (0, va_rf (some x0)), (1, .int x1), (2, .int x2), (3, .int x3), (4, .int x4), (5, .int x5), (6, .int x6), (7, .int x7)]) dX9_edition_38 (by decide) rfl ?_
          refine z_iload C (pc := 40) dX9_edition_40 0 rfl ?_
          refine z_if_eq C (pc := 42) (tgt := 100) dX9_edition_42 (by decide) (ifF (c := (1 : Int32) = 0) (by decide) h) (fun h => h.elim) (fun h => ?_)
          refine z_iload C (pc := 45) dX9_edition_45 5 rfl ?_
          refine z_iconst C (pc := 47) (x := (0 : Int32)) dX9_edition_47 kic_0 ?_
          refine z_iload_n C (pc := 48) dX9_edition_48 4 rfl ?_
          refine z_Si C (pc := 49) (KX := fun _ _ => False) (kc' := 0) (ks' := 0) (As := [.int x3]) (rest := [.int (0 : Int32), .int x4]) (c_X9_ones l v S11 x3) mw_X9_ones bw_1134 bw_1135 (fit_of rfl) rfl rfl (Nat.le_of_ble_eq_true rfl) dX9_edition_49 h (fun r20 S19 h => ?_) (fun En S9 h => h.elim)
          refine z_Si C (pc := 52) (KX := fun _ _ => False) (kc' := 0) (ks' := 0) (As := [.int x4, .int (0 : Int32), .int r20]) (rest := []) (c_X9_in l v S19 x4 (0 : Int32) r20) mw_X9_in bw_1014 bw_1015 (fit_of rfl) rfl rfl (Nat.le_of_ble_eq_true rfl) dX9_edition_52 h (fun r22 S21 h => ?_) (fun En S9 h => h.elim)
          refine z_if_eq C (pc := 55) (tgt := 100) dX9_edition_55 (by decide) h (fun h => ?_) (fun h => ?_)
          · refine z_aload_n C (pc := 100) dX9_edition_100 1 rfl ?_
            refine z_iconst C (pc := 101) (x := (2 : Int32)) dX9_edition_101 kic_2 ?_
            obtain ⟨o23, h⟩ := h
            refine z_Vi C (pc := 102) (KX := fun _ _ => False) (kc' := 0) (ks' := 0) (As := [.int (2 : Int32)]) (rest := []) rfl (c_X9_fails l v S21 x0 (2 : Int32)) mw_X9_fails bw_1021 bw_1023 bw_p31 (fit_of rfl) rfl rfl (Nat.le_of_ble_eq_true rfl) (by decide) rfl o23 dX9_edition_102 h (fun r25 S24 h => ?_) (fun En S9 h => h.elim)
            exact z_iret C (pc := 105) T dX9_edition_105 (by decide) (by decide) h
          · refine z_iload C (pc := 58) dX9_edition_58 6 rfl ?_
            refine z_iconst C (pc := 60) (x := (-1 : Int32)) dX9_edition_60 kic_m1 ?_
            refine z_iload_n C (pc := 61) dX9_edition_61 2 rfl ?_
            refine z_iconst C (pc := 62) (x := (1 : Int32)) dX9_edition_62 kic_1 ?_
            refine z_isub C (pc := 63) dX9_edition_63 ?_
            refine z_Si C (pc := 64) (KX := fun _ _ => False) (kc' := 0) (ks' := 0) (As := [.int x5, .int (-1 : Int32), .int (x1 - (1 : Int32))]) (rest := []) (c_X9_in l v S21 x5 (-1 : Int32) (x1 - (1 : Int32))) mw_X9_in bw_1014 bw_1015 (fit_of rfl) rfl rfl (Nat.le_of_ble_eq_true rfl) dX9_edition_64 h (fun r27 S26 h => ?_) (fun En S9 h => h.elim)
            refine z_if_eq C (pc := 67) (tgt := 100) dX9_edition_67 (by decide) h (fun h => ?_) (fun h => ?_)
            · refine z_aload_n C (pc := 100) dX9_edition_100 1 rfl ?_
              refine z_iconst C (pc := 101) (x := (2 : Int32)) dX9_edition_101 kic_2 ?_
              obtain ⟨o28, h⟩ := h
              refine z_Vi C (pc := 102) (KX := fun _ _ => False) (kc' := 0) (ks' := 0) (As := [.int (2 : Int32)]) (rest := []) rfl (c_X9_fails l v S26 x0 (2 : Int32)) mw_X9_fails bw_1021 bw_1023 bw_p31 (fit_of rfl) rfl rfl (Nat.le_of_ble_eq_true rfl) (by decide) rfl o28 dX9_edition_102 h (fun r30 S29 h => ?_) (fun En S9 h => h.elim)
              exact z_iret C (pc := 105) T dX9_edition_105 (by decide) (by decide) h
            · refine z_iload C (pc := 70) dX9_edition_70 6 rfl ?_
              refine z_iconst C (pc := 72) (x := (-1 : Int32)) dX9_edition_72 kic_m1 ?_
              refine z_icmp_eq C (pc := 73) (tgt := 88) dX9_edition_73 (by decide) h (fun h => ?_) (fun h => ?_)
              · refine z_iload C (pc := 88) dX9_edition_88 8 rfl ?_
                refine z_iconst C (pc := 90) (x := (0 : Int32)) dX9_edition_90 kic_0 ?_
                refine z_sipush C (pc := 91) (x := (4000 : Int32)) dX9_edition_91 ksp_4000 ?_
                refine z_Si C (pc := 94) (KX := fun _ _ => False) (kc' := 0) (ks' := 0) (As := [.int x7, .int (0 : Int32), .int (4000 : Int32)]) (rest := []) (c_X9_in l v S26 x7 (0 : Int32) (4000 : Int32)) mw_X9_in bw_1014 bw_1015 (fit_of rfl) rfl rfl (Nat.le_of_ble_eq_true rfl) dX9_edition_94 h (fun r32 S31 h => ?_) (fun En S9 h => h.elim)
                refine z_if_ne C (pc := 97) (tgt := 106) dX9_edition_97 (by decide) h (fun h => ?_) (fun h => ?_)
                · refine z_aload_n C (pc := 106) dX9_edition_106 1 rfl ?_
                  obtain ⟨o33, h⟩ := h
                  refine z_getP C (pc := 107) kf9 23 (by decide) rfl bw_931 (fun _ _ _ _ h => h) dX9_edition_107 rfl o33 ?_
                  refine z_iload_n C (pc := 110) dX9_edition_110 2 rfl ?_
                  obtain ⟨a34, e35, o36, h⟩ := h
                  obtain ⟨v37, h⟩ := h
                  refine z_iald C (pc := 111) dX9_edition_111 e35 o36 v37 ?_
                  refine z_iconst C (pc := 112) (x := (3 : Int32)) dX9_edition_112 kic_3 ?_
                  refine z_icmp_ne C (pc := 113) (tgt := 122) dX9_edition_113 (by decide) h (fun h => ?_) (fun h => ?_)
                  · refine z_bipush C (pc := 122) (x := (18 : Int32)) dX9_edition_122 kbp_18 ?_
                    refine z_iload_n C (pc := 124) dX9_edition_124 2 rfl ?_
                    refine z_imul C (pc := 125) dX9_edition_125 ?_
                    refine z_bipush C (pc := 126) (x := (6 : Int32)) dX9_edition_126 kbp_6 ?_
                    refine z_aload_n C (pc := 128) dX9_edition_128 1 rfl ?_
                    refine z_getP C (pc := 129) kf9 23 (by decide) rfl bw_931 (fun _ _ _ _ h => h) dX9_edition_129 rfl o33 ?_
                    refine z_iload_n C (pc := 132) dX9_edition_132 2 rfl ?_
                    obtain ⟨a38, e39, o40, h⟩ := h
                    obtain ⟨v41, h⟩ := h
                    refine z_iald C (pc := 133) dX9_edition_133 e39 o40 v41 ?_
                    refine z_imul C (pc := 134) dX9_edition_134 ?_
                    refine z_iadd C (pc := 135) dX9_edition_135 ?_
                    refine z_nI h (fun y42 h => ?_)
                    refine z_istore C (pc := 136) (lv' := [(9, .int y42), (8, .int (1 : Int32)), (0, va_rf (some x0)), (1, .int x1), (2, .int x2), (3, .int x3), (4, .int x4), (5, .int x5), (6, .int x6), (7, .int x7)]) dX9_edition_136 (by decide) rfl ?_
                    refine z_aload_n C (pc := 138) dX9_edition_138 2 rfl ?_
                    refine z_getP C (pc := 139) kf9 24 (by decide) rfl bw_932 (fun _ _ _ _ h => h) dX9_edition_139 rfl o33 ?_
                    refine z_iload C (pc := 142) dX9_edition_142 0 rfl ?_
                    refine z_iload_n C (pc := 144) dX9_edition_144 4 rfl ?_
                    obtain ⟨a43, e44, o45, h⟩ := h
                    obtain ⟨v46, h⟩ := h
                    refine z_iast C (pc := 145) dX9_edition_145 e44 o45 v46 ?_
                    refine z_lt h (fun S47 h => ?_)
                    refine z_aload_n C (pc := 146) dX9_edition_146 2 rfl ?_
                    obtain ⟨o48, h⟩ := h
                    refine z_getP C (pc := 147) kf9 24 (by decide) rfl bw_932 (fun _ _ _ _ h => h) dX9_edition_147 rfl o48 ?_
                    refine z_iload C (pc := 150) dX9_edition_150 0 rfl ?_
                    refine z_iconst C (pc := 152) (x := (1 : Int32)) dX9_edition_152 kic_1 ?_
                    refine z_iadd C (pc := 153) dX9_edition_153 ?_
                    refine z_iload_n C (pc := 154) dX9_edition_154 5 rfl ?_
                    obtain ⟨a49, e50, o51, h⟩ := h
                    obtain ⟨v52, h⟩ := h
                    refine z_iast C (pc := 155) dX9_edition_155 e50 o51 v52 ?_
                    refine z_lt h (fun S53 h => ?_)
                    refine z_aload_n C (pc := 156) dX9_edition_156 2 rfl ?_
                    obtain ⟨o54, h⟩ := h
                    refine z_getP C (pc := 157) kf9 24 (by decide) rfl bw_932 (fun _ _ _ _ h => h) dX9_edition_157 rfl o54 ?_
                    refine z_iload C (pc := 160) dX9_edition_160 0 rfl ?_
                    refine z_iconst C (pc := 162) (x := (2 : Int32)) dX9_edition_162 kic_2 ?_
                    refine z_iadd C (pc := 163) dX9_edition_163 ?_
                    refine z_iload C (pc := 164) dX9_edition_164 6 rfl ?_
                    obtain ⟨a55, e56, o57, h⟩ := h
                    obtain ⟨v58, h⟩ := h
                    refine z_iast C (pc := 166) dX9_edition_166 e56 o57 v58 ?_
                    refine z_lt h (fun S59 h => ?_)
                    refine z_aload_n C (pc := 167) dX9_edition_167 2 rfl ?_
                    obtain ⟨o60, h⟩ := h
                    refine z_getP C (pc := 168) kf9 24 (by decide) rfl bw_932 (fun _ _ _ _ h => h) dX9_edition_168 rfl o60 ?_
                    refine z_iload C (pc := 171) dX9_edition_171 0 rfl ?_
                    refine z_iconst C (pc := 173) (x := (3 : Int32)) dX9_edition_173 kic_3 ?_
                    refine z_iadd C (pc := 174) dX9_edition_174 ?_
                    refine z_iload C (pc := 175) dX9_edition_175 7 rfl ?_
                    obtain ⟨a61, e62, o63, h⟩ := h
                    obtain ⟨v64, h⟩ := h
                    refine z_iast C (pc := 177) dX9_edition_177 e62 o63 v64 ?_
                    refine z_lt h (fun S65 h => ?_)
                    refine z_aload_n C (pc := 178) dX9_edition_178 2 rfl ?_
                    obtain ⟨o66, h⟩ := h
                    refine z_getP C (pc := 179) kf9 24 (by decide) rfl bw_932 (fun _ _ _ _ h => h) dX9_edition_179 rfl o66 ?_
                    refine z_iload C (pc := 182) dX9_edition_182 0 rfl ?_
                    refine z_iconst C (pc := 184) (x := (4 : Int32)) dX9_edition_184 kic_4 ?_
                    refine z_iadd C (pc := 185) dX9_edition_185 ?_
                    refine z_iload C (pc := 186) dX9_edition_186 8 rfl ?_
                    obtain ⟨a67, e68, o69, h⟩ := h
                    obtain ⟨v70, h⟩ := h
                    refine z_iast C (pc := 188) dX9_edition_188 e68 o69 v70 ?_
                    refine z_lt h (fun S71 h => ?_)
                    refine z_aload_n C (pc := 189) dX9_edition_189 2 rfl ?_
                    obtain ⟨o72, h⟩ := h
                    refine z_getP C (pc := 190) kf9 24 (by decide) rfl bw_932 (fun _ _ _ _ h => h) dX9_edition_190 rfl o72 ?_
                    refine z_iload C (pc := 193) dX9_edition_193 0 rfl ?_
                    refine z_iconst C (pc := 195) (x := (5 : Int32)) dX9_edition_195 kic_5 ?_
                    refine z_iadd C (pc := 196) dX9_edition_196 ?_
                    refine z_iload C (pc := 197) dX9_edition_197 9 rfl ?_
                    obtain ⟨a73, e74, o75, h⟩ := h
                    obtain ⟨v76, h⟩ := h
                    refine z_iast C (pc := 199) dX9_edition_199 e74 o75 v76 ?_
                    refine z_lt h (fun S77 h => ?_)
                    refine z_aload_n C (pc := 200) dX9_edition_200 2 rfl ?_
                    obtain ⟨o78, h⟩ := h
                    refine z_getP C (pc := 201) kf9 23 (by decide) rfl bw_931 (fun _ _ _ _ h => h) dX9_edition_201 rfl o78 ?_
                    refine z_iload_n C (pc := 204) dX9_edition_204 3 rfl ?_
                    refine z_dup2 C (pc := 205) dX9_edition_205 rfl (cat_rf _) ?_
                    obtain ⟨a79, e80, o81, h⟩ := h
                    obtain ⟨v82, h⟩ := h
                    refine z_iald C (pc := 206) dX9_edition_206 e80 o81 v82 ?_
                    refine z_iconst C (pc := 207) (x := (1 : Int32)) dX9_edition_207 kic_1 ?_
                    refine z_iadd C (pc := 208) dX9_edition_208 ?_
                    obtain ⟨a83, e84, o85, h⟩ := h
                    obtain ⟨v86, h⟩ := h
                    refine z_iast C (pc := 209) dX9_edition_209 e84 o85 v86 ?_
                    refine z_lt h (fun S87 h => ?_)
                    refine z_aload_n C (pc := 210) dX9_edition_210 2 rfl ?_
                    obtain ⟨o88, h⟩ := h
                    refine z_getP C (pc := 211) kf9 23 (by decide) rfl bw_931 (fun _ _ _ _ h => h) dX9_edition_211 rfl o88 ?_
                    refine z_iload_n C (pc := 214) dX9_edition_214 3 rfl ?_
                    obtain ⟨a89, e90, o91, h⟩ := h
                    obtain ⟨v92, h⟩ := h
                    refine z_iald C (pc := 215) dX9_edition_215 e90 o91 v92 ?_
                    refine z_iconst C (pc := 216) (x := (1 : Int32)) dX9_edition_216 kic_1 ?_
                    refine z_isub C (pc := 217) dX9_edition_217 ?_
                    exact z_iret C (pc := 218) T dX9_edition_218 (by decide) (by decide) h
                  · refine z_aload_n C (pc := 116) dX9_edition_116 1 rfl ?_
                    refine z_iconst C (pc := 117) (x := (3 : Int32)) dX9_edition_117 kic_3 ?_
                    refine z_Vi C (pc := 118) (KX := fun _ _ => False) (kc' := 0) (ks' := 0) (As := [.int (3 : Int32)]) (rest := []) rfl (c_X9_fails l v S31 x0 (3 : Int32)) mw_X9_fails bw_1021 bw_1023 bw_p31 (fit_of rfl) rfl rfl (Nat.le_of_ble_eq_true rfl) (by decide) rfl o33 dX9_edition_118 h (fun r94 S93 h => ?_) (fun En S9 h => h.elim)
                    exact z_iret C (pc := 121) T dX9_edition_121 (by decide) (by decide) h
                · refine z_aload_n C (pc := 100) dX9_edition_100 1 rfl ?_
                  refine z_iconst C (pc := 101) (x := (2 : Int32)) dX9_edition_101 kic_2 ?_
                  obtain ⟨o95, h⟩ := h
                  refine z_Vi C (pc := 102) (KX := fun _ _ => False) (kc' := 0) (ks' := 0) (As := [.int (2 : Int32)]) (rest := []) rfl (c_X9_fails l v S31 x0 (2 : Int32)) mw_X9_fails bw_1021 bw_1023 bw_p31 (fit_of rfl) rfl rfl (Nat.le_of_ble_eq_true rfl) (by decide) rfl o95 dX9_edition_102 h (fun r97 S96 h => ?_) (fun En S9 h => h.elim)
                  exact z_iret C (pc := 105) T dX9_edition_105 (by decide) (by decide) h
              · refine z_iload C (pc := 76) dX9_edition_76 7 rfl ?_
                refine z_iconst C (pc := 78) (x := (0 : Int32)) dX9_edition_78 kic_0 ?_
                refine z_sipush C (pc := 79) (x := (400 : Int32)) dX9_edition_79 ksp_400 ?_
                refine z_Si C (pc := 82) (KX := fun _ _ => False) (kc' := 0) (ks' := 0) (As := [.int x6, .int (0 : Int32), .int (400 : Int32)]) (rest := []) (c_X9_in l v S26 x6 (0 : Int32) (400 : Int32)) mw_X9_in bw_1014 bw_1015 (fit_of rfl) rfl rfl (Nat.le_of_ble_eq_true rfl) dX9_edition_82 h (fun r99 S98 h => ?_) (fun En S9 h => h.elim)
                refine z_if_eq C (pc := 85) (tgt := 100) dX9_edition_85 (by decide) h (fun h => ?_) (fun h => ?_)
                · refine z_aload_n C (pc := 100) dX9_edition_100 1 rfl ?_
                  refine z_iconst C (pc := 101) (x := (2 : Int32)) dX9_edition_101 kic_2 ?_
                  obtain ⟨o100, h⟩ := h
                  refine z_Vi C (pc := 102) (KX := fun _ _ => False) (kc' := 0) (ks' := 0) (As := [.int (2 : Int32)]) (rest := []) rfl (c_X9_fails l v S98 x0 (2 : Int32)) mw_X9_fails bw_1021 bw_1023 bw_p31 (fit_of rfl) rfl rfl (Nat.le_of_ble_eq_true rfl) (by decide) rfl o100 dX9_edition_102 h (fun r102 S101 h => ?_) (fun En S9 h => h.elim)
                  exact z_iret C (pc := 105) T dX9_edition_105 (by decide) (by decide) h
                · refine z_iload C (pc := 88) dX9_edition_88 8 rfl ?_
                  refine z_iconst C (pc := 90) (x := (0 : Int32)) dX9_edition_90 kic_0 ?_
                  refine z_sipush C (pc := 91) (x := (4000 : Int32)) dX9_edition_91 ksp_4000 ?_
                  refine z_Si C (pc := 94) (KX := fun _ _ => False) (kc' := 0) (ks' := 0) (As := [.int x7, .int (0 : Int32), .int (4000 : Int32)]) (rest := []) (c_X9_in l v S98 x7 (0 : Int32) (4000 : Int32)) mw_X9_in bw_1014 bw_1015 (fit_of rfl) rfl rfl (Nat.le_of_ble_eq_true rfl) dX9_edition_94 h (fun r104 S103 h => ?_) (fun En S9 h => h.elim)
                  refine z_if_ne C (pc := 97) (tgt := 106) dX9_edition_97 (by decide) h (fun h => ?_) (fun h => ?_)
                  · refine z_aload_n C (pc := 106) dX9_edition_106 1 rfl ?_
                    obtain ⟨o105, h⟩ := h
                    refine z_getP C (pc := 107) kf9 23 (by decide) rfl bw_931 (fun _ _ _ _ h => h) dX9_edition_107 rfl o105 ?_
                    refine z_iload_n C (pc := 110) dX9_edition_110 2 rfl ?_
                    obtain ⟨a106, e107, o108, h⟩ := h
                    obtain ⟨v109, h⟩ := h
                    refine z_iald C (pc := 111) dX9_edition_111 e107 o108 v109 ?_
                    refine z_iconst C (pc := 112) (x := (3 : Int32)) dX9_edition_112 kic_3 ?_
                    refine z_icmp_ne C (pc := 113) (tgt := 122) dX9_edition_113 (by decide) h (fun h => ?_) (fun h => ?_)
                    · refine z_bipush C (pc := 122) (x := (18 : Int32)) dX9_edition_122 kbp_18 ?_
                      refine z_iload_n C (pc := 124) dX9_edition_124 2 rfl ?_
                      refine z_imul C (pc := 125) dX9_edition_125 ?_
                      refine z_bipush C (pc := 126) (x := (6 : Int32)) dX9_edition_126 kbp_6 ?_
                      refine z_aload_n C (pc := 128) dX9_edition_128 1 rfl ?_
                      refine z_getP C (pc := 129) kf9 23 (by decide) rfl bw_931 (fun _ _ _ _ h => h) dX9_edition_129 rfl o105 ?_
                      refine z_iload_n C (pc := 132) dX9_edition_132 2 rfl ?_
                      obtain ⟨a110, e111, o112, h⟩ := h
                      obtain ⟨v113, h⟩ := h
                      refine z_iald C (pc := 133) dX9_edition_133 e111 o112 v113 ?_
                      refine z_imul C (pc := 134) dX9_edition_134 ?_
                      refine z_iadd C (pc := 135) dX9_edition_135 ?_
                      refine z_nI h (fun y114 h => ?_)
                      refine z_istore C (pc := 136) (lv' := [(9, .int y114), (8, .int (1 : Int32)), (0, va_rf (some x0)), (1, .int x1), (2, .int x2), (3, .int x3), (4, .int x4), (5, .int x5), (6, .int x6), (7, .int x7)]) dX9_edition_136 (by decide) rfl ?_
                      refine z_aload_n C (pc := 138) dX9_edition_138 2 rfl ?_
                      refine z_getP C (pc := 139) kf9 24 (by decide) rfl bw_932 (fun _ _ _ _ h => h) dX9_edition_139 rfl o105 ?_
                      refine z_iload C (pc := 142) dX9_edition_142 0 rfl ?_
                      refine z_iload_n C (pc := 144) dX9_edition_144 4 rfl ?_
                      obtain ⟨a115, e116, o117, h⟩ := h
                      obtain ⟨v118, h⟩ := h
                      refine z_iast C (pc := 145) dX9_edition_145 e116 o117 v118 ?_
                      refine z_lt h (fun S119 h => ?_)
                      refine z_aload_n C (pc := 146) dX9_edition_146 2 rfl ?_
                      obtain ⟨o120, h⟩ := h
                      refine z_getP C (pc := 147) kf9 24 (by decide) rfl bw_932 (fun _ _ _ _ h => h) dX9_edition_147 rfl o120 ?_
                      refine z_iload C (pc := 150) dX9_edition_150 0 rfl ?_
                      refine z_iconst C (pc := 152) (x := (1 : Int32)) dX9_edition_152 kic_1 ?_
                      refine z_iadd C (pc := 153) dX9_edition_153 ?_
                      refine z_iload_n C (pc := 154) dX9_edition_154 5 rfl ?_
                      obtain ⟨a121, e122, o123, h⟩ := h
                      obtain ⟨v124, h⟩ := h
                      refine z_iast C (pc := 155) dX9_edition_155 e122 o123 v124 ?_
                      refine z_lt h (fun S125 h => ?_)
                      refine z_aload_n C (pc := 156) dX9_edition_156 2 rfl ?_
                      obtain ⟨o126, h⟩ := h
                      refine z_getP C (pc := 157) kf9 24 (by decide) rfl bw_932 (fun _ _ _ _ h => h) dX9_edition_157 rfl o126 ?_
                      refine z_iload C (pc := 160) dX9_edition_160 0 rfl ?_
                      refine z_iconst C (pc := 162) (x := (2 : Int32)) dX9_edition_162 kic_2 ?_
                      refine z_iadd C (pc := 163) dX9_edition_163 ?_
                      refine z_iload C (pc := 164) dX9_edition_164 6 rfl ?_
                      obtain ⟨a127, e128, o129, h⟩ := h
                      obtain ⟨v130, h⟩ := h
                      refine z_iast C (pc := 166) dX9_edition_166 e128 o129 v130 ?_
                      refine z_lt h (fun S131 h => ?_)
                      refine z_aload_n C (pc := 167) dX9_edition_167 2 rfl ?_
                      obtain ⟨o132, h⟩ := h
                      refine z_getP C (pc := 168) kf9 24 (by decide) rfl bw_932 (fun _ _ _ _ h => h) dX9_edition_168 rfl o132 ?_
                      refine z_iload C (pc := 171) dX9_edition_171 0 rfl ?_
                      refine z_iconst C (pc := 173) (x := (3 : Int32)) dX9_edition_173 kic_3 ?_
                      refine z_iadd C (pc := 174) dX9_edition_174 ?_
                      refine z_iload C (pc := 175) dX9_edition_175 7 rfl ?_
                      obtain ⟨a133, e134, o135, h⟩ := h
                      obtain ⟨v136, h⟩ := h
                      refine z_iast C (pc := 177) dX9_edition_177 e134 o135 v136 ?_
                      refine z_lt h (fun S137 h => ?_)
                      refine z_aload_n C (pc := 178) dX9_edition_178 2 rfl ?_
                      obtain ⟨o138, h⟩ := h
                      refine z_getP C (pc := 179) kf9 24 (by decide) rfl bw_932 (fun _ _ _ _ h => h) dX9_edition_179 rfl o138 ?_
                      refine z_iload C (pc := 182) dX9_edition_182 0 rfl ?_
                      refine z_iconst C (pc := 184) (x := (4 : Int32)) dX9_edition_184 kic_4 ?_
                      refine z_iadd C (pc := 185) dX9_edition_185 ?_
                      refine z_iload C (pc := 186) dX9_edition_186 8 rfl ?_
                      obtain ⟨a139, e140, o141, h⟩ := h
                      obtain ⟨v142, h⟩ := h
                      refine z_iast C (pc := 188) dX9_edition_188 e140 o141 v142 ?_
                      refine z_lt h (fun S143 h => ?_)
                      refine z_aload_n C (pc := 189) dX9_edition_189 2 rfl ?_
                      obtain ⟨o144, h⟩ := h
                      refine z_getP C (pc := 190) kf9 24 (by decide) rfl bw_932 (fun _ _ _ _ h => h) dX9_edition_190 rfl o144 ?_
                      refine z_iload C (pc := 193) dX9_edition_193 0 rfl ?_
                      refine z_iconst C (pc := 195) (x := (5 : Int32)) dX9_edition_195 kic_5 ?_
                      refine z_iadd C (pc := 196) dX9_edition_196 ?_
                      refine z_iload C (pc := 197) dX9_edition_197 9 rfl ?_
                      obtain ⟨a145, e146, o147, h⟩ := h
                      obtain ⟨v148, h⟩ := h
                      refine z_iast C (pc := 199) dX9_edition_199 e146 o147 v148 ?_
                      refine z_lt h (fun S149 h => ?_)
                      refine z_aload_n C (pc := 200) dX9_edition_200 2 rfl ?_
                      obtain ⟨o150, h⟩ := h
                      refine z_getP C (pc := 201) kf9 23 (by decide) rfl bw_931 (fun _ _ _ _ h => h) dX9_edition_201 rfl o150 ?_
                      refine z_iload_n C (pc := 204) dX9_edition_204 3 rfl ?_
                      refine z_dup2 C (pc := 205) dX9_edition_205 rfl (cat_rf _) ?_
                      obtain ⟨a151, e152, o153, h⟩ := h
                      obtain ⟨v154, h⟩ := h
                      refine z_iald C (pc := 206) dX9_edition_206 e152 o153 v154 ?_
                      refine z_iconst C (pc := 207) (x := (1 : Int32)) dX9_edition_207 kic_1 ?_
                      refine z_iadd C (pc := 208) dX9_edition_208 ?_
                      obtain ⟨a155, e156, o157, h⟩ := h
                      obtain ⟨v158, h⟩ := h
                      refine z_iast C (pc := 209) dX9_edition_209 e156 o157 v158 ?_
                      refine z_lt h (fun S159 h => ?_)
                      refine z_aload_n C (pc := 210) dX9_edition_210 2 rfl ?_
                      obtain ⟨o160, h⟩ := h
                      refine z_getP C (pc := 211) kf9 23 (by decide) rfl bw_931 (fun _ _ _ _ h => h) dX9_edition_211 rfl o160 ?_
                      refine z_iload_n C (pc := 214) dX9_edition_214 3 rfl ?_
                      obtain ⟨a161, e162, o163, h⟩ := h
                      obtain ⟨v164, h⟩ := h
                      refine z_iald C (pc := 215) dX9_edition_215 e162 o163 v164 ?_
                      refine z_iconst C (pc := 216) (x := (1 : Int32)) dX9_edition_216 kic_1 ?_
                      refine z_isub C (pc := 217) dX9_edition_217 ?_
                      exact z_iret C (pc := 218) T dX9_edition_218 (by decide) (by decide) h
                    · refine z_aload_n C (pc := 116) dX9_edition_116 1 rfl ?_
                      refine z_iconst C (pc := 117) (x := (3 : Int32)) dX9_edition_117 kic_3 ?_
                      refine z_Vi C (pc := 118) (KX := fun _ _ => False) (kc' := 0) (ks' := 0) (As := [.int (3 : Int32)]) (rest := []) rfl (c_X9_fails l v S103 x0 (3 : Int32)) mw_X9_fails bw_1021 bw_1023 bw_p31 (fit_of rfl) rfl rfl (Nat.le_of_ble_eq_true rfl) (by decide) rfl o105 dX9_edition_118 h (fun r166 S165 h => ?_) (fun En S9 h => h.elim)
                      exact z_iret C (pc := 121) T dX9_edition_121 (by decide) (by decide) h
                  · refine z_aload_n C (pc := 100) dX9_edition_100 1 rfl ?_
                    refine z_iconst C (pc := 101) (x := (2 : Int32)) dX9_edition_101 kic_2 ?_
                    obtain ⟨o167, h⟩ := h
                    refine z_Vi C (pc := 102) (KX := fun _ _ => False) (kc' := 0) (ks' := 0) (As := [.int (2 : Int32)]) (rest := []) rfl (c_X9_fails l v S103 x0 (2 : Int32)) mw_X9_fails bw_1021 bw_1023 bw_p31 (fit_of rfl) rfl rfl (Nat.le_of_ble_eq_true rfl) (by decide) rfl o167 dX9_edition_102 h (fun r169 S168 h => ?_) (fun En S9 h => h.elim)
                    exact z_iret C (pc := 105) T dX9_edition_105 (by decide) (by decide) h
  · refine z_iconst C (pc := 11) (x := (0 : Int32)) dX9_edition_11 kic_0 ?_
    exact z_iret C (pc := 12) T dX9_edition_12 (by decide) (by decide) h
def wp_X9_begin (S : Hp) (x0 : Nat) (x1 : Int32) (x2 : Int32) (Q : Int32 → Hp → Prop) : Prop :=
  okA S 9 x0 ∧ (wp_X9_isChild S x0 x1 (fun r3 S2 => if r3 = 0 then (okA S2 9 x0 ∧ (wp_X9_asks S2 x0 (0 : Int32) (fun r6 S5 => if r6 = 0 then (Q (0 : Int32) S5) else (okA S5 9 x0 ∧ (rd S5 11 (g_P S5 923 x0) (fun a8 => vp_in x2 (g_N S5 a8) ∧ (if (g_R S5 a8 x2.toNatClampNeg) = 0 then (wp_X9_fails S5 x0 (2 : Int32) (fun r13 S12 => Q r13 S12)) else (rd S5 11 (g_P S5 917 x0) (fun a14 => vp_in (((8 : Int32) * x1) + x2) (g_N S5 a14) ∧ (if (g_R S5 a14 (((8 : Int32) * x1) + x2).toNatClampNeg) = (-1 : Int32) then (rd S5 11 (g_P S5 917 x0) (fun a18 => vp_in (((8 : Int32) * x1) + x2) (g_N S5 a18) ∧ (lt (s_R S5 a18 (((8 : Int32) * x1) + x2).toNatClampNeg (g_I S5 900 x0)) (fun S22 => okA S22 9 x0 ∧ (rd S22 11 (g_P S22 923 x0) (fun a24 => vp_in x2 (g_N S22 a24) ∧ (rd S22 11 (g_P S22 918 x0) (fun a28 => vp_in (((8 : Int32) * x1) + x2) (g_N S22 a28) ∧ (lt (s_R S22 a28 (((8 : Int32) * x1) + x2).toNatClampNeg ((g_R S22 a24 x2.toNatClampNeg) - (1 : Int32))) (fun S32 => okA S32 9 x0 ∧ (rd S32 11 (g_P S32 923 x0) (fun a34 => vp_in x2 (g_N S32 a34) ∧ (Q ((g_R S32 a34 x2.toNatClampNeg) - (1 : Int32)) S32))))))))))))) else (wp_X9_fails S5 x0 (2 : Int32) (fun r39 S38 => Q r39 S38)))))))))))) else (wp_X9_isBadge S2 x2 (fun r41 S40 => if r41 = 0 then (okA S40 9 x0 ∧ (wp_X9_asks S40 x0 (0 : Int32) (fun r44 S43 => if r44 = 0 then (Q (0 : Int32) S43) else (okA S43 9 x0 ∧ (rd S43 11 (g_P S43 923 x0) (fun a46 => vp_in x2 (g_N S43 a46) ∧ (if (g_R S43 a46 x2.toNatClampNeg) = 0 then (wp_X9_fails S43 x0 (2 : Int32) (fun r51 S50 => Q r51 S50)) else (rd S43 11 (g_P S43 917 x0) (fun a52 => vp_in (((8 : Int32) * x1) + x2) (g_N S43 a52) ∧ (if (g_R S43 a52 (((8 : Int32) * x1) + x2).toNatClampNeg) = (-1 : Int32) then (rd S43 11 (g_P S43 917 x0) (fun a56 => vp_in (((8 : Int32) * x1) + x2) (g_N S43 a56) ∧ (lt (s_R S43 a56 (((8 : Int32) * x1) + x2).toNatClampNeg (g_I S43 900 x0)) (fun S60 => okA S60 9 x0 ∧ (rd S60 11 (g_P S60 923 x0) (fun a62 => vp_in x2 (g_N S60 a62) ∧ (rd S60 11 (g_P S60 918 x0) (fun a66 => vp_in (((8 : Int32) * x1) + x2) (g_N S60 a66) ∧ (lt (s_R S60 a66 (((8 : Int32) * x1) + x2).toNatClampNeg ((g_R S60 a62 x2.toNatClampNeg) - (1 : Int32))) (fun S70 => okA S70 9 x0 ∧ (rd S70 11 (g_P S70 923 x0) (fun a72 => vp_in x2 (g_N S70 a72) ∧ (Q ((g_R S70 a72 x2.toNatClampNeg) - (1 : Int32)) S70))))))))))))) else (wp_X9_fails S43 x0 (2 : Int32) (fun r77 S76 => Q r77 S76)))))))))))) else (okA S40 9 x0 ∧ (wp_X9_asks S40 x0 (1 : Int32) (fun r80 S79 => if r80 = 0 then (Q (0 : Int32) S79) else (okA S79 9 x0 ∧ (rd S79 11 (g_P S79 923 x0) (fun a82 => vp_in x2 (g_N S79 a82) ∧ (if (g_R S79 a82 x2.toNatClampNeg) = 0 then (wp_X9_fails S79 x0 (2 : Int32) (fun r87 S86 => Q r87 S86)) else (rd S79 11 (g_P S79 917 x0) (fun a88 => vp_in (((8 : Int32) * x1) + x2) (g_N S79 a88) ∧ (if (g_R S79 a88 (((8 : Int32) * x1) + x2).toNatClampNeg) = (-1 : Int32) then (rd S79 11 (g_P S79 917 x0) (fun a92 => vp_in (((8 : Int32) * x1) + x2) (g_N S79 a92) ∧ (lt (s_R S79 a92 (((8 : Int32) * x1) + x2).toNatClampNeg (g_I S79 900 x0)) (fun S96 => okA S96 9 x0 ∧ (rd S96 11 (g_P S96 923 x0) (fun a98 => vp_in x2 (g_N S96 a98) ∧ (rd S96 11 (g_P S96 918 x0) (fun a102 => vp_in (((8 : Int32) * x1) + x2) (g_N S96 a102) ∧ (lt (s_R S96 a102 (((8 : Int32) * x1) + x2).toNatClampNeg ((g_R S96 a98 x2.toNatClampNeg) - (1 : Int32))) (fun S106 => okA S106 9 x0 ∧ (rd S106 11 (g_P S106 923 x0) (fun a108 => vp_in x2 (g_N S106 a108) ∧ (Q ((g_R S106 a108 x2.toNatClampNeg) - (1 : Int32)) S106))))))))))))) else (wp_X9_fails S79 x0 (2 : Int32) (fun r113 S112 => Q r113 S112))))))))))))))))
def rm_X9_begin : Room := { frames := 2, cells := 0, slots := 0, locals := 43 }
set_option maxHeartbeats 4000000 in
set_option maxRecDepth 100000 in
theorem c_X9_begin (l : Launch) (v : Ev) (S : Hp) (x0 : Nat) (x1 : Int32) (x2 : Int32) : CI l v yX9_begin cX9_begin 3 (some .int) rm_X9_begin [va_rf (some x0), .int x1, .int x2] S (fun Q _ => wp_X9_begin S x0 x1 x2 Q) := by
  intro Q EQ h
  refine z_start [(0, va_rf (some x0)), (1, .int x1), (2, .int x2)] (by decide +kernel) (by simp only [la_i, la_r, la_n]) (cat_cr (cat_ci (cat_ci cat_nil))) (by simp only [ls_i, ls_r, ls_n]; decide) (fun z C N T => ?_)
  unfold wp_X9_begin at h
  refine z_aload_n C (pc := 0) dX9_begin_0 0 rfl ?_
  refine z_aload_n C (pc := 1) dX9_begin_1 0 rfl ?_
  refine z_iload_n C (pc := 2) dX9_begin_2 1 rfl ?_
  obtain ⟨o1, h⟩ := h
  refine z_Vi C (pc := 3) (KX := fun _ _ => False) (kc' := 0) (ks' := 0) (As := [.int x1]) (rest := [va_rf (some x0)]) rfl (c_X9_isChild l v S x0 x1) mw_X9_isChild bw_1033 bw_1035 bw_p32 (fit_of rfl) rfl rfl (Nat.le_of_ble_eq_true rfl) (by decide) rfl o1 dX9_begin_3 h (fun r3 S2 h => ?_) (fun En S9 h => h.elim)
  refine z_if_eq C (pc := 6) (tgt := 20) dX9_begin_6 (by decide) h (fun h => ?_) (fun h => ?_)
  · refine z_iconst C (pc := 20) (x := (0 : Int32)) dX9_begin_20 kic_0 ?_
    obtain ⟨o4, h⟩ := h
    refine z_Vi C (pc := 21) (KX := fun _ _ => False) (kc' := 0) (ks' := 0) (As := [.int (0 : Int32)]) (rest := []) rfl (c_X9_asks l v S2 x0 (0 : Int32)) mw_X9_asks bw_1017 bw_1019 bw_p30 (fit_of rfl) rfl rfl (Nat.le_of_ble_eq_true rfl) (by decide) rfl o4 dX9_begin_21 h (fun r6 S5 h => ?_) (fun En S9 h => h.elim)
    refine z_if_ne C (pc := 24) (tgt := 29) dX9_begin_24 (by decide) h (fun h => ?_) (fun h => ?_)
    · refine z_aload_n C (pc := 29) dX9_begin_29 0 rfl ?_
      obtain ⟨o7, h⟩ := h
      refine z_getP C (pc := 30) kf9 23 (by decide) rfl bw_931 (fun _ _ _ _ h => h) dX9_begin_30 rfl o7 ?_
      refine z_iload_n C (pc := 33) dX9_begin_33 2 rfl ?_
      obtain ⟨a8, e9, o10, h⟩ := h
      obtain ⟨v11, h⟩ := h
      refine z_iald C (pc := 34) dX9_begin_34 e9 o10 v11 ?_
      refine z_if_eq C (pc := 35) (tgt := 53) dX9_begin_35 (by decide) h (fun h => ?_) (fun h => ?_)
      · refine z_aload_n C (pc := 53) dX9_begin_53 0 rfl ?_
        refine z_iconst C (pc := 54) (x := (2 : Int32)) dX9_begin_54 kic_2 ?_
        refine z_Vi C (pc := 55) (KX := fun _ _ => False) (kc' := 0) (ks' := 0) (As := [.int (2 : Int32)]) (rest := []) rfl (c_X9_fails l v S5 x0 (2 : Int32)) mw_X9_fails bw_1021 bw_1023 bw_p31 (fit_of rfl) rfl rfl (Nat.le_of_ble_eq_true rfl) (by decide) rfl o7 dX9_begin_55 h (fun r13 S12 h => ?_) (fun En S9 h => h.elim)
        exact z_iret C (pc := 58) T dX9_begin_58 (by decide) (by decide) h
      · refine z_aload_n C (pc := 38) dX9_begin_38 0 rfl ?_
        refine z_getP C (pc := 39) kf9 17 (by decide) rfl bw_925 (fun _ _ _ _ h => h) dX9_begin_39 rfl o7 ?_
        refine z_bipush C (pc := 42) (x := (8 : Int32)) dX9_begin_42 kbp_8 ?_
        refine z_iload_n C (pc := 44) dX9_begin_44 1 rfl ?_
        refine z_imul C (pc := 45) dX9_begin_45 ?_
        refine z_iload_n C (pc := 46) dX9_begin_46 2 rfl ?_
        refine z_iadd C (pc := 47) dX9_begin_47 ?_
        obtain ⟨a14, e15, o16, h⟩ := h
        obtain ⟨v17, h⟩ := h
        refine z_iald C (pc := 48) dX9_begin_48 e15 o16 v17 ?_
        refine z_iconst C (pc := 49) (x := (-1 : Int32)) dX9_begin_49 kic_m1 ?_
        refine z_icmp_eq C (pc := 50) (tgt := 59) dX9_begin_50 (by decide) h (fun h => ?_) (fun h => ?_)
        · refine z_aload_n C (pc := 59) dX9_begin_59 0 rfl ?_
          refine z_getP C (pc := 60) kf9 17 (by decide) rfl bw_925 (fun _ _ _ _ h => h) dX9_begin_60 rfl o7 ?_
          refine z_bipush C (pc := 63) (x := (8 : Int32)) dX9_begin_63 kbp_8 ?_
          refine z_iload_n C (pc := 65) dX9_begin_65 1 rfl ?_
          refine z_imul C (pc := 66) dX9_begin_66 ?_
          refine z_iload_n C (pc := 67) dX9_begin_67 2 rfl ?_
          refine z_iadd C (pc := 68) dX9_begin_68 ?_
          refine z_aload_n C (pc := 69) dX9_begin_69 0 rfl ?_
          refine z_getI C (pc := 70) kf9 0 (by decide) rfl bw_908 (fun _ _ _ _ h => h) dX9_begin_70 rfl o7 ?_
          obtain ⟨a18, e19, o20, h⟩ := h
          obtain ⟨v21, h⟩ := h
          refine z_iast C (pc := 73) dX9_begin_73 e19 o20 v21 ?_
          refine z_lt h (fun S22 h => ?_)
          refine z_aload_n C (pc := 74) dX9_begin_74 0 rfl ?_
          obtain ⟨o23, h⟩ := h
          refine z_getP C (pc := 75) kf9 18 (by decide) rfl bw_926 (fun _ _ _ _ h => h) dX9_begin_75 rfl o23 ?_
          refine z_bipush C (pc := 78) (x := (8 : Int32)) dX9_begin_78 kbp_8 ?_
          refine z_iload_n C (pc := 80) dX9_begin_80 1 rfl ?_
          refine z_imul C (pc := 81) dX9_begin_81 ?_
          refine z_iload_n C (pc := 82) dX9_begin_82 2 rfl ?_
          refine z_iadd C (pc := 83) dX9_begin_83 ?_
          refine z_aload_n C (pc := 84) dX9_begin_84 0 rfl ?_
          refine z_getP C (pc := 85) kf9 23 (by decide) rfl bw_931 (fun _ _ _ _ h => h) dX9_begin_85 rfl o23 ?_
          refine z_iload_n C (pc := 88) dX9_begin_88 2 rfl ?_
          obtain ⟨a24, e25, o26, h⟩ := h
          obtain ⟨v27, h⟩ := h
          refine z_iald C (pc := 89) dX9_begin_89 e25 o26 v27 ?_
          refine z_iconst C (pc := 90) (x := (1 : Int32)) dX9_begin_90 kic_1 ?_
          refine z_isub C (pc := 91) dX9_begin_91 ?_
          obtain ⟨a28, e29, o30, h⟩ := h
          obtain ⟨v31, h⟩ := h
          refine z_iast C (pc := 92) dX9_begin_92 e29 o30 v31 ?_
          refine z_lt h (fun S32 h => ?_)
          refine z_aload_n C (pc := 93) dX9_begin_93 0 rfl ?_
          obtain ⟨o33, h⟩ := h
          refine z_getP C (pc := 94) kf9 23 (by decide) rfl bw_931 (fun _ _ _ _ h => h) dX9_begin_94 rfl o33 ?_
          refine z_iload_n C (pc := 97) dX9_begin_97 2 rfl ?_
          obtain ⟨a34, e35, o36, h⟩ := h
          obtain ⟨v37, h⟩ := h
          refine z_iald C (pc := 98) dX9_begin_98 e35 o36 v37 ?_
          refine z_iconst C (pc := 99) (x := (1 : Int32)) dX9_begin_99 kic_1 ?_
          refine z_isub C (pc := 100) dX9_begin_100 ?_
          exact z_iret C (pc := 101) T dX9_begin_101 (by decide) (by decide) h
        · refine z_aload_n C (pc := 53) dX9_begin_53 0 rfl ?_
          refine z_iconst C (pc := 54) (x := (2 : Int32)) dX9_begin_54 kic_2 ?_
          refine z_Vi C (pc := 55) (KX := fun _ _ => False) (kc' := 0) (ks' := 0) (As := [.int (2 : Int32)]) (rest := []) rfl (c_X9_fails l v S5 x0 (2 : Int32)) mw_X9_fails bw_1021 bw_1023 bw_p31 (fit_of rfl) rfl rfl (Nat.le_of_ble_eq_true rfl) (by decide) rfl o7 dX9_begin_55 h (fun r39 S38 h => ?_) (fun En S9 h => h.elim)
          exact z_iret C (pc := 58) T dX9_begin_58 (by decide) (by decide) h
    · refine z_iconst C (pc := 27) (x := (0 : Int32)) dX9_begin_27 kic_0 ?_
      exact z_iret C (pc := 28) T dX9_begin_28 (by decide) (by decide) h
  · refine z_iload_n C (pc := 9) dX9_begin_9 2 rfl ?_
    refine z_Si C (pc := 10) (KX := fun _ _ => False) (kc' := 0) (ks' := 0) (As := [.int x2]) (rest := [va_rf (some x0)]) (c_X9_isBadge l v S2 x2) mw_X9_isBadge bw_1131 bw_1132 (fit_of rfl) rfl rfl (Nat.le_of_ble_eq_true rfl) dX9_begin_10 h (fun r41 S40 h => ?_) (fun En S9 h => h.elim)
    refine z_if_eq C (pc := 13) (tgt := 20) dX9_begin_13 (by decide) h (fun h => ?_) (fun h => ?_)
    · refine z_iconst C (pc := 20) (x := (0 : Int32)) dX9_begin_20 kic_0 ?_
      obtain ⟨o42, h⟩ := h
      refine z_Vi C (pc := 21) (KX := fun _ _ => False) (kc' := 0) (ks' := 0) (As := [.int (0 : Int32)]) (rest := []) rfl (c_X9_asks l v S40 x0 (0 : Int32)) mw_X9_asks bw_1017 bw_1019 bw_p30 (fit_of rfl) rfl rfl (Nat.le_of_ble_eq_true rfl) (by decide) rfl o42 dX9_begin_21 h (fun r44 S43 h => ?_) (fun En S9 h => h.elim)
      refine z_if_ne C (pc := 24) (tgt := 29) dX9_begin_24 (by decide) h (fun h => ?_) (fun h => ?_)
      · refine z_aload_n C (pc := 29) dX9_begin_29 0 rfl ?_
        obtain ⟨o45, h⟩ := h
        refine z_getP C (pc := 30) kf9 23 (by decide) rfl bw_931 (fun _ _ _ _ h => h) dX9_begin_30 rfl o45 ?_
        refine z_iload_n C (pc := 33) dX9_begin_33 2 rfl ?_
        obtain ⟨a46, e47, o48, h⟩ := h
        obtain ⟨v49, h⟩ := h
        refine z_iald C (pc := 34) dX9_begin_34 e47 o48 v49 ?_
        refine z_if_eq C (pc := 35) (tgt := 53) dX9_begin_35 (by decide) h (fun h => ?_) (fun h => ?_)
        · refine z_aload_n C (pc := 53) dX9_begin_53 0 rfl ?_
          refine z_iconst C (pc := 54) (x := (2 : Int32)) dX9_begin_54 kic_2 ?_
          refine z_Vi C (pc := 55) (KX := fun _ _ => False) (kc' := 0) (ks' := 0) (As := [.int (2 : Int32)]) (rest := []) rfl (c_X9_fails l v S43 x0 (2 : Int32)) mw_X9_fails bw_1021 bw_1023 bw_p31 (fit_of rfl) rfl rfl (Nat.le_of_ble_eq_true rfl) (by decide) rfl o45 dX9_begin_55 h (fun r51 S50 h => ?_) (fun En S9 h => h.elim)
          exact z_iret C (pc := 58) T dX9_begin_58 (by decide) (by decide) h
        · refine z_aload_n C (pc := 38) dX9_begin_38 0 rfl ?_
          refine z_getP C (pc := 39) kf9 17 (by decide) rfl bw_925 (fun _ _ _ _ h => h) dX9_begin_39 rfl o45 ?_
          refine z_bipush C (pc := 42) (x := (8 : Int32)) dX9_begin_42 kbp_8 ?_
          refine z_iload_n C (pc := 44) dX9_begin_44 1 rfl ?_
          refine z_imul C (pc := 45) dX9_begin_45 ?_
          refine z_iload_n C (pc := 46) dX9_begin_46 2 rfl ?_
          refine z_iadd C (pc := 47) dX9_begin_47 ?_
          obtain ⟨a52, e53, o54, h⟩ := h
          obtain ⟨v55, h⟩ := h
          refine z_iald C (pc := 48) dX9_begin_48 e53 o54 v55 ?_
          refine z_iconst C (pc := 49) (x := (-1 : Int32)) dX9_begin_49 kic_m1 ?_
          refine z_icmp_eq C (pc := 50) (tgt := 59) dX9_begin_50 (by decide) h (fun h => ?_) (fun h => ?_)
          · refine z_aload_n C (pc := 59) dX9_begin_59 0 rfl ?_
            refine z_getP C (pc := 60) kf9 17 (by decide) rfl bw_925 (fun _ _ _ _ h => h) dX9_begin_60 rfl o45 ?_
            refine z_bipush C (pc := 63) (x := (8 : Int32)) dX9_begin_63 kbp_8 ?_
            refine z_iload_n C (pc := 65) dX9_begin_65 1 rfl ?_
            refine z_imul C (pc := 66) dX9_begin_66 ?_
            refine z_iload_n C (pc := 67) dX9_begin_67 2 rfl ?_
            refine z_iadd C (pc := 68) dX9_begin_68 ?_
            refine z_aload_n C (pc := 69) dX9_begin_69 0 rfl ?_
            refine z_getI C (pc := 70) kf9 0 (by decide) rfl bw_908 (fun _ _ _ _ h => h) dX9_begin_70 rfl o45 ?_
            obtain ⟨a56, e57, o58, h⟩ := h
            obtain ⟨v59, h⟩ := h
            refine z_iast C (pc := 73) dX9_begin_73 e57 o58 v59 ?_
            refine z_lt h (fun S60 h => ?_)
            refine z_aload_n C (pc := 74) dX9_begin_74 0 rfl ?_
            obtain ⟨o61, h⟩ := h
            refine z_getP C (pc := 75) kf9 18 (by decide) rfl bw_926 (fun _ _ _ _ h => h) dX9_begin_75 rfl o61 ?_
            refine z_bipush C (pc := 78) (x := (8 : Int32)) dX9_begin_78 kbp_8 ?_
            refine z_iload_n C (pc := 80) dX9_begin_80 1 rfl ?_
            refine z_imul C (pc := 81) dX9_begin_81 ?_
            refine z_iload_n C (pc := 82) dX9_begin_82 2 rfl ?_
            refine z_iadd C (pc := 83) dX9_begin_83 ?_
            refine z_aload_n C (pc := 84) dX9_begin_84 0 rfl ?_
            refine z_getP C (pc := 85) kf9 23 (by decide) rfl bw_931 (fun _ _ _ _ h => h) dX9_begin_85 rfl o61 ?_
            refine z_iload_n C (pc := 88) dX9_begin_88 2 rfl ?_
            obtain ⟨a62, e63, o64, h⟩ := h
            obtain ⟨v65, h⟩ := h
            refine z_iald C (pc := 89) dX9_begin_89 e63 o64 v65 ?_
            refine z_iconst C (pc := 90) (x := (1 : Int32)) dX9_begin_90 kic_1 ?_
            refine z_isub C (pc := 91) dX9_begin_91 ?_
            obtain ⟨a66, e67, o68, h⟩ := h
            obtain ⟨v69, h⟩ := h
            refine z_iast C (pc := 92) dX9_begin_92 e67 o68 v69 ?_
            refine z_lt h (fun S70 h => ?_)
            refine z_aload_n C (pc := 93) dX9_begin_93 0 rfl ?_
            obtain ⟨o71, h⟩ := h
            refine z_getP C (pc := 94) kf9 23 (by decide) rfl bw_931 (fun _ _ _ _ h => h) dX9_begin_94 rfl o71 ?_
            refine z_iload_n C (pc := 97) dX9_begin_97 2 rfl ?_
            obtain ⟨a72, e73, o74, h⟩ := h
            obtain ⟨v75, h⟩ := h
            refine z_iald C (pc := 98) dX9_begin_98 e73 o74 v75 ?_
            refine z_iconst C (pc := 99) (x := (1 : Int32)) dX9_begin_99 kic_1 ?_
            refine z_isub C (pc := 100) dX9_begin_100 ?_
            exact z_iret C (pc := 101) T dX9_begin_101 (by decide) (by decide) h
          · refine z_aload_n C (pc := 53) dX9_begin_53 0 rfl ?_
            refine z_iconst C (pc := 54) (x := (2 : Int32)) dX9_begin_54 kic_2 ?_
            refine z_Vi C (pc := 55) (KX := fun _ _ => False) (kc' := 0) (ks' := 0) (As := [.int (2 : Int32)]) (rest := []) rfl (c_X9_fails l v S43 x0 (2 : Int32)) mw_X9_fails bw_1021 bw_1023 bw_p31 (fit_of rfl) rfl rfl (Nat.le_of_ble_eq_true rfl) (by decide) rfl o45 dX9_begin_55 h (fun r77 S76 h => ?_) (fun En S9 h => h.elim)
            exact z_iret C (pc := 58) T dX9_begin_58 (by decide) (by decide) h
      · refine z_iconst C (pc := 27) (x := (0 : Int32)) dX9_begin_27 kic_0 ?_
        exact z_iret C (pc := 28) T dX9_begin_28 (by decide) (by decide) h
    · refine z_iconst C (pc := 16) (x := (1 : Int32)) dX9_begin_16 kic_1 ?_
      refine z_goto C (pc := 17) (tgt := 21) dX9_begin_17 (by decide) ?_
      obtain ⟨o78, h⟩ := h
      refine z_Vi C (pc := 21) (KX := fun _ _ => False) (kc' := 0) (ks' := 0) (As := [.int (1 : Int32)]) (rest := []) rfl (c_X9_asks l v S40 x0 (1 : Int32)) mw_X9_asks bw_1017 bw_1019 bw_p30 (fit_of rfl) rfl rfl (Nat.le_of_ble_eq_true rfl) (by decide) rfl o78 dX9_begin_21 h (fun r80 S79 h => ?_) (fun En S9 h => h.elim)
      refine z_if_ne C (pc := 24) (tgt := 29) dX9_begin_24 (by decide) h (fun h => ?_) (fun h => ?_)
      · refine z_aload_n C (pc := 29) dX9_begin_29 0 rfl ?_
        obtain ⟨o81, h⟩ := h
        refine z_getP C (pc := 30) kf9 23 (by decide) rfl bw_931 (fun _ _ _ _ h => h) dX9_begin_30 rfl o81 ?_
        refine z_iload_n C (pc := 33) dX9_begin_33 2 rfl ?_
        obtain ⟨a82, e83, o84, h⟩ := h
        obtain ⟨v85, h⟩ := h
        refine z_iald C (pc := 34) dX9_begin_34 e83 o84 v85 ?_
        refine z_if_eq C (pc := 35) (tgt := 53) dX9_begin_35 (by decide) h (fun h => ?_) (fun h => ?_)
        · refine z_aload_n C (pc := 53) dX9_begin_53 0 rfl ?_
          refine z_iconst C (pc := 54) (x := (2 : Int32)) dX9_begin_54 kic_2 ?_
          refine z_Vi C (pc := 55) (KX := fun _ _ => False) (kc' := 0) (ks' := 0) (As := [.int (2 : Int32)]) (rest := []) rfl (c_X9_fails l v S79 x0 (2 : Int32)) mw_X9_fails bw_1021 bw_1023 bw_p31 (fit_of rfl) rfl rfl (Nat.le_of_ble_eq_true rfl) (by decide) rfl o81 dX9_begin_55 h (fun r87 S86 h => ?_) (fun En S9 h => h.elim)
          exact z_iret C (pc := 58) T dX9_begin_58 (by decide) (by decide) h
        · refine z_aload_n C (pc := 38) dX9_begin_38 0 rfl ?_
          refine z_getP C (pc := 39) kf9 17 (by decide) rfl bw_925 (fun _ _ _ _ h => h) dX9_begin_39 rfl o81 ?_
          refine z_bipush C (pc := 42) (x := (8 : Int32)) dX9_begin_42 kbp_8 ?_
          refine z_iload_n C (pc := 44) dX9_begin_44 1 rfl ?_
          refine z_imul C (pc := 45) dX9_begin_45 ?_
          refine z_iload_n C (pc := 46) dX9_begin_46 2 rfl ?_
          refine z_iadd C (pc := 47) dX9_begin_47 ?_
          obtain ⟨a88, e89, o90, h⟩ := h
          obtain ⟨v91, h⟩ := h
          refine z_iald C (pc := 48) dX9_begin_48 e89 o90 v91 ?_
          refine z_iconst C (pc := 49) (x := (-1 : Int32)) dX9_begin_49 kic_m1 ?_
          refine z_icmp_eq C (pc := 50) (tgt := 59) dX9_begin_50 (by decide) h (fun h => ?_) (fun h => ?_)
          · refine z_aload_n C (pc := 59) dX9_begin_59 0 rfl ?_
            refine z_getP C (pc := 60) kf9 17 (by decide) rfl bw_925 (fun _ _ _ _ h => h) dX9_begin_60 rfl o81 ?_
            refine z_bipush C (pc := 63) (x := (8 : Int32)) dX9_begin_63 kbp_8 ?_
            refine z_iload_n C (pc := 65) dX9_begin_65 1 rfl ?_
            refine z_imul C (pc := 66) dX9_begin_66 ?_
            refine z_iload_n C (pc := 67) dX9_begin_67 2 rfl ?_
            refine z_iadd C (pc := 68) dX9_begin_68 ?_
            refine z_aload_n C (pc := 69) dX9_begin_69 0 rfl ?_
            refine z_getI C (pc := 70) kf9 0 (by decide) rfl bw_908 (fun _ _ _ _ h => h) dX9_begin_70 rfl o81 ?_
            obtain ⟨a92, e93, o94, h⟩ := h
            obtain ⟨v95, h⟩ := h
            refine z_iast C (pc := 73) dX9_begin_73 e93 o94 v95 ?_
            refine z_lt h (fun S96 h => ?_)
            refine z_aload_n C (pc := 74) dX9_begin_74 0 rfl ?_
            obtain ⟨o97, h⟩ := h
            refine z_getP C (pc := 75) kf9 18 (by decide) rfl bw_926 (fun _ _ _ _ h => h) dX9_begin_75 rfl o97 ?_
            refine z_bipush C (pc := 78) (x := (8 : Int32)) dX9_begin_78 kbp_8 ?_
            refine z_iload_n C (pc := 80) dX9_begin_80 1 rfl ?_
            refine z_imul C (pc := 81) dX9_begin_81 ?_
            refine z_iload_n C (pc := 82) dX9_begin_82 2 rfl ?_
            refine z_iadd C (pc := 83) dX9_begin_83 ?_
            refine z_aload_n C (pc := 84) dX9_begin_84 0 rfl ?_
            refine z_getP C (pc := 85) kf9 23 (by decide) rfl bw_931 (fun _ _ _ _ h => h) dX9_begin_85 rfl o97 ?_
            refine z_iload_n C (pc := 88) dX9_begin_88 2 rfl ?_
            obtain ⟨a98, e99, o100, h⟩ := h
            obtain ⟨v101, h⟩ := h
            refine z_iald C (pc := 89) dX9_begin_89 e99 o100 v101 ?_
            refine z_iconst C (pc := 90) (x := (1 : Int32)) dX9_begin_90 kic_1 ?_
            refine z_isub C (pc := 91) dX9_begin_91 ?_
            obtain ⟨a102, e103, o104, h⟩ := h
            obtain ⟨v105, h⟩ := h
            refine z_iast C (pc := 92) dX9_begin_92 e103 o104 v105 ?_
            refine z_lt h (fun S106 h => ?_)
            refine z_aload_n C (pc := 93) dX9_begin_93 0 rfl ?_
            obtain ⟨o107, h⟩ := h
            refine z_getP C (pc := 94) kf9 23 (by decide) rfl bw_931 (fun _ _ _ _ h => h) dX9_begin_94 rfl o107 ?_
            refine z_iload_n C (pc := 97) dX9_begin_97 2 rfl ?_
            obtain ⟨a108, e109, o110, h⟩ := h
            obtain ⟨v111, h⟩ := h
            refine z_iald C (pc := 98) dX9_begin_98 e109 o110 v111 ?_
            refine z_iconst C (pc := 99) (x := (1 : Int32)) dX9_begin_99 kic_1 ?_
            refine z_isub C (pc := 100) dX9_begin_100 ?_
            exact z_iret C (pc := 101) T dX9_begin_101 (by decide) (by decide) h
          · refine z_aload_n C (pc := 53) dX9_begin_53 0 rfl ?_
            refine z_iconst C (pc := 54) (x := (2 : Int32)) dX9_begin_54 kic_2 ?_
            refine z_Vi C (pc := 55) (KX := fun _ _ => False) (kc' := 0) (ks' := 0) (As := [.int (2 : Int32)]) (rest := []) rfl (c_X9_fails l v S79 x0 (2 : Int32)) mw_X9_fails bw_1021 bw_1023 bw_p31 (fit_of rfl) rfl rfl (Nat.le_of_ble_eq_true rfl) (by decide) rfl o81 dX9_begin_55 h (fun r113 S112 h => ?_) (fun En S9 h => h.elim)
            exact z_iret C (pc := 58) T dX9_begin_58 (by decide) (by decide) h
      · refine z_iconst C (pc := 27) (x := (0 : Int32)) dX9_begin_27 kic_0 ?_
        exact z_iret C (pc := 28) T dX9_begin_28 (by decide) (by decide) h
def wp_X9_later (S : Hp) (x0 : Int32) (x1 : Int32) (Q : Int32 → Hp → Prop) : Prop :=
  if x0 ≤ x1 then (Q x1 S) else (Q x0 S)
def rm_X9_later : Room := { frames := 0, cells := 0, slots := 0, locals := 0 }
set_option maxHeartbeats 4000000 in
set_option maxRecDepth 100000 in
theorem c_X9_later (l : Launch) (v : Ev) (S : Hp) (x0 : Int32) (x1 : Int32) : CI l v yX9_later cX9_later 2 (some .int) rm_X9_later [.int x0, .int x1] S (fun Q _ => wp_X9_later S x0 x1 Q) := by
  intro Q EQ h
  refine z_start [(0, .int x0), (1, .int x1)] (by decide +kernel) (by simp only [la_i, la_r, la_n]) (cat_ci (cat_ci cat_nil)) (by simp only [ls_i, ls_r, ls_n]; decide) (fun z C N T => ?_)
  unfold wp_X9_later at h
  refine z_iload_n C (pc := 0) dX9_later_0 0 rfl ?_
  refine z_iload_n C (pc := 1) dX9_later_1 1 rfl ?_
  refine z_icmp_le C (pc := 2) (tgt := 9) dX9_later_2 (by decide) h (fun h => ?_) (fun h => ?_)
  · refine z_iload_n C (pc := 9) dX9_later_9 1 rfl ?_
    exact z_iret C (pc := 10) T dX9_later_10 (by decide) (by decide) h
  · refine z_iload_n C (pc := 5) dX9_later_5 0 rfl ?_
    refine z_goto C (pc := 6) (tgt := 10) dX9_later_6 (by decide) ?_
    exact z_iret C (pc := 10) T dX9_later_10 (by decide) (by decide) h
def wp_X9_provenOn (S : Hp) (x0 : Nat) (x1 : Int32) (x2 : Int32) (Q : Int32 → Hp → Prop) : Prop :=
  okA S 9 x0 ∧ (rd S 11 (g_P S 916 x0) (fun a2 => vp_in (((16 : Int32) * x1) + x2) (g_N S a2) ∧ (lt (g_R S a2 (((16 : Int32) * x1) + x2).toNatClampNeg) (fun y6 => if y6 = (-1 : Int32) then (Q (100000 : Int32) S) else (Q y6 S)))))
def rm_X9_provenOn : Room := { frames := 0, cells := 0, slots := 0, locals := 0 }
set_option maxHeartbeats 4000000 in
set_option maxRecDepth 100000 in
theorem c_X9_provenOn (l : Launch) (v : Ev) (S : Hp) (x0 : Nat) (x1 : Int32) (x2 : Int32) : CI l v yX9_provenOn cX9_provenOn 4 (some .int) rm_X9_provenOn [va_rf (some x0), .int x1, .int x2] S (fun Q _ => wp_X9_provenOn S x0 x1 x2 Q) := by
  intro Q EQ h
  refine z_start [(0, va_rf (some x0)), (1, .int x1), (2, .int x2)] (by decide +kernel) (by simp only [la_i, la_r, la_n]) (cat_cr (cat_ci (cat_ci cat_nil))) (by simp only [ls_i, ls_r, ls_n]; decide) (fun z C N T => ?_)
  unfold wp_X9_provenOn at h
  refine z_aload_n C (pc := 0) dX9_provenOn_0 0 rfl ?_
  obtain ⟨o1, h⟩ := h
  refine z_getP C (pc := 1) kf9 16 (by decide) rfl bw_924 (fun _ _ _ _ h => h) dX9_provenOn_1 rfl o1 ?_
  refine z_bipush C (pc := 4) (x := (16 : Int32)) dX9_provenOn_4 kbp_16 ?_
  refine z_iload_n C (pc := 6) dX9_provenOn_6 1 rfl ?_
  refine z_imul C (pc := 7) dX9_provenOn_7 ?_
  refine z_iload_n C (pc := 8) dX9_provenOn_8 2 rfl ?_
  refine z_iadd C (pc := 9) dX9_provenOn_9 ?_
  obtain ⟨a2, e3, o4, h⟩ := h
  obtain ⟨v5, h⟩ := h
  refine z_iald C (pc := 10) dX9_provenOn_10 e3 o4 v5 ?_
  refine z_nI h (fun y6 h => ?_)
  refine z_istore_n C (pc := 11) (lv' := [(3, .int y6), (0, va_rf (some x0)), (1, .int x1), (2, .int x2)]) dX9_provenOn_11 (by decide) rfl ?_
  refine z_iload_n C (pc := 12) dX9_provenOn_12 0 rfl ?_
  refine z_iconst C (pc := 13) (x := (-1 : Int32)) dX9_provenOn_13 kic_m1 ?_
  refine z_icmp_ne C (pc := 14) (tgt := 22) dX9_provenOn_14 (by decide) h (fun h => ?_) (fun h => ?_)
  · refine z_iload_n C (pc := 22) dX9_provenOn_22 0 rfl ?_
    exact z_iret C (pc := 23) T dX9_provenOn_23 (by decide) (by decide) h
  · refine z_ldc C (pc := 17) (x := (100000 : Int32)) dX9_provenOn_17 bw_1157 ?_
    refine z_goto C (pc := 19) (tgt := 23) dX9_provenOn_19 (by decide) ?_
    exact z_iret C (pc := 23) T dX9_provenOn_23 (by decide) (by decide) h
def wp_X9_dayOfMany_L41 (f0 : Nat) (f1 : Int32) (f2 : Int32) (f3 : Int32) (f4 : Int32) (f5 : Int32) (f6 : Int32) (K15 : Hp → Int32 → Int32 → Prop) (Q : Int32 → Hp → Prop) : Nat → Hp → Int32 → Int32 → Prop
  | 0, _, _, _ => False
  | n + 1, S, w7, w8 => if (16 : Int32) ≤ w8 then (if ((f2 >>> (f5 &&& 31)) &&& (1 : Int32)) = (1 : Int32) then (if w7 < f3 then (K15 S f4 (f5 + (1 : Int32))) else (if f4 ≤ f6 then (K15 S f4 (f5 + (1 : Int32))) else (K15 S f6 (f5 + (1 : Int32))))) else (K15 S f4 (f5 + (1 : Int32)))) else (if ((f2 >>> (w8 &&& 31)) &&& (1 : Int32)) = (1 : Int32) then (okA S 9 f0 ∧ (wp_X9_provenOn S f0 f1 w8 (fun r7 S6 => if f6 < r7 then (lt (w7 + (0 : Int32)) (fun y8 => wp_X9_dayOfMany_L41 f0 f1 f2 f3 f4 f5 f6 K15 Q n S6 y8 (w8 + (1 : Int32)))) else (lt (w7 + (1 : Int32)) (fun y9 => wp_X9_dayOfMany_L41 f0 f1 f2 f3 f4 f5 f6 K15 Q n S6 y9 (w8 + (1 : Int32))))))) else (lt (w7 + (0 : Int32)) (fun y4 => wp_X9_dayOfMany_L41 f0 f1 f2 f3 f4 f5 f6 K15 Q n S y4 (w8 + (1 : Int32)))))
def wp_X9_dayOfMany_L15 (f0 : Nat) (f1 : Int32) (f2 : Int32) (f3 : Int32) (Q : Int32 → Hp → Prop) : Nat → Hp → Int32 → Int32 → Prop
  | 0, _, _, _ => False
  | n + 1, S, w4, w5 => if (16 : Int32) ≤ w5 then (Q w4 S) else (if f3 ≤ 0 then (Q w4 S) else (okA S 9 f0 ∧ (wp_X9_provenOn S f0 f1 w5 (fun r3 S2 => ∃ n10, wp_X9_dayOfMany_L41 f0 f1 f2 f3 w4 w5 r3 (wp_X9_dayOfMany_L15 f0 f1 f2 f3 Q n) Q n10 S2 (0 : Int32) (0 : Int32)))))
def wp_X9_dayOfMany (S : Hp) (x0 : Nat) (x1 : Int32) (x2 : Int32) (x3 : Int32) (Q : Int32 → Hp → Prop) : Prop :=
  if x3 = 0 then (∃ n12, wp_X9_dayOfMany_L15 x0 x1 x2 x3 Q n12 S (0 : Int32) (0 : Int32)) else (∃ n11, wp_X9_dayOfMany_L15 x0 x1 x2 x3 Q n11 S (100000 : Int32) (0 : Int32))
def rm_X9_dayOfMany : Room := { frames := 1, cells := 0, slots := 0, locals := 23 }
set_option maxHeartbeats 4000000 in
set_option maxRecDepth 100000 in
theorem l_X9_dayOfMany_L41 (l : Launch) (v : Ev) (f0 : Nat) (f1 : Int32) (f2 : Int32) (f3 : Int32) (f4 : Int32) (f5 : Int32) (f6 : Int32) (K15 : Hp → Int32 → Int32 → Prop) (Q : Int32 → Hp → Prop) {EQ : String → Hp → Prop} {z : Z9} (C : Cx l v RX9 cX9_dayOfMany 9 (some .int) "dayOfMany" z) (N : NT z) (T : EE v rm_X9_dayOfMany (QI v Q) EQ z) (hK15 : ∀ (S : Hp) (u4 : Int32) (u5 : Int32), K15 S u4 u5 → ZZ l v 9 rm_X9_dayOfMany z 0 0 S 15 [(0, va_rf (some f0)), (1, .int f1), (2, .int f2), (3, .int f3), (4, .int u4), (5, .int u5)] []) : ∀ (n : Nat) (S : Hp) (w7 : Int32) (w8 : Int32), wp_X9_dayOfMany_L41 f0 f1 f2 f3 f4 f5 f6 K15 Q n S w7 w8 → ZZ l v 9 rm_X9_dayOfMany z 0 0 S 41 [(0, va_rf (some f0)), (1, .int f1), (2, .int f2), (3, .int f3), (4, .int f4), (5, .int f5), (6, .int f6), (7, .int w7), (8, .int w8)] [] := by
  intro n
  induction n with
  | zero =>
    intro S w7 w8 h
    exact h.elim
  | succ n ih =>
    intro S w7 w8 h
    unfold wp_X9_dayOfMany_L41 at h
    refine z_iload C (pc := 41) dX9_dayOfMany_41 8 rfl ?_
    refine z_bipush C (pc := 43) (x := (16 : Int32)) dX9_dayOfMany_43 kbp_16 ?_
    refine z_icmp_ge C (pc := 45) (tgt := 86) dX9_dayOfMany_45 (by decide) h (fun h => ?_) (fun h => ?_)
    · refine z_iload_n C (pc := 86) dX9_dayOfMany_86 2 rfl ?_
      refine z_iload C (pc := 87) dX9_dayOfMany_87 5 rfl ?_
      refine z_ishr C (pc := 89) dX9_dayOfMany_89 ?_
      refine z_iconst C (pc := 90) (x := (1 : Int32)) dX9_dayOfMany_90 kic_1 ?_
      refine z_iand C (pc := 91) dX9_dayOfMany_91 ?_
      refine z_iconst C (pc := 92) (x := (1 : Int32)) dX9_dayOfMany_92 kic_1 ?_
      refine z_icmp_ne C (pc := 93) (tgt := 114) dX9_dayOfMany_93 (by decide) h (fun h => ?_) (fun h => ?_)
      · refine z_iload C (pc := 114) dX9_dayOfMany_114 4 rfl ?_
        refine z_istore C (pc := 116) (lv' := [(4, .int f4), (0, va_rf (some f0)), (1, .int f1), (2, .int f2), (3, .int f3), (5, .int f5), (6, .int f6), (7, .int w7), (8, .int w8)]) dX9_dayOfMany_116 (by decide) rfl ?_
        refine z_iinc C (pc := 118) (y := f5 + (1 : Int32)) (lv' := [(5, .int (f5 + (1 : Int32))), (4, .int f4), (0, va_rf (some f0)), (1, .int f1), (2, .int f2), (3, .int f3), (6, .int f6), (7, .int w7), (8, .int w8)]) dX9_dayOfMany_118 5 rfl rfl (by decide) rfl ?_
        refine z_goto C (pc := 121) (tgt := 15) dX9_dayOfMany_121 (by decide) ?_
        refine z_sub [2, 3, 4, 5, 1, 0] (lv' := [(0, va_rf (some f0)), (1, .int f1), (2, .int f2), (3, .int f3), (4, .int f4), (5, .int (f5 + (1 : Int32)))]) rfl ?_
        exact hK15 S f4 (f5 + (1 : Int32)) h
      · refine z_iload C (pc := 96) dX9_dayOfMany_96 7 rfl ?_
        refine z_iload_n C (pc := 98) dX9_dayOfMany_98 3 rfl ?_
        refine z_icmp_lt C (pc := 99) (tgt := 114) dX9_dayOfMany_99 (by decide) h (fun h => ?_) (fun h => ?_)
        · refine z_iload C (pc := 114) dX9_dayOfMany_114 4 rfl ?_
          refine z_istore C (pc := 116) (lv' := [(4, .int f4), (0, va_rf (some f0)), (1, .int f1), (2, .int f2), (3, .int f3), (5, .int f5), (6, .int f6), (7, .int w7), (8, .int w8)]) dX9_dayOfMany_116 (by decide) rfl ?_
          refine z_iinc C (pc := 118) (y := f5 + (1 : Int32)) (lv' := [(5, .int (f5 + (1 : Int32))), (4, .int f4), (0, va_rf (some f0)), (1, .int f1), (2, .int f2), (3, .int f3), (6, .int f6), (7, .int w7), (8, .int w8)]) dX9_dayOfMany_118 5 rfl rfl (by decide) rfl ?_
          refine z_goto C (pc := 121) (tgt := 15) dX9_dayOfMany_121 (by decide) ?_
          refine z_sub [2, 3, 4, 5, 1, 0] (lv' := [(0, va_rf (some f0)), (1, .int f1), (2, .int f2), (3, .int f3), (4, .int f4), (5, .int (f5 + (1 : Int32)))]) rfl ?_
          exact hK15 S f4 (f5 + (1 : Int32)) h
        · refine z_iload C (pc := 102) dX9_dayOfMany_102 6 rfl ?_
          refine z_iload C (pc := 104) dX9_dayOfMany_104 4 rfl ?_
          refine z_icmp_ge C (pc := 106) (tgt := 114) dX9_dayOfMany_106 (by decide) h (fun h => ?_) (fun h => ?_)
          · refine z_iload C (pc := 114) dX9_dayOfMany_114 4 rfl ?_
            refine z_istore C (pc := 116) (lv' := [(4, .int f4), (0, va_rf (some f0)), (1, .int f1), (2, .int f2), (3, .int f3), (5, .int f5), (6, .int f6), (7, .int w7), (8, .int w8)]) dX9_dayOfMany_116 (by decide) rfl ?_
            refine z_iinc C (pc := 118) (y := f5 + (1 : Int32)) (lv' := [(5, .int (f5 + (1 : Int32))), (4, .int f4), (0, va_rf (some f0)), (1, .int f1), (2, .int f2), (3, .int f3), (6, .int f6), (7, .int w7), (8, .int w8)]) dX9_dayOfMany_118 5 rfl rfl (by decide) rfl ?_
            refine z_goto C (pc := 121) (tgt := 15) dX9_dayOfMany_121 (by decide) ?_
            refine z_sub [2, 3, 4, 5, 1, 0] (lv' := [(0, va_rf (some f0)), (1, .int f1), (2, .int f2), (3, .int f3), (4, .int f4), (5, .int (f5 + (1 : Int32)))]) rfl ?_
            exact hK15 S f4 (f5 + (1 : Int32)) h
          · refine z_iload C (pc := 109) dX9_dayOfMany_109 6 rfl ?_
            refine z_goto C (pc := 111) (tgt := 116) dX9_dayOfMany_111 (by decide) ?_
            refine z_istore C (pc := 116) (lv' := [(4, .int f6), (0, va_rf (some f0)), (1, .int f1), (2, .int f2), (3, .int f3), (5, .int f5), (6, .int f6), (7, .int w7), (8, .int w8)]) dX9_dayOfMany_116 (by decide) rfl ?_
            refine z_iinc C (pc := 118) (y := f5 + (1 : Int32)) (lv' := [(5, .int (f5 + (1 : Int32))), (4, .int f6), (0, va_rf (some f0)), (1, .int f1), (2, .int f2), (3, .int f3), (6, .int f6), (7, .int w7), (8, .int w8)]) dX9_dayOfMany_118 5 rfl rfl (by decide) rfl ?_
            refine z_goto C (pc := 121) (tgt := 15) dX9_dayOfMany_121 (by decide) ?_
            refine z_sub [2, 3, 4, 5, 1, 0] (lv' := [(0, va_rf (some f0)), (1, .int f1), (2, .int f2), (3, .int f3), (4, .int f6), (5, .int (f5 + (1 : Int32)))]) rfl ?_
            exact hK15 S f6 (f5 + (1 : Int32)) h
    · refine z_iload C (pc := 48) dX9_dayOfMany_48 7 rfl ?_
      refine z_iload_n C (pc := 50) dX9_dayOfMany_50 2 rfl ?_
      refine z_iload C (pc := 51) dX9_dayOfMany_51 8 rfl ?_
      refine z_ishr C (pc := 53) dX9_dayOfMany_53 ?_
      refine z_iconst C (pc := 54) (x := (1 : Int32)) dX9_dayOfMany_54 kic_1 ?_
      refine z_iand C (pc := 55) dX9_dayOfMany_55 ?_
      refine z_iconst C (pc := 56) (x := (1 : Int32)) dX9_dayOfMany_56 kic_1 ?_
      refine z_icmp_ne C (pc := 57) (tgt := 76) dX9_dayOfMany_57 (by decide) h (fun h => ?_) (fun h => ?_)
      · refine z_iconst C (pc := 76) (x := (0 : Int32)) dX9_dayOfMany_76 kic_0 ?_
        refine z_iadd C (pc := 77) dX9_dayOfMany_77 ?_
        refine z_nI h (fun y4 h => ?_)
        refine z_istore C (pc := 78) (lv' := [(7, .int y4), (0, va_rf (some f0)), (1, .int f1), (2, .int f2), (3, .int f3), (4, .int f4), (5, .int f5), (6, .int f6), (8, .int w8)]) dX9_dayOfMany_78 (by decide) rfl ?_
        refine z_iinc C (pc := 80) (y := w8 + (1 : Int32)) (lv' := [(8, .int (w8 + (1 : Int32))), (7, .int y4), (0, va_rf (some f0)), (1, .int f1), (2, .int f2), (3, .int f3), (4, .int f4), (5, .int f5), (6, .int f6)]) dX9_dayOfMany_80 8 rfl rfl (by decide) rfl ?_
        refine z_goto C (pc := 83) (tgt := 41) dX9_dayOfMany_83 (by decide) ?_
        refine z_sub [2, 3, 4, 5, 6, 7, 8, 1, 0] (lv' := [(0, va_rf (some f0)), (1, .int f1), (2, .int f2), (3, .int f3), (4, .int f4), (5, .int f5), (6, .int f6), (7, .int y4), (8, .int (w8 + (1 : Int32)))]) rfl ?_
        exact ih S y4 (w8 + (1 : Int32)) h
      · refine z_aload_n C (pc := 60) dX9_dayOfMany_60 0 rfl ?_
        refine z_iload_n C (pc := 61) dX9_dayOfMany_61 1 rfl ?_
        refine z_iload C (pc := 62) dX9_dayOfMany_62 8 rfl ?_
        obtain ⟨o5, h⟩ := h
        refine z_Vi C (pc := 64) (KX := fun _ _ => False) (kc' := 0) (ks' := 0) (As := [.int f1, .int w8]) (rest := [.int w7]) rfl (c_X9_provenOn l v S f0 f1 w8) mw_X9_provenOn bw_1158 bw_1160 bw_p47 (fit_of rfl) rfl rfl (Nat.le_of_ble_eq_true rfl) (by decide) rfl o5 dX9_dayOfMany_64 h (fun r7 S6 h => ?_) (fun En S9 h => h.elim)
        refine z_iload C (pc := 67) dX9_dayOfMany_67 6 rfl ?_
        refine z_icmp_gt C (pc := 69) (tgt := 76) dX9_dayOfMany_69 (by decide) h (fun h => ?_) (fun h => ?_)
        · refine z_iconst C (pc := 76) (x := (0 : Int32)) dX9_dayOfMany_76 kic_0 ?_
          refine z_iadd C (pc := 77) dX9_dayOfMany_77 ?_
          refine z_nI h (fun y8 h => ?_)
          refine z_istore C (pc := 78) (lv' := [(7, .int y8), (0, va_rf (some f0)), (1, .int f1), (2, .int f2), (3, .int f3), (4, .int f4), (5, .int f5), (6, .int f6), (8, .int w8)]) dX9_dayOfMany_78 (by decide) rfl ?_
          refine z_iinc C (pc := 80) (y := w8 + (1 : Int32)) (lv' := [(8, .int (w8 + (1 : Int32))), (7, .int y8), (0, va_rf (some f0)), (1, .int f1), (2, .int f2), (3, .int f3), (4, .int f4), (5, .int f5), (6, .int f6)]) dX9_dayOfMany_80 8 rfl rfl (by decide) rfl ?_
          refine z_goto C (pc := 83) (tgt := 41) dX9_dayOfMany_83 (by decide) ?_
          refine z_sub [2, 3, 4, 5, 6, 7, 8, 1, 0] (lv' := [(0, va_rf (some f0)), (1, .int f1), (2, .int f2), (3, .int f3), (4, .int f4), (5, .int f5), (6, .int f6), (7, .int y8), (8, .int (w8 + (1 : Int32)))]) rfl ?_
          exact ih S6 y8 (w8 + (1 : Int32)) h
        · refine z_iconst C (pc := 72) (x := (1 : Int32)) dX9_dayOfMany_72 kic_1 ?_
          refine z_goto C (pc := 73) (tgt := 77) dX9_dayOfMany_73 (by decide) ?_
          refine z_iadd C (pc := 77) dX9_dayOfMany_77 ?_
          refine z_nI h (fun y9 h => ?_)
          refine z_istore C (pc := 78) (lv' := [(7, .int y9), (0, va_rf (some f0)), (1, .int f1), (2, .int f2), (3, .int f3), (4, .int f4), (5, .int f5), (6, .int f6), (8, .int w8)]) dX9_dayOfMany_78 (by decide) rfl ?_
          refine z_iinc C (pc := 80) (y := w8 + (1 : Int32)) (lv' := [(8, .int (w8 + (1 : Int32))), (7, .int y9), (0, va_rf (some f0)), (1, .int f1), (2, .int f2), (3, .int f3), (4, .int f4), (5, .int f5), (6, .int f6)]) dX9_dayOfMany_80 8 rfl rfl (by decide) rfl ?_
          refine z_goto C (pc := 83) (tgt := 41) dX9_dayOfMany_83 (by decide) ?_
          refine z_sub [2, 3, 4, 5, 6, 7, 8, 1, 0] (lv' := [(0, va_rf (some f0)), (1, .int f1), (2, .int f2), (3, .int f3), (4, .int f4), (5, .int f5), (6, .int f6), (7, .int y9), (8, .int (w8 + (1 : Int32)))]) rfl ?_
          exact ih S6 y9 (w8 + (1 : Int32)) h
set_option maxHeartbeats 4000000 in
set_option maxRecDepth 100000 in
theorem l_X9_dayOfMany_L15 (l : Launch) (v : Ev) (f0 : Nat) (f1 : Int32) (f2 : Int32) (f3 : Int32) (Q : Int32 → Hp → Prop) {EQ : String → Hp → Prop} {z : Z9} (C : Cx l v RX9 cX9_dayOfMany 9 (some .int) "dayOfMany" z) (N : NT z) (T : EE v rm_X9_dayOfMany (QI v Q) EQ z) : ∀ (n : Nat) (S : Hp) (w4 : Int32) (w5 : Int32), wp_X9_dayOfMany_L15 f0 f1 f2 f3 Q n S w4 w5 → ZZ l v 9 rm_X9_dayOfMany z 0 0 S 15 [(0, va_rf (some f0)), (1, .int f1), (2, .int f2), (3, .int f3), (4, .int w4), (5, .int w5)] [] := by
  intro n
  induction n with
  | zero =>
    intro S w4 w5 h
    exact h.elim
  | succ n ih =>
    intro S w4 w5 h
    unfold wp_X9_dayOfMany_L15 at h
    refine z_iload C (pc := 15) dX9_dayOfMany_15 5 rfl ?_
    refine z_bipush C (pc := 17) (x := (16 : Int32)) dX9_dayOfMany_17 kbp_16 ?_
    refine z_icmp_ge C (pc := 19) (tgt := 124) dX9_dayOfMany_19 (by decide) h (fun h => ?_) (fun h => ?_)
    · refine z_iload C (pc := 124) dX9_dayOfMany_124 4 rfl ?_
      exact z_iret C (pc := 126) T dX9_dayOfMany_126 (by decide) (by decide) h
    · refine z_iload_n C (pc := 22) dX9_dayOfMany_22 3 rfl ?_
      refine z_if_le C (pc := 23) (tgt := 124) dX9_dayOfMany_23 (by decide) h (fun h => ?_) (fun h => ?_)
      · refine z_iload C (pc := 124) dX9_dayOfMany_124 4 rfl ?_
        exact z_iret C (pc := 126) T dX9_dayOfMany_126 (by decide) (by decide) h
      · refine z_aload_n C (pc := 26) dX9_dayOfMany_26 0 rfl ?_
        refine z_iload_n C (pc := 27) dX9_dayOfMany_27 1 rfl ?_
        refine z_iload C (pc := 28) dX9_dayOfMany_28 5 rfl ?_
        obtain ⟨o1, h⟩ := h
        refine z_Vi C (pc := 30) (KX := fun _ _ => False) (kc' := 0) (ks' := 0) (As := [.int f1, .int w5]) (rest := []) rfl (c_X9_provenOn l v S f0 f1 w5) mw_X9_provenOn bw_1158 bw_1160 bw_p47 (fit_of rfl) rfl rfl (Nat.le_of_ble_eq_true rfl) (by decide) rfl o1 dX9_dayOfMany_30 h (fun r3 S2 h => ?_) (fun En S9 h => h.elim)
        refine z_istore C (pc := 33) (lv' := [(6, .int r3), (0, va_rf (some f0)), (1, .int f1), (2, .int f2), (3, .int f3), (4, .int w4), (5, .int w5)]) dX9_dayOfMany_33 (by decide) rfl ?_
        refine z_iconst C (pc := 35) (x := (0 : Int32)) dX9_dayOfMany_35 kic_0 ?_
        refine z_istore C (pc := 36) (lv' := [(7, .int (0 : Int32)), (6, .int r3), (0, va_rf (some f0)), (1, .int f1), (2, .int f2), (3, .int f3), (4, .int w4), (5, .int w5)]) dX9_dayOfMany_36 (by decide) rfl ?_
        refine z_iconst C (pc := 38) (x := (0 : Int32)) dX9_dayOfMany_38 kic_0 ?_
        refine z_istore C (pc := 39) (lv' := [(8, .int (0 : Int32)), (7, .int (0 : Int32)), (6, .int r3), (0, va_rf (some f0)), (1, .int f1), (2, .int f2), (3, .int f3), (4, .int w4), (5, .int w5)]) dX9_dayOfMany_39 (by decide) rfl ?_
        obtain ⟨n10, h⟩ := h
        refine z_sub [3, 4, 5, 6, 7, 8, 2, 1, 0] (lv' := [(0, va_rf (some f0)), (1, .int f1), (2, .int f2), (3, .int f3), (4, .int w4), (5, .int w5), (6, .int r3), (7, .int (0 : Int32)), (8, .int (0 : Int32))]) rfl ?_
        exact l_X9_dayOfMany_L41 l v f0 f1 f2 f3 w4 w5 r3 (wp_X9_dayOfMany_L15 f0 f1 f2 f3 Q n) Q C N T ih n10 S2 (0 : Int32) (0 : Int32) h
set_option maxHeartbeats 4000000 in
set_option maxRecDepth 100000 in
theorem c_X9_dayOfMany (l : Launch) (v : Ev) (S : Hp) (x0 : Nat) (x1 : Int32) (x2 : Int32) (x3 : Int32) : CI l v yX9_dayOfMany cX9_dayOfMany 9 (some .int) rm_X9_dayOfMany [va_rf (some x0), .int x1, .int x2, .int x3] S (fun Q _ => wp_X9_dayOfMany S x0 x1 x2 x3 Q) := by
  intro Q EQ h
  refine z_start [(0, va_rf (some x0)), (1, .int x1), (2, .int x2), (3, .int x3)] (by decide +kernel) (by simp only [la_i, la_r, la_n]) (cat_cr (cat_ci (cat_ci (cat_ci cat_nil)))) (by simp only [ls_i, ls_r, ls_n]; decide) (fun z C N T => ?_)
  unfold wp_X9_dayOfMany at h
  refine z_iload_n C (pc := 0) dX9_dayOfMany_0 3 rfl ?_
  refine z_if_ne C (pc := 1) (tgt := 8) dX9_dayOfMany_1 (by decide) h (fun h => ?_) (fun h => ?_)
  · refine z_ldc C (pc := 8) (x := (100000 : Int32)) dX9_dayOfMany_8 bw_1157 ?_
    refine z_istore C (pc := 10) (lv' := [(4, .int (100000 : Int32)), (0, va_rf (some x0)), (1, .int x1), (2, .int x2), (3, .int x3)]) dX9_dayOfMany_10 (by decide) rfl ?_
    refine z_iconst C (pc := 12) (x := (0 : Int32)) dX9_dayOfMany_12 kic_0 ?_
    refine z_istore C (pc := 13) (lv' := [(5, .int (0 : Int32)), (4, .int (100000 : Int32)), (0, va_rf (some x0)), (1, .int x1), (2, .int x2), (3, .int x3)]) dX9_dayOfMany_13 (by decide) rfl ?_
    obtain ⟨n11, h⟩ := h
    refine z_sub [2, 3, 4, 5, 1, 0] (lv' := [(0, va_rf (some x0)), (1, .int x1), (2, .int x2), (3, .int x3), (4, .int (100000 : Int32)), (5, .int (0 : Int32))]) rfl ?_
    exact l_X9_dayOfMany_L15 l v x0 x1 x2 x3 Q C N T n11 S (100000 : Int32) (0 : Int32) h
  · refine z_iconst C (pc := 4) (x := (0 : Int32)) dX9_dayOfMany_4 kic_0 ?_
    refine z_goto C (pc := 5) (tgt := 10) dX9_dayOfMany_5 (by decide) ?_
    refine z_istore C (pc := 10) (lv' := [(4, .int (0 : Int32)), (0, va_rf (some x0)), (1, .int x1), (2, .int x2), (3, .int x3)]) dX9_dayOfMany_10 (by decide) rfl ?_
    refine z_iconst C (pc := 12) (x := (0 : Int32)) dX9_dayOfMany_12 kic_0 ?_
    refine z_istore C (pc := 13) (lv' := [(5, .int (0 : Int32)), (4, .int (0 : Int32)), (0, va_rf (some x0)), (1, .int x1), (2, .int x2), (3, .int x3)]) dX9_dayOfMany_13 (by decide) rfl ?_
    obtain ⟨n12, h⟩ := h
    refine z_sub [2, 3, 4, 5, 1, 0] (lv' := [(0, va_rf (some x0)), (1, .int x1), (2, .int x2), (3, .int x3), (4, .int (0 : Int32)), (5, .int (0 : Int32))]) rfl ?_
    exact l_X9_dayOfMany_L15 l v x0 x1 x2 x3 Q C N T n12 S (0 : Int32) (0 : Int32) h
def wp_X9_findsDays_L58 (f0 : Nat) (f1 : Int32) (f2 : Int32) (f3 : Int32) (K2 : Hp → Int32 → Prop) (Q : Hp → Prop) : Nat → Hp → Int32 → Int32 → Prop
  | 0, _, _, _ => False
  | n + 1, S, w4, w5 => if (16 : Int32) ≤ w5 then (okA S 9 f0 ∧ (rd S 11 (g_P S 924 f0) (fun a18 => vp_in (f3 + (1 : Int32)) (g_N S a18) ∧ (rd S 11 (g_P S 924 f0) (fun a22 => vp_in (f3 + (2 : Int32)) (g_N S a22) ∧ (wp_X9_dayOfMany S f0 f1 (g_R S a18 (f3 + (1 : Int32)).toNatClampNeg) (g_R S a22 (f3 + (2 : Int32)).toNatClampNeg) (fun r27 S26 => wp_X9_later S26 w4 r27 (fun r29 S28 => okA S28 9 f0 ∧ (rd S28 11 (g_P S28 924 f0) (fun a31 => vp_in (f3 + (3 : Int32)) (g_N S28 a31) ∧ (lt (g_R S28 a31 (f3 + (3 : Int32)).toNatClampNeg) (fun y35 => if y35 = (-1 : Int32) then (if (100000 : Int32) ≤ r29 then (rd S28 11 (g_P S28 925 f0) (fun a57 => vp_in f2 (g_N S28 a57) ∧ (lt (s_R S28 a57 f2.toNatClampNeg (100000 : Int32)) (fun S61 => K2 S61 (f2 + (1 : Int32)))))) else (rd S28 11 (g_P S28 925 f0) (fun a62 => vp_in f2 (g_N S28 a62) ∧ (lt (s_R S28 a62 f2.toNatClampNeg r29) (fun S66 => K2 S66 (f2 + (1 : Int32))))))) else (rd S28 11 (g_P S28 925 f0) (fun a36 => vp_in y35 (g_N S28 a36) ∧ (rd S28 11 (g_P S28 924 f0) (fun a40 => vp_in (f3 + (4 : Int32)) (g_N S28 a40) ∧ (wp_X9_later S28 r29 ((g_R S28 a36 y35.toNatClampNeg) + (g_R S28 a40 (f3 + (4 : Int32)).toNatClampNeg)) (fun r45 S44 => okA S44 9 f0 ∧ (if (100000 : Int32) ≤ r45 then (rd S44 11 (g_P S44 925 f0) (fun a47 => vp_in f2 (g_N S44 a47) ∧ (lt (s_R S44 a47 f2.toNatClampNeg (100000 : Int32)) (fun S51 => K2 S51 (f2 + (1 : Int32)))))) else (rd S44 11 (g_P S44 925 f0) (fun a52 => vp_in f2 (g_N S44 a52) ∧ (lt (s_R S44 a52 f2.toNatClampNeg r45) (fun S56 => K2 S56 (f2 + (1 : Int32))))))))))))))))))))))))) else (okA S 9 f0 ∧ (rd S 11 (g_P S 924 f0) (fun a68 => vp_in f3 (g_N S a68) ∧ (if (((g_R S a68 f3.toNatClampNeg) >>> (w5 &&& 31)) &&& (1 : Int32)) = (1 : Int32) then (wp_X9_provenOn S f0 f1 w5 (fun r73 S72 => wp_X9_later S72 w4 r73 (fun r75 S74 => wp_X9_findsDays_L58 f0 f1 f2 f3 K2 Q n S74 r75 (w5 + (1 : Int32))))) else (wp_X9_findsDays_L58 f0 f1 f2 f3 K2 Q n S w4 (w5 + (1 : Int32)))))))
def wp_X9_findsDays_L2 (f0 : Nat) (f1 : Int32) (Q : Hp → Prop) : Nat → Hp → Int32 → Prop
  | 0, _, _ => False
  | n + 1, S, w2 => if (8 : Int32) ≤ w2 then (Q S) else (okA S 9 f0 ∧ (rd S 11 (g_P S 918 f0) (fun a2 => vp_in (((8 : Int32) * f1) + w2) (g_N S a2) ∧ (lt (((18 : Int32) * w2) + ((6 : Int32) * (g_R S a2 (((8 : Int32) * f1) + w2).toNatClampNeg))) (fun y6 => rd S 11 (g_P S 917 f0) (fun a7 => vp_in (((8 : Int32) * f1) + w2) (g_N S a7) ∧ (lt (g_R S a7 (((8 : Int32) * f1) + w2).toNatClampNeg) (fun y11 => rd S 11 (g_P S 925 f0) (fun a12 => vp_in w2 (g_N S a12) ∧ (lt (s_R S a12 w2.toNatClampNeg (100000 : Int32)) (fun S16 => if y11 = (-1 : Int32) then (wp_X9_findsDays_L2 f0 f1 Q n S16 (w2 + (1 : Int32))) else (∃ n76, wp_X9_findsDays_L58 f0 f1 w2 y6 (wp_X9_findsDays_L2 f0 f1 Q n) Q n76 S16 y11 (0 : Int32)))))))))))))
def wp_X9_findsDays (S : Hp) (x0 : Nat) (x1 : Int32) (Q : Hp → Prop) : Prop :=
  ∃ n77, wp_X9_findsDays_L2 x0 x1 Q n77 S (0 : Int32)
def rm_X9_findsDays : Room := { frames := 2, cells := 0, slots := 0, locals := 51 }
set_option maxHeartbeats 4000000 in
set_option maxRecDepth 100000 in
theorem l_X9_findsDays_L58 (l : Launch) (v : Ev) (f0 : Nat) (f1 : Int32) (f2 : Int32) (f3 : Int32) (K2 : Hp → Int32 → Prop) (Q : Hp → Prop) {EQ : String → Hp → Prop} {z : Z9} (C : Cx l v RX9 cX9_findsDays 6 none "findsDays" z) (N : NT z) (T : EE v rm_X9_findsDays (QV v Q) EQ z) (hK2 : ∀ (S : Hp) (u2 : Int32), K2 S u2 → ZZ l v 6 rm_X9_findsDays z 0 0 S 2 [(0, va_rf (some f0)), (1, .int f1), (2, .int u2)] []) : ∀ (n : Nat) (S : Hp) (w4 : Int32) (w5 : Int32), wp_X9_findsDays_L58 f0 f1 f2 f3 K2 Q n S w4 w5 → ZZ l v 6 rm_X9_findsDays z 0 0 S 58 [(0, va_rf (some f0)), (1, .int f1), (2, .int f2), (3, .int f3), (4, .int w4), (5, .int w5)] [] := by
  intro n
  induction n with
  | zero =>
    intro S w4 w5 h
    exact h.elim
  | succ n ih =>
    intro S w4 w5 h
    unfold wp_X9_findsDays_L58 at h
    refine z_iload C (pc := 58) dX9_findsDays_58 5 rfl ?_
    refine z_bipush C (pc := 60) (x := (16 : Int32)) dX9_findsDays_60 kbp_16 ?_
    refine z_icmp_ge C (pc := 62) (tgt := 105) dX9_findsDays_62 (by decide) h (fun h => ?_) (fun h => ?_)
    · refine z_iload C (pc := 105) dX9_findsDays_105 4 rfl ?_
      refine z_aload_n C (pc := 107) dX9_findsDays_107 0 rfl ?_
      refine z_iload_n C (pc := 108) dX9_findsDays_108 1 rfl ?_
      refine z_aload_n C (pc := 109) dX9_findsDays_109 0 rfl ?_
      obtain ⟨o17, h⟩ := h
      refine z_getP C (pc := 110) kf9 24 (by decide) rfl bw_932 (fun _ _ _ _ h => h) dX9_findsDays_110 rfl o17 ?_
      refine z_iload_n C (pc := 113) dX9_findsDays_113 3 rfl ?_
      refine z_iconst C (pc := 114) (x := (1 : Int32)) dX9_findsDays_114 kic_1 ?_
      refine z_iadd C (pc := 115) dX9_findsDays_115 ?_
      obtain ⟨a18, e19, o20, h⟩ := h
      obtain ⟨v21, h⟩ := h
      refine z_iald C (pc := 116) dX9_findsDays_116 e19 o20 v21 ?_
      refine z_aload_n C (pc := 117) dX9_findsDays_117 0 rfl ?_
      refine z_getP C (pc := 118) kf9 24 (by decide) rfl bw_932 (fun _ _ _ _ h => h) dX9_findsDays_118 rfl o17 ?_
      refine z_iload_n C (pc := 121) dX9_findsDays_121 3 rfl ?_
      refine z_iconst C (pc := 122) (x := (2 : Int32)) dX9_findsDays_122 kic_2 ?_
      refine z_iadd C (pc := 123) dX9_findsDays_123 ?_
      obtain ⟨a22, e23, o24, h⟩ := h
      obtain ⟨v25, h⟩ := h
      refine z_iald C (pc := 124) dX9_findsDays_124 e23 o24 v25 ?_
      refine z_Vi C (pc := 125) (KX := fun _ _ => False) (kc' := 0) (ks' := 0) (As := [.int f1, .int (g_R S a18 (f3 + (1 : Int32)).toNatClampNeg), .int (g_R S a22 (f3 + (2 : Int32)).toNatClampNeg)]) (rest := [.int w4]) rfl (c_X9_dayOfMany l v S f0 f1 (g_R S a18 (f3 + (1 : Int32)).toNatClampNeg) (g_R S a22 (f3 + (2 : Int32)).toNatClampNeg)) mw_X9_dayOfMany bw_1165 bw_1167 bw_p48 (fit_of rfl) rfl rfl (Nat.le_of_ble_eq_true rfl) (by decide) rfl o17 dX9_findsDays_125 h (fun r27 S26 h => ?_) (fun En S9 h => h.elim)
      refine z_Si C (pc := 128) (KX := fun _ _ => False) (kc' := 0) (ks' := 0) (As := [.int w4, .int r27]) (rest := []) (c_X9_later l v S26 w4 r27) mw_X9_later bw_1162 bw_1163 (fit_of rfl) rfl rfl (Nat.le_of_ble_eq_true rfl) dX9_findsDays_128 h (fun r29 S28 h => ?_) (fun En S9 h => h.elim)
      refine z_istore C (pc := 131) (lv' := [(4, .int r29), (0, va_rf (some f0)), (1, .int f1), (2, .int f2), (3, .int f3), (5, .int w5)]) dX9_findsDays_131 (by decide) rfl ?_
      refine z_aload_n C (pc := 133) dX9_findsDays_133 1 rfl ?_
      obtain ⟨o30, h⟩ := h
      refine z_getP C (pc := 134) kf9 24 (by decide) rfl bw_932 (fun _ _ _ _ h => h) dX9_findsDays_134 rfl o30 ?_
      refine z_iload_n C (pc := 137) dX9_findsDays_137 4 rfl ?_
      refine z_iconst C (pc := 138) (x := (3 : Int32)) dX9_findsDays_138 kic_3 ?_
      refine z_iadd C (pc := 139) dX9_findsDays_139 ?_
      obtain ⟨a31, e32, o33, h⟩ := h
      obtain ⟨v34, h⟩ := h
      refine z_iald C (pc := 140) dX9_findsDays_140 e32 o33 v34 ?_
      refine z_nI h (fun y35 h => ?_)
      refine z_istore C (pc := 141) (lv' := [(5, .int y35), (4, .int r29), (0, va_rf (some f0)), (1, .int f1), (2, .int f2), (3, .int f3)]) dX9_findsDays_141 (by decide) rfl ?_
      refine z_iload C (pc := 143) dX9_findsDays_143 0 rfl ?_
      refine z_iconst C (pc := 145) (x := (-1 : Int32)) dX9_findsDays_145 kic_m1 ?_
      refine z_icmp_ne C (pc := 146) (tgt := 154) dX9_findsDays_146 (by decide) h (fun h => ?_) (fun h => ?_)
      · refine z_iload C (pc := 154) dX9_findsDays_154 1 rfl ?_
        refine z_aload_n C (pc := 156) dX9_findsDays_156 2 rfl ?_
        refine z_getP C (pc := 157) kf9 25 (by decide) rfl bw_933 (fun _ _ _ _ h => h) dX9_findsDays_157 rfl o30 ?_
        refine z_iload C (pc := 160) dX9_findsDays_160 0 rfl ?_
        obtain ⟨a36, e37, o38, h⟩ := h
        obtain ⟨v39, h⟩ := h
        refine z_iald C (pc := 162) dX9_findsDays_162 e37 o38 v39 ?_
        refine z_aload_n C (pc := 163) dX9_findsDays_163 2 rfl ?_
        refine z_getP C (pc := 164) kf9 24 (by decide) rfl bw_932 (fun _ _ _ _ h => h) dX9_findsDays_164 rfl o30 ?_
        refine z_iload_n C (pc := 167) dX9_findsDays_167 5 rfl ?_
        refine z_iconst C (pc := 168) (x := (4 : Int32)) dX9_findsDays_168 kic_4 ?_
        refine z_iadd C (pc := 169) dX9_findsDays_169 ?_
        obtain ⟨a40, e41, o42, h⟩ := h
        obtain ⟨v43, h⟩ := h
        refine z_iald C (pc := 170) dX9_findsDays_170 e41 o42 v43 ?_
        refine z_iadd C (pc := 171) dX9_findsDays_171 ?_
        refine z_Si C (pc := 172) (KX := fun _ _ => False) (kc' := 0) (ks' := 0) (As := [.int r29, .int ((g_R S28 a36 y35.toNatClampNeg) + (g_R S28 a40 (f3 + (4 : Int32)).toNatClampNeg))]) (rest := []) (c_X9_later l v S28 r29 ((g_R S28 a36 y35.toNatClampNeg) + (g_R S28 a40 (f3 + (4 : Int32)).toNatClampNeg))) mw_X9_later bw_1162 bw_1163 (fit_of rfl) rfl rfl (Nat.le_of_ble_eq_true rfl) dX9_findsDays_172 h (fun r45 S44 h => ?_) (fun En S9 h => h.elim)
        refine z_istore C (pc := 175) (lv' := [(4, .int r45), (5, .int y35), (0, va_rf (some f0)), (1, .int f1), (2, .int f2), (3, .int f3)]) dX9_findsDays_175 (by decide) rfl ?_
        refine z_aload_n C (pc := 177) dX9_findsDays_177 2 rfl ?_
        obtain ⟨o46, h⟩ := h
        refine z_getP C (pc := 178) kf9 25 (by decide) rfl bw_933 (fun _ _ _ _ h => h) dX9_findsDays_178 rfl o46 ?_
        refine z_iload_n C (pc := 181) dX9_findsDays_181 4 rfl ?_
        refine z_iload C (pc := 182) dX9_findsDays_182 0 rfl ?_
        refine z_ldc C (pc := 184) (x := (100000 : Int32)) dX9_findsDays_184 bw_1157 ?_
        refine z_icmp_ge C (pc := 186) (tgt := 194) dX9_findsDays_186 (by decide) h (fun h => ?_) (fun h => ?_)
        · refine z_ldc C (pc := 194) (x := (100000 : Int32)) dX9_findsDays_194 bw_1157 ?_
          obtain ⟨a47, e48, o49, h⟩ := h
          obtain ⟨v50, h⟩ := h
          refine z_iast C (pc := 196) dX9_findsDays_196 e48 o49 v50 ?_
          refine z_lt h (fun S51 h => ?_)
          refine z_iinc C (pc := 197) (y := f2 + (1 : Int32)) (lv' := [(2, .int (f2 + (1 : Int32))), (4, .int r45), (5, .int y35), (0, va_rf (some f0)), (1, .int f1), (3, .int f3)]) dX9_findsDays_197 4 rfl rfl (by decide) rfl ?_
          refine z_goto C (pc := 200) (tgt := 2) dX9_findsDays_200 (by decide) ?_
          refine z_sub [3, 4, 0] (lv' := [(0, va_rf (some f0)), (1, .int f1), (2, .int (f2 + (1 : Int32)))]) rfl ?_
          exact hK2 S51 (f2 + (1 : Int32)) h
        · refine z_iload C (pc := 189) dX9_findsDays_189 0 rfl ?_
          refine z_goto C (pc := 191) (tgt := 196) dX9_findsDays_191 (by decide) ?_
          obtain ⟨a52, e53, o54, h⟩ := h
          obtain ⟨v55, h⟩ := h
          refine z_iast C (pc := 196) dX9_findsDays_196 e53 o54 v55 ?_
          refine z_lt h (fun S56 h => ?_)
          refine z_iinc C (pc := 197) (y := f2 + (1 : Int32)) (lv' := [(2, .int (f2 + (1 : Int32))), (4, .int r45), (5, .int y35), (0, va_rf (some f0)), (1, .int f1), (3, .int f3)]) dX9_findsDays_197 4 rfl rfl (by decide) rfl ?_
          refine z_goto C (pc := 200) (tgt := 2) dX9_findsDays_200 (by decide) ?_
          refine z_sub [3, 4, 0] (lv' := [(0, va_rf (some f0)), (1, .int f1), (2, .int (f2 + (1 : Int32)))]) rfl ?_
          exact hK2 S56 (f2 + (1 : Int32)) h
      · refine z_iload C (pc := 149) dX9_findsDays_149 1 rfl ?_
        refine z_goto C (pc := 151) (tgt := 175) dX9_findsDays_151 (by decide) ?_
        refine z_istore C (pc := 175) (lv' := [(4, .int r29), (5, .int y35), (0, va_rf (some f0)), (1, .int f1), (2, .int f2), (3, .int f3)]) dX9_findsDays_175 (by decide) rfl ?_
        refine z_aload_n C (pc := 177) dX9_findsDays_177 2 rfl ?_
        refine z_getP C (pc := 178) kf9 25 (by decide) rfl bw_933 (fun _ _ _ _ h => h) dX9_findsDays_178 rfl o30 ?_
        refine z_iload_n C (pc := 181) dX9_findsDays_181 4 rfl ?_
        refine z_iload C (pc := 182) dX9_findsDays_182 0 rfl ?_
        refine z_ldc C (pc := 184) (x := (100000 : Int32)) dX9_findsDays_184 bw_1157 ?_
        refine z_icmp_ge C (pc := 186) (tgt := 194) dX9_findsDays_186 (by decide) h (fun h => ?_) (fun h => ?_)
        · refine z_ldc C (pc := 194) (x := (100000 : Int32)) dX9_findsDays_194 bw_1157 ?_
          obtain ⟨a57, e58, o59, h⟩ := h
          obtain ⟨v60, h⟩ := h
          refine z_iast C (pc := 196) dX9_findsDays_196 e58 o59 v60 ?_
          refine z_lt h (fun S61 h => ?_)
          refine z_iinc C (pc := 197) (y := f2 + (1 : Int32)) (lv' := [(2, .int (f2 + (1 : Int32))), (4, .int r29), (5, .int y35), (0, va_rf (some f0)), (1, .int f1), (3, .int f3)]) dX9_findsDays_197 4 rfl rfl (by decide) rfl ?_
          refine z_goto C (pc := 200) (tgt := 2) dX9_findsDays_200 (by decide) ?_
          refine z_sub [3, 4, 0] (lv' := [(0, va_rf (some f0)), (1, .int f1), (2, .int (f2 + (1 : Int32)))]) rfl ?_
          exact hK2 S61 (f2 + (1 : Int32)) h
        · refine z_iload C (pc := 189) dX9_findsDays_189 0 rfl ?_
          refine z_goto C (pc := 191) (tgt := 196) dX9_findsDays_191 (by decide) ?_
          obtain ⟨a62, e63, o64, h⟩ := h
          obtain ⟨v65, h⟩ := h
          refine z_iast C (pc := 196) dX9_findsDays_196 e63 o64 v65 ?_
          refine z_lt h (fun S66 h => ?_)
          refine z_iinc C (pc := 197) (y := f2 + (1 : Int32)) (lv' := [(2, .int (f2 + (1 : Int32))), (4, .int r29), (5, .int y35), (0, va_rf (some f0)), (1, .int f1), (3, .int f3)]) dX9_findsDays_197 4 rfl rfl (by decide) rfl ?_
          refine z_goto C (pc := 200) (tgt := 2) dX9_findsDays_200 (by decide) ?_
          refine z_sub [3, 4, 0] (lv' := [(0, va_rf (some f0)), (1, .int f1), (2, .int (f2 + (1 : Int32)))]) rfl ?_
          exact hK2 S66 (f2 + (1 : Int32)) h
    · refine z_aload_n C (pc := 65) dX9_findsDays_65 0 rfl ?_
      obtain ⟨o67, h⟩ := h
      refine z_getP C (pc := 66) kf9 24 (by decide) rfl bw_932 (fun _ _ _ _ h => h) dX9_findsDays_66 rfl o67 ?_
      refine z_iload_n C (pc := 69) dX9_findsDays_69 3 rfl ?_
      obtain ⟨a68, e69, o70, h⟩ := h
      obtain ⟨v71, h⟩ := h
      refine z_iald C (pc := 70) dX9_findsDays_70 e69 o70 v71 ?_
      refine z_iload C (pc := 71) dX9_findsDays_71 5 rfl ?_
      refine z_ishr C (pc := 73) dX9_findsDays_73 ?_
      refine z_iconst C (pc := 74) (x := (1 : Int32)) dX9_findsDays_74 kic_1 ?_
      refine z_iand C (pc := 75) dX9_findsDays_75 ?_
      refine z_iconst C (pc := 76) (x := (1 : Int32)) dX9_findsDays_76 kic_1 ?_
      refine z_icmp_ne C (pc := 77) (tgt := 95) dX9_findsDays_77 (by decide) h (fun h => ?_) (fun h => ?_)
      · refine z_iload C (pc := 95) dX9_findsDays_95 4 rfl ?_
        refine z_istore C (pc := 97) (lv' := [(4, .int w4), (0, va_rf (some f0)), (1, .int f1), (2, .int f2), (3, .int f3), (5, .int w5)]) dX9_findsDays_97 (by decide) rfl ?_
        refine z_iinc C (pc := 99) (y := w5 + (1 : Int32)) (lv' := [(5, .int (w5 + (1 : Int32))), (4, .int w4), (0, va_rf (some f0)), (1, .int f1), (2, .int f2), (3, .int f3)]) dX9_findsDays_99 5 rfl rfl (by decide) rfl ?_
        refine z_goto C (pc := 102) (tgt := 58) dX9_findsDays_102 (by decide) ?_
        refine z_sub [2, 3, 4, 5, 1, 0] (lv' := [(0, va_rf (some f0)), (1, .int f1), (2, .int f2), (3, .int f3), (4, .int w4), (5, .int (w5 + (1 : Int32)))]) rfl ?_
        exact ih S w4 (w5 + (1 : Int32)) h
      · refine z_iload C (pc := 80) dX9_findsDays_80 4 rfl ?_
        refine z_aload_n C (pc := 82) dX9_findsDays_82 0 rfl ?_
        refine z_iload_n C (pc := 83) dX9_findsDays_83 1 rfl ?_
        refine z_iload C (pc := 84) dX9_findsDays_84 5 rfl ?_
        refine z_Vi C (pc := 86) (KX := fun _ _ => False) (kc' := 0) (ks' := 0) (As := [.int f1, .int w5]) (rest := [.int w4]) rfl (c_X9_provenOn l v S f0 f1 w5) mw_X9_provenOn bw_1158 bw_1160 bw_p47 (fit_of rfl) rfl rfl (Nat.le_of_ble_eq_true rfl) (by decide) rfl o67 dX9_findsDays_86 h (fun r73 S72 h => ?_) (fun En S9 h => h.elim)
        refine z_Si C (pc := 89) (KX := fun _ _ => False) (kc' := 0) (ks' := 0) (As := [.int w4, .int r73]) (rest := []) (c_X9_later l v S72 w4 r73) mw_X9_later bw_1162 bw_1163 (fit_of rfl) rfl rfl (Nat.le_of_ble_eq_true rfl) dX9_findsDays_89 h (fun r75 S74 h => ?_) (fun En S9 h => h.elim)
        refine z_goto C (pc := 92) (tgt := 97) dX9_findsDays_92 (by decide) ?_
        refine z_istore C (pc := 97) (lv' := [(4, .int r75), (0, va_rf (some f0)), (1, .int f1), (2, .int f2), (3, .int f3), (5, .int w5)]) dX9_findsDays_97 (by decide) rfl ?_
        refine z_iinc C (pc := 99) (y := w5 + (1 : Int32)) (lv' := [(5, .int (w5 + (1 : Int32))), (4, .int r75), (0, va_rf (some f0)), (1, .int f1), (2, .int f2), (3, .int f3)]) dX9_findsDays_99 5 rfl rfl (by decide) rfl ?_
        refine z_goto C (pc := 102) (tgt := 58) dX9_findsDays_102 (by decide) ?_
        refine z_sub [2, 3, 4, 5, 1, 0] (lv' := [(0, va_rf (some f0)), (1, .int f1), (2, .int f2), (3, .int f3), (4, .int r75), (5, .int (w5 + (1 : Int32)))]) rfl ?_
        exact ih S74 r75 (w5 + (1 : Int32)) h
set_option maxHeartbeats 4000000 in
set_option maxRecDepth 100000 in
theorem l_X9_findsDays_L2 (l : Launch) (v : Ev) (f0 : Nat) (f1 : Int32) (Q : Hp → Prop) {EQ : String → Hp → Prop} {z : Z9} (C : Cx l v RX9 cX9_findsDays 6 none "findsDays" z) (N : NT z) (T : EE v rm_X9_findsDays (QV v Q) EQ z) : ∀ (n : Nat) (S : Hp) (w2 : Int32), wp_X9_findsDays_L2 f0 f1 Q n S w2 → ZZ l v 6 rm_X9_findsDays z 0 0 S 2 [(0, va_rf (some f0)), (1, .int f1), (2, .int w2)] [] := by
  intro n
  induction n with
  | zero =>
    intro S w2 h
    exact h.elim
  | succ n ih =>
    intro S w2 h
    unfold wp_X9_findsDays_L2 at h
    refine z_iload_n C (pc := 2) dX9_findsDays_2 2 rfl ?_
    refine z_bipush C (pc := 3) (x := (8 : Int32)) dX9_findsDays_3 kbp_8 ?_
    refine z_icmp_ge C (pc := 5) (tgt := 203) dX9_findsDays_5 (by decide) h (fun h => ?_) (fun h => ?_)
    · exact z_vret C (pc := 203) T dX9_findsDays_203 (by decide) (by decide) h
    · refine z_bipush C (pc := 8) (x := (18 : Int32)) dX9_findsDays_8 kbp_18 ?_
      refine z_iload_n C (pc := 10) dX9_findsDays_10 2 rfl ?_
      refine z_imul C (pc := 11) dX9_findsDays_11 ?_
      refine z_bipush C (pc := 12) (x := (6 : Int32)) dX9_findsDays_12 kbp_6 ?_
      refine z_aload_n C (pc := 14) dX9_findsDays_14 0 rfl ?_
      obtain ⟨o1, h⟩ := h
      refine z_getP C (pc := 15) kf9 18 (by decide) rfl bw_926 (fun _ _ _ _ h => h) dX9_findsDays_15 rfl o1 ?_
      refine z_bipush C (pc := 18) (x := (8 : Int32)) dX9_findsDays_18 kbp_8 ?_
      refine z_iload_n C (pc := 20) dX9_findsDays_20 1 rfl ?_
      refine z_imul C (pc := 21) dX9_findsDays_21 ?_
      refine z_iload_n C (pc := 22) dX9_findsDays_22 2 rfl ?_
      refine z_iadd C (pc := 23) dX9_findsDays_23 ?_
      obtain ⟨a2, e3, o4, h⟩ := h
      obtain ⟨v5, h⟩ := h
      refine z_iald C (pc := 24) dX9_findsDays_24 e3 o4 v5 ?_
      refine z_imul C (pc := 25) dX9_findsDays_25 ?_
      refine z_iadd C (pc := 26) dX9_findsDays_26 ?_
      refine z_nI h (fun y6 h => ?_)
      refine z_istore_n C (pc := 27) (lv' := [(3, .int y6), (0, va_rf (some f0)), (1, .int f1), (2, .int w2)]) dX9_findsDays_27 (by decide) rfl ?_
      refine z_aload_n C (pc := 28) dX9_findsDays_28 1 rfl ?_
      refine z_getP C (pc := 29) kf9 17 (by decide) rfl bw_925 (fun _ _ _ _ h => h) dX9_findsDays_29 rfl o1 ?_
      refine z_bipush C (pc := 32) (x := (8 : Int32)) dX9_findsDays_32 kbp_8 ?_
      refine z_iload_n C (pc := 34) dX9_findsDays_34 2 rfl ?_
      refine z_imul C (pc := 35) dX9_findsDays_35 ?_
      refine z_iload_n C (pc := 36) dX9_findsDays_36 3 rfl ?_
      refine z_iadd C (pc := 37) dX9_findsDays_37 ?_
      obtain ⟨a7, e8, o9, h⟩ := h
      obtain ⟨v10, h⟩ := h
      refine z_iald C (pc := 38) dX9_findsDays_38 e8 o9 v10 ?_
      refine z_nI h (fun y11 h => ?_)
      refine z_istore C (pc := 39) (lv' := [(4, .int y11), (3, .int y6), (0, va_rf (some f0)), (1, .int f1), (2, .int w2)]) dX9_findsDays_39 (by decide) rfl ?_
      refine z_aload_n C (pc := 41) dX9_findsDays_41 2 rfl ?_
      refine z_getP C (pc := 42) kf9 25 (by decide) rfl bw_933 (fun _ _ _ _ h => h) dX9_findsDays_42 rfl o1 ?_
      refine z_iload_n C (pc := 45) dX9_findsDays_45 4 rfl ?_
      refine z_ldc C (pc := 46) (x := (100000 : Int32)) dX9_findsDays_46 bw_1157 ?_
      obtain ⟨a12, e13, o14, h⟩ := h
      obtain ⟨v15, h⟩ := h
      refine z_iast C (pc := 48) dX9_findsDays_48 e13 o14 v15 ?_
      refine z_lt h (fun S16 h => ?_)
      refine z_iload C (pc := 49) dX9_findsDays_49 0 rfl ?_
      refine z_iconst C (pc := 51) (x := (-1 : Int32)) dX9_findsDays_51 kic_m1 ?_
      refine z_icmp_eq C (pc := 52) (tgt := 197) dX9_findsDays_52 (by decide) h (fun h => ?_) (fun h => ?_)
      · refine z_iinc C (pc := 197) (y := w2 + (1 : Int32)) (lv' := [(2, .int (w2 + (1 : Int32))), (4, .int y11), (3, .int y6), (0, va_rf (some f0)), (1, .int f1)]) dX9_findsDays_197 4 rfl rfl (by decide) rfl ?_
        refine z_goto C (pc := 200) (tgt := 2) dX9_findsDays_200 (by decide) ?_
        refine z_sub [3, 4, 0] (lv' := [(0, va_rf (some f0)), (1, .int f1), (2, .int (w2 + (1 : Int32)))]) rfl ?_
        exact ih S16 (w2 + (1 : Int32)) h
      · refine z_iconst C (pc := 55) (x := (0 : Int32)) dX9_findsDays_55 kic_0 ?_
        refine z_istore C (pc := 56) (lv' := [(5, .int (0 : Int32)), (4, .int y11), (3, .int y6), (0, va_rf (some f0)), (1, .int f1), (2, .int w2)]) dX9_findsDays_56 (by decide) rfl ?_
        obtain ⟨n76, h⟩ := h
        refine z_sub [3, 4, 5, 2, 1, 0] (lv' := [(0, va_rf (some f0)), (1, .int f1), (2, .int w2), (3, .int y6), (4, .int y11), (5, .int (0 : Int32))]) rfl ?_
        exact l_X9_findsDays_L58 l v f0 f1 w2 y6 (wp_X9_findsDays_L2 f0 f1 Q n) Q C N T ih n76 S16 y11 (0 : Int32) h
set_option maxHeartbeats 4000000 in
set_option maxRecDepth 100000 in
theorem c_X9_findsDays (l : Launch) (v : Ev) (S : Hp) (x0 : Nat) (x1 : Int32) : CV l v yX9_findsDays cX9_findsDays 6 none rm_X9_findsDays [va_rf (some x0), .int x1] S (fun Q _ => wp_X9_findsDays S x0 x1 Q) := by
  intro Q EQ h
  refine z_start [(0, va_rf (some x0)), (1, .int x1)] (by decide +kernel) (by simp only [la_i, la_r, la_n]) (cat_cr (cat_ci cat_nil)) (by simp only [ls_i, ls_r, ls_n]; decide) (fun z C N T => ?_)
  unfold wp_X9_findsDays at h
  refine z_iconst C (pc := 0) (x := (0 : Int32)) dX9_findsDays_0 kic_0 ?_
  refine z_istore_n C (pc := 1) (lv' := [(2, .int (0 : Int32)), (0, va_rf (some x0)), (1, .int x1)]) dX9_findsDays_1 (by decide) rfl ?_
  obtain ⟨n77, h⟩ := h
  refine z_sub [1, 2, 0] (lv' := [(0, va_rf (some x0)), (1, .int x1), (2, .int (0 : Int32))]) rfl ?_
  exact l_X9_findsDays_L2 l v x0 x1 Q C N T n77 S (0 : Int32) h
def wp_X9_earnedBy_L9 (f0 : Nat) (f1 : Int32) (Q : Int32 → Hp → Prop) : Nat → Hp → Int32 → Int32 → Prop
  | 0, _, _, _ => False
  | n + 1, S, w2, w3 => if (8 : Int32) ≤ w3 then (Q w2 S) else (okA S 9 f0 ∧ (rd S 11 (g_P S 925 f0) (fun a4 => vp_in w3 (g_N S a4) ∧ (if (g_I S 900 f0) < (g_R S a4 w3.toNatClampNeg) then (lt (w2 + (0 : Int32)) (fun y8 => wp_X9_earnedBy_L9 f0 f1 Q n S y8 (w3 + (1 : Int32)))) else (lt (w2 + (1 : Int32)) (fun y9 => wp_X9_earnedBy_L9 f0 f1 Q n S y9 (w3 + (1 : Int32))))))))
def wp_X9_earnedBy (S : Hp) (x0 : Nat) (x1 : Int32) (Q : Int32 → Hp → Prop) : Prop :=
  okA S 9 x0 ∧ (wp_X9_findsDays S x0 x1 (fun S2 => ∃ n10, wp_X9_earnedBy_L9 x0 x1 Q n10 S2 (0 : Int32) (0 : Int32)))
def rm_X9_earnedBy : Room := { frames := 3, cells := 0, slots := 0, locals := 76 }
set_option maxHeartbeats 4000000 in
set_option maxRecDepth 100000 in
theorem l_X9_earnedBy_L9 (l : Launch) (v : Ev) (f0 : Nat) (f1 : Int32) (Q : Int32 → Hp → Prop) {EQ : String → Hp → Prop} {z : Z9} (C : Cx l v RX9 cX9_earnedBy 4 (some .int) "earnedBy" z) (N : NT z) (T : EE v rm_X9_earnedBy (QI v Q) EQ z) : ∀ (n : Nat) (S : Hp) (w2 : Int32) (w3 : Int32), wp_X9_earnedBy_L9 f0 f1 Q n S w2 w3 → ZZ l v 4 rm_X9_earnedBy z 0 0 S 9 [(0, va_rf (some f0)), (1, .int f1), (2, .int w2), (3, .int w3)] [] := by
  intro n
  induction n with
  | zero =>
    intro S w2 w3 h
    exact h.elim
  | succ n ih =>
    intro S w2 w3 h
    unfold wp_X9_earnedBy_L9 at h
    refine z_iload_n C (pc := 9) dX9_earnedBy_9 3 rfl ?_
    refine z_bipush C (pc := 10) (x := (8 : Int32)) dX9_earnedBy_10 kbp_8 ?_
    refine z_icmp_ge C (pc := 12) (tgt := 42) dX9_earnedBy_12 (by decide) h (fun h => ?_) (fun h => ?_)
    · refine z_iload_n C (pc := 42) dX9_earnedBy_42 2 rfl ?_
      exact z_iret C (pc := 43) T dX9_earnedBy_43 (by decide) (by decide) h
    · refine z_iload_n C (pc := 15) dX9_earnedBy_15 2 rfl ?_
      refine z_aload_n C (pc := 16) dX9_earnedBy_16 0 rfl ?_
      obtain ⟨o3, h⟩ := h
      refine z_getP C (pc := 17) kf9 25 (by decide) rfl bw_933 (fun _ _ _ _ h => h) dX9_earnedBy_17 rfl o3 ?_
      refine z_iload_n C (pc := 20) dX9_earnedBy_20 3 rfl ?_
      obtain ⟨a4, e5, o6, h⟩ := h
      obtain ⟨v7, h⟩ := h
      refine z_iald C (pc := 21) dX9_earnedBy_21 e5 o6 v7 ?_
      refine z_aload_n C (pc := 22) dX9_earnedBy_22 0 rfl ?_
      refine z_getI C (pc := 23) kf9 0 (by decide) rfl bw_908 (fun _ _ _ _ h => h) dX9_earnedBy_23 rfl o3 ?_
      refine z_icmp_gt C (pc := 26) (tgt := 33) dX9_earnedBy_26 (by decide) h (fun h => ?_) (fun h => ?_)
      · refine z_iconst C (pc := 33) (x := (0 : Int32)) dX9_earnedBy_33 kic_0 ?_
        refine z_iadd C (pc := 34) dX9_earnedBy_34 ?_
        refine z_nI h (fun y8 h => ?_)
        refine z_istore_n C (pc := 35) (lv' := [(2, .int y8), (0, va_rf (some f0)), (1, .int f1), (3, .int w3)]) dX9_earnedBy_35 (by decide) rfl ?_
        refine z_iinc C (pc := 36) (y := w3 + (1 : Int32)) (lv' := [(3, .int (w3 + (1 : Int32))), (2, .int y8), (0, va_rf (some f0)), (1, .int f1)]) dX9_earnedBy_36 3 rfl rfl (by decide) rfl ?_
        refine z_goto C (pc := 39) (tgt := 9) dX9_earnedBy_39 (by decide) ?_
        refine z_sub [2, 3, 1, 0] (lv' := [(0, va_rf (some f0)), (1, .int f1), (2, .int y8), (3, .int (w3 + (1 : Int32)))]) rfl ?_
        exact ih S y8 (w3 + (1 : Int32)) h
      · refine z_iconst C (pc := 29) (x := (1 : Int32)) dX9_earnedBy_29 kic_1 ?_
        refine z_goto C (pc := 30) (tgt := 34) dX9_earnedBy_30 (by decide) ?_
        refine z_iadd C (pc := 34) dX9_earnedBy_34 ?_
        refine z_nI h (fun y9 h => ?_)
        refine z_istore_n C (pc := 35) (lv' := [(2, .int y9), (0, va_rf (some f0)), (1, .int f1), (3, .int w3)]) dX9_earnedBy_35 (by decide) rfl ?_
        refine z_iinc C (pc := 36) (y := w3 + (1 : Int32)) (lv' := [(3, .int (w3 + (1 : Int32))), (2, .int y9), (0, va_rf (some f0)), (1, .int f1)]) dX9_earnedBy_36 3 rfl rfl (by decide) rfl ?_
        refine z_goto C (pc := 39) (tgt := 9) dX9_earnedBy_39 (by decide) ?_
        refine z_sub [2, 3, 1, 0] (lv' := [(0, va_rf (some f0)), (1, .int f1), (2, .int y9), (3, .int (w3 + (1 : Int32)))]) rfl ?_
        exact ih S y9 (w3 + (1 : Int32)) h
set_option maxHeartbeats 4000000 in
set_option maxRecDepth 100000 in
theorem c_X9_earnedBy (l : Launch) (v : Ev) (S : Hp) (x0 : Nat) (x1 : Int32) : CI l v yX9_earnedBy cX9_earnedBy 4 (some .int) rm_X9_earnedBy [va_rf (some x0), .int x1] S (fun Q _ => wp_X9_earnedBy S x0 x1 Q) := by
  intro Q EQ h
  refine z_start [(0, va_rf (some x0)), (1, .int x1)] (by decide +kernel) (by simp only [la_i, la_r, la_n]) (cat_cr (cat_ci cat_nil)) (by simp only [ls_i, ls_r, ls_n]; decide) (fun z C N T => ?_)
  unfold wp_X9_earnedBy at h
  refine z_aload_n C (pc := 0) dX9_earnedBy_0 0 rfl ?_
  refine z_iload_n C (pc := 1) dX9_earnedBy_1 1 rfl ?_
  obtain ⟨o1, h⟩ := h
  refine z_Vv C (pc := 2) (KX := fun _ _ => False) (kc' := 0) (ks' := 0) (As := [.int x1]) (rest := []) rfl (c_X9_findsDays l v S x0 x1) mw_X9_findsDays bw_1153 bw_1155 bw_p46 (fit_of rfl) rfl rfl (Nat.le_of_ble_eq_true rfl) (by decide) rfl o1 dX9_earnedBy_2 h (fun S2 h => ?_) (fun En S9 h => h.elim)
  refine z_iconst C (pc := 5) (x := (0 : Int32)) dX9_earnedBy_5 kic_0 ?_
  refine z_istore_n C (pc := 6) (lv' := [(2, .int (0 : Int32)), (0, va_rf (some x0)), (1, .int x1)]) dX9_earnedBy_6 (by decide) rfl ?_
  refine z_iconst C (pc := 7) (x := (0 : Int32)) dX9_earnedBy_7 kic_0 ?_
  refine z_istore_n C (pc := 8) (lv' := [(3, .int (0 : Int32)), (2, .int (0 : Int32)), (0, va_rf (some x0)), (1, .int x1)]) dX9_earnedBy_8 (by decide) rfl ?_
  obtain ⟨n10, h⟩ := h
  refine z_sub [2, 3, 1, 0] (lv' := [(0, va_rf (some x0)), (1, .int x1), (2, .int (0 : Int32)), (3, .int (0 : Int32))]) rfl ?_
  exact l_X9_earnedBy_L9 l v x0 x1 Q C N T n10 S2 (0 : Int32) (0 : Int32) h
def wp_X9_prove_L46 (f0 : Nat) (f1 : Int32) (f2 : Int32) (f3 : Int32) (Q : Int32 → Hp → Prop) : Nat → Hp → Int32 → Int32 → Prop
  | 0, _, _, _ => False
  | n + 1, S, w4, w5 => if (3 : Int32) ≤ w5 then (if w4 = 0 then (okA S 9 f0 ∧ (wp_X9_fails S f0 (2 : Int32) (fun r9 S8 => Q r9 S8))) else (okA S 9 f0 ∧ (rd S 11 (g_P S 922 f0) (fun a11 => vp_in f3 (g_N S a11) ∧ (if (((g_R S a11 f3.toNatClampNeg) >>> (f2 &&& 31)) &&& (1 : Int32)) = 0 then (wp_X9_fails S f0 (2 : Int32) (fun r16 S15 => Q r16 S15)) else (rd S 11 (g_P S 916 f0) (fun a17 => vp_in (((16 : Int32) * f1) + f2) (g_N S a17) ∧ (if (g_R S a17 (((16 : Int32) * f1) + f2).toNatClampNeg) = (-1 : Int32) then (rd S 11 (g_P S 916 f0) (fun a21 => vp_in (((16 : Int32) * f1) + f2) (g_N S a21) ∧ (lt (s_R S a21 (((16 : Int32) * f1) + f2).toNatClampNeg (g_I S 900 f0)) (fun S25 => okA S25 9 f0 ∧ (wp_X9_earnedBy S25 f0 f1 (fun r28 S27 => Q r28 S27)))))) else (wp_X9_fails S f0 (2 : Int32) (fun r30 S29 => Q r30 S29)))))))))) else (if w4 = 0 then (okA S 9 f0 ∧ (wp_X9_isVetted S f0 f3 w5 (g_I S 900 f0) (fun r33 S32 => if r33 = 0 then (wp_X9_prove_L46 f0 f1 f2 f3 Q n S32 (0 : Int32) (w5 + (1 : Int32))) else (wp_X9_prove_L46 f0 f1 f2 f3 Q n S32 (1 : Int32) (w5 + (1 : Int32)))))) else (wp_X9_prove_L46 f0 f1 f2 f3 Q n S (1 : Int32) (w5 + (1 : Int32))))
def wp_X9_prove (S : Hp) (x0 : Nat) (x1 : Int32) (x2 : Int32) (x3 : Int32) (Q : Int32 → Hp → Prop) : Prop :=
  okA S 9 x0 ∧ (wp_X9_isChild S x0 x1 (fun r3 S2 => if r3 = 0 then (okA S2 9 x0 ∧ (wp_X9_asks S2 x0 (0 : Int32) (fun r6 S5 => if r6 = 0 then (Q (0 : Int32) S5) else (∃ n34, wp_X9_prove_L46 x0 x1 x2 x3 Q n34 S5 (0 : Int32) (0 : Int32))))) else (wp_X9_in S2 x2 (0 : Int32) (15 : Int32) (fun r36 S35 => if r36 = 0 then (okA S35 9 x0 ∧ (wp_X9_asks S35 x0 (0 : Int32) (fun r39 S38 => if r39 = 0 then (Q (0 : Int32) S38) else (∃ n40, wp_X9_prove_L46 x0 x1 x2 x3 Q n40 S38 (0 : Int32) (0 : Int32))))) else (okA S35 9 x0 ∧ (wp_X9_isLeader S35 x0 x3 (fun r43 S42 => if r43 = 0 then (okA S42 9 x0 ∧ (wp_X9_asks S42 x0 (0 : Int32) (fun r46 S45 => if r46 = 0 then (Q (0 : Int32) S45) else (∃ n47, wp_X9_prove_L46 x0 x1 x2 x3 Q n47 S45 (0 : Int32) (0 : Int32))))) else (okA S42 9 x0 ∧ (wp_X9_asks S42 x0 (1 : Int32) (fun r50 S49 => if r50 = 0 then (Q (0 : Int32) S49) else (∃ n51, wp_X9_prove_L46 x0 x1 x2 x3 Q n51 S49 (0 : Int32) (0 : Int32))))))))))))
def rm_X9_prove : Room := { frames := 4, cells := 0, slots := 0, locals := 99 }
set_option maxHeartbeats 4000000 in
set_option maxRecDepth 100000 in
theorem l_X9_prove_L46 (l : Launch) (v : Ev) (f0 : Nat) (f1 : Int32) (f2 : Int32) (f3 : Int32) (Q : Int32 → Hp → Prop) {EQ : String → Hp → Prop} {z : Z9} (C : Cx l v RX9 cX9_prove 6 (some .int) "prove" z) (N : NT z) (T : EE v rm_X9_prove (QI v Q) EQ z) : ∀ (n : Nat) (S : Hp) (w4 : Int32) (w5 : Int32), wp_X9_prove_L46 f0 f1 f2 f3 Q n S w4 w5 → ZZ l v 6 rm_X9_prove z 0 0 S 46 [(0, va_rf (some f0)), (1, .int f1), (2, .int f2), (3, .int f3), (4, .int w4), (5, .int w5)] [] := by
  intro n
  induction n with
  | zero =>
    intro S w4 w5 h
    exact h.elim
  | succ n ih =>
    intro S w4 w5 h
    unfold wp_X9_prove_L46 at h
    refine z_iload C (pc := 46) dX9_prove_46 5 rfl ?_
    refine z_iconst C (pc := 48) (x := (3 : Int32)) dX9_prove_48 kic_3 ?_
    refine z_icmp_ge C (pc := 49) (tgt := 84) dX9_prove_49 (by decide) h (fun h => ?_) (fun h => ?_)
    · refine z_iload C (pc := 84) dX9_prove_84 4 rfl ?_
      refine z_if_eq C (pc := 86) (tgt := 117) dX9_prove_86 (by decide) h (fun h => ?_) (fun h => ?_)
      · refine z_aload_n C (pc := 117) dX9_prove_117 0 rfl ?_
        refine z_iconst C (pc := 118) (x := (2 : Int32)) dX9_prove_118 kic_2 ?_
        obtain ⟨o7, h⟩ := h
        refine z_Vi C (pc := 119) (KX := fun _ _ => False) (kc' := 0) (ks' := 0) (As := [.int (2 : Int32)]) (rest := []) rfl (c_X9_fails l v S f0 (2 : Int32)) mw_X9_fails bw_1021 bw_1023 bw_p31 (fit_of rfl) rfl rfl (Nat.le_of_ble_eq_true rfl) (by decide) rfl o7 dX9_prove_119 h (fun r9 S8 h => ?_) (fun En S9 h => h.elim)
        exact z_iret C (pc := 122) T dX9_prove_122 (by decide) (by decide) h
      · refine z_aload_n C (pc := 89) dX9_prove_89 0 rfl ?_
        obtain ⟨o10, h⟩ := h
        refine z_getP C (pc := 90) kf9 22 (by decide) rfl bw_930 (fun _ _ _ _ h => h) dX9_prove_90 rfl o10 ?_
        refine z_iload_n C (pc := 93) dX9_prove_93 3 rfl ?_
        obtain ⟨a11, e12, o13, h⟩ := h
        obtain ⟨v14, h⟩ := h
        refine z_iald C (pc := 94) dX9_prove_94 e12 o13 v14 ?_
        refine z_iload_n C (pc := 95) dX9_prove_95 2 rfl ?_
        refine z_ishr C (pc := 96) dX9_prove_96 ?_
        refine z_iconst C (pc := 97) (x := (1 : Int32)) dX9_prove_97 kic_1 ?_
        refine z_iand C (pc := 98) dX9_prove_98 ?_
        refine z_if_eq C (pc := 99) (tgt := 117) dX9_prove_99 (by decide) h (fun h => ?_) (fun h => ?_)
        · refine z_aload_n C (pc := 117) dX9_prove_117 0 rfl ?_
          refine z_iconst C (pc := 118) (x := (2 : Int32)) dX9_prove_118 kic_2 ?_
          refine z_Vi C (pc := 119) (KX := fun _ _ => False) (kc' := 0) (ks' := 0) (As := [.int (2 : Int32)]) (rest := []) rfl (c_X9_fails l v S f0 (2 : Int32)) mw_X9_fails bw_1021 bw_1023 bw_p31 (fit_of rfl) rfl rfl (Nat.le_of_ble_eq_true rfl) (by decide) rfl o10 dX9_prove_119 h (fun r16 S15 h => ?_) (fun En S9 h => h.elim)
          exact z_iret C (pc := 122) T dX9_prove_122 (by decide) (by decide) h
        · refine z_aload_n C (pc := 102) dX9_prove_102 0 rfl ?_
          refine z_getP C (pc := 103) kf9 16 (by decide) rfl bw_924 (fun _ _ _ _ h => h) dX9_prove_103 rfl o10 ?_
          refine z_bipush C (pc := 106) (x := (16 : Int32)) dX9_prove_106 kbp_16 ?_
          refine z_iload_n C (pc := 108) dX9_prove_108 1 rfl ?_
          refine z_imul C (pc := 109) dX9_prove_109 ?_
          refine z_iload_n C (pc := 110) dX9_prove_110 2 rfl ?_
          refine z_iadd C (pc := 111) dX9_prove_111 ?_
          obtain ⟨a17, e18, o19, h⟩ := h
          obtain ⟨v20, h⟩ := h
          refine z_iald C (pc := 112) dX9_prove_112 e18 o19 v20 ?_
          refine z_iconst C (pc := 113) (x := (-1 : Int32)) dX9_prove_113 kic_m1 ?_
          refine z_icmp_eq C (pc := 114) (tgt := 123) dX9_prove_114 (by decide) h (fun h => ?_) (fun h => ?_)
          · refine z_aload_n C (pc := 123) dX9_prove_123 0 rfl ?_
            refine z_getP C (pc := 124) kf9 16 (by decide) rfl bw_924 (fun _ _ _ _ h => h) dX9_prove_124 rfl o10 ?_
            refine z_bipush C (pc := 127) (x := (16 : Int32)) dX9_prove_127 kbp_16 ?_
            refine z_iload_n C (pc := 129) dX9_prove_129 1 rfl ?_
            refine z_imul C (pc := 130) dX9_prove_130 ?_
            refine z_iload_n C (pc := 131) dX9_prove_131 2 rfl ?_
            refine z_iadd C (pc := 132) dX9_prove_132 ?_
            refine z_aload_n C (pc := 133) dX9_prove_133 0 rfl ?_
            refine z_getI C (pc := 134) kf9 0 (by decide) rfl bw_908 (fun _ _ _ _ h => h) dX9_prove_134 rfl o10 ?_
            obtain ⟨a21, e22, o23, h⟩ := h
            obtain ⟨v24, h⟩ := h
            refine z_iast C (pc := 137) dX9_prove_137 e22 o23 v24 ?_
            refine z_lt h (fun S25 h => ?_)
            refine z_aload_n C (pc := 138) dX9_prove_138 0 rfl ?_
            refine z_iload_n C (pc := 139) dX9_prove_139 1 rfl ?_
            obtain ⟨o26, h⟩ := h
            refine z_Vi C (pc := 140) (KX := fun _ _ => False) (kc' := 0) (ks' := 0) (As := [.int f1]) (rest := []) rfl (c_X9_earnedBy l v S25 f0 f1) mw_X9_earnedBy bw_1149 bw_1151 bw_p45 (fit_of rfl) rfl rfl (Nat.le_of_ble_eq_true rfl) (by decide) rfl o26 dX9_prove_140 h (fun r28 S27 h => ?_) (fun En S9 h => h.elim)
            exact z_iret C (pc := 143) T dX9_prove_143 (by decide) (by decide) h
          · refine z_aload_n C (pc := 117) dX9_prove_117 0 rfl ?_
            refine z_iconst C (pc := 118) (x := (2 : Int32)) dX9_prove_118 kic_2 ?_
            refine z_Vi C (pc := 119) (KX := fun _ _ => False) (kc' := 0) (ks' := 0) (As := [.int (2 : Int32)]) (rest := []) rfl (c_X9_fails l v S f0 (2 : Int32)) mw_X9_fails bw_1021 bw_1023 bw_p31 (fit_of rfl) rfl rfl (Nat.le_of_ble_eq_true rfl) (by decide) rfl o10 dX9_prove_119 h (fun r30 S29 h => ?_) (fun En S9 h => h.elim)
            exact z_iret C (pc := 122) T dX9_prove_122 (by decide) (by decide) h
    · refine z_iload C (pc := 52) dX9_prove_52 4 rfl ?_
      refine z_if_ne C (pc := 54) (tgt := 71) dX9_prove_54 (by decide) h (fun h => ?_) (fun h => ?_)
      · refine z_iconst C (pc := 71) (x := (1 : Int32)) dX9_prove_71 kic_1 ?_
        refine z_goto C (pc := 72) (tgt := 76) dX9_prove_72 (by decide) ?_
        refine z_istore C (pc := 76) (lv' := [(4, .int (1 : Int32)), (0, va_rf (some f0)), (1, .int f1), (2, .int f2), (3, .int f3), (5, .int w5)]) dX9_prove_76 (by decide) rfl ?_
        refine z_iinc C (pc := 78) (y := w5 + (1 : Int32)) (lv' := [(5, .int (w5 + (1 : Int32))), (4, .int (1 : Int32)), (0, va_rf (some f0)), (1, .int f1), (2, .int f2), (3, .int f3)]) dX9_prove_78 5 rfl rfl (by decide) rfl ?_
        refine z_goto C (pc := 81) (tgt := 46) dX9_prove_81 (by decide) ?_
        refine z_sub [2, 3, 4, 5, 1, 0] (lv' := [(0, va_rf (some f0)), (1, .int f1), (2, .int f2), (3, .int f3), (4, .int (1 : Int32)), (5, .int (w5 + (1 : Int32)))]) rfl ?_
        exact ih S (1 : Int32) (w5 + (1 : Int32)) h
      · refine z_aload_n C (pc := 57) dX9_prove_57 0 rfl ?_
        refine z_iload_n C (pc := 58) dX9_prove_58 3 rfl ?_
        refine z_iload C (pc := 59) dX9_prove_59 5 rfl ?_
        refine z_aload_n C (pc := 61) dX9_prove_61 0 rfl ?_
        obtain ⟨o31, h⟩ := h
        refine z_getI C (pc := 62) kf9 0 (by decide) rfl bw_908 (fun _ _ _ _ h => h) dX9_prove_62 rfl o31 ?_
        refine z_Vi C (pc := 65) (KX := fun _ _ => False) (kc' := 0) (ks' := 0) (As := [.int f3, .int w5, .int (g_I S 900 f0)]) (rest := []) rfl (c_X9_isVetted l v S f0 f3 w5 (g_I S 900 f0)) mw_X9_isVetted bw_1145 bw_1147 bw_p44 (fit_of rfl) rfl rfl (Nat.le_of_ble_eq_true rfl) (by decide) rfl o31 dX9_prove_65 h (fun r33 S32 h => ?_) (fun En S9 h => h.elim)
        refine z_if_eq C (pc := 68) (tgt := 75) dX9_prove_68 (by decide) h (fun h => ?_) (fun h => ?_)
        · refine z_iconst C (pc := 75) (x := (0 : Int32)) dX9_prove_75 kic_0 ?_
          refine z_istore C (pc := 76) (lv' := [(4, .int (0 : Int32)), (0, va_rf (some f0)), (1, .int f1), (2, .int f2), (3, .int f3), (5, .int w5)]) dX9_prove_76 (by decide) rfl ?_
          refine z_iinc C (pc := 78) (y := w5 + (1 : Int32)) (lv' := [(5, .int (w5 + (1 : Int32))), (4, .int (0 : Int32)), (0, va_rf (some f0)), (1, .int f1), (2, .int f2), (3, .int f3)]) dX9_prove_78 5 rfl rfl (by decide) rfl ?_
          refine z_goto C (pc := 81) (tgt := 46) dX9_prove_81 (by decide) ?_
          refine z_sub [2, 3, 4, 5, 1, 0] (lv' := [(0, va_rf (some f0)), (1, .int f1), (2, .int f2), (3, .int f3), (4, .int (0 : Int32)), (5, .int (w5 + (1 : Int32)))]) rfl ?_
          exact ih S32 (0 : Int32) (w5 + (1 : Int32)) h
        · refine z_iconst C (pc := 71) (x := (1 : Int32)) dX9_prove_71 kic_1 ?_
          refine z_goto C (pc := 72) (tgt := 76) dX9_prove_72 (by decide) ?_
          refine z_istore C (pc := 76) (lv' := [(4, .int (1 : Int32)), (0, va_rf (some f0)), (1, .int f1), (2, .int f2), (3, .int f3), (5, .int w5)]) dX9_prove_76 (by decide) rfl ?_
          refine z_iinc C (pc := 78) (y := w5 + (1 : Int32)) (lv' := [(5, .int (w5 + (1 : Int32))), (4, .int (1 : Int32)), (0, va_rf (some f0)), (1, .int f1), (2, .int f2), (3, .int f3)]) dX9_prove_78 5 rfl rfl (by decide) rfl ?_
          refine z_goto C (pc := 81) (tgt := 46) dX9_prove_81 (by decide) ?_
          refine z_sub [2, 3, 4, 5, 1, 0] (lv' := [(0, va_rf (some f0)), (1, .int f1), (2, .int f2), (3, .int f3), (4, .int (1 : Int32)), (5, .int (w5 + (1 : Int32)))]) rfl ?_
          exact ih S32 (1 : Int32) (w5 + (1 : Int32)) h
set_option maxHeartbeats 4000000 in
set_option maxRecDepth 100000 in
theorem c_X9_prove (l : Launch) (v : Ev) (S : Hp) (x0 : Nat) (x1 : Int32) (x2 : Int32) (x3 : Int32) : CI l v yX9_prove cX9_prove 6 (some .int) rm_X9_prove [va_rf (some x0), .int x1, .int x2, .int x3] S (fun Q _ => wp_X9_prove S x0 x1 x2 x3 Q) := by
  intro Q EQ h
  refine z_start [(0, va_rf (some x0)), (1, .int x1), (2, .int x2), (3, .int x3)] (by decide +kernel) (by simp only [la_i, la_r, la_n]) (cat_cr (cat_ci (cat_ci (cat_ci cat_nil)))) (by simp only [ls_i, ls_r, ls_n]; decide) (fun z C N T => ?_)
  unfold wp_X9_prove at h
  refine z_aload_n C (pc := 0) dX9_prove_0 0 rfl ?_
  refine z_aload_n C (pc := 1) dX9_prove_1 0 rfl ?_
  refine z_iload_n C (pc := 2) dX9_prove_2 1 rfl ?_
  obtain ⟨o1, h⟩ := h
  refine z_Vi C (pc := 3) (KX := fun _ _ => False) (kc' := 0) (ks' := 0) (As := [.int x1]) (rest := [va_rf (some x0)]) rfl (c_X9_isChild l v S x0 x1) mw_X9_isChild bw_1033 bw_1035 bw_p32 (fit_of rfl) rfl rfl (Nat.le_of_ble_eq_true rfl) (by decide) rfl o1 dX9_prove_3 h (fun r3 S2 h => ?_) (fun En S9 h => h.elim)
  refine z_if_eq C (pc := 6) (tgt := 31) dX9_prove_6 (by decide) h (fun h => ?_) (fun h => ?_)
  · refine z_iconst C (pc := 31) (x := (0 : Int32)) dX9_prove_31 kic_0 ?_
    obtain ⟨o4, h⟩ := h
    refine z_Vi C (pc := 32) (KX := fun _ _ => False) (kc' := 0) (ks' := 0) (As := [.int (0 : Int32)]) (rest := []) rfl (c_X9_asks l v S2 x0 (0 : Int32)) mw_X9_asks bw_1017 bw_1019 bw_p30 (fit_of rfl) rfl rfl (Nat.le_of_ble_eq_true rfl) (by decide) rfl o4 dX9_prove_32 h (fun r6 S5 h => ?_) (fun En S9 h => h.elim)
    refine z_if_ne C (pc := 35) (tgt := 40) dX9_prove_35 (by decide) h (fun h => ?_) (fun h => ?_)
    · refine z_iconst C (pc := 40) (x := (0 : Int32)) dX9_prove_40 kic_0 ?_
      refine z_istore C (pc := 41) (lv' := [(4, .int (0 : Int32)), (0, va_rf (some x0)), (1, .int x1), (2, .int x2), (3, .int x3)]) dX9_prove_41 (by decide) rfl ?_
      refine z_iconst C (pc := 43) (x := (0 : Int32)) dX9_prove_43 kic_0 ?_
      refine z_istore C (pc := 44) (lv' := [(5, .int (0 : Int32)), (4, .int (0 : Int32)), (0, va_rf (some x0)), (1, .int x1), (2, .int x2), (3, .int x3)]) dX9_prove_44 (by decide) rfl ?_
      obtain ⟨n34, h⟩ := h
      refine z_sub [2, 3, 4, 5, 1, 0] (lv' := [(0, va_rf (some x0)), (1, .int x1), (2, .int x2), (3, .int x3), (4, .int (0 : Int32)), (5, .int (0 : Int32))]) rfl ?_
      exact l_X9_prove_L46 l v x0 x1 x2 x3 Q C N T n34 S5 (0 : Int32) (0 : Int32) h
    · refine z_iconst C (pc := 38) (x := (0 : Int32)) dX9_prove_38 kic_0 ?_
      exact z_iret C (pc := 39) T dX9_prove_39 (by decide) (by decide) h
  · refine z_iload_n C (pc := 9) dX9_prove_9 2 rfl ?_
    refine z_iconst C (pc := 10) (x := (0 : Int32)) dX9_prove_10 kic_0 ?_
    refine z_bipush C (pc := 11) (x := (15 : Int32)) dX9_prove_11 kbp_15 ?_
    refine z_Si C (pc := 13) (KX := fun _ _ => False) (kc' := 0) (ks' := 0) (As := [.int x2, .int (0 : Int32), .int (15 : Int32)]) (rest := [va_rf (some x0)]) (c_X9_in l v S2 x2 (0 : Int32) (15 : Int32)) mw_X9_in bw_1014 bw_1015 (fit_of rfl) rfl rfl (Nat.le_of_ble_eq_true rfl) dX9_prove_13 h (fun r36 S35 h => ?_) (fun En S9 h => h.elim)
    refine z_if_eq C (pc := 16) (tgt := 31) dX9_prove_16 (by decide) h (fun h => ?_) (fun h => ?_)
    · refine z_iconst C (pc := 31) (x := (0 : Int32)) dX9_prove_31 kic_0 ?_
      obtain ⟨o37, h⟩ := h
      refine z_Vi C (pc := 32) (KX := fun _ _ => False) (kc' := 0) (ks' := 0) (As := [.int (0 : Int32)]) (rest := []) rfl (c_X9_asks l v S35 x0 (0 : Int32)) mw_X9_asks bw_1017 bw_1019 bw_p30 (fit_of rfl) rfl rfl (Nat.le_of_ble_eq_true rfl) (by decide) rfl o37 dX9_prove_32 h (fun r39 S38 h => ?_) (fun En S9 h => h.elim)
      refine z_if_ne C (pc := 35) (tgt := 40) dX9_prove_35 (by decide) h (fun h => ?_) (fun h => ?_)
      · refine z_iconst C (pc := 40) (x := (0 : Int32)) dX9_prove_40 kic_0 ?_
        refine z_istore C (pc := 41) (lv' := [(4, .int (0 : Int32)), (0, va_rf (some x0)), (1, .int x1), (2, .int x2), (3, .int x3)]) dX9_prove_41 (by decide) rfl ?_
        refine z_iconst C (pc := 43) (x := (0 : Int32)) dX9_prove_43 kic_0 ?_
        refine z_istore C (pc := 44) (lv' := [(5, .int (0 : Int32)), (4, .int (0 : Int32)), (0, va_rf (some x0)), (1, .int x1), (2, .int x2), (3, .int x3)]) dX9_prove_44 (by decide) rfl ?_
        obtain ⟨n40, h⟩ := h
        refine z_sub [2, 3, 4, 5, 1, 0] (lv' := [(0, va_rf (some x0)), (1, .int x1), (2, .int x2), (3, .int x3), (4, .int (0 : Int32)), (5, .int (0 : Int32))]) rfl ?_
        exact l_X9_prove_L46 l v x0 x1 x2 x3 Q C N T n40 S38 (0 : Int32) (0 : Int32) h
      · refine z_iconst C (pc := 38) (x := (0 : Int32)) dX9_prove_38 kic_0 ?_
        exact z_iret C (pc := 39) T dX9_prove_39 (by decide) (by decide) h
    · refine z_aload_n C (pc := 19) dX9_prove_19 0 rfl ?_
      refine z_iload_n C (pc := 20) dX9_prove_20 3 rfl ?_
      obtain ⟨o41, h⟩ := h
      refine z_Vi C (pc := 21) (KX := fun _ _ => False) (kc' := 0) (ks' := 0) (As := [.int x3]) (rest := [va_rf (some x0)]) rfl (c_X9_isLeader l v S35 x0 x3) mw_X9_isLeader bw_1108 bw_1110 bw_p43 (fit_of rfl) rfl rfl (Nat.le_of_ble_eq_true rfl) (by decide) rfl o41 dX9_prove_21 h (fun r43 S42 h => ?_) (fun En S9 h => h.elim)
      refine z_if_eq C (pc := 24) (tgt := 31) dX9_prove_24 (by decide) h (fun h => ?_) (fun h => ?_)
      · refine z_iconst C (pc := 31) (x := (0 : Int32)) dX9_prove_31 kic_0 ?_
        obtain ⟨o44, h⟩ := h
        refine z_Vi C (pc := 32) (KX := fun _ _ => False) (kc' := 0) (ks' := 0) (As := [.int (0 : Int32)]) (rest := []) rfl (c_X9_asks l v S42 x0 (0 : Int32)) mw_X9_asks bw_1017 bw_1019 bw_p30 (fit_of rfl) rfl rfl (Nat.le_of_ble_eq_true rfl) (by decide) rfl o44 dX9_prove_32 h (fun r46 S45 h => ?_) (fun En S9 h => h.elim)
        refine z_if_ne C (pc := 35) (tgt := 40) dX9_prove_35 (by decide) h (fun h => ?_) (fun h => ?_)
        · refine z_iconst C (pc := 40) (x := (0 : Int32)) dX9_prove_40 kic_0 ?_
          refine z_istore C (pc := 41) (lv' := [(4, .int (0 : Int32)), (0, va_rf (some x0)), (1, .int x1), (2, .int x2), (3, .int x3)]) dX9_prove_41 (by decide) rfl ?_
          refine z_iconst C (pc := 43) (x := (0 : Int32)) dX9_prove_43 kic_0 ?_
          refine z_istore C (pc := 44) (lv' := [(5, .int (0 : Int32)), (4, .int (0 : Int32)), (0, va_rf (some x0)), (1, .int x1), (2, .int x2), (3, .int x3)]) dX9_prove_44 (by decide) rfl ?_
          obtain ⟨n47, h⟩ := h
          refine z_sub [2, 3, 4, 5, 1, 0] (lv' := [(0, va_rf (some x0)), (1, .int x1), (2, .int x2), (3, .int x3), (4, .int (0 : Int32)), (5, .int (0 : Int32))]) rfl ?_
          exact l_X9_prove_L46 l v x0 x1 x2 x3 Q C N T n47 S45 (0 : Int32) (0 : Int32) h
        · refine z_iconst C (pc := 38) (x := (0 : Int32)) dX9_prove_38 kic_0 ?_
          exact z_iret C (pc := 39) T dX9_prove_39 (by decide) (by decide) h
      · refine z_iconst C (pc := 27) (x := (1 : Int32)) dX9_prove_27 kic_1 ?_
        refine z_goto C (pc := 28) (tgt := 32) dX9_prove_28 (by decide) ?_
        obtain ⟨o48, h⟩ := h
        refine z_Vi C (pc := 32) (KX := fun _ _ => False) (kc' := 0) (ks' := 0) (As := [.int (1 : Int32)]) (rest := []) rfl (c_X9_asks l v S42 x0 (1 : Int32)) mw_X9_asks bw_1017 bw_1019 bw_p30 (fit_of rfl) rfl rfl (Nat.le_of_ble_eq_true rfl) (by decide) rfl o48 dX9_prove_32 h (fun r50 S49 h => ?_) (fun En S9 h => h.elim)
        refine z_if_ne C (pc := 35) (tgt := 40) dX9_prove_35 (by decide) h (fun h => ?_) (fun h => ?_)
        · refine z_iconst C (pc := 40) (x := (0 : Int32)) dX9_prove_40 kic_0 ?_
          refine z_istore C (pc := 41) (lv' := [(4, .int (0 : Int32)), (0, va_rf (some x0)), (1, .int x1), (2, .int x2), (3, .int x3)]) dX9_prove_41 (by decide) rfl ?_
          refine z_iconst C (pc := 43) (x := (0 : Int32)) dX9_prove_43 kic_0 ?_
          refine z_istore C (pc := 44) (lv' := [(5, .int (0 : Int32)), (4, .int (0 : Int32)), (0, va_rf (some x0)), (1, .int x1), (2, .int x2), (3, .int x3)]) dX9_prove_44 (by decide) rfl ?_
          obtain ⟨n51, h⟩ := h
          refine z_sub [2, 3, 4, 5, 1, 0] (lv' := [(0, va_rf (some x0)), (1, .int x1), (2, .int x2), (3, .int x3), (4, .int (0 : Int32)), (5, .int (0 : Int32))]) rfl ?_
          exact l_X9_prove_L46 l v x0 x1 x2 x3 Q C N T n51 S49 (0 : Int32) (0 : Int32) h
        · refine z_iconst C (pc := 38) (x := (0 : Int32)) dX9_prove_38 kic_0 ?_
          exact z_iret C (pc := 39) T dX9_prove_39 (by decide) (by decide) h
def wp_X9_event (S : Hp) (x0 : Nat) (x1 : Int32) (x2 : Int32) (x3 : Int32) (x4 : Int32) (x5 : Int32) (x6 : Int32) (Q : Int32 → Hp → Prop) : Prop :=
  okA S 9 x0 ∧ (wp_X9_isTroop S x0 x1 (fun r3 S2 => if r3 = 0 then (okA S2 9 x0 ∧ (wp_X9_asks S2 x0 (0 : Int32) (fun r6 S5 => if r6 = 0 then (Q (0 : Int32) S5) else (wp_X9_in S5 x3 (0 : Int32) (3 : Int32) (fun r8 S7 => if r8 = 0 then (okA S7 9 x0 ∧ (wp_X9_fails S7 x0 (2 : Int32) (fun r11 S10 => Q r11 S10))) else (okA S7 9 x0 ∧ (wp_X9_in S7 x4 (g_I S7 900 x0) (9999 : Int32) (fun r14 S13 => if r14 = 0 then (okA S13 9 x0 ∧ (wp_X9_fails S13 x0 (2 : Int32) (fun r17 S16 => Q r17 S16))) else (wp_X9_in S13 x5 (0 : Int32) (23 : Int32) (fun r19 S18 => if r19 = 0 then (okA S18 9 x0 ∧ (wp_X9_fails S18 x0 (2 : Int32) (fun r22 S21 => Q r22 S21))) else (wp_X9_in S18 x6 (1 : Int32) ((24 : Int32) - x5) (fun r24 S23 => if r24 = 0 then (okA S23 9 x0 ∧ (wp_X9_fails S23 x0 (2 : Int32) (fun r69 S68 => Q r69 S68))) else (okA S23 9 x0 ∧ (if (g_I S23 926 x0) = (20 : Int32) then (wp_X9_fails S23 x0 (3 : Int32) (fun r66 S65 => Q r66 S65)) else (lt ((6 : Int32) * (g_I S23 926 x0)) (fun y26 => rd S23 11 (g_P S23 927 x0) (fun a27 => vp_in y26 (g_N S23 a27) ∧ (lt (s_R S23 a27 y26.toNatClampNeg x1) (fun S31 => okA S31 9 x0 ∧ (rd S31 11 (g_P S31 927 x0) (fun a33 => vp_in (y26 + (1 : Int32)) (g_N S31 a33) ∧ (lt (s_R S31 a33 (y26 + (1 : Int32)).toNatClampNeg x2) (fun S37 => okA S37 9 x0 ∧ (rd S37 11 (g_P S37 927 x0) (fun a39 => vp_in (y26 + (2 : Int32)) (g_N S37 a39) ∧ (lt (s_R S37 a39 (y26 + (2 : Int32)).toNatClampNeg x3) (fun S43 => okA S43 9 x0 ∧ (rd S43 11 (g_P S43 927 x0) (fun a45 => vp_in (y26 + (3 : Int32)) (g_N S43 a45) ∧ (lt (s_R S43 a45 (y26 + (3 : Int32)).toNatClampNeg x4) (fun S49 => okA S49 9 x0 ∧ (rd S49 11 (g_P S49 927 x0) (fun a51 => vp_in (y26 + (4 : Int32)) (g_N S49 a51) ∧ (lt (s_R S49 a51 (y26 + (4 : Int32)).toNatClampNeg x5) (fun S55 => okA S55 9 x0 ∧ (rd S55 11 (g_P S55 927 x0) (fun a57 => vp_in (y26 + (5 : Int32)) (g_N S55 a57) ∧ (lt (s_R S55 a57 (y26 + (5 : Int32)).toNatClampNeg x6) (fun S61 => okA S61 9 x0 ∧ (lt (s_I S61 926 x0 ((g_I S61 926 x0) + (1 : Int32))) (fun S63 => okA S63 9 x0 ∧ (Q ((g_I S63 926 x0) - (1 : Int32)) S63)))))))))))))))))))))))))))))))))))))))))) else (wp_X9_isLand S2 x2 (fun r71 S70 => if r71 = 0 then (okA S70 9 x0 ∧ (wp_X9_asks S70 x0 (0 : Int32) (fun r74 S73 => if r74 = 0 then (Q (0 : Int32) S73) else (wp_X9_in S73 x3 (0 : Int32) (3 : Int32) (fun r76 S75 => if r76 = 0 then (okA S75 9 x0 ∧ (wp_X9_fails S75 x0 (2 : Int32) (fun r79 S78 => Q r79 S78))) else (okA S75 9 x0 ∧ (wp_X9_in S75 x4 (g_I S75 900 x0) (9999 : Int32) (fun r82 S81 => if r82 = 0 then (okA S81 9 x0 ∧ (wp_X9_fails S81 x0 (2 : Int32) (fun r85 S84 => Q r85 S84))) else (wp_X9_in S81 x5 (0 : Int32) (23 : Int32) (fun r87 S86 => if r87 = 0 then (okA S86 9 x0 ∧ (wp_X9_fails S86 x0 (2 : Int32) (fun r90 S89 => Q r90 S89))) else (wp_X9_in S86 x6 (1 : Int32) ((24 : Int32) - x5) (fun r92 S91 => if r92 = 0 then (okA S91 9 x0 ∧ (wp_X9_fails S91 x0 (2 : Int32) (fun r137 S136 => Q r137 S136))) else (okA S91 9 x0 ∧ (if (g_I S91 926 x0) = (20 : Int32) then (wp_X9_fails S91 x0 (3 : Int32) (fun r134 S133 => Q r134 S133)) else (lt ((6 : Int32) * (g_I S91 926 x0)) (fun y94 => rd S91 11 (g_P S91 927 x0) (fun a95 => vp_in y94 (g_N S91 a95) ∧ (lt (s_R S91 a95 y94.toNatClampNeg x1) (fun S99 => okA S99 9 x0 ∧ (rd S99 11 (g_P S99 927 x0) (fun a101 => vp_in (y94 + (1 : Int32)) (g_N S99 a101) ∧ (lt (s_R S99 a101 (y94 + (1 : Int32)).toNatClampNeg x2) (fun S105 => okA S105 9 x0 ∧ (rd S105 11 (g_P S105 927 x0) (fun a107 => vp_in (y94 + (2 : Int32)) (g_N S105 a107) ∧ (lt (s_R S105 a107 (y94 + (2 : Int32)).toNatClampNeg x3) (fun S111 => okA S111 9 x0 ∧ (rd S111 11 (g_P S111 927 x0) (fun a113 => vp_in (y94 + (3 : Int32)) (g_N S111 a113) ∧ (lt (s_R S111 a113 (y94 + (3 : Int32)).toNatClampNeg x4) (fun S117 => okA S117 9 x0 ∧ (rd S117 11 (g_P S117 927 x0) (fun a119 => vp_in (y94 + (4 : Int32)) (g_N S117 a119) ∧ (lt (s_R S117 a119 (y94 + (4 : Int32)).toNatClampNeg x5) (fun S123 => okA S123 9 x0 ∧ (rd S123 11 (g_P S123 927 x0) (fun a125 => vp_in (y94 + (5 : Int32)) (g_N S123 a125) ∧ (lt (s_R S123 a125 (y94 + (5 : Int32)).toNatClampNeg x6) (fun S129 => okA S129 9 x0 ∧ (lt (s_I S129 926 x0 ((g_I S129 926 x0) + (1 : Int32))) (fun S131 => okA S131 9 x0 ∧ (Q ((g_I S131 926 x0) - (1 : Int32)) S131)))))))))))))))))))))))))))))))))))))))))) else (okA S70 9 x0 ∧ (wp_X9_asks S70 x0 (1 : Int32) (fun r140 S139 => if r140 = 0 then (Q (0 : Int32) S139) else (wp_X9_in S139 x3 (0 : Int32) (3 : Int32) (fun r142 S141 => if r142 = 0 then (okA S141 9 x0 ∧ (wp_X9_fails S141 x0 (2 : Int32) (fun r145 S144 => Q r145 S144))) else (okA S141 9 x0 ∧ (wp_X9_in S141 x4 (g_I S141 900 x0) (9999 : Int32) (fun r148 S147 => if r148 = 0 then (okA S147 9 x0 ∧ (wp_X9_fails S147 x0 (2 : Int32) (fun r151 S150 => Q r151 S150))) else (wp_X9_in S147 x5 (0 : Int32) (23 : Int32) (fun r153 S152 => if r153 = 0 then (okA S152 9 x0 ∧ (wp_X9_fails S152 x0 (2 : Int32) (fun r156 S155 => Q r156 S155))) else (wp_X9_in S152 x6 (1 : Int32) ((24 : Int32) - x5) (fun r158 S157 => if r158 = 0 then (okA S157 9 x0 ∧ (wp_X9_fails S157 x0 (2 : Int32) (fun r203 S202 => Q r203 S202))) else (okA S157 9 x0 ∧ (if (g_I S157 926 x0) = (20 : Int32) then (wp_X9_fails S157 x0 (3 : Int32) (fun r200 S199 => Q r200 S199)) else (lt ((6 : Int32) * (g_I S157 926 x0)) (fun y160 => rd S157 11 (g_P S157 927 x0) (fun a161 => vp_in y160 (g_N S157 a161) ∧ (lt (s_R S157 a161 y160.toNatClampNeg x1) (fun S165 => okA S165 9 x0 ∧ (rd S165 11 (g_P S165 927 x0) (fun a167 => vp_in (y160 + (1 : Int32)) (g_N S165 a167) ∧ (lt (s_R S165 a167 (y160 + (1 : Int32)).toNatClampNeg x2) (fun S171 => okA S171 9 x0 ∧ (rd S171 11 (g_P S171 927 x0) (fun a173 => vp_in (y160 + (2 : Int32)) (g_N S171 a173) ∧ (lt (s_R S171 a173 (y160 + (2 : Int32)).toNatClampNeg x3) (fun S177 => okA S177 9 x0 ∧ (rd S177 11 (g_P S177 927 x0) (fun a179 => vp_in (y160 + (3 : Int32)) (g_N S177 a179) ∧ (lt (s_R S177 a179 (y160 + (3 : Int32)).toNatClampNeg x4) (fun S183 => okA S183 9 x0 ∧ (rd S183 11 (g_P S183 927 x0) (fun a185 => vp_in (y160 + (4 : Int32)) (g_N S183 a185) ∧ (lt (s_R S183 a185 (y160 + (4 : Int32)).toNatClampNeg x5) (fun S189 => okA S189 9 x0 ∧ (rd S189 11 (g_P S189 927 x0) (fun a191 => vp_in (y160 + (5 : Int32)) (g_N S189 a191) ∧ (lt (s_R S189 a191 (y160 + (5 : Int32)).toNatClampNeg x6) (fun S195 => okA S195 9 x0 ∧ (lt (s_I S195 926 x0 ((g_I S195 926 x0) + (1 : Int32))) (fun S197 => okA S197 9 x0 ∧ (Q ((g_I S197 926 x0) - (1 : Int32)) S197))))))))))))))))))))))))))))))))))))))))))))))
def rm_X9_event : Room := { frames := 2, cells := 0, slots := 0, locals := 43 }
set_option maxHeartbeats 4000000 in
set_option maxRecDepth 100000 in
theorem c_X9_event (l : Launch) (v : Ev) (S : Hp) (x0 : Nat) (x1 : Int32) (x2 : Int32) (x3 : Int32) (x4 : Int32) (x5 : Int32) (x6 : Int32) : CI l v yX9_event cX9_event 8 (some .int) rm_X9_event [va_rf (some x0), .int x1, .int x2, .int x3, .int x4, .int x5, .int x6] S (fun Q _ => wp_X9_event S x0 x1 x2 x3 x4 x5 x6 Q) := by
  intro Q EQ h
  refine z_start [(0, va_rf (some x0)), (1, .int x1), (2, .int x2), (3, .int x3), (4, .int x4), (5, .int x5), (6, .int x6)] (by decide +kernel) (by simp only [la_i, la_r, la_n]) (cat_cr (cat_ci (cat_ci (cat_ci (cat_ci (cat_ci (cat_ci cat_nil))))))) (by simp only [ls_i, ls_r, ls_n]; decide) (fun z C N T => ?_)
  unfold wp_X9_event at h
  refine z_aload_n C (pc := 0) dX9_event_0 0 rfl ?_
  refine z_aload_n C (pc := 1) dX9_event_1 0 rfl ?_
  refine z_iload_n C (pc := 2) dX9_event_2 1 rfl ?_
  obtain ⟨o1, h⟩ := h
  refine z_Vi C (pc := 3) (KX := fun _ _ => False) (kc' := 0) (ks' := 0) (As := [.int x1]) (rest := [va_rf (some x0)]) rfl (c_X9_isTroop l v S x0 x1) mw_X9_isTroop bw_1037 bw_1039 bw_p33 (fit_of rfl) rfl rfl (Nat.le_of_ble_eq_true rfl) (by decide) rfl o1 dX9_event_3 h (fun r3 S2 h => ?_) (fun En S9 h => h.elim)
  refine z_if_eq C (pc := 6) (tgt := 20) dX9_event_6 (by decide) h (fun h => ?_) (fun h => ?_)
  · refine z_iconst C (pc := 20) (x := (0 : Int32)) dX9_event_20 kic_0 ?_
    obtain ⟨o4, h⟩ := h
    refine z_Vi C (pc := 21) (KX := fun _ _ => False) (kc' := 0) (ks' := 0) (As := [.int (0 : Int32)]) (rest := []) rfl (c_X9_asks l v S2 x0 (0 : Int32)) mw_X9_asks bw_1017 bw_1019 bw_p30 (fit_of rfl) rfl rfl (Nat.le_of_ble_eq_true rfl) (by decide) rfl o4 dX9_event_21 h (fun r6 S5 h => ?_) (fun En S9 h => h.elim)
    refine z_if_ne C (pc := 24) (tgt := 29) dX9_event_24 (by decide) h (fun h => ?_) (fun h => ?_)
    · refine z_iload_n C (pc := 29) dX9_event_29 3 rfl ?_
      refine z_iconst C (pc := 30) (x := (0 : Int32)) dX9_event_30 kic_0 ?_
      refine z_iconst C (pc := 31) (x := (3 : Int32)) dX9_event_31 kic_3 ?_
      refine z_Si C (pc := 32) (KX := fun _ _ => False) (kc' := 0) (ks' := 0) (As := [.int x3, .int (0 : Int32), .int (3 : Int32)]) (rest := []) (c_X9_in l v S5 x3 (0 : Int32) (3 : Int32)) mw_X9_in bw_1014 bw_1015 (fit_of rfl) rfl rfl (Nat.le_of_ble_eq_true rfl) dX9_event_32 h (fun r8 S7 h => ?_) (fun En S9 h => h.elim)
      refine z_if_eq C (pc := 35) (tgt := 78) dX9_event_35 (by decide) h (fun h => ?_) (fun h => ?_)
      · refine z_aload_n C (pc := 78) dX9_event_78 0 rfl ?_
        refine z_iconst C (pc := 79) (x := (2 : Int32)) dX9_event_79 kic_2 ?_
        obtain ⟨o9, h⟩ := h
        refine z_Vi C (pc := 80) (KX := fun _ _ => False) (kc' := 0) (ks' := 0) (As := [.int (2 : Int32)]) (rest := []) rfl (c_X9_fails l v S7 x0 (2 : Int32)) mw_X9_fails bw_1021 bw_1023 bw_p31 (fit_of rfl) rfl rfl (Nat.le_of_ble_eq_true rfl) (by decide) rfl o9 dX9_event_80 h (fun r11 S10 h => ?_) (fun En S9 h => h.elim)
        exact z_iret C (pc := 83) T dX9_event_83 (by decide) (by decide) h
      · refine z_iload C (pc := 38) dX9_event_38 4 rfl ?_
        refine z_aload_n C (pc := 40) dX9_event_40 0 rfl ?_
        obtain ⟨o12, h⟩ := h
        refine z_getI C (pc := 41) kf9 0 (by decide) rfl bw_908 (fun _ _ _ _ h => h) dX9_event_41 rfl o12 ?_
        refine z_sipush C (pc := 44) (x := (9999 : Int32)) dX9_event_44 ksp_9999 ?_
        refine z_Si C (pc := 47) (KX := fun _ _ => False) (kc' := 0) (ks' := 0) (As := [.int x4, .int (g_I S7 900 x0), .int (9999 : Int32)]) (rest := []) (c_X9_in l v S7 x4 (g_I S7 900 x0) (9999 : Int32)) mw_X9_in bw_1014 bw_1015 (fit_of rfl) rfl rfl (Nat.le_of_ble_eq_true rfl) dX9_event_47 h (fun r14 S13 h => ?_) (fun En S9 h => h.elim)
        refine z_if_eq C (pc := 50) (tgt := 78) dX9_event_50 (by decide) h (fun h => ?_) (fun h => ?_)
        · refine z_aload_n C (pc := 78) dX9_event_78 0 rfl ?_
          refine z_iconst C (pc := 79) (x := (2 : Int32)) dX9_event_79 kic_2 ?_
          obtain ⟨o15, h⟩ := h
          refine z_Vi C (pc := 80) (KX := fun _ _ => False) (kc' := 0) (ks' := 0) (As := [.int (2 : Int32)]) (rest := []) rfl (c_X9_fails l v S13 x0 (2 : Int32)) mw_X9_fails bw_1021 bw_1023 bw_p31 (fit_of rfl) rfl rfl (Nat.le_of_ble_eq_true rfl) (by decide) rfl o15 dX9_event_80 h (fun r17 S16 h => ?_) (fun En S9 h => h.elim)
          exact z_iret C (pc := 83) T dX9_event_83 (by decide) (by decide) h
        · refine z_iload C (pc := 53) dX9_event_53 5 rfl ?_
          refine z_iconst C (pc := 55) (x := (0 : Int32)) dX9_event_55 kic_0 ?_
          refine z_bipush C (pc := 56) (x := (23 : Int32)) dX9_event_56 kbp_23 ?_
          refine z_Si C (pc := 58) (KX := fun _ _ => False) (kc' := 0) (ks' := 0) (As := [.int x5, .int (0 : Int32), .int (23 : Int32)]) (rest := []) (c_X9_in l v S13 x5 (0 : Int32) (23 : Int32)) mw_X9_in bw_1014 bw_1015 (fit_of rfl) rfl rfl (Nat.le_of_ble_eq_true rfl) dX9_event_58 h (fun r19 S18 h => ?_) (fun En S9 h => h.elim)
          refine z_if_eq C (pc := 61) (tgt := 78) dX9_event_61 (by decide) h (fun h => ?_) (fun h => ?_)
          · refine z_aload_n C (pc := 78) dX9_event_78 0 rfl ?_
            refine z_iconst C (pc := 79) (x := (2 : Int32)) dX9_event_79 kic_2 ?_
            obtain ⟨o20, h⟩ := h
            refine z_Vi C (pc := 80) (KX := fun _ _ => False) (kc' := 0) (ks' := 0) (As := [.int (2 : Int32)]) (rest := []) rfl (c_X9_fails l v S18 x0 (2 : Int32)) mw_X9_fails bw_1021 bw_1023 bw_p31 (fit_of rfl) rfl rfl (Nat.le_of_ble_eq_true rfl) (by decide) rfl o20 dX9_event_80 h (fun r22 S21 h => ?_) (fun En S9 h => h.elim)
            exact z_iret C (pc := 83) T dX9_event_83 (by decide) (by decide) h
          · refine z_iload C (pc := 64) dX9_event_64 6 rfl ?_
            refine z_iconst C (pc := 66) (x := (1 : Int32)) dX9_event_66 kic_1 ?_
            refine z_bipush C (pc := 67) (x := (24 : Int32)) dX9_event_67 kbp_24 ?_
            refine z_iload C (pc := 69) dX9_event_69 5 rfl ?_
            refine z_isub C (pc := 71) dX9_event_71 ?_
            refine z_Si C (pc := 72) (KX := fun _ _ => False) (kc' := 0) (ks' := 0) (As := [.int x6, .int (1 : Int32), .int ((24 : Int32) - x5)]) (rest := []) (c_X9_in l v S18 x6 (1 : Int32) ((24 : Int32) - x5)) mw_X9_in bw_1014 bw_1015 (fit_of rfl) rfl rfl (Nat.le_of_ble_eq_true rfl) dX9_event_72 h (fun r24 S23 h => ?_) (fun En S9 h => h.elim)
            refine z_if_ne C (pc := 75) (tgt := 84) dX9_event_75 (by decide) h (fun h => ?_) (fun h => ?_)
            · refine z_aload_n C (pc := 84) dX9_event_84 0 rfl ?_
              obtain ⟨o25, h⟩ := h
              refine z_getI C (pc := 85) kf9 26 (by decide) rfl bw_934 (fun _ _ _ _ h => h) dX9_event_85 rfl o25 ?_
              refine z_bipush C (pc := 88) (x := (20 : Int32)) dX9_event_88 kbp_20 ?_
              refine z_icmp_ne C (pc := 90) (tgt := 99) dX9_event_90 (by decide) h (fun h => ?_) (fun h => ?_)
              · refine z_bipush C (pc := 99) (x := (6 : Int32)) dX9_event_99 kbp_6 ?_
                refine z_aload_n C (pc := 101) dX9_event_101 0 rfl ?_
                refine z_getI C (pc := 102) kf9 26 (by decide) rfl bw_934 (fun _ _ _ _ h => h) dX9_event_102 rfl o25 ?_
                refine z_imul C (pc := 105) dX9_event_105 ?_
                refine z_nI h (fun y26 h => ?_)
                refine z_istore C (pc := 106) (lv' := [(7, .int y26), (0, va_rf (some x0)), (1, .int x1), (2, .int x2), (3, .int x3), (4, .int x4), (5, .int x5), (6, .int x6)]) dX9_event_106 (by decide) rfl ?_
                refine z_aload_n C (pc := 108) dX9_event_108 1 rfl ?_
                refine z_getP C (pc := 109) kf9 27 (by decide) rfl bw_935 (fun _ _ _ _ h => h) dX9_event_109 rfl o25 ?_
                refine z_iload C (pc := 112) dX9_event_112 0 rfl ?_
                refine z_iload_n C (pc := 114) dX9_event_114 2 rfl ?_
                obtain ⟨a27, e28, o29, h⟩ := h
                obtain ⟨v30, h⟩ := h
                refine z_iast C (pc := 115) dX9_event_115 e28 o29 v30 ?_
                refine z_lt h (fun S31 h => ?_)
                refine z_aload_n C (pc := 116) dX9_event_116 1 rfl ?_
                obtain ⟨o32, h⟩ := h
                refine z_getP C (pc := 117) kf9 27 (by decide) rfl bw_935 (fun _ _ _ _ h => h) dX9_event_117 rfl o32 ?_
                refine z_iload C (pc := 120) dX9_event_120 0 rfl ?_
                refine z_iconst C (pc := 122) (x := (1 : Int32)) dX9_event_122 kic_1 ?_
                refine z_iadd C (pc := 123) dX9_event_123 ?_
                refine z_iload_n C (pc := 124) dX9_event_124 3 rfl ?_
                obtain ⟨a33, e34, o35, h⟩ := h
                obtain ⟨v36, h⟩ := h
                refine z_iast C (pc := 125) dX9_event_125 e34 o35 v36 ?_
                refine z_lt h (fun S37 h => ?_)
                refine z_aload_n C (pc := 126) dX9_event_126 1 rfl ?_
                obtain ⟨o38, h⟩ := h
                refine z_getP C (pc := 127) kf9 27 (by decide) rfl bw_935 (fun _ _ _ _ h => h) dX9_event_127 rfl o38 ?_
                refine z_iload C (pc := 130) dX9_event_130 0 rfl ?_
                refine z_iconst C (pc := 132) (x := (2 : Int32)) dX9_event_132 kic_2 ?_
                refine z_iadd C (pc := 133) dX9_event_133 ?_
                refine z_iload_n C (pc := 134) dX9_event_134 4 rfl ?_
                obtain ⟨a39, e40, o41, h⟩ := h
                obtain ⟨v42, h⟩ := h
                refine z_iast C (pc := 135) dX9_event_135 e40 o41 v42 ?_
                refine z_lt h (fun S43 h => ?_)
                refine z_aload_n C (pc := 136) dX9_event_136 1 rfl ?_
                obtain ⟨o44, h⟩ := h
                refine z_getP C (pc := 137) kf9 27 (by decide) rfl bw_935 (fun _ _ _ _ h => h) dX9_event_137 rfl o44 ?_
                refine z_iload C (pc := 140) dX9_event_140 0 rfl ?_
                refine z_iconst C (pc := 142) (x := (3 : Int32)) dX9_event_142 kic_3 ?_
                refine z_iadd C (pc := 143) dX9_event_143 ?_
                refine z_iload C (pc := 144) dX9_event_144 5 rfl ?_
                obtain ⟨a45, e46, o47, h⟩ := h
                obtain ⟨v48, h⟩ := h
                refine z_iast C (pc := 146) dX9_event_146 e46 o47 v48 ?_
                refine z_lt h (fun S49 h => ?_)
                refine z_aload_n C (pc := 147) dX9_event_147 1 rfl ?_
                obtain ⟨o50, h⟩ := h
                refine z_getP C (pc := 148) kf9 27 (by decide) rfl bw_935 (fun _ _ _ _ h => h) dX9_event_148 rfl o50 ?_
                refine z_iload C (pc := 151) dX9_event_151 0 rfl ?_
                refine z_iconst C (pc := 153) (x := (4 : Int32)) dX9_event_153 kic_4 ?_
                refine z_iadd C (pc := 154) dX9_event_154 ?_
                refine z_iload C (pc := 155) dX9_event_155 6 rfl ?_
                obtain ⟨a51, e52, o53, h⟩ := h
                obtain ⟨v54, h⟩ := h
                refine z_iast C (pc := 157) dX9_event_157 e52 o53 v54 ?_
                refine z_lt h (fun S55 h => ?_)
                refine z_aload_n C (pc := 158) dX9_event_158 1 rfl ?_
                obtain ⟨o56, h⟩ := h
                refine z_getP C (pc := 159) kf9 27 (by decide) rfl bw_935 (fun _ _ _ _ h => h) dX9_event_159 rfl o56 ?_
                refine z_iload C (pc := 162) dX9_event_162 0 rfl ?_
                refine z_iconst C (pc := 164) (x := (5 : Int32)) dX9_event_164 kic_5 ?_
                refine z_iadd C (pc := 165) dX9_event_165 ?_
                refine z_iload C (pc := 166) dX9_event_166 7 rfl ?_
                obtain ⟨a57, e58, o59, h⟩ := h
                obtain ⟨v60, h⟩ := h
                refine z_iast C (pc := 168) dX9_event_168 e58 o59 v60 ?_
                refine z_lt h (fun S61 h => ?_)
                refine z_aload_n C (pc := 169) dX9_event_169 1 rfl ?_
                refine z_dup C (pc := 170) dX9_event_170 (cat_rf _) ?_
                obtain ⟨o62, h⟩ := h
                refine z_getI C (pc := 171) kf9 26 (by decide) rfl bw_934 (fun _ _ _ _ h => h) dX9_event_171 rfl o62 ?_
                refine z_iconst C (pc := 174) (x := (1 : Int32)) dX9_event_174 kic_1 ?_
                refine z_iadd C (pc := 175) dX9_event_175 ?_
                refine z_putI C (pc := 176) kf9 26 (by decide) rfl rfl bw_934 (fun _ _ _ _ h => h) dX9_event_176 rfl o62 ?_
                refine z_lt h (fun S63 h => ?_)
                refine z_aload_n C (pc := 179) dX9_event_179 1 rfl ?_
                obtain ⟨o64, h⟩ := h
                refine z_getI C (pc := 180) kf9 26 (by decide) rfl bw_934 (fun _ _ _ _ h => h) dX9_event_180 rfl o64 ?_
                refine z_iconst C (pc := 183) (x := (1 : Int32)) dX9_event_183 kic_1 ?_
                refine z_isub C (pc := 184) dX9_event_184 ?_
                exact z_iret C (pc := 185) T dX9_event_185 (by decide) (by decide) h
              · refine z_aload_n C (pc := 93) dX9_event_93 0 rfl ?_
                refine z_iconst C (pc := 94) (x := (3 : Int32)) dX9_event_94 kic_3 ?_
                refine z_Vi C (pc := 95) (KX := fun _ _ => False) (kc' := 0) (ks' := 0) (As := [.int (3 : Int32)]) (rest := []) rfl (c_X9_fails l v S23 x0 (3 : Int32)) mw_X9_fails bw_1021 bw_1023 bw_p31 (fit_of rfl) rfl rfl (Nat.le_of_ble_eq_true rfl) (by decide) rfl o25 dX9_event_95 h (fun r66 S65 h => ?_) (fun En S9 h => h.elim)
                exact z_iret C (pc := 98) T dX9_event_98 (by decide) (by decide) h
            · refine z_aload_n C (pc := 78) dX9_event_78 0 rfl ?_
              refine z_iconst C (pc := 79) (x := (2 : Int32)) dX9_event_79 kic_2 ?_
              obtain ⟨o67, h⟩ := h
              refine z_Vi C (pc := 80) (KX := fun _ _ => False) (kc' := 0) (ks' := 0) (As := [.int (2 : Int32)]) (rest := []) rfl (c_X9_fails l v S23 x0 (2 : Int32)) mw_X9_fails bw_1021 bw_1023 bw_p31 (fit_of rfl) rfl rfl (Nat.le_of_ble_eq_true rfl) (by decide) rfl o67 dX9_event_80 h (fun r69 S68 h => ?_) (fun En S9 h => h.elim)
              exact z_iret C (pc := 83) T dX9_event_83 (by decide) (by decide) h
    · refine z_iconst C (pc := 27) (x := (0 : Int32)) dX9_event_27 kic_0 ?_
      exact z_iret C (pc := 28) T dX9_event_28 (by decide) (by decide) h
  · refine z_iload_n C (pc := 9) dX9_event_9 2 rfl ?_
    refine z_Si C (pc := 10) (KX := fun _ _ => False) (kc' := 0) (ks' := 0) (As := [.int x2]) (rest := [va_rf (some x0)]) (c_X9_isLand l v S2 x2) mw_X9_isLand bw_1112 bw_1113 (fit_of rfl) rfl rfl (Nat.le_of_ble_eq_true rfl) dX9_event_10 h (fun r71 S70 h => ?_) (fun En S9 h => h.elim)
    refine z_if_eq C (pc := 13) (tgt := 20) dX9_event_13 (by decide) h (fun h => ?_) (fun h => ?_)
    · refine z_iconst C (pc := 20) (x := (0 : Int32)) dX9_event_20 kic_0 ?_
      obtain ⟨o72, h⟩ := h
      refine z_Vi C (pc := 21) (KX := fun _ _ => False) (kc' := 0) (ks' := 0) (As := [.int (0 : Int32)]) (rest := []) rfl (c_X9_asks l v S70 x0 (0 : Int32)) mw_X9_asks bw_1017 bw_1019 bw_p30 (fit_of rfl) rfl rfl (Nat.le_of_ble_eq_true rfl) (by decide) rfl o72 dX9_event_21 h (fun r74 S73 h => ?_) (fun En S9 h => h.elim)
      refine z_if_ne C (pc := 24) (tgt := 29) dX9_event_24 (by decide) h (fun h => ?_) (fun h => ?_)
      · refine z_iload_n C (pc := 29) dX9_event_29 3 rfl ?_
        refine z_iconst C (pc := 30) (x := (0 : Int32)) dX9_event_30 kic_0 ?_
        refine z_iconst C (pc := 31) (x := (3 : Int32)) dX9_event_31 kic_3 ?_
        refine z_Si C (pc := 32) (KX := fun _ _ => False) (kc' := 0) (ks' := 0) (As := [.int x3, .int (0 : Int32), .int (3 : Int32)]) (rest := []) (c_X9_in l v S73 x3 (0 : Int32) (3 : Int32)) mw_X9_in bw_1014 bw_1015 (fit_of rfl) rfl rfl (Nat.le_of_ble_eq_true rfl) dX9_event_32 h (fun r76 S75 h => ?_) (fun En S9 h => h.elim)
        refine z_if_eq C (pc := 35) (tgt := 78) dX9_event_35 (by decide) h (fun h => ?_) (fun h => ?_)
        · refine z_aload_n C (pc := 78) dX9_event_78 0 rfl ?_
          refine z_iconst C (pc := 79) (x := (2 : Int32)) dX9_event_79 kic_2 ?_
          obtain ⟨o77, h⟩ := h
          refine z_Vi C (pc := 80) (KX := fun _ _ => False) (kc' := 0) (ks' := 0) (As := [.int (2 : Int32)]) (rest := []) rfl (c_X9_fails l v S75 x0 (2 : Int32)) mw_X9_fails bw_1021 bw_1023 bw_p31 (fit_of rfl) rfl rfl (Nat.le_of_ble_eq_true rfl) (by decide) rfl o77 dX9_event_80 h (fun r79 S78 h => ?_) (fun En S9 h => h.elim)
          exact z_iret C (pc := 83) T dX9_event_83 (by decide) (by decide) h
        · refine z_iload C (pc := 38) dX9_event_38 4 rfl ?_
          refine z_aload_n C (pc := 40) dX9_event_40 0 rfl ?_
          obtain ⟨o80, h⟩ := h
          refine z_getI C (pc := 41) kf9 0 (by decide) rfl bw_908 (fun _ _ _ _ h => h) dX9_event_41 rfl o80 ?_
          refine z_sipush C (pc := 44) (x := (9999 : Int32)) dX9_event_44 ksp_9999 ?_
          refine z_Si C (pc := 47) (KX := fun _ _ => False) (kc' := 0) (ks' := 0) (As := [.int x4, .int (g_I S75 900 x0), .int (9999 : Int32)]) (rest := []) (c_X9_in l v S75 x4 (g_I S75 900 x0) (9999 : Int32)) mw_X9_in bw_1014 bw_1015 (fit_of rfl) rfl rfl (Nat.le_of_ble_eq_true rfl) dX9_event_47 h (fun r82 S81 h => ?_) (fun En S9 h => h.elim)
          refine z_if_eq C (pc := 50) (tgt := 78) dX9_event_50 (by decide) h (fun h => ?_) (fun h => ?_)
          · refine z_aload_n C (pc := 78) dX9_event_78 0 rfl ?_
            refine z_iconst C (pc := 79) (x := (2 : Int32)) dX9_event_79 kic_2 ?_
            obtain ⟨o83, h⟩ := h
            refine z_Vi C (pc := 80) (KX := fun _ _ => False) (kc' := 0) (ks' := 0) (As := [.int (2 : Int32)]) (rest := []) rfl (c_X9_fails l v S81 x0 (2 : Int32)) mw_X9_fails bw_1021 bw_1023 bw_p31 (fit_of rfl) rfl rfl (Nat.le_of_ble_eq_true rfl) (by decide) rfl o83 dX9_event_80 h (fun r85 S84 h => ?_) (fun En S9 h => h.elim)
            exact z_iret C (pc := 83) T dX9_event_83 (by decide) (by decide) h
          · refine z_iload C (pc := 53) dX9_event_53 5 rfl ?_
            refine z_iconst C (pc := 55) (x := (0 : Int32)) dX9_event_55 kic_0 ?_
            refine z_bipush C (pc := 56) (x := (23 : Int32)) dX9_event_56 kbp_23 ?_
            refine z_Si C (pc := 58) (KX := fun _ _ => False) (kc' := 0) (ks' := 0) (As := [.int x5, .int (0 : Int32), .int (23 : Int32)]) (rest := []) (c_X9_in l v S81 x5 (0 : Int32) (23 : Int32)) mw_X9_in bw_1014 bw_1015 (fit_of rfl) rfl rfl (Nat.le_of_ble_eq_true rfl) dX9_event_58 h (fun r87 S86 h => ?_) (fun En S9 h => h.elim)
            refine z_if_eq C (pc := 61) (tgt := 78) dX9_event_61 (by decide) h (fun h => ?_) (fun h => ?_)
            · refine z_aload_n C (pc := 78) dX9_event_78 0 rfl ?_
              refine z_iconst C (pc := 79) (x := (2 : Int32)) dX9_event_79 kic_2 ?_
              obtain ⟨o88, h⟩ := h
              refine z_Vi C (pc := 80) (KX := fun _ _ => False) (kc' := 0) (ks' := 0) (As := [.int (2 : Int32)]) (rest := []) rfl (c_X9_fails l v S86 x0 (2 : Int32)) mw_X9_fails bw_1021 bw_1023 bw_p31 (fit_of rfl) rfl rfl (Nat.le_of_ble_eq_true rfl) (by decide) rfl o88 dX9_event_80 h (fun r90 S89 h => ?_) (fun En S9 h => h.elim)
              exact z_iret C (pc := 83) T dX9_event_83 (by decide) (by decide) h
            · refine z_iload C (pc := 64) dX9_event_64 6 rfl ?_
              refine z_iconst C (pc := 66) (x := (1 : Int32)) dX9_event_66 kic_1 ?_
              refine z_bipush C (pc := 67) (x := (24 : Int32)) dX9_event_67 kbp_24 ?_
              refine z_iload C (pc := 69) dX9_event_69 5 rfl ?_
              refine z_isub C (pc := 71) dX9_event_71 ?_
              refine z_Si C (pc := 72) (KX := fun _ _ => False) (kc' := 0) (ks' := 0) (As := [.int x6, .int (1 : Int32), .int ((24 : Int32) - x5)]) (rest := []) (c_X9_in l v S86 x6 (1 : Int32) ((24 : Int32) - x5)) mw_X9_in bw_1014 bw_1015 (fit_of rfl) rfl rfl (Nat.le_of_ble_eq_true rfl) dX9_event_72 h (fun r92 S91 h => ?_) (fun En S9 h => h.elim)
              refine z_if_ne C (pc := 75) (tgt := 84) dX9_event_75 (by decide) h (fun h => ?_) (fun h => ?_)
              · refine z_aload_n C (pc := 84) dX9_event_84 0 rfl ?_
                obtain ⟨o93, h⟩ := h
                refine z_getI C (pc := 85) kf9 26 (by decide) rfl bw_934 (fun _ _ _ _ h => h) dX9_event_85 rfl o93 ?_
                refine z_bipush C (pc := 88) (x := (20 : Int32)) dX9_event_88 kbp_20 ?_
                refine z_icmp_ne C (pc := 90) (tgt := 99) dX9_event_90 (by decide) h (fun h => ?_) (fun h => ?_)
                · refine z_bipush C (pc := 99) (x := (6 : Int32)) dX9_event_99 kbp_6 ?_
                  refine z_aload_n C (pc := 101) dX9_event_101 0 rfl ?_
                  refine z_getI C (pc := 102) kf9 26 (by decide) rfl bw_934 (fun _ _ _ _ h => h) dX9_event_102 rfl o93 ?_
                  refine z_imul C (pc := 105) dX9_event_105 ?_
                  refine z_nI h (fun y94 h => ?_)
                  refine z_istore C (pc := 106) (lv' := [(7, .int y94), (0, va_rf (some x0)), (1, .int x1), (2, .int x2), (3, .int x3), (4, .int x4), (5, .int x5), (6, .int x6)]) dX9_event_106 (by decide) rfl ?_
                  refine z_aload_n C (pc := 108) dX9_event_108 1 rfl ?_
                  refine z_getP C (pc := 109) kf9 27 (by decide) rfl bw_935 (fun _ _ _ _ h => h) dX9_event_109 rfl o93 ?_
                  refine z_iload C (pc := 112) dX9_event_112 0 rfl ?_
                  refine z_iload_n C (pc := 114) dX9_event_114 2 rfl ?_
                  obtain ⟨a95, e96, o97, h⟩ := h
                  obtain ⟨v98, h⟩ := h
                  refine z_iast C (pc := 115) dX9_event_115 e96 o97 v98 ?_
                  refine z_lt h (fun S99 h => ?_)
                  refine z_aload_n C (pc := 116) dX9_event_116 1 rfl ?_
                  obtain ⟨o100, h⟩ := h
                  refine z_getP C (pc := 117) kf9 27 (by decide) rfl bw_935 (fun _ _ _ _ h => h) dX9_event_117 rfl o100 ?_
                  refine z_iload C (pc := 120) dX9_event_120 0 rfl ?_
                  refine z_iconst C (pc := 122) (x := (1 : Int32)) dX9_event_122 kic_1 ?_
                  refine z_iadd C (pc := 123) dX9_event_123 ?_
                  refine z_iload_n C (pc := 124) dX9_event_124 3 rfl ?_
                  obtain ⟨a101, e102, o103, h⟩ := h
                  obtain ⟨v104, h⟩ := h
                  refine z_iast C (pc := 125) dX9_event_125 e102 o103 v104 ?_
                  refine z_lt h (fun S105 h => ?_)
                  refine z_aload_n C (pc := 126) dX9_event_126 1 rfl ?_
                  obtain ⟨o106, h⟩ := h
                  refine z_getP C (pc := 127) kf9 27 (by decide) rfl bw_935 (fun _ _ _ _ h => h) dX9_event_127 rfl o106 ?_
                  refine z_iload C (pc := 130) dX9_event_130 0 rfl ?_
                  refine z_iconst C (pc := 132) (x := (2 : Int32)) dX9_event_132 kic_2 ?_
                  refine z_iadd C (pc := 133) dX9_event_133 ?_
                  refine z_iload_n C (pc := 134) dX9_event_134 4 rfl ?_
                  obtain ⟨a107, e108, o109, h⟩ := h
                  obtain ⟨v110, h⟩ := h
                  refine z_iast C (pc := 135) dX9_event_135 e108 o109 v110 ?_
                  refine z_lt h (fun S111 h => ?_)
                  refine z_aload_n C (pc := 136) dX9_event_136 1 rfl ?_
                  obtain ⟨o112, h⟩ := h
                  refine z_getP C (pc := 137) kf9 27 (by decide) rfl bw_935 (fun _ _ _ _ h => h) dX9_event_137 rfl o112 ?_
                  refine z_iload C (pc := 140) dX9_event_140 0 rfl ?_
                  refine z_iconst C (pc := 142) (x := (3 : Int32)) dX9_event_142 kic_3 ?_
                  refine z_iadd C (pc := 143) dX9_event_143 ?_
                  refine z_iload C (pc := 144) dX9_event_144 5 rfl ?_
                  obtain ⟨a113, e114, o115, h⟩ := h
                  obtain ⟨v116, h⟩ := h
                  refine z_iast C (pc := 146) dX9_event_146 e114 o115 v116 ?_
                  refine z_lt h (fun S117 h => ?_)
                  refine z_aload_n C (pc := 147) dX9_event_147 1 rfl ?_
                  obtain ⟨o118, h⟩ := h
                  refine z_getP C (pc := 148) kf9 27 (by decide) rfl bw_935 (fun _ _ _ _ h => h) dX9_event_148 rfl o118 ?_
                  refine z_iload C (pc := 151) dX9_event_151 0 rfl ?_
                  refine z_iconst C (pc := 153) (x := (4 : Int32)) dX9_event_153 kic_4 ?_
                  refine z_iadd C (pc := 154) dX9_event_154 ?_
                  refine z_iload C (pc := 155) dX9_event_155 6 rfl ?_
                  obtain ⟨a119, e120, o121, h⟩ := h
                  obtain ⟨v122, h⟩ := h
                  refine z_iast C (pc := 157) dX9_event_157 e120 o121 v122 ?_
                  refine z_lt h (fun S123 h => ?_)
                  refine z_aload_n C (pc := 158) dX9_event_158 1 rfl ?_
                  obtain ⟨o124, h⟩ := h
                  refine z_getP C (pc := 159) kf9 27 (by decide) rfl bw_935 (fun _ _ _ _ h => h) dX9_event_159 rfl o124 ?_
                  refine z_iload C (pc := 162) dX9_event_162 0 rfl ?_
                  refine z_iconst C (pc := 164) (x := (5 : Int32)) dX9_event_164 kic_5 ?_
                  refine z_iadd C (pc := 165) dX9_event_165 ?_
                  refine z_iload C (pc := 166) dX9_event_166 7 rfl ?_
                  obtain ⟨a125, e126, o127, h⟩ := h
                  obtain ⟨v128, h⟩ := h
                  refine z_iast C (pc := 168) dX9_event_168 e126 o127 v128 ?_
                  refine z_lt h (fun S129 h => ?_)
                  refine z_aload_n C (pc := 169) dX9_event_169 1 rfl ?_
                  refine z_dup C (pc := 170) dX9_event_170 (cat_rf _) ?_
                  obtain ⟨o130, h⟩ := h
                  refine z_getI C (pc := 171) kf9 26 (by decide) rfl bw_934 (fun _ _ _ _ h => h) dX9_event_171 rfl o130 ?_
                  refine z_iconst C (pc := 174) (x := (1 : Int32)) dX9_event_174 kic_1 ?_
                  refine z_iadd C (pc := 175) dX9_event_175 ?_
                  refine z_putI C (pc := 176) kf9 26 (by decide) rfl rfl bw_934 (fun _ _ _ _ h => h) dX9_event_176 rfl o130 ?_
                  refine z_lt h (fun S131 h => ?_)
                  refine z_aload_n C (pc := 179) dX9_event_179 1 rfl ?_
                  obtain ⟨o132, h⟩ := h
                  refine z_getI C (pc := 180) kf9 26 (by decide) rfl bw_934 (fun _ _ _ _ h => h) dX9_event_180 rfl o132 ?_
                  refine z_iconst C (pc := 183) (x := (1 : Int32)) dX9_event_183 kic_1 ?_
                  refine z_isub C (pc := 184) dX9_event_184 ?_
                  exact z_iret C (pc := 185) T dX9_event_185 (by decide) (by decide) h
                · refine z_aload_n C (pc := 93) dX9_event_93 0 rfl ?_
                  refine z_iconst C (pc := 94) (x := (3 : Int32)) dX9_event_94 kic_3 ?_
                  refine z_Vi C (pc := 95) (KX := fun _ _ => False) (kc' := 0) (ks' := 0) (As := [.int (3 : Int32)]) (rest := []) rfl (c_X9_fails l v S91 x0 (3 : Int32)) mw_X9_fails bw_1021 bw_1023 bw_p31 (fit_of rfl) rfl rfl (Nat.le_of_ble_eq_true rfl) (by decide) rfl o93 dX9_event_95 h (fun r134 S133 h => ?_) (fun En S9 h => h.elim)
                  exact z_iret C (pc := 98) T dX9_event_98 (by decide) (by decide) h
              · refine z_aload_n C (pc := 78) dX9_event_78 0 rfl ?_
                refine z_iconst C (pc := 79) (x := (2 : Int32)) dX9_event_79 kic_2 ?_
                obtain ⟨o135, h⟩ := h
                refine z_Vi C (pc := 80) (KX := fun _ _ => False) (kc' := 0) (ks' := 0) (As := [.int (2 : Int32)]) (rest := []) rfl (c_X9_fails l v S91 x0 (2 : Int32)) mw_X9_fails bw_1021 bw_1023 bw_p31 (fit_of rfl) rfl rfl (Nat.le_of_ble_eq_true rfl) (by decide) rfl o135 dX9_event_80 h (fun r137 S136 h => ?_) (fun En S9 h => h.elim)
                exact z_iret C (pc := 83) T dX9_event_83 (by decide) (by decide) h
      · refine z_iconst C (pc := 27) (x := (0 : Int32)) dX9_event_27 kic_0 ?_
        exact z_iret C (pc := 28) T dX9_event_28 (by decide) (by decide) h
    · refine z_iconst C (pc := 16) (x := (1 : Int32)) dX9_event_16 kic_1 ?_
      refine z_goto C (pc := 17) (tgt := 21) dX9_event_17 (by decide) ?_
      obtain ⟨o138, h⟩ := h
      refine z_Vi C (pc := 21) (KX := fun _ _ => False) (kc' := 0) (ks' := 0) (As := [.int (1 : Int32)]) (rest := []) rfl (c_X9_asks l v S70 x0 (1 : Int32)) mw_X9_asks bw_1017 bw_1019 bw_p30 (fit_of rfl) rfl rfl (Nat.le_of_ble_eq_true rfl) (by decide) rfl o138 dX9_event_21 h (fun r140 S139 h => ?_) (fun En S9 h => h.elim)
      refine z_if_ne C (pc := 24) (tgt := 29) dX9_event_24 (by decide) h (fun h => ?_) (fun h => ?_)
      · refine z_iload_n C (pc := 29) dX9_event_29 3 rfl ?_
        refine z_iconst C (pc := 30) (x := (0 : Int32)) dX9_event_30 kic_0 ?_
        refine z_iconst C (pc := 31) (x := (3 : Int32)) dX9_event_31 kic_3 ?_
        refine z_Si C (pc := 32) (KX := fun _ _ => False) (kc' := 0) (ks' := 0) (As := [.int x3, .int (0 : Int32), .int (3 : Int32)]) (rest := []) (c_X9_in l v S139 x3 (0 : Int32) (3 : Int32)) mw_X9_in bw_1014 bw_1015 (fit_of rfl) rfl rfl (Nat.le_of_ble_eq_true rfl) dX9_event_32 h (fun r142 S141 h => ?_) (fun En S9 h => h.elim)
        refine z_if_eq C (pc := 35) (tgt := 78) dX9_event_35 (by decide) h (fun h => ?_) (fun h => ?_)
        · refine z_aload_n C (pc := 78) dX9_event_78 0 rfl ?_
          refine z_iconst C (pc := 79) (x := (2 : Int32)) dX9_event_79 kic_2 ?_
          obtain ⟨o143, h⟩ := h
          refine z_Vi C (pc := 80) (KX := fun _ _ => False) (kc' := 0) (ks' := 0) (As := [.int (2 : Int32)]) (rest := []) rfl (c_X9_fails l v S141 x0 (2 : Int32)) mw_X9_fails bw_1021 bw_1023 bw_p31 (fit_of rfl) rfl rfl (Nat.le_of_ble_eq_true rfl) (by decide) rfl o143 dX9_event_80 h (fun r145 S144 h => ?_) (fun En S9 h => h.elim)
          exact z_iret C (pc := 83) T dX9_event_83 (by decide) (by decide) h
        · refine z_iload C (pc := 38) dX9_event_38 4 rfl ?_
          refine z_aload_n C (pc := 40) dX9_event_40 0 rfl ?_
          obtain ⟨o146, h⟩ := h
          refine z_getI C (pc := 41) kf9 0 (by decide) rfl bw_908 (fun _ _ _ _ h => h) dX9_event_41 rfl o146 ?_
          refine z_sipush C (pc := 44) (x := (9999 : Int32)) dX9_event_44 ksp_9999 ?_
          refine z_Si C (pc := 47) (KX := fun _ _ => False) (kc' := 0) (ks' := 0) (As := [.int x4, .int (g_I S141 900 x0), .int (9999 : Int32)]) (rest := []) (c_X9_in l v S141 x4 (g_I S141 900 x0) (9999 : Int32)) mw_X9_in bw_1014 bw_1015 (fit_of rfl) rfl rfl (Nat.le_of_ble_eq_true rfl) dX9_event_47 h (fun r148 S147 h => ?_) (fun En S9 h => h.elim)
          refine z_if_eq C (pc := 50) (tgt := 78) dX9_event_50 (by decide) h (fun h => ?_) (fun h => ?_)
          · refine z_aload_n C (pc := 78) dX9_event_78 0 rfl ?_
            refine z_iconst C (pc := 79) (x := (2 : Int32)) dX9_event_79 kic_2 ?_
            obtain ⟨o149, h⟩ := h
            refine z_Vi C (pc := 80) (KX := fun _ _ => False) (kc' := 0) (ks' := 0) (As := [.int (2 : Int32)]) (rest := []) rfl (c_X9_fails l v S147 x0 (2 : Int32)) mw_X9_fails bw_1021 bw_1023 bw_p31 (fit_of rfl) rfl rfl (Nat.le_of_ble_eq_true rfl) (by decide) rfl o149 dX9_event_80 h (fun r151 S150 h => ?_) (fun En S9 h => h.elim)
            exact z_iret C (pc := 83) T dX9_event_83 (by decide) (by decide) h
          · refine z_iload C (pc := 53) dX9_event_53 5 rfl ?_
            refine z_iconst C (pc := 55) (x := (0 : Int32)) dX9_event_55 kic_0 ?_
            refine z_bipush C (pc := 56) (x := (23 : Int32)) dX9_event_56 kbp_23 ?_
            refine z_Si C (pc := 58) (KX := fun _ _ => False) (kc' := 0) (ks' := 0) (As := [.int x5, .int (0 : Int32), .int (23 : Int32)]) (rest := []) (c_X9_in l v S147 x5 (0 : Int32) (23 : Int32)) mw_X9_in bw_1014 bw_1015 (fit_of rfl) rfl rfl (Nat.le_of_ble_eq_true rfl) dX9_event_58 h (fun r153 S152 h => ?_) (fun En S9 h => h.elim)
            refine z_if_eq C (pc := 61) (tgt := 78) dX9_event_61 (by decide) h (fun h => ?_) (fun h => ?_)
            · refine z_aload_n C (pc := 78) dX9_event_78 0 rfl ?_
              refine z_iconst C (pc := 79) (x := (2 : Int32)) dX9_event_79 kic_2 ?_
              obtain ⟨o154, h⟩ := h
              refine z_Vi C (pc := 80) (KX := fun _ _ => False) (kc' := 0) (ks' := 0) (As := [.int (2 : Int32)]) (rest := []) rfl (c_X9_fails l v S152 x0 (2 : Int32)) mw_X9_fails bw_1021 bw_1023 bw_p31 (fit_of rfl) rfl rfl (Nat.le_of_ble_eq_true rfl) (by decide) rfl o154 dX9_event_80 h (fun r156 S155 h => ?_) (fun En S9 h => h.elim)
              exact z_iret C (pc := 83) T dX9_event_83 (by decide) (by decide) h
            · refine z_iload C (pc := 64) dX9_event_64 6 rfl ?_
              refine z_iconst C (pc := 66) (x := (1 : Int32)) dX9_event_66 kic_1 ?_
              refine z_bipush C (pc := 67) (x := (24 : Int32)) dX9_event_67 kbp_24 ?_
              refine z_iload C (pc := 69) dX9_event_69 5 rfl ?_
              refine z_isub C (pc := 71) dX9_event_71 ?_
              refine z_Si C (pc := 72) (KX := fun _ _ => False) (kc' := 0) (ks' := 0) (As := [.int x6, .int (1 : Int32), .int ((24 : Int32) - x5)]) (rest := []) (c_X9_in l v S152 x6 (1 : Int32) ((24 : Int32) - x5)) mw_X9_in bw_1014 bw_1015 (fit_of rfl) rfl rfl (Nat.le_of_ble_eq_true rfl) dX9_event_72 h (fun r158 S157 h => ?_) (fun En S9 h => h.elim)
              refine z_if_ne C (pc := 75) (tgt := 84) dX9_event_75 (by decide) h (fun h => ?_) (fun h => ?_)
              · refine z_aload_n C (pc := 84) dX9_event_84 0 rfl ?_
                obtain ⟨o159, h⟩ := h
                refine z_getI C (pc := 85) kf9 26 (by decide) rfl bw_934 (fun _ _ _ _ h => h) dX9_event_85 rfl o159 ?_
                refine z_bipush C (pc := 88) (x := (20 : Int32)) dX9_event_88 kbp_20 ?_
                refine z_icmp_ne C (pc := 90) (tgt := 99) dX9_event_90 (by decide) h (fun h => ?_) (fun h => ?_)
                · refine z_bipush C (pc := 99) (x := (6 : Int32)) dX9_event_99 kbp_6 ?_
                  refine z_aload_n C (pc := 101) dX9_event_101 0 rfl ?_
                  refine z_getI C (pc := 102) kf9 26 (by decide) rfl bw_934 (fun _ _ _ _ h => h) dX9_event_102 rfl o159 ?_
                  refine z_imul C (pc := 105) dX9_event_105 ?_
                  refine z_nI h (fun y160 h => ?_)
                  refine z_istore C (pc := 106) (lv' := [(7, .int y160), (0, va_rf (some x0)), (1, .int x1), (2, .int x2), (3, .int x3), (4, .int x4), (5, .int x5), (6, .int x6)]) dX9_event_106 (by decide) rfl ?_
                  refine z_aload_n C (pc := 108) dX9_event_108 1 rfl ?_
                  refine z_getP C (pc := 109) kf9 27 (by decide) rfl bw_935 (fun _ _ _ _ h => h) dX9_event_109 rfl o159 ?_
                  refine z_iload C (pc := 112) dX9_event_112 0 rfl ?_
                  refine z_iload_n C (pc := 114) dX9_event_114 2 rfl ?_
                  obtain ⟨a161, e162, o163, h⟩ := h
                  obtain ⟨v164, h⟩ := h
                  refine z_iast C (pc := 115) dX9_event_115 e162 o163 v164 ?_
                  refine z_lt h (fun S165 h => ?_)
                  refine z_aload_n C (pc := 116) dX9_event_116 1 rfl ?_
                  obtain ⟨o166, h⟩ := h
                  refine z_getP C (pc := 117) kf9 27 (by decide) rfl bw_935 (fun _ _ _ _ h => h) dX9_event_117 rfl o166 ?_
                  refine z_iload C (pc := 120) dX9_event_120 0 rfl ?_
                  refine z_iconst C (pc := 122) (x := (1 : Int32)) dX9_event_122 kic_1 ?_
                  refine z_iadd C (pc := 123) dX9_event_123 ?_
                  refine z_iload_n C (pc := 124) dX9_event_124 3 rfl ?_
                  obtain ⟨a167, e168, o169, h⟩ := h
                  obtain ⟨v170, h⟩ := h
                  refine z_iast C (pc := 125) dX9_event_125 e168 o169 v170 ?_
                  refine z_lt h (fun S171 h => ?_)
                  refine z_aload_n C (pc := 126) dX9_event_126 1 rfl ?_
                  obtain ⟨o172, h⟩ := h
                  refine z_getP C (pc := 127) kf9 27 (by decide) rfl bw_935 (fun _ _ _ _ h => h) dX9_event_127 rfl o172 ?_
                  refine z_iload C (pc := 130) dX9_event_130 0 rfl ?_
                  refine z_iconst C (pc := 132) (x := (2 : Int32)) dX9_event_132 kic_2 ?_
                  refine z_iadd C (pc := 133) dX9_event_133 ?_
                  refine z_iload_n C (pc := 134) dX9_event_134 4 rfl ?_
                  obtain ⟨a173, e174, o175, h⟩ := h
                  obtain ⟨v176, h⟩ := h
                  refine z_iast C (pc := 135) dX9_event_135 e174 o175 v176 ?_
                  refine z_lt h (fun S177 h => ?_)
                  refine z_aload_n C (pc := 136) dX9_event_136 1 rfl ?_
                  obtain ⟨o178, h⟩ := h
                  refine z_getP C (pc := 137) kf9 27 (by decide) rfl bw_935 (fun _ _ _ _ h => h) dX9_event_137 rfl o178 ?_
                  refine z_iload C (pc := 140) dX9_event_140 0 rfl ?_
                  refine z_iconst C (pc := 142) (x := (3 : Int32)) dX9_event_142 kic_3 ?_
                  refine z_iadd C (pc := 143) dX9_event_143 ?_
                  refine z_iload C (pc := 144) dX9_event_144 5 rfl ?_
                  obtain ⟨a179, e180, o181, h⟩ := h
                  obtain ⟨v182, h⟩ := h
                  refine z_iast C (pc := 146) dX9_event_146 e180 o181 v182 ?_
                  refine z_lt h (fun S183 h => ?_)
                  refine z_aload_n C (pc := 147) dX9_event_147 1 rfl ?_
                  obtain ⟨o184, h⟩ := h
                  refine z_getP C (pc := 148) kf9 27 (by decide) rfl bw_935 (fun _ _ _ _ h => h) dX9_event_148 rfl o184 ?_
                  refine z_iload C (pc := 151) dX9_event_151 0 rfl ?_
                  refine z_iconst C (pc := 153) (x := (4 : Int32)) dX9_event_153 kic_4 ?_
                  refine z_iadd C (pc := 154) dX9_event_154 ?_
                  refine z_iload C (pc := 155) dX9_event_155 6 rfl ?_
                  obtain ⟨a185, e186, o187, h⟩ := h
                  obtain ⟨v188, h⟩ := h
                  refine z_iast C (pc := 157) dX9_event_157 e186 o187 v188 ?_
                  refine z_lt h (fun S189 h => ?_)
                  refine z_aload_n C (pc := 158) dX9_event_158 1 rfl ?_
                  obtain ⟨o190, h⟩ := h
                  refine z_getP C (pc := 159) kf9 27 (by decide) rfl bw_935 (fun _ _ _ _ h => h) dX9_event_159 rfl o190 ?_
                  refine z_iload C (pc := 162) dX9_event_162 0 rfl ?_
                  refine z_iconst C (pc := 164) (x := (5 : Int32)) dX9_event_164 kic_5 ?_
                  refine z_iadd C (pc := 165) dX9_event_165 ?_
                  refine z_iload C (pc := 166) dX9_event_166 7 rfl ?_
                  obtain ⟨a191, e192, o193, h⟩ := h
                  obtain ⟨v194, h⟩ := h
                  refine z_iast C (pc := 168) dX9_event_168 e192 o193 v194 ?_
                  refine z_lt h (fun S195 h => ?_)
                  refine z_aload_n C (pc := 169) dX9_event_169 1 rfl ?_
                  refine z_dup C (pc := 170) dX9_event_170 (cat_rf _) ?_
                  obtain ⟨o196, h⟩ := h
                  refine z_getI C (pc := 171) kf9 26 (by decide) rfl bw_934 (fun _ _ _ _ h => h) dX9_event_171 rfl o196 ?_
                  refine z_iconst C (pc := 174) (x := (1 : Int32)) dX9_event_174 kic_1 ?_
                  refine z_iadd C (pc := 175) dX9_event_175 ?_
                  refine z_putI C (pc := 176) kf9 26 (by decide) rfl rfl bw_934 (fun _ _ _ _ h => h) dX9_event_176 rfl o196 ?_
                  refine z_lt h (fun S197 h => ?_)
                  refine z_aload_n C (pc := 179) dX9_event_179 1 rfl ?_
                  obtain ⟨o198, h⟩ := h
                  refine z_getI C (pc := 180) kf9 26 (by decide) rfl bw_934 (fun _ _ _ _ h => h) dX9_event_180 rfl o198 ?_
                  refine z_iconst C (pc := 183) (x := (1 : Int32)) dX9_event_183 kic_1 ?_
                  refine z_isub C (pc := 184) dX9_event_184 ?_
                  exact z_iret C (pc := 185) T dX9_event_185 (by decide) (by decide) h
                · refine z_aload_n C (pc := 93) dX9_event_93 0 rfl ?_
                  refine z_iconst C (pc := 94) (x := (3 : Int32)) dX9_event_94 kic_3 ?_
                  refine z_Vi C (pc := 95) (KX := fun _ _ => False) (kc' := 0) (ks' := 0) (As := [.int (3 : Int32)]) (rest := []) rfl (c_X9_fails l v S157 x0 (3 : Int32)) mw_X9_fails bw_1021 bw_1023 bw_p31 (fit_of rfl) rfl rfl (Nat.le_of_ble_eq_true rfl) (by decide) rfl o159 dX9_event_95 h (fun r200 S199 h => ?_) (fun En S9 h => h.elim)
                  exact z_iret C (pc := 98) T dX9_event_98 (by decide) (by decide) h
              · refine z_aload_n C (pc := 78) dX9_event_78 0 rfl ?_
                refine z_iconst C (pc := 79) (x := (2 : Int32)) dX9_event_79 kic_2 ?_
                obtain ⟨o201, h⟩ := h
                refine z_Vi C (pc := 80) (KX := fun _ _ => False) (kc' := 0) (ks' := 0) (As := [.int (2 : Int32)]) (rest := []) rfl (c_X9_fails l v S157 x0 (2 : Int32)) mw_X9_fails bw_1021 bw_1023 bw_p31 (fit_of rfl) rfl rfl (Nat.le_of_ble_eq_true rfl) (by decide) rfl o201 dX9_event_80 h (fun r203 S202 h => ?_) (fun En S9 h => h.elim)
                exact z_iret C (pc := 83) T dX9_event_83 (by decide) (by decide) h
      · refine z_iconst C (pc := 27) (x := (0 : Int32)) dX9_event_27 kic_0 ?_
        exact z_iret C (pc := 28) T dX9_event_28 (by decide) (by decide) h
def wp_X9_isEvent (S : Hp) (x0 : Nat) (x1 : Int32) (Q : Int32 → Hp → Prop) : Prop :=
  okA S 9 x0 ∧ (wp_X9_in S x1 (0 : Int32) ((g_I S 926 x0) - (1 : Int32)) (fun r3 S2 => bz r3 (Q r3 S2)))
def rm_X9_isEvent : Room := { frames := 1, cells := 0, slots := 0, locals := 22 }
set_option maxHeartbeats 4000000 in
set_option maxRecDepth 100000 in
theorem c_X9_isEvent (l : Launch) (v : Ev) (S : Hp) (x0 : Nat) (x1 : Int32) : CI l v yX9_isEvent cX9_isEvent 2 (some .boolean) rm_X9_isEvent [va_rf (some x0), .int x1] S (fun Q _ => wp_X9_isEvent S x0 x1 Q) := by
  intro Q EQ h
  refine z_start [(0, va_rf (some x0)), (1, .int x1)] (by decide +kernel) (by simp only [la_i, la_r, la_n]) (cat_cr (cat_ci cat_nil)) (by simp only [ls_i, ls_r, ls_n]; decide) (fun z C N T => ?_)
  unfold wp_X9_isEvent at h
  refine z_iload_n C (pc := 0) dX9_isEvent_0 1 rfl ?_
  refine z_iconst C (pc := 1) (x := (0 : Int32)) dX9_isEvent_1 kic_0 ?_
  refine z_aload_n C (pc := 2) dX9_isEvent_2 0 rfl ?_
  obtain ⟨o1, h⟩ := h
  refine z_getI C (pc := 3) kf9 26 (by decide) rfl bw_934 (fun _ _ _ _ h => h) dX9_isEvent_3 rfl o1 ?_
  refine z_iconst C (pc := 6) (x := (1 : Int32)) dX9_isEvent_6 kic_1 ?_
  refine z_isub C (pc := 7) dX9_isEvent_7 ?_
  refine z_Si C (pc := 8) (KX := fun _ _ => False) (kc' := 0) (ks' := 0) (As := [.int x1, .int (0 : Int32), .int ((g_I S 926 x0) - (1 : Int32))]) (rest := []) (c_X9_in l v S x1 (0 : Int32) ((g_I S 926 x0) - (1 : Int32))) mw_X9_in bw_1014 bw_1015 (fit_of rfl) rfl rfl (Nat.le_of_ble_eq_true rfl) dX9_isEvent_8 h (fun r3 S2 h => ?_) (fun En S9 h => h.elim)
  exact z_zret C (pc := 11) T dX9_isEvent_11 (by decide) (by decide) h
def wp_X9_meet (S : Hp) (x0 : Nat) (x1 : Int32) (x2 : Int32) (Q : Int32 → Hp → Prop) : Prop :=
  lt ((6 : Int32) * x1) (fun y1 => lt ((6 : Int32) * x2) (fun y2 => okA S 9 x0 ∧ (rd S 11 (g_P S 927 x0) (fun a4 => vp_in (y1 + (3 : Int32)) (g_N S a4) ∧ (rd S 11 (g_P S 927 x0) (fun a8 => vp_in (y2 + (3 : Int32)) (g_N S a8) ∧ (if (g_R S a4 (y1 + (3 : Int32)).toNatClampNeg) = (g_R S a8 (y2 + (3 : Int32)).toNatClampNeg) then (rd S 11 (g_P S 927 x0) (fun a12 => vp_in (y1 + (4 : Int32)) (g_N S a12) ∧ (rd S 11 (g_P S 927 x0) (fun a16 => vp_in (y2 + (4 : Int32)) (g_N S a16) ∧ (rd S 11 (g_P S 927 x0) (fun a20 => vp_in (y2 + (5 : Int32)) (g_N S a20) ∧ (if ((g_R S a16 (y2 + (4 : Int32)).toNatClampNeg) + (g_R S a20 (y2 + (5 : Int32)).toNatClampNeg)) ≤ (g_R S a12 (y1 + (4 : Int32)).toNatClampNeg) then (bz (0 : Int32) (Q (0 : Int32) S)) else (rd S 11 (g_P S 927 x0) (fun a24 => vp_in (y2 + (4 : Int32)) (g_N S a24) ∧ (rd S 11 (g_P S 927 x0) (fun a28 => vp_in (y1 + (4 : Int32)) (g_N S a28) ∧ (rd S 11 (g_P S 927 x0) (fun a32 => vp_in (y1 + (5 : Int32)) (g_N S a32) ∧ (if ((g_R S a28 (y1 + (4 : Int32)).toNatClampNeg) + (g_R S a32 (y1 + (5 : Int32)).toNatClampNeg)) ≤ (g_R S a24 (y2 + (4 : Int32)).toNatClampNeg) then (bz (0 : Int32) (Q (0 : Int32) S)) else (bz (1 : Int32) (Q (1 : Int32) S)))))))))))))))) else (bz (0 : Int32) (Q (0 : Int32) S)))))))))
def rm_X9_meet : Room := { frames := 0, cells := 0, slots := 0, locals := 0 }
set_option maxHeartbeats 4000000 in
set_option maxRecDepth 100000 in
theorem c_X9_meet (l : Launch) (v : Ev) (S : Hp) (x0 : Nat) (x1 : Int32) (x2 : Int32) : CI l v yX9_meet cX9_meet 5 (some .boolean) rm_X9_meet [va_rf (some x0), .int x1, .int x2] S (fun Q _ => wp_X9_meet S x0 x1 x2 Q) := by
  intro Q EQ h
  refine z_start [(0, va_rf (some x0)), (1, .int x1), (2, .int x2)] (by decide +kernel) (by simp only [la_i, la_r, la_n]) (cat_cr (cat_ci (cat_ci cat_nil))) (by simp only [ls_i, ls_r, ls_n]; decide) (fun z C N T => ?_)
  unfold wp_X9_meet at h
  refine z_bipush C (pc := 0) (x := (6 : Int32)) dX9_meet_0 kbp_6 ?_
  refine z_iload_n C (pc := 2) dX9_meet_2 1 rfl ?_
  refine z_imul C (pc := 3) dX9_meet_3 ?_
  refine z_nI h (fun y1 h => ?_)
  refine z_istore_n C (pc := 4) (lv' := [(3, .int y1), (0, va_rf (some x0)), (1, .int x1), (2, .int x2)]) dX9_meet_4 (by decide) rfl ?_
  refine z_bipush C (pc := 5) (x := (6 : Int32)) dX9_meet_5 kbp_6 ?_
  refine z_iload_n C (pc := 7) dX9_meet_7 3 rfl ?_
  refine z_imul C (pc := 8) dX9_meet_8 ?_
  refine z_nI h (fun y2 h => ?_)
  refine z_istore C (pc := 9) (lv' := [(4, .int y2), (3, .int y1), (0, va_rf (some x0)), (1, .int x1), (2, .int x2)]) dX9_meet_9 (by decide) rfl ?_
  refine z_aload_n C (pc := 11) dX9_meet_11 2 rfl ?_
  obtain ⟨o3, h⟩ := h
  refine z_getP C (pc := 12) kf9 27 (by decide) rfl bw_935 (fun _ _ _ _ h => h) dX9_meet_12 rfl o3 ?_
  refine z_iload_n C (pc := 15) dX9_meet_15 1 rfl ?_
  refine z_iconst C (pc := 16) (x := (3 : Int32)) dX9_meet_16 kic_3 ?_
  refine z_iadd C (pc := 17) dX9_meet_17 ?_
  obtain ⟨a4, e5, o6, h⟩ := h
  obtain ⟨v7, h⟩ := h
  refine z_iald C (pc := 18) dX9_meet_18 e5 o6 v7 ?_
  refine z_aload_n C (pc := 19) dX9_meet_19 2 rfl ?_
  refine z_getP C (pc := 20) kf9 27 (by decide) rfl bw_935 (fun _ _ _ _ h => h) dX9_meet_20 rfl o3 ?_
  refine z_iload C (pc := 23) dX9_meet_23 0 rfl ?_
  refine z_iconst C (pc := 25) (x := (3 : Int32)) dX9_meet_25 kic_3 ?_
  refine z_iadd C (pc := 26) dX9_meet_26 ?_
  obtain ⟨a8, e9, o10, h⟩ := h
  obtain ⟨v11, h⟩ := h
  refine z_iald C (pc := 27) dX9_meet_27 e9 o10 v11 ?_
  refine z_icmp_ne C (pc := 28) (tgt := 94) dX9_meet_28 (by decide) h (fun h => ?_) (fun h => ?_)
  · refine z_iconst C (pc := 94) (x := (0 : Int32)) dX9_meet_94 kic_0 ?_
    exact z_zret C (pc := 95) T dX9_meet_95 (by decide) (by decide) h
  · refine z_aload_n C (pc := 31) dX9_meet_31 2 rfl ?_
    refine z_getP C (pc := 32) kf9 27 (by decide) rfl bw_935 (fun _ _ _ _ h => h) dX9_meet_32 rfl o3 ?_
    refine z_iload_n C (pc := 35) dX9_meet_35 1 rfl ?_
    refine z_iconst C (pc := 36) (x := (4 : Int32)) dX9_meet_36 kic_4 ?_
    refine z_iadd C (pc := 37) dX9_meet_37 ?_
    obtain ⟨a12, e13, o14, h⟩ := h
    obtain ⟨v15, h⟩ := h
    refine z_iald C (pc := 38) dX9_meet_38 e13 o14 v15 ?_
    refine z_aload_n C (pc := 39) dX9_meet_39 2 rfl ?_
    refine z_getP C (pc := 40) kf9 27 (by decide) rfl bw_935 (fun _ _ _ _ h => h) dX9_meet_40 rfl o3 ?_
    refine z_iload C (pc := 43) dX9_meet_43 0 rfl ?_
    refine z_iconst C (pc := 45) (x := (4 : Int32)) dX9_meet_45 kic_4 ?_
    refine z_iadd C (pc := 46) dX9_meet_46 ?_
    obtain ⟨a16, e17, o18, h⟩ := h
    obtain ⟨v19, h⟩ := h
    refine z_iald C (pc := 47) dX9_meet_47 e17 o18 v19 ?_
    refine z_aload_n C (pc := 48) dX9_meet_48 2 rfl ?_
    refine z_getP C (pc := 49) kf9 27 (by decide) rfl bw_935 (fun _ _ _ _ h => h) dX9_meet_49 rfl o3 ?_
    refine z_iload C (pc := 52) dX9_meet_52 0 rfl ?_
    refine z_iconst C (pc := 54) (x := (5 : Int32)) dX9_meet_54 kic_5 ?_
    refine z_iadd C (pc := 55) dX9_meet_55 ?_
    obtain ⟨a20, e21, o22, h⟩ := h
    obtain ⟨v23, h⟩ := h
    refine z_iald C (pc := 56) dX9_meet_56 e21 o22 v23 ?_
    refine z_iadd C (pc := 57) dX9_meet_57 ?_
    refine z_icmp_ge C (pc := 58) (tgt := 94) dX9_meet_58 (by decide) h (fun h => ?_) (fun h => ?_)
    · refine z_iconst C (pc := 94) (x := (0 : Int32)) dX9_meet_94 kic_0 ?_
      exact z_zret C (pc := 95) T dX9_meet_95 (by decide) (by decide) h
    · refine z_aload_n C (pc := 61) dX9_meet_61 2 rfl ?_
      refine z_getP C (pc := 62) kf9 27 (by decide) rfl bw_935 (fun _ _ _ _ h => h) dX9_meet_62 rfl o3 ?_
      refine z_iload C (pc := 65) dX9_meet_65 0 rfl ?_
      refine z_iconst C (pc := 67) (x := (4 : Int32)) dX9_meet_67 kic_4 ?_
      refine z_iadd C (pc := 68) dX9_meet_68 ?_
      obtain ⟨a24, e25, o26, h⟩ := h
      obtain ⟨v27, h⟩ := h
      refine z_iald C (pc := 69) dX9_meet_69 e25 o26 v27 ?_
      refine z_aload_n C (pc := 70) dX9_meet_70 2 rfl ?_
      refine z_getP C (pc := 71) kf9 27 (by decide) rfl bw_935 (fun _ _ _ _ h => h) dX9_meet_71 rfl o3 ?_
      refine z_iload_n C (pc := 74) dX9_meet_74 1 rfl ?_
      refine z_iconst C (pc := 75) (x := (4 : Int32)) dX9_meet_75 kic_4 ?_
      refine z_iadd C (pc := 76) dX9_meet_76 ?_
      obtain ⟨a28, e29, o30, h⟩ := h
      obtain ⟨v31, h⟩ := h
      refine z_iald C (pc := 77) dX9_meet_77 e29 o30 v31 ?_
      refine z_aload_n C (pc := 78) dX9_meet_78 2 rfl ?_
      refine z_getP C (pc := 79) kf9 27 (by decide) rfl bw_935 (fun _ _ _ _ h => h) dX9_meet_79 rfl o3 ?_
      refine z_iload_n C (pc := 82) dX9_meet_82 1 rfl ?_
      refine z_iconst C (pc := 83) (x := (5 : Int32)) dX9_meet_83 kic_5 ?_
      refine z_iadd C (pc := 84) dX9_meet_84 ?_
      obtain ⟨a32, e33, o34, h⟩ := h
      obtain ⟨v35, h⟩ := h
      refine z_iald C (pc := 85) dX9_meet_85 e33 o34 v35 ?_
      refine z_iadd C (pc := 86) dX9_meet_86 ?_
      refine z_icmp_ge C (pc := 87) (tgt := 94) dX9_meet_87 (by decide) h (fun h => ?_) (fun h => ?_)
      · refine z_iconst C (pc := 94) (x := (0 : Int32)) dX9_meet_94 kic_0 ?_
        exact z_zret C (pc := 95) T dX9_meet_95 (by decide) (by decide) h
      · refine z_iconst C (pc := 90) (x := (1 : Int32)) dX9_meet_90 kic_1 ?_
        refine z_goto C (pc := 91) (tgt := 95) dX9_meet_91 (by decide) ?_
        exact z_zret C (pc := 95) T dX9_meet_95 (by decide) (by decide) h
def wp_X9_staff_L36 (f0 : Nat) (f1 : Int32) (f2 : Int32) (f3 : Int32) (Q : Int32 → Hp → Prop) : Nat → Hp → Int32 → Int32 → Prop
  | 0, _, _, _ => False
  | n + 1, S, w4, w5 => okA S 9 f0 ∧ (if (g_I S 926 f0) ≤ w5 then (if f3 = 0 then (if f3 = 0 then (rd S 11 (g_P S 928 f0) (fun a8 => vp_in f1 (g_N S a8) ∧ (rd S 11 (g_P S 928 f0) (fun a12 => vp_in f1 (g_N S a12) ∧ (lt (s_R S a12 f1.toNatClampNeg ((g_R S a8 f1.toNatClampNeg) &&& (((1 : Int32) <<< (f2 &&& 31)) ^^^ (-1 : Int32)))) (fun S16 => okA S16 9 f0 ∧ (rd S16 11 (g_P S16 928 f0) (fun a18 => vp_in f1 (g_N S16 a18) ∧ (wp_X9_ones S16 (g_R S16 a18 f1.toNatClampNeg) (fun r23 S22 => Q r23 S22)))))))))) else (rd S 11 (g_P S 928 f0) (fun a24 => vp_in f1 (g_N S a24) ∧ (rd S 11 (g_P S 928 f0) (fun a28 => vp_in f1 (g_N S a28) ∧ (lt (s_R S a28 f1.toNatClampNeg ((g_R S a24 f1.toNatClampNeg) ||| ((1 : Int32) <<< (f2 &&& 31)))) (fun S32 => okA S32 9 f0 ∧ (rd S32 11 (g_P S32 928 f0) (fun a34 => vp_in f1 (g_N S32 a34) ∧ (wp_X9_ones S32 (g_R S32 a34 f1.toNatClampNeg) (fun r39 S38 => Q r39 S38))))))))))) else (if w4 = 0 then (if f3 = 0 then (rd S 11 (g_P S 928 f0) (fun a40 => vp_in f1 (g_N S a40) ∧ (rd S 11 (g_P S 928 f0) (fun a44 => vp_in f1 (g_N S a44) ∧ (lt (s_R S a44 f1.toNatClampNeg ((g_R S a40 f1.toNatClampNeg) &&& (((1 : Int32) <<< (f2 &&& 31)) ^^^ (-1 : Int32)))) (fun S48 => okA S48 9 f0 ∧ (rd S48 11 (g_P S48 928 f0) (fun a50 => vp_in f1 (g_N S48 a50) ∧ (wp_X9_ones S48 (g_R S48 a50 f1.toNatClampNeg) (fun r55 S54 => Q r55 S54)))))))))) else (rd S 11 (g_P S 928 f0) (fun a56 => vp_in f1 (g_N S a56) ∧ (rd S 11 (g_P S 928 f0) (fun a60 => vp_in f1 (g_N S a60) ∧ (lt (s_R S a60 f1.toNatClampNeg ((g_R S a56 f1.toNatClampNeg) ||| ((1 : Int32) <<< (f2 &&& 31)))) (fun S64 => okA S64 9 f0 ∧ (rd S64 11 (g_P S64 928 f0) (fun a66 => vp_in f1 (g_N S64 a66) ∧ (wp_X9_ones S64 (g_R S64 a66 f1.toNatClampNeg) (fun r71 S70 => Q r71 S70))))))))))) else (wp_X9_fails S f0 (2 : Int32) (fun r73 S72 => Q r73 S72)))) else (if w4 = 0 then (if w5 = f1 then (wp_X9_staff_L36 f0 f1 f2 f3 Q n S (0 : Int32) (w5 + (1 : Int32))) else (rd S 11 (g_P S 928 f0) (fun a74 => vp_in w5 (g_N S a74) ∧ (if (((g_R S a74 w5.toNatClampNeg) >>> (f2 &&& 31)) &&& (1 : Int32)) = (1 : Int32) then (wp_X9_meet S f0 w5 f1 (fun r79 S78 => if r79 = 0 then (wp_X9_staff_L36 f0 f1 f2 f3 Q n S78 (0 : Int32) (w5 + (1 : Int32))) else (wp_X9_staff_L36 f0 f1 f2 f3 Q n S78 (1 : Int32) (w5 + (1 : Int32))))) else (wp_X9_staff_L36 f0 f1 f2 f3 Q n S (0 : Int32) (w5 + (1 : Int32))))))) else (wp_X9_staff_L36 f0 f1 f2 f3 Q n S (1 : Int32) (w5 + (1 : Int32)))))
def wp_X9_staff (S : Hp) (x0 : Nat) (x1 : Int32) (x2 : Int32) (x3 : Int32) (Q : Int32 → Hp → Prop) : Prop :=
  okA S 9 x0 ∧ (wp_X9_isEvent S x0 x1 (fun r3 S2 => if r3 = 0 then (okA S2 9 x0 ∧ (wp_X9_asks S2 x0 (0 : Int32) (fun r6 S5 => if r6 = 0 then (Q (0 : Int32) S5) else (∃ n80, wp_X9_staff_L36 x0 x1 x2 x3 Q n80 S5 (0 : Int32) (0 : Int32))))) else (okA S2 9 x0 ∧ (wp_X9_isLeader S2 x0 x2 (fun r83 S82 => if r83 = 0 then (okA S82 9 x0 ∧ (wp_X9_asks S82 x0 (0 : Int32) (fun r86 S85 => if r86 = 0 then (Q (0 : Int32) S85) else (∃ n87, wp_X9_staff_L36 x0 x1 x2 x3 Q n87 S85 (0 : Int32) (0 : Int32))))) else (okA S82 9 x0 ∧ (wp_X9_asks S82 x0 (1 : Int32) (fun r90 S89 => if r90 = 0 then (Q (0 : Int32) S89) else (∃ n91, wp_X9_staff_L36 x0 x1 x2 x3 Q n91 S89 (0 : Int32) (0 : Int32))))))))))
def rm_X9_staff : Room := { frames := 2, cells := 0, slots := 0, locals := 43 }
set_option maxHeartbeats 4000000 in
set_option maxRecDepth 100000 in
theorem l_X9_staff_L36 (l : Launch) (v : Ev) (f0 : Nat) (f1 : Int32) (f2 : Int32) (f3 : Int32) (Q : Int32 → Hp → Prop) {EQ : String → Hp → Prop} {z : Z9} (C : Cx l v RX9 cX9_staff 6 (some .int) "staff" z) (N : NT z) (T : EE v rm_X9_staff (QI v Q) EQ z) : ∀ (n : Nat) (S : Hp) (w4 : Int32) (w5 : Int32), wp_X9_staff_L36 f0 f1 f2 f3 Q n S w4 w5 → ZZ l v 6 rm_X9_staff z 0 0 S 36 [(0, va_rf (some f0)), (1, .int f1), (2, .int f2), (3, .int f3), (4, .int w4), (5, .int w5)] [] := by
  intro n
  induction n with
  | zero =>
    intro S w4 w5 h
    exact h.elim
  | succ n ih =>
    intro S w4 w5 h
    unfold wp_X9_staff_L36 at h
    refine z_iload C (pc := 36) dX9_staff_36 5 rfl ?_
    refine z_aload_n C (pc := 38) dX9_staff_38 0 rfl ?_
    obtain ⟨o7, h⟩ := h
    refine z_getI C (pc := 39) kf9 26 (by decide) rfl bw_934 (fun _ _ _ _ h => h) dX9_staff_39 rfl o7 ?_
    refine z_icmp_ge C (pc := 42) (tgt := 94) dX9_staff_42 (by decide) h (fun h => ?_) (fun h => ?_)
    · refine z_iload_n C (pc := 94) dX9_staff_94 3 rfl ?_
      refine z_if_eq C (pc := 95) (tgt := 109) dX9_staff_95 (by decide) h (fun h => ?_) (fun h => ?_)
      · refine z_aload_n C (pc := 109) dX9_staff_109 0 rfl ?_
        refine z_getP C (pc := 110) kf9 28 (by decide) rfl bw_936 (fun _ _ _ _ h => h) dX9_staff_110 rfl o7 ?_
        refine z_iload_n C (pc := 113) dX9_staff_113 1 rfl ?_
        refine z_iload_n C (pc := 114) dX9_staff_114 3 rfl ?_
        refine z_if_eq C (pc := 115) (tgt := 131) dX9_staff_115 (by decide) h (fun h => ?_) (fun h => ?_)
        · refine z_aload_n C (pc := 131) dX9_staff_131 0 rfl ?_
          refine z_getP C (pc := 132) kf9 28 (by decide) rfl bw_936 (fun _ _ _ _ h => h) dX9_staff_132 rfl o7 ?_
          refine z_iload_n C (pc := 135) dX9_staff_135 1 rfl ?_
          obtain ⟨a8, e9, o10, h⟩ := h
          obtain ⟨v11, h⟩ := h
          refine z_iald C (pc := 136) dX9_staff_136 e9 o10 v11 ?_
          refine z_iconst C (pc := 137) (x := (1 : Int32)) dX9_staff_137 kic_1 ?_
          refine z_iload_n C (pc := 138) dX9_staff_138 2 rfl ?_
          refine z_ishl C (pc := 139) dX9_staff_139 ?_
          refine z_iconst C (pc := 140) (x := (-1 : Int32)) dX9_staff_140 kic_m1 ?_
          refine z_ixor C (pc := 141) dX9_staff_141 ?_
          refine z_iand C (pc := 142) dX9_staff_142 ?_
          obtain ⟨a12, e13, o14, h⟩ := h
          obtain ⟨v15, h⟩ := h
          refine z_iast C (pc := 143) dX9_staff_143 e13 o14 v15 ?_
          refine z_lt h (fun S16 h => ?_)
          refine z_aload_n C (pc := 144) dX9_staff_144 0 rfl ?_
          obtain ⟨o17, h⟩ := h
          refine z_getP C (pc := 145) kf9 28 (by decide) rfl bw_936 (fun _ _ _ _ h => h) dX9_staff_145 rfl o17 ?_
          refine z_iload_n C (pc := 148) dX9_staff_148 1 rfl ?_
          obtain ⟨a18, e19, o20, h⟩ := h
          obtain ⟨v21, h⟩ := h
          refine z_iald C (pc := 149) dX9_staff_149 e19 o20 v21 ?_
          refine z_Si C (pc := 150) (KX := fun _ _ => False) (kc' := 0) (ks' := 0) (As := [.int (g_R S16 a18 f1.toNatClampNeg)]) (rest := []) (c_X9_ones l v S16 (g_R S16 a18 f1.toNatClampNeg)) mw_X9_ones bw_1134 bw_1135 (fit_of rfl) rfl rfl (Nat.le_of_ble_eq_true rfl) dX9_staff_150 h (fun r23 S22 h => ?_) (fun En S9 h => h.elim)
          exact z_iret C (pc := 153) T dX9_staff_153 (by decide) (by decide) h
        · refine z_aload_n C (pc := 118) dX9_staff_118 0 rfl ?_
          refine z_getP C (pc := 119) kf9 28 (by decide) rfl bw_936 (fun _ _ _ _ h => h) dX9_staff_119 rfl o7 ?_
          refine z_iload_n C (pc := 122) dX9_staff_122 1 rfl ?_
          obtain ⟨a24, e25, o26, h⟩ := h
          obtain ⟨v27, h⟩ := h
          refine z_iald C (pc := 123) dX9_staff_123 e25 o26 v27 ?_
          refine z_iconst C (pc := 124) (x := (1 : Int32)) dX9_staff_124 kic_1 ?_
          refine z_iload_n C (pc := 125) dX9_staff_125 2 rfl ?_
          refine z_ishl C (pc := 126) dX9_staff_126 ?_
          refine z_ior C (pc := 127) dX9_staff_127 ?_
          refine z_goto C (pc := 128) (tgt := 143) dX9_staff_128 (by decide) ?_
          obtain ⟨a28, e29, o30, h⟩ := h
          obtain ⟨v31, h⟩ := h
          refine z_iast C (pc := 143) dX9_staff_143 e29 o30 v31 ?_
          refine z_lt h (fun S32 h => ?_)
          refine z_aload_n C (pc := 144) dX9_staff_144 0 rfl ?_
          obtain ⟨o33, h⟩ := h
          refine z_getP C (pc := 145) kf9 28 (by decide) rfl bw_936 (fun _ _ _ _ h => h) dX9_staff_145 rfl o33 ?_
          refine z_iload_n C (pc := 148) dX9_staff_148 1 rfl ?_
          obtain ⟨a34, e35, o36, h⟩ := h
          obtain ⟨v37, h⟩ := h
          refine z_iald C (pc := 149) dX9_staff_149 e35 o36 v37 ?_
          refine z_Si C (pc := 150) (KX := fun _ _ => False) (kc' := 0) (ks' := 0) (As := [.int (g_R S32 a34 f1.toNatClampNeg)]) (rest := []) (c_X9_ones l v S32 (g_R S32 a34 f1.toNatClampNeg)) mw_X9_ones bw_1134 bw_1135 (fit_of rfl) rfl rfl (Nat.le_of_ble_eq_true rfl) dX9_staff_150 h (fun r39 S38 h => ?_) (fun En S9 h => h.elim)
          exact z_iret C (pc := 153) T dX9_staff_153 (by decide) (by decide) h
      · refine z_iload C (pc := 98) dX9_staff_98 4 rfl ?_
        refine z_if_eq C (pc := 100) (tgt := 109) dX9_staff_100 (by decide) h (fun h => ?_) (fun h => ?_)
        · refine z_aload_n C (pc := 109) dX9_staff_109 0 rfl ?_
          refine z_getP C (pc := 110) kf9 28 (by decide) rfl bw_936 (fun _ _ _ _ h => h) dX9_staff_110 rfl o7 ?_
          refine z_iload_n C (pc := 113) dX9_staff_113 1 rfl ?_
          refine z_iload_n C (pc := 114) dX9_staff_114 3 rfl ?_
          refine z_if_eq C (pc := 115) (tgt := 131) dX9_staff_115 (by decide) h (fun h => ?_) (fun h => ?_)
          · refine z_aload_n C (pc := 131) dX9_staff_131 0 rfl ?_
            refine z_getP C (pc := 132) kf9 28 (by decide) rfl bw_936 (fun _ _ _ _ h => h) dX9_staff_132 rfl o7 ?_
            refine z_iload_n C (pc := 135) dX9_staff_135 1 rfl ?_
            obtain ⟨a40, e41, o42, h⟩ := h
            obtain ⟨v43, h⟩ := h
            refine z_iald C (pc := 136) dX9_staff_136 e41 o42 v43 ?_
            refine z_iconst C (pc := 137) (x := (1 : Int32)) dX9_staff_137 kic_1 ?_
            refine z_iload_n C (pc := 138) dX9_staff_138 2 rfl ?_
            refine z_ishl C (pc := 139) dX9_staff_139 ?_
            refine z_iconst C (pc := 140) (x := (-1 : Int32)) dX9_staff_140 kic_m1 ?_
            refine z_ixor C (pc := 141) dX9_staff_141 ?_
            refine z_iand C (pc := 142) dX9_staff_142 ?_
            obtain ⟨a44, e45, o46, h⟩ := h
            obtain ⟨v47, h⟩ := h
            refine z_iast C (pc := 143) dX9_staff_143 e45 o46 v47 ?_
            refine z_lt h (fun S48 h => ?_)
            refine z_aload_n C (pc := 144) dX9_staff_144 0 rfl ?_
            obtain ⟨o49, h⟩ := h
            refine z_getP C (pc := 145) kf9 28 (by decide) rfl bw_936 (fun _ _ _ _ h => h) dX9_staff_145 rfl o49 ?_
            refine z_iload_n C (pc := 148) dX9_staff_148 1 rfl ?_
            obtain ⟨a50, e51, o52, h⟩ := h
            obtain ⟨v53, h⟩ := h
            refine z_iald C (pc := 149) dX9_staff_149 e51 o52 v53 ?_
            refine z_Si C (pc := 150) (KX := fun _ _ => False) (kc' := 0) (ks' := 0) (As := [.int (g_R S48 a50 f1.toNatClampNeg)]) (rest := []) (c_X9_ones l v S48 (g_R S48 a50 f1.toNatClampNeg)) mw_X9_ones bw_1134 bw_1135 (fit_of rfl) rfl rfl (Nat.le_of_ble_eq_true rfl) dX9_staff_150 h (fun r55 S54 h => ?_) (fun En S9 h => h.elim)
            exact z_iret C (pc := 153) T dX9_staff_153 (by decide) (by decide) h
          · refine z_aload_n C (pc := 118) dX9_staff_118 0 rfl ?_
            refine z_getP C (pc := 119) kf9 28 (by decide) rfl bw_936 (fun _ _ _ _ h => h) dX9_staff_119 rfl o7 ?_
            refine z_iload_n C (pc := 122) dX9_staff_122 1 rfl ?_
            obtain ⟨a56, e57, o58, h⟩ := h
            obtain ⟨v59, h⟩ := h
            refine z_iald C (pc := 123) dX9_staff_123 e57 o58 v59 ?_
            refine z_iconst C (pc := 124) (x := (1 : Int32)) dX9_staff_124 kic_1 ?_
            refine z_iload_n C (pc := 125) dX9_staff_125 2 rfl ?_
            refine z_ishl C (pc := 126) dX9_staff_126 ?_
            refine z_ior C (pc := 127) dX9_staff_127 ?_
            refine z_goto C (pc := 128) (tgt := 143) dX9_staff_128 (by decide) ?_
            obtain ⟨a60, e61, o62, h⟩ := h
            obtain ⟨v63, h⟩ := h
            refine z_iast C (pc := 143) dX9_staff_143 e61 o62 v63 ?_
            refine z_lt h (fun S64 h => ?_)
            refine z_aload_n C (pc := 144) dX9_staff_144 0 rfl ?_
            obtain ⟨o65, h⟩ := h
            refine z_getP C (pc := 145) kf9 28 (by decide) rfl bw_936 (fun _ _ _ _ h => h) dX9_staff_145 rfl o65 ?_
            refine z_iload_n C (pc := 148) dX9_staff_148 1 rfl ?_
            obtain ⟨a66, e67, o68, h⟩ := h
            obtain ⟨v69, h⟩ := h
            refine z_iald C (pc := 149) dX9_staff_149 e67 o68 v69 ?_
            refine z_Si C (pc := 150) (KX := fun _ _ => False) (kc' := 0) (ks' := 0) (As := [.int (g_R S64 a66 f1.toNatClampNeg)]) (rest := []) (c_X9_ones l v S64 (g_R S64 a66 f1.toNatClampNeg)) mw_X9_ones bw_1134 bw_1135 (fit_of rfl) rfl rfl (Nat.le_of_ble_eq_true rfl) dX9_staff_150 h (fun r71 S70 h => ?_) (fun En S9 h => h.elim)
            exact z_iret C (pc := 153) T dX9_staff_153 (by decide) (by decide) h
        · refine z_aload_n C (pc := 103) dX9_staff_103 0 rfl ?_
          refine z_iconst C (pc := 104) (x := (2 : Int32)) dX9_staff_104 kic_2 ?_
          refine z_Vi C (pc := 105) (KX := fun _ _ => False) (kc' := 0) (ks' := 0) (As := [.int (2 : Int32)]) (rest := []) rfl (c_X9_fails l v S f0 (2 : Int32)) mw_X9_fails bw_1021 bw_1023 bw_p31 (fit_of rfl) rfl rfl (Nat.le_of_ble_eq_true rfl) (by decide) rfl o7 dX9_staff_105 h (fun r73 S72 h => ?_) (fun En S9 h => h.elim)
          exact z_iret C (pc := 108) T dX9_staff_108 (by decide) (by decide) h
    · refine z_iload C (pc := 45) dX9_staff_45 4 rfl ?_
      refine z_if_ne C (pc := 47) (tgt := 81) dX9_staff_47 (by decide) h (fun h => ?_) (fun h => ?_)
      · refine z_iconst C (pc := 81) (x := (1 : Int32)) dX9_staff_81 kic_1 ?_
        refine z_goto C (pc := 82) (tgt := 86) dX9_staff_82 (by decide) ?_
        refine z_istore C (pc := 86) (lv' := [(4, .int (1 : Int32)), (0, va_rf (some f0)), (1, .int f1), (2, .int f2), (3, .int f3), (5, .int w5)]) dX9_staff_86 (by decide) rfl ?_
        refine z_iinc C (pc := 88) (y := w5 + (1 : Int32)) (lv' := [(5, .int (w5 + (1 : Int32))), (4, .int (1 : Int32)), (0, va_rf (some f0)), (1, .int f1), (2, .int f2), (3, .int f3)]) dX9_staff_88 5 rfl rfl (by decide) rfl ?_
        refine z_goto C (pc := 91) (tgt := 36) dX9_staff_91 (by decide) ?_
        refine z_sub [2, 3, 4, 5, 1, 0] (lv' := [(0, va_rf (some f0)), (1, .int f1), (2, .int f2), (3, .int f3), (4, .int (1 : Int32)), (5, .int (w5 + (1 : Int32)))]) rfl ?_
        exact ih S (1 : Int32) (w5 + (1 : Int32)) h
      · refine z_iload C (pc := 50) dX9_staff_50 5 rfl ?_
        refine z_iload_n C (pc := 52) dX9_staff_52 1 rfl ?_
        refine z_icmp_eq C (pc := 53) (tgt := 85) dX9_staff_53 (by decide) h (fun h => ?_) (fun h => ?_)
        · refine z_iconst C (pc := 85) (x := (0 : Int32)) dX9_staff_85 kic_0 ?_
          refine z_istore C (pc := 86) (lv' := [(4, .int (0 : Int32)), (0, va_rf (some f0)), (1, .int f1), (2, .int f2), (3, .int f3), (5, .int w5)]) dX9_staff_86 (by decide) rfl ?_
          refine z_iinc C (pc := 88) (y := w5 + (1 : Int32)) (lv' := [(5, .int (w5 + (1 : Int32))), (4, .int (0 : Int32)), (0, va_rf (some f0)), (1, .int f1), (2, .int f2), (3, .int f3)]) dX9_staff_88 5 rfl rfl (by decide) rfl ?_
          refine z_goto C (pc := 91) (tgt := 36) dX9_staff_91 (by decide) ?_
          refine z_sub [2, 3, 4, 5, 1, 0] (lv' := [(0, va_rf (some f0)), (1, .int f1), (2, .int f2), (3, .int f3), (4, .int (0 : Int32)), (5, .int (w5 + (1 : Int32)))]) rfl ?_
          exact ih S (0 : Int32) (w5 + (1 : Int32)) h
        · refine z_aload_n C (pc := 56) dX9_staff_56 0 rfl ?_
          refine z_getP C (pc := 57) kf9 28 (by decide) rfl bw_936 (fun _ _ _ _ h => h) dX9_staff_57 rfl o7 ?_
          refine z_iload C (pc := 60) dX9_staff_60 5 rfl ?_
          obtain ⟨a74, e75, o76, h⟩ := h
          obtain ⟨v77, h⟩ := h
          refine z_iald C (pc := 62) dX9_staff_62 e75 o76 v77 ?_
          refine z_iload_n C (pc := 63) dX9_staff_63 2 rfl ?_
          refine z_ishr C (pc := 64) dX9_staff_64 ?_
          refine z_iconst C (pc := 65) (x := (1 : Int32)) dX9_staff_65 kic_1 ?_
          refine z_iand C (pc := 66) dX9_staff_66 ?_
          refine z_iconst C (pc := 67) (x := (1 : Int32)) dX9_staff_67 kic_1 ?_
          refine z_icmp_ne C (pc := 68) (tgt := 85) dX9_staff_68 (by decide) h (fun h => ?_) (fun h => ?_)
          · refine z_iconst C (pc := 85) (x := (0 : Int32)) dX9_staff_85 kic_0 ?_
            refine z_istore C (pc := 86) (lv' := [(4, .int (0 : Int32)), (0, va_rf (some f0)), (1, .int f1), (2, .int f2), (3, .int f3), (5, .int w5)]) dX9_staff_86 (by decide) rfl ?_
            refine z_iinc C (pc := 88) (y := w5 + (1 : Int32)) (lv' := [(5, .int (w5 + (1 : Int32))), (4, .int (0 : Int32)), (0, va_rf (some f0)), (1, .int f1), (2, .int f2), (3, .int f3)]) dX9_staff_88 5 rfl rfl (by decide) rfl ?_
            refine z_goto C (pc := 91) (tgt := 36) dX9_staff_91 (by decide) ?_
            refine z_sub [2, 3, 4, 5, 1, 0] (lv' := [(0, va_rf (some f0)), (1, .int f1), (2, .int f2), (3, .int f3), (4, .int (0 : Int32)), (5, .int (w5 + (1 : Int32)))]) rfl ?_
            exact ih S (0 : Int32) (w5 + (1 : Int32)) h
          · refine z_aload_n C (pc := 71) dX9_staff_71 0 rfl ?_
            refine z_iload C (pc := 72) dX9_staff_72 5 rfl ?_
            refine z_iload_n C (pc := 74) dX9_staff_74 1 rfl ?_
            refine z_Vi C (pc := 75) (KX := fun _ _ => False) (kc' := 0) (ks' := 0) (As := [.int w5, .int f1]) (rest := []) rfl (c_X9_meet l v S f0 w5 f1) mw_X9_meet bw_1181 bw_1183 bw_p50 (fit_of rfl) rfl rfl (Nat.le_of_ble_eq_true rfl) (by decide) rfl o7 dX9_staff_75 h (fun r79 S78 h => ?_) (fun En S9 h => h.elim)
            refine z_if_eq C (pc := 78) (tgt := 85) dX9_staff_78 (by decide) h (fun h => ?_) (fun h => ?_)
            · refine z_iconst C (pc := 85) (x := (0 : Int32)) dX9_staff_85 kic_0 ?_
              refine z_istore C (pc := 86) (lv' := [(4, .int (0 : Int32)), (0, va_rf (some f0)), (1, .int f1), (2, .int f2), (3, .int f3), (5, .int w5)]) dX9_staff_86 (by decide) rfl ?_
              refine z_iinc C (pc := 88) (y := w5 + (1 : Int32)) (lv' := [(5, .int (w5 + (1 : Int32))), (4, .int (0 : Int32)), (0, va_rf (some f0)), (1, .int f1), (2, .int f2), (3, .int f3)]) dX9_staff_88 5 rfl rfl (by decide) rfl ?_
              refine z_goto C (pc := 91) (tgt := 36) dX9_staff_91 (by decide) ?_
              refine z_sub [2, 3, 4, 5, 1, 0] (lv' := [(0, va_rf (some f0)), (1, .int f1), (2, .int f2), (3, .int f3), (4, .int (0 : Int32)), (5, .int (w5 + (1 : Int32)))]) rfl ?_
              exact ih S78 (0 : Int32) (w5 + (1 : Int32)) h
            · refine z_iconst C (pc := 81) (x := (1 : Int32)) dX9_staff_81 kic_1 ?_
              refine z_goto C (pc := 82) (tgt := 86) dX9_staff_82 (by decide) ?_
              refine z_istore C (pc := 86) (lv' := [(4, .int (1 : Int32)), (0, va_rf (some f0)), (1, .int f1), (2, .int f2), (3, .int f3), (5, .int w5)]) dX9_staff_86 (by decide) rfl ?_
              refine z_iinc C (pc := 88) (y := w5 + (1 : Int32)) (lv' := [(5, .int (w5 + (1 : Int32))), (4, .int (1 : Int32)), (0, va_rf (some f0)), (1, .int f1), (2, .int f2), (3, .int f3)]) dX9_staff_88 5 rfl rfl (by decide) rfl ?_
              refine z_goto C (pc := 91) (tgt := 36) dX9_staff_91 (by decide) ?_
              refine z_sub [2, 3, 4, 5, 1, 0] (lv' := [(0, va_rf (some f0)), (1, .int f1), (2, .int f2), (3, .int f3), (4, .int (1 : Int32)), (5, .int (w5 + (1 : Int32)))]) rfl ?_
              exact ih S78 (1 : Int32) (w5 + (1 : Int32)) h
set_option maxHeartbeats 4000000 in
set_option maxRecDepth 100000 in
theorem c_X9_staff (l : Launch) (v : Ev) (S : Hp) (x0 : Nat) (x1 : Int32) (x2 : Int32) (x3 : Int32) : CI l v yX9_staff cX9_staff 6 (some .int) rm_X9_staff [va_rf (some x0), .int x1, .int x2, .int x3] S (fun Q _ => wp_X9_staff S x0 x1 x2 x3 Q) := by
  intro Q EQ h
  refine z_start [(0, va_rf (some x0)), (1, .int x1), (2, .int x2), (3, .int x3)] (by decide +kernel) (by simp only [la_i, la_r, la_n]) (cat_cr (cat_ci (cat_ci (cat_ci cat_nil)))) (by simp only [ls_i, ls_r, ls_n]; decide) (fun z C N T => ?_)
  unfold wp_X9_staff at h
  refine z_aload_n C (pc := 0) dX9_staff_0 0 rfl ?_
  refine z_aload_n C (pc := 1) dX9_staff_1 0 rfl ?_
  refine z_iload_n C (pc := 2) dX9_staff_2 1 rfl ?_
  obtain ⟨o1, h⟩ := h
  refine z_Vi C (pc := 3) (KX := fun _ _ => False) (kc' := 0) (ks' := 0) (As := [.int x1]) (rest := [va_rf (some x0)]) rfl (c_X9_isEvent l v S x0 x1) mw_X9_isEvent bw_1177 bw_1179 bw_p49 (fit_of rfl) rfl rfl (Nat.le_of_ble_eq_true rfl) (by decide) rfl o1 dX9_staff_3 h (fun r3 S2 h => ?_) (fun En S9 h => h.elim)
  refine z_if_eq C (pc := 6) (tgt := 21) dX9_staff_6 (by decide) h (fun h => ?_) (fun h => ?_)
  · refine z_iconst C (pc := 21) (x := (0 : Int32)) dX9_staff_21 kic_0 ?_
    obtain ⟨o4, h⟩ := h
    refine z_Vi C (pc := 22) (KX := fun _ _ => False) (kc' := 0) (ks' := 0) (As := [.int (0 : Int32)]) (rest := []) rfl (c_X9_asks l v S2 x0 (0 : Int32)) mw_X9_asks bw_1017 bw_1019 bw_p30 (fit_of rfl) rfl rfl (Nat.le_of_ble_eq_true rfl) (by decide) rfl o4 dX9_staff_22 h (fun r6 S5 h => ?_) (fun En S9 h => h.elim)
    refine z_if_ne C (pc := 25) (tgt := 30) dX9_staff_25 (by decide) h (fun h => ?_) (fun h => ?_)
    · refine z_iconst C (pc := 30) (x := (0 : Int32)) dX9_staff_30 kic_0 ?_
      refine z_istore C (pc := 31) (lv' := [(4, .int (0 : Int32)), (0, va_rf (some x0)), (1, .int x1), (2, .int x2), (3, .int x3)]) dX9_staff_31 (by decide) rfl ?_
      refine z_iconst C (pc := 33) (x := (0 : Int32)) dX9_staff_33 kic_0 ?_
      refine z_istore C (pc := 34) (lv' := [(5, .int (0 : Int32)), (4, .int (0 : Int32)), (0, va_rf (some x0)), (1, .int x1), (2, .int x2), (3, .int x3)]) dX9_staff_34 (by decide) rfl ?_
      obtain ⟨n80, h⟩ := h
      refine z_sub [2, 3, 4, 5, 1, 0] (lv' := [(0, va_rf (some x0)), (1, .int x1), (2, .int x2), (3, .int x3), (4, .int (0 : Int32)), (5, .int (0 : Int32))]) rfl ?_
      exact l_X9_staff_L36 l v x0 x1 x2 x3 Q C N T n80 S5 (0 : Int32) (0 : Int32) h
    · refine z_iconst C (pc := 28) (x := (0 : Int32)) dX9_staff_28 kic_0 ?_
      exact z_iret C (pc := 29) T dX9_staff_29 (by decide) (by decide) h
  · refine z_aload_n C (pc := 9) dX9_staff_9 0 rfl ?_
    refine z_iload_n C (pc := 10) dX9_staff_10 2 rfl ?_
    obtain ⟨o81, h⟩ := h
    refine z_Vi C (pc := 11) (KX := fun _ _ => False) (kc' := 0) (ks' := 0) (As := [.int x2]) (rest := [va_rf (some x0)]) rfl (c_X9_isLeader l v S2 x0 x2) mw_X9_isLeader bw_1108 bw_1110 bw_p43 (fit_of rfl) rfl rfl (Nat.le_of_ble_eq_true rfl) (by decide) rfl o81 dX9_staff_11 h (fun r83 S82 h => ?_) (fun En S9 h => h.elim)
    refine z_if_eq C (pc := 14) (tgt := 21) dX9_staff_14 (by decide) h (fun h => ?_) (fun h => ?_)
    · refine z_iconst C (pc := 21) (x := (0 : Int32)) dX9_staff_21 kic_0 ?_
      obtain ⟨o84, h⟩ := h
      refine z_Vi C (pc := 22) (KX := fun _ _ => False) (kc' := 0) (ks' := 0) (As := [.int (0 : Int32)]) (rest := []) rfl (c_X9_asks l v S82 x0 (0 : Int32)) mw_X9_asks bw_1017 bw_1019 bw_p30 (fit_of rfl) rfl rfl (Nat.le_of_ble_eq_true rfl) (by decide) rfl o84 dX9_staff_22 h (fun r86 S85 h => ?_) (fun En S9 h => h.elim)
      refine z_if_ne C (pc := 25) (tgt := 30) dX9_staff_25 (by decide) h (fun h => ?_) (fun h => ?_)
      · refine z_iconst C (pc := 30) (x := (0 : Int32)) dX9_staff_30 kic_0 ?_
        refine z_istore C (pc := 31) (lv' := [(4, .int (0 : Int32)), (0, va_rf (some x0)), (1, .int x1), (2, .int x2), (3, .int x3)]) dX9_staff_31 (by decide) rfl ?_
        refine z_iconst C (pc := 33) (x := (0 : Int32)) dX9_staff_33 kic_0 ?_
        refine z_istore C (pc := 34) (lv' := [(5, .int (0 : Int32)), (4, .int (0 : Int32)), (0, va_rf (some x0)), (1, .int x1), (2, .int x2), (3, .int x3)]) dX9_staff_34 (by decide) rfl ?_
        obtain ⟨n87, h⟩ := h
        refine z_sub [2, 3, 4, 5, 1, 0] (lv' := [(0, va_rf (some x0)), (1, .int x1), (2, .int x2), (3, .int x3), (4, .int (0 : Int32)), (5, .int (0 : Int32))]) rfl ?_
        exact l_X9_staff_L36 l v x0 x1 x2 x3 Q C N T n87 S85 (0 : Int32) (0 : Int32) h
      · refine z_iconst C (pc := 28) (x := (0 : Int32)) dX9_staff_28 kic_0 ?_
        exact z_iret C (pc := 29) T dX9_staff_29 (by decide) (by decide) h
    · refine z_iconst C (pc := 17) (x := (1 : Int32)) dX9_staff_17 kic_1 ?_
      refine z_goto C (pc := 18) (tgt := 22) dX9_staff_18 (by decide) ?_
      obtain ⟨o88, h⟩ := h
      refine z_Vi C (pc := 22) (KX := fun _ _ => False) (kc' := 0) (ks' := 0) (As := [.int (1 : Int32)]) (rest := []) rfl (c_X9_asks l v S82 x0 (1 : Int32)) mw_X9_asks bw_1017 bw_1019 bw_p30 (fit_of rfl) rfl rfl (Nat.le_of_ble_eq_true rfl) (by decide) rfl o88 dX9_staff_22 h (fun r90 S89 h => ?_) (fun En S9 h => h.elim)
      refine z_if_ne C (pc := 25) (tgt := 30) dX9_staff_25 (by decide) h (fun h => ?_) (fun h => ?_)
      · refine z_iconst C (pc := 30) (x := (0 : Int32)) dX9_staff_30 kic_0 ?_
        refine z_istore C (pc := 31) (lv' := [(4, .int (0 : Int32)), (0, va_rf (some x0)), (1, .int x1), (2, .int x2), (3, .int x3)]) dX9_staff_31 (by decide) rfl ?_
        refine z_iconst C (pc := 33) (x := (0 : Int32)) dX9_staff_33 kic_0 ?_
        refine z_istore C (pc := 34) (lv' := [(5, .int (0 : Int32)), (4, .int (0 : Int32)), (0, va_rf (some x0)), (1, .int x1), (2, .int x2), (3, .int x3)]) dX9_staff_34 (by decide) rfl ?_
        obtain ⟨n91, h⟩ := h
        refine z_sub [2, 3, 4, 5, 1, 0] (lv' := [(0, va_rf (some x0)), (1, .int x1), (2, .int x2), (3, .int x3), (4, .int (0 : Int32)), (5, .int (0 : Int32))]) rfl ?_
        exact l_X9_staff_L36 l v x0 x1 x2 x3 Q C N T n91 S89 (0 : Int32) (0 : Int32) h
      · refine z_iconst C (pc := 28) (x := (0 : Int32)) dX9_staff_28 kic_0 ?_
        exact z_iret C (pc := 29) T dX9_staff_29 (by decide) (by decide) h
def wp_X9_ratio (S : Hp) (x0 : Int32) (Q : Int32 → Hp → Prop) : Prop :=
  if x0 = 0 then (Q (8 : Int32) S) else (if x0 = (1 : Int32) then (Q (4 : Int32) S) else (if x0 = (2 : Int32) then (Q (3 : Int32) S) else (Q (6 : Int32) S)))
def rm_X9_ratio : Room := { frames := 0, cells := 0, slots := 0, locals := 0 }
set_option maxHeartbeats 4000000 in
set_option maxRecDepth 100000 in
theorem c_X9_ratio (l : Launch) (v : Ev) (S : Hp) (x0 : Int32) : CI l v yX9_ratio cX9_ratio 1 (some .int) rm_X9_ratio [.int x0] S (fun Q _ => wp_X9_ratio S x0 Q) := by
  intro Q EQ h
  refine z_start [(0, .int x0)] (by decide +kernel) (by simp only [la_i, la_r, la_n]) (cat_ci cat_nil) (by simp only [ls_i, ls_r, ls_n]; decide) (fun z C N T => ?_)
  unfold wp_X9_ratio at h
  refine z_iload_n C (pc := 0) dX9_ratio_0 0 rfl ?_
  refine z_if_ne C (pc := 1) (tgt := 9) dX9_ratio_1 (by decide) h (fun h => ?_) (fun h => ?_)
  · refine z_iload_n C (pc := 9) dX9_ratio_9 0 rfl ?_
    refine z_iconst C (pc := 10) (x := (1 : Int32)) dX9_ratio_10 kic_1 ?_
    refine z_icmp_ne C (pc := 11) (tgt := 18) dX9_ratio_11 (by decide) h (fun h => ?_) (fun h => ?_)
    · refine z_iload_n C (pc := 18) dX9_ratio_18 0 rfl ?_
      refine z_iconst C (pc := 19) (x := (2 : Int32)) dX9_ratio_19 kic_2 ?_
      refine z_icmp_ne C (pc := 20) (tgt := 27) dX9_ratio_20 (by decide) h (fun h => ?_) (fun h => ?_)
      · refine z_bipush C (pc := 27) (x := (6 : Int32)) dX9_ratio_27 kbp_6 ?_
        exact z_iret C (pc := 29) T dX9_ratio_29 (by decide) (by decide) h
      · refine z_iconst C (pc := 23) (x := (3 : Int32)) dX9_ratio_23 kic_3 ?_
        refine z_goto C (pc := 24) (tgt := 29) dX9_ratio_24 (by decide) ?_
        exact z_iret C (pc := 29) T dX9_ratio_29 (by decide) (by decide) h
    · refine z_iconst C (pc := 14) (x := (4 : Int32)) dX9_ratio_14 kic_4 ?_
      refine z_goto C (pc := 15) (tgt := 29) dX9_ratio_15 (by decide) ?_
      exact z_iret C (pc := 29) T dX9_ratio_29 (by decide) (by decide) h
  · refine z_bipush C (pc := 4) (x := (8 : Int32)) dX9_ratio_4 kbp_8 ?_
    refine z_goto C (pc := 6) (tgt := 29) dX9_ratio_6 (by decide) ?_
    exact z_iret C (pc := 29) T dX9_ratio_29 (by decide) (by decide) h
def wp_X9_reason_L66 (f0 : Nat) (f1 : Int32) (f2 : Int32) (f3 : Int32) (f4 : Int32) (f5 : Int32) (Q : Int32 → Hp → Prop) : Nat → Hp → Int32 → Int32 → Prop
  | 0, _, _, _ => False
  | n + 1, S, w6, w7 => okA S 9 f0 ∧ (if (g_I S 919 f0) ≤ w7 then (if w6 = 0 then (Q (3 : Int32) S) else (if f4 = (1 : Int32) then (wp_X9_ones S f2 (fun r21 S20 => if r21 = (1 : Int32) then (Q (4 : Int32) S20) else (Q (0 : Int32) S20))) else (Q (0 : Int32) S))) else (if ((f2 >>> (w7 &&& 31)) &&& (1 : Int32)) = (1 : Int32) then (rd S 11 (g_P S 927 f0) (fun a22 => vp_in (f3 + (1 : Int32)) (g_N S a22) ∧ (rd S 11 (g_P S 927 f0) (fun a26 => vp_in (f3 + (3 : Int32)) (g_N S a26) ∧ (wp_X9_isVetted S f0 w7 (g_R S a22 (f3 + (1 : Int32)).toNatClampNeg) (g_R S a26 (f3 + (3 : Int32)).toNatClampNeg) (fun r31 S30 => if r31 = 0 then (Q (2 : Int32) S30) else (if w6 = 0 then (okA S30 9 f0 ∧ (rd S30 11 (g_P S30 921 f0) (fun a33 => vp_in ((((3 : Int32) * w7) + f5) - (1 : Int32)) (g_N S30 a33) ∧ (rd S30 11 (g_P S30 927 f0) (fun a37 => vp_in (f3 + (3 : Int32)) (g_N S30 a37) ∧ (if (g_R S30 a33 ((((3 : Int32) * w7) + f5) - (1 : Int32)).toNatClampNeg) < (g_R S30 a37 (f3 + (3 : Int32)).toNatClampNeg) then (wp_X9_reason_L66 f0 f1 f2 f3 f4 f5 Q n S30 (0 : Int32) (w7 + (1 : Int32))) else (wp_X9_reason_L66 f0 f1 f2 f3 f4 f5 Q n S30 (1 : Int32) (w7 + (1 : Int32))))))))) else (wp_X9_reason_L66 f0 f1 f2 f3 f4 f5 Q n S30 (1 : Int32) (w7 + (1 : Int32)))))))))) else (if w6 = 0 then (wp_X9_reason_L66 f0 f1 f2 f3 f4 f5 Q n S (0 : Int32) (w7 + (1 : Int32))) else (wp_X9_reason_L66 f0 f1 f2 f3 f4 f5 Q n S (1 : Int32) (w7 + (1 : Int32))))))
def wp_X9_reason (S : Hp) (x0 : Nat) (x1 : Int32) (x2 : Int32) (Q : Int32 → Hp → Prop) : Prop :=
  lt ((6 : Int32) * x1) (fun y1 => okA S 9 x0 ∧ (rd S 11 (g_P S 927 x0) (fun a3 => vp_in y1 (g_N S a3) ∧ (wp_X9_inTroop S x0 (g_R S a3 y1.toNatClampNeg) (fun r8 S7 => okA S7 9 x0 ∧ (rd S7 11 (g_P S7 927 x0) (fun a10 => vp_in (y1 + (2 : Int32)) (g_N S7 a10) ∧ (lt (g_R S7 a10 (y1 + (2 : Int32)).toNatClampNeg) (fun y14 => if r8 = 0 then (Q (0 : Int32) S7) else (wp_X9_ones S7 x2 (fun r16 S15 => wp_X9_ratio S15 y14 (fun r18 S17 => if r8 ≤ (r16 * r18) then (if y14 = 0 then (∃ n42, wp_X9_reason_L66 x0 x1 x2 y1 r8 y14 Q n42 S17 (1 : Int32) (0 : Int32)) else (∃ n41, wp_X9_reason_L66 x0 x1 x2 y1 r8 y14 Q n41 S17 (0 : Int32) (0 : Int32))) else (Q (1 : Int32) S17)))))))))))))
def rm_X9_reason : Room := { frames := 2, cells := 0, slots := 0, locals := 45 }
set_option maxHeartbeats 4000000 in
set_option maxRecDepth 100000 in
theorem l_X9_reason_L66 (l : Launch) (v : Ev) (f0 : Nat) (f1 : Int32) (f2 : Int32) (f3 : Int32) (f4 : Int32) (f5 : Int32) (Q : Int32 → Hp → Prop) {EQ : String → Hp → Prop} {z : Z9} (C : Cx l v RX9 cX9_reason 9 (some .int) "reason" z) (N : NT z) (T : EE v rm_X9_reason (QI v Q) EQ z) : ∀ (n : Nat) (S : Hp) (w6 : Int32) (w7 : Int32), wp_X9_reason_L66 f0 f1 f2 f3 f4 f5 Q n S w6 w7 → ZZ l v 9 rm_X9_reason z 0 0 S 66 [(0, va_rf (some f0)), (1, .int f1), (2, .int f2), (3, .int f3), (4, .int f4), (5, .int f5), (6, .int w6), (7, .int w7)] [] := by
  intro n
  induction n with
  | zero =>
    intro S w6 w7 h
    exact h.elim
  | succ n ih =>
    intro S w6 w7 h
    unfold wp_X9_reason_L66 at h
    refine z_iload C (pc := 66) dX9_reason_66 7 rfl ?_
    refine z_aload_n C (pc := 68) dX9_reason_68 0 rfl ?_
    obtain ⟨o19, h⟩ := h
    refine z_getI C (pc := 69) kf9 19 (by decide) rfl bw_927 (fun _ _ _ _ h => h) dX9_reason_69 rfl o19 ?_
    refine z_icmp_ge C (pc := 72) (tgt := 172) dX9_reason_72 (by decide) h (fun h => ?_) (fun h => ?_)
    · refine z_iload C (pc := 172) dX9_reason_172 6 rfl ?_
      refine z_if_ne C (pc := 174) (tgt := 181) dX9_reason_174 (by decide) h (fun h => ?_) (fun h => ?_)
      · refine z_iload C (pc := 181) dX9_reason_181 4 rfl ?_
        refine z_iconst C (pc := 183) (x := (1 : Int32)) dX9_reason_183 kic_1 ?_
        refine z_icmp_ne C (pc := 184) (tgt := 199) dX9_reason_184 (by decide) h (fun h => ?_) (fun h => ?_)
        · refine z_iconst C (pc := 199) (x := (0 : Int32)) dX9_reason_199 kic_0 ?_
          exact z_iret C (pc := 200) T dX9_reason_200 (by decide) (by decide) h
        · refine z_iload_n C (pc := 187) dX9_reason_187 2 rfl ?_
          refine z_Si C (pc := 188) (KX := fun _ _ => False) (kc' := 0) (ks' := 0) (As := [.int f2]) (rest := []) (c_X9_ones l v S f2) mw_X9_ones bw_1134 bw_1135 (fit_of rfl) rfl rfl (Nat.le_of_ble_eq_true rfl) dX9_reason_188 h (fun r21 S20 h => ?_) (fun En S9 h => h.elim)
          refine z_iconst C (pc := 191) (x := (1 : Int32)) dX9_reason_191 kic_1 ?_
          refine z_icmp_ne C (pc := 192) (tgt := 199) dX9_reason_192 (by decide) h (fun h => ?_) (fun h => ?_)
          · refine z_iconst C (pc := 199) (x := (0 : Int32)) dX9_reason_199 kic_0 ?_
            exact z_iret C (pc := 200) T dX9_reason_200 (by decide) (by decide) h
          · refine z_iconst C (pc := 195) (x := (4 : Int32)) dX9_reason_195 kic_4 ?_
            refine z_goto C (pc := 196) (tgt := 200) dX9_reason_196 (by decide) ?_
            exact z_iret C (pc := 200) T dX9_reason_200 (by decide) (by decide) h
      · refine z_iconst C (pc := 177) (x := (3 : Int32)) dX9_reason_177 kic_3 ?_
        refine z_goto C (pc := 178) (tgt := 200) dX9_reason_178 (by decide) ?_
        exact z_iret C (pc := 200) T dX9_reason_200 (by decide) (by decide) h
    · refine z_iload_n C (pc := 75) dX9_reason_75 2 rfl ?_
      refine z_iload C (pc := 76) dX9_reason_76 7 rfl ?_
      refine z_ishr C (pc := 78) dX9_reason_78 ?_
      refine z_iconst C (pc := 79) (x := (1 : Int32)) dX9_reason_79 kic_1 ?_
      refine z_iand C (pc := 80) dX9_reason_80 ?_
      refine z_iconst C (pc := 81) (x := (1 : Int32)) dX9_reason_81 kic_1 ?_
      refine z_icmp_ne C (pc := 82) (tgt := 89) dX9_reason_82 (by decide) h (fun h => ?_) (fun h => ?_)
      · refine z_iconst C (pc := 89) (x := (0 : Int32)) dX9_reason_89 kic_0 ?_
        refine z_istore C (pc := 90) (lv' := [(8, .int (0 : Int32)), (0, va_rf (some f0)), (1, .int f1), (2, .int f2), (3, .int f3), (4, .int f4), (5, .int f5), (6, .int w6), (7, .int w7)]) dX9_reason_90 (by decide) rfl ?_
        refine z_iload C (pc := 92) dX9_reason_92 0 rfl ?_
        refine z_if_eq C (pc := 94) (tgt := 124) dX9_reason_94 (by decide) (ifT (c := (0 : Int32) = 0) (by decide) h) (fun h => ?_) (fun h => h.elim)
        refine z_iload C (pc := 124) dX9_reason_124 7 rfl ?_
        refine z_if_ne C (pc := 126) (tgt := 159) dX9_reason_126 (by decide) h (fun h => ?_) (fun h => ?_)
        · refine z_iconst C (pc := 159) (x := (1 : Int32)) dX9_reason_159 kic_1 ?_
          refine z_goto C (pc := 160) (tgt := 164) dX9_reason_160 (by decide) ?_
          refine z_istore C (pc := 164) (lv' := [(6, .int (1 : Int32)), (8, .int (0 : Int32)), (0, va_rf (some f0)), (1, .int f1), (2, .int f2), (3, .int f3), (4, .int f4), (5, .int f5), (7, .int w7)]) dX9_reason_164 (by decide) rfl ?_
          refine z_iinc C (pc := 166) (y := w7 + (1 : Int32)) (lv' := [(7, .int (w7 + (1 : Int32))), (6, .int (1 : Int32)), (8, .int (0 : Int32)), (0, va_rf (some f0)), (1, .int f1), (2, .int f2), (3, .int f3), (4, .int f4), (5, .int f5)]) dX9_reason_166 8 rfl rfl (by decide) rfl ?_
          refine z_goto C (pc := 169) (tgt := 66) dX9_reason_169 (by decide) ?_
          refine z_sub [3, 4, 5, 6, 7, 8, 1, 0] (lv' := [(0, va_rf (some f0)), (1, .int f1), (2, .int f2), (3, .int f3), (4, .int f4), (5, .int f5), (6, .int (1 : Int32)), (7, .int (w7 + (1 : Int32)))]) rfl ?_
          exact ih S (1 : Int32) (w7 + (1 : Int32)) h
        · refine z_iload C (pc := 129) dX9_reason_129 0 rfl ?_
          refine z_if_eq C (pc := 131) (tgt := 163) dX9_reason_131 (by decide) (ifT (c := (0 : Int32) = 0) (by decide) h) (fun h => ?_) (fun h => h.elim)
          refine z_iconst C (pc := 163) (x := (0 : Int32)) dX9_reason_163 kic_0 ?_
          refine z_istore C (pc := 164) (lv' := [(6, .int (0 : Int32)), (8, .int (0 : Int32)), (0, va_rf (some f0)), (1, .int f1), (2, .int f2), (3, .int f3), (4, .int f4), (5, .int f5), (7, .int w7)]) dX9_reason_164 (by decide) rfl ?_
          refine z_iinc C (pc := 166) (y := w7 + (1 : Int32)) (lv' := [(7, .int (w7 + (1 : Int32))), (6, .int (0 : Int32)), (8, .int (0 : Int32)), (0, va_rf (some f0)), (1, .int f1), (2, .int f2), (3, .int f3), (4, .int f4), (5, .int f5)]) dX9_reason_166 8 rfl rfl (by decide) rfl ?_
          refine z_goto C (pc := 169) (tgt := 66) dX9_reason_169 (by decide) ?_
          refine z_sub [3, 4, 5, 6, 7, 8, 1, 0] (lv' := [(0, va_rf (some f0)), (1, .int f1), (2, .int f2), (3, .int f3), (4, .int f4), (5, .int f5), (6, .int (0 : Int32)), (7, .int (w7 + (1 : Int32)))]) rfl ?_
          exact ih S (0 : Int32) (w7 + (1 : Int32)) h
      · refine z_iconst C (pc := 85) (x := (1 : Int32)) dX9_reason_85 kic_1 ?_
        refine z_goto C (pc := 86) (tgt := 90) dX9_reason_86 (by decide) ?_
        refine z_istore C (pc := 90) (lv' := [(8, .int (1 : Int32)), (0, va_rf (some f0)), (1, .int f1), (2, .int f2), (3, .int f3), (4, .int f4), (5, .int f5), (6, .int w6), (7, .int w7)]) dX9_reason_90 (by decide) rfl ?_
        refine z_iload C (pc := 92) dX9_reason_92 0 rfl ?_
        refine z_if_eq C (pc := 94) (tgt := 124) dX9_reason_94 (by decide) (ifF (c := (1 : Int32) = 0) (by decide) h) (fun h => h.elim) (fun h => ?_)
        refine z_aload_n C (pc := 97) dX9_reason_97 1 rfl ?_
        refine z_iload C (pc := 98) dX9_reason_98 8 rfl ?_
        refine z_aload_n C (pc := 100) dX9_reason_100 1 rfl ?_
        refine z_getP C (pc := 101) kf9 27 (by decide) rfl bw_935 (fun _ _ _ _ h => h) dX9_reason_101 rfl o19 ?_
        refine z_iload_n C (pc := 104) dX9_reason_104 4 rfl ?_
        refine z_iconst C (pc := 105) (x := (1 : Int32)) dX9_reason_105 kic_1 ?_
        refine z_iadd C (pc := 106) dX9_reason_106 ?_
        obtain ⟨a22, e23, o24, h⟩ := h
        obtain ⟨v25, h⟩ := h
        refine z_iald C (pc := 107) dX9_reason_107 e23 o24 v25 ?_
        refine z_aload_n C (pc := 108) dX9_reason_108 1 rfl ?_
        refine z_getP C (pc := 109) kf9 27 (by decide) rfl bw_935 (fun _ _ _ _ h => h) dX9_reason_109 rfl o19 ?_
        refine z_iload_n C (pc := 112) dX9_reason_112 4 rfl ?_
        refine z_iconst C (pc := 113) (x := (3 : Int32)) dX9_reason_113 kic_3 ?_
        refine z_iadd C (pc := 114) dX9_reason_114 ?_
        obtain ⟨a26, e27, o28, h⟩ := h
        obtain ⟨v29, h⟩ := h
        refine z_iald C (pc := 115) dX9_reason_115 e27 o28 v29 ?_
        refine z_Vi C (pc := 116) (KX := fun _ _ => False) (kc' := 0) (ks' := 0) (As := [.int w7, .int (g_R S a22 (f3 + (1 : Int32)).toNatClampNeg), .int (g_R S a26 (f3 + (3 : Int32)).toNatClampNeg)]) (rest := []) rfl (c_X9_isVetted l v S f0 w7 (g_R S a22 (f3 + (1 : Int32)).toNatClampNeg) (g_R S a26 (f3 + (3 : Int32)).toNatClampNeg)) mw_X9_isVetted bw_1145 bw_1147 bw_p44 (fit_of rfl) rfl rfl (Nat.le_of_ble_eq_true rfl) (by decide) rfl o19 dX9_reason_116 h (fun r31 S30 h => ?_) (fun En S9 h => h.elim)
        refine z_if_ne C (pc := 119) (tgt := 124) dX9_reason_119 (by decide) h (fun h => ?_) (fun h => ?_)
        · refine z_iload C (pc := 124) dX9_reason_124 7 rfl ?_
          refine z_if_ne C (pc := 126) (tgt := 159) dX9_reason_126 (by decide) h (fun h => ?_) (fun h => ?_)
          · refine z_iconst C (pc := 159) (x := (1 : Int32)) dX9_reason_159 kic_1 ?_
            refine z_goto C (pc := 160) (tgt := 164) dX9_reason_160 (by decide) ?_
            refine z_istore C (pc := 164) (lv' := [(6, .int (1 : Int32)), (8, .int (1 : Int32)), (0, va_rf (some f0)), (1, .int f1), (2, .int f2), (3, .int f3), (4, .int f4), (5, .int f5), (7, .int w7)]) dX9_reason_164 (by decide) rfl ?_
            refine z_iinc C (pc := 166) (y := w7 + (1 : Int32)) (lv' := [(7, .int (w7 + (1 : Int32))), (6, .int (1 : Int32)), (8, .int (1 : Int32)), (0, va_rf (some f0)), (1, .int f1), (2, .int f2), (3, .int f3), (4, .int f4), (5, .int f5)]) dX9_reason_166 8 rfl rfl (by decide) rfl ?_
            refine z_goto C (pc := 169) (tgt := 66) dX9_reason_169 (by decide) ?_
            refine z_sub [3, 4, 5, 6, 7, 8, 1, 0] (lv' := [(0, va_rf (some f0)), (1, .int f1), (2, .int f2), (3, .int f3), (4, .int f4), (5, .int f5), (6, .int (1 : Int32)), (7, .int (w7 + (1 : Int32)))]) rfl ?_
            exact ih S30 (1 : Int32) (w7 + (1 : Int32)) h
          · refine z_iload C (pc := 129) dX9_reason_129 0 rfl ?_
            refine z_if_eq C (pc := 131) (tgt := 163) dX9_reason_131 (by decide) (ifF (c := (1 : Int32) = 0) (by decide) h) (fun h => h.elim) (fun h => ?_)
            refine z_aload_n C (pc := 134) dX9_reason_134 1 rfl ?_
            obtain ⟨o32, h⟩ := h
            refine z_getP C (pc := 135) kf9 21 (by decide) rfl bw_929 (fun _ _ _ _ h => h) dX9_reason_135 rfl o32 ?_
            refine z_iconst C (pc := 138) (x := (3 : Int32)) dX9_reason_138 kic_3 ?_
            refine z_iload C (pc := 139) dX9_reason_139 8 rfl ?_
            refine z_imul C (pc := 141) dX9_reason_141 ?_
            refine z_iload C (pc := 142) dX9_reason_142 6 rfl ?_
            refine z_iadd C (pc := 144) dX9_reason_144 ?_
            refine z_iconst C (pc := 145) (x := (1 : Int32)) dX9_reason_145 kic_1 ?_
            refine z_isub C (pc := 146) dX9_reason_146 ?_
            obtain ⟨a33, e34, o35, h⟩ := h
            obtain ⟨v36, h⟩ := h
            refine z_iald C (pc := 147) dX9_reason_147 e34 o35 v36 ?_
            refine z_aload_n C (pc := 148) dX9_reason_148 1 rfl ?_
            refine z_getP C (pc := 149) kf9 27 (by decide) rfl bw_935 (fun _ _ _ _ h => h) dX9_reason_149 rfl o32 ?_
            refine z_iload_n C (pc := 152) dX9_reason_152 4 rfl ?_
            refine z_iconst C (pc := 153) (x := (3 : Int32)) dX9_reason_153 kic_3 ?_
            refine z_iadd C (pc := 154) dX9_reason_154 ?_
            obtain ⟨a37, e38, o39, h⟩ := h
            obtain ⟨v40, h⟩ := h
            refine z_iald C (pc := 155) dX9_reason_155 e38 o39 v40 ?_
            refine z_icmp_lt C (pc := 156) (tgt := 163) dX9_reason_156 (by decide) h (fun h => ?_) (fun h => ?_)
            · refine z_iconst C (pc := 163) (x := (0 : Int32)) dX9_reason_163 kic_0 ?_
              refine z_istore C (pc := 164) (lv' := [(6, .int (0 : Int32)), (8, .int (1 : Int32)), (0, va_rf (some f0)), (1, .int f1), (2, .int f2), (3, .int f3), (4, .int f4), (5, .int f5), (7, .int w7)]) dX9_reason_164 (by decide) rfl ?_
              refine z_iinc C (pc := 166) (y := w7 + (1 : Int32)) (lv' := [(7, .int (w7 + (1 : Int32))), (6, .int (0 : Int32)), (8, .int (1 : Int32)), (0, va_rf (some f0)), (1, .int f1), (2, .int f2), (3, .int f3), (4, .int f4), (5, .int f5)]) dX9_reason_166 8 rfl rfl (by decide) rfl ?_
              refine z_goto C (pc := 169) (tgt := 66) dX9_reason_169 (by decide) ?_
              refine z_sub [3, 4, 5, 6, 7, 8, 1, 0] (lv' := [(0, va_rf (some f0)), (1, .int f1), (2, .int f2), (3, .int f3), (4, .int f4), (5, .int f5), (6, .int (0 : Int32)), (7, .int (w7 + (1 : Int32)))]) rfl ?_
              exact ih S30 (0 : Int32) (w7 + (1 : Int32)) h
            · refine z_iconst C (pc := 159) (x := (1 : Int32)) dX9_reason_159 kic_1 ?_
              refine z_goto C (pc := 160) (tgt := 164) dX9_reason_160 (by decide) ?_
              refine z_istore C (pc := 164) (lv' := [(6, .int (1 : Int32)), (8, .int (1 : Int32)), (0, va_rf (some f0)), (1, .int f1), (2, .int f2), (3, .int f3), (4, .int f4), (5, .int f5), (7, .int w7)]) dX9_reason_164 (by decide) rfl ?_
              refine z_iinc C (pc := 166) (y := w7 + (1 : Int32)) (lv' := [(7, .int (w7 + (1 : Int32))), (6, .int (1 : Int32)), (8, .int (1 : Int32)), (0, va_rf (some f0)), (1, .int f1), (2, .int f2), (3, .int f3), (4, .int f4), (5, .int f5)]) dX9_reason_166 8 rfl rfl (by decide) rfl ?_
              refine z_goto C (pc := 169) (tgt := 66) dX9_reason_169 (by decide) ?_
              refine z_sub [3, 4, 5, 6, 7, 8, 1, 0] (lv' := [(0, va_rf (some f0)), (1, .int f1), (2, .int f2), (3, .int f3), (4, .int f4), (5, .int f5), (6, .int (1 : Int32)), (7, .int (w7 + (1 : Int32)))]) rfl ?_
              exact ih S30 (1 : Int32) (w7 + (1 : Int32)) h
        · refine z_iconst C (pc := 122) (x := (2 : Int32)) dX9_reason_122 kic_2 ?_
          exact z_iret C (pc := 123) T dX9_reason_123 (by decide) (by decide) h
set_option maxHeartbeats 4000000 in
set_option maxRecDepth 100000 in
theorem c_X9_reason (l : Launch) (v : Ev) (S : Hp) (x0 : Nat) (x1 : Int32) (x2 : Int32) : CI l v yX9_reason cX9_reason 9 (some .int) rm_X9_reason [va_rf (some x0), .int x1, .int x2] S (fun Q _ => wp_X9_reason S x0 x1 x2 Q) := by
  intro Q EQ h
  refine z_start [(0, va_rf (some x0)), (1, .int x1), (2, .int x2)] (by decide +kernel) (by simp only [la_i, la_r, la_n]) (cat_cr (cat_ci (cat_ci cat_nil))) (by simp only [ls_i, ls_r, ls_n]; decide) (fun z C N T => ?_)
  unfold wp_X9_reason at h
  refine z_bipush C (pc := 0) (x := (6 : Int32)) dX9_reason_0 kbp_6 ?_
  refine z_iload_n C (pc := 2) dX9_reason_2 1 rfl ?_
  refine z_imul C (pc := 3) dX9_reason_3 ?_
  refine z_nI h (fun y1 h => ?_)
  refine z_istore_n C (pc := 4) (lv' := [(3, .int y1), (0, va_rf (some x0)), (1, .int x1), (2, .int x2)]) dX9_reason_4 (by decide) rfl ?_
  refine z_aload_n C (pc := 5) dX9_reason_5 1 rfl ?_
  refine z_aload_n C (pc := 6) dX9_reason_6 1 rfl ?_
  obtain ⟨o2, h⟩ := h
  refine z_getP C (pc := 7) kf9 27 (by decide) rfl bw_935 (fun _ _ _ _ h => h) dX9_reason_7 rfl o2 ?_
  refine z_iload_n C (pc := 10) dX9_reason_10 0 rfl ?_
  obtain ⟨a3, e4, o5, h⟩ := h
  obtain ⟨v6, h⟩ := h
  refine z_iald C (pc := 11) dX9_reason_11 e4 o5 v6 ?_
  refine z_Vi C (pc := 12) (KX := fun _ _ => False) (kc' := 0) (ks' := 0) (As := [.int (g_R S a3 y1.toNatClampNeg)]) (rest := []) rfl (c_X9_inTroop l v S x0 (g_R S a3 y1.toNatClampNeg)) mw_X9_inTroop bw_1049 bw_1051 bw_p36 (fit_of rfl) rfl rfl (Nat.le_of_ble_eq_true rfl) (by decide) rfl o2 dX9_reason_12 h (fun r8 S7 h => ?_) (fun En S9 h => h.elim)
  refine z_istore C (pc := 15) (lv' := [(4, .int r8), (3, .int y1), (0, va_rf (some x0)), (1, .int x1), (2, .int x2)]) dX9_reason_15 (by decide) rfl ?_
  refine z_aload_n C (pc := 17) dX9_reason_17 2 rfl ?_
  obtain ⟨o9, h⟩ := h
  refine z_getP C (pc := 18) kf9 27 (by decide) rfl bw_935 (fun _ _ _ _ h => h) dX9_reason_18 rfl o9 ?_
  refine z_iload_n C (pc := 21) dX9_reason_21 1 rfl ?_
  refine z_iconst C (pc := 22) (x := (2 : Int32)) dX9_reason_22 kic_2 ?_
  refine z_iadd C (pc := 23) dX9_reason_23 ?_
  obtain ⟨a10, e11, o12, h⟩ := h
  obtain ⟨v13, h⟩ := h
  refine z_iald C (pc := 24) dX9_reason_24 e11 o12 v13 ?_
  refine z_nI h (fun y14 h => ?_)
  refine z_istore C (pc := 25) (lv' := [(5, .int y14), (4, .int r8), (3, .int y1), (0, va_rf (some x0)), (1, .int x1), (2, .int x2)]) dX9_reason_25 (by decide) rfl ?_
  refine z_iload C (pc := 27) dX9_reason_27 1 rfl ?_
  refine z_if_ne C (pc := 29) (tgt := 34) dX9_reason_29 (by decide) h (fun h => ?_) (fun h => ?_)
  · refine z_iload_n C (pc := 34) dX9_reason_34 5 rfl ?_
    refine z_Si C (pc := 35) (KX := fun _ _ => False) (kc' := 0) (ks' := 0) (As := [.int x2]) (rest := []) (c_X9_ones l v S7 x2) mw_X9_ones bw_1134 bw_1135 (fit_of rfl) rfl rfl (Nat.le_of_ble_eq_true rfl) dX9_reason_35 h (fun r16 S15 h => ?_) (fun En S9 h => h.elim)
    refine z_iload C (pc := 38) dX9_reason_38 0 rfl ?_
    refine z_Si C (pc := 40) (KX := fun _ _ => False) (kc' := 0) (ks' := 0) (As := [.int y14]) (rest := [.int r16]) (c_X9_ratio l v S15 y14) mw_X9_ratio bw_1193 bw_1194 (fit_of rfl) rfl rfl (Nat.le_of_ble_eq_true rfl) dX9_reason_40 h (fun r18 S17 h => ?_) (fun En S9 h => h.elim)
    refine z_imul C (pc := 43) dX9_reason_43 ?_
    refine z_iload C (pc := 44) dX9_reason_44 1 rfl ?_
    refine z_icmp_ge C (pc := 46) (tgt := 51) dX9_reason_46 (by decide) h (fun h => ?_) (fun h => ?_)
    · refine z_iload C (pc := 51) dX9_reason_51 0 rfl ?_
      refine z_if_ne C (pc := 53) (tgt := 60) dX9_reason_53 (by decide) h (fun h => ?_) (fun h => ?_)
      · refine z_iconst C (pc := 60) (x := (0 : Int32)) dX9_reason_60 kic_0 ?_
        refine z_istore C (pc := 61) (lv' := [(6, .int (0 : Int32)), (5, .int y14), (4, .int r8), (3, .int y1), (0, va_rf (some x0)), (1, .int x1), (2, .int x2)]) dX9_reason_61 (by decide) rfl ?_
        refine z_iconst C (pc := 63) (x := (0 : Int32)) dX9_reason_63 kic_0 ?_
        refine z_istore C (pc := 64) (lv' := [(7, .int (0 : Int32)), (6, .int (0 : Int32)), (5, .int y14), (4, .int r8), (3, .int y1), (0, va_rf (some x0)), (1, .int x1), (2, .int x2)]) dX9_reason_64 (by decide) rfl ?_
        obtain ⟨n41, h⟩ := h
        refine z_sub [5, 6, 7, 4, 3, 2, 1, 0] (lv' := [(0, va_rf (some x0)), (1, .int x1), (2, .int x2), (3, .int y1), (4, .int r8), (5, .int y14), (6, .int (0 : Int32)), (7, .int (0 : Int32))]) rfl ?_
        exact l_X9_reason_L66 l v x0 x1 x2 y1 r8 y14 Q C N T n41 S17 (0 : Int32) (0 : Int32) h
      · refine z_iconst C (pc := 56) (x := (1 : Int32)) dX9_reason_56 kic_1 ?_
        refine z_goto C (pc := 57) (tgt := 61) dX9_reason_57 (by decide) ?_
        refine z_istore C (pc := 61) (lv' := [(6, .int (1 : Int32)), (5, .int y14), (4, .int r8), (3, .int y1), (0, va_rf (some x0)), (1, .int x1), (2, .int x2)]) dX9_reason_61 (by decide) rfl ?_
        refine z_iconst C (pc := 63) (x := (0 : Int32)) dX9_reason_63 kic_0 ?_
        refine z_istore C (pc := 64) (lv' := [(7, .int (0 : Int32)), (6, .int (1 : Int32)), (5, .int y14), (4, .int r8), (3, .int y1), (0, va_rf (some x0)), (1, .int x1), (2, .int x2)]) dX9_reason_64 (by decide) rfl ?_
        obtain ⟨n42, h⟩ := h
        refine z_sub [5, 6, 7, 4, 3, 2, 1, 0] (lv' := [(0, va_rf (some x0)), (1, .int x1), (2, .int x2), (3, .int y1), (4, .int r8), (5, .int y14), (6, .int (1 : Int32)), (7, .int (0 : Int32))]) rfl ?_
        exact l_X9_reason_L66 l v x0 x1 x2 y1 r8 y14 Q C N T n42 S17 (1 : Int32) (0 : Int32) h
    · refine z_iconst C (pc := 49) (x := (1 : Int32)) dX9_reason_49 kic_1 ?_
      exact z_iret C (pc := 50) T dX9_reason_50 (by decide) (by decide) h
  · refine z_iconst C (pc := 32) (x := (0 : Int32)) dX9_reason_32 kic_0 ?_
    exact z_iret C (pc := 33) T dX9_reason_33 (by decide) (by decide) h
def wp_X9_why (S : Hp) (x0 : Nat) (x1 : Int32) (Q : Int32 → Hp → Prop) : Prop :=
  okA S 9 x0 ∧ (wp_X9_isEvent S x0 x1 (fun r3 S2 => okA S2 9 x0 ∧ (wp_X9_asks S2 x0 r3 (fun r6 S5 => if r6 = 0 then (Q (0 : Int32) S5) else (okA S5 9 x0 ∧ (rd S5 11 (g_P S5 928 x0) (fun a8 => vp_in x1 (g_N S5 a8) ∧ (wp_X9_reason S5 x0 x1 (g_R S5 a8 x1.toNatClampNeg) (fun r13 S12 => Q r13 S12)))))))))
def rm_X9_why : Room := { frames := 3, cells := 0, slots := 0, locals := 73 }
set_option maxHeartbeats 4000000 in
set_option maxRecDepth 100000 in
theorem c_X9_why (l : Launch) (v : Ev) (S : Hp) (x0 : Nat) (x1 : Int32) : CI l v yX9_why cX9_why 2 (some .int) rm_X9_why [va_rf (some x0), .int x1] S (fun Q _ => wp_X9_why S x0 x1 Q) := by
  intro Q EQ h
  refine z_start [(0, va_rf (some x0)), (1, .int x1)] (by decide +kernel) (by simp only [la_i, la_r, la_n]) (cat_cr (cat_ci cat_nil)) (by simp only [ls_i, ls_r, ls_n]; decide) (fun z C N T => ?_)
  unfold wp_X9_why at h
  refine z_aload_n C (pc := 0) dX9_why_0 0 rfl ?_
  refine z_aload_n C (pc := 1) dX9_why_1 0 rfl ?_
  refine z_iload_n C (pc := 2) dX9_why_2 1 rfl ?_
  obtain ⟨o1, h⟩ := h
  refine z_Vi C (pc := 3) (KX := fun _ _ => False) (kc' := 0) (ks' := 0) (As := [.int x1]) (rest := [va_rf (some x0)]) rfl (c_X9_isEvent l v S x0 x1) mw_X9_isEvent bw_1177 bw_1179 bw_p49 (fit_of rfl) rfl rfl (Nat.le_of_ble_eq_true rfl) (by decide) rfl o1 dX9_why_3 h (fun r3 S2 h => ?_) (fun En S9 h => h.elim)
  obtain ⟨o4, h⟩ := h
  refine z_Vi C (pc := 6) (KX := fun _ _ => False) (kc' := 0) (ks' := 0) (As := [.int r3]) (rest := []) rfl (c_X9_asks l v S2 x0 r3) mw_X9_asks bw_1017 bw_1019 bw_p30 (fit_of rfl) rfl rfl (Nat.le_of_ble_eq_true rfl) (by decide) rfl o4 dX9_why_6 h (fun r6 S5 h => ?_) (fun En S9 h => h.elim)
  refine z_if_eq C (pc := 9) (tgt := 26) dX9_why_9 (by decide) h (fun h => ?_) (fun h => ?_)
  · refine z_iconst C (pc := 26) (x := (0 : Int32)) dX9_why_26 kic_0 ?_
    exact z_iret C (pc := 27) T dX9_why_27 (by decide) (by decide) h
  · refine z_aload_n C (pc := 12) dX9_why_12 0 rfl ?_
    refine z_iload_n C (pc := 13) dX9_why_13 1 rfl ?_
    refine z_aload_n C (pc := 14) dX9_why_14 0 rfl ?_
    obtain ⟨o7, h⟩ := h
    refine z_getP C (pc := 15) kf9 28 (by decide) rfl bw_936 (fun _ _ _ _ h => h) dX9_why_15 rfl o7 ?_
    refine z_iload_n C (pc := 18) dX9_why_18 1 rfl ?_
    obtain ⟨a8, e9, o10, h⟩ := h
    obtain ⟨v11, h⟩ := h
    refine z_iald C (pc := 19) dX9_why_19 e9 o10 v11 ?_
    refine z_Vi C (pc := 20) (KX := fun _ _ => False) (kc' := 0) (ks' := 0) (As := [.int x1, .int (g_R S5 a8 x1.toNatClampNeg)]) (rest := []) rfl (c_X9_reason l v S5 x0 x1 (g_R S5 a8 x1.toNatClampNeg)) mw_X9_reason bw_1189 bw_1191 bw_p51 (fit_of rfl) rfl rfl (Nat.le_of_ble_eq_true rfl) (by decide) rfl o7 dX9_why_20 h (fun r13 S12 h => ?_) (fun En S9 h => h.elim)
    refine z_goto C (pc := 23) (tgt := 27) dX9_why_23 (by decide) ?_
    exact z_iret C (pc := 27) T dX9_why_27 (by decide) (by decide) h
def wp_X9_areLawful_L86 (f0 : Nat) (f1 : Int32) (f2 : Int32) (f3 : Int32) (f4 : Int32) (Q : Int32 → Hp → Prop) : Nat → Hp → Int32 → Int32 → Prop
  | 0, _, _, _ => False
  | n + 1, S, w5, w6 => if f2 ≤ w6 then (bz w5 (Q w5 S)) else (if w5 = 0 then (bz w5 (Q w5 S)) else (okA S 9 f0 ∧ (rd S 11 (g_P S 929 f0) (fun a3 => vp_in w6 (g_N S a3) ∧ (rd S 11 (g_P S 930 f0) (fun a7 => vp_in w6 (g_N S a7) ∧ (wp_X9_reason S f0 (g_R S a3 w6.toNatClampNeg) (g_R S a7 w6.toNatClampNeg) (fun r12 S11 => if r12 = 0 then (wp_X9_areLawful_L86 f0 f1 f2 f3 f4 Q n S11 (1 : Int32) (w6 + (1 : Int32))) else (wp_X9_areLawful_L86 f0 f1 f2 f3 f4 Q n S11 (0 : Int32) (w6 + (1 : Int32)))))))))))
def wp_X9_areLawful_L29 (f0 : Nat) (f1 : Int32) (f2 : Int32) (f3 : Int32) (Q : Int32 → Hp → Prop) : Nat → Hp → Int32 → Int32 → Prop
  | 0, _, _, _ => False
  | n + 1, S, w4, w5 => okA S 9 f0 ∧ (if (g_I S 919 f0) ≤ w5 then (∃ n13, wp_X9_areLawful_L86 f0 f1 f2 f3 w4 Q n13 S (1 : Int32) (0 : Int32)) else (if ((f3 >>> (w5 &&& 31)) &&& (1 : Int32)) = (1 : Int32) then (¬ (f2 + (1 : Int32)) = 0 ∧ (rd S 11 (g_P S 930 f0) (fun a15 => vp_in (w4 - w4 / (f2 + (1 : Int32)) * (f2 + (1 : Int32))) (g_N S a15) ∧ (rd S 11 (g_P S 930 f0) (fun a19 => vp_in (w4 - w4 / (f2 + (1 : Int32)) * (f2 + (1 : Int32))) (g_N S a19) ∧ (lt (s_R S a19 (w4 - w4 / (f2 + (1 : Int32)) * (f2 + (1 : Int32))).toNatClampNeg ((g_R S a15 (w4 - w4 / (f2 + (1 : Int32)) * (f2 + (1 : Int32))).toNatClampNeg) ||| ((1 : Int32) <<< (w5 &&& 31)))) (fun S23 => ¬ (f2 + (1 : Int32)) = 0 ∧ (lt (w4 / (f2 + (1 : Int32))) (fun y25 => wp_X9_areLawful_L29 f0 f1 f2 f3 Q n S23 y25 (w5 + (1 : Int32))))))))))) else (wp_X9_areLawful_L29 f0 f1 f2 f3 Q n S w4 (w5 + (1 : Int32)))))
def wp_X9_areLawful_L3 (f0 : Nat) (f1 : Int32) (f2 : Int32) (f3 : Int32) (Q : Int32 → Hp → Prop) : Nat → Hp → Int32 → Prop
  | 0, _, _ => False
  | n + 1, S, w4 => if (4 : Int32) ≤ w4 then (∃ n26, wp_X9_areLawful_L29 f0 f1 f2 f3 Q n26 S f1 (0 : Int32)) else (okA S 9 f0 ∧ (rd S 11 (g_P S 930 f0) (fun a28 => vp_in w4 (g_N S a28) ∧ (lt (s_R S a28 w4.toNatClampNeg (0 : Int32)) (fun S32 => wp_X9_areLawful_L3 f0 f1 f2 f3 Q n S32 (w4 + (1 : Int32)))))))
def wp_X9_areLawful (S : Hp) (x0 : Nat) (x1 : Int32) (x2 : Int32) (x3 : Int32) (Q : Int32 → Hp → Prop) : Prop :=
  ∃ n33, wp_X9_areLawful_L3 x0 x1 x2 x3 Q n33 S (0 : Int32)
def rm_X9_areLawful : Room := { frames := 3, cells := 0, slots := 0, locals := 73 }
set_option maxHeartbeats 4000000 in
set_option maxRecDepth 100000 in
theorem l_X9_areLawful_L86 (l : Launch) (v : Ev) (f0 : Nat) (f1 : Int32) (f2 : Int32) (f3 : Int32) (f4 : Int32) (Q : Int32 → Hp → Prop) {EQ : String → Hp → Prop} {z : Z9} (C : Cx l v RX9 cX9_areLawful 7 (some .boolean) "areLawful" z) (N : NT z) (T : EE v rm_X9_areLawful (QI v Q) EQ z) : ∀ (n : Nat) (S : Hp) (w5 : Int32) (w6 : Int32), wp_X9_areLawful_L86 f0 f1 f2 f3 f4 Q n S w5 w6 → ZZ l v 7 rm_X9_areLawful z 0 0 S 86 [(0, va_rf (some f0)), (1, .int f1), (2, .int f2), (3, .int f3), (4, .int f4), (5, .int w5), (6, .int w6)] [] := by
  intro n
  induction n with
  | zero =>
    intro S w5 w6 h
    exact h.elim
  | succ n ih =>
    intro S w5 w6 h
    unfold wp_X9_areLawful_L86 at h
    refine z_iload C (pc := 86) dX9_areLawful_86 6 rfl ?_
    refine z_iload_n C (pc := 88) dX9_areLawful_88 2 rfl ?_
    refine z_icmp_ge C (pc := 89) (tgt := 131) dX9_areLawful_89 (by decide) h (fun h => ?_) (fun h => ?_)
    · refine z_iload C (pc := 131) dX9_areLawful_131 5 rfl ?_
      exact z_zret C (pc := 133) T dX9_areLawful_133 (by decide) (by decide) h
    · refine z_iload C (pc := 92) dX9_areLawful_92 5 rfl ?_
      refine z_if_eq C (pc := 94) (tgt := 131) dX9_areLawful_94 (by decide) h (fun h => ?_) (fun h => ?_)
      · refine z_iload C (pc := 131) dX9_areLawful_131 5 rfl ?_
        exact z_zret C (pc := 133) T dX9_areLawful_133 (by decide) (by decide) h
      · refine z_aload_n C (pc := 97) dX9_areLawful_97 0 rfl ?_
        refine z_aload_n C (pc := 98) dX9_areLawful_98 0 rfl ?_
        obtain ⟨o2, h⟩ := h
        refine z_getP C (pc := 99) kf9 29 (by decide) rfl bw_937 (fun _ _ _ _ h => h) dX9_areLawful_99 rfl o2 ?_
        refine z_iload C (pc := 102) dX9_areLawful_102 6 rfl ?_
        obtain ⟨a3, e4, o5, h⟩ := h
        obtain ⟨v6, h⟩ := h
        refine z_iald C (pc := 104) dX9_areLawful_104 e4 o5 v6 ?_
        refine z_aload_n C (pc := 105) dX9_areLawful_105 0 rfl ?_
        refine z_getP C (pc := 106) kf9 30 (by decide) rfl bw_938 (fun _ _ _ _ h => h) dX9_areLawful_106 rfl o2 ?_
        refine z_iload C (pc := 109) dX9_areLawful_109 6 rfl ?_
        obtain ⟨a7, e8, o9, h⟩ := h
        obtain ⟨v10, h⟩ := h
        refine z_iald C (pc := 111) dX9_areLawful_111 e8 o9 v10 ?_
        refine z_Vi C (pc := 112) (KX := fun _ _ => False) (kc' := 0) (ks' := 0) (As := [.int (g_R S a3 w6.toNatClampNeg), .int (g_R S a7 w6.toNatClampNeg)]) (rest := []) rfl (c_X9_reason l v S f0 (g_R S a3 w6.toNatClampNeg) (g_R S a7 w6.toNatClampNeg)) mw_X9_reason bw_1189 bw_1191 bw_p51 (fit_of rfl) rfl rfl (Nat.le_of_ble_eq_true rfl) (by decide) rfl o2 dX9_areLawful_112 h (fun r12 S11 h => ?_) (fun En S9 h => h.elim)
        refine z_if_ne C (pc := 115) (tgt := 122) dX9_areLawful_115 (by decide) h (fun h => ?_) (fun h => ?_)
        · refine z_iconst C (pc := 122) (x := (0 : Int32)) dX9_areLawful_122 kic_0 ?_
          refine z_istore C (pc := 123) (lv' := [(5, .int (0 : Int32)), (0, va_rf (some f0)), (1, .int f1), (2, .int f2), (3, .int f3), (4, .int f4), (6, .int w6)]) dX9_areLawful_123 (by decide) rfl ?_
          refine z_iinc C (pc := 125) (y := w6 + (1 : Int32)) (lv' := [(6, .int (w6 + (1 : Int32))), (5, .int (0 : Int32)), (0, va_rf (some f0)), (1, .int f1), (2, .int f2), (3, .int f3), (4, .int f4)]) dX9_areLawful_125 6 rfl rfl (by decide) rfl ?_
          refine z_goto C (pc := 128) (tgt := 86) dX9_areLawful_128 (by decide) ?_
          refine z_sub [2, 3, 4, 5, 6, 1, 0] (lv' := [(0, va_rf (some f0)), (1, .int f1), (2, .int f2), (3, .int f3), (4, .int f4), (5, .int (0 : Int32)), (6, .int (w6 + (1 : Int32)))]) rfl ?_
          exact ih S11 (0 : Int32) (w6 + (1 : Int32)) h
        · refine z_iconst C (pc := 118) (x := (1 : Int32)) dX9_areLawful_118 kic_1 ?_
          refine z_goto C (pc := 119) (tgt := 123) dX9_areLawful_119 (by decide) ?_
          refine z_istore C (pc := 123) (lv' := [(5, .int (1 : Int32)), (0, va_rf (some f0)), (1, .int f1), (2, .int f2), (3, .int f3), (4, .int f4), (6, .int w6)]) dX9_areLawful_123 (by decide) rfl ?_
          refine z_iinc C (pc := 125) (y := w6 + (1 : Int32)) (lv' := [(6, .int (w6 + (1 : Int32))), (5, .int (1 : Int32)), (0, va_rf (some f0)), (1, .int f1), (2, .int f2), (3, .int f3), (4, .int f4)]) dX9_areLawful_125 6 rfl rfl (by decide) rfl ?_
          refine z_goto C (pc := 128) (tgt := 86) dX9_areLawful_128 (by decide) ?_
          refine z_sub [2, 3, 4, 5, 6, 1, 0] (lv' := [(0, va_rf (some f0)), (1, .int f1), (2, .int f2), (3, .int f3), (4, .int f4), (5, .int (1 : Int32)), (6, .int (w6 + (1 : Int32)))]) rfl ?_
          exact ih S11 (1 : Int32) (w6 + (1 : Int32)) h
set_option maxHeartbeats 4000000 in
set_option maxRecDepth 100000 in
theorem l_X9_areLawful_L29 (l : Launch) (v : Ev) (f0 : Nat) (f1 : Int32) (f2 : Int32) (f3 : Int32) (Q : Int32 → Hp → Prop) {EQ : String → Hp → Prop} {z : Z9} (C : Cx l v RX9 cX9_areLawful 7 (some .boolean) "areLawful" z) (N : NT z) (T : EE v rm_X9_areLawful (QI v Q) EQ z) : ∀ (n : Nat) (S : Hp) (w4 : Int32) (w5 : Int32), wp_X9_areLawful_L29 f0 f1 f2 f3 Q n S w4 w5 → ZZ l v 7 rm_X9_areLawful z 0 0 S 29 [(0, va_rf (some f0)), (1, .int f1), (2, .int f2), (3, .int f3), (4, .int w4), (5, .int w5)] [] := by
  intro n
  induction n with
  | zero =>
    intro S w4 w5 h
    exact h.elim
  | succ n ih =>
    intro S w4 w5 h
    unfold wp_X9_areLawful_L29 at h
    refine z_iload C (pc := 29) dX9_areLawful_29 5 rfl ?_
    refine z_aload_n C (pc := 31) dX9_areLawful_31 0 rfl ?_
    obtain ⟨o1, h⟩ := h
    refine z_getI C (pc := 32) kf9 19 (by decide) rfl bw_927 (fun _ _ _ _ h => h) dX9_areLawful_32 rfl o1 ?_
    refine z_icmp_ge C (pc := 35) (tgt := 80) dX9_areLawful_35 (by decide) h (fun h => ?_) (fun h => ?_)
    · refine z_iconst C (pc := 80) (x := (1 : Int32)) dX9_areLawful_80 kic_1 ?_
      refine z_istore C (pc := 81) (lv' := [(5, .int (1 : Int32)), (0, va_rf (some f0)), (1, .int f1), (2, .int f2), (3, .int f3), (4, .int w4)]) dX9_areLawful_81 (by decide) rfl ?_
      refine z_iconst C (pc := 83) (x := (0 : Int32)) dX9_areLawful_83 kic_0 ?_
      refine z_istore C (pc := 84) (lv' := [(6, .int (0 : Int32)), (5, .int (1 : Int32)), (0, va_rf (some f0)), (1, .int f1), (2, .int f2), (3, .int f3), (4, .int w4)]) dX9_areLawful_84 (by decide) rfl ?_
      obtain ⟨n13, h⟩ := h
      refine z_sub [2, 3, 4, 5, 6, 1, 0] (lv' := [(0, va_rf (some f0)), (1, .int f1), (2, .int f2), (3, .int f3), (4, .int w4), (5, .int (1 : Int32)), (6, .int (0 : Int32))]) rfl ?_
      exact l_X9_areLawful_L86 l v f0 f1 f2 f3 w4 Q C N T n13 S (1 : Int32) (0 : Int32) h
    · refine z_iload_n C (pc := 38) dX9_areLawful_38 3 rfl ?_
      refine z_iload C (pc := 39) dX9_areLawful_39 5 rfl ?_
      refine z_ishr C (pc := 41) dX9_areLawful_41 ?_
      refine z_iconst C (pc := 42) (x := (1 : Int32)) dX9_areLawful_42 kic_1 ?_
      refine z_iand C (pc := 43) dX9_areLawful_43 ?_
      refine z_iconst C (pc := 44) (x := (1 : Int32)) dX9_areLawful_44 kic_1 ?_
      refine z_icmp_ne C (pc := 45) (tgt := 74) dX9_areLawful_45 (by decide) h (fun h => ?_) (fun h => ?_)
      · refine z_iinc C (pc := 74) (y := w5 + (1 : Int32)) (lv' := [(5, .int (w5 + (1 : Int32))), (0, va_rf (some f0)), (1, .int f1), (2, .int f2), (3, .int f3), (4, .int w4)]) dX9_areLawful_74 5 rfl rfl (by decide) rfl ?_
        refine z_goto C (pc := 77) (tgt := 29) dX9_areLawful_77 (by decide) ?_
        refine z_sub [1, 2, 3, 4, 5, 0] (lv' := [(0, va_rf (some f0)), (1, .int f1), (2, .int f2), (3, .int f3), (4, .int w4), (5, .int (w5 + (1 : Int32)))]) rfl ?_
        exact ih S w4 (w5 + (1 : Int32)) h
      · refine z_aload_n C (pc := 48) dX9_areLawful_48 0 rfl ?_
        refine z_getP C (pc := 49) kf9 30 (by decide) rfl bw_938 (fun _ _ _ _ h => h) dX9_areLawful_49 rfl o1 ?_
        refine z_iload C (pc := 52) dX9_areLawful_52 4 rfl ?_
        refine z_iload_n C (pc := 54) dX9_areLawful_54 2 rfl ?_
        refine z_iconst C (pc := 55) (x := (1 : Int32)) dX9_areLawful_55 kic_1 ?_
        refine z_iadd C (pc := 56) dX9_areLawful_56 ?_
        obtain ⟨n14, h⟩ := h
        refine z_irem C (pc := 57) dX9_areLawful_57 n14 ?_
        refine z_dup2 C (pc := 58) dX9_areLawful_58 rfl (cat_rf _) ?_
        obtain ⟨a15, e16, o17, h⟩ := h
        obtain ⟨v18, h⟩ := h
        refine z_iald C (pc := 59) dX9_areLawful_59 e16 o17 v18 ?_
        refine z_iconst C (pc := 60) (x := (1 : Int32)) dX9_areLawful_60 kic_1 ?_
        refine z_iload C (pc := 61) dX9_areLawful_61 5 rfl ?_
        refine z_ishl C (pc := 63) dX9_areLawful_63 ?_
        refine z_ior C (pc := 64) dX9_areLawful_64 ?_
        obtain ⟨a19, e20, o21, h⟩ := h
        obtain ⟨v22, h⟩ := h
        refine z_iast C (pc := 65) dX9_areLawful_65 e20 o21 v22 ?_
        refine z_lt h (fun S23 h => ?_)
        refine z_iload C (pc := 66) dX9_areLawful_66 4 rfl ?_
        refine z_iload_n C (pc := 68) dX9_areLawful_68 2 rfl ?_
        refine z_iconst C (pc := 69) (x := (1 : Int32)) dX9_areLawful_69 kic_1 ?_
        refine z_iadd C (pc := 70) dX9_areLawful_70 ?_
        obtain ⟨n24, h⟩ := h
        refine z_idiv C (pc := 71) dX9_areLawful_71 n24 ?_
        refine z_nI h (fun y25 h => ?_)
        refine z_istore C (pc := 72) (lv' := [(4, .int y25), (0, va_rf (some f0)), (1, .int f1), (2, .int f2), (3, .int f3), (5, .int w5)]) dX9_areLawful_72 (by decide) rfl ?_
        refine z_iinc C (pc := 74) (y := w5 + (1 : Int32)) (lv' := [(5, .int (w5 + (1 : Int32))), (4, .int y25), (0, va_rf (some f0)), (1, .int f1), (2, .int f2), (3, .int f3)]) dX9_areLawful_74 5 rfl rfl (by decide) rfl ?_
        refine z_goto C (pc := 77) (tgt := 29) dX9_areLawful_77 (by decide) ?_
        refine z_sub [2, 3, 4, 5, 1, 0] (lv' := [(0, va_rf (some f0)), (1, .int f1), (2, .int f2), (3, .int f3), (4, .int y25), (5, .int (w5 + (1 : Int32)))]) rfl ?_
        exact ih S23 y25 (w5 + (1 : Int32)) h
set_option maxHeartbeats 4000000 in
set_option maxRecDepth 100000 in
theorem l_X9_areLawful_L3 (l : Launch) (v : Ev) (f0 : Nat) (f1 : Int32) (f2 : Int32) (f3 : Int32) (Q : Int32 → Hp → Prop) {EQ : String → Hp → Prop} {z : Z9} (C : Cx l v RX9 cX9_areLawful 7 (some .boolean) "areLawful" z) (N : NT z) (T : EE v rm_X9_areLawful (QI v Q) EQ z) : ∀ (n : Nat) (S : Hp) (w4 : Int32), wp_X9_areLawful_L3 f0 f1 f2 f3 Q n S w4 → ZZ l v 7 rm_X9_areLawful z 0 0 S 3 [(0, va_rf (some f0)), (1, .int f1), (2, .int f2), (3, .int f3), (4, .int w4)] [] := by
  intro n
  induction n with
  | zero =>
    intro S w4 h
    exact h.elim
  | succ n ih =>
    intro S w4 h
    unfold wp_X9_areLawful_L3 at h
    refine z_iload C (pc := 3) dX9_areLawful_3 4 rfl ?_
    refine z_iconst C (pc := 5) (x := (4 : Int32)) dX9_areLawful_5 kic_4 ?_
    refine z_icmp_ge C (pc := 6) (tgt := 23) dX9_areLawful_6 (by decide) h (fun h => ?_) (fun h => ?_)
    · refine z_iload_n C (pc := 23) dX9_areLawful_23 1 rfl ?_
      refine z_istore C (pc := 24) (lv' := [(4, .int f1), (0, va_rf (some f0)), (1, .int f1), (2, .int f2), (3, .int f3)]) dX9_areLawful_24 (by decide) rfl ?_
      refine z_iconst C (pc := 26) (x := (0 : Int32)) dX9_areLawful_26 kic_0 ?_
      refine z_istore C (pc := 27) (lv' := [(5, .int (0 : Int32)), (4, .int f1), (0, va_rf (some f0)), (1, .int f1), (2, .int f2), (3, .int f3)]) dX9_areLawful_27 (by decide) rfl ?_
      obtain ⟨n26, h⟩ := h
      refine z_sub [2, 3, 4, 5, 1, 0] (lv' := [(0, va_rf (some f0)), (1, .int f1), (2, .int f2), (3, .int f3), (4, .int f1), (5, .int (0 : Int32))]) rfl ?_
      exact l_X9_areLawful_L29 l v f0 f1 f2 f3 Q C N T n26 S f1 (0 : Int32) h
    · refine z_aload_n C (pc := 9) dX9_areLawful_9 0 rfl ?_
      obtain ⟨o27, h⟩ := h
      refine z_getP C (pc := 10) kf9 30 (by decide) rfl bw_938 (fun _ _ _ _ h => h) dX9_areLawful_10 rfl o27 ?_
      refine z_iload C (pc := 13) dX9_areLawful_13 4 rfl ?_
      refine z_iconst C (pc := 15) (x := (0 : Int32)) dX9_areLawful_15 kic_0 ?_
      obtain ⟨a28, e29, o30, h⟩ := h
      obtain ⟨v31, h⟩ := h
      refine z_iast C (pc := 16) dX9_areLawful_16 e29 o30 v31 ?_
      refine z_lt h (fun S32 h => ?_)
      refine z_iinc C (pc := 17) (y := w4 + (1 : Int32)) (lv' := [(4, .int (w4 + (1 : Int32))), (0, va_rf (some f0)), (1, .int f1), (2, .int f2), (3, .int f3)]) dX9_areLawful_17 4 rfl rfl (by decide) rfl ?_
      refine z_goto C (pc := 20) (tgt := 3) dX9_areLawful_20 (by decide) ?_
      refine z_sub [1, 2, 3, 4, 0] (lv' := [(0, va_rf (some f0)), (1, .int f1), (2, .int f2), (3, .int f3), (4, .int (w4 + (1 : Int32)))]) rfl ?_
      exact ih S32 (w4 + (1 : Int32)) h
set_option maxHeartbeats 4000000 in
set_option maxRecDepth 100000 in
theorem c_X9_areLawful (l : Launch) (v : Ev) (S : Hp) (x0 : Nat) (x1 : Int32) (x2 : Int32) (x3 : Int32) : CI l v yX9_areLawful cX9_areLawful 7 (some .boolean) rm_X9_areLawful [va_rf (some x0), .int x1, .int x2, .int x3] S (fun Q _ => wp_X9_areLawful S x0 x1 x2 x3 Q) := by
  intro Q EQ h
  refine z_start [(0, va_rf (some x0)), (1, .int x1), (2, .int x2), (3, .int x3)] (by decide +kernel) (by simp only [la_i, la_r, la_n]) (cat_cr (cat_ci (cat_ci (cat_ci cat_nil)))) (by simp only [ls_i, ls_r, ls_n]; decide) (fun z C N T => ?_)
  unfold wp_X9_areLawful at h
  refine z_iconst C (pc := 0) (x := (0 : Int32)) dX9_areLawful_0 kic_0 ?_
  refine z_istore C (pc := 1) (lv' := [(4, .int (0 : Int32)), (0, va_rf (some x0)), (1, .int x1), (2, .int x2), (3, .int x3)]) dX9_areLawful_1 (by decide) rfl ?_
  obtain ⟨n33, h⟩ := h
  refine z_sub [1, 2, 3, 4, 0] (lv' := [(0, va_rf (some x0)), (1, .int x1), (2, .int x2), (3, .int x3), (4, .int (0 : Int32))]) rfl ?_
  exact l_X9_areLawful_L3 l v x0 x1 x2 x3 Q C N T n33 S (0 : Int32) h
def wp_X9_couldStaff_L263 (f0 : Nat) (f1 : Int32) (f2 : Int32) (f3 : Int32) (f4 : Int32) (f5 : Int32) (Q : Int32 → Hp → Prop) : Nat → Hp → Int32 → Int32 → Prop
  | 0, _, _, _ => False
  | n + 1, S, w6, w7 => if f5 ≤ w7 then (bz w6 (Q w6 S)) else (if w6 = 0 then (okA S 9 f0 ∧ (wp_X9_areLawful S f0 w7 f4 f3 (fun r10 S9 => wp_X9_couldStaff_L263 f0 f1 f2 f3 f4 f5 Q n S9 r10 (w7 + (1 : Int32))))) else (bz w6 (Q w6 S)))
def wp_X9_couldStaff_L210 (f0 : Nat) (f1 : Int32) (f2 : Int32) (f3 : Int32) (f4 : Int32) (Q : Int32 → Hp → Prop) : Nat → Hp → Int32 → Int32 → Prop
  | 0, _, _, _ => False
  | n + 1, S, w5, w6 => okA S 9 f0 ∧ (if (g_I S 919 f0) ≤ w6 then (if f4 = 0 then (∃ n12, wp_X9_couldStaff_L263 f0 f1 f2 f3 f4 w5 Q n12 S (1 : Int32) (0 : Int32)) else (∃ n11, wp_X9_couldStaff_L263 f0 f1 f2 f3 f4 w5 Q n11 S (0 : Int32) (0 : Int32))) else (if ((f3 >>> (w6 &&& 31)) &&& (1 : Int32)) = (1 : Int32) then (lt (w5 * (f4 + (1 : Int32))) (fun y14 => wp_X9_couldStaff_L210 f0 f1 f2 f3 f4 Q n S y14 (w6 + (1 : Int32)))) else (lt (w5 * (1 : Int32)) (fun y13 => wp_X9_couldStaff_L210 f0 f1 f2 f3 f4 Q n S y13 (w6 + (1 : Int32))))))
def wp_X9_couldStaff_L53 (f0 : Nat) (f1 : Int32) (f2 : Int32) (f3 : Int32) (Q : Int32 → Hp → Prop) : Nat → Hp → Int32 → Int32 → Prop
  | 0, _, _, _ => False
  | n + 1, S, w4, w5 => okA S 9 f0 ∧ (if (g_I S 926 f0) ≤ w5 then (if w4 ≤ (3 : Int32) then (∃ n15, wp_X9_couldStaff_L210 f0 f1 f2 f3 w4 Q n15 S (1 : Int32) (0 : Int32)) else (lt (s_I S 931 f0 (2 : Int32)) (fun S16 => bz (0 : Int32) (Q (0 : Int32) S16)))) else (lt ((6 : Int32) * w5) (fun y17 => rd S 11 (g_P S 927 f0) (fun a18 => vp_in (y17 + (3 : Int32)) (g_N S a18) ∧ (if (g_R S a18 (y17 + (3 : Int32)).toNatClampNeg) = f1 then (rd S 11 (g_P S 927 f0) (fun a62 => vp_in (y17 + (4 : Int32)) (g_N S a62) ∧ (rd S 11 (g_P S 927 f0) (fun a66 => vp_in (y17 + (4 : Int32)) (g_N S a66) ∧ (rd S 11 (g_P S 927 f0) (fun a70 => vp_in (y17 + (5 : Int32)) (g_N S a70) ∧ (wp_X9_in S f2 (g_R S a62 (y17 + (4 : Int32)).toNatClampNeg) (((g_R S a66 (y17 + (4 : Int32)).toNatClampNeg) + (g_R S a70 (y17 + (5 : Int32)).toNatClampNeg)) - (1 : Int32)) (fun r75 S74 => if r75 = 0 then (okA S74 9 f0 ∧ (if (4 : Int32) ≤ w4 then (if (4 : Int32) ≤ w4 then (rd S74 11 (g_P S74 929 f0) (fun a77 => vp_in (3 : Int32) (g_N S74 a77) ∧ (rd S74 11 (g_P S74 929 f0) (fun a81 => vp_in (3 : Int32) (g_N S74 a81) ∧ (lt (s_R S74 a81 (3 : Int32).toNatClampNeg (g_R S74 a77 (3 : Int32).toNatClampNeg)) (fun S85 => lt (w4 + (0 : Int32)) (fun y86 => wp_X9_couldStaff_L53 f0 f1 f2 f3 Q n S85 y86 (w5 + (1 : Int32))))))))) else (rd S74 11 (g_P S74 929 f0) (fun a87 => vp_in w4 (g_N S74 a87) ∧ (rd S74 11 (g_P S74 929 f0) (fun a91 => vp_in (3 : Int32) (g_N S74 a91) ∧ (lt (s_R S74 a91 (3 : Int32).toNatClampNeg (g_R S74 a87 w4.toNatClampNeg)) (fun S95 => lt (w4 + (0 : Int32)) (fun y96 => wp_X9_couldStaff_L53 f0 f1 f2 f3 Q n S95 y96 (w5 + (1 : Int32)))))))))) else (if (4 : Int32) ≤ w4 then (rd S74 11 (g_P S74 929 f0) (fun a97 => vp_in (3 : Int32) (g_N S74 a97) ∧ (rd S74 11 (g_P S74 929 f0) (fun a101 => vp_in w4 (g_N S74 a101) ∧ (lt (s_R S74 a101 w4.toNatClampNeg (g_R S74 a97 (3 : Int32).toNatClampNeg)) (fun S105 => lt (w4 + (0 : Int32)) (fun y106 => wp_X9_couldStaff_L53 f0 f1 f2 f3 Q n S105 y106 (w5 + (1 : Int32))))))))) else (rd S74 11 (g_P S74 929 f0) (fun a107 => vp_in w4 (g_N S74 a107) ∧ (rd S74 11 (g_P S74 929 f0) (fun a111 => vp_in w4 (g_N S74 a111) ∧ (lt (s_R S74 a111 w4.toNatClampNeg (g_R S74 a107 w4.toNatClampNeg)) (fun S115 => lt (w4 + (0 : Int32)) (fun y116 => wp_X9_couldStaff_L53 f0 f1 f2 f3 Q n S115 y116 (w5 + (1 : Int32)))))))))))) else (okA S74 9 f0 ∧ (if (4 : Int32) ≤ w4 then (rd S74 11 (g_P S74 929 f0) (fun a118 => vp_in (3 : Int32) (g_N S74 a118) ∧ (lt (s_R S74 a118 (3 : Int32).toNatClampNeg w5) (fun S122 => lt (w4 + (1 : Int32)) (fun y123 => wp_X9_couldStaff_L53 f0 f1 f2 f3 Q n S122 y123 (w5 + (1 : Int32))))))) else (rd S74 11 (g_P S74 929 f0) (fun a124 => vp_in w4 (g_N S74 a124) ∧ (lt (s_R S74 a124 w4.toNatClampNeg w5) (fun S128 => lt (w4 + (1 : Int32)) (fun y129 => wp_X9_couldStaff_L53 f0 f1 f2 f3 Q n S128 y129 (w5 + (1 : Int32))))))))))))))))) else (if (4 : Int32) ≤ w4 then (if (4 : Int32) ≤ w4 then (rd S 11 (g_P S 929 f0) (fun a22 => vp_in (3 : Int32) (g_N S a22) ∧ (rd S 11 (g_P S 929 f0) (fun a26 => vp_in (3 : Int32) (g_N S a26) ∧ (lt (s_R S a26 (3 : Int32).toNatClampNeg (g_R S a22 (3 : Int32).toNatClampNeg)) (fun S30 => lt (w4 + (0 : Int32)) (fun y31 => wp_X9_couldStaff_L53 f0 f1 f2 f3 Q n S30 y31 (w5 + (1 : Int32))))))))) else (rd S 11 (g_P S 929 f0) (fun a32 => vp_in w4 (g_N S a32) ∧ (rd S 11 (g_P S 929 f0) (fun a36 => vp_in (3 : Int32) (g_N S a36) ∧ (lt (s_R S a36 (3 : Int32).toNatClampNeg (g_R S a32 w4.toNatClampNeg)) (fun S40 => lt (w4 + (0 : Int32)) (fun y41 => wp_X9_couldStaff_L53 f0 f1 f2 f3 Q n S40 y41 (w5 + (1 : Int32)))))))))) else (if (4 : Int32) ≤ w4 then (rd S 11 (g_P S 929 f0) (fun a42 => vp_in (3 : Int32) (g_N S a42) ∧ (rd S 11 (g_P S 929 f0) (fun a46 => vp_in w4 (g_N S a46) ∧ (lt (s_R S a46 w4.toNatClampNeg (g_R S a42 (3 : Int32).toNatClampNeg)) (fun S50 => lt (w4 + (0 : Int32)) (fun y51 => wp_X9_couldStaff_L53 f0 f1 f2 f3 Q n S50 y51 (w5 + (1 : Int32))))))))) else (rd S 11 (g_P S 929 f0) (fun a52 => vp_in w4 (g_N S a52) ∧ (rd S 11 (g_P S 929 f0) (fun a56 => vp_in w4 (g_N S a56) ∧ (lt (s_R S a56 w4.toNatClampNeg (g_R S a52 w4.toNatClampNeg)) (fun S60 => lt (w4 + (0 : Int32)) (fun y61 => wp_X9_couldStaff_L53 f0 f1 f2 f3 Q n S60 y61 (w5 + (1 : Int32))))))))))))))))
def wp_X9_couldStaff (S : Hp) (x0 : Nat) (x1 : Int32) (x2 : Int32) (x3 : Int32) (Q : Int32 → Hp → Prop) : Prop :=
  wp_X9_isDay S x1 (fun r2 S1 => if r2 = 0 then (okA S1 9 x0 ∧ (wp_X9_asks S1 x0 (0 : Int32) (fun r5 S4 => if r5 = 0 then (bz (0 : Int32) (Q (0 : Int32) S4)) else (∃ n130, wp_X9_couldStaff_L53 x0 x1 x2 x3 Q n130 S4 (0 : Int32) (0 : Int32))))) else (wp_X9_in S1 x2 (0 : Int32) (23 : Int32) (fun r132 S131 => if r132 = 0 then (okA S131 9 x0 ∧ (wp_X9_asks S131 x0 (0 : Int32) (fun r135 S134 => if r135 = 0 then (bz (0 : Int32) (Q (0 : Int32) S134)) else (∃ n136, wp_X9_couldStaff_L53 x0 x1 x2 x3 Q n136 S134 (0 : Int32) (0 : Int32))))) else (okA S131 9 x0 ∧ (wp_X9_in S131 x3 (0 : Int32) (((1 : Int32) <<< ((g_I S131 919 x0) &&& 31)) - (1 : Int32)) (fun r139 S138 => if r139 = 0 then (okA S138 9 x0 ∧ (wp_X9_asks S138 x0 (0 : Int32) (fun r142 S141 => if r142 = 0 then (bz (0 : Int32) (Q (0 : Int32) S141)) else (∃ n143, wp_X9_couldStaff_L53 x0 x1 x2 x3 Q n143 S141 (0 : Int32) (0 : Int32))))) else (okA S138 9 x0 ∧ (wp_X9_asks S138 x0 (1 : Int32) (fun r146 S145 => if r146 = 0 then (bz (0 : Int32) (Q (0 : Int32) S145)) else (∃ n147, wp_X9_couldStaff_L53 x0 x1 x2 x3 Q n147 S145 (0 : Int32) (0 : Int32)))))))))))
def rm_X9_couldStaff : Room := { frames := 4, cells := 0, slots := 0, locals := 99 }
set_option maxHeartbeats 4000000 in
set_option maxRecDepth 100000 in
theorem l_X9_couldStaff_L263 (l : Launch) (v : Ev) (f0 : Nat) (f1 : Int32) (f2 : Int32) (f3 : Int32) (f4 : Int32) (f5 : Int32) (Q : Int32 → Hp → Prop) {EQ : String → Hp → Prop} {z : Z9} (C : Cx l v RX9 cX9_couldStaff 8 (some .boolean) "couldStaff" z) (N : NT z) (T : EE v rm_X9_couldStaff (QI v Q) EQ z) : ∀ (n : Nat) (S : Hp) (w6 : Int32) (w7 : Int32), wp_X9_couldStaff_L263 f0 f1 f2 f3 f4 f5 Q n S w6 w7 → ZZ l v 8 rm_X9_couldStaff z 0 0 S 263 [(0, va_rf (some f0)), (1, .int f1), (2, .int f2), (3, .int f3), (4, .int f4), (5, .int f5), (6, .int w6), (7, .int w7)] [] := by
  intro n
  induction n with
  | zero =>
    intro S w6 w7 h
    exact h.elim
  | succ n ih =>
    intro S w6 w7 h
    unfold wp_X9_couldStaff_L263 at h
    refine z_iload C (pc := 263) dX9_couldStaff_263 7 rfl ?_
    refine z_iload C (pc := 265) dX9_couldStaff_265 5 rfl ?_
    refine z_icmp_ge C (pc := 267) (tgt := 292) dX9_couldStaff_267 (by decide) h (fun h => ?_) (fun h => ?_)
    · refine z_iload C (pc := 292) dX9_couldStaff_292 6 rfl ?_
      exact z_zret C (pc := 294) T dX9_couldStaff_294 (by decide) (by decide) h
    · refine z_iload C (pc := 270) dX9_couldStaff_270 6 rfl ?_
      refine z_if_ne C (pc := 272) (tgt := 292) dX9_couldStaff_272 (by decide) h (fun h => ?_) (fun h => ?_)
      · refine z_iload C (pc := 292) dX9_couldStaff_292 6 rfl ?_
        exact z_zret C (pc := 294) T dX9_couldStaff_294 (by decide) (by decide) h
      · refine z_aload_n C (pc := 275) dX9_couldStaff_275 0 rfl ?_
        refine z_iload C (pc := 276) dX9_couldStaff_276 7 rfl ?_
        refine z_iload C (pc := 278) dX9_couldStaff_278 4 rfl ?_
        refine z_iload_n C (pc := 280) dX9_couldStaff_280 3 rfl ?_
        obtain ⟨o8, h⟩ := h
        refine z_Vi C (pc := 281) (KX := fun _ _ => False) (kc' := 0) (ks' := 0) (As := [.int w7, .int f4, .int f3]) (rest := []) rfl (c_X9_areLawful l v S f0 w7 f4 f3) mw_X9_areLawful bw_1200 bw_1202 bw_p52 (fit_of rfl) rfl rfl (Nat.le_of_ble_eq_true rfl) (by decide) rfl o8 dX9_couldStaff_281 h (fun r10 S9 h => ?_) (fun En S9 h => h.elim)
        refine z_istore C (pc := 284) (lv' := [(6, .int r10), (0, va_rf (some f0)), (1, .int f1), (2, .int f2), (3, .int f3), (4, .int f4), (5, .int f5), (7, .int w7)]) dX9_couldStaff_284 (by decide) rfl ?_
        refine z_iinc C (pc := 286) (y := w7 + (1 : Int32)) (lv' := [(7, .int (w7 + (1 : Int32))), (6, .int r10), (0, va_rf (some f0)), (1, .int f1), (2, .int f2), (3, .int f3), (4, .int f4), (5, .int f5)]) dX9_couldStaff_286 7 rfl rfl (by decide) rfl ?_
        refine z_goto C (pc := 289) (tgt := 263) dX9_couldStaff_289 (by decide) ?_
        refine z_sub [2, 3, 4, 5, 6, 7, 1, 0] (lv' := [(0, va_rf (some f0)), (1, .int f1), (2, .int f2), (3, .int f3), (4, .int f4), (5, .int f5), (6, .int r10), (7, .int (w7 + (1 : Int32)))]) rfl ?_
        exact ih S9 r10 (w7 + (1 : Int32)) h
set_option maxHeartbeats 4000000 in
set_option maxRecDepth 100000 in
theorem l_X9_couldStaff_L210 (l : Launch) (v : Ev) (f0 : Nat) (f1 : Int32) (f2 : Int32) (f3 : Int32) (f4 : Int32) (Q : Int32 → Hp → Prop) {EQ : String → Hp → Prop} {z : Z9} (C : Cx l v RX9 cX9_couldStaff 8 (some .boolean) "couldStaff" z) (N : NT z) (T : EE v rm_X9_couldStaff (QI v Q) EQ z) : ∀ (n : Nat) (S : Hp) (w5 : Int32) (w6 : Int32), wp_X9_couldStaff_L210 f0 f1 f2 f3 f4 Q n S w5 w6 → ZZ l v 8 rm_X9_couldStaff z 0 0 S 210 [(0, va_rf (some f0)), (1, .int f1), (2, .int f2), (3, .int f3), (4, .int f4), (5, .int w5), (6, .int w6)] [] := by
  intro n
  induction n with
  | zero =>
    intro S w5 w6 h
    exact h.elim
  | succ n ih =>
    intro S w5 w6 h
    unfold wp_X9_couldStaff_L210 at h
    refine z_iload C (pc := 210) dX9_couldStaff_210 6 rfl ?_
    refine z_aload_n C (pc := 212) dX9_couldStaff_212 0 rfl ?_
    obtain ⟨o7, h⟩ := h
    refine z_getI C (pc := 213) kf9 19 (by decide) rfl bw_927 (fun _ _ _ _ h => h) dX9_couldStaff_213 rfl o7 ?_
    refine z_icmp_ge C (pc := 216) (tgt := 248) dX9_couldStaff_216 (by decide) h (fun h => ?_) (fun h => ?_)
    · refine z_iload C (pc := 248) dX9_couldStaff_248 4 rfl ?_
      refine z_if_ne C (pc := 250) (tgt := 257) dX9_couldStaff_250 (by decide) h (fun h => ?_) (fun h => ?_)
      · refine z_iconst C (pc := 257) (x := (0 : Int32)) dX9_couldStaff_257 kic_0 ?_
        refine z_istore C (pc := 258) (lv' := [(6, .int (0 : Int32)), (0, va_rf (some f0)), (1, .int f1), (2, .int f2), (3, .int f3), (4, .int f4), (5, .int w5)]) dX9_couldStaff_258 (by decide) rfl ?_
        refine z_iconst C (pc := 260) (x := (0 : Int32)) dX9_couldStaff_260 kic_0 ?_
        refine z_istore C (pc := 261) (lv' := [(7, .int (0 : Int32)), (6, .int (0 : Int32)), (0, va_rf (some f0)), (1, .int f1), (2, .int f2), (3, .int f3), (4, .int f4), (5, .int w5)]) dX9_couldStaff_261 (by decide) rfl ?_
        obtain ⟨n11, h⟩ := h
        refine z_sub [2, 3, 4, 5, 6, 7, 1, 0] (lv' := [(0, va_rf (some f0)), (1, .int f1), (2, .int f2), (3, .int f3), (4, .int f4), (5, .int w5), (6, .int (0 : Int32)), (7, .int (0 : Int32))]) rfl ?_
        exact l_X9_couldStaff_L263 l v f0 f1 f2 f3 f4 w5 Q C N T n11 S (0 : Int32) (0 : Int32) h
      · refine z_iconst C (pc := 253) (x := (1 : Int32)) dX9_couldStaff_253 kic_1 ?_
        refine z_goto C (pc := 254) (tgt := 258) dX9_couldStaff_254 (by decide) ?_
        refine z_istore C (pc := 258) (lv' := [(6, .int (1 : Int32)), (0, va_rf (some f0)), (1, .int f1), (2, .int f2), (3, .int f3), (4, .int f4), (5, .int w5)]) dX9_couldStaff_258 (by decide) rfl ?_
        refine z_iconst C (pc := 260) (x := (0 : Int32)) dX9_couldStaff_260 kic_0 ?_
        refine z_istore C (pc := 261) (lv' := [(7, .int (0 : Int32)), (6, .int (1 : Int32)), (0, va_rf (some f0)), (1, .int f1), (2, .int f2), (3, .int f3), (4, .int f4), (5, .int w5)]) dX9_couldStaff_261 (by decide) rfl ?_
        obtain ⟨n12, h⟩ := h
        refine z_sub [2, 3, 4, 5, 6, 7, 1, 0] (lv' := [(0, va_rf (some f0)), (1, .int f1), (2, .int f2), (3, .int f3), (4, .int f4), (5, .int w5), (6, .int (1 : Int32)), (7, .int (0 : Int32))]) rfl ?_
        exact l_X9_couldStaff_L263 l v f0 f1 f2 f3 f4 w5 Q C N T n12 S (1 : Int32) (0 : Int32) h
    · refine z_iload C (pc := 219) dX9_couldStaff_219 5 rfl ?_
      refine z_iload_n C (pc := 221) dX9_couldStaff_221 3 rfl ?_
      refine z_iload C (pc := 222) dX9_couldStaff_222 6 rfl ?_
      refine z_ishr C (pc := 224) dX9_couldStaff_224 ?_
      refine z_iconst C (pc := 225) (x := (1 : Int32)) dX9_couldStaff_225 kic_1 ?_
      refine z_iand C (pc := 226) dX9_couldStaff_226 ?_
      refine z_iconst C (pc := 227) (x := (1 : Int32)) dX9_couldStaff_227 kic_1 ?_
      refine z_icmp_ne C (pc := 228) (tgt := 238) dX9_couldStaff_228 (by decide) h (fun h => ?_) (fun h => ?_)
      · refine z_iconst C (pc := 238) (x := (1 : Int32)) dX9_couldStaff_238 kic_1 ?_
        refine z_imul C (pc := 239) dX9_couldStaff_239 ?_
        refine z_nI h (fun y13 h => ?_)
        refine z_istore C (pc := 240) (lv' := [(5, .int y13), (0, va_rf (some f0)), (1, .int f1), (2, .int f2), (3, .int f3), (4, .int f4), (6, .int w6)]) dX9_couldStaff_240 (by decide) rfl ?_
        refine z_iinc C (pc := 242) (y := w6 + (1 : Int32)) (lv' := [(6, .int (w6 + (1 : Int32))), (5, .int y13), (0, va_rf (some f0)), (1, .int f1), (2, .int f2), (3, .int f3), (4, .int f4)]) dX9_couldStaff_242 6 rfl rfl (by decide) rfl ?_
        refine z_goto C (pc := 245) (tgt := 210) dX9_couldStaff_245 (by decide) ?_
        refine z_sub [2, 3, 4, 5, 6, 1, 0] (lv' := [(0, va_rf (some f0)), (1, .int f1), (2, .int f2), (3, .int f3), (4, .int f4), (5, .int y13), (6, .int (w6 + (1 : Int32)))]) rfl ?_
        exact ih S y13 (w6 + (1 : Int32)) h
      · refine z_iload C (pc := 231) dX9_couldStaff_231 4 rfl ?_
        refine z_iconst C (pc := 233) (x := (1 : Int32)) dX9_couldStaff_233 kic_1 ?_
        refine z_iadd C (pc := 234) dX9_couldStaff_234 ?_
        refine z_goto C (pc := 235) (tgt := 239) dX9_couldStaff_235 (by decide) ?_
        refine z_imul C (pc := 239) dX9_couldStaff_239 ?_
        refine z_nI h (fun y14 h => ?_)
        refine z_istore C (pc := 240) (lv' := [(5, .int y14), (0, va_rf (some f0)), (1, .int f1), (2, .int f2), (3, .int f3), (4, .int f4), (6, .int w6)]) dX9_couldStaff_240 (by decide) rfl ?_
        refine z_iinc C (pc := 242) (y := w6 + (1 : Int32)) (lv' := [(6, .int (w6 + (1 : Int32))), (5, .int y14), (0, va_rf (some f0)), (1, .int f1), (2, .int f2), (3, .int f3), (4, .int f4)]) dX9_couldStaff_242 6 rfl rfl (by decide) rfl ?_
        refine z_goto C (pc := 245) (tgt := 210) dX9_couldStaff_245 (by decide) ?_
        refine z_sub [2, 3, 4, 5, 6, 1, 0] (lv' := [(0, va_rf (some f0)), (1, .int f1), (2, .int f2), (3, .int f3), (4, .int f4), (5, .int y14), (6, .int (w6 + (1 : Int32)))]) rfl ?_
        exact ih S y14 (w6 + (1 : Int32)) h
set_option maxHeartbeats 4000000 in
set_option maxRecDepth 100000 in
theorem l_X9_couldStaff_L53 (l : Launch) (v : Ev) (f0 : Nat) (f1 : Int32) (f2 : Int32) (f3 : Int32) (Q : Int32 → Hp → Prop) {EQ : String → Hp → Prop} {z : Z9} (C : Cx l v RX9 cX9_couldStaff 8 (some .boolean) "couldStaff" z) (N : NT z) (T : EE v rm_X9_couldStaff (QI v Q) EQ z) : ∀ (n : Nat) (S : Hp) (w4 : Int32) (w5 : Int32), wp_X9_couldStaff_L53 f0 f1 f2 f3 Q n S w4 w5 → ZZ l v 8 rm_X9_couldStaff z 0 0 S 53 [(0, va_rf (some f0)), (1, .int f1), (2, .int f2), (3, .int f3), (4, .int w4), (5, .int w5)] [] := by
  intro n
  induction n with
  | zero =>
    intro S w4 w5 h
    exact h.elim
  | succ n ih =>
    intro S w4 w5 h
    unfold wp_X9_couldStaff_L53 at h
    refine z_iload C (pc := 53) dX9_couldStaff_53 5 rfl ?_
    refine z_aload_n C (pc := 55) dX9_couldStaff_55 0 rfl ?_
    obtain ⟨o6, h⟩ := h
    refine z_getI C (pc := 56) kf9 26 (by decide) rfl bw_934 (fun _ _ _ _ h => h) dX9_couldStaff_56 rfl o6 ?_
    refine z_icmp_ge C (pc := 59) (tgt := 191) dX9_couldStaff_59 (by decide) h (fun h => ?_) (fun h => ?_)
    · refine z_iload C (pc := 191) dX9_couldStaff_191 4 rfl ?_
      refine z_iconst C (pc := 193) (x := (3 : Int32)) dX9_couldStaff_193 kic_3 ?_
      refine z_icmp_le C (pc := 194) (tgt := 204) dX9_couldStaff_194 (by decide) h (fun h => ?_) (fun h => ?_)
      · refine z_iconst C (pc := 204) (x := (1 : Int32)) dX9_couldStaff_204 kic_1 ?_
        refine z_istore C (pc := 205) (lv' := [(5, .int (1 : Int32)), (0, va_rf (some f0)), (1, .int f1), (2, .int f2), (3, .int f3), (4, .int w4)]) dX9_couldStaff_205 (by decide) rfl ?_
        refine z_iconst C (pc := 207) (x := (0 : Int32)) dX9_couldStaff_207 kic_0 ?_
        refine z_istore C (pc := 208) (lv' := [(6, .int (0 : Int32)), (5, .int (1 : Int32)), (0, va_rf (some f0)), (1, .int f1), (2, .int f2), (3, .int f3), (4, .int w4)]) dX9_couldStaff_208 (by decide) rfl ?_
        obtain ⟨n15, h⟩ := h
        refine z_sub [2, 3, 4, 5, 6, 1, 0] (lv' := [(0, va_rf (some f0)), (1, .int f1), (2, .int f2), (3, .int f3), (4, .int w4), (5, .int (1 : Int32)), (6, .int (0 : Int32))]) rfl ?_
        exact l_X9_couldStaff_L210 l v f0 f1 f2 f3 w4 Q C N T n15 S (1 : Int32) (0 : Int32) h
      · refine z_aload_n C (pc := 197) dX9_couldStaff_197 0 rfl ?_
        refine z_iconst C (pc := 198) (x := (2 : Int32)) dX9_couldStaff_198 kic_2 ?_
        refine z_putI C (pc := 199) kf9 31 (by decide) rfl rfl bw_939 (fun _ _ _ _ h => h) dX9_couldStaff_199 rfl o6 ?_
        refine z_lt h (fun S16 h => ?_)
        refine z_iconst C (pc := 202) (x := (0 : Int32)) dX9_couldStaff_202 kic_0 ?_
        exact z_zret C (pc := 203) T dX9_couldStaff_203 (by decide) (by decide) h
    · refine z_bipush C (pc := 62) (x := (6 : Int32)) dX9_couldStaff_62 kbp_6 ?_
      refine z_iload C (pc := 64) dX9_couldStaff_64 5 rfl ?_
      refine z_imul C (pc := 66) dX9_couldStaff_66 ?_
      refine z_nI h (fun y17 h => ?_)
      refine z_istore C (pc := 67) (lv' := [(6, .int y17), (0, va_rf (some f0)), (1, .int f1), (2, .int f2), (3, .int f3), (4, .int w4), (5, .int w5)]) dX9_couldStaff_67 (by decide) rfl ?_
      refine z_aload_n C (pc := 69) dX9_couldStaff_69 1 rfl ?_
      refine z_getP C (pc := 70) kf9 27 (by decide) rfl bw_935 (fun _ _ _ _ h => h) dX9_couldStaff_70 rfl o6 ?_
      refine z_iload C (pc := 73) dX9_couldStaff_73 0 rfl ?_
      refine z_iconst C (pc := 75) (x := (3 : Int32)) dX9_couldStaff_75 kic_3 ?_
      refine z_iadd C (pc := 76) dX9_couldStaff_76 ?_
      obtain ⟨a18, e19, o20, h⟩ := h
      obtain ⟨v21, h⟩ := h
      refine z_iald C (pc := 77) dX9_couldStaff_77 e19 o20 v21 ?_
      refine z_iload_n C (pc := 78) dX9_couldStaff_78 2 rfl ?_
      refine z_icmp_ne C (pc := 79) (tgt := 123) dX9_couldStaff_79 (by decide) h (fun h => ?_) (fun h => ?_)
      · refine z_iconst C (pc := 123) (x := (0 : Int32)) dX9_couldStaff_123 kic_0 ?_
        refine z_istore C (pc := 124) (lv' := [(7, .int (0 : Int32)), (6, .int y17), (0, va_rf (some f0)), (1, .int f1), (2, .int f2), (3, .int f3), (4, .int w4), (5, .int w5)]) dX9_couldStaff_124 (by decide) rfl ?_
        refine z_aload_n C (pc := 126) dX9_couldStaff_126 2 rfl ?_
        refine z_getP C (pc := 127) kf9 29 (by decide) rfl bw_937 (fun _ _ _ _ h => h) dX9_couldStaff_127 rfl o6 ?_
        refine z_iload C (pc := 130) dX9_couldStaff_130 6 rfl ?_
        refine z_iconst C (pc := 132) (x := (4 : Int32)) dX9_couldStaff_132 kic_4 ?_
        refine z_icmp_ge C (pc := 133) (tgt := 141) dX9_couldStaff_133 (by decide) h (fun h => ?_) (fun h => ?_)
        · refine z_iconst C (pc := 141) (x := (3 : Int32)) dX9_couldStaff_141 kic_3 ?_
          refine z_iload C (pc := 142) dX9_couldStaff_142 0 rfl ?_
          refine z_if_eq C (pc := 144) (tgt := 152) dX9_couldStaff_144 (by decide) (ifT (c := (0 : Int32) = 0) (by decide) h) (fun h => ?_) (fun h => h.elim)
          refine z_aload_n C (pc := 152) dX9_couldStaff_152 2 rfl ?_
          refine z_getP C (pc := 153) kf9 29 (by decide) rfl bw_937 (fun _ _ _ _ h => h) dX9_couldStaff_153 rfl o6 ?_
          refine z_iload C (pc := 156) dX9_couldStaff_156 6 rfl ?_
          refine z_iconst C (pc := 158) (x := (4 : Int32)) dX9_couldStaff_158 kic_4 ?_
          refine z_icmp_ge C (pc := 159) (tgt := 167) dX9_couldStaff_159 (by decide) h (fun h => ?_) (fun h => ?_)
          · refine z_iconst C (pc := 167) (x := (3 : Int32)) dX9_couldStaff_167 kic_3 ?_
            obtain ⟨a22, e23, o24, h⟩ := h
            obtain ⟨v25, h⟩ := h
            refine z_iald C (pc := 168) dX9_couldStaff_168 e23 o24 v25 ?_
            obtain ⟨a26, e27, o28, h⟩ := h
            obtain ⟨v29, h⟩ := h
            refine z_iast C (pc := 169) dX9_couldStaff_169 e27 o28 v29 ?_
            refine z_lt h (fun S30 h => ?_)
            refine z_iload C (pc := 170) dX9_couldStaff_170 6 rfl ?_
            refine z_iload C (pc := 172) dX9_couldStaff_172 0 rfl ?_
            refine z_if_eq C (pc := 174) (tgt := 181) dX9_couldStaff_174 (by decide) (ifT (c := (0 : Int32) = 0) (by decide) h) (fun h => ?_) (fun h => h.elim)
            refine z_iconst C (pc := 181) (x := (0 : Int32)) dX9_couldStaff_181 kic_0 ?_
            refine z_iadd C (pc := 182) dX9_couldStaff_182 ?_
            refine z_nI h (fun y31 h => ?_)
            refine z_istore C (pc := 183) (lv' := [(4, .int y31), (7, .int (0 : Int32)), (6, .int y17), (0, va_rf (some f0)), (1, .int f1), (2, .int f2), (3, .int f3), (5, .int w5)]) dX9_couldStaff_183 (by decide) rfl ?_
            refine z_iinc C (pc := 185) (y := w5 + (1 : Int32)) (lv' := [(5, .int (w5 + (1 : Int32))), (4, .int y31), (7, .int (0 : Int32)), (6, .int y17), (0, va_rf (some f0)), (1, .int f1), (2, .int f2), (3, .int f3)]) dX9_couldStaff_185 7 rfl rfl (by decide) rfl ?_
            refine z_goto C (pc := 188) (tgt := 53) dX9_couldStaff_188 (by decide) ?_
            refine z_sub [4, 5, 6, 7, 1, 0] (lv' := [(0, va_rf (some f0)), (1, .int f1), (2, .int f2), (3, .int f3), (4, .int y31), (5, .int (w5 + (1 : Int32)))]) rfl ?_
            exact ih S30 y31 (w5 + (1 : Int32)) h
          · refine z_iload C (pc := 162) dX9_couldStaff_162 6 rfl ?_
            refine z_goto C (pc := 164) (tgt := 168) dX9_couldStaff_164 (by decide) ?_
            obtain ⟨a32, e33, o34, h⟩ := h
            obtain ⟨v35, h⟩ := h
            refine z_iald C (pc := 168) dX9_couldStaff_168 e33 o34 v35 ?_
            obtain ⟨a36, e37, o38, h⟩ := h
            obtain ⟨v39, h⟩ := h
            refine z_iast C (pc := 169) dX9_couldStaff_169 e37 o38 v39 ?_
            refine z_lt h (fun S40 h => ?_)
            refine z_iload C (pc := 170) dX9_couldStaff_170 6 rfl ?_
            refine z_iload C (pc := 172) dX9_couldStaff_172 0 rfl ?_
            refine z_if_eq C (pc := 174) (tgt := 181) dX9_couldStaff_174 (by decide) (ifT (c := (0 : Int32) = 0) (by decide) h) (fun h => ?_) (fun h => h.elim)
            refine z_iconst C (pc := 181) (x := (0 : Int32)) dX9_couldStaff_181 kic_0 ?_
            refine z_iadd C (pc := 182) dX9_couldStaff_182 ?_
            refine z_nI h (fun y41 h => ?_)
            refine z_istore C (pc := 183) (lv' := [(4, .int y41), (7, .int (0 : Int32)), (6, .int y17), (0, va_rf (some f0)), (1, .int f1), (2, .int f2), (3, .int f3), (5, .int w5)]) dX9_couldStaff_183 (by decide) rfl ?_
            refine z_iinc C (pc := 185) (y := w5 + (1 : Int32)) (lv' := [(5, .int (w5 + (1 : Int32))), (4, .int y41), (7, .int (0 : Int32)), (6, .int y17), (0, va_rf (some f0)), (1, .int f1), (2, .int f2), (3, .int f3)]) dX9_couldStaff_185 7 rfl rfl (by decide) rfl ?_
            refine z_goto C (pc := 188) (tgt := 53) dX9_couldStaff_188 (by decide) ?_
            refine z_sub [4, 5, 6, 7, 1, 0] (lv' := [(0, va_rf (some f0)), (1, .int f1), (2, .int f2), (3, .int f3), (4, .int y41), (5, .int (w5 + (1 : Int32)))]) rfl ?_
            exact ih S40 y41 (w5 + (1 : Int32)) h
        · refine z_iload C (pc := 136) dX9_couldStaff_136 6 rfl ?_
          refine z_goto C (pc := 138) (tgt := 142) dX9_couldStaff_138 (by decide) ?_
          refine z_iload C (pc := 142) dX9_couldStaff_142 0 rfl ?_
          refine z_if_eq C (pc := 144) (tgt := 152) dX9_couldStaff_144 (by decide) (ifT (c := (0 : Int32) = 0) (by decide) h) (fun h => ?_) (fun h => h.elim)
          refine z_aload_n C (pc := 152) dX9_couldStaff_152 2 rfl ?_
          refine z_getP C (pc := 153) kf9 29 (by decide) rfl bw_937 (fun _ _ _ _ h => h) dX9_couldStaff_153 rfl o6 ?_
          refine z_iload C (pc := 156) dX9_couldStaff_156 6 rfl ?_
          refine z_iconst C (pc := 158) (x := (4 : Int32)) dX9_couldStaff_158 kic_4 ?_
          refine z_icmp_ge C (pc := 159) (tgt := 167) dX9_couldStaff_159 (by decide) h (fun h => ?_) (fun h => ?_)
          · refine z_iconst C (pc := 167) (x := (3 : Int32)) dX9_couldStaff_167 kic_3 ?_
            obtain ⟨a42, e43, o44, h⟩ := h
            obtain ⟨v45, h⟩ := h
            refine z_iald C (pc := 168) dX9_couldStaff_168 e43 o44 v45 ?_
            obtain ⟨a46, e47, o48, h⟩ := h
            obtain ⟨v49, h⟩ := h
            refine z_iast C (pc := 169) dX9_couldStaff_169 e47 o48 v49 ?_
            refine z_lt h (fun S50 h => ?_)
            refine z_iload C (pc := 170) dX9_couldStaff_170 6 rfl ?_
            refine z_iload C (pc := 172) dX9_couldStaff_172 0 rfl ?_
            refine z_if_eq C (pc := 174) (tgt := 181) dX9_couldStaff_174 (by decide) (ifT (c := (0 : Int32) = 0) (by decide) h) (fun h => ?_) (fun h => h.elim)
            refine z_iconst C (pc := 181) (x := (0 : Int32)) dX9_couldStaff_181 kic_0 ?_
            refine z_iadd C (pc := 182) dX9_couldStaff_182 ?_
            refine z_nI h (fun y51 h => ?_)
            refine z_istore C (pc := 183) (lv' := [(4, .int y51), (7, .int (0 : Int32)), (6, .int y17), (0, va_rf (some f0)), (1, .int f1), (2, .int f2), (3, .int f3), (5, .int w5)]) dX9_couldStaff_183 (by decide) rfl ?_
            refine z_iinc C (pc := 185) (y := w5 + (1 : Int32)) (lv' := [(5, .int (w5 + (1 : Int32))), (4, .int y51), (7, .int (0 : Int32)), (6, .int y17), (0, va_rf (some f0)), (1, .int f1), (2, .int f2), (3, .int f3)]) dX9_couldStaff_185 7 rfl rfl (by decide) rfl ?_
            refine z_goto C (pc := 188) (tgt := 53) dX9_couldStaff_188 (by decide) ?_
            refine z_sub [4, 5, 6, 7, 1, 0] (lv' := [(0, va_rf (some f0)), (1, .int f1), (2, .int f2), (3, .int f3), (4, .int y51), (5, .int (w5 + (1 : Int32)))]) rfl ?_
            exact ih S50 y51 (w5 + (1 : Int32)) h
          · refine z_iload C (pc := 162) dX9_couldStaff_162 6 rfl ?_
            refine z_goto C (pc := 164) (tgt := 168) dX9_couldStaff_164 (by decide) ?_
            obtain ⟨a52, e53, o54, h⟩ := h
            obtain ⟨v55, h⟩ := h
            refine z_iald C (pc := 168) dX9_couldStaff_168 e53 o54 v55 ?_
            obtain ⟨a56, e57, o58, h⟩ := h
            obtain ⟨v59, h⟩ := h
            refine z_iast C (pc := 169) dX9_couldStaff_169 e57 o58 v59 ?_
            refine z_lt h (fun S60 h => ?_)
            refine z_iload C (pc := 170) dX9_couldStaff_170 6 rfl ?_
            refine z_iload C (pc := 172) dX9_couldStaff_172 0 rfl ?_
            refine z_if_eq C (pc := 174) (tgt := 181) dX9_couldStaff_174 (by decide) (ifT (c := (0 : Int32) = 0) (by decide) h) (fun h => ?_) (fun h => h.elim)
            refine z_iconst C (pc := 181) (x := (0 : Int32)) dX9_couldStaff_181 kic_0 ?_
            refine z_iadd C (pc := 182) dX9_couldStaff_182 ?_
            refine z_nI h (fun y61 h => ?_)
            refine z_istore C (pc := 183) (lv' := [(4, .int y61), (7, .int (0 : Int32)), (6, .int y17), (0, va_rf (some f0)), (1, .int f1), (2, .int f2), (3, .int f3), (5, .int w5)]) dX9_couldStaff_183 (by decide) rfl ?_
            refine z_iinc C (pc := 185) (y := w5 + (1 : Int32)) (lv' := [(5, .int (w5 + (1 : Int32))), (4, .int y61), (7, .int (0 : Int32)), (6, .int y17), (0, va_rf (some f0)), (1, .int f1), (2, .int f2), (3, .int f3)]) dX9_couldStaff_185 7 rfl rfl (by decide) rfl ?_
            refine z_goto C (pc := 188) (tgt := 53) dX9_couldStaff_188 (by decide) ?_
            refine z_sub [4, 5, 6, 7, 1, 0] (lv' := [(0, va_rf (some f0)), (1, .int f1), (2, .int f2), (3, .int f3), (4, .int y61), (5, .int (w5 + (1 : Int32)))]) rfl ?_
            exact ih S60 y61 (w5 + (1 : Int32)) h
      · refine z_iload_n C (pc := 82) dX9_couldStaff_82 3 rfl ?_
        refine z_aload_n C (pc := 83) dX9_couldStaff_83 1 rfl ?_
        refine z_getP C (pc := 84) kf9 27 (by decide) rfl bw_935 (fun _ _ _ _ h => h) dX9_couldStaff_84 rfl o6 ?_
        refine z_iload C (pc := 87) dX9_couldStaff_87 0 rfl ?_
        refine z_iconst C (pc := 89) (x := (4 : Int32)) dX9_couldStaff_89 kic_4 ?_
        refine z_iadd C (pc := 90) dX9_couldStaff_90 ?_
        obtain ⟨a62, e63, o64, h⟩ := h
        obtain ⟨v65, h⟩ := h
        refine z_iald C (pc := 91) dX9_couldStaff_91 e63 o64 v65 ?_
        refine z_aload_n C (pc := 92) dX9_couldStaff_92 1 rfl ?_
        refine z_getP C (pc := 93) kf9 27 (by decide) rfl bw_935 (fun _ _ _ _ h => h) dX9_couldStaff_93 rfl o6 ?_
        refine z_iload C (pc := 96) dX9_couldStaff_96 0 rfl ?_
        refine z_iconst C (pc := 98) (x := (4 : Int32)) dX9_couldStaff_98 kic_4 ?_
        refine z_iadd C (pc := 99) dX9_couldStaff_99 ?_
        obtain ⟨a66, e67, o68, h⟩ := h
        obtain ⟨v69, h⟩ := h
        refine z_iald C (pc := 100) dX9_couldStaff_100 e67 o68 v69 ?_
        refine z_aload_n C (pc := 101) dX9_couldStaff_101 1 rfl ?_
        refine z_getP C (pc := 102) kf9 27 (by decide) rfl bw_935 (fun _ _ _ _ h => h) dX9_couldStaff_102 rfl o6 ?_
        refine z_iload C (pc := 105) dX9_couldStaff_105 0 rfl ?_
        refine z_iconst C (pc := 107) (x := (5 : Int32)) dX9_couldStaff_107 kic_5 ?_
        refine z_iadd C (pc := 108) dX9_couldStaff_108 ?_
        obtain ⟨a70, e71, o72, h⟩ := h
        obtain ⟨v73, h⟩ := h
        refine z_iald C (pc := 109) dX9_couldStaff_109 e71 o72 v73 ?_
        refine z_iadd C (pc := 110) dX9_couldStaff_110 ?_
        refine z_iconst C (pc := 111) (x := (1 : Int32)) dX9_couldStaff_111 kic_1 ?_
        refine z_isub C (pc := 112) dX9_couldStaff_112 ?_
        refine z_Si C (pc := 113) (KX := fun _ _ => False) (kc' := 0) (ks' := 0) (As := [.int f2, .int (g_R S a62 (y17 + (4 : Int32)).toNatClampNeg), .int (((g_R S a66 (y17 + (4 : Int32)).toNatClampNeg) + (g_R S a70 (y17 + (5 : Int32)).toNatClampNeg)) - (1 : Int32))]) (rest := []) (c_X9_in l v S f2 (g_R S a62 (y17 + (4 : Int32)).toNatClampNeg) (((g_R S a66 (y17 + (4 : Int32)).toNatClampNeg) + (g_R S a70 (y17 + (5 : Int32)).toNatClampNeg)) - (1 : Int32))) mw_X9_in bw_1014 bw_1015 (fit_of rfl) rfl rfl (Nat.le_of_ble_eq_true rfl) dX9_couldStaff_113 h (fun r75 S74 h => ?_) (fun En S9 h => h.elim)
        refine z_if_eq C (pc := 116) (tgt := 123) dX9_couldStaff_116 (by decide) h (fun h => ?_) (fun h => ?_)
        · refine z_iconst C (pc := 123) (x := (0 : Int32)) dX9_couldStaff_123 kic_0 ?_
          refine z_istore C (pc := 124) (lv' := [(7, .int (0 : Int32)), (6, .int y17), (0, va_rf (some f0)), (1, .int f1), (2, .int f2), (3, .int f3), (4, .int w4), (5, .int w5)]) dX9_couldStaff_124 (by decide) rfl ?_
          refine z_aload_n C (pc := 126) dX9_couldStaff_126 2 rfl ?_
          obtain ⟨o76, h⟩ := h
          refine z_getP C (pc := 127) kf9 29 (by decide) rfl bw_937 (fun _ _ _ _ h => h) dX9_couldStaff_127 rfl o76 ?_
          refine z_iload C (pc := 130) dX9_couldStaff_130 6 rfl ?_
          refine z_iconst C (pc := 132) (x := (4 : Int32)) dX9_couldStaff_132 kic_4 ?_
          refine z_icmp_ge C (pc := 133) (tgt := 141) dX9_couldStaff_133 (by decide) h (fun h => ?_) (fun h => ?_)
          · refine z_iconst C (pc := 141) (x := (3 : Int32)) dX9_couldStaff_141 kic_3 ?_
            refine z_iload C (pc := 142) dX9_couldStaff_142 0 rfl ?_
            refine z_if_eq C (pc := 144) (tgt := 152) dX9_couldStaff_144 (by decide) (ifT (c := (0 : Int32) = 0) (by decide) h) (fun h => ?_) (fun h => h.elim)
            refine z_aload_n C (pc := 152) dX9_couldStaff_152 2 rfl ?_
            refine z_getP C (pc := 153) kf9 29 (by decide) rfl bw_937 (fun _ _ _ _ h => h) dX9_couldStaff_153 rfl o76 ?_
            refine z_iload C (pc := 156) dX9_couldStaff_156 6 rfl ?_
            refine z_iconst C (pc := 158) (x := (4 : Int32)) dX9_couldStaff_158 kic_4 ?_
            refine z_icmp_ge C (pc := 159) (tgt := 167) dX9_couldStaff_159 (by decide) h (fun h => ?_) (fun h => ?_)
            · refine z_iconst C (pc := 167) (x := (3 : Int32)) dX9_couldStaff_167 kic_3 ?_
              obtain ⟨a77, e78, o79, h⟩ := h
              obtain ⟨v80, h⟩ := h
              refine z_iald C (pc := 168) dX9_couldStaff_168 e78 o79 v80 ?_
              obtain ⟨a81, e82, o83, h⟩ := h
              obtain ⟨v84, h⟩ := h
              refine z_iast C (pc := 169) dX9_couldStaff_169 e82 o83 v84 ?_
              refine z_lt h (fun S85 h => ?_)
              refine z_iload C (pc := 170) dX9_couldStaff_170 6 rfl ?_
              refine z_iload C (pc := 172) dX9_couldStaff_172 0 rfl ?_
              refine z_if_eq C (pc := 174) (tgt := 181) dX9_couldStaff_174 (by decide) (ifT (c := (0 : Int32) = 0) (by decide) h) (fun h => ?_) (fun h => h.elim)
              refine z_iconst C (pc := 181) (x := (0 : Int32)) dX9_couldStaff_181 kic_0 ?_
              refine z_iadd C (pc := 182) dX9_couldStaff_182 ?_
              refine z_nI h (fun y86 h => ?_)
              refine z_istore C (pc := 183) (lv' := [(4, .int y86), (7, .int (0 : Int32)), (6, .int y17), (0, va_rf (some f0)), (1, .int f1), (2, .int f2), (3, .int f3), (5, .int w5)]) dX9_couldStaff_183 (by decide) rfl ?_
              refine z_iinc C (pc := 185) (y := w5 + (1 : Int32)) (lv' := [(5, .int (w5 + (1 : Int32))), (4, .int y86), (7, .int (0 : Int32)), (6, .int y17), (0, va_rf (some f0)), (1, .int f1), (2, .int f2), (3, .int f3)]) dX9_couldStaff_185 7 rfl rfl (by decide) rfl ?_
              refine z_goto C (pc := 188) (tgt := 53) dX9_couldStaff_188 (by decide) ?_
              refine z_sub [4, 5, 6, 7, 1, 0] (lv' := [(0, va_rf (some f0)), (1, .int f1), (2, .int f2), (3, .int f3), (4, .int y86), (5, .int (w5 + (1 : Int32)))]) rfl ?_
              exact ih S85 y86 (w5 + (1 : Int32)) h
            · refine z_iload C (pc := 162) dX9_couldStaff_162 6 rfl ?_
              refine z_goto C (pc := 164) (tgt := 168) dX9_couldStaff_164 (by decide) ?_
              obtain ⟨a87, e88, o89, h⟩ := h
              obtain ⟨v90, h⟩ := h
              refine z_iald C (pc := 168) dX9_couldStaff_168 e88 o89 v90 ?_
              obtain ⟨a91, e92, o93, h⟩ := h
              obtain ⟨v94, h⟩ := h
              refine z_iast C (pc := 169) dX9_couldStaff_169 e92 o93 v94 ?_
              refine z_lt h (fun S95 h => ?_)
              refine z_iload C (pc := 170) dX9_couldStaff_170 6 rfl ?_
              refine z_iload C (pc := 172) dX9_couldStaff_172 0 rfl ?_
              refine z_if_eq C (pc := 174) (tgt := 181) dX9_couldStaff_174 (by decide) (ifT (c := (0 : Int32) = 0) (by decide) h) (fun h => ?_) (fun h => h.elim)
              refine z_iconst C (pc := 181) (x := (0 : Int32)) dX9_couldStaff_181 kic_0 ?_
              refine z_iadd C (pc := 182) dX9_couldStaff_182 ?_
              refine z_nI h (fun y96 h => ?_)
              refine z_istore C (pc := 183) (lv' := [(4, .int y96), (7, .int (0 : Int32)), (6, .int y17), (0, va_rf (some f0)), (1, .int f1), (2, .int f2), (3, .int f3), (5, .int w5)]) dX9_couldStaff_183 (by decide) rfl ?_
              refine z_iinc C (pc := 185) (y := w5 + (1 : Int32)) (lv' := [(5, .int (w5 + (1 : Int32))), (4, .int y96), (7, .int (0 : Int32)), (6, .int y17), (0, va_rf (some f0)), (1, .int f1), (2, .int f2), (3, .int f3)]) dX9_couldStaff_185 7 rfl rfl (by decide) rfl ?_
              refine z_goto C (pc := 188) (tgt := 53) dX9_couldStaff_188 (by decide) ?_
              refine z_sub [4, 5, 6, 7, 1, 0] (lv' := [(0, va_rf (some f0)), (1, .int f1), (2, .int f2), (3, .int f3), (4, .int y96), (5, .int (w5 + (1 : Int32)))]) rfl ?_
              exact ih S95 y96 (w5 + (1 : Int32)) h
          · refine z_iload C (pc := 136) dX9_couldStaff_136 6 rfl ?_
            refine z_goto C (pc := 138) (tgt := 142) dX9_couldStaff_138 (by decide) ?_
            refine z_iload C (pc := 142) dX9_couldStaff_142 0 rfl ?_
            refine z_if_eq C (pc := 144) (tgt := 152) dX9_couldStaff_144 (by decide) (ifT (c := (0 : Int32) = 0) (by decide) h) (fun h => ?_) (fun h => h.elim)
            refine z_aload_n C (pc := 152) dX9_couldStaff_152 2 rfl ?_
            refine z_getP C (pc := 153) kf9 29 (by decide) rfl bw_937 (fun _ _ _ _ h => h) dX9_couldStaff_153 rfl o76 ?_
            refine z_iload C (pc := 156) dX9_couldStaff_156 6 rfl ?_
            refine z_iconst C (pc := 158) (x := (4 : Int32)) dX9_couldStaff_158 kic_4 ?_
            refine z_icmp_ge C (pc := 159) (tgt := 167) dX9_couldStaff_159 (by decide) h (fun h => ?_) (fun h => ?_)
            · refine z_iconst C (pc := 167) (x := (3 : Int32)) dX9_couldStaff_167 kic_3 ?_
              obtain ⟨a97, e98, o99, h⟩ := h
              obtain ⟨v100, h⟩ := h
              refine z_iald C (pc := 168) dX9_couldStaff_168 e98 o99 v100 ?_
              obtain ⟨a101, e102, o103, h⟩ := h
              obtain ⟨v104, h⟩ := h
              refine z_iast C (pc := 169) dX9_couldStaff_169 e102 o103 v104 ?_
              refine z_lt h (fun S105 h => ?_)
              refine z_iload C (pc := 170) dX9_couldStaff_170 6 rfl ?_
              refine z_iload C (pc := 172) dX9_couldStaff_172 0 rfl ?_
              refine z_if_eq C (pc := 174) (tgt := 181) dX9_couldStaff_174 (by decide) (ifT (c := (0 : Int32) = 0) (by decide) h) (fun h => ?_) (fun h => h.elim)
              refine z_iconst C (pc := 181) (x := (0 : Int32)) dX9_couldStaff_181 kic_0 ?_
              refine z_iadd C (pc := 182) dX9_couldStaff_182 ?_
              refine z_nI h (fun y106 h => ?_)
              refine z_istore C (pc := 183) (lv' := [(4, .int y106), (7, .int (0 : Int32)), (6, .int y17), (0, va_rf (some f0)), (1, .int f1), (2, .int f2), (3, .int f3), (5, .int w5)]) dX9_couldStaff_183 (by decide) rfl ?_
              refine z_iinc C (pc := 185) (y := w5 + (1 : Int32)) (lv' := [(5, .int (w5 + (1 : Int32))), (4, .int y106), (7, .int (0 : Int32)), (6, .int y17), (0, va_rf (some f0)), (1, .int f1), (2, .int f2), (3, .int f3)]) dX9_couldStaff_185 7 rfl rfl (by decide) rfl ?_
              refine z_goto C (pc := 188) (tgt := 53) dX9_couldStaff_188 (by decide) ?_
              refine z_sub [4, 5, 6, 7, 1, 0] (lv' := [(0, va_rf (some f0)), (1, .int f1), (2, .int f2), (3, .int f3), (4, .int y106), (5, .int (w5 + (1 : Int32)))]) rfl ?_
              exact ih S105 y106 (w5 + (1 : Int32)) h
            · refine z_iload C (pc := 162) dX9_couldStaff_162 6 rfl ?_
              refine z_goto C (pc := 164) (tgt := 168) dX9_couldStaff_164 (by decide) ?_
              obtain ⟨a107, e108, o109, h⟩ := h
              obtain ⟨v110, h⟩ := h
              refine z_iald C (pc := 168) dX9_couldStaff_168 e108 o109 v110 ?_
              obtain ⟨a111, e112, o113, h⟩ := h
              obtain ⟨v114, h⟩ := h
              refine z_iast C (pc := 169) dX9_couldStaff_169 e112 o113 v114 ?_
              refine z_lt h (fun S115 h => ?_)
              refine z_iload C (pc := 170) dX9_couldStaff_170 6 rfl ?_
              refine z_iload C (pc := 172) dX9_couldStaff_172 0 rfl ?_
              refine z_if_eq C (pc := 174) (tgt := 181) dX9_couldStaff_174 (by decide) (ifT (c := (0 : Int32) = 0) (by decide) h) (fun h => ?_) (fun h => h.elim)
              refine z_iconst C (pc := 181) (x := (0 : Int32)) dX9_couldStaff_181 kic_0 ?_
              refine z_iadd C (pc := 182) dX9_couldStaff_182 ?_
              refine z_nI h (fun y116 h => ?_)
              refine z_istore C (pc := 183) (lv' := [(4, .int y116), (7, .int (0 : Int32)), (6, .int y17), (0, va_rf (some f0)), (1, .int f1), (2, .int f2), (3, .int f3), (5, .int w5)]) dX9_couldStaff_183 (by decide) rfl ?_
              refine z_iinc C (pc := 185) (y := w5 + (1 : Int32)) (lv' := [(5, .int (w5 + (1 : Int32))), (4, .int y116), (7, .int (0 : Int32)), (6, .int y17), (0, va_rf (some f0)), (1, .int f1), (2, .int f2), (3, .int f3)]) dX9_couldStaff_185 7 rfl rfl (by decide) rfl ?_
              refine z_goto C (pc := 188) (tgt := 53) dX9_couldStaff_188 (by decide) ?_
              refine z_sub [4, 5, 6, 7, 1, 0] (lv' := [(0, va_rf (some f0)), (1, .int f1), (2, .int f2), (3, .int f3), (4, .int y116), (5, .int (w5 + (1 : Int32)))]) rfl ?_
              exact ih S115 y116 (w5 + (1 : Int32)) h
        · refine z_iconst C (pc := 119) (x := (1 : Int32)) dX9_couldStaff_119 kic_1 ?_
          refine z_goto C (pc := 120) (tgt := 124) dX9_couldStaff_120 (by decide) ?_
          refine z_istore C (pc := 124) (lv' := [(7, .int (1 : Int32)), (6, .int y17), (0, va_rf (some f0)), (1, .int f1), (2, .int f2), (3, .int f3), (4, .int w4), (5, .int w5)]) dX9_couldStaff_124 (by decide) rfl ?_
          refine z_aload_n C (pc := 126) dX9_couldStaff_126 2 rfl ?_
          obtain ⟨o117, h⟩ := h
          refine z_getP C (pc := 127) kf9 29 (by decide) rfl bw_937 (fun _ _ _ _ h => h) dX9_couldStaff_127 rfl o117 ?_
          refine z_iload C (pc := 130) dX9_couldStaff_130 6 rfl ?_
          refine z_iconst C (pc := 132) (x := (4 : Int32)) dX9_couldStaff_132 kic_4 ?_
          refine z_icmp_ge C (pc := 133) (tgt := 141) dX9_couldStaff_133 (by decide) h (fun h => ?_) (fun h => ?_)
          · refine z_iconst C (pc := 141) (x := (3 : Int32)) dX9_couldStaff_141 kic_3 ?_
            refine z_iload C (pc := 142) dX9_couldStaff_142 0 rfl ?_
            refine z_if_eq C (pc := 144) (tgt := 152) dX9_couldStaff_144 (by decide) (ifF (c := (1 : Int32) = 0) (by decide) h) (fun h => h.elim) (fun h => ?_)
            refine z_iload C (pc := 147) dX9_couldStaff_147 7 rfl ?_
            refine z_goto C (pc := 149) (tgt := 169) dX9_couldStaff_149 (by decide) ?_
            obtain ⟨a118, e119, o120, h⟩ := h
            obtain ⟨v121, h⟩ := h
            refine z_iast C (pc := 169) dX9_couldStaff_169 e119 o120 v121 ?_
            refine z_lt h (fun S122 h => ?_)
            refine z_iload C (pc := 170) dX9_couldStaff_170 6 rfl ?_
            refine z_iload C (pc := 172) dX9_couldStaff_172 0 rfl ?_
            refine z_if_eq C (pc := 174) (tgt := 181) dX9_couldStaff_174 (by decide) (ifF (c := (1 : Int32) = 0) (by decide) h) (fun h => h.elim) (fun h => ?_)
            refine z_iconst C (pc := 177) (x := (1 : Int32)) dX9_couldStaff_177 kic_1 ?_
            refine z_goto C (pc := 178) (tgt := 182) dX9_couldStaff_178 (by decide) ?_
            refine z_iadd C (pc := 182) dX9_couldStaff_182 ?_
            refine z_nI h (fun y123 h => ?_)
            refine z_istore C (pc := 183) (lv' := [(4, .int y123), (7, .int (1 : Int32)), (6, .int y17), (0, va_rf (some f0)), (1, .int f1), (2, .int f2), (3, .int f3), (5, .int w5)]) dX9_couldStaff_183 (by decide) rfl ?_
            refine z_iinc C (pc := 185) (y := w5 + (1 : Int32)) (lv' := [(5, .int (w5 + (1 : Int32))), (4, .int y123), (7, .int (1 : Int32)), (6, .int y17), (0, va_rf (some f0)), (1, .int f1), (2, .int f2), (3, .int f3)]) dX9_couldStaff_185 7 rfl rfl (by decide) rfl ?_
            refine z_goto C (pc := 188) (tgt := 53) dX9_couldStaff_188 (by decide) ?_
            refine z_sub [4, 5, 6, 7, 1, 0] (lv' := [(0, va_rf (some f0)), (1, .int f1), (2, .int f2), (3, .int f3), (4, .int y123), (5, .int (w5 + (1 : Int32)))]) rfl ?_
            exact ih S122 y123 (w5 + (1 : Int32)) h
          · refine z_iload C (pc := 136) dX9_couldStaff_136 6 rfl ?_
            refine z_goto C (pc := 138) (tgt := 142) dX9_couldStaff_138 (by decide) ?_
            refine z_iload C (pc := 142) dX9_couldStaff_142 0 rfl ?_
            refine z_if_eq C (pc := 144) (tgt := 152) dX9_couldStaff_144 (by decide) (ifF (c := (1 : Int32) = 0) (by decide) h) (fun h => h.elim) (fun h => ?_)
            refine z_iload C (pc := 147) dX9_couldStaff_147 7 rfl ?_
            refine z_goto C (pc := 149) (tgt := 169) dX9_couldStaff_149 (by decide) ?_
            obtain ⟨a124, e125, o126, h⟩ := h
            obtain ⟨v127, h⟩ := h
            refine z_iast C (pc := 169) dX9_couldStaff_169 e125 o126 v127 ?_
            refine z_lt h (fun S128 h => ?_)
            refine z_iload C (pc := 170) dX9_couldStaff_170 6 rfl ?_
            refine z_iload C (pc := 172) dX9_couldStaff_172 0 rfl ?_
            refine z_if_eq C (pc := 174) (tgt := 181) dX9_couldStaff_174 (by decide) (ifF (c := (1 : Int32) = 0) (by decide) h) (fun h => h.elim) (fun h => ?_)
            refine z_iconst C (pc := 177) (x := (1 : Int32)) dX9_couldStaff_177 kic_1 ?_
            refine z_goto C (pc := 178) (tgt := 182) dX9_couldStaff_178 (by decide) ?_
            refine z_iadd C (pc := 182) dX9_couldStaff_182 ?_
            refine z_nI h (fun y129 h => ?_)
            refine z_istore C (pc := 183) (lv' := [(4, .int y129), (7, .int (1 : Int32)), (6, .int y17), (0, va_rf (some f0)), (1, .int f1), (2, .int f2), (3, .int f3), (5, .int w5)]) dX9_couldStaff_183 (by decide) rfl ?_
            refine z_iinc C (pc := 185) (y := w5 + (1 : Int32)) (lv' := [(5, .int (w5 + (1 : Int32))), (4, .int y129), (7, .int (1 : Int32)), (6, .int y17), (0, va_rf (some f0)), (1, .int f1), (2, .int f2), (3, .int f3)]) dX9_couldStaff_185 7 rfl rfl (by decide) rfl ?_
            refine z_goto C (pc := 188) (tgt := 53) dX9_couldStaff_188 (by decide) ?_
            refine z_sub [4, 5, 6, 7, 1, 0] (lv' := [(0, va_rf (some f0)), (1, .int f1), (2, .int f2), (3, .int f3), (4, .int y129), (5, .int (w5 + (1 : Int32)))]) rfl ?_
            exact ih S128 y129 (w5 + (1 : Int32)) h
set_option maxHeartbeats 4000000 in
set_option maxRecDepth 100000 in
theorem c_X9_couldStaff (l : Launch) (v : Ev) (S : Hp) (x0 : Nat) (x1 : Int32) (x2 : Int32) (x3 : Int32) : CI l v yX9_couldStaff cX9_couldStaff 8 (some .boolean) rm_X9_couldStaff [va_rf (some x0), .int x1, .int x2, .int x3] S (fun Q _ => wp_X9_couldStaff S x0 x1 x2 x3 Q) := by
  intro Q EQ h
  refine z_start [(0, va_rf (some x0)), (1, .int x1), (2, .int x2), (3, .int x3)] (by decide +kernel) (by simp only [la_i, la_r, la_n]) (cat_cr (cat_ci (cat_ci (cat_ci cat_nil)))) (by simp only [ls_i, ls_r, ls_n]; decide) (fun z C N T => ?_)
  unfold wp_X9_couldStaff at h
  refine z_aload_n C (pc := 0) dX9_couldStaff_0 0 rfl ?_
  refine z_iload_n C (pc := 1) dX9_couldStaff_1 1 rfl ?_
  refine z_Si C (pc := 2) (KX := fun _ _ => False) (kc' := 0) (ks' := 0) (As := [.int x1]) (rest := [va_rf (some x0)]) (c_X9_isDay l v S x1) mw_X9_isDay bw_1085 bw_1086 (fit_of rfl) rfl rfl (Nat.le_of_ble_eq_true rfl) dX9_couldStaff_2 h (fun r2 S1 h => ?_) (fun En S9 h => h.elim)
  refine z_if_eq C (pc := 5) (tgt := 38) dX9_couldStaff_5 (by decide) h (fun h => ?_) (fun h => ?_)
  · refine z_iconst C (pc := 38) (x := (0 : Int32)) dX9_couldStaff_38 kic_0 ?_
    obtain ⟨o3, h⟩ := h
    refine z_Vi C (pc := 39) (KX := fun _ _ => False) (kc' := 0) (ks' := 0) (As := [.int (0 : Int32)]) (rest := []) rfl (c_X9_asks l v S1 x0 (0 : Int32)) mw_X9_asks bw_1017 bw_1019 bw_p30 (fit_of rfl) rfl rfl (Nat.le_of_ble_eq_true rfl) (by decide) rfl o3 dX9_couldStaff_39 h (fun r5 S4 h => ?_) (fun En S9 h => h.elim)
    refine z_if_ne C (pc := 42) (tgt := 47) dX9_couldStaff_42 (by decide) h (fun h => ?_) (fun h => ?_)
    · refine z_iconst C (pc := 47) (x := (0 : Int32)) dX9_couldStaff_47 kic_0 ?_
      refine z_istore C (pc := 48) (lv' := [(4, .int (0 : Int32)), (0, va_rf (some x0)), (1, .int x1), (2, .int x2), (3, .int x3)]) dX9_couldStaff_48 (by decide) rfl ?_
      refine z_iconst C (pc := 50) (x := (0 : Int32)) dX9_couldStaff_50 kic_0 ?_
      refine z_istore C (pc := 51) (lv' := [(5, .int (0 : Int32)), (4, .int (0 : Int32)), (0, va_rf (some x0)), (1, .int x1), (2, .int x2), (3, .int x3)]) dX9_couldStaff_51 (by decide) rfl ?_
      obtain ⟨n130, h⟩ := h
      refine z_sub [2, 3, 4, 5, 1, 0] (lv' := [(0, va_rf (some x0)), (1, .int x1), (2, .int x2), (3, .int x3), (4, .int (0 : Int32)), (5, .int (0 : Int32))]) rfl ?_
      exact l_X9_couldStaff_L53 l v x0 x1 x2 x3 Q C N T n130 S4 (0 : Int32) (0 : Int32) h
    · refine z_iconst C (pc := 45) (x := (0 : Int32)) dX9_couldStaff_45 kic_0 ?_
      exact z_zret C (pc := 46) T dX9_couldStaff_46 (by decide) (by decide) h
  · refine z_iload_n C (pc := 8) dX9_couldStaff_8 2 rfl ?_
    refine z_iconst C (pc := 9) (x := (0 : Int32)) dX9_couldStaff_9 kic_0 ?_
    refine z_bipush C (pc := 10) (x := (23 : Int32)) dX9_couldStaff_10 kbp_23 ?_
    refine z_Si C (pc := 12) (KX := fun _ _ => False) (kc' := 0) (ks' := 0) (As := [.int x2, .int (0 : Int32), .int (23 : Int32)]) (rest := [va_rf (some x0)]) (c_X9_in l v S1 x2 (0 : Int32) (23 : Int32)) mw_X9_in bw_1014 bw_1015 (fit_of rfl) rfl rfl (Nat.le_of_ble_eq_true rfl) dX9_couldStaff_12 h (fun r132 S131 h => ?_) (fun En S9 h => h.elim)
    refine z_if_eq C (pc := 15) (tgt := 38) dX9_couldStaff_15 (by decide) h (fun h => ?_) (fun h => ?_)
    · refine z_iconst C (pc := 38) (x := (0 : Int32)) dX9_couldStaff_38 kic_0 ?_
      obtain ⟨o133, h⟩ := h
      refine z_Vi C (pc := 39) (KX := fun _ _ => False) (kc' := 0) (ks' := 0) (As := [.int (0 : Int32)]) (rest := []) rfl (c_X9_asks l v S131 x0 (0 : Int32)) mw_X9_asks bw_1017 bw_1019 bw_p30 (fit_of rfl) rfl rfl (Nat.le_of_ble_eq_true rfl) (by decide) rfl o133 dX9_couldStaff_39 h (fun r135 S134 h => ?_) (fun En S9 h => h.elim)
      refine z_if_ne C (pc := 42) (tgt := 47) dX9_couldStaff_42 (by decide) h (fun h => ?_) (fun h => ?_)
      · refine z_iconst C (pc := 47) (x := (0 : Int32)) dX9_couldStaff_47 kic_0 ?_
        refine z_istore C (pc := 48) (lv' := [(4, .int (0 : Int32)), (0, va_rf (some x0)), (1, .int x1), (2, .int x2), (3, .int x3)]) dX9_couldStaff_48 (by decide) rfl ?_
        refine z_iconst C (pc := 50) (x := (0 : Int32)) dX9_couldStaff_50 kic_0 ?_
        refine z_istore C (pc := 51) (lv' := [(5, .int (0 : Int32)), (4, .int (0 : Int32)), (0, va_rf (some x0)), (1, .int x1), (2, .int x2), (3, .int x3)]) dX9_couldStaff_51 (by decide) rfl ?_
        obtain ⟨n136, h⟩ := h
        refine z_sub [2, 3, 4, 5, 1, 0] (lv' := [(0, va_rf (some x0)), (1, .int x1), (2, .int x2), (3, .int x3), (4, .int (0 : Int32)), (5, .int (0 : Int32))]) rfl ?_
        exact l_X9_couldStaff_L53 l v x0 x1 x2 x3 Q C N T n136 S134 (0 : Int32) (0 : Int32) h
      · refine z_iconst C (pc := 45) (x := (0 : Int32)) dX9_couldStaff_45 kic_0 ?_
        exact z_zret C (pc := 46) T dX9_couldStaff_46 (by decide) (by decide) h
    · refine z_iload_n C (pc := 18) dX9_couldStaff_18 3 rfl ?_
      refine z_iconst C (pc := 19) (x := (0 : Int32)) dX9_couldStaff_19 kic_0 ?_
      refine z_iconst C (pc := 20) (x := (1 : Int32)) dX9_couldStaff_20 kic_1 ?_
      refine z_aload_n C (pc := 21) dX9_couldStaff_21 0 rfl ?_
      obtain ⟨o137, h⟩ := h
      refine z_getI C (pc := 22) kf9 19 (by decide) rfl bw_927 (fun _ _ _ _ h => h) dX9_couldStaff_22 rfl o137 ?_
      refine z_ishl C (pc := 25) dX9_couldStaff_25 ?_
      refine z_iconst C (pc := 26) (x := (1 : Int32)) dX9_couldStaff_26 kic_1 ?_
      refine z_isub C (pc := 27) dX9_couldStaff_27 ?_
      refine z_Si C (pc := 28) (KX := fun _ _ => False) (kc' := 0) (ks' := 0) (As := [.int x3, .int (0 : Int32), .int (((1 : Int32) <<< ((g_I S131 919 x0) &&& 31)) - (1 : Int32))]) (rest := [va_rf (some x0)]) (c_X9_in l v S131 x3 (0 : Int32) (((1 : Int32) <<< ((g_I S131 919 x0) &&& 31)) - (1 : Int32))) mw_X9_in bw_1014 bw_1015 (fit_of rfl) rfl rfl (Nat.le_of_ble_eq_true rfl) dX9_couldStaff_28 h (fun r139 S138 h => ?_) (fun En S9 h => h.elim)
      refine z_if_eq C (pc := 31) (tgt := 38) dX9_couldStaff_31 (by decide) h (fun h => ?_) (fun h => ?_)
      · refine z_iconst C (pc := 38) (x := (0 : Int32)) dX9_couldStaff_38 kic_0 ?_
        obtain ⟨o140, h⟩ := h
        refine z_Vi C (pc := 39) (KX := fun _ _ => False) (kc' := 0) (ks' := 0) (As := [.int (0 : Int32)]) (rest := []) rfl (c_X9_asks l v S138 x0 (0 : Int32)) mw_X9_asks bw_1017 bw_1019 bw_p30 (fit_of rfl) rfl rfl (Nat.le_of_ble_eq_true rfl) (by decide) rfl o140 dX9_couldStaff_39 h (fun r142 S141 h => ?_) (fun En S9 h => h.elim)
        refine z_if_ne C (pc := 42) (tgt := 47) dX9_couldStaff_42 (by decide) h (fun h => ?_) (fun h => ?_)
        · refine z_iconst C (pc := 47) (x := (0 : Int32)) dX9_couldStaff_47 kic_0 ?_
          refine z_istore C (pc := 48) (lv' := [(4, .int (0 : Int32)), (0, va_rf (some x0)), (1, .int x1), (2, .int x2), (3, .int x3)]) dX9_couldStaff_48 (by decide) rfl ?_
          refine z_iconst C (pc := 50) (x := (0 : Int32)) dX9_couldStaff_50 kic_0 ?_
          refine z_istore C (pc := 51) (lv' := [(5, .int (0 : Int32)), (4, .int (0 : Int32)), (0, va_rf (some x0)), (1, .int x1), (2, .int x2), (3, .int x3)]) dX9_couldStaff_51 (by decide) rfl ?_
          obtain ⟨n143, h⟩ := h
          refine z_sub [2, 3, 4, 5, 1, 0] (lv' := [(0, va_rf (some x0)), (1, .int x1), (2, .int x2), (3, .int x3), (4, .int (0 : Int32)), (5, .int (0 : Int32))]) rfl ?_
          exact l_X9_couldStaff_L53 l v x0 x1 x2 x3 Q C N T n143 S141 (0 : Int32) (0 : Int32) h
        · refine z_iconst C (pc := 45) (x := (0 : Int32)) dX9_couldStaff_45 kic_0 ?_
          exact z_zret C (pc := 46) T dX9_couldStaff_46 (by decide) (by decide) h
      · refine z_iconst C (pc := 34) (x := (1 : Int32)) dX9_couldStaff_34 kic_1 ?_
        refine z_goto C (pc := 35) (tgt := 39) dX9_couldStaff_35 (by decide) ?_
        obtain ⟨o144, h⟩ := h
        refine z_Vi C (pc := 39) (KX := fun _ _ => False) (kc' := 0) (ks' := 0) (As := [.int (1 : Int32)]) (rest := []) rfl (c_X9_asks l v S138 x0 (1 : Int32)) mw_X9_asks bw_1017 bw_1019 bw_p30 (fit_of rfl) rfl rfl (Nat.le_of_ble_eq_true rfl) (by decide) rfl o144 dX9_couldStaff_39 h (fun r146 S145 h => ?_) (fun En S9 h => h.elim)
        refine z_if_ne C (pc := 42) (tgt := 47) dX9_couldStaff_42 (by decide) h (fun h => ?_) (fun h => ?_)
        · refine z_iconst C (pc := 47) (x := (0 : Int32)) dX9_couldStaff_47 kic_0 ?_
          refine z_istore C (pc := 48) (lv' := [(4, .int (0 : Int32)), (0, va_rf (some x0)), (1, .int x1), (2, .int x2), (3, .int x3)]) dX9_couldStaff_48 (by decide) rfl ?_
          refine z_iconst C (pc := 50) (x := (0 : Int32)) dX9_couldStaff_50 kic_0 ?_
          refine z_istore C (pc := 51) (lv' := [(5, .int (0 : Int32)), (4, .int (0 : Int32)), (0, va_rf (some x0)), (1, .int x1), (2, .int x2), (3, .int x3)]) dX9_couldStaff_51 (by decide) rfl ?_
          obtain ⟨n147, h⟩ := h
          refine z_sub [2, 3, 4, 5, 1, 0] (lv' := [(0, va_rf (some x0)), (1, .int x1), (2, .int x2), (3, .int x3), (4, .int (0 : Int32)), (5, .int (0 : Int32))]) rfl ?_
          exact l_X9_couldStaff_L53 l v x0 x1 x2 x3 Q C N T n147 S145 (0 : Int32) (0 : Int32) h
        · refine z_iconst C (pc := 45) (x := (0 : Int32)) dX9_couldStaff_45 kic_0 ?_
          exact z_zret C (pc := 46) T dX9_couldStaff_46 (by decide) (by decide) h
def wp_X9_boxes (S : Hp) (x0 : Nat) (x1 : Int32) (x2 : Int32) (Q : Int32 → Hp → Prop) : Prop :=
  okA S 9 x0 ∧ (wp_X9_isChild S x0 x1 (fun r3 S2 => okA S2 9 x0 ∧ (wp_X9_asks S2 x0 r3 (fun r6 S5 => if r6 = 0 then (Q (0 : Int32) S5) else (wp_X9_in S5 x2 (1 : Int32) (99 : Int32) (fun r8 S7 => if r8 = 0 then (okA S7 9 x0 ∧ (wp_X9_fails S7 x0 (2 : Int32) (fun r124 S123 => Q r124 S123))) else (okA S7 9 x0 ∧ (rd S7 11 (g_P S7 912 x0) (fun a10 => vp_in x1 (g_N S7 a10) ∧ (if (g_R S7 a10 x1.toNatClampNeg) ≤ 0 then (rd S7 11 (g_P S7 907 x0) (fun a14 => vp_in x1 (g_N S7 a14) ∧ (if (g_R S7 a14 x1.toNatClampNeg) = (-1 : Int32) then (wp_X9_fails S7 x0 (3 : Int32) (fun r19 S18 => Q r19 S18)) else (rd S7 11 (g_P S7 914 x0) (fun a20 => vp_in x1 (g_N S7 a20) ∧ (if ((g_R S7 a20 x1.toNatClampNeg) + x2) ≤ (9999 : Int32) then (rd S7 11 (g_P S7 907 x0) (fun a24 => vp_in x1 (g_N S7 a24) ∧ (rd S7 11 (g_P S7 913 x0) (fun a28 => vp_in x1 (g_N S7 a28) ∧ (lt (s_R S7 a28 x1.toNatClampNeg (g_R S7 a24 x1.toNatClampNeg)) (fun S32 => okA S32 9 x0 ∧ (rd S32 11 (g_P S32 914 x0) (fun a34 => vp_in x1 (g_N S32 a34) ∧ (rd S32 11 (g_P S32 914 x0) (fun a38 => vp_in x1 (g_N S32 a38) ∧ (lt (s_R S32 a38 x1.toNatClampNeg ((g_R S32 a34 x1.toNatClampNeg) + x2)) (fun S42 => okA S42 9 x0 ∧ (rd S42 11 (g_P S42 912 x0) (fun a44 => vp_in x1 (g_N S42 a44) ∧ (rd S42 11 (g_P S42 912 x0) (fun a48 => vp_in x1 (g_N S42 a48) ∧ (lt (s_R S42 a48 x1.toNatClampNeg ((g_R S42 a44 x1.toNatClampNeg) + ((4 : Int32) * x2))) (fun S52 => okA S52 9 x0 ∧ (rd S52 11 (g_P S52 912 x0) (fun a54 => vp_in x1 (g_N S52 a54) ∧ (Q (g_R S52 a54 x1.toNatClampNeg) S52))))))))))))))))))))) else (wp_X9_fails S7 x0 (3 : Int32) (fun r59 S58 => Q r59 S58)))))))) else (rd S7 11 (g_P S7 913 x0) (fun a60 => vp_in x1 (g_N S7 a60) ∧ (rd S7 11 (g_P S7 907 x0) (fun a64 => vp_in x1 (g_N S7 a64) ∧ (if (g_R S7 a60 x1.toNatClampNeg) = (g_R S7 a64 x1.toNatClampNeg) then (rd S7 11 (g_P S7 907 x0) (fun a68 => vp_in x1 (g_N S7 a68) ∧ (if (g_R S7 a68 x1.toNatClampNeg) = (-1 : Int32) then (wp_X9_fails S7 x0 (3 : Int32) (fun r73 S72 => Q r73 S72)) else (rd S7 11 (g_P S7 914 x0) (fun a74 => vp_in x1 (g_N S7 a74) ∧ (if ((g_R S7 a74 x1.toNatClampNeg) + x2) ≤ (9999 : Int32) then (rd S7 11 (g_P S7 907 x0) (fun a78 => vp_in x1 (g_N S7 a78) ∧ (rd S7 11 (g_P S7 913 x0) (fun a82 => vp_in x1 (g_N S7 a82) ∧ (lt (s_R S7 a82 x1.toNatClampNeg (g_R S7 a78 x1.toNatClampNeg)) (fun S86 => okA S86 9 x0 ∧ (rd S86 11 (g_P S86 914 x0) (fun a88 => vp_in x1 (g_N S86 a88) ∧ (rd S86 11 (g_P S86 914 x0) (fun a92 => vp_in x1 (g_N S86 a92) ∧ (lt (s_R S86 a92 x1.toNatClampNeg ((g_R S86 a88 x1.toNatClampNeg) + x2)) (fun S96 => okA S96 9 x0 ∧ (rd S96 11 (g_P S96 912 x0) (fun a98 => vp_in x1 (g_N S96 a98) ∧ (rd S96 11 (g_P S96 912 x0) (fun a102 => vp_in x1 (g_N S96 a102) ∧ (lt (s_R S96 a102 x1.toNatClampNeg ((g_R S96 a98 x1.toNatClampNeg) + ((4 : Int32) * x2))) (fun S106 => okA S106 9 x0 ∧ (rd S106 11 (g_P S106 912 x0) (fun a108 => vp_in x1 (g_N S106 a108) ∧ (Q (g_R S106 a108 x1.toNatClampNeg) S106))))))))))))))))))))) else (wp_X9_fails S7 x0 (3 : Int32) (fun r113 S112 => Q r113 S112)))))))) else (rd S7 11 (g_P S7 907 x0) (fun a114 => vp_in x1 (g_N S7 a114) ∧ (if (g_R S7 a114 x1.toNatClampNeg) = (-1 : Int32) then (wp_X9_fails S7 x0 (3 : Int32) (fun r119 S118 => Q r119 S118)) else (wp_X9_fails S7 x0 (3 : Int32) (fun r121 S120 => Q r121 S120))))))))))))))))))))
def rm_X9_boxes : Room := { frames := 2, cells := 0, slots := 0, locals := 43 }
set_option maxHeartbeats 4000000 in
set_option maxRecDepth 100000 in
theorem c_X9_boxes (l : Launch) (v : Ev) (S : Hp) (x0 : Nat) (x1 : Int32) (x2 : Int32) : CI l v yX9_boxes cX9_boxes 4 (some .int) rm_X9_boxes [va_rf (some x0), .int x1, .int x2] S (fun Q _ => wp_X9_boxes S x0 x1 x2 Q) := by
  intro Q EQ h
  refine z_start [(0, va_rf (some x0)), (1, .int x1), (2, .int x2)] (by decide +kernel) (by simp only [la_i, la_r, la_n]) (cat_cr (cat_ci (cat_ci cat_nil))) (by simp only [ls_i, ls_r, ls_n]; decide) (fun z C N T => ?_)
  unfold wp_X9_boxes at h
  refine z_aload_n C (pc := 0) dX9_boxes_0 0 rfl ?_
  refine z_aload_n C (pc := 1) dX9_boxes_1 0 rfl ?_
  refine z_iload_n C (pc := 2) dX9_boxes_2 1 rfl ?_
  obtain ⟨o1, h⟩ := h
  refine z_Vi C (pc := 3) (KX := fun _ _ => False) (kc' := 0) (ks' := 0) (As := [.int x1]) (rest := [va_rf (some x0)]) rfl (c_X9_isChild l v S x0 x1) mw_X9_isChild bw_1033 bw_1035 bw_p32 (fit_of rfl) rfl rfl (Nat.le_of_ble_eq_true rfl) (by decide) rfl o1 dX9_boxes_3 h (fun r3 S2 h => ?_) (fun En S9 h => h.elim)
  obtain ⟨o4, h⟩ := h
  refine z_Vi C (pc := 6) (KX := fun _ _ => False) (kc' := 0) (ks' := 0) (As := [.int r3]) (rest := []) rfl (c_X9_asks l v S2 x0 r3) mw_X9_asks bw_1017 bw_1019 bw_p30 (fit_of rfl) rfl rfl (Nat.le_of_ble_eq_true rfl) (by decide) rfl o4 dX9_boxes_6 h (fun r6 S5 h => ?_) (fun En S9 h => h.elim)
  refine z_if_ne C (pc := 9) (tgt := 14) dX9_boxes_9 (by decide) h (fun h => ?_) (fun h => ?_)
  · refine z_iload_n C (pc := 14) dX9_boxes_14 2 rfl ?_
    refine z_iconst C (pc := 15) (x := (1 : Int32)) dX9_boxes_15 kic_1 ?_
    refine z_bipush C (pc := 16) (x := (99 : Int32)) dX9_boxes_16 kbp_99 ?_
    refine z_Si C (pc := 18) (KX := fun _ _ => False) (kc' := 0) (ks' := 0) (As := [.int x2, .int (1 : Int32), .int (99 : Int32)]) (rest := []) (c_X9_in l v S5 x2 (1 : Int32) (99 : Int32)) mw_X9_in bw_1014 bw_1015 (fit_of rfl) rfl rfl (Nat.le_of_ble_eq_true rfl) dX9_boxes_18 h (fun r8 S7 h => ?_) (fun En S9 h => h.elim)
    refine z_if_ne C (pc := 21) (tgt := 30) dX9_boxes_21 (by decide) h (fun h => ?_) (fun h => ?_)
    · refine z_aload_n C (pc := 30) dX9_boxes_30 0 rfl ?_
      obtain ⟨o9, h⟩ := h
      refine z_getP C (pc := 31) kf9 12 (by decide) rfl bw_920 (fun _ _ _ _ h => h) dX9_boxes_31 rfl o9 ?_
      refine z_iload_n C (pc := 34) dX9_boxes_34 1 rfl ?_
      obtain ⟨a10, e11, o12, h⟩ := h
      obtain ⟨v13, h⟩ := h
      refine z_iald C (pc := 35) dX9_boxes_35 e11 o12 v13 ?_
      refine z_if_le C (pc := 36) (tgt := 58) dX9_boxes_36 (by decide) h (fun h => ?_) (fun h => ?_)
      · refine z_iconst C (pc := 58) (x := (0 : Int32)) dX9_boxes_58 kic_0 ?_
        refine z_istore_n C (pc := 59) (lv' := [(3, .int (0 : Int32)), (0, va_rf (some x0)), (1, .int x1), (2, .int x2)]) dX9_boxes_59 (by decide) rfl ?_
        refine z_aload_n C (pc := 60) dX9_boxes_60 1 rfl ?_
        refine z_getP C (pc := 61) kf9 7 (by decide) rfl bw_915 (fun _ _ _ _ h => h) dX9_boxes_61 rfl o9 ?_
        refine z_iload_n C (pc := 64) dX9_boxes_64 2 rfl ?_
        obtain ⟨a14, e15, o16, h⟩ := h
        obtain ⟨v17, h⟩ := h
        refine z_iald C (pc := 65) dX9_boxes_65 e15 o16 v17 ?_
        refine z_iconst C (pc := 66) (x := (-1 : Int32)) dX9_boxes_66 kic_m1 ?_
        refine z_icmp_eq C (pc := 67) (tgt := 88) dX9_boxes_67 (by decide) h (fun h => ?_) (fun h => ?_)
        · refine z_aload_n C (pc := 88) dX9_boxes_88 1 rfl ?_
          refine z_iconst C (pc := 89) (x := (3 : Int32)) dX9_boxes_89 kic_3 ?_
          refine z_Vi C (pc := 90) (KX := fun _ _ => False) (kc' := 0) (ks' := 0) (As := [.int (3 : Int32)]) (rest := []) rfl (c_X9_fails l v S7 x0 (3 : Int32)) mw_X9_fails bw_1021 bw_1023 bw_p31 (fit_of rfl) rfl rfl (Nat.le_of_ble_eq_true rfl) (by decide) rfl o9 dX9_boxes_90 h (fun r19 S18 h => ?_) (fun En S9 h => h.elim)
          exact z_iret C (pc := 93) T dX9_boxes_93 (by decide) (by decide) h
        · refine z_iload_n C (pc := 70) dX9_boxes_70 0 rfl ?_
          refine z_if_ne C (pc := 71) (tgt := 88) dX9_boxes_71 (by decide) (ifT (c := (0 : Int32) = 0) (by decide) h) (fun h => h.elim) (fun h => ?_)
          refine z_aload_n C (pc := 74) dX9_boxes_74 1 rfl ?_
          refine z_getP C (pc := 75) kf9 14 (by decide) rfl bw_922 (fun _ _ _ _ h => h) dX9_boxes_75 rfl o9 ?_
          refine z_iload_n C (pc := 78) dX9_boxes_78 2 rfl ?_
          obtain ⟨a20, e21, o22, h⟩ := h
          obtain ⟨v23, h⟩ := h
          refine z_iald C (pc := 79) dX9_boxes_79 e21 o22 v23 ?_
          refine z_iload_n C (pc := 80) dX9_boxes_80 3 rfl ?_
          refine z_iadd C (pc := 81) dX9_boxes_81 ?_
          refine z_sipush C (pc := 82) (x := (9999 : Int32)) dX9_boxes_82 ksp_9999 ?_
          refine z_icmp_le C (pc := 85) (tgt := 94) dX9_boxes_85 (by decide) h (fun h => ?_) (fun h => ?_)
          · refine z_aload_n C (pc := 94) dX9_boxes_94 1 rfl ?_
            refine z_getP C (pc := 95) kf9 13 (by decide) rfl bw_921 (fun _ _ _ _ h => h) dX9_boxes_95 rfl o9 ?_
            refine z_iload_n C (pc := 98) dX9_boxes_98 2 rfl ?_
            refine z_aload_n C (pc := 99) dX9_boxes_99 1 rfl ?_
            refine z_getP C (pc := 100) kf9 7 (by decide) rfl bw_915 (fun _ _ _ _ h => h) dX9_boxes_100 rfl o9 ?_
            refine z_iload_n C (pc := 103) dX9_boxes_103 2 rfl ?_
            obtain ⟨a24, e25, o26, h⟩ := h
            obtain ⟨v27, h⟩ := h
            refine z_iald C (pc := 104) dX9_boxes_104 e25 o26 v27 ?_
            obtain ⟨a28, e29, o30, h⟩ := h
            obtain ⟨v31, h⟩ := h
            refine z_iast C (pc := 105) dX9_boxes_105 e29 o30 v31 ?_
            refine z_lt h (fun S32 h => ?_)
            refine z_aload_n C (pc := 106) dX9_boxes_106 1 rfl ?_
            obtain ⟨o33, h⟩ := h
            refine z_getP C (pc := 107) kf9 14 (by decide) rfl bw_922 (fun _ _ _ _ h => h) dX9_boxes_107 rfl o33 ?_
            refine z_iload_n C (pc := 110) dX9_boxes_110 2 rfl ?_
            refine z_dup2 C (pc := 111) dX9_boxes_111 rfl (cat_rf _) ?_
            obtain ⟨a34, e35, o36, h⟩ := h
            obtain ⟨v37, h⟩ := h
            refine z_iald C (pc := 112) dX9_boxes_112 e35 o36 v37 ?_
            refine z_iload_n C (pc := 113) dX9_boxes_113 3 rfl ?_
            refine z_iadd C (pc := 114) dX9_boxes_114 ?_
            obtain ⟨a38, e39, o40, h⟩ := h
            obtain ⟨v41, h⟩ := h
            refine z_iast C (pc := 115) dX9_boxes_115 e39 o40 v41 ?_
            refine z_lt h (fun S42 h => ?_)
            refine z_aload_n C (pc := 116) dX9_boxes_116 1 rfl ?_
            obtain ⟨o43, h⟩ := h
            refine z_getP C (pc := 117) kf9 12 (by decide) rfl bw_920 (fun _ _ _ _ h => h) dX9_boxes_117 rfl o43 ?_
            refine z_iload_n C (pc := 120) dX9_boxes_120 2 rfl ?_
            refine z_dup2 C (pc := 121) dX9_boxes_121 rfl (cat_rf _) ?_
            obtain ⟨a44, e45, o46, h⟩ := h
            obtain ⟨v47, h⟩ := h
            refine z_iald C (pc := 122) dX9_boxes_122 e45 o46 v47 ?_
            refine z_iconst C (pc := 123) (x := (4 : Int32)) dX9_boxes_123 kic_4 ?_
            refine z_iload_n C (pc := 124) dX9_boxes_124 3 rfl ?_
            refine z_imul C (pc := 125) dX9_boxes_125 ?_
            refine z_iadd C (pc := 126) dX9_boxes_126 ?_
            obtain ⟨a48, e49, o50, h⟩ := h
            obtain ⟨v51, h⟩ := h
            refine z_iast C (pc := 127) dX9_boxes_127 e49 o50 v51 ?_
            refine z_lt h (fun S52 h => ?_)
            refine z_aload_n C (pc := 128) dX9_boxes_128 1 rfl ?_
            obtain ⟨o53, h⟩ := h
            refine z_getP C (pc := 129) kf9 12 (by decide) rfl bw_920 (fun _ _ _ _ h => h) dX9_boxes_129 rfl o53 ?_
            refine z_iload_n C (pc := 132) dX9_boxes_132 2 rfl ?_
            obtain ⟨a54, e55, o56, h⟩ := h
            obtain ⟨v57, h⟩ := h
            refine z_iald C (pc := 133) dX9_boxes_133 e55 o56 v57 ?_
            exact z_iret C (pc := 134) T dX9_boxes_134 (by decide) (by decide) h
          · refine z_aload_n C (pc := 88) dX9_boxes_88 1 rfl ?_
            refine z_iconst C (pc := 89) (x := (3 : Int32)) dX9_boxes_89 kic_3 ?_
            refine z_Vi C (pc := 90) (KX := fun _ _ => False) (kc' := 0) (ks' := 0) (As := [.int (3 : Int32)]) (rest := []) rfl (c_X9_fails l v S7 x0 (3 : Int32)) mw_X9_fails bw_1021 bw_1023 bw_p31 (fit_of rfl) rfl rfl (Nat.le_of_ble_eq_true rfl) (by decide) rfl o9 dX9_boxes_90 h (fun r59 S58 h => ?_) (fun En S9 h => h.elim)
            exact z_iret C (pc := 93) T dX9_boxes_93 (by decide) (by decide) h
      · refine z_aload_n C (pc := 39) dX9_boxes_39 0 rfl ?_
        refine z_getP C (pc := 40) kf9 13 (by decide) rfl bw_921 (fun _ _ _ _ h => h) dX9_boxes_40 rfl o9 ?_
        refine z_iload_n C (pc := 43) dX9_boxes_43 1 rfl ?_
        obtain ⟨a60, e61, o62, h⟩ := h
        obtain ⟨v63, h⟩ := h
        refine z_iald C (pc := 44) dX9_boxes_44 e61 o62 v63 ?_
        refine z_aload_n C (pc := 45) dX9_boxes_45 0 rfl ?_
        refine z_getP C (pc := 46) kf9 7 (by decide) rfl bw_915 (fun _ _ _ _ h => h) dX9_boxes_46 rfl o9 ?_
        refine z_iload_n C (pc := 49) dX9_boxes_49 1 rfl ?_
        obtain ⟨a64, e65, o66, h⟩ := h
        obtain ⟨v67, h⟩ := h
        refine z_iald C (pc := 50) dX9_boxes_50 e65 o66 v67 ?_
        refine z_icmp_eq C (pc := 51) (tgt := 58) dX9_boxes_51 (by decide) h (fun h => ?_) (fun h => ?_)
        · refine z_iconst C (pc := 58) (x := (0 : Int32)) dX9_boxes_58 kic_0 ?_
          refine z_istore_n C (pc := 59) (lv' := [(3, .int (0 : Int32)), (0, va_rf (some x0)), (1, .int x1), (2, .int x2)]) dX9_boxes_59 (by decide) rfl ?_
          refine z_aload_n C (pc := 60) dX9_boxes_60 1 rfl ?_
          refine z_getP C (pc := 61) kf9 7 (by decide) rfl bw_915 (fun _ _ _ _ h => h) dX9_boxes_61 rfl o9 ?_
          refine z_iload_n C (pc := 64) dX9_boxes_64 2 rfl ?_
          obtain ⟨a68, e69, o70, h⟩ := h
          obtain ⟨v71, h⟩ := h
          refine z_iald C (pc := 65) dX9_boxes_65 e69 o70 v71 ?_
          refine z_iconst C (pc := 66) (x := (-1 : Int32)) dX9_boxes_66 kic_m1 ?_
          refine z_icmp_eq C (pc := 67) (tgt := 88) dX9_boxes_67 (by decide) h (fun h => ?_) (fun h => ?_)
          · refine z_aload_n C (pc := 88) dX9_boxes_88 1 rfl ?_
            refine z_iconst C (pc := 89) (x := (3 : Int32)) dX9_boxes_89 kic_3 ?_
            refine z_Vi C (pc := 90) (KX := fun _ _ => False) (kc' := 0) (ks' := 0) (As := [.int (3 : Int32)]) (rest := []) rfl (c_X9_fails l v S7 x0 (3 : Int32)) mw_X9_fails bw_1021 bw_1023 bw_p31 (fit_of rfl) rfl rfl (Nat.le_of_ble_eq_true rfl) (by decide) rfl o9 dX9_boxes_90 h (fun r73 S72 h => ?_) (fun En S9 h => h.elim)
            exact z_iret C (pc := 93) T dX9_boxes_93 (by decide) (by decide) h
          · refine z_iload_n C (pc := 70) dX9_boxes_70 0 rfl ?_
            refine z_if_ne C (pc := 71) (tgt := 88) dX9_boxes_71 (by decide) (ifT (c := (0 : Int32) = 0) (by decide) h) (fun h => h.elim) (fun h => ?_)
            refine z_aload_n C (pc := 74) dX9_boxes_74 1 rfl ?_
            refine z_getP C (pc := 75) kf9 14 (by decide) rfl bw_922 (fun _ _ _ _ h => h) dX9_boxes_75 rfl o9 ?_
            refine z_iload_n C (pc := 78) dX9_boxes_78 2 rfl ?_
            obtain ⟨a74, e75, o76, h⟩ := h
            obtain ⟨v77, h⟩ := h
            refine z_iald C (pc := 79) dX9_boxes_79 e75 o76 v77 ?_
            refine z_iload_n C (pc := 80) dX9_boxes_80 3 rfl ?_
            refine z_iadd C (pc := 81) dX9_boxes_81 ?_
            refine z_sipush C (pc := 82) (x := (9999 : Int32)) dX9_boxes_82 ksp_9999 ?_
            refine z_icmp_le C (pc := 85) (tgt := 94) dX9_boxes_85 (by decide) h (fun h => ?_) (fun h => ?_)
            · refine z_aload_n C (pc := 94) dX9_boxes_94 1 rfl ?_
              refine z_getP C (pc := 95) kf9 13 (by decide) rfl bw_921 (fun _ _ _ _ h => h) dX9_boxes_95 rfl o9 ?_
              refine z_iload_n C (pc := 98) dX9_boxes_98 2 rfl ?_
              refine z_aload_n C (pc := 99) dX9_boxes_99 1 rfl ?_
              refine z_getP C (pc := 100) kf9 7 (by decide) rfl bw_915 (fun _ _ _ _ h => h) dX9_boxes_100 rfl o9 ?_
              refine z_iload_n C (pc := 103) dX9_boxes_103 2 rfl ?_
              obtain ⟨a78, e79, o80, h⟩ := h
              obtain ⟨v81, h⟩ := h
              refine z_iald C (pc := 104) dX9_boxes_104 e79 o80 v81 ?_
              obtain ⟨a82, e83, o84, h⟩ := h
              obtain ⟨v85, h⟩ := h
              refine z_iast C (pc := 105) dX9_boxes_105 e83 o84 v85 ?_
              refine z_lt h (fun S86 h => ?_)
              refine z_aload_n C (pc := 106) dX9_boxes_106 1 rfl ?_
              obtain ⟨o87, h⟩ := h
              refine z_getP C (pc := 107) kf9 14 (by decide) rfl bw_922 (fun _ _ _ _ h => h) dX9_boxes_107 rfl o87 ?_
              refine z_iload_n C (pc := 110) dX9_boxes_110 2 rfl ?_
              refine z_dup2 C (pc := 111) dX9_boxes_111 rfl (cat_rf _) ?_
              obtain ⟨a88, e89, o90, h⟩ := h
              obtain ⟨v91, h⟩ := h
              refine z_iald C (pc := 112) dX9_boxes_112 e89 o90 v91 ?_
              refine z_iload_n C (pc := 113) dX9_boxes_113 3 rfl ?_
              refine z_iadd C (pc := 114) dX9_boxes_114 ?_
              obtain ⟨a92, e93, o94, h⟩ := h
              obtain ⟨v95, h⟩ := h
              refine z_iast C (pc := 115) dX9_boxes_115 e93 o94 v95 ?_
              refine z_lt h (fun S96 h => ?_)
              refine z_aload_n C (pc := 116) dX9_boxes_116 1 rfl ?_
              obtain ⟨o97, h⟩ := h
              refine z_getP C (pc := 117) kf9 12 (by decide) rfl bw_920 (fun _ _ _ _ h => h) dX9_boxes_117 rfl o97 ?_
              refine z_iload_n C (pc := 120) dX9_boxes_120 2 rfl ?_
              refine z_dup2 C (pc := 121) dX9_boxes_121 rfl (cat_rf _) ?_
              obtain ⟨a98, e99, o100, h⟩ := h
              obtain ⟨v101, h⟩ := h
              refine z_iald C (pc := 122) dX9_boxes_122 e99 o100 v101 ?_
              refine z_iconst C (pc := 123) (x := (4 : Int32)) dX9_boxes_123 kic_4 ?_
              refine z_iload_n C (pc := 124) dX9_boxes_124 3 rfl ?_
              refine z_imul C (pc := 125) dX9_boxes_125 ?_
              refine z_iadd C (pc := 126) dX9_boxes_126 ?_
              obtain ⟨a102, e103, o104, h⟩ := h
              obtain ⟨v105, h⟩ := h
              refine z_iast C (pc := 127) dX9_boxes_127 e103 o104 v105 ?_
              refine z_lt h (fun S106 h => ?_)
              refine z_aload_n C (pc := 128) dX9_boxes_128 1 rfl ?_
              obtain ⟨o107, h⟩ := h
              refine z_getP C (pc := 129) kf9 12 (by decide) rfl bw_920 (fun _ _ _ _ h => h) dX9_boxes_129 rfl o107 ?_
              refine z_iload_n C (pc := 132) dX9_boxes_132 2 rfl ?_
              obtain ⟨a108, e109, o110, h⟩ := h
              obtain ⟨v111, h⟩ := h
              refine z_iald C (pc := 133) dX9_boxes_133 e109 o110 v111 ?_
              exact z_iret C (pc := 134) T dX9_boxes_134 (by decide) (by decide) h
            · refine z_aload_n C (pc := 88) dX9_boxes_88 1 rfl ?_
              refine z_iconst C (pc := 89) (x := (3 : Int32)) dX9_boxes_89 kic_3 ?_
              refine z_Vi C (pc := 90) (KX := fun _ _ => False) (kc' := 0) (ks' := 0) (As := [.int (3 : Int32)]) (rest := []) rfl (c_X9_fails l v S7 x0 (3 : Int32)) mw_X9_fails bw_1021 bw_1023 bw_p31 (fit_of rfl) rfl rfl (Nat.le_of_ble_eq_true rfl) (by decide) rfl o9 dX9_boxes_90 h (fun r113 S112 h => ?_) (fun En S9 h => h.elim)
              exact z_iret C (pc := 93) T dX9_boxes_93 (by decide) (by decide) h
        · refine z_iconst C (pc := 54) (x := (1 : Int32)) dX9_boxes_54 kic_1 ?_
          refine z_goto C (pc := 55) (tgt := 59) dX9_boxes_55 (by decide) ?_
          refine z_istore_n C (pc := 59) (lv' := [(3, .int (1 : Int32)), (0, va_rf (some x0)), (1, .int x1), (2, .int x2)]) dX9_boxes_59 (by decide) rfl ?_
          refine z_aload_n C (pc := 60) dX9_boxes_60 1 rfl ?_
          refine z_getP C (pc := 61) kf9 7 (by decide) rfl bw_915 (fun _ _ _ _ h => h) dX9_boxes_61 rfl o9 ?_
          refine z_iload_n C (pc := 64) dX9_boxes_64 2 rfl ?_
          obtain ⟨a114, e115, o116, h⟩ := h
          obtain ⟨v117, h⟩ := h
          refine z_iald C (pc := 65) dX9_boxes_65 e115 o116 v117 ?_
          refine z_iconst C (pc := 66) (x := (-1 : Int32)) dX9_boxes_66 kic_m1 ?_
          refine z_icmp_eq C (pc := 67) (tgt := 88) dX9_boxes_67 (by decide) h (fun h => ?_) (fun h => ?_)
          · refine z_aload_n C (pc := 88) dX9_boxes_88 1 rfl ?_
            refine z_iconst C (pc := 89) (x := (3 : Int32)) dX9_boxes_89 kic_3 ?_
            refine z_Vi C (pc := 90) (KX := fun _ _ => False) (kc' := 0) (ks' := 0) (As := [.int (3 : Int32)]) (rest := []) rfl (c_X9_fails l v S7 x0 (3 : Int32)) mw_X9_fails bw_1021 bw_1023 bw_p31 (fit_of rfl) rfl rfl (Nat.le_of_ble_eq_true rfl) (by decide) rfl o9 dX9_boxes_90 h (fun r119 S118 h => ?_) (fun En S9 h => h.elim)
            exact z_iret C (pc := 93) T dX9_boxes_93 (by decide) (by decide) h
          · refine z_iload_n C (pc := 70) dX9_boxes_70 0 rfl ?_
            refine z_if_ne C (pc := 71) (tgt := 88) dX9_boxes_71 (by decide) (ifF (c := (1 : Int32) = 0) (by decide) h) (fun h => ?_) (fun h => h.elim)
            refine z_aload_n C (pc := 88) dX9_boxes_88 1 rfl ?_
            refine z_iconst C (pc := 89) (x := (3 : Int32)) dX9_boxes_89 kic_3 ?_
            refine z_Vi C (pc := 90) (KX := fun _ _ => False) (kc' := 0) (ks' := 0) (As := [.int (3 : Int32)]) (rest := []) rfl (c_X9_fails l v S7 x0 (3 : Int32)) mw_X9_fails bw_1021 bw_1023 bw_p31 (fit_of rfl) rfl rfl (Nat.le_of_ble_eq_true rfl) (by decide) rfl o9 dX9_boxes_90 h (fun r121 S120 h => ?_) (fun En S9 h => h.elim)
            exact z_iret C (pc := 93) T dX9_boxes_93 (by decide) (by decide) h
    · refine z_aload_n C (pc := 24) dX9_boxes_24 0 rfl ?_
      refine z_iconst C (pc := 25) (x := (2 : Int32)) dX9_boxes_25 kic_2 ?_
      obtain ⟨o122, h⟩ := h
      refine z_Vi C (pc := 26) (KX := fun _ _ => False) (kc' := 0) (ks' := 0) (As := [.int (2 : Int32)]) (rest := []) rfl (c_X9_fails l v S7 x0 (2 : Int32)) mw_X9_fails bw_1021 bw_1023 bw_p31 (fit_of rfl) rfl rfl (Nat.le_of_ble_eq_true rfl) (by decide) rfl o122 dX9_boxes_26 h (fun r124 S123 h => ?_) (fun En S9 h => h.elim)
      exact z_iret C (pc := 29) T dX9_boxes_29 (by decide) (by decide) h
  · refine z_iconst C (pc := 12) (x := (0 : Int32)) dX9_boxes_12 kic_0 ?_
    exact z_iret C (pc := 13) T dX9_boxes_13 (by decide) (by decide) h
def wp_X9_pay (S : Hp) (x0 : Nat) (x1 : Int32) (x2 : Int32) (Q : Int32 → Hp → Prop) : Prop :=
  okA S 9 x0 ∧ (wp_X9_isChild S x0 x1 (fun r3 S2 => okA S2 9 x0 ∧ (wp_X9_asks S2 x0 r3 (fun r6 S5 => if r6 = 0 then (Q (0 : Int32) S5) else (wp_X9_in S5 x2 (1 : Int32) (396 : Int32) (fun r8 S7 => if r8 = 0 then (okA S7 9 x0 ∧ (wp_X9_fails S7 x0 (2 : Int32) (fun r32 S31 => Q r32 S31))) else (okA S7 9 x0 ∧ (rd S7 11 (g_P S7 912 x0) (fun a10 => vp_in x1 (g_N S7 a10) ∧ (if x2 ≤ (g_R S7 a10 x1.toNatClampNeg) then (rd S7 11 (g_P S7 912 x0) (fun a14 => vp_in x1 (g_N S7 a14) ∧ (rd S7 11 (g_P S7 912 x0) (fun a18 => vp_in x1 (g_N S7 a18) ∧ (lt (s_R S7 a18 x1.toNatClampNeg ((g_R S7 a14 x1.toNatClampNeg) - x2)) (fun S22 => okA S22 9 x0 ∧ (rd S22 11 (g_P S22 912 x0) (fun a24 => vp_in x1 (g_N S22 a24) ∧ (Q (g_R S22 a24 x1.toNatClampNeg) S22))))))))) else (wp_X9_fails S7 x0 (3 : Int32) (fun r29 S28 => Q r29 S28))))))))))))
def rm_X9_pay : Room := { frames := 2, cells := 0, slots := 0, locals := 43 }
set_option maxHeartbeats 4000000 in
set_option maxRecDepth 100000 in
theorem c_X9_pay (l : Launch) (v : Ev) (S : Hp) (x0 : Nat) (x1 : Int32) (x2 : Int32) : CI l v yX9_pay cX9_pay 3 (some .int) rm_X9_pay [va_rf (some x0), .int x1, .int x2] S (fun Q _ => wp_X9_pay S x0 x1 x2 Q) := by
  intro Q EQ h
  refine z_start [(0, va_rf (some x0)), (1, .int x1), (2, .int x2)] (by decide +kernel) (by simp only [la_i, la_r, la_n]) (cat_cr (cat_ci (cat_ci cat_nil))) (by simp only [ls_i, ls_r, ls_n]; decide) (fun z C N T => ?_)
  unfold wp_X9_pay at h
  refine z_aload_n C (pc := 0) dX9_pay_0 0 rfl ?_
  refine z_aload_n C (pc := 1) dX9_pay_1 0 rfl ?_
  refine z_iload_n C (pc := 2) dX9_pay_2 1 rfl ?_
  obtain ⟨o1, h⟩ := h
  refine z_Vi C (pc := 3) (KX := fun _ _ => False) (kc' := 0) (ks' := 0) (As := [.int x1]) (rest := [va_rf (some x0)]) rfl (c_X9_isChild l v S x0 x1) mw_X9_isChild bw_1033 bw_1035 bw_p32 (fit_of rfl) rfl rfl (Nat.le_of_ble_eq_true rfl) (by decide) rfl o1 dX9_pay_3 h (fun r3 S2 h => ?_) (fun En S9 h => h.elim)
  obtain ⟨o4, h⟩ := h
  refine z_Vi C (pc := 6) (KX := fun _ _ => False) (kc' := 0) (ks' := 0) (As := [.int r3]) (rest := []) rfl (c_X9_asks l v S2 x0 r3) mw_X9_asks bw_1017 bw_1019 bw_p30 (fit_of rfl) rfl rfl (Nat.le_of_ble_eq_true rfl) (by decide) rfl o4 dX9_pay_6 h (fun r6 S5 h => ?_) (fun En S9 h => h.elim)
  refine z_if_ne C (pc := 9) (tgt := 14) dX9_pay_9 (by decide) h (fun h => ?_) (fun h => ?_)
  · refine z_iload_n C (pc := 14) dX9_pay_14 2 rfl ?_
    refine z_iconst C (pc := 15) (x := (1 : Int32)) dX9_pay_15 kic_1 ?_
    refine z_sipush C (pc := 16) (x := (396 : Int32)) dX9_pay_16 ksp_396 ?_
    refine z_Si C (pc := 19) (KX := fun _ _ => False) (kc' := 0) (ks' := 0) (As := [.int x2, .int (1 : Int32), .int (396 : Int32)]) (rest := []) (c_X9_in l v S5 x2 (1 : Int32) (396 : Int32)) mw_X9_in bw_1014 bw_1015 (fit_of rfl) rfl rfl (Nat.le_of_ble_eq_true rfl) dX9_pay_19 h (fun r8 S7 h => ?_) (fun En S9 h => h.elim)
    refine z_if_ne C (pc := 22) (tgt := 31) dX9_pay_22 (by decide) h (fun h => ?_) (fun h => ?_)
    · refine z_aload_n C (pc := 31) dX9_pay_31 0 rfl ?_
      obtain ⟨o9, h⟩ := h
      refine z_getP C (pc := 32) kf9 12 (by decide) rfl bw_920 (fun _ _ _ _ h => h) dX9_pay_32 rfl o9 ?_
      refine z_iload_n C (pc := 35) dX9_pay_35 1 rfl ?_
      obtain ⟨a10, e11, o12, h⟩ := h
      obtain ⟨v13, h⟩ := h
      refine z_iald C (pc := 36) dX9_pay_36 e11 o12 v13 ?_
      refine z_iload_n C (pc := 37) dX9_pay_37 2 rfl ?_
      refine z_icmp_ge C (pc := 38) (tgt := 47) dX9_pay_38 (by decide) h (fun h => ?_) (fun h => ?_)
      · refine z_aload_n C (pc := 47) dX9_pay_47 0 rfl ?_
        refine z_getP C (pc := 48) kf9 12 (by decide) rfl bw_920 (fun _ _ _ _ h => h) dX9_pay_48 rfl o9 ?_
        refine z_iload_n C (pc := 51) dX9_pay_51 1 rfl ?_
        refine z_dup2 C (pc := 52) dX9_pay_52 rfl (cat_rf _) ?_
        obtain ⟨a14, e15, o16, h⟩ := h
        obtain ⟨v17, h⟩ := h
        refine z_iald C (pc := 53) dX9_pay_53 e15 o16 v17 ?_
        refine z_iload_n C (pc := 54) dX9_pay_54 2 rfl ?_
        refine z_isub C (pc := 55) dX9_pay_55 ?_
        obtain ⟨a18, e19, o20, h⟩ := h
        obtain ⟨v21, h⟩ := h
        refine z_iast C (pc := 56) dX9_pay_56 e19 o20 v21 ?_
        refine z_lt h (fun S22 h => ?_)
        refine z_aload_n C (pc := 57) dX9_pay_57 0 rfl ?_
        obtain ⟨o23, h⟩ := h
        refine z_getP C (pc := 58) kf9 12 (by decide) rfl bw_920 (fun _ _ _ _ h => h) dX9_pay_58 rfl o23 ?_
        refine z_iload_n C (pc := 61) dX9_pay_61 1 rfl ?_
        obtain ⟨a24, e25, o26, h⟩ := h
        obtain ⟨v27, h⟩ := h
        refine z_iald C (pc := 62) dX9_pay_62 e25 o26 v27 ?_
        exact z_iret C (pc := 63) T dX9_pay_63 (by decide) (by decide) h
      · refine z_aload_n C (pc := 41) dX9_pay_41 0 rfl ?_
        refine z_iconst C (pc := 42) (x := (3 : Int32)) dX9_pay_42 kic_3 ?_
        refine z_Vi C (pc := 43) (KX := fun _ _ => False) (kc' := 0) (ks' := 0) (As := [.int (3 : Int32)]) (rest := []) rfl (c_X9_fails l v S7 x0 (3 : Int32)) mw_X9_fails bw_1021 bw_1023 bw_p31 (fit_of rfl) rfl rfl (Nat.le_of_ble_eq_true rfl) (by decide) rfl o9 dX9_pay_43 h (fun r29 S28 h => ?_) (fun En S9 h => h.elim)
        exact z_iret C (pc := 46) T dX9_pay_46 (by decide) (by decide) h
    · refine z_aload_n C (pc := 25) dX9_pay_25 0 rfl ?_
      refine z_iconst C (pc := 26) (x := (2 : Int32)) dX9_pay_26 kic_2 ?_
      obtain ⟨o30, h⟩ := h
      refine z_Vi C (pc := 27) (KX := fun _ _ => False) (kc' := 0) (ks' := 0) (As := [.int (2 : Int32)]) (rest := []) rfl (c_X9_fails l v S7 x0 (2 : Int32)) mw_X9_fails bw_1021 bw_1023 bw_p31 (fit_of rfl) rfl rfl (Nat.le_of_ble_eq_true rfl) (by decide) rfl o30 dX9_pay_27 h (fun r32 S31 h => ?_) (fun En S9 h => h.elim)
      exact z_iret C (pc := 30) T dX9_pay_30 (by decide) (by decide) h
  · refine z_iconst C (pc := 12) (x := (0 : Int32)) dX9_pay_12 kic_0 ?_
    exact z_iret C (pc := 13) T dX9_pay_13 (by decide) (by decide) h
def wp_X9_owed_L18 (f0 : Nat) (f1 : Int32) (Q : Int32 → Hp → Prop) : Nat → Hp → Int32 → Int32 → Prop
  | 0, _, _, _ => False
  | n + 1, S, w2, w3 => okA S 9 f0 ∧ (if (g_I S 905 f0) ≤ w3 then (Q w2 S) else (rd S 11 (g_P S 912 f0) (fun a8 => vp_in w3 (g_N S a8) ∧ (if (g_R S a8 w3.toNatClampNeg) ≤ 0 then (lt (w2 + (0 : Int32)) (fun y12 => wp_X9_owed_L18 f0 f1 Q n S y12 (w3 + (1 : Int32)))) else (rd S 11 (g_P S 913 f0) (fun a13 => vp_in w3 (g_N S a13) ∧ (if (g_R S a13 w3.toNatClampNeg) = f1 then (rd S 11 (g_P S 912 f0) (fun a18 => vp_in w3 (g_N S a18) ∧ (lt (w2 + (g_R S a18 w3.toNatClampNeg)) (fun y22 => wp_X9_owed_L18 f0 f1 Q n S y22 (w3 + (1 : Int32)))))) else (lt (w2 + (0 : Int32)) (fun y17 => wp_X9_owed_L18 f0 f1 Q n S y17 (w3 + (1 : Int32)))))))))))
def wp_X9_owed (S : Hp) (x0 : Nat) (x1 : Int32) (Q : Int32 → Hp → Prop) : Prop :=
  okA S 9 x0 ∧ (wp_X9_isTroop S x0 x1 (fun r3 S2 => okA S2 9 x0 ∧ (wp_X9_asks S2 x0 r3 (fun r6 S5 => if r6 = 0 then (Q (0 : Int32) S5) else (∃ n23, wp_X9_owed_L18 x0 x1 Q n23 S5 (0 : Int32) (0 : Int32))))))
def rm_X9_owed : Room := { frames := 2, cells := 0, slots := 0, locals := 43 }
set_option maxHeartbeats 4000000 in
set_option maxRecDepth 100000 in
theorem l_X9_owed_L18 (l : Launch) (v : Ev) (f0 : Nat) (f1 : Int32) (Q : Int32 → Hp → Prop) {EQ : String → Hp → Prop} {z : Z9} (C : Cx l v RX9 cX9_owed 4 (some .int) "owed" z) (N : NT z) (T : EE v rm_X9_owed (QI v Q) EQ z) : ∀ (n : Nat) (S : Hp) (w2 : Int32) (w3 : Int32), wp_X9_owed_L18 f0 f1 Q n S w2 w3 → ZZ l v 4 rm_X9_owed z 0 0 S 18 [(0, va_rf (some f0)), (1, .int f1), (2, .int w2), (3, .int w3)] [] := by
  intro n
  induction n with
  | zero =>
    intro S w2 w3 h
    exact h.elim
  | succ n ih =>
    intro S w2 w3 h
    unfold wp_X9_owed_L18 at h
    refine z_iload_n C (pc := 18) dX9_owed_18 3 rfl ?_
    refine z_aload_n C (pc := 19) dX9_owed_19 0 rfl ?_
    obtain ⟨o7, h⟩ := h
    refine z_getI C (pc := 20) kf9 5 (by decide) rfl bw_913 (fun _ _ _ _ h => h) dX9_owed_20 rfl o7 ?_
    refine z_icmp_ge C (pc := 23) (tgt := 64) dX9_owed_23 (by decide) h (fun h => ?_) (fun h => ?_)
    · refine z_iload_n C (pc := 64) dX9_owed_64 2 rfl ?_
      exact z_iret C (pc := 65) T dX9_owed_65 (by decide) (by decide) h
    · refine z_iload_n C (pc := 26) dX9_owed_26 2 rfl ?_
      refine z_aload_n C (pc := 27) dX9_owed_27 0 rfl ?_
      refine z_getP C (pc := 28) kf9 12 (by decide) rfl bw_920 (fun _ _ _ _ h => h) dX9_owed_28 rfl o7 ?_
      refine z_iload_n C (pc := 31) dX9_owed_31 3 rfl ?_
      obtain ⟨a8, e9, o10, h⟩ := h
      obtain ⟨v11, h⟩ := h
      refine z_iald C (pc := 32) dX9_owed_32 e9 o10 v11 ?_
      refine z_if_le C (pc := 33) (tgt := 55) dX9_owed_33 (by decide) h (fun h => ?_) (fun h => ?_)
      · refine z_iconst C (pc := 55) (x := (0 : Int32)) dX9_owed_55 kic_0 ?_
        refine z_iadd C (pc := 56) dX9_owed_56 ?_
        refine z_nI h (fun y12 h => ?_)
        refine z_istore_n C (pc := 57) (lv' := [(2, .int y12), (0, va_rf (some f0)), (1, .int f1), (3, .int w3)]) dX9_owed_57 (by decide) rfl ?_
        refine z_iinc C (pc := 58) (y := w3 + (1 : Int32)) (lv' := [(3, .int (w3 + (1 : Int32))), (2, .int y12), (0, va_rf (some f0)), (1, .int f1)]) dX9_owed_58 3 rfl rfl (by decide) rfl ?_
        refine z_goto C (pc := 61) (tgt := 18) dX9_owed_61 (by decide) ?_
        refine z_sub [2, 3, 1, 0] (lv' := [(0, va_rf (some f0)), (1, .int f1), (2, .int y12), (3, .int (w3 + (1 : Int32)))]) rfl ?_
        exact ih S y12 (w3 + (1 : Int32)) h
      · refine z_aload_n C (pc := 36) dX9_owed_36 0 rfl ?_
        refine z_getP C (pc := 37) kf9 13 (by decide) rfl bw_921 (fun _ _ _ _ h => h) dX9_owed_37 rfl o7 ?_
        refine z_iload_n C (pc := 40) dX9_owed_40 3 rfl ?_
        obtain ⟨a13, e14, o15, h⟩ := h
        obtain ⟨v16, h⟩ := h
        refine z_iald C (pc := 41) dX9_owed_41 e14 o15 v16 ?_
        refine z_iload_n C (pc := 42) dX9_owed_42 1 rfl ?_
        refine z_icmp_ne C (pc := 43) (tgt := 55) dX9_owed_43 (by decide) h (fun h => ?_) (fun h => ?_)
        · refine z_iconst C (pc := 55) (x := (0 : Int32)) dX9_owed_55 kic_0 ?_
          refine z_iadd C (pc := 56) dX9_owed_56 ?_
          refine z_nI h (fun y17 h => ?_)
          refine z_istore_n C (pc := 57) (lv' := [(2, .int y17), (0, va_rf (some f0)), (1, .int f1), (3, .int w3)]) dX9_owed_57 (by decide) rfl ?_
          refine z_iinc C (pc := 58) (y := w3 + (1 : Int32)) (lv' := [(3, .int (w3 + (1 : Int32))), (2, .int y17), (0, va_rf (some f0)), (1, .int f1)]) dX9_owed_58 3 rfl rfl (by decide) rfl ?_
          refine z_goto C (pc := 61) (tgt := 18) dX9_owed_61 (by decide) ?_
          refine z_sub [2, 3, 1, 0] (lv' := [(0, va_rf (some f0)), (1, .int f1), (2, .int y17), (3, .int (w3 + (1 : Int32)))]) rfl ?_
          exact ih S y17 (w3 + (1 : Int32)) h
        · refine z_aload_n C (pc := 46) dX9_owed_46 0 rfl ?_
          refine z_getP C (pc := 47) kf9 12 (by decide) rfl bw_920 (fun _ _ _ _ h => h) dX9_owed_47 rfl o7 ?_
          refine z_iload_n C (pc := 50) dX9_owed_50 3 rfl ?_
          obtain ⟨a18, e19, o20, h⟩ := h
          obtain ⟨v21, h⟩ := h
          refine z_iald C (pc := 51) dX9_owed_51 e19 o20 v21 ?_
          refine z_goto C (pc := 52) (tgt := 56) dX9_owed_52 (by decide) ?_
          refine z_iadd C (pc := 56) dX9_owed_56 ?_
          refine z_nI h (fun y22 h => ?_)
          refine z_istore_n C (pc := 57) (lv' := [(2, .int y22), (0, va_rf (some f0)), (1, .int f1), (3, .int w3)]) dX9_owed_57 (by decide) rfl ?_
          refine z_iinc C (pc := 58) (y := w3 + (1 : Int32)) (lv' := [(3, .int (w3 + (1 : Int32))), (2, .int y22), (0, va_rf (some f0)), (1, .int f1)]) dX9_owed_58 3 rfl rfl (by decide) rfl ?_
          refine z_goto C (pc := 61) (tgt := 18) dX9_owed_61 (by decide) ?_
          refine z_sub [2, 3, 1, 0] (lv' := [(0, va_rf (some f0)), (1, .int f1), (2, .int y22), (3, .int (w3 + (1 : Int32)))]) rfl ?_
          exact ih S y22 (w3 + (1 : Int32)) h
set_option maxHeartbeats 4000000 in
set_option maxRecDepth 100000 in
theorem c_X9_owed (l : Launch) (v : Ev) (S : Hp) (x0 : Nat) (x1 : Int32) : CI l v yX9_owed cX9_owed 4 (some .int) rm_X9_owed [va_rf (some x0), .int x1] S (fun Q _ => wp_X9_owed S x0 x1 Q) := by
  intro Q EQ h
  refine z_start [(0, va_rf (some x0)), (1, .int x1)] (by decide +kernel) (by simp only [la_i, la_r, la_n]) (cat_cr (cat_ci cat_nil)) (by simp only [ls_i, ls_r, ls_n]; decide) (fun z C N T => ?_)
  unfold wp_X9_owed at h
  refine z_aload_n C (pc := 0) dX9_owed_0 0 rfl ?_
  refine z_aload_n C (pc := 1) dX9_owed_1 0 rfl ?_
  refine z_iload_n C (pc := 2) dX9_owed_2 1 rfl ?_
  obtain ⟨o1, h⟩ := h
  refine z_Vi C (pc := 3) (KX := fun _ _ => False) (kc' := 0) (ks' := 0) (As := [.int x1]) (rest := [va_rf (some x0)]) rfl (c_X9_isTroop l v S x0 x1) mw_X9_isTroop bw_1037 bw_1039 bw_p33 (fit_of rfl) rfl rfl (Nat.le_of_ble_eq_true rfl) (by decide) rfl o1 dX9_owed_3 h (fun r3 S2 h => ?_) (fun En S9 h => h.elim)
  obtain ⟨o4, h⟩ := h
  refine z_Vi C (pc := 6) (KX := fun _ _ => False) (kc' := 0) (ks' := 0) (As := [.int r3]) (rest := []) rfl (c_X9_asks l v S2 x0 r3) mw_X9_asks bw_1017 bw_1019 bw_p30 (fit_of rfl) rfl rfl (Nat.le_of_ble_eq_true rfl) (by decide) rfl o4 dX9_owed_6 h (fun r6 S5 h => ?_) (fun En S9 h => h.elim)
  refine z_if_ne C (pc := 9) (tgt := 14) dX9_owed_9 (by decide) h (fun h => ?_) (fun h => ?_)
  · refine z_iconst C (pc := 14) (x := (0 : Int32)) dX9_owed_14 kic_0 ?_
    refine z_istore_n C (pc := 15) (lv' := [(2, .int (0 : Int32)), (0, va_rf (some x0)), (1, .int x1)]) dX9_owed_15 (by decide) rfl ?_
    refine z_iconst C (pc := 16) (x := (0 : Int32)) dX9_owed_16 kic_0 ?_
    refine z_istore_n C (pc := 17) (lv' := [(3, .int (0 : Int32)), (2, .int (0 : Int32)), (0, va_rf (some x0)), (1, .int x1)]) dX9_owed_17 (by decide) rfl ?_
    obtain ⟨n23, h⟩ := h
    refine z_sub [2, 3, 1, 0] (lv' := [(0, va_rf (some x0)), (1, .int x1), (2, .int (0 : Int32)), (3, .int (0 : Int32))]) rfl ?_
    exact l_X9_owed_L18 l v x0 x1 Q C N T n23 S5 (0 : Int32) (0 : Int32) h
  · refine z_iconst C (pc := 12) (x := (0 : Int32)) dX9_owed_12 kic_0 ?_
    exact z_iret C (pc := 13) T dX9_owed_13 (by decide) (by decide) h
def wp_X9_today (S : Hp) (x0 : Nat) (Q : Int32 → Hp → Prop) : Prop :=
  okA S 9 x0 ∧ (lt (s_I S 931 x0 (0 : Int32)) (fun S2 => okA S2 9 x0 ∧ (Q (g_I S2 900 x0) S2)))
def rm_X9_today : Room := { frames := 0, cells := 0, slots := 0, locals := 0 }
set_option maxHeartbeats 4000000 in
set_option maxRecDepth 100000 in
theorem c_X9_today (l : Launch) (v : Ev) (S : Hp) (x0 : Nat) : CI l v yX9_today cX9_today 1 (some .int) rm_X9_today [va_rf (some x0)] S (fun Q _ => wp_X9_today S x0 Q) := by
  intro Q EQ h
  refine z_start [(0, va_rf (some x0))] (by decide +kernel) (by simp only [la_i, la_r, la_n]) (cat_cr cat_nil) (by simp only [ls_i, ls_r, ls_n]; decide) (fun z C N T => ?_)
  unfold wp_X9_today at h
  refine z_aload_n C (pc := 0) dX9_today_0 0 rfl ?_
  refine z_iconst C (pc := 1) (x := (0 : Int32)) dX9_today_1 kic_0 ?_
  obtain ⟨o1, h⟩ := h
  refine z_putI C (pc := 2) kf9 31 (by decide) rfl rfl bw_939 (fun _ _ _ _ h => h) dX9_today_2 rfl o1 ?_
  refine z_lt h (fun S2 h => ?_)
  refine z_aload_n C (pc := 5) dX9_today_5 0 rfl ?_
  obtain ⟨o3, h⟩ := h
  refine z_getI C (pc := 6) kf9 0 (by decide) rfl bw_908 (fun _ _ _ _ h => h) dX9_today_6 rfl o3 ?_
  exact z_iret C (pc := 9) T dX9_today_9 (by decide) (by decide) h
def wp_X9_ofChild (S : Hp) (x0 : Nat) (x1 : Int32) (x2 : Int32) (Q : Int32 → Hp → Prop) : Prop :=
  okA S 9 x0 ∧ (wp_X9_isChild S x0 x1 (fun r3 S2 => okA S2 9 x0 ∧ (wp_X9_asks S2 x0 r3 (fun r6 S5 => if r6 = 0 then (Q (0 : Int32) S5) else (if x2 = (0 : Int32) then (okA S5 9 x0 ∧ (rd S5 11 (g_P S5 906 x0) (fun a8 => vp_in x1 (g_N S5 a8) ∧ (Q (g_R S5 a8 x1.toNatClampNeg) S5)))) else (if x2 = (1 : Int32) then (okA S5 9 x0 ∧ (rd S5 11 (g_P S5 907 x0) (fun a14 => vp_in x1 (g_N S5 a14) ∧ (Q (g_R S5 a14 x1.toNatClampNeg) S5)))) else (if x2 = (2 : Int32) then (okA S5 9 x0 ∧ (rd S5 11 (g_P S5 908 x0) (fun a20 => vp_in x1 (g_N S5 a20) ∧ (Q (g_R S5 a20 x1.toNatClampNeg) S5)))) else (if x2 = (3 : Int32) then (okA S5 9 x0 ∧ (rd S5 11 (g_P S5 911 x0) (fun a26 => vp_in x1 (g_N S5 a26) ∧ (Q (g_R S5 a26 x1.toNatClampNeg) S5)))) else (if x2 = (4 : Int32) then (okA S5 9 x0 ∧ (wp_X9_earnedBy S5 x0 x1 (fun r33 S32 => Q r33 S32))) else (if x2 = (5 : Int32) then (okA S5 9 x0 ∧ (rd S5 11 (g_P S5 912 x0) (fun a36 => vp_in x1 (g_N S5 a36) ∧ (Q (g_R S5 a36 x1.toNatClampNeg) S5)))) else (okA S5 9 x0 ∧ (wp_X9_fails S5 x0 (2 : Int32) (fun r43 S42 => Q r43 S42)))))))))))))
def rm_X9_ofChild : Room := { frames := 4, cells := 0, slots := 0, locals := 99 }
set_option maxHeartbeats 4000000 in
set_option maxRecDepth 100000 in
theorem c_X9_ofChild (l : Launch) (v : Ev) (S : Hp) (x0 : Nat) (x1 : Int32) (x2 : Int32) : CI l v yX9_ofChild cX9_ofChild 3 (some .int) rm_X9_ofChild [va_rf (some x0), .int x1, .int x2] S (fun Q _ => wp_X9_ofChild S x0 x1 x2 Q) := by
  intro Q EQ h
  refine z_start [(0, va_rf (some x0)), (1, .int x1), (2, .int x2)] (by decide +kernel) (by simp only [la_i, la_r, la_n]) (cat_cr (cat_ci (cat_ci cat_nil))) (by simp only [ls_i, ls_r, ls_n]; decide) (fun z C N T => ?_)
  unfold wp_X9_ofChild at h
  refine z_aload_n C (pc := 0) dX9_ofChild_0 0 rfl ?_
  refine z_aload_n C (pc := 1) dX9_ofChild_1 0 rfl ?_
  refine z_iload_n C (pc := 2) dX9_ofChild_2 1 rfl ?_
  obtain ⟨o1, h⟩ := h
  refine z_Vi C (pc := 3) (KX := fun _ _ => False) (kc' := 0) (ks' := 0) (As := [.int x1]) (rest := [va_rf (some x0)]) rfl (c_X9_isChild l v S x0 x1) mw_X9_isChild bw_1033 bw_1035 bw_p32 (fit_of rfl) rfl rfl (Nat.le_of_ble_eq_true rfl) (by decide) rfl o1 dX9_ofChild_3 h (fun r3 S2 h => ?_) (fun En S9 h => h.elim)
  obtain ⟨o4, h⟩ := h
  refine z_Vi C (pc := 6) (KX := fun _ _ => False) (kc' := 0) (ks' := 0) (As := [.int r3]) (rest := []) rfl (c_X9_asks l v S2 x0 r3) mw_X9_asks bw_1017 bw_1019 bw_p30 (fit_of rfl) rfl rfl (Nat.le_of_ble_eq_true rfl) (by decide) rfl o4 dX9_ofChild_6 h (fun r6 S5 h => ?_) (fun En S9 h => h.elim)
  refine z_if_ne C (pc := 9) (tgt := 14) dX9_ofChild_9 (by decide) h (fun h => ?_) (fun h => ?_)
  · refine z_iload_n C (pc := 14) dX9_ofChild_14 2 rfl ?_
    refine z_swc C (pc := 15) (x := x2) (c := (0 : Int32)) dX9_ofChild_15 h (by decide) (by decide) rfl (tgt := 52) (by decide) (fun h => ?_) (fun n12 h => ?_)
    · refine z_aload_n C (pc := 52) dX9_ofChild_52 0 rfl ?_
      obtain ⟨o7, h⟩ := h
      refine z_getP C (pc := 53) kf9 6 (by decide) rfl bw_914 (fun _ _ _ _ h => h) dX9_ofChild_53 rfl o7 ?_
      refine z_iload_n C (pc := 56) dX9_ofChild_56 1 rfl ?_
      obtain ⟨a8, e9, o10, h⟩ := h
      obtain ⟨v11, h⟩ := h
      refine z_iald C (pc := 57) dX9_ofChild_57 e9 o10 v11 ?_
      exact z_iret C (pc := 58) T dX9_ofChild_58 (by decide) (by decide) h
    refine z_swc C (pc := 15) (x := x2) (c := (1 : Int32)) dX9_ofChild_15 h (by decide) (by decide) rfl (tgt := 59) (by decide) (fun h => ?_) (fun n18 h => ?_)
    · refine z_aload_n C (pc := 59) dX9_ofChild_59 0 rfl ?_
      obtain ⟨o13, h⟩ := h
      refine z_getP C (pc := 60) kf9 7 (by decide) rfl bw_915 (fun _ _ _ _ h => h) dX9_ofChild_60 rfl o13 ?_
      refine z_iload_n C (pc := 63) dX9_ofChild_63 1 rfl ?_
      obtain ⟨a14, e15, o16, h⟩ := h
      obtain ⟨v17, h⟩ := h
      refine z_iald C (pc := 64) dX9_ofChild_64 e15 o16 v17 ?_
      exact z_iret C (pc := 65) T dX9_ofChild_65 (by decide) (by decide) h
    refine z_swc C (pc := 15) (x := x2) (c := (2 : Int32)) dX9_ofChild_15 h (by decide) (by decide) rfl (tgt := 66) (by decide) (fun h => ?_) (fun n24 h => ?_)
    · refine z_aload_n C (pc := 66) dX9_ofChild_66 0 rfl ?_
      obtain ⟨o19, h⟩ := h
      refine z_getP C (pc := 67) kf9 8 (by decide) rfl bw_916 (fun _ _ _ _ h => h) dX9_ofChild_67 rfl o19 ?_
      refine z_iload_n C (pc := 70) dX9_ofChild_70 1 rfl ?_
      obtain ⟨a20, e21, o22, h⟩ := h
      obtain ⟨v23, h⟩ := h
      refine z_iald C (pc := 71) dX9_ofChild_71 e21 o22 v23 ?_
      exact z_iret C (pc := 72) T dX9_ofChild_72 (by decide) (by decide) h
    refine z_swc C (pc := 15) (x := x2) (c := (3 : Int32)) dX9_ofChild_15 h (by decide) (by decide) rfl (tgt := 73) (by decide) (fun h => ?_) (fun n30 h => ?_)
    · refine z_aload_n C (pc := 73) dX9_ofChild_73 0 rfl ?_
      obtain ⟨o25, h⟩ := h
      refine z_getP C (pc := 74) kf9 11 (by decide) rfl bw_919 (fun _ _ _ _ h => h) dX9_ofChild_74 rfl o25 ?_
      refine z_iload_n C (pc := 77) dX9_ofChild_77 1 rfl ?_
      obtain ⟨a26, e27, o28, h⟩ := h
      obtain ⟨v29, h⟩ := h
      refine z_iald C (pc := 78) dX9_ofChild_78 e27 o28 v29 ?_
      exact z_iret C (pc := 79) T dX9_ofChild_79 (by decide) (by decide) h
    refine z_swc C (pc := 15) (x := x2) (c := (4 : Int32)) dX9_ofChild_15 h (by decide) (by decide) rfl (tgt := 80) (by decide) (fun h => ?_) (fun n34 h => ?_)
    · refine z_aload_n C (pc := 80) dX9_ofChild_80 0 rfl ?_
      refine z_iload_n C (pc := 81) dX9_ofChild_81 1 rfl ?_
      obtain ⟨o31, h⟩ := h
      refine z_Vi C (pc := 82) (KX := fun _ _ => False) (kc' := 0) (ks' := 0) (As := [.int x1]) (rest := []) rfl (c_X9_earnedBy l v S5 x0 x1) mw_X9_earnedBy bw_1149 bw_1151 bw_p45 (fit_of rfl) rfl rfl (Nat.le_of_ble_eq_true rfl) (by decide) rfl o31 dX9_ofChild_82 h (fun r33 S32 h => ?_) (fun En S9 h => h.elim)
      exact z_iret C (pc := 85) T dX9_ofChild_85 (by decide) (by decide) h
    refine z_swc C (pc := 15) (x := x2) (c := (5 : Int32)) dX9_ofChild_15 h (by decide) (by decide) rfl (tgt := 86) (by decide) (fun h => ?_) (fun n40 h => ?_)
    · refine z_aload_n C (pc := 86) dX9_ofChild_86 0 rfl ?_
      obtain ⟨o35, h⟩ := h
      refine z_getP C (pc := 87) kf9 12 (by decide) rfl bw_920 (fun _ _ _ _ h => h) dX9_ofChild_87 rfl o35 ?_
      refine z_iload_n C (pc := 90) dX9_ofChild_90 1 rfl ?_
      obtain ⟨a36, e37, o38, h⟩ := h
      obtain ⟨v39, h⟩ := h
      refine z_iald C (pc := 91) dX9_ofChild_91 e37 o38 v39 ?_
      exact z_iret C (pc := 92) T dX9_ofChild_92 (by decide) (by decide) h
    refine z_tabOut C (pc := 15) (tgt := 93) dX9_ofChild_15 (by have := lv_neT n12 (a := 0) rfl; have := lv_neT n18 (a := 1) rfl; have := lv_neT n24 (a := 2) rfl; have := lv_neT n30 (a := 3) rfl; have := lv_neT n34 (a := 4) rfl; have := lv_neT n40 (a := 5) rfl; omega) (by decide) ?_
    refine z_aload_n C (pc := 93) dX9_ofChild_93 0 rfl ?_
    refine z_iconst C (pc := 94) (x := (2 : Int32)) dX9_ofChild_94 kic_2 ?_
    obtain ⟨o41, h⟩ := h
    refine z_Vi C (pc := 95) (KX := fun _ _ => False) (kc' := 0) (ks' := 0) (As := [.int (2 : Int32)]) (rest := []) rfl (c_X9_fails l v S5 x0 (2 : Int32)) mw_X9_fails bw_1021 bw_1023 bw_p31 (fit_of rfl) rfl rfl (Nat.le_of_ble_eq_true rfl) (by decide) rfl o41 dX9_ofChild_95 h (fun r43 S42 h => ?_) (fun En S9 h => h.elim)
    exact z_iret C (pc := 98) T dX9_ofChild_98 (by decide) (by decide) h
  · refine z_iconst C (pc := 12) (x := (0 : Int32)) dX9_ofChild_12 kic_0 ?_
    exact z_iret C (pc := 13) T dX9_ofChild_13 (by decide) (by decide) h
def wp_X9_ofTroop (S : Hp) (x0 : Nat) (x1 : Int32) (x2 : Int32) (Q : Int32 → Hp → Prop) : Prop :=
  okA S 9 x0 ∧ (wp_X9_isTroop S x0 x1 (fun r3 S2 => okA S2 9 x0 ∧ (wp_X9_asks S2 x0 r3 (fun r6 S5 => if r6 = 0 then (Q (0 : Int32) S5) else (if x2 = 0 then (okA S5 9 x0 ∧ (wp_X9_inTroop S5 x0 x1 (fun r9 S8 => Q r9 S8))) else (okA S5 9 x0 ∧ (wp_X9_waiting S5 x0 x1 (fun r12 S11 => Q r12 S11))))))))
def rm_X9_ofTroop : Room := { frames := 2, cells := 0, slots := 0, locals := 43 }
set_option maxHeartbeats 4000000 in
set_option maxRecDepth 100000 in
theorem c_X9_ofTroop (l : Launch) (v : Ev) (S : Hp) (x0 : Nat) (x1 : Int32) (x2 : Int32) : CI l v yX9_ofTroop cX9_ofTroop 3 (some .int) rm_X9_ofTroop [va_rf (some x0), .int x1, .int x2] S (fun Q _ => wp_X9_ofTroop S x0 x1 x2 Q) := by
  intro Q EQ h
  refine z_start [(0, va_rf (some x0)), (1, .int x1), (2, .int x2)] (by decide +kernel) (by simp only [la_i, la_r, la_n]) (cat_cr (cat_ci (cat_ci cat_nil))) (by simp only [ls_i, ls_r, ls_n]; decide) (fun z C N T => ?_)
  unfold wp_X9_ofTroop at h
  refine z_aload_n C (pc := 0) dX9_ofTroop_0 0 rfl ?_
  refine z_aload_n C (pc := 1) dX9_ofTroop_1 0 rfl ?_
  refine z_iload_n C (pc := 2) dX9_ofTroop_2 1 rfl ?_
  obtain ⟨o1, h⟩ := h
  refine z_Vi C (pc := 3) (KX := fun _ _ => False) (kc' := 0) (ks' := 0) (As := [.int x1]) (rest := [va_rf (some x0)]) rfl (c_X9_isTroop l v S x0 x1) mw_X9_isTroop bw_1037 bw_1039 bw_p33 (fit_of rfl) rfl rfl (Nat.le_of_ble_eq_true rfl) (by decide) rfl o1 dX9_ofTroop_3 h (fun r3 S2 h => ?_) (fun En S9 h => h.elim)
  obtain ⟨o4, h⟩ := h
  refine z_Vi C (pc := 6) (KX := fun _ _ => False) (kc' := 0) (ks' := 0) (As := [.int r3]) (rest := []) rfl (c_X9_asks l v S2 x0 r3) mw_X9_asks bw_1017 bw_1019 bw_p30 (fit_of rfl) rfl rfl (Nat.le_of_ble_eq_true rfl) (by decide) rfl o4 dX9_ofTroop_6 h (fun r6 S5 h => ?_) (fun En S9 h => h.elim)
  refine z_if_ne C (pc := 9) (tgt := 14) dX9_ofTroop_9 (by decide) h (fun h => ?_) (fun h => ?_)
  · refine z_iload_n C (pc := 14) dX9_ofTroop_14 2 rfl ?_
    refine z_if_eq C (pc := 15) (tgt := 26) dX9_ofTroop_15 (by decide) h (fun h => ?_) (fun h => ?_)
    · refine z_aload_n C (pc := 26) dX9_ofTroop_26 0 rfl ?_
      refine z_iload_n C (pc := 27) dX9_ofTroop_27 1 rfl ?_
      obtain ⟨o7, h⟩ := h
      refine z_Vi C (pc := 28) (KX := fun _ _ => False) (kc' := 0) (ks' := 0) (As := [.int x1]) (rest := []) rfl (c_X9_inTroop l v S5 x0 x1) mw_X9_inTroop bw_1049 bw_1051 bw_p36 (fit_of rfl) rfl rfl (Nat.le_of_ble_eq_true rfl) (by decide) rfl o7 dX9_ofTroop_28 h (fun r9 S8 h => ?_) (fun En S9 h => h.elim)
      exact z_iret C (pc := 31) T dX9_ofTroop_31 (by decide) (by decide) h
    · refine z_aload_n C (pc := 18) dX9_ofTroop_18 0 rfl ?_
      refine z_iload_n C (pc := 19) dX9_ofTroop_19 1 rfl ?_
      obtain ⟨o10, h⟩ := h
      refine z_Vi C (pc := 20) (KX := fun _ _ => False) (kc' := 0) (ks' := 0) (As := [.int x1]) (rest := []) rfl (c_X9_waiting l v S5 x0 x1) mw_X9_waiting bw_1061 bw_1063 bw_p39 (fit_of rfl) rfl rfl (Nat.le_of_ble_eq_true rfl) (by decide) rfl o10 dX9_ofTroop_20 h (fun r12 S11 h => ?_) (fun En S9 h => h.elim)
      refine z_goto C (pc := 23) (tgt := 31) dX9_ofTroop_23 (by decide) ?_
      exact z_iret C (pc := 31) T dX9_ofTroop_31 (by decide) (by decide) h
  · refine z_iconst C (pc := 12) (x := (0 : Int32)) dX9_ofTroop_12 kic_0 ?_
    exact z_iret C (pc := 13) T dX9_ofTroop_13 (by decide) (by decide) h
def wp_X9_earned (S : Hp) (x0 : Nat) (x1 : Int32) (x2 : Int32) (Q : Int32 → Hp → Prop) : Prop :=
  okA S 9 x0 ∧ (wp_X9_isChild S x0 x1 (fun r3 S2 => if r3 = 0 then (okA S2 9 x0 ∧ (wp_X9_asks S2 x0 (0 : Int32) (fun r6 S5 => if r6 = 0 then (Q (0 : Int32) S5) else (okA S5 9 x0 ∧ (wp_X9_findsDays S5 x0 x1 (fun S8 => okA S8 9 x0 ∧ (rd S8 11 (g_P S8 925 x0) (fun a10 => vp_in x2 (g_N S8 a10) ∧ (if (g_I S8 900 x0) < (g_R S8 a10 x2.toNatClampNeg) then (Q (-1 : Int32) S8) else (rd S8 11 (g_P S8 925 x0) (fun a14 => vp_in x2 (g_N S8 a14) ∧ (Q (g_R S8 a14 x2.toNatClampNeg) S8)))))))))))) else (wp_X9_isBadge S2 x2 (fun r19 S18 => if r19 = 0 then (okA S18 9 x0 ∧ (wp_X9_asks S18 x0 (0 : Int32) (fun r22 S21 => if r22 = 0 then (Q (0 : Int32) S21) else (okA S21 9 x0 ∧ (wp_X9_findsDays S21 x0 x1 (fun S24 => okA S24 9 x0 ∧ (rd S24 11 (g_P S24 925 x0) (fun a26 => vp_in x2 (g_N S24 a26) ∧ (if (g_I S24 900 x0) < (g_R S24 a26 x2.toNatClampNeg) then (Q (-1 : Int32) S24) else (rd S24 11 (g_P S24 925 x0) (fun a30 => vp_in x2 (g_N S24 a30) ∧ (Q (g_R S24 a30 x2.toNatClampNeg) S24)))))))))))) else (okA S18 9 x0 ∧ (wp_X9_asks S18 x0 (1 : Int32) (fun r36 S35 => if r36 = 0 then (Q (0 : Int32) S35) else (okA S35 9 x0 ∧ (wp_X9_findsDays S35 x0 x1 (fun S38 => okA S38 9 x0 ∧ (rd S38 11 (g_P S38 925 x0) (fun a40 => vp_in x2 (g_N S38 a40) ∧ (if (g_I S38 900 x0) < (g_R S38 a40 x2.toNatClampNeg) then (Q (-1 : Int32) S38) else (rd S38 11 (g_P S38 925 x0) (fun a44 => vp_in x2 (g_N S38 a44) ∧ (Q (g_R S38 a44 x2.toNatClampNeg) S38))))))))))))))))
def rm_X9_earned : Room := { frames := 3, cells := 0, slots := 0, locals := 76 }
set_option maxHeartbeats 4000000 in
set_option maxRecDepth 100000 in
theorem c_X9_earned (l : Launch) (v : Ev) (S : Hp) (x0 : Nat) (x1 : Int32) (x2 : Int32) : CI l v yX9_earned cX9_earned 3 (some .int) rm_X9_earned [va_rf (some x0), .int x1, .int x2] S (fun Q _ => wp_X9_earned S x0 x1 x2 Q) := by
  intro Q EQ h
  refine z_start [(0, va_rf (some x0)), (1, .int x1), (2, .int x2)] (by decide +kernel) (by simp only [la_i, la_r, la_n]) (cat_cr (cat_ci (cat_ci cat_nil))) (by simp only [ls_i, ls_r, ls_n]; decide) (fun z C N T => ?_)
  unfold wp_X9_earned at h
  refine z_aload_n C (pc := 0) dX9_earned_0 0 rfl ?_
  refine z_aload_n C (pc := 1) dX9_earned_1 0 rfl ?_
  refine z_iload_n C (pc := 2) dX9_earned_2 1 rfl ?_
  obtain ⟨o1, h⟩ := h
  refine z_Vi C (pc := 3) (KX := fun _ _ => False) (kc' := 0) (ks' := 0) (As := [.int x1]) (rest := [va_rf (some x0)]) rfl (c_X9_isChild l v S x0 x1) mw_X9_isChild bw_1033 bw_1035 bw_p32 (fit_of rfl) rfl rfl (Nat.le_of_ble_eq_true rfl) (by decide) rfl o1 dX9_earned_3 h (fun r3 S2 h => ?_) (fun En S9 h => h.elim)
  refine z_if_eq C (pc := 6) (tgt := 20) dX9_earned_6 (by decide) h (fun h => ?_) (fun h => ?_)
  · refine z_iconst C (pc := 20) (x := (0 : Int32)) dX9_earned_20 kic_0 ?_
    obtain ⟨o4, h⟩ := h
    refine z_Vi C (pc := 21) (KX := fun _ _ => False) (kc' := 0) (ks' := 0) (As := [.int (0 : Int32)]) (rest := []) rfl (c_X9_asks l v S2 x0 (0 : Int32)) mw_X9_asks bw_1017 bw_1019 bw_p30 (fit_of rfl) rfl rfl (Nat.le_of_ble_eq_true rfl) (by decide) rfl o4 dX9_earned_21 h (fun r6 S5 h => ?_) (fun En S9 h => h.elim)
    refine z_if_ne C (pc := 24) (tgt := 29) dX9_earned_24 (by decide) h (fun h => ?_) (fun h => ?_)
    · refine z_aload_n C (pc := 29) dX9_earned_29 0 rfl ?_
      refine z_iload_n C (pc := 30) dX9_earned_30 1 rfl ?_
      obtain ⟨o7, h⟩ := h
      refine z_Vv C (pc := 31) (KX := fun _ _ => False) (kc' := 0) (ks' := 0) (As := [.int x1]) (rest := []) rfl (c_X9_findsDays l v S5 x0 x1) mw_X9_findsDays bw_1153 bw_1155 bw_p46 (fit_of rfl) rfl rfl (Nat.le_of_ble_eq_true rfl) (by decide) rfl o7 dX9_earned_31 h (fun S8 h => ?_) (fun En S9 h => h.elim)
      refine z_aload_n C (pc := 34) dX9_earned_34 0 rfl ?_
      obtain ⟨o9, h⟩ := h
      refine z_getP C (pc := 35) kf9 25 (by decide) rfl bw_933 (fun _ _ _ _ h => h) dX9_earned_35 rfl o9 ?_
      refine z_iload_n C (pc := 38) dX9_earned_38 2 rfl ?_
      obtain ⟨a10, e11, o12, h⟩ := h
      obtain ⟨v13, h⟩ := h
      refine z_iald C (pc := 39) dX9_earned_39 e11 o12 v13 ?_
      refine z_aload_n C (pc := 40) dX9_earned_40 0 rfl ?_
      refine z_getI C (pc := 41) kf9 0 (by decide) rfl bw_908 (fun _ _ _ _ h => h) dX9_earned_41 rfl o9 ?_
      refine z_icmp_gt C (pc := 44) (tgt := 56) dX9_earned_44 (by decide) h (fun h => ?_) (fun h => ?_)
      · refine z_iconst C (pc := 56) (x := (-1 : Int32)) dX9_earned_56 kic_m1 ?_
        exact z_iret C (pc := 57) T dX9_earned_57 (by decide) (by decide) h
      · refine z_aload_n C (pc := 47) dX9_earned_47 0 rfl ?_
        refine z_getP C (pc := 48) kf9 25 (by decide) rfl bw_933 (fun _ _ _ _ h => h) dX9_earned_48 rfl o9 ?_
        refine z_iload_n C (pc := 51) dX9_earned_51 2 rfl ?_
        obtain ⟨a14, e15, o16, h⟩ := h
        obtain ⟨v17, h⟩ := h
        refine z_iald C (pc := 52) dX9_earned_52 e15 o16 v17 ?_
        refine z_goto C (pc := 53) (tgt := 57) dX9_earned_53 (by decide) ?_
        exact z_iret C (pc := 57) T dX9_earned_57 (by decide) (by decide) h
    · refine z_iconst C (pc := 27) (x := (0 : Int32)) dX9_earned_27 kic_0 ?_
      exact z_iret C (pc := 28) T dX9_earned_28 (by decide) (by decide) h
  · refine z_iload_n C (pc := 9) dX9_earned_9 2 rfl ?_
    refine z_Si C (pc := 10) (KX := fun _ _ => False) (kc' := 0) (ks' := 0) (As := [.int x2]) (rest := [va_rf (some x0)]) (c_X9_isBadge l v S2 x2) mw_X9_isBadge bw_1131 bw_1132 (fit_of rfl) rfl rfl (Nat.le_of_ble_eq_true rfl) dX9_earned_10 h (fun r19 S18 h => ?_) (fun En S9 h => h.elim)
    refine z_if_eq C (pc := 13) (tgt := 20) dX9_earned_13 (by decide) h (fun h => ?_) (fun h => ?_)
    · refine z_iconst C (pc := 20) (x := (0 : Int32)) dX9_earned_20 kic_0 ?_
      obtain ⟨o20, h⟩ := h
      refine z_Vi C (pc := 21) (KX := fun _ _ => False) (kc' := 0) (ks' := 0) (As := [.int (0 : Int32)]) (rest := []) rfl (c_X9_asks l v S18 x0 (0 : Int32)) mw_X9_asks bw_1017 bw_1019 bw_p30 (fit_of rfl) rfl rfl (Nat.le_of_ble_eq_true rfl) (by decide) rfl o20 dX9_earned_21 h (fun r22 S21 h => ?_) (fun En S9 h => h.elim)
      refine z_if_ne C (pc := 24) (tgt := 29) dX9_earned_24 (by decide) h (fun h => ?_) (fun h => ?_)
      · refine z_aload_n C (pc := 29) dX9_earned_29 0 rfl ?_
        refine z_iload_n C (pc := 30) dX9_earned_30 1 rfl ?_
        obtain ⟨o23, h⟩ := h
        refine z_Vv C (pc := 31) (KX := fun _ _ => False) (kc' := 0) (ks' := 0) (As := [.int x1]) (rest := []) rfl (c_X9_findsDays l v S21 x0 x1) mw_X9_findsDays bw_1153 bw_1155 bw_p46 (fit_of rfl) rfl rfl (Nat.le_of_ble_eq_true rfl) (by decide) rfl o23 dX9_earned_31 h (fun S24 h => ?_) (fun En S9 h => h.elim)
        refine z_aload_n C (pc := 34) dX9_earned_34 0 rfl ?_
        obtain ⟨o25, h⟩ := h
        refine z_getP C (pc := 35) kf9 25 (by decide) rfl bw_933 (fun _ _ _ _ h => h) dX9_earned_35 rfl o25 ?_
        refine z_iload_n C (pc := 38) dX9_earned_38 2 rfl ?_
        obtain ⟨a26, e27, o28, h⟩ := h
        obtain ⟨v29, h⟩ := h
        refine z_iald C (pc := 39) dX9_earned_39 e27 o28 v29 ?_
        refine z_aload_n C (pc := 40) dX9_earned_40 0 rfl ?_
        refine z_getI C (pc := 41) kf9 0 (by decide) rfl bw_908 (fun _ _ _ _ h => h) dX9_earned_41 rfl o25 ?_
        refine z_icmp_gt C (pc := 44) (tgt := 56) dX9_earned_44 (by decide) h (fun h => ?_) (fun h => ?_)
        · refine z_iconst C (pc := 56) (x := (-1 : Int32)) dX9_earned_56 kic_m1 ?_
          exact z_iret C (pc := 57) T dX9_earned_57 (by decide) (by decide) h
        · refine z_aload_n C (pc := 47) dX9_earned_47 0 rfl ?_
          refine z_getP C (pc := 48) kf9 25 (by decide) rfl bw_933 (fun _ _ _ _ h => h) dX9_earned_48 rfl o25 ?_
          refine z_iload_n C (pc := 51) dX9_earned_51 2 rfl ?_
          obtain ⟨a30, e31, o32, h⟩ := h
          obtain ⟨v33, h⟩ := h
          refine z_iald C (pc := 52) dX9_earned_52 e31 o32 v33 ?_
          refine z_goto C (pc := 53) (tgt := 57) dX9_earned_53 (by decide) ?_
          exact z_iret C (pc := 57) T dX9_earned_57 (by decide) (by decide) h
      · refine z_iconst C (pc := 27) (x := (0 : Int32)) dX9_earned_27 kic_0 ?_
        exact z_iret C (pc := 28) T dX9_earned_28 (by decide) (by decide) h
    · refine z_iconst C (pc := 16) (x := (1 : Int32)) dX9_earned_16 kic_1 ?_
      refine z_goto C (pc := 17) (tgt := 21) dX9_earned_17 (by decide) ?_
      obtain ⟨o34, h⟩ := h
      refine z_Vi C (pc := 21) (KX := fun _ _ => False) (kc' := 0) (ks' := 0) (As := [.int (1 : Int32)]) (rest := []) rfl (c_X9_asks l v S18 x0 (1 : Int32)) mw_X9_asks bw_1017 bw_1019 bw_p30 (fit_of rfl) rfl rfl (Nat.le_of_ble_eq_true rfl) (by decide) rfl o34 dX9_earned_21 h (fun r36 S35 h => ?_) (fun En S9 h => h.elim)
      refine z_if_ne C (pc := 24) (tgt := 29) dX9_earned_24 (by decide) h (fun h => ?_) (fun h => ?_)
      · refine z_aload_n C (pc := 29) dX9_earned_29 0 rfl ?_
        refine z_iload_n C (pc := 30) dX9_earned_30 1 rfl ?_
        obtain ⟨o37, h⟩ := h
        refine z_Vv C (pc := 31) (KX := fun _ _ => False) (kc' := 0) (ks' := 0) (As := [.int x1]) (rest := []) rfl (c_X9_findsDays l v S35 x0 x1) mw_X9_findsDays bw_1153 bw_1155 bw_p46 (fit_of rfl) rfl rfl (Nat.le_of_ble_eq_true rfl) (by decide) rfl o37 dX9_earned_31 h (fun S38 h => ?_) (fun En S9 h => h.elim)
        refine z_aload_n C (pc := 34) dX9_earned_34 0 rfl ?_
        obtain ⟨o39, h⟩ := h
        refine z_getP C (pc := 35) kf9 25 (by decide) rfl bw_933 (fun _ _ _ _ h => h) dX9_earned_35 rfl o39 ?_
        refine z_iload_n C (pc := 38) dX9_earned_38 2 rfl ?_
        obtain ⟨a40, e41, o42, h⟩ := h
        obtain ⟨v43, h⟩ := h
        refine z_iald C (pc := 39) dX9_earned_39 e41 o42 v43 ?_
        refine z_aload_n C (pc := 40) dX9_earned_40 0 rfl ?_
        refine z_getI C (pc := 41) kf9 0 (by decide) rfl bw_908 (fun _ _ _ _ h => h) dX9_earned_41 rfl o39 ?_
        refine z_icmp_gt C (pc := 44) (tgt := 56) dX9_earned_44 (by decide) h (fun h => ?_) (fun h => ?_)
        · refine z_iconst C (pc := 56) (x := (-1 : Int32)) dX9_earned_56 kic_m1 ?_
          exact z_iret C (pc := 57) T dX9_earned_57 (by decide) (by decide) h
        · refine z_aload_n C (pc := 47) dX9_earned_47 0 rfl ?_
          refine z_getP C (pc := 48) kf9 25 (by decide) rfl bw_933 (fun _ _ _ _ h => h) dX9_earned_48 rfl o39 ?_
          refine z_iload_n C (pc := 51) dX9_earned_51 2 rfl ?_
          obtain ⟨a44, e45, o46, h⟩ := h
          obtain ⟨v47, h⟩ := h
          refine z_iald C (pc := 52) dX9_earned_52 e45 o46 v47 ?_
          refine z_goto C (pc := 53) (tgt := 57) dX9_earned_53 (by decide) ?_
          exact z_iret C (pc := 57) T dX9_earned_57 (by decide) (by decide) h
      · refine z_iconst C (pc := 27) (x := (0 : Int32)) dX9_earned_27 kic_0 ?_
        exact z_iret C (pc := 28) T dX9_earned_28 (by decide) (by decide) h
def wp_X9_holds (S : Hp) (x0 : Nat) (x1 : Int32) (x2 : Int32) (Q : Int32 → Hp → Prop) : Prop :=
  okA S 9 x0 ∧ (wp_X9_isChild S x0 x1 (fun r3 S2 => if r3 = 0 then (okA S2 9 x0 ∧ (wp_X9_asks S2 x0 (0 : Int32) (fun r6 S5 => if r6 = 0 then (bz (0 : Int32) (Q (0 : Int32) S5)) else (okA S5 9 x0 ∧ (wp_X9_findsDays S5 x0 x1 (fun S8 => okA S8 9 x0 ∧ (rd S8 11 (g_P S8 918 x0) (fun a10 => vp_in (((8 : Int32) * x1) + x2) (g_N S8 a10) ∧ (rd S8 11 (g_P S8 924 x0) (fun a14 => vp_in ((((18 : Int32) * x2) + ((6 : Int32) * (g_R S8 a10 (((8 : Int32) * x1) + x2).toNatClampNeg))) + (5 : Int32)) (g_N S8 a14) ∧ (lt (g_R S8 a14 ((((18 : Int32) * x2) + ((6 : Int32) * (g_R S8 a10 (((8 : Int32) * x1) + x2).toNatClampNeg))) + (5 : Int32)).toNatClampNeg) (fun y18 => rd S8 11 (g_P S8 925 x0) (fun a19 => vp_in x2 (g_N S8 a19) ∧ (if (g_I S8 900 x0) < (g_R S8 a19 x2.toNatClampNeg) then (bz (0 : Int32) (Q (0 : Int32) S8)) else (if y18 = 0 then (bz (1 : Int32) (Q (1 : Int32) S8)) else (rd S8 11 (g_P S8 925 x0) (fun a23 => vp_in x2 (g_N S8 a23) ∧ (if ((g_R S8 a23 x2.toNatClampNeg) + y18) ≤ (g_I S8 900 x0) then (bz (0 : Int32) (Q (0 : Int32) S8)) else (bz (1 : Int32) (Q (1 : Int32) S8)))))))))))))))))))) else (wp_X9_isBadge S2 x2 (fun r28 S27 => if r28 = 0 then (okA S27 9 x0 ∧ (wp_X9_asks S27 x0 (0 : Int32) (fun r31 S30 => if r31 = 0 then (bz (0 : Int32) (Q (0 : Int32) S30)) else (okA S30 9 x0 ∧ (wp_X9_findsDays S30 x0 x1 (fun S33 => okA S33 9 x0 ∧ (rd S33 11 (g_P S33 918 x0) (fun a35 => vp_in (((8 : Int32) * x1) + x2) (g_N S33 a35) ∧ (rd S33 11 (g_P S33 924 x0) (fun a39 => vp_in ((((18 : Int32) * x2) + ((6 : Int32) * (g_R S33 a35 (((8 : Int32) * x1) + x2).toNatClampNeg))) + (5 : Int32)) (g_N S33 a39) ∧ (lt (g_R S33 a39 ((((18 : Int32) * x2) + ((6 : Int32) * (g_R S33 a35 (((8 : Int32) * x1) + x2).toNatClampNeg))) + (5 : Int32)).toNatClampNeg) (fun y43 => rd S33 11 (g_P S33 925 x0) (fun a44 => vp_in x2 (g_N S33 a44) ∧ (if (g_I S33 900 x0) < (g_R S33 a44 x2.toNatClampNeg) then (bz (0 : Int32) (Q (0 : Int32) S33)) else (if y43 = 0 then (bz (1 : Int32) (Q (1 : Int32) S33)) else (rd S33 11 (g_P S33 925 x0) (fun a48 => vp_in x2 (g_N S33 a48) ∧ (if ((g_R S33 a48 x2.toNatClampNeg) + y43) ≤ (g_I S33 900 x0) then (bz (0 : Int32) (Q (0 : Int32) S33)) else (bz (1 : Int32) (Q (1 : Int32) S33)))))))))))))))))))) else (okA S27 9 x0 ∧ (wp_X9_asks S27 x0 (1 : Int32) (fun r54 S53 => if r54 = 0 then (bz (0 : Int32) (Q (0 : Int32) S53)) else (okA S53 9 x0 ∧ (wp_X9_findsDays S53 x0 x1 (fun S56 => okA S56 9 x0 ∧ (rd S56 11 (g_P S56 918 x0) (fun a58 => vp_in (((8 : Int32) * x1) + x2) (g_N S56 a58) ∧ (rd S56 11 (g_P S56 924 x0) (fun a62 => vp_in ((((18 : Int32) * x2) + ((6 : Int32) * (g_R S56 a58 (((8 : Int32) * x1) + x2).toNatClampNeg))) + (5 : Int32)) (g_N S56 a62) ∧ (lt (g_R S56 a62 ((((18 : Int32) * x2) + ((6 : Int32) * (g_R S56 a58 (((8 : Int32) * x1) + x2).toNatClampNeg))) + (5 : Int32)).toNatClampNeg) (fun y66 => rd S56 11 (g_P S56 925 x0) (fun a67 => vp_in x2 (g_N S56 a67) ∧ (if (g_I S56 900 x0) < (g_R S56 a67 x2.toNatClampNeg) then (bz (0 : Int32) (Q (0 : Int32) S56)) else (if y66 = 0 then (bz (1 : Int32) (Q (1 : Int32) S56)) else (rd S56 11 (g_P S56 925 x0) (fun a71 => vp_in x2 (g_N S56 a71) ∧ (if ((g_R S56 a71 x2.toNatClampNeg) + y66) ≤ (g_I S56 900 x0) then (bz (0 : Int32) (Q (0 : Int32) S56)) else (bz (1 : Int32) (Q (1 : Int32) S56))))))))))))))))))))))))
def rm_X9_holds : Room := { frames := 3, cells := 0, slots := 0, locals := 76 }
set_option maxHeartbeats 4000000 in
set_option maxRecDepth 100000 in
theorem c_X9_holds (l : Launch) (v : Ev) (S : Hp) (x0 : Nat) (x1 : Int32) (x2 : Int32) : CI l v yX9_holds cX9_holds 4 (some .boolean) rm_X9_holds [va_rf (some x0), .int x1, .int x2] S (fun Q _ => wp_X9_holds S x0 x1 x2 Q) := by
  intro Q EQ h
  refine z_start [(0, va_rf (some x0)), (1, .int x1), (2, .int x2)] (by decide +kernel) (by simp only [la_i, la_r, la_n]) (cat_cr (cat_ci (cat_ci cat_nil))) (by simp only [ls_i, ls_r, ls_n]; decide) (fun z C N T => ?_)
  unfold wp_X9_holds at h
  refine z_aload_n C (pc := 0) dX9_holds_0 0 rfl ?_
  refine z_aload_n C (pc := 1) dX9_holds_1 0 rfl ?_
  refine z_iload_n C (pc := 2) dX9_holds_2 1 rfl ?_
  obtain ⟨o1, h⟩ := h
  refine z_Vi C (pc := 3) (KX := fun _ _ => False) (kc' := 0) (ks' := 0) (As := [.int x1]) (rest := [va_rf (some x0)]) rfl (c_X9_isChild l v S x0 x1) mw_X9_isChild bw_1033 bw_1035 bw_p32 (fit_of rfl) rfl rfl (Nat.le_of_ble_eq_true rfl) (by decide) rfl o1 dX9_holds_3 h (fun r3 S2 h => ?_) (fun En S9 h => h.elim)
  refine z_if_eq C (pc := 6) (tgt := 20) dX9_holds_6 (by decide) h (fun h => ?_) (fun h => ?_)
  · refine z_iconst C (pc := 20) (x := (0 : Int32)) dX9_holds_20 kic_0 ?_
    obtain ⟨o4, h⟩ := h
    refine z_Vi C (pc := 21) (KX := fun _ _ => False) (kc' := 0) (ks' := 0) (As := [.int (0 : Int32)]) (rest := []) rfl (c_X9_asks l v S2 x0 (0 : Int32)) mw_X9_asks bw_1017 bw_1019 bw_p30 (fit_of rfl) rfl rfl (Nat.le_of_ble_eq_true rfl) (by decide) rfl o4 dX9_holds_21 h (fun r6 S5 h => ?_) (fun En S9 h => h.elim)
    refine z_if_ne C (pc := 24) (tgt := 29) dX9_holds_24 (by decide) h (fun h => ?_) (fun h => ?_)
    · refine z_aload_n C (pc := 29) dX9_holds_29 0 rfl ?_
      refine z_iload_n C (pc := 30) dX9_holds_30 1 rfl ?_
      obtain ⟨o7, h⟩ := h
      refine z_Vv C (pc := 31) (KX := fun _ _ => False) (kc' := 0) (ks' := 0) (As := [.int x1]) (rest := []) rfl (c_X9_findsDays l v S5 x0 x1) mw_X9_findsDays bw_1153 bw_1155 bw_p46 (fit_of rfl) rfl rfl (Nat.le_of_ble_eq_true rfl) (by decide) rfl o7 dX9_holds_31 h (fun S8 h => ?_) (fun En S9 h => h.elim)
      refine z_aload_n C (pc := 34) dX9_holds_34 0 rfl ?_
      obtain ⟨o9, h⟩ := h
      refine z_getP C (pc := 35) kf9 24 (by decide) rfl bw_932 (fun _ _ _ _ h => h) dX9_holds_35 rfl o9 ?_
      refine z_bipush C (pc := 38) (x := (18 : Int32)) dX9_holds_38 kbp_18 ?_
      refine z_iload_n C (pc := 40) dX9_holds_40 2 rfl ?_
      refine z_imul C (pc := 41) dX9_holds_41 ?_
      refine z_bipush C (pc := 42) (x := (6 : Int32)) dX9_holds_42 kbp_6 ?_
      refine z_aload_n C (pc := 44) dX9_holds_44 0 rfl ?_
      refine z_getP C (pc := 45) kf9 18 (by decide) rfl bw_926 (fun _ _ _ _ h => h) dX9_holds_45 rfl o9 ?_
      refine z_bipush C (pc := 48) (x := (8 : Int32)) dX9_holds_48 kbp_8 ?_
      refine z_iload_n C (pc := 50) dX9_holds_50 1 rfl ?_
      refine z_imul C (pc := 51) dX9_holds_51 ?_
      refine z_iload_n C (pc := 52) dX9_holds_52 2 rfl ?_
      refine z_iadd C (pc := 53) dX9_holds_53 ?_
      obtain ⟨a10, e11, o12, h⟩ := h
      obtain ⟨v13, h⟩ := h
      refine z_iald C (pc := 54) dX9_holds_54 e11 o12 v13 ?_
      refine z_imul C (pc := 55) dX9_holds_55 ?_
      refine z_iadd C (pc := 56) dX9_holds_56 ?_
      refine z_iconst C (pc := 57) (x := (5 : Int32)) dX9_holds_57 kic_5 ?_
      refine z_iadd C (pc := 58) dX9_holds_58 ?_
      obtain ⟨a14, e15, o16, h⟩ := h
      obtain ⟨v17, h⟩ := h
      refine z_iald C (pc := 59) dX9_holds_59 e15 o16 v17 ?_
      refine z_nI h (fun y18 h => ?_)
      refine z_istore_n C (pc := 60) (lv' := [(3, .int y18), (0, va_rf (some x0)), (1, .int x1), (2, .int x2)]) dX9_holds_60 (by decide) rfl ?_
      refine z_aload_n C (pc := 61) dX9_holds_61 1 rfl ?_
      refine z_getP C (pc := 62) kf9 25 (by decide) rfl bw_933 (fun _ _ _ _ h => h) dX9_holds_62 rfl o9 ?_
      refine z_iload_n C (pc := 65) dX9_holds_65 3 rfl ?_
      obtain ⟨a19, e20, o21, h⟩ := h
      obtain ⟨v22, h⟩ := h
      refine z_iald C (pc := 66) dX9_holds_66 e20 o21 v22 ?_
      refine z_aload_n C (pc := 67) dX9_holds_67 1 rfl ?_
      refine z_getI C (pc := 68) kf9 0 (by decide) rfl bw_908 (fun _ _ _ _ h => h) dX9_holds_68 rfl o9 ?_
      refine z_icmp_gt C (pc := 71) (tgt := 97) dX9_holds_71 (by decide) h (fun h => ?_) (fun h => ?_)
      · refine z_iconst C (pc := 97) (x := (0 : Int32)) dX9_holds_97 kic_0 ?_
        exact z_zret C (pc := 98) T dX9_holds_98 (by decide) (by decide) h
      · refine z_iload_n C (pc := 74) dX9_holds_74 0 rfl ?_
        refine z_if_eq C (pc := 75) (tgt := 93) dX9_holds_75 (by decide) h (fun h => ?_) (fun h => ?_)
        · refine z_iconst C (pc := 93) (x := (1 : Int32)) dX9_holds_93 kic_1 ?_
          refine z_goto C (pc := 94) (tgt := 98) dX9_holds_94 (by decide) ?_
          exact z_zret C (pc := 98) T dX9_holds_98 (by decide) (by decide) h
        · refine z_aload_n C (pc := 78) dX9_holds_78 1 rfl ?_
          refine z_getI C (pc := 79) kf9 0 (by decide) rfl bw_908 (fun _ _ _ _ h => h) dX9_holds_79 rfl o9 ?_
          refine z_aload_n C (pc := 82) dX9_holds_82 1 rfl ?_
          refine z_getP C (pc := 83) kf9 25 (by decide) rfl bw_933 (fun _ _ _ _ h => h) dX9_holds_83 rfl o9 ?_
          refine z_iload_n C (pc := 86) dX9_holds_86 3 rfl ?_
          obtain ⟨a23, e24, o25, h⟩ := h
          obtain ⟨v26, h⟩ := h
          refine z_iald C (pc := 87) dX9_holds_87 e24 o25 v26 ?_
          refine z_iload_n C (pc := 88) dX9_holds_88 0 rfl ?_
          refine z_iadd C (pc := 89) dX9_holds_89 ?_
          refine z_icmp_ge C (pc := 90) (tgt := 97) dX9_holds_90 (by decide) h (fun h => ?_) (fun h => ?_)
          · refine z_iconst C (pc := 97) (x := (0 : Int32)) dX9_holds_97 kic_0 ?_
            exact z_zret C (pc := 98) T dX9_holds_98 (by decide) (by decide) h
          · refine z_iconst C (pc := 93) (x := (1 : Int32)) dX9_holds_93 kic_1 ?_
            refine z_goto C (pc := 94) (tgt := 98) dX9_holds_94 (by decide) ?_
            exact z_zret C (pc := 98) T dX9_holds_98 (by decide) (by decide) h
    · refine z_iconst C (pc := 27) (x := (0 : Int32)) dX9_holds_27 kic_0 ?_
      exact z_zret C (pc := 28) T dX9_holds_28 (by decide) (by decide) h
  · refine z_iload_n C (pc := 9) dX9_holds_9 2 rfl ?_
    refine z_Si C (pc := 10) (KX := fun _ _ => False) (kc' := 0) (ks' := 0) (As := [.int x2]) (rest := [va_rf (some x0)]) (c_X9_isBadge l v S2 x2) mw_X9_isBadge bw_1131 bw_1132 (fit_of rfl) rfl rfl (Nat.le_of_ble_eq_true rfl) dX9_holds_10 h (fun r28 S27 h => ?_) (fun En S9 h => h.elim)
    refine z_if_eq C (pc := 13) (tgt := 20) dX9_holds_13 (by decide) h (fun h => ?_) (fun h => ?_)
    · refine z_iconst C (pc := 20) (x := (0 : Int32)) dX9_holds_20 kic_0 ?_
      obtain ⟨o29, h⟩ := h
      refine z_Vi C (pc := 21) (KX := fun _ _ => False) (kc' := 0) (ks' := 0) (As := [.int (0 : Int32)]) (rest := []) rfl (c_X9_asks l v S27 x0 (0 : Int32)) mw_X9_asks bw_1017 bw_1019 bw_p30 (fit_of rfl) rfl rfl (Nat.le_of_ble_eq_true rfl) (by decide) rfl o29 dX9_holds_21 h (fun r31 S30 h => ?_) (fun En S9 h => h.elim)
      refine z_if_ne C (pc := 24) (tgt := 29) dX9_holds_24 (by decide) h (fun h => ?_) (fun h => ?_)
      · refine z_aload_n C (pc := 29) dX9_holds_29 0 rfl ?_
        refine z_iload_n C (pc := 30) dX9_holds_30 1 rfl ?_
        obtain ⟨o32, h⟩ := h
        refine z_Vv C (pc := 31) (KX := fun _ _ => False) (kc' := 0) (ks' := 0) (As := [.int x1]) (rest := []) rfl (c_X9_findsDays l v S30 x0 x1) mw_X9_findsDays bw_1153 bw_1155 bw_p46 (fit_of rfl) rfl rfl (Nat.le_of_ble_eq_true rfl) (by decide) rfl o32 dX9_holds_31 h (fun S33 h => ?_) (fun En S9 h => h.elim)
        refine z_aload_n C (pc := 34) dX9_holds_34 0 rfl ?_
        obtain ⟨o34, h⟩ := h
        refine z_getP C (pc := 35) kf9 24 (by decide) rfl bw_932 (fun _ _ _ _ h => h) dX9_holds_35 rfl o34 ?_
        refine z_bipush C (pc := 38) (x := (18 : Int32)) dX9_holds_38 kbp_18 ?_
        refine z_iload_n C (pc := 40) dX9_holds_40 2 rfl ?_
        refine z_imul C (pc := 41) dX9_holds_41 ?_
        refine z_bipush C (pc := 42) (x := (6 : Int32)) dX9_holds_42 kbp_6 ?_
        refine z_aload_n C (pc := 44) dX9_holds_44 0 rfl ?_
        refine z_getP C (pc := 45) kf9 18 (by decide) rfl bw_926 (fun _ _ _ _ h => h) dX9_holds_45 rfl o34 ?_
        refine z_bipush C (pc := 48) (x := (8 : Int32)) dX9_holds_48 kbp_8 ?_
        refine z_iload_n C (pc := 50) dX9_holds_50 1 rfl ?_
        refine z_imul C (pc := 51) dX9_holds_51 ?_
        refine z_iload_n C (pc := 52) dX9_holds_52 2 rfl ?_
        refine z_iadd C (pc := 53) dX9_holds_53 ?_
        obtain ⟨a35, e36, o37, h⟩ := h
        obtain ⟨v38, h⟩ := h
        refine z_iald C (pc := 54) dX9_holds_54 e36 o37 v38 ?_
        refine z_imul C (pc := 55) dX9_holds_55 ?_
        refine z_iadd C (pc := 56) dX9_holds_56 ?_
        refine z_iconst C (pc := 57) (x := (5 : Int32)) dX9_holds_57 kic_5 ?_
        refine z_iadd C (pc := 58) dX9_holds_58 ?_
        obtain ⟨a39, e40, o41, h⟩ := h
        obtain ⟨v42, h⟩ := h
        refine z_iald C (pc := 59) dX9_holds_59 e40 o41 v42 ?_
        refine z_nI h (fun y43 h => ?_)
        refine z_istore_n C (pc := 60) (lv' := [(3, .int y43), (0, va_rf (some x0)), (1, .int x1), (2, .int x2)]) dX9_holds_60 (by decide) rfl ?_
        refine z_aload_n C (pc := 61) dX9_holds_61 1 rfl ?_
        refine z_getP C (pc := 62) kf9 25 (by decide) rfl bw_933 (fun _ _ _ _ h => h) dX9_holds_62 rfl o34 ?_
        refine z_iload_n C (pc := 65) dX9_holds_65 3 rfl ?_
        obtain ⟨a44, e45, o46, h⟩ := h
        obtain ⟨v47, h⟩ := h
        refine z_iald C (pc := 66) dX9_holds_66 e45 o46 v47 ?_
        refine z_aload_n C (pc := 67) dX9_holds_67 1 rfl ?_
        refine z_getI C (pc := 68) kf9 0 (by decide) rfl bw_908 (fun _ _ _ _ h => h) dX9_holds_68 rfl o34 ?_
        refine z_icmp_gt C (pc := 71) (tgt := 97) dX9_holds_71 (by decide) h (fun h => ?_) (fun h => ?_)
        · refine z_iconst C (pc := 97) (x := (0 : Int32)) dX9_holds_97 kic_0 ?_
          exact z_zret C (pc := 98) T dX9_holds_98 (by decide) (by decide) h
        · refine z_iload_n C (pc := 74) dX9_holds_74 0 rfl ?_
          refine z_if_eq C (pc := 75) (tgt := 93) dX9_holds_75 (by decide) h (fun h => ?_) (fun h => ?_)
          · refine z_iconst C (pc := 93) (x := (1 : Int32)) dX9_holds_93 kic_1 ?_
            refine z_goto C (pc := 94) (tgt := 98) dX9_holds_94 (by decide) ?_
            exact z_zret C (pc := 98) T dX9_holds_98 (by decide) (by decide) h
          · refine z_aload_n C (pc := 78) dX9_holds_78 1 rfl ?_
            refine z_getI C (pc := 79) kf9 0 (by decide) rfl bw_908 (fun _ _ _ _ h => h) dX9_holds_79 rfl o34 ?_
            refine z_aload_n C (pc := 82) dX9_holds_82 1 rfl ?_
            refine z_getP C (pc := 83) kf9 25 (by decide) rfl bw_933 (fun _ _ _ _ h => h) dX9_holds_83 rfl o34 ?_
            refine z_iload_n C (pc := 86) dX9_holds_86 3 rfl ?_
            obtain ⟨a48, e49, o50, h⟩ := h
            obtain ⟨v51, h⟩ := h
            refine z_iald C (pc := 87) dX9_holds_87 e49 o50 v51 ?_
            refine z_iload_n C (pc := 88) dX9_holds_88 0 rfl ?_
            refine z_iadd C (pc := 89) dX9_holds_89 ?_
            refine z_icmp_ge C (pc := 90) (tgt := 97) dX9_holds_90 (by decide) h (fun h => ?_) (fun h => ?_)
            · refine z_iconst C (pc := 97) (x := (0 : Int32)) dX9_holds_97 kic_0 ?_
              exact z_zret C (pc := 98) T dX9_holds_98 (by decide) (by decide) h
            · refine z_iconst C (pc := 93) (x := (1 : Int32)) dX9_holds_93 kic_1 ?_
              refine z_goto C (pc := 94) (tgt := 98) dX9_holds_94 (by decide) ?_
              exact z_zret C (pc := 98) T dX9_holds_98 (by decide) (by decide) h
      · refine z_iconst C (pc := 27) (x := (0 : Int32)) dX9_holds_27 kic_0 ?_
        exact z_zret C (pc := 28) T dX9_holds_28 (by decide) (by decide) h
    · refine z_iconst C (pc := 16) (x := (1 : Int32)) dX9_holds_16 kic_1 ?_
      refine z_goto C (pc := 17) (tgt := 21) dX9_holds_17 (by decide) ?_
      obtain ⟨o52, h⟩ := h
      refine z_Vi C (pc := 21) (KX := fun _ _ => False) (kc' := 0) (ks' := 0) (As := [.int (1 : Int32)]) (rest := []) rfl (c_X9_asks l v S27 x0 (1 : Int32)) mw_X9_asks bw_1017 bw_1019 bw_p30 (fit_of rfl) rfl rfl (Nat.le_of_ble_eq_true rfl) (by decide) rfl o52 dX9_holds_21 h (fun r54 S53 h => ?_) (fun En S9 h => h.elim)
      refine z_if_ne C (pc := 24) (tgt := 29) dX9_holds_24 (by decide) h (fun h => ?_) (fun h => ?_)
      · refine z_aload_n C (pc := 29) dX9_holds_29 0 rfl ?_
        refine z_iload_n C (pc := 30) dX9_holds_30 1 rfl ?_
        obtain ⟨o55, h⟩ := h
        refine z_Vv C (pc := 31) (KX := fun _ _ => False) (kc' := 0) (ks' := 0) (As := [.int x1]) (rest := []) rfl (c_X9_findsDays l v S53 x0 x1) mw_X9_findsDays bw_1153 bw_1155 bw_p46 (fit_of rfl) rfl rfl (Nat.le_of_ble_eq_true rfl) (by decide) rfl o55 dX9_holds_31 h (fun S56 h => ?_) (fun En S9 h => h.elim)
        refine z_aload_n C (pc := 34) dX9_holds_34 0 rfl ?_
        obtain ⟨o57, h⟩ := h
        refine z_getP C (pc := 35) kf9 24 (by decide) rfl bw_932 (fun _ _ _ _ h => h) dX9_holds_35 rfl o57 ?_
        refine z_bipush C (pc := 38) (x := (18 : Int32)) dX9_holds_38 kbp_18 ?_
        refine z_iload_n C (pc := 40) dX9_holds_40 2 rfl ?_
        refine z_imul C (pc := 41) dX9_holds_41 ?_
        refine z_bipush C (pc := 42) (x := (6 : Int32)) dX9_holds_42 kbp_6 ?_
        refine z_aload_n C (pc := 44) dX9_holds_44 0 rfl ?_
        refine z_getP C (pc := 45) kf9 18 (by decide) rfl bw_926 (fun _ _ _ _ h => h) dX9_holds_45 rfl o57 ?_
        refine z_bipush C (pc := 48) (x := (8 : Int32)) dX9_holds_48 kbp_8 ?_
        refine z_iload_n C (pc := 50) dX9_holds_50 1 rfl ?_
        refine z_imul C (pc := 51) dX9_holds_51 ?_
        refine z_iload_n C (pc := 52) dX9_holds_52 2 rfl ?_
        refine z_iadd C (pc := 53) dX9_holds_53 ?_
        obtain ⟨a58, e59, o60, h⟩ := h
        obtain ⟨v61, h⟩ := h
        refine z_iald C (pc := 54) dX9_holds_54 e59 o60 v61 ?_
        refine z_imul C (pc := 55) dX9_holds_55 ?_
        refine z_iadd C (pc := 56) dX9_holds_56 ?_
        refine z_iconst C (pc := 57) (x := (5 : Int32)) dX9_holds_57 kic_5 ?_
        refine z_iadd C (pc := 58) dX9_holds_58 ?_
        obtain ⟨a62, e63, o64, h⟩ := h
        obtain ⟨v65, h⟩ := h
        refine z_iald C (pc := 59) dX9_holds_59 e63 o64 v65 ?_
        refine z_nI h (fun y66 h => ?_)
        refine z_istore_n C (pc := 60) (lv' := [(3, .int y66), (0, va_rf (some x0)), (1, .int x1), (2, .int x2)]) dX9_holds_60 (by decide) rfl ?_
        refine z_aload_n C (pc := 61) dX9_holds_61 1 rfl ?_
        refine z_getP C (pc := 62) kf9 25 (by decide) rfl bw_933 (fun _ _ _ _ h => h) dX9_holds_62 rfl o57 ?_
        refine z_iload_n C (pc := 65) dX9_holds_65 3 rfl ?_
        obtain ⟨a67, e68, o69, h⟩ := h
        obtain ⟨v70, h⟩ := h
        refine z_iald C (pc := 66) dX9_holds_66 e68 o69 v70 ?_
        refine z_aload_n C (pc := 67) dX9_holds_67 1 rfl ?_
        refine z_getI C (pc := 68) kf9 0 (by decide) rfl bw_908 (fun _ _ _ _ h => h) dX9_holds_68 rfl o57 ?_
        refine z_icmp_gt C (pc := 71) (tgt := 97) dX9_holds_71 (by decide) h (fun h => ?_) (fun h => ?_)
        · refine z_iconst C (pc := 97) (x := (0 : Int32)) dX9_holds_97 kic_0 ?_
          exact z_zret C (pc := 98) T dX9_holds_98 (by decide) (by decide) h
        · refine z_iload_n C (pc := 74) dX9_holds_74 0 rfl ?_
          refine z_if_eq C (pc := 75) (tgt := 93) dX9_holds_75 (by decide) h (fun h => ?_) (fun h => ?_)
          · refine z_iconst C (pc := 93) (x := (1 : Int32)) dX9_holds_93 kic_1 ?_
            refine z_goto C (pc := 94) (tgt := 98) dX9_holds_94 (by decide) ?_
            exact z_zret C (pc := 98) T dX9_holds_98 (by decide) (by decide) h
          · refine z_aload_n C (pc := 78) dX9_holds_78 1 rfl ?_
            refine z_getI C (pc := 79) kf9 0 (by decide) rfl bw_908 (fun _ _ _ _ h => h) dX9_holds_79 rfl o57 ?_
            refine z_aload_n C (pc := 82) dX9_holds_82 1 rfl ?_
            refine z_getP C (pc := 83) kf9 25 (by decide) rfl bw_933 (fun _ _ _ _ h => h) dX9_holds_83 rfl o57 ?_
            refine z_iload_n C (pc := 86) dX9_holds_86 3 rfl ?_
            obtain ⟨a71, e72, o73, h⟩ := h
            obtain ⟨v74, h⟩ := h
            refine z_iald C (pc := 87) dX9_holds_87 e72 o73 v74 ?_
            refine z_iload_n C (pc := 88) dX9_holds_88 0 rfl ?_
            refine z_iadd C (pc := 89) dX9_holds_89 ?_
            refine z_icmp_ge C (pc := 90) (tgt := 97) dX9_holds_90 (by decide) h (fun h => ?_) (fun h => ?_)
            · refine z_iconst C (pc := 97) (x := (0 : Int32)) dX9_holds_97 kic_0 ?_
              exact z_zret C (pc := 98) T dX9_holds_98 (by decide) (by decide) h
            · refine z_iconst C (pc := 93) (x := (1 : Int32)) dX9_holds_93 kic_1 ?_
              refine z_goto C (pc := 94) (tgt := 98) dX9_holds_94 (by decide) ?_
              exact z_zret C (pc := 98) T dX9_holds_98 (by decide) (by decide) h
      · refine z_iconst C (pc := 27) (x := (0 : Int32)) dX9_holds_27 kic_0 ?_
        exact z_zret C (pc := 28) T dX9_holds_28 (by decide) (by decide) h
def wp_X9_lacks_L81 (f0 : Nat) (f1 : Int32) (f2 : Int32) (f3 : Int32) (Q : Int32 → Hp → Prop) : Nat → Hp → Int32 → Int32 → Prop
  | 0, _, _, _ => False
  | n + 1, S, w4, w5 => if (16 : Int32) ≤ w5 then (Q w4 S) else (if ((f3 >>> (w5 &&& 31)) &&& (1 : Int32)) = (1 : Int32) then (okA S 9 f0 ∧ (rd S 11 (g_P S 916 f0) (fun a23 => vp_in (((16 : Int32) * f1) + w5) (g_N S a23) ∧ (if (g_R S a23 (((16 : Int32) * f1) + w5).toNatClampNeg) = (-1 : Int32) then (lt (w4 ||| ((1 : Int32) <<< (w5 &&& 31))) (fun y28 => wp_X9_lacks_L81 f0 f1 f2 f3 Q n S y28 (w5 + (1 : Int32)))) else (lt (w4 ||| (0 : Int32)) (fun y27 => wp_X9_lacks_L81 f0 f1 f2 f3 Q n S y27 (w5 + (1 : Int32)))))))) else (lt (w4 ||| (0 : Int32)) (fun y21 => wp_X9_lacks_L81 f0 f1 f2 f3 Q n S y21 (w5 + (1 : Int32)))))
def wp_X9_lacks (S : Hp) (x0 : Nat) (x1 : Int32) (x2 : Int32) (Q : Int32 → Hp → Prop) : Prop :=
  okA S 9 x0 ∧ (wp_X9_isChild S x0 x1 (fun r3 S2 => if r3 = 0 then (okA S2 9 x0 ∧ (wp_X9_asks S2 x0 (0 : Int32) (fun r6 S5 => if r6 = 0 then (Q (0 : Int32) S5) else (okA S5 9 x0 ∧ (rd S5 11 (g_P S5 917 x0) (fun a8 => vp_in (((8 : Int32) * x1) + x2) (g_N S5 a8) ∧ (if (g_R S5 a8 (((8 : Int32) * x1) + x2).toNatClampNeg) = (-1 : Int32) then (wp_X9_fails S5 x0 (2 : Int32) (fun r31 S30 => Q r31 S30)) else (rd S5 11 (g_P S5 918 x0) (fun a12 => vp_in (((8 : Int32) * x1) + x2) (g_N S5 a12) ∧ (rd S5 11 (g_P S5 924 x0) (fun a16 => vp_in (((18 : Int32) * x2) + ((6 : Int32) * (g_R S5 a12 (((8 : Int32) * x1) + x2).toNatClampNeg))) (g_N S5 a16) ∧ (lt (g_R S5 a16 (((18 : Int32) * x2) + ((6 : Int32) * (g_R S5 a12 (((8 : Int32) * x1) + x2).toNatClampNeg))).toNatClampNeg) (fun y20 => ∃ n29, wp_X9_lacks_L81 x0 x1 x2 y20 Q n29 S5 (0 : Int32) (0 : Int32)))))))))))))) else (wp_X9_isBadge S2 x2 (fun r33 S32 => if r33 = 0 then (okA S32 9 x0 ∧ (wp_X9_asks S32 x0 (0 : Int32) (fun r36 S35 => if r36 = 0 then (Q (0 : Int32) S35) else (okA S35 9 x0 ∧ (rd S35 11 (g_P S35 917 x0) (fun a38 => vp_in (((8 : Int32) * x1) + x2) (g_N S35 a38) ∧ (if (g_R S35 a38 (((8 : Int32) * x1) + x2).toNatClampNeg) = (-1 : Int32) then (wp_X9_fails S35 x0 (2 : Int32) (fun r53 S52 => Q r53 S52)) else (rd S35 11 (g_P S35 918 x0) (fun a42 => vp_in (((8 : Int32) * x1) + x2) (g_N S35 a42) ∧ (rd S35 11 (g_P S35 924 x0) (fun a46 => vp_in (((18 : Int32) * x2) + ((6 : Int32) * (g_R S35 a42 (((8 : Int32) * x1) + x2).toNatClampNeg))) (g_N S35 a46) ∧ (lt (g_R S35 a46 (((18 : Int32) * x2) + ((6 : Int32) * (g_R S35 a42 (((8 : Int32) * x1) + x2).toNatClampNeg))).toNatClampNeg) (fun y50 => ∃ n51, wp_X9_lacks_L81 x0 x1 x2 y50 Q n51 S35 (0 : Int32) (0 : Int32)))))))))))))) else (okA S32 9 x0 ∧ (wp_X9_asks S32 x0 (1 : Int32) (fun r56 S55 => if r56 = 0 then (Q (0 : Int32) S55) else (okA S55 9 x0 ∧ (rd S55 11 (g_P S55 917 x0) (fun a58 => vp_in (((8 : Int32) * x1) + x2) (g_N S55 a58) ∧ (if (g_R S55 a58 (((8 : Int32) * x1) + x2).toNatClampNeg) = (-1 : Int32) then (wp_X9_fails S55 x0 (2 : Int32) (fun r73 S72 => Q r73 S72)) else (rd S55 11 (g_P S55 918 x0) (fun a62 => vp_in (((8 : Int32) * x1) + x2) (g_N S55 a62) ∧ (rd S55 11 (g_P S55 924 x0) (fun a66 => vp_in (((18 : Int32) * x2) + ((6 : Int32) * (g_R S55 a62 (((8 : Int32) * x1) + x2).toNatClampNeg))) (g_N S55 a66) ∧ (lt (g_R S55 a66 (((18 : Int32) * x2) + ((6 : Int32) * (g_R S55 a62 (((8 : Int32) * x1) + x2).toNatClampNeg))).toNatClampNeg) (fun y70 => ∃ n71, wp_X9_lacks_L81 x0 x1 x2 y70 Q n71 S55 (0 : Int32) (0 : Int32))))))))))))))))))
def rm_X9_lacks : Room := { frames := 2, cells := 0, slots := 0, locals := 43 }
set_option maxHeartbeats 4000000 in
set_option maxRecDepth 100000 in
theorem l_X9_lacks_L81 (l : Launch) (v : Ev) (f0 : Nat) (f1 : Int32) (f2 : Int32) (f3 : Int32) (Q : Int32 → Hp → Prop) {EQ : String → Hp → Prop} {z : Z9} (C : Cx l v RX9 cX9_lacks 6 (some .int) "lacks" z) (N : NT z) (T : EE v rm_X9_lacks (QI v Q) EQ z) : ∀ (n : Nat) (S : Hp) (w4 : Int32) (w5 : Int32), wp_X9_lacks_L81 f0 f1 f2 f3 Q n S w4 w5 → ZZ l v 6 rm_X9_lacks z 0 0 S 81 [(0, va_rf (some f0)), (1, .int f1), (2, .int f2), (3, .int f3), (4, .int w4), (5, .int w5)] [] := by
  intro n
  induction n with
  | zero =>
    intro S w4 w5 h
    exact h.elim
  | succ n ih =>
    intro S w4 w5 h
    unfold wp_X9_lacks_L81 at h
    refine z_iload C (pc := 81) dX9_lacks_81 5 rfl ?_
    refine z_bipush C (pc := 83) (x := (16 : Int32)) dX9_lacks_83 kbp_16 ?_
    refine z_icmp_ge C (pc := 85) (tgt := 133) dX9_lacks_85 (by decide) h (fun h => ?_) (fun h => ?_)
    · refine z_iload C (pc := 133) dX9_lacks_133 4 rfl ?_
      exact z_iret C (pc := 135) T dX9_lacks_135 (by decide) (by decide) h
    · refine z_iload C (pc := 88) dX9_lacks_88 4 rfl ?_
      refine z_iload_n C (pc := 90) dX9_lacks_90 3 rfl ?_
      refine z_iload C (pc := 91) dX9_lacks_91 5 rfl ?_
      refine z_ishr C (pc := 93) dX9_lacks_93 ?_
      refine z_iconst C (pc := 94) (x := (1 : Int32)) dX9_lacks_94 kic_1 ?_
      refine z_iand C (pc := 95) dX9_lacks_95 ?_
      refine z_iconst C (pc := 96) (x := (1 : Int32)) dX9_lacks_96 kic_1 ?_
      refine z_icmp_ne C (pc := 97) (tgt := 123) dX9_lacks_97 (by decide) h (fun h => ?_) (fun h => ?_)
      · refine z_iconst C (pc := 123) (x := (0 : Int32)) dX9_lacks_123 kic_0 ?_
        refine z_ior C (pc := 124) dX9_lacks_124 ?_
        refine z_nI h (fun y21 h => ?_)
        refine z_istore C (pc := 125) (lv' := [(4, .int y21), (0, va_rf (some f0)), (1, .int f1), (2, .int f2), (3, .int f3), (5, .int w5)]) dX9_lacks_125 (by decide) rfl ?_
        refine z_iinc C (pc := 127) (y := w5 + (1 : Int32)) (lv' := [(5, .int (w5 + (1 : Int32))), (4, .int y21), (0, va_rf (some f0)), (1, .int f1), (2, .int f2), (3, .int f3)]) dX9_lacks_127 5 rfl rfl (by decide) rfl ?_
        refine z_goto C (pc := 130) (tgt := 81) dX9_lacks_130 (by decide) ?_
        refine z_sub [2, 3, 4, 5, 1, 0] (lv' := [(0, va_rf (some f0)), (1, .int f1), (2, .int f2), (3, .int f3), (4, .int y21), (5, .int (w5 + (1 : Int32)))]) rfl ?_
        exact ih S y21 (w5 + (1 : Int32)) h
      · refine z_aload_n C (pc := 100) dX9_lacks_100 0 rfl ?_
        obtain ⟨o22, h⟩ := h
        refine z_getP C (pc := 101) kf9 16 (by decide) rfl bw_924 (fun _ _ _ _ h => h) dX9_lacks_101 rfl o22 ?_
        refine z_bipush C (pc := 104) (x := (16 : Int32)) dX9_lacks_104 kbp_16 ?_
        refine z_iload_n C (pc := 106) dX9_lacks_106 1 rfl ?_
        refine z_imul C (pc := 107) dX9_lacks_107 ?_
        refine z_iload C (pc := 108) dX9_lacks_108 5 rfl ?_
        refine z_iadd C (pc := 110) dX9_lacks_110 ?_
        obtain ⟨a23, e24, o25, h⟩ := h
        obtain ⟨v26, h⟩ := h
        refine z_iald C (pc := 111) dX9_lacks_111 e24 o25 v26 ?_
        refine z_iconst C (pc := 112) (x := (-1 : Int32)) dX9_lacks_112 kic_m1 ?_
        refine z_icmp_ne C (pc := 113) (tgt := 123) dX9_lacks_113 (by decide) h (fun h => ?_) (fun h => ?_)
        · refine z_iconst C (pc := 123) (x := (0 : Int32)) dX9_lacks_123 kic_0 ?_
          refine z_ior C (pc := 124) dX9_lacks_124 ?_
          refine z_nI h (fun y27 h => ?_)
          refine z_istore C (pc := 125) (lv' := [(4, .int y27), (0, va_rf (some f0)), (1, .int f1), (2, .int f2), (3, .int f3), (5, .int w5)]) dX9_lacks_125 (by decide) rfl ?_
          refine z_iinc C (pc := 127) (y := w5 + (1 : Int32)) (lv' := [(5, .int (w5 + (1 : Int32))), (4, .int y27), (0, va_rf (some f0)), (1, .int f1), (2, .int f2), (3, .int f3)]) dX9_lacks_127 5 rfl rfl (by decide) rfl ?_
          refine z_goto C (pc := 130) (tgt := 81) dX9_lacks_130 (by decide) ?_
          refine z_sub [2, 3, 4, 5, 1, 0] (lv' := [(0, va_rf (some f0)), (1, .int f1), (2, .int f2), (3, .int f3), (4, .int y27), (5, .int (w5 + (1 : Int32)))]) rfl ?_
          exact ih S y27 (w5 + (1 : Int32)) h
        · refine z_iconst C (pc := 116) (x := (1 : Int32)) dX9_lacks_116 kic_1 ?_
          refine z_iload C (pc := 117) dX9_lacks_117 5 rfl ?_
          refine z_ishl C (pc := 119) dX9_lacks_119 ?_
          refine z_goto C (pc := 120) (tgt := 124) dX9_lacks_120 (by decide) ?_
          refine z_ior C (pc := 124) dX9_lacks_124 ?_
          refine z_nI h (fun y28 h => ?_)
          refine z_istore C (pc := 125) (lv' := [(4, .int y28), (0, va_rf (some f0)), (1, .int f1), (2, .int f2), (3, .int f3), (5, .int w5)]) dX9_lacks_125 (by decide) rfl ?_
          refine z_iinc C (pc := 127) (y := w5 + (1 : Int32)) (lv' := [(5, .int (w5 + (1 : Int32))), (4, .int y28), (0, va_rf (some f0)), (1, .int f1), (2, .int f2), (3, .int f3)]) dX9_lacks_127 5 rfl rfl (by decide) rfl ?_
          refine z_goto C (pc := 130) (tgt := 81) dX9_lacks_130 (by decide) ?_
          refine z_sub [2, 3, 4, 5, 1, 0] (lv' := [(0, va_rf (some f0)), (1, .int f1), (2, .int f2), (3, .int f3), (4, .int y28), (5, .int (w5 + (1 : Int32)))]) rfl ?_
          exact ih S y28 (w5 + (1 : Int32)) h
set_option maxHeartbeats 4000000 in
set_option maxRecDepth 100000 in
theorem c_X9_lacks (l : Launch) (v : Ev) (S : Hp) (x0 : Nat) (x1 : Int32) (x2 : Int32) : CI l v yX9_lacks cX9_lacks 6 (some .int) rm_X9_lacks [va_rf (some x0), .int x1, .int x2] S (fun Q _ => wp_X9_lacks S x0 x1 x2 Q) := by
  intro Q EQ h
  refine z_start [(0, va_rf (some x0)), (1, .int x1), (2, .int x2)] (by decide +kernel) (by simp only [la_i, la_r, la_n]) (cat_cr (cat_ci (cat_ci cat_nil))) (by simp only [ls_i, ls_r, ls_n]; decide) (fun z C N T => ?_)
  unfold wp_X9_lacks at h
  refine z_aload_n C (pc := 0) dX9_lacks_0 0 rfl ?_
  refine z_aload_n C (pc := 1) dX9_lacks_1 0 rfl ?_
  refine z_iload_n C (pc := 2) dX9_lacks_2 1 rfl ?_
  obtain ⟨o1, h⟩ := h
  refine z_Vi C (pc := 3) (KX := fun _ _ => False) (kc' := 0) (ks' := 0) (As := [.int x1]) (rest := [va_rf (some x0)]) rfl (c_X9_isChild l v S x0 x1) mw_X9_isChild bw_1033 bw_1035 bw_p32 (fit_of rfl) rfl rfl (Nat.le_of_ble_eq_true rfl) (by decide) rfl o1 dX9_lacks_3 h (fun r3 S2 h => ?_) (fun En S9 h => h.elim)
  refine z_if_eq C (pc := 6) (tgt := 20) dX9_lacks_6 (by decide) h (fun h => ?_) (fun h => ?_)
  · refine z_iconst C (pc := 20) (x := (0 : Int32)) dX9_lacks_20 kic_0 ?_
    obtain ⟨o4, h⟩ := h
    refine z_Vi C (pc := 21) (KX := fun _ _ => False) (kc' := 0) (ks' := 0) (As := [.int (0 : Int32)]) (rest := []) rfl (c_X9_asks l v S2 x0 (0 : Int32)) mw_X9_asks bw_1017 bw_1019 bw_p30 (fit_of rfl) rfl rfl (Nat.le_of_ble_eq_true rfl) (by decide) rfl o4 dX9_lacks_21 h (fun r6 S5 h => ?_) (fun En S9 h => h.elim)
    refine z_if_ne C (pc := 24) (tgt := 29) dX9_lacks_24 (by decide) h (fun h => ?_) (fun h => ?_)
    · refine z_aload_n C (pc := 29) dX9_lacks_29 0 rfl ?_
      obtain ⟨o7, h⟩ := h
      refine z_getP C (pc := 30) kf9 17 (by decide) rfl bw_925 (fun _ _ _ _ h => h) dX9_lacks_30 rfl o7 ?_
      refine z_bipush C (pc := 33) (x := (8 : Int32)) dX9_lacks_33 kbp_8 ?_
      refine z_iload_n C (pc := 35) dX9_lacks_35 1 rfl ?_
      refine z_imul C (pc := 36) dX9_lacks_36 ?_
      refine z_iload_n C (pc := 37) dX9_lacks_37 2 rfl ?_
      refine z_iadd C (pc := 38) dX9_lacks_38 ?_
      obtain ⟨a8, e9, o10, h⟩ := h
      obtain ⟨v11, h⟩ := h
      refine z_iald C (pc := 39) dX9_lacks_39 e9 o10 v11 ?_
      refine z_iconst C (pc := 40) (x := (-1 : Int32)) dX9_lacks_40 kic_m1 ?_
      refine z_icmp_ne C (pc := 41) (tgt := 50) dX9_lacks_41 (by decide) h (fun h => ?_) (fun h => ?_)
      · refine z_aload_n C (pc := 50) dX9_lacks_50 0 rfl ?_
        refine z_getP C (pc := 51) kf9 24 (by decide) rfl bw_932 (fun _ _ _ _ h => h) dX9_lacks_51 rfl o7 ?_
        refine z_bipush C (pc := 54) (x := (18 : Int32)) dX9_lacks_54 kbp_18 ?_
        refine z_iload_n C (pc := 56) dX9_lacks_56 2 rfl ?_
        refine z_imul C (pc := 57) dX9_lacks_57 ?_
        refine z_bipush C (pc := 58) (x := (6 : Int32)) dX9_lacks_58 kbp_6 ?_
        refine z_aload_n C (pc := 60) dX9_lacks_60 0 rfl ?_
        refine z_getP C (pc := 61) kf9 18 (by decide) rfl bw_926 (fun _ _ _ _ h => h) dX9_lacks_61 rfl o7 ?_
        refine z_bipush C (pc := 64) (x := (8 : Int32)) dX9_lacks_64 kbp_8 ?_
        refine z_iload_n C (pc := 66) dX9_lacks_66 1 rfl ?_
        refine z_imul C (pc := 67) dX9_lacks_67 ?_
        refine z_iload_n C (pc := 68) dX9_lacks_68 2 rfl ?_
        refine z_iadd C (pc := 69) dX9_lacks_69 ?_
        obtain ⟨a12, e13, o14, h⟩ := h
        obtain ⟨v15, h⟩ := h
        refine z_iald C (pc := 70) dX9_lacks_70 e13 o14 v15 ?_
        refine z_imul C (pc := 71) dX9_lacks_71 ?_
        refine z_iadd C (pc := 72) dX9_lacks_72 ?_
        obtain ⟨a16, e17, o18, h⟩ := h
        obtain ⟨v19, h⟩ := h
        refine z_iald C (pc := 73) dX9_lacks_73 e17 o18 v19 ?_
        refine z_nI h (fun y20 h => ?_)
        refine z_istore_n C (pc := 74) (lv' := [(3, .int y20), (0, va_rf (some x0)), (1, .int x1), (2, .int x2)]) dX9_lacks_74 (by decide) rfl ?_
        refine z_iconst C (pc := 75) (x := (0 : Int32)) dX9_lacks_75 kic_0 ?_
        refine z_istore C (pc := 76) (lv' := [(4, .int (0 : Int32)), (3, .int y20), (0, va_rf (some x0)), (1, .int x1), (2, .int x2)]) dX9_lacks_76 (by decide) rfl ?_
        refine z_iconst C (pc := 78) (x := (0 : Int32)) dX9_lacks_78 kic_0 ?_
        refine z_istore C (pc := 79) (lv' := [(5, .int (0 : Int32)), (4, .int (0 : Int32)), (3, .int y20), (0, va_rf (some x0)), (1, .int x1), (2, .int x2)]) dX9_lacks_79 (by decide) rfl ?_
        obtain ⟨n29, h⟩ := h
        refine z_sub [3, 4, 5, 2, 1, 0] (lv' := [(0, va_rf (some x0)), (1, .int x1), (2, .int x2), (3, .int y20), (4, .int (0 : Int32)), (5, .int (0 : Int32))]) rfl ?_
        exact l_X9_lacks_L81 l v x0 x1 x2 y20 Q C N T n29 S5 (0 : Int32) (0 : Int32) h
      · refine z_aload_n C (pc := 44) dX9_lacks_44 0 rfl ?_
        refine z_iconst C (pc := 45) (x := (2 : Int32)) dX9_lacks_45 kic_2 ?_
        refine z_Vi C (pc := 46) (KX := fun _ _ => False) (kc' := 0) (ks' := 0) (As := [.int (2 : Int32)]) (rest := []) rfl (c_X9_fails l v S5 x0 (2 : Int32)) mw_X9_fails bw_1021 bw_1023 bw_p31 (fit_of rfl) rfl rfl (Nat.le_of_ble_eq_true rfl) (by decide) rfl o7 dX9_lacks_46 h (fun r31 S30 h => ?_) (fun En S9 h => h.elim)
        exact z_iret C (pc := 49) T dX9_lacks_49 (by decide) (by decide) h
    · refine z_iconst C (pc := 27) (x := (0 : Int32)) dX9_lacks_27 kic_0 ?_
      exact z_iret C (pc := 28) T dX9_lacks_28 (by decide) (by decide) h
  · refine z_iload_n C (pc := 9) dX9_lacks_9 2 rfl ?_
    refine z_Si C (pc := 10) (KX := fun _ _ => False) (kc' := 0) (ks' := 0) (As := [.int x2]) (rest := [va_rf (some x0)]) (c_X9_isBadge l v S2 x2) mw_X9_isBadge bw_1131 bw_1132 (fit_of rfl) rfl rfl (Nat.le_of_ble_eq_true rfl) dX9_lacks_10 h (fun r33 S32 h => ?_) (fun En S9 h => h.elim)
    refine z_if_eq C (pc := 13) (tgt := 20) dX9_lacks_13 (by decide) h (fun h => ?_) (fun h => ?_)
    · refine z_iconst C (pc := 20) (x := (0 : Int32)) dX9_lacks_20 kic_0 ?_
      obtain ⟨o34, h⟩ := h
      refine z_Vi C (pc := 21) (KX := fun _ _ => False) (kc' := 0) (ks' := 0) (As := [.int (0 : Int32)]) (rest := []) rfl (c_X9_asks l v S32 x0 (0 : Int32)) mw_X9_asks bw_1017 bw_1019 bw_p30 (fit_of rfl) rfl rfl (Nat.le_of_ble_eq_true rfl) (by decide) rfl o34 dX9_lacks_21 h (fun r36 S35 h => ?_) (fun En S9 h => h.elim)
      refine z_if_ne C (pc := 24) (tgt := 29) dX9_lacks_24 (by decide) h (fun h => ?_) (fun h => ?_)
      · refine z_aload_n C (pc := 29) dX9_lacks_29 0 rfl ?_
        obtain ⟨o37, h⟩ := h
        refine z_getP C (pc := 30) kf9 17 (by decide) rfl bw_925 (fun _ _ _ _ h => h) dX9_lacks_30 rfl o37 ?_
        refine z_bipush C (pc := 33) (x := (8 : Int32)) dX9_lacks_33 kbp_8 ?_
        refine z_iload_n C (pc := 35) dX9_lacks_35 1 rfl ?_
        refine z_imul C (pc := 36) dX9_lacks_36 ?_
        refine z_iload_n C (pc := 37) dX9_lacks_37 2 rfl ?_
        refine z_iadd C (pc := 38) dX9_lacks_38 ?_
        obtain ⟨a38, e39, o40, h⟩ := h
        obtain ⟨v41, h⟩ := h
        refine z_iald C (pc := 39) dX9_lacks_39 e39 o40 v41 ?_
        refine z_iconst C (pc := 40) (x := (-1 : Int32)) dX9_lacks_40 kic_m1 ?_
        refine z_icmp_ne C (pc := 41) (tgt := 50) dX9_lacks_41 (by decide) h (fun h => ?_) (fun h => ?_)
        · refine z_aload_n C (pc := 50) dX9_lacks_50 0 rfl ?_
          refine z_getP C (pc := 51) kf9 24 (by decide) rfl bw_932 (fun _ _ _ _ h => h) dX9_lacks_51 rfl o37 ?_
          refine z_bipush C (pc := 54) (x := (18 : Int32)) dX9_lacks_54 kbp_18 ?_
          refine z_iload_n C (pc := 56) dX9_lacks_56 2 rfl ?_
          refine z_imul C (pc := 57) dX9_lacks_57 ?_
          refine z_bipush C (pc := 58) (x := (6 : Int32)) dX9_lacks_58 kbp_6 ?_
          refine z_aload_n C (pc := 60) dX9_lacks_60 0 rfl ?_
          refine z_getP C (pc := 61) kf9 18 (by decide) rfl bw_926 (fun _ _ _ _ h => h) dX9_lacks_61 rfl o37 ?_
          refine z_bipush C (pc := 64) (x := (8 : Int32)) dX9_lacks_64 kbp_8 ?_
          refine z_iload_n C (pc := 66) dX9_lacks_66 1 rfl ?_
          refine z_imul C (pc := 67) dX9_lacks_67 ?_
          refine z_iload_n C (pc := 68) dX9_lacks_68 2 rfl ?_
          refine z_iadd C (pc := 69) dX9_lacks_69 ?_
          obtain ⟨a42, e43, o44, h⟩ := h
          obtain ⟨v45, h⟩ := h
          refine z_iald C (pc := 70) dX9_lacks_70 e43 o44 v45 ?_
          refine z_imul C (pc := 71) dX9_lacks_71 ?_
          refine z_iadd C (pc := 72) dX9_lacks_72 ?_
          obtain ⟨a46, e47, o48, h⟩ := h
          obtain ⟨v49, h⟩ := h
          refine z_iald C (pc := 73) dX9_lacks_73 e47 o48 v49 ?_
          refine z_nI h (fun y50 h => ?_)
          refine z_istore_n C (pc := 74) (lv' := [(3, .int y50), (0, va_rf (some x0)), (1, .int x1), (2, .int x2)]) dX9_lacks_74 (by decide) rfl ?_
          refine z_iconst C (pc := 75) (x := (0 : Int32)) dX9_lacks_75 kic_0 ?_
          refine z_istore C (pc := 76) (lv' := [(4, .int (0 : Int32)), (3, .int y50), (0, va_rf (some x0)), (1, .int x1), (2, .int x2)]) dX9_lacks_76 (by decide) rfl ?_
          refine z_iconst C (pc := 78) (x := (0 : Int32)) dX9_lacks_78 kic_0 ?_
          refine z_istore C (pc := 79) (lv' := [(5, .int (0 : Int32)), (4, .int (0 : Int32)), (3, .int y50), (0, va_rf (some x0)), (1, .int x1), (2, .int x2)]) dX9_lacks_79 (by decide) rfl ?_
          obtain ⟨n51, h⟩ := h
          refine z_sub [3, 4, 5, 2, 1, 0] (lv' := [(0, va_rf (some x0)), (1, .int x1), (2, .int x2), (3, .int y50), (4, .int (0 : Int32)), (5, .int (0 : Int32))]) rfl ?_
          exact l_X9_lacks_L81 l v x0 x1 x2 y50 Q C N T n51 S35 (0 : Int32) (0 : Int32) h
        · refine z_aload_n C (pc := 44) dX9_lacks_44 0 rfl ?_
          refine z_iconst C (pc := 45) (x := (2 : Int32)) dX9_lacks_45 kic_2 ?_
          refine z_Vi C (pc := 46) (KX := fun _ _ => False) (kc' := 0) (ks' := 0) (As := [.int (2 : Int32)]) (rest := []) rfl (c_X9_fails l v S35 x0 (2 : Int32)) mw_X9_fails bw_1021 bw_1023 bw_p31 (fit_of rfl) rfl rfl (Nat.le_of_ble_eq_true rfl) (by decide) rfl o37 dX9_lacks_46 h (fun r53 S52 h => ?_) (fun En S9 h => h.elim)
          exact z_iret C (pc := 49) T dX9_lacks_49 (by decide) (by decide) h
      · refine z_iconst C (pc := 27) (x := (0 : Int32)) dX9_lacks_27 kic_0 ?_
        exact z_iret C (pc := 28) T dX9_lacks_28 (by decide) (by decide) h
    · refine z_iconst C (pc := 16) (x := (1 : Int32)) dX9_lacks_16 kic_1 ?_
      refine z_goto C (pc := 17) (tgt := 21) dX9_lacks_17 (by decide) ?_
      obtain ⟨o54, h⟩ := h
      refine z_Vi C (pc := 21) (KX := fun _ _ => False) (kc' := 0) (ks' := 0) (As := [.int (1 : Int32)]) (rest := []) rfl (c_X9_asks l v S32 x0 (1 : Int32)) mw_X9_asks bw_1017 bw_1019 bw_p30 (fit_of rfl) rfl rfl (Nat.le_of_ble_eq_true rfl) (by decide) rfl o54 dX9_lacks_21 h (fun r56 S55 h => ?_) (fun En S9 h => h.elim)
      refine z_if_ne C (pc := 24) (tgt := 29) dX9_lacks_24 (by decide) h (fun h => ?_) (fun h => ?_)
      · refine z_aload_n C (pc := 29) dX9_lacks_29 0 rfl ?_
        obtain ⟨o57, h⟩ := h
        refine z_getP C (pc := 30) kf9 17 (by decide) rfl bw_925 (fun _ _ _ _ h => h) dX9_lacks_30 rfl o57 ?_
        refine z_bipush C (pc := 33) (x := (8 : Int32)) dX9_lacks_33 kbp_8 ?_
        refine z_iload_n C (pc := 35) dX9_lacks_35 1 rfl ?_
        refine z_imul C (pc := 36) dX9_lacks_36 ?_
        refine z_iload_n C (pc := 37) dX9_lacks_37 2 rfl ?_
        refine z_iadd C (pc := 38) dX9_lacks_38 ?_
        obtain ⟨a58, e59, o60, h⟩ := h
        obtain ⟨v61, h⟩ := h
        refine z_iald C (pc := 39) dX9_lacks_39 e59 o60 v61 ?_
        refine z_iconst C (pc := 40) (x := (-1 : Int32)) dX9_lacks_40 kic_m1 ?_
        refine z_icmp_ne C (pc := 41) (tgt := 50) dX9_lacks_41 (by decide) h (fun h => ?_) (fun h => ?_)
        · refine z_aload_n C (pc := 50) dX9_lacks_50 0 rfl ?_
          refine z_getP C (pc := 51) kf9 24 (by decide) rfl bw_932 (fun _ _ _ _ h => h) dX9_lacks_51 rfl o57 ?_
          refine z_bipush C (pc := 54) (x := (18 : Int32)) dX9_lacks_54 kbp_18 ?_
          refine z_iload_n C (pc := 56) dX9_lacks_56 2 rfl ?_
          refine z_imul C (pc := 57) dX9_lacks_57 ?_
          refine z_bipush C (pc := 58) (x := (6 : Int32)) dX9_lacks_58 kbp_6 ?_
          refine z_aload_n C (pc := 60) dX9_lacks_60 0 rfl ?_
          refine z_getP C (pc := 61) kf9 18 (by decide) rfl bw_926 (fun _ _ _ _ h => h) dX9_lacks_61 rfl o57 ?_
          refine z_bipush C (pc := 64) (x := (8 : Int32)) dX9_lacks_64 kbp_8 ?_
          refine z_iload_n C (pc := 66) dX9_lacks_66 1 rfl ?_
          refine z_imul C (pc := 67) dX9_lacks_67 ?_
          refine z_iload_n C (pc := 68) dX9_lacks_68 2 rfl ?_
          refine z_iadd C (pc := 69) dX9_lacks_69 ?_
          obtain ⟨a62, e63, o64, h⟩ := h
          obtain ⟨v65, h⟩ := h
          refine z_iald C (pc := 70) dX9_lacks_70 e63 o64 v65 ?_
          refine z_imul C (pc := 71) dX9_lacks_71 ?_
          refine z_iadd C (pc := 72) dX9_lacks_72 ?_
          obtain ⟨a66, e67, o68, h⟩ := h
          obtain ⟨v69, h⟩ := h
          refine z_iald C (pc := 73) dX9_lacks_73 e67 o68 v69 ?_
          refine z_nI h (fun y70 h => ?_)
          refine z_istore_n C (pc := 74) (lv' := [(3, .int y70), (0, va_rf (some x0)), (1, .int x1), (2, .int x2)]) dX9_lacks_74 (by decide) rfl ?_
          refine z_iconst C (pc := 75) (x := (0 : Int32)) dX9_lacks_75 kic_0 ?_
          refine z_istore C (pc := 76) (lv' := [(4, .int (0 : Int32)), (3, .int y70), (0, va_rf (some x0)), (1, .int x1), (2, .int x2)]) dX9_lacks_76 (by decide) rfl ?_
          refine z_iconst C (pc := 78) (x := (0 : Int32)) dX9_lacks_78 kic_0 ?_
          refine z_istore C (pc := 79) (lv' := [(5, .int (0 : Int32)), (4, .int (0 : Int32)), (3, .int y70), (0, va_rf (some x0)), (1, .int x1), (2, .int x2)]) dX9_lacks_79 (by decide) rfl ?_
          obtain ⟨n71, h⟩ := h
          refine z_sub [3, 4, 5, 2, 1, 0] (lv' := [(0, va_rf (some x0)), (1, .int x1), (2, .int x2), (3, .int y70), (4, .int (0 : Int32)), (5, .int (0 : Int32))]) rfl ?_
          exact l_X9_lacks_L81 l v x0 x1 x2 y70 Q C N T n71 S55 (0 : Int32) (0 : Int32) h
        · refine z_aload_n C (pc := 44) dX9_lacks_44 0 rfl ?_
          refine z_iconst C (pc := 45) (x := (2 : Int32)) dX9_lacks_45 kic_2 ?_
          refine z_Vi C (pc := 46) (KX := fun _ _ => False) (kc' := 0) (ks' := 0) (As := [.int (2 : Int32)]) (rest := []) rfl (c_X9_fails l v S55 x0 (2 : Int32)) mw_X9_fails bw_1021 bw_1023 bw_p31 (fit_of rfl) rfl rfl (Nat.le_of_ble_eq_true rfl) (by decide) rfl o57 dX9_lacks_46 h (fun r73 S72 h => ?_) (fun En S9 h => h.elim)
          exact z_iret C (pc := 49) T dX9_lacks_49 (by decide) (by decide) h
      · refine z_iconst C (pc := 27) (x := (0 : Int32)) dX9_lacks_27 kic_0 ?_
        exact z_iret C (pc := 28) T dX9_lacks_28 (by decide) (by decide) h
