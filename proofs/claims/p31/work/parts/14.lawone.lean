def wp_L_some (S : Hp) (x0 : Int32) (x1 : Int32) (Q : Int32 → Hp → Prop) : Prop :=
  ¬ x1 = 0 ∧ (Q (((x0.toUInt32 >>> ((1 : Int32).toUInt32 &&& Int32.toUInt32 31)).toInt32) - ((x0.toUInt32 >>> ((1 : Int32).toUInt32 &&& Int32.toUInt32 31)).toInt32) / x1 * x1) S)
def rm_L_some : Room := { frames := 0, cells := 0, slots := 0, locals := 0 }
set_option maxHeartbeats 4000000 in
set_option maxRecDepth 100000 in
theorem c_L_some (l : Launch) (v : Ev) (S : Hp) (x0 : Int32) (x1 : Int32) : CI l v yL_some cL_some 2 (some .int) rm_L_some [.int x0, .int x1] S (fun Q _ => wp_L_some S x0 x1 Q) := by
  intro Q EQ h
  refine z_start [(0, .int x0), (1, .int x1)] (by decide +kernel) (by simp only [la_i, la_r, la_n]) (cat_ci (cat_ci cat_nil)) (by simp only [ls_i, ls_r, ls_n]; decide) (fun z C N T => ?_)
  unfold wp_L_some at h
  refine z_iload_n C (pc := 0) dL_some_0 0 rfl ?_
  refine z_iconst C (pc := 1) (x := (1 : Int32)) dL_some_1 kic_1 ?_
  refine z_iushr C (pc := 2) dL_some_2 ?_
  refine z_iload_n C (pc := 3) dL_some_3 1 rfl ?_
  obtain ⟨n1, h⟩ := h
  refine z_irem C (pc := 4) dL_some_4 n1 ?_
  exact z_iret C (pc := 5) T dL_some_5 (by decide) (by decide) h
def wp_L_does (S : Hp) (x0 : Nat) (x1 : Int32) (x2 : Int32) (x3 : Int32) (x4 : Int32) (x5 : Int32) (Q : Int32 → Hp → Prop) (EQ : String → Hp → Prop) : Prop :=
  if x1 = (0 : Int32) then (okA S 8 x0 ∧ (wp_X8_troop S x0 x2 x3 x4 (fun r3 S2 => Q r3 S2) EQ)) else (if x1 = (1 : Int32) then (okA S 8 x0 ∧ (wp_X8_child S x0 x2 (fun r7 S6 => Q r7 S6) EQ)) else (if x1 = (2 : Int32) then (okA S 8 x0 ∧ (wp_X8_join S x0 x2 x3 (fun r11 S10 => Q r11 S10) EQ)) else (if x1 = (3 : Int32) then (okA S 8 x0 ∧ (wp_X8_leave S x0 x2 (fun r15 S14 => Q r15 S14) EQ)) else (if x1 = (4 : Int32) then (okA S 8 x0 ∧ (wp_X8_patrol S x0 x2 x3 (fun r19 S18 => Q r19 S18) EQ)) else (if x1 = (5 : Int32) then (okA S 8 x0 ∧ (wp_X8_duty S x0 x2 x3 (fun r23 S22 => Q r23 S22) EQ)) else (if x1 = (6 : Int32) then (okA S 8 x0 ∧ (wp_X8_pass S x0 x2 (fun r27 S26 => Q r27 S26) EQ)) else (if x1 = (7 : Int32) then (okA S 8 x0 ∧ (wp_X8_season S x0 (fun r31 S30 => Q r31 S30))) else (if x1 = (8 : Int32) then (okA S 8 x0 ∧ (wp_X8_leader S x0 (fun r35 S34 => Q r35 S34) EQ)) else (if x1 = (9 : Int32) then (okA S 8 x0 ∧ (wp_X8_vet S x0 x2 x3 x4 x5 (fun S38 => Q (0 : Int32) S38) EQ)) else (if x1 = (10 : Int32) then (okA S 8 x0 ∧ (wp_X8_permit S x0 x2 x3 x4 (fun r42 S41 => Q r42 S41) EQ)) else (if x1 = (11 : Int32) then (okA S 8 x0 ∧ (wp_X8_teach S x0 x2 x3 (fun r46 S45 => Q r46 S45) EQ)) else (if x1 = (12 : Int32) then (okA S 8 x0 ∧ (wp_X8_begin S x0 x2 x3 (fun r50 S49 => Q r50 S49) EQ)) else (if x1 = (13 : Int32) then (okA S 8 x0 ∧ (wp_X8_prove S x0 x2 x3 x4 (fun r54 S53 => Q r54 S53) EQ)) else (if x1 = (14 : Int32) then (if x4 = (1 : Int32) then (okA S 8 x0 ∧ (wp_X8_staff S x0 x2 x3 (1 : Int32) (fun r61 S60 => Q r61 S60) EQ)) else (okA S 8 x0 ∧ (wp_X8_staff S x0 x2 x3 (0 : Int32) (fun r58 S57 => Q r58 S57) EQ))) else (if x1 = (15 : Int32) then (okA S 8 x0 ∧ (wp_X8_why S x0 x2 (fun r65 S64 => Q r65 S64) EQ)) else (if x1 = (16 : Int32) then (okA S 8 x0 ∧ (wp_X8_couldStaff S x0 x2 x3 x4 (fun r69 S68 => if r69 = 0 then (Q (0 : Int32) S68) else (Q (1 : Int32) S68)) EQ)) else (if x1 = (17 : Int32) then (okA S 8 x0 ∧ (wp_X8_boxes S x0 x2 x3 (fun r73 S72 => Q r73 S72) EQ)) else (if x1 = (18 : Int32) then (okA S 8 x0 ∧ (wp_X8_pay S x0 x2 x3 (fun r77 S76 => Q r77 S76) EQ)) else (if x1 = (19 : Int32) then (okA S 8 x0 ∧ (wp_X8_owed S x0 x2 (fun r81 S80 => Q r81 S80) EQ)) else (if x1 = (20 : Int32) then (okA S 8 x0 ∧ (wp_X8_ofChild S x0 x2 x3 (fun r85 S84 => Q r85 S84) EQ)) else (if x1 = (21 : Int32) then (if x3 = (1 : Int32) then (okA S 8 x0 ∧ (wp_X8_ofTroop S x0 x2 (1 : Int32) (fun r92 S91 => Q r92 S91) EQ)) else (okA S 8 x0 ∧ (wp_X8_ofTroop S x0 x2 (0 : Int32) (fun r89 S88 => Q r89 S88) EQ))) else (if x1 = (22 : Int32) then (okA S 8 x0 ∧ (wp_X8_earned S x0 x2 x3 (fun r96 S95 => Q r96 S95) EQ)) else (if x1 = (23 : Int32) then (okA S 8 x0 ∧ (wp_X8_holds S x0 x2 x3 (fun r100 S99 => if r100 = 0 then (Q (0 : Int32) S99) else (Q (1 : Int32) S99)) EQ)) else (okA S 8 x0 ∧ (wp_X8_lacks S x0 x2 x3 (fun r104 S103 => Q r104 S103) EQ)))))))))))))))))))))))))
def rm_L_does : Room := { frames := 9, cells := 46, slots := 1470, locals := 278 }
set_option maxHeartbeats 8000000 in
set_option maxRecDepth 100000 in
theorem c_L_does (l : Launch) (hfl : l.stackTraces = false) (v : Ev) (S : Hp) (x0 : Nat) (x1 : Int32) (x2 : Int32) (x3 : Int32) (x4 : Int32) (x5 : Int32) : CI l v yL_does cL_does 6 (some .int) rm_L_does [va_rf (some x0), .int x1, .int x2, .int x3, .int x4, .int x5] S (fun Q EQ => wp_L_does S x0 x1 x2 x3 x4 x5 Q EQ) := by
  intro Q EQ h
  refine z_start [(0, va_rf (some x0)), (1, .int x1), (2, .int x2), (3, .int x3), (4, .int x4), (5, .int x5)] (by decide +kernel) (by simp only [la_i, la_r, la_n]) (cat_cr (cat_ci (cat_ci (cat_ci (cat_ci (cat_ci cat_nil)))))) (by simp only [ls_i, ls_r, ls_n]; decide) (fun z C N T => ?_)
  unfold wp_L_does at h
  refine z_iload_n C (pc := 0) dL_does_0 1 rfl ?_
  refine z_swc C (pc := 1) (x := x1) (c := (0 : Int32)) dL_does_1 h (by decide) (by decide) rfl (tgt := 112) (by decide) (fun h => ?_) (fun n4 h => ?_)
  · refine z_aload_n C (pc := 112) dL_does_112 0 rfl ?_
    refine z_iload_n C (pc := 113) dL_does_113 2 rfl ?_
    refine z_iload_n C (pc := 114) dL_does_114 3 rfl ?_
    refine z_iload C (pc := 115) dL_does_115 4 rfl ?_
    obtain ⟨o1, h⟩ := h
    refine z_Vi C (pc := 117) (kc' := 6) (ks' := 92) (As := [.int x2, .int x3, .int x4]) (rest := []) rfl (c_X8_troop l hfl v S x0 x2 x3 x4) mw_X8_troop bw_376 bw_377 bw_378 (fit_of rfl) rfl rfl (Nat.le_of_ble_eq_true rfl) (by decide) rfl o1 dL_does_117 h (fun r3 S2 h => ?_) (fun En S9 h => z_out C T N (by decide) (by decide) h)
    exact z_iret C (pc := 120) T dL_does_120 (by decide) (by decide) h
  refine z_swc C (pc := 1) (x := x1) (c := (1 : Int32)) dL_does_1 h (by decide) (by decide) rfl (tgt := 121) (by decide) (fun h => ?_) (fun n8 h => ?_)
  · refine z_aload_n C (pc := 121) dL_does_121 0 rfl ?_
    refine z_iload_n C (pc := 122) dL_does_122 2 rfl ?_
    obtain ⟨o5, h⟩ := h
    refine z_Vi C (pc := 123) (kc' := 7) (ks' := 130) (As := [.int x2]) (rest := []) rfl (c_X8_child l hfl v S x0 x2) mw_X8_child bw_479 bw_480 bw_481 (fit_of rfl) rfl rfl (Nat.le_of_ble_eq_true rfl) (by decide) rfl o5 dL_does_123 h (fun r7 S6 h => ?_) (fun En S9 h => z_out C T N (by decide) (by decide) h)
    exact z_iret C (pc := 126) T dL_does_126 (by decide) (by decide) h
  refine z_swc C (pc := 1) (x := x1) (c := (2 : Int32)) dL_does_1 h (by decide) (by decide) rfl (tgt := 127) (by decide) (fun h => ?_) (fun n12 h => ?_)
  · refine z_aload_n C (pc := 127) dL_does_127 0 rfl ?_
    refine z_iload_n C (pc := 128) dL_does_128 2 rfl ?_
    refine z_iload_n C (pc := 129) dL_does_129 3 rfl ?_
    obtain ⟨o9, h⟩ := h
    refine z_Vi C (pc := 130) (kc' := 3) (ks' := 18) (As := [.int x2, .int x3]) (rest := []) rfl (c_X8_join l hfl v S x0 x2 x3) mw_X8_join bw_541 bw_542 bw_543 (fit_of rfl) rfl rfl (Nat.le_of_ble_eq_true rfl) (by decide) rfl o9 dL_does_130 h (fun r11 S10 h => ?_) (fun En S9 h => z_out C T N (by decide) (by decide) h)
    exact z_iret C (pc := 133) T dL_does_133 (by decide) (by decide) h
  refine z_swc C (pc := 1) (x := x1) (c := (3 : Int32)) dL_does_1 h (by decide) (by decide) rfl (tgt := 134) (by decide) (fun h => ?_) (fun n16 h => ?_)
  · refine z_aload_n C (pc := 134) dL_does_134 0 rfl ?_
    refine z_iload_n C (pc := 135) dL_does_135 2 rfl ?_
    obtain ⟨o13, h⟩ := h
    refine z_Vi C (pc := 136) (kc' := 2) (ks' := 12) (As := [.int x2]) (rest := []) rfl (c_X8_leave l hfl v S x0 x2) mw_X8_leave bw_563 bw_564 bw_565 (fit_of rfl) rfl rfl (Nat.le_of_ble_eq_true rfl) (by decide) rfl o13 dL_does_136 h (fun r15 S14 h => ?_) (fun En S9 h => z_out C T N (by decide) (by decide) h)
    exact z_iret C (pc := 139) T dL_does_139 (by decide) (by decide) h
  refine z_swc C (pc := 1) (x := x1) (c := (4 : Int32)) dL_does_1 h (by decide) (by decide) rfl (tgt := 140) (by decide) (fun h => ?_) (fun n20 h => ?_)
  · refine z_aload_n C (pc := 140) dL_does_140 0 rfl ?_
    refine z_iload_n C (pc := 141) dL_does_141 2 rfl ?_
    refine z_iload_n C (pc := 142) dL_does_142 3 rfl ?_
    obtain ⟨o17, h⟩ := h
    refine z_Vi C (pc := 143) (kc' := 3) (ks' := 18) (As := [.int x2, .int x3]) (rest := []) rfl (c_X8_patrol l hfl v S x0 x2 x3) mw_X8_patrol bw_580 bw_581 bw_582 (fit_of rfl) rfl rfl (Nat.le_of_ble_eq_true rfl) (by decide) rfl o17 dL_does_143 h (fun r19 S18 h => ?_) (fun En S9 h => z_out C T N (by decide) (by decide) h)
    exact z_iret C (pc := 146) T dL_does_146 (by decide) (by decide) h
  refine z_swc C (pc := 1) (x := x1) (c := (5 : Int32)) dL_does_1 h (by decide) (by decide) rfl (tgt := 147) (by decide) (fun h => ?_) (fun n24 h => ?_)
  · refine z_aload_n C (pc := 147) dL_does_147 0 rfl ?_
    refine z_iload_n C (pc := 148) dL_does_148 2 rfl ?_
    refine z_iload_n C (pc := 149) dL_does_149 3 rfl ?_
    obtain ⟨o21, h⟩ := h
    refine z_Vi C (pc := 150) (kc' := 2) (ks' := 12) (As := [.int x2, .int x3]) (rest := []) rfl (c_X8_duty l hfl v S x0 x2 x3) mw_X8_duty bw_277 bw_278 bw_279 (fit_of rfl) rfl rfl (Nat.le_of_ble_eq_true rfl) (by decide) rfl o21 dL_does_150 h (fun r23 S22 h => ?_) (fun En S9 h => z_out C T N (by decide) (by decide) h)
    exact z_iret C (pc := 153) T dL_does_153 (by decide) (by decide) h
  refine z_swc C (pc := 1) (x := x1) (c := (6 : Int32)) dL_does_1 h (by decide) (by decide) rfl (tgt := 154) (by decide) (fun h => ?_) (fun n28 h => ?_)
  · refine z_aload_n C (pc := 154) dL_does_154 0 rfl ?_
    refine z_iload_n C (pc := 155) dL_does_155 2 rfl ?_
    obtain ⟨o25, h⟩ := h
    refine z_Vi C (pc := 156) (kc' := 2) (ks' := 12) (As := [.int x2]) (rest := []) rfl (c_X8_pass l hfl v S x0 x2) mw_X8_pass bw_585 bw_586 bw_587 (fit_of rfl) rfl rfl (Nat.le_of_ble_eq_true rfl) (by decide) rfl o25 dL_does_156 h (fun r27 S26 h => ?_) (fun En S9 h => z_out C T N (by decide) (by decide) h)
    exact z_iret C (pc := 159) T dL_does_159 (by decide) (by decide) h
  refine z_swc C (pc := 1) (x := x1) (c := (7 : Int32)) dL_does_1 h (by decide) (by decide) rfl (tgt := 160) (by decide) (fun h => ?_) (fun n32 h => ?_)
  · refine z_aload_n C (pc := 160) dL_does_160 0 rfl ?_
    obtain ⟨o29, h⟩ := h
    refine z_Vi C (pc := 161) (KX := fun _ _ => False) (kc' := 0) (ks' := 0) (As := []) (rest := []) rfl (c_X8_season l v S x0) mw_X8_season bw_590 bw_591 bw_592 (fit_of rfl) rfl rfl (Nat.le_of_ble_eq_true rfl) (by decide) rfl o29 dL_does_161 h (fun r31 S30 h => ?_) (fun En S9 h => h.elim)
    exact z_iret C (pc := 164) T dL_does_164 (by decide) (by decide) h
  refine z_swc C (pc := 1) (x := x1) (c := (8 : Int32)) dL_does_1 h (by decide) (by decide) rfl (tgt := 165) (by decide) (fun h => ?_) (fun n36 h => ?_)
  · refine z_aload_n C (pc := 165) dL_does_165 0 rfl ?_
    obtain ⟨o33, h⟩ := h
    refine z_Vi C (pc := 166) (kc' := 6) (ks' := 84) (As := []) (rest := []) rfl (c_X8_leader l hfl v S x0) mw_X8_leader bw_614 bw_615 bw_616 (fit_of rfl) rfl rfl (Nat.le_of_ble_eq_true rfl) (by decide) rfl o33 dL_does_166 h (fun r35 S34 h => ?_) (fun En S9 h => z_out C T N (by decide) (by decide) h)
    exact z_iret C (pc := 169) T dL_does_169 (by decide) (by decide) h
  refine z_swc C (pc := 1) (x := x1) (c := (9 : Int32)) dL_does_1 h (by decide) (by decide) rfl (tgt := 170) (by decide) (fun h => ?_) (fun n39 h => ?_)
  · refine z_aload_n C (pc := 170) dL_does_170 0 rfl ?_
    refine z_iload_n C (pc := 171) dL_does_171 2 rfl ?_
    refine z_iload_n C (pc := 172) dL_does_172 3 rfl ?_
    refine z_iload C (pc := 173) dL_does_173 4 rfl ?_
    refine z_iload C (pc := 175) dL_does_175 5 rfl ?_
    obtain ⟨o37, h⟩ := h
    refine z_Vv C (pc := 177) (kc' := 4) (ks' := 24) (As := [.int x2, .int x3, .int x4, .int x5]) (rest := []) rfl (c_X8_vet l hfl v S x0 x2 x3 x4 x5) mw_X8_vet bw_636 bw_637 bw_638 (fit_of rfl) rfl rfl (Nat.le_of_ble_eq_true rfl) (by decide) rfl o37 dL_does_177 h (fun S38 h => ?_) (fun En S9 h => z_out C T N (by decide) (by decide) h)
    refine z_iconst C (pc := 180) (x := (0 : Int32)) dL_does_180 kic_0 ?_
    exact z_iret C (pc := 181) T dL_does_181 (by decide) (by decide) h
  refine z_swc C (pc := 1) (x := x1) (c := (10 : Int32)) dL_does_1 h (by decide) (by decide) rfl (tgt := 182) (by decide) (fun h => ?_) (fun n43 h => ?_)
  · refine z_aload_n C (pc := 182) dL_does_182 0 rfl ?_
    refine z_iload_n C (pc := 183) dL_does_183 2 rfl ?_
    refine z_iload_n C (pc := 184) dL_does_184 3 rfl ?_
    refine z_iload C (pc := 185) dL_does_185 4 rfl ?_
    obtain ⟨o40, h⟩ := h
    refine z_Vi C (pc := 187) (kc' := 3) (ks' := 18) (As := [.int x2, .int x3, .int x4]) (rest := []) rfl (c_X8_permit l hfl v S x0 x2 x3 x4) mw_X8_permit bw_648 bw_649 bw_650 (fit_of rfl) rfl rfl (Nat.le_of_ble_eq_true rfl) (by decide) rfl o40 dL_does_187 h (fun r42 S41 h => ?_) (fun En S9 h => z_out C T N (by decide) (by decide) h)
    exact z_iret C (pc := 190) T dL_does_190 (by decide) (by decide) h
  refine z_swc C (pc := 1) (x := x1) (c := (11 : Int32)) dL_does_1 h (by decide) (by decide) rfl (tgt := 191) (by decide) (fun h => ?_) (fun n47 h => ?_)
  · refine z_aload_n C (pc := 191) dL_does_191 0 rfl ?_
    refine z_iload_n C (pc := 192) dL_does_192 2 rfl ?_
    refine z_iload_n C (pc := 193) dL_does_193 3 rfl ?_
    obtain ⟨o44, h⟩ := h
    refine z_Vi C (pc := 194) (kc' := 2) (ks' := 12) (As := [.int x2, .int x3]) (rest := []) rfl (c_X8_teach l hfl v S x0 x2 x3) mw_X8_teach bw_657 bw_658 bw_659 (fit_of rfl) rfl rfl (Nat.le_of_ble_eq_true rfl) (by decide) rfl o44 dL_does_194 h (fun r46 S45 h => ?_) (fun En S9 h => z_out C T N (by decide) (by decide) h)
    exact z_iret C (pc := 197) T dL_does_197 (by decide) (by decide) h
  refine z_swc C (pc := 1) (x := x1) (c := (12 : Int32)) dL_does_1 h (by decide) (by decide) rfl (tgt := 198) (by decide) (fun h => ?_) (fun n51 h => ?_)
  · refine z_aload_n C (pc := 198) dL_does_198 0 rfl ?_
    refine z_iload_n C (pc := 199) dL_does_199 2 rfl ?_
    refine z_iload_n C (pc := 200) dL_does_200 3 rfl ?_
    obtain ⟨o48, h⟩ := h
    refine z_Vi C (pc := 201) (kc' := 3) (ks' := 18) (As := [.int x2, .int x3]) (rest := []) rfl (c_X8_begin l hfl v S x0 x2 x3) mw_X8_begin bw_662 bw_663 bw_664 (fit_of rfl) rfl rfl (Nat.le_of_ble_eq_true rfl) (by decide) rfl o48 dL_does_201 h (fun r50 S49 h => ?_) (fun En S9 h => z_out C T N (by decide) (by decide) h)
    exact z_iret C (pc := 204) T dL_does_204 (by decide) (by decide) h
  refine z_swc C (pc := 1) (x := x1) (c := (13 : Int32)) dL_does_1 h (by decide) (by decide) rfl (tgt := 205) (by decide) (fun h => ?_) (fun n55 h => ?_)
  · refine z_aload_n C (pc := 205) dL_does_205 0 rfl ?_
    refine z_iload_n C (pc := 206) dL_does_206 2 rfl ?_
    refine z_iload_n C (pc := 207) dL_does_207 3 rfl ?_
    refine z_iload C (pc := 208) dL_does_208 4 rfl ?_
    obtain ⟨o52, h⟩ := h
    refine z_Vi C (pc := 210) (kc' := 4) (ks' := 24) (As := [.int x2, .int x3, .int x4]) (rest := []) rfl (c_X8_prove l hfl v S x0 x2 x3 x4) mw_X8_prove bw_711 bw_712 bw_713 (fit_of rfl) rfl rfl (Nat.le_of_ble_eq_true rfl) (by decide) rfl o52 dL_does_210 h (fun r54 S53 h => ?_) (fun En S9 h => z_out C T N (by decide) (by decide) h)
    exact z_iret C (pc := 213) T dL_does_213 (by decide) (by decide) h
  refine z_swc C (pc := 1) (x := x1) (c := (14 : Int32)) dL_does_1 h (by decide) (by decide) rfl (tgt := 214) (by decide) (fun h => ?_) (fun n62 h => ?_)
  · refine z_aload_n C (pc := 214) dL_does_214 0 rfl ?_
    refine z_iload_n C (pc := 215) dL_does_215 2 rfl ?_
    refine z_iload_n C (pc := 216) dL_does_216 3 rfl ?_
    refine z_iload C (pc := 217) dL_does_217 4 rfl ?_
    refine z_iconst C (pc := 219) (x := (1 : Int32)) dL_does_219 kic_1 ?_
    refine z_icmp_ne C (pc := 220) (tgt := 227) dL_does_220 (by decide) h (fun h => ?_) (fun h => ?_)
    · refine z_iconst C (pc := 227) (x := (0 : Int32)) dL_does_227 kic_0 ?_
      obtain ⟨o56, h⟩ := h
      refine z_Vi C (pc := 228) (kc' := 3) (ks' := 18) (As := [.int x2, .int x3, .int (0 : Int32)]) (rest := []) rfl (c_X8_staff l hfl v S x0 x2 x3 (0 : Int32)) mw_X8_staff bw_727 bw_728 bw_729 (fit_of rfl) rfl rfl (Nat.le_of_ble_eq_true rfl) (by decide) rfl o56 dL_does_228 h (fun r58 S57 h => ?_) (fun En S9 h => z_out C T N (by decide) (by decide) h)
      exact z_iret C (pc := 231) T dL_does_231 (by decide) (by decide) h
    · refine z_iconst C (pc := 223) (x := (1 : Int32)) dL_does_223 kic_1 ?_
      refine z_goto C (pc := 224) (tgt := 228) dL_does_224 (by decide) ?_
      obtain ⟨o59, h⟩ := h
      refine z_Vi C (pc := 228) (kc' := 3) (ks' := 18) (As := [.int x2, .int x3, .int (1 : Int32)]) (rest := []) rfl (c_X8_staff l hfl v S x0 x2 x3 (1 : Int32)) mw_X8_staff bw_727 bw_728 bw_729 (fit_of rfl) rfl rfl (Nat.le_of_ble_eq_true rfl) (by decide) rfl o59 dL_does_228 h (fun r61 S60 h => ?_) (fun En S9 h => z_out C T N (by decide) (by decide) h)
      exact z_iret C (pc := 231) T dL_does_231 (by decide) (by decide) h
  refine z_swc C (pc := 1) (x := x1) (c := (15 : Int32)) dL_does_1 h (by decide) (by decide) rfl (tgt := 232) (by decide) (fun h => ?_) (fun n66 h => ?_)
  · refine z_aload_n C (pc := 232) dL_does_232 0 rfl ?_
    refine z_iload_n C (pc := 233) dL_does_233 2 rfl ?_
    obtain ⟨o63, h⟩ := h
    refine z_Vi C (pc := 234) (kc' := 2) (ks' := 11) (As := [.int x2]) (rest := []) rfl (c_X8_why l hfl v S x0 x2) mw_X8_why bw_298 bw_299 bw_300 (fit_of rfl) rfl rfl (Nat.le_of_ble_eq_true rfl) (by decide) rfl o63 dL_does_234 h (fun r65 S64 h => ?_) (fun En S9 h => z_out C T N (by decide) (by decide) h)
    exact z_iret C (pc := 237) T dL_does_237 (by decide) (by decide) h
  refine z_swc C (pc := 1) (x := x1) (c := (16 : Int32)) dL_does_1 h (by decide) (by decide) rfl (tgt := 238) (by decide) (fun h => ?_) (fun n70 h => ?_)
  · refine z_aload_n C (pc := 238) dL_does_238 0 rfl ?_
    refine z_iload_n C (pc := 239) dL_does_239 2 rfl ?_
    refine z_iload_n C (pc := 240) dL_does_240 3 rfl ?_
    refine z_iload C (pc := 241) dL_does_241 4 rfl ?_
    obtain ⟨o67, h⟩ := h
    refine z_Vi C (pc := 243) (kc' := 46) (ks' := 1470) (As := [.int x2, .int x3, .int x4]) (rest := []) rfl (c_X8_couldStaff l hfl v S x0 x2 x3 x4) mw_X8_couldStaff bw_740 bw_741 bw_742 (fit_of rfl) rfl rfl (Nat.le_of_ble_eq_true rfl) (by decide) rfl o67 dL_does_243 h (fun r69 S68 h => ?_) (fun En S9 h => z_out C T N (by decide) (by decide) h)
    refine z_if_eq C (pc := 246) (tgt := 253) dL_does_246 (by decide) h (fun h => ?_) (fun h => ?_)
    · refine z_iconst C (pc := 253) (x := (0 : Int32)) dL_does_253 kic_0 ?_
      exact z_iret C (pc := 254) T dL_does_254 (by decide) (by decide) h
    · refine z_iconst C (pc := 249) (x := (1 : Int32)) dL_does_249 kic_1 ?_
      refine z_goto C (pc := 250) (tgt := 254) dL_does_250 (by decide) ?_
      exact z_iret C (pc := 254) T dL_does_254 (by decide) (by decide) h
  refine z_swc C (pc := 1) (x := x1) (c := (17 : Int32)) dL_does_1 h (by decide) (by decide) rfl (tgt := 255) (by decide) (fun h => ?_) (fun n74 h => ?_)
  · refine z_aload_n C (pc := 255) dL_does_255 0 rfl ?_
    refine z_iload_n C (pc := 256) dL_does_256 2 rfl ?_
    refine z_iload_n C (pc := 257) dL_does_257 3 rfl ?_
    obtain ⟨o71, h⟩ := h
    refine z_Vi C (pc := 258) (kc' := 3) (ks' := 18) (As := [.int x2, .int x3]) (rest := []) rfl (c_X8_boxes l hfl v S x0 x2 x3) mw_X8_boxes bw_760 bw_761 bw_762 (fit_of rfl) rfl rfl (Nat.le_of_ble_eq_true rfl) (by decide) rfl o71 dL_does_258 h (fun r73 S72 h => ?_) (fun En S9 h => z_out C T N (by decide) (by decide) h)
    exact z_iret C (pc := 261) T dL_does_261 (by decide) (by decide) h
  refine z_swc C (pc := 1) (x := x1) (c := (18 : Int32)) dL_does_1 h (by decide) (by decide) rfl (tgt := 262) (by decide) (fun h => ?_) (fun n78 h => ?_)
  · refine z_aload_n C (pc := 262) dL_does_262 0 rfl ?_
    refine z_iload_n C (pc := 263) dL_does_263 2 rfl ?_
    refine z_iload_n C (pc := 264) dL_does_264 3 rfl ?_
    obtain ⟨o75, h⟩ := h
    refine z_Vi C (pc := 265) (kc' := 3) (ks' := 18) (As := [.int x2, .int x3]) (rest := []) rfl (c_X8_pay l hfl v S x0 x2 x3) mw_X8_pay bw_766 bw_767 bw_768 (fit_of rfl) rfl rfl (Nat.le_of_ble_eq_true rfl) (by decide) rfl o75 dL_does_265 h (fun r77 S76 h => ?_) (fun En S9 h => z_out C T N (by decide) (by decide) h)
    exact z_iret C (pc := 268) T dL_does_268 (by decide) (by decide) h
  refine z_swc C (pc := 1) (x := x1) (c := (19 : Int32)) dL_does_1 h (by decide) (by decide) rfl (tgt := 269) (by decide) (fun h => ?_) (fun n82 h => ?_)
  · refine z_aload_n C (pc := 269) dL_does_269 0 rfl ?_
    refine z_iload_n C (pc := 270) dL_does_270 2 rfl ?_
    obtain ⟨o79, h⟩ := h
    refine z_Vi C (pc := 271) (kc' := 1) (ks' := 6) (As := [.int x2]) (rest := []) rfl (c_X8_owed l hfl v S x0 x2) mw_X8_owed bw_273 bw_274 bw_275 (fit_of rfl) rfl rfl (Nat.le_of_ble_eq_true rfl) (by decide) rfl o79 dL_does_271 h (fun r81 S80 h => ?_) (fun En S9 h => z_out C T N (by decide) (by decide) h)
    exact z_iret C (pc := 274) T dL_does_274 (by decide) (by decide) h
  refine z_swc C (pc := 1) (x := x1) (c := (20 : Int32)) dL_does_1 h (by decide) (by decide) rfl (tgt := 275) (by decide) (fun h => ?_) (fun n86 h => ?_)
  · refine z_aload_n C (pc := 275) dL_does_275 0 rfl ?_
    refine z_iload_n C (pc := 276) dL_does_276 2 rfl ?_
    refine z_iload_n C (pc := 277) dL_does_277 3 rfl ?_
    obtain ⟨o83, h⟩ := h
    refine z_Vi C (pc := 278) (kc' := 2) (ks' := 12) (As := [.int x2, .int x3]) (rest := []) rfl (c_X8_ofChild l hfl v S x0 x2 x3) mw_X8_ofChild bw_113 bw_114 bw_115 (fit_of rfl) rfl rfl (Nat.le_of_ble_eq_true rfl) (by decide) rfl o83 dL_does_278 h (fun r85 S84 h => ?_) (fun En S9 h => z_out C T N (by decide) (by decide) h)
    exact z_iret C (pc := 281) T dL_does_281 (by decide) (by decide) h
  refine z_swc C (pc := 1) (x := x1) (c := (21 : Int32)) dL_does_1 h (by decide) (by decide) rfl (tgt := 282) (by decide) (fun h => ?_) (fun n93 h => ?_)
  · refine z_aload_n C (pc := 282) dL_does_282 0 rfl ?_
    refine z_iload_n C (pc := 283) dL_does_283 2 rfl ?_
    refine z_iload_n C (pc := 284) dL_does_284 3 rfl ?_
    refine z_iconst C (pc := 285) (x := (1 : Int32)) dL_does_285 kic_1 ?_
    refine z_icmp_ne C (pc := 286) (tgt := 293) dL_does_286 (by decide) h (fun h => ?_) (fun h => ?_)
    · refine z_iconst C (pc := 293) (x := (0 : Int32)) dL_does_293 kic_0 ?_
      obtain ⟨o87, h⟩ := h
      refine z_Vi C (pc := 294) (kc' := 1) (ks' := 6) (As := [.int x2, .int (0 : Int32)]) (rest := []) rfl (c_X8_ofTroop l hfl v S x0 x2 (0 : Int32)) mw_X8_ofTroop bw_256 bw_257 bw_258 (fit_of rfl) rfl rfl (Nat.le_of_ble_eq_true rfl) (by decide) rfl o87 dL_does_294 h (fun r89 S88 h => ?_) (fun En S9 h => z_out C T N (by decide) (by decide) h)
      exact z_iret C (pc := 297) T dL_does_297 (by decide) (by decide) h
    · refine z_iconst C (pc := 289) (x := (1 : Int32)) dL_does_289 kic_1 ?_
      refine z_goto C (pc := 290) (tgt := 294) dL_does_290 (by decide) ?_
      obtain ⟨o90, h⟩ := h
      refine z_Vi C (pc := 294) (kc' := 1) (ks' := 6) (As := [.int x2, .int (1 : Int32)]) (rest := []) rfl (c_X8_ofTroop l hfl v S x0 x2 (1 : Int32)) mw_X8_ofTroop bw_256 bw_257 bw_258 (fit_of rfl) rfl rfl (Nat.le_of_ble_eq_true rfl) (by decide) rfl o90 dL_does_294 h (fun r92 S91 h => ?_) (fun En S9 h => z_out C T N (by decide) (by decide) h)
      exact z_iret C (pc := 297) T dL_does_297 (by decide) (by decide) h
  refine z_swc C (pc := 1) (x := x1) (c := (22 : Int32)) dL_does_1 h (by decide) (by decide) rfl (tgt := 298) (by decide) (fun h => ?_) (fun n97 h => ?_)
  · refine z_aload_n C (pc := 298) dL_does_298 0 rfl ?_
    refine z_iload_n C (pc := 299) dL_does_299 2 rfl ?_
    refine z_iload_n C (pc := 300) dL_does_300 3 rfl ?_
    obtain ⟨o94, h⟩ := h
    refine z_Vi C (pc := 301) (kc' := 2) (ks' := 12) (As := [.int x2, .int x3]) (rest := []) rfl (c_X8_earned l hfl v S x0 x2 x3) mw_X8_earned bw_240 bw_241 bw_242 (fit_of rfl) rfl rfl (Nat.le_of_ble_eq_true rfl) (by decide) rfl o94 dL_does_301 h (fun r96 S95 h => ?_) (fun En S9 h => z_out C T N (by decide) (by decide) h)
    exact z_iret C (pc := 304) T dL_does_304 (by decide) (by decide) h
  refine z_swc C (pc := 1) (x := x1) (c := (23 : Int32)) dL_does_1 h (by decide) (by decide) rfl (tgt := 305) (by decide) (fun h => ?_) (fun n101 h => ?_)
  · refine z_aload_n C (pc := 305) dL_does_305 0 rfl ?_
    refine z_iload_n C (pc := 306) dL_does_306 2 rfl ?_
    refine z_iload_n C (pc := 307) dL_does_307 3 rfl ?_
    obtain ⟨o98, h⟩ := h
    refine z_Vi C (pc := 308) (kc' := 2) (ks' := 12) (As := [.int x2, .int x3]) (rest := []) rfl (c_X8_holds l hfl v S x0 x2 x3) mw_X8_holds bw_245 bw_246 bw_247 (fit_of rfl) rfl rfl (Nat.le_of_ble_eq_true rfl) (by decide) rfl o98 dL_does_308 h (fun r100 S99 h => ?_) (fun En S9 h => z_out C T N (by decide) (by decide) h)
    refine z_if_eq C (pc := 311) (tgt := 318) dL_does_311 (by decide) h (fun h => ?_) (fun h => ?_)
    · refine z_iconst C (pc := 318) (x := (0 : Int32)) dL_does_318 kic_0 ?_
      exact z_iret C (pc := 319) T dL_does_319 (by decide) (by decide) h
    · refine z_iconst C (pc := 314) (x := (1 : Int32)) dL_does_314 kic_1 ?_
      refine z_goto C (pc := 315) (tgt := 319) dL_does_315 (by decide) ?_
      exact z_iret C (pc := 319) T dL_does_319 (by decide) (by decide) h
  refine z_tabOut C (pc := 1) (tgt := 320) dL_does_1 (by have := lv_neT n4 (a := 0) rfl; have := lv_neT n8 (a := 1) rfl; have := lv_neT n12 (a := 2) rfl; have := lv_neT n16 (a := 3) rfl; have := lv_neT n20 (a := 4) rfl; have := lv_neT n24 (a := 5) rfl; have := lv_neT n28 (a := 6) rfl; have := lv_neT n32 (a := 7) rfl; have := lv_neT n36 (a := 8) rfl; have := lv_neT n39 (a := 9) rfl; have := lv_neT n43 (a := 10) rfl; have := lv_neT n47 (a := 11) rfl; have := lv_neT n51 (a := 12) rfl; have := lv_neT n55 (a := 13) rfl; have := lv_neT n62 (a := 14) rfl; have := lv_neT n66 (a := 15) rfl; have := lv_neT n70 (a := 16) rfl; have := lv_neT n74 (a := 17) rfl; have := lv_neT n78 (a := 18) rfl; have := lv_neT n82 (a := 19) rfl; have := lv_neT n86 (a := 20) rfl; have := lv_neT n93 (a := 21) rfl; have := lv_neT n97 (a := 22) rfl; have := lv_neT n101 (a := 23) rfl; omega) (by decide) ?_
  refine z_aload_n C (pc := 320) dL_does_320 0 rfl ?_
  refine z_iload_n C (pc := 321) dL_does_321 2 rfl ?_
  refine z_iload_n C (pc := 322) dL_does_322 3 rfl ?_
  obtain ⟨o102, h⟩ := h
  refine z_Vi C (pc := 323) (kc' := 3) (ks' := 18) (As := [.int x2, .int x3]) (rest := []) rfl (c_X8_lacks l hfl v S x0 x2 x3) mw_X8_lacks bw_771 bw_772 bw_773 (fit_of rfl) rfl rfl (Nat.le_of_ble_eq_true rfl) (by decide) rfl o102 dL_does_323 h (fun r104 S103 h => ?_) (fun En S9 h => z_out C T N (by decide) (by decide) h)
  exact z_iret C (pc := 326) T dL_does_326 (by decide) (by decide) h
def wp_L_call (S : Hp) (a : Nat) (x1 : Int32) (x2 : Int32) (x3 : Int32) (x4 : Int32) (x5 : Int32) (Q : Int32 → Hp → Prop) : Prop := wp_L_does S a x1 x2 x3 x4 x5 (fun r S1 => Q r S1) (fun En S1 => (En = "java/lang/IndexOutOfBoundsException" → Q (-2000000001 : Int32) S1) ∧ (En = "java/lang/IllegalArgumentException" → Q (-2000000002 : Int32) S1) ∧ (En = "java/lang/IllegalStateException" → Q (-2000000003 : Int32) S1) ∧ (En = "java/lang/IndexOutOfBoundsException" ∨ En = "java/lang/IllegalArgumentException" ∨ En = "java/lang/IllegalStateException"))
def rm_L_call : Room := { frames := 10, cells := 46, slots := 1470, locals := 303 }
set_option maxHeartbeats 4000000 in
set_option maxRecDepth 100000 in
theorem c_L_call (l : Launch) (hfl : l.stackTraces = false) (v : Ev) (S : Hp) (a : Nat) (x1 : Int32) (x2 : Int32) (x3 : Int32) (x4 : Int32) (x5 : Int32) : CW l v yL_call cL_call 7 [(0, 11, 12, 15), (0, 11, 17, 18), (0, 11, 22, 21)] rm_L_call [va_rf (some a), .int x1, .int x2, .int x3, .int x4, .int x5] S (fun Q => wp_L_call S a x1 x2 x3 x4 x5 Q) := by
  refine z_startW [(0, va_rf (some a)), (1, .int x1), (2, .int x2), (3, .int x3), (4, .int x4), (5, .int x5)] bw_369 (by decide +kernel) (by simp only [la_i, la_r, la_n]) (cat_cr (cat_ci (cat_ci (cat_ci (cat_ci (cat_ci cat_nil)))))) (by simp only [ls_i, ls_r, ls_n]; decide) (fun z Q h C TBh T => ?_)
  refine z_aload_n C (pc := 0) dL_call_0 0 rfl ?_
  refine z_iload_n C (pc := 1) dL_call_1 1 rfl ?_
  refine z_iload_n C (pc := 2) dL_call_2 2 rfl ?_
  refine z_iload_n C (pc := 3) dL_call_3 3 rfl ?_
  refine z_iload C (pc := 4) dL_call_4 4 rfl ?_
  refine z_iload C (pc := 6) dL_call_6 5 rfl ?_
  refine z_Si C (pc := 8) (kc' := 46) (ks' := 1470) (As := [va_rf (some a), .int x1, .int x2, .int x3, .int x4, .int x5]) (rest := []) (c_L_does l hfl v S a x1 x2 x3 x4 x5) mw_L_does bw_373 bw_374 (fit_of rfl) rfl rfl (Nat.le_of_ble_eq_true rfl) dL_call_8 h (fun r S1 h => ?_) (fun En S1 h => ?_)
  · exact z_iret C (pc := 11) T dL_call_11 (by decide) (by decide) h
  · obtain ⟨h0, h1, h2, hc⟩ := h
    rcases hc with rfl | rfl | rfl
    · have h := h0 rfl
      refine z_catch C TBh [] { startPc := 0, endPc := 11, handlerPc := 12, catchType := 15 } [{ startPc := 0, endPc := 11, handlerPc := 17, catchType := 18 }, { startPc := 0, endPc := 11, handlerPc := 22, catchType := 21 }] rfl (fun z hz => nomatch hz) rfl (by decide) bw_370 nw_130 (tgt := 12) rfl (fun q9 => ?_)
      refine z_astore C (pc := 12) (lv' := [(6, va_rf (some q9)), (0, va_rf (some a)), (1, .int x1), (2, .int x2), (3, .int x3), (4, .int x4), (5, .int x5)]) dL_call_12 (by decide) rfl ?_
      refine z_ldc C (pc := 14) (x := (-2000000001 : Int32)) dL_call_14 bw_776 ?_
      exact z_iret C (pc := 16) T dL_call_16 (by decide) (by decide) h
    · have h := h1 rfl
      refine z_catch C TBh [{ startPc := 0, endPc := 11, handlerPc := 12, catchType := 15 }] { startPc := 0, endPc := 11, handlerPc := 17, catchType := 18 } [{ startPc := 0, endPc := 11, handlerPc := 22, catchType := 21 }] rfl (fun z hz => by obtain rfl := List.mem_singleton.mp hz; exact ⟨by decide, _, bw_370, by decide⟩) rfl (by decide) bw_371 nw_226 (tgt := 17) rfl (fun q9 => ?_)
      refine z_astore C (pc := 17) (lv' := [(6, va_rf (some q9)), (0, va_rf (some a)), (1, .int x1), (2, .int x2), (3, .int x3), (4, .int x4), (5, .int x5)]) dL_call_17 (by decide) rfl ?_
      refine z_ldc C (pc := 19) (x := (-2000000002 : Int32)) dL_call_19 bw_777 ?_
      exact z_iret C (pc := 21) T dL_call_21 (by decide) (by decide) h
    · have h := h2 rfl
      refine z_catch C TBh [{ startPc := 0, endPc := 11, handlerPc := 12, catchType := 15 }, { startPc := 0, endPc := 11, handlerPc := 17, catchType := 18 }] { startPc := 0, endPc := 11, handlerPc := 22, catchType := 21 } [] rfl (fun z hz => by rcases List.mem_cons.mp hz with rfl | hz; exact ⟨by decide, _, bw_370, by decide⟩; obtain rfl := List.mem_singleton.mp hz; exact ⟨by decide, _, bw_371, by decide⟩) rfl (by decide) bw_372 nw_385 (tgt := 22) rfl (fun q9 => ?_)
      refine z_astore C (pc := 22) (lv' := [(6, va_rf (some q9)), (0, va_rf (some a)), (1, .int x1), (2, .int x2), (3, .int x3), (4, .int x4), (5, .int x5)]) dL_call_22 (by decide) rfl ?_
      refine z_ldc C (pc := 24) (x := (-2000000003 : Int32)) dL_call_24 bw_778 ?_
      exact z_iret C (pc := 26) T dL_call_26 (by decide) (by decide) h
def wp_L_edition (S : Hp) (a : Nat) (x1 : Int32) (x2 : Int32) (x3 : Int32) (x4 : Int32) (x5 : Int32) (x6 : Int32) (x7 : Int32) (Q : Int32 → Hp → Prop) : Prop := okA S 8 a ∧ wp_X8_edition S a x1 x2 x3 x4 x5 x6 x7 (fun r S1 => Q r S1) (fun En S1 => (En = "java/lang/IndexOutOfBoundsException" → Q (-2000000001 : Int32) S1) ∧ (En = "java/lang/IllegalArgumentException" → Q (-2000000002 : Int32) S1) ∧ (En = "java/lang/IllegalStateException" → Q (-2000000003 : Int32) S1) ∧ (En = "java/lang/IndexOutOfBoundsException" ∨ En = "java/lang/IllegalArgumentException" ∨ En = "java/lang/IllegalStateException"))
def rm_L_edition : Room := { frames := 9, cells := 10, slots := 118, locals := 259 }
set_option maxHeartbeats 4000000 in
set_option maxRecDepth 100000 in
theorem c_L_edition (l : Launch) (hfl : l.stackTraces = false) (v : Ev) (S : Hp) (a : Nat) (x1 : Int32) (x2 : Int32) (x3 : Int32) (x4 : Int32) (x5 : Int32) (x6 : Int32) (x7 : Int32) : CW l v yL_edition cL_edition 9 [(0, 15, 16, 15), (0, 15, 21, 18), (0, 15, 26, 21)] rm_L_edition [va_rf (some a), .int x1, .int x2, .int x3, .int x4, .int x5, .int x6, .int x7] S (fun Q => wp_L_edition S a x1 x2 x3 x4 x5 x6 x7 Q) := by
  refine z_startW [(0, va_rf (some a)), (1, .int x1), (2, .int x2), (3, .int x3), (4, .int x4), (5, .int x5), (6, .int x6), (7, .int x7)] bw_788 (by decide +kernel) (by simp only [la_i, la_r, la_n]) (cat_cr (cat_ci (cat_ci (cat_ci (cat_ci (cat_ci (cat_ci (cat_ci cat_nil)))))))) (by simp only [ls_i, ls_r, ls_n]; decide) (fun z Q h C TBh T => ?_)
  obtain ⟨ho, h⟩ := h
  refine z_aload_n C (pc := 0) dL_edition_0 0 rfl ?_
  refine z_iload_n C (pc := 1) dL_edition_1 1 rfl ?_
  refine z_iload_n C (pc := 2) dL_edition_2 2 rfl ?_
  refine z_iload_n C (pc := 3) dL_edition_3 3 rfl ?_
  refine z_iload C (pc := 4) dL_edition_4 4 rfl ?_
  refine z_iload C (pc := 6) dL_edition_6 5 rfl ?_
  refine z_iload C (pc := 8) dL_edition_8 6 rfl ?_
  refine z_iload C (pc := 10) dL_edition_10 7 rfl ?_
  refine z_Vi C (pc := 12) (kc' := 10) (ks' := 118) (As := [.int x1, .int x2, .int x3, .int x4, .int x5, .int x6, .int x7]) (rest := []) rfl (c_X8_edition l hfl v S a x1 x2 x3 x4 x5 x6 x7) mw_X8_edition bw_789 bw_790 bw_791 (fit_of rfl) rfl rfl (Nat.le_of_ble_eq_true rfl) (by decide) rfl ho dL_edition_12 h (fun r S1 h => ?_) (fun En S1 h => ?_)
  · exact z_iret C (pc := 15) T dL_edition_15 (by decide) (by decide) h
  · obtain ⟨h0, h1, h2, hc⟩ := h
    rcases hc with rfl | rfl | rfl
    · have h := h0 rfl
      refine z_catch C TBh [] { startPc := 0, endPc := 15, handlerPc := 16, catchType := 15 } [{ startPc := 0, endPc := 15, handlerPc := 21, catchType := 18 }, { startPc := 0, endPc := 15, handlerPc := 26, catchType := 21 }] rfl (fun z hz => nomatch hz) rfl (by decide) bw_370 nw_130 (tgt := 16) rfl (fun q9 => ?_)
      refine z_astore C (pc := 16) (lv' := [(8, va_rf (some q9)), (0, va_rf (some a)), (1, .int x1), (2, .int x2), (3, .int x3), (4, .int x4), (5, .int x5), (6, .int x6), (7, .int x7)]) dL_edition_16 (by decide) rfl ?_
      refine z_ldc C (pc := 18) (x := (-2000000001 : Int32)) dL_edition_18 bw_776 ?_
      exact z_iret C (pc := 20) T dL_edition_20 (by decide) (by decide) h
    · have h := h1 rfl
      refine z_catch C TBh [{ startPc := 0, endPc := 15, handlerPc := 16, catchType := 15 }] { startPc := 0, endPc := 15, handlerPc := 21, catchType := 18 } [{ startPc := 0, endPc := 15, handlerPc := 26, catchType := 21 }] rfl (fun z hz => by obtain rfl := List.mem_singleton.mp hz; exact ⟨by decide, _, bw_370, by decide⟩) rfl (by decide) bw_371 nw_226 (tgt := 21) rfl (fun q9 => ?_)
      refine z_astore C (pc := 21) (lv' := [(8, va_rf (some q9)), (0, va_rf (some a)), (1, .int x1), (2, .int x2), (3, .int x3), (4, .int x4), (5, .int x5), (6, .int x6), (7, .int x7)]) dL_edition_21 (by decide) rfl ?_
      refine z_ldc C (pc := 23) (x := (-2000000002 : Int32)) dL_edition_23 bw_777 ?_
      exact z_iret C (pc := 25) T dL_edition_25 (by decide) (by decide) h
    · have h := h2 rfl
      refine z_catch C TBh [{ startPc := 0, endPc := 15, handlerPc := 16, catchType := 15 }, { startPc := 0, endPc := 15, handlerPc := 21, catchType := 18 }] { startPc := 0, endPc := 15, handlerPc := 26, catchType := 21 } [] rfl (fun z hz => by rcases List.mem_cons.mp hz with rfl | hz; exact ⟨by decide, _, bw_370, by decide⟩; obtain rfl := List.mem_singleton.mp hz; exact ⟨by decide, _, bw_371, by decide⟩) rfl (by decide) bw_372 nw_385 (tgt := 26) rfl (fun q9 => ?_)
      refine z_astore C (pc := 26) (lv' := [(8, va_rf (some q9)), (0, va_rf (some a)), (1, .int x1), (2, .int x2), (3, .int x3), (4, .int x4), (5, .int x5), (6, .int x6), (7, .int x7)]) dL_edition_26 (by decide) rfl ?_
      refine z_ldc C (pc := 28) (x := (-2000000003 : Int32)) dL_edition_28 bw_778 ?_
      exact z_iret C (pc := 30) T dL_edition_30 (by decide) (by decide) h
def wp_L_event (S : Hp) (a : Nat) (x1 : Int32) (x2 : Int32) (x3 : Int32) (x4 : Int32) (x5 : Int32) (x6 : Int32) (Q : Int32 → Hp → Prop) : Prop := okA S 8 a ∧ wp_X8_event S a x1 x2 x3 x4 x5 x6 (fun r S1 => Q r S1) (fun En S1 => (En = "java/lang/IndexOutOfBoundsException" → Q (-2000000001 : Int32) S1) ∧ (En = "java/lang/IllegalArgumentException" → Q (-2000000002 : Int32) S1) ∧ (En = "java/lang/IllegalStateException" → Q (-2000000003 : Int32) S1) ∧ (En = "java/lang/IndexOutOfBoundsException" ∨ En = "java/lang/IllegalArgumentException" ∨ En = "java/lang/IllegalStateException"))
def rm_L_event : Room := { frames := 9, cells := 9, slots := 113, locals := 258 }
set_option maxHeartbeats 4000000 in
set_option maxRecDepth 100000 in
theorem c_L_event (l : Launch) (hfl : l.stackTraces = false) (v : Ev) (S : Hp) (a : Nat) (x1 : Int32) (x2 : Int32) (x3 : Int32) (x4 : Int32) (x5 : Int32) (x6 : Int32) : CW l v yL_event cL_event 8 [(0, 13, 14, 15), (0, 13, 19, 18), (0, 13, 24, 21)] rm_L_event [va_rf (some a), .int x1, .int x2, .int x3, .int x4, .int x5, .int x6] S (fun Q => wp_L_event S a x1 x2 x3 x4 x5 x6 Q) := by
  refine z_startW [(0, va_rf (some a)), (1, .int x1), (2, .int x2), (3, .int x3), (4, .int x4), (5, .int x5), (6, .int x6)] bw_834 (by decide +kernel) (by simp only [la_i, la_r, la_n]) (cat_cr (cat_ci (cat_ci (cat_ci (cat_ci (cat_ci (cat_ci cat_nil))))))) (by simp only [ls_i, ls_r, ls_n]; decide) (fun z Q h C TBh T => ?_)
  obtain ⟨ho, h⟩ := h
  refine z_aload_n C (pc := 0) dL_event_0 0 rfl ?_
  refine z_iload_n C (pc := 1) dL_event_1 1 rfl ?_
  refine z_iload_n C (pc := 2) dL_event_2 2 rfl ?_
  refine z_iload_n C (pc := 3) dL_event_3 3 rfl ?_
  refine z_iload C (pc := 4) dL_event_4 4 rfl ?_
  refine z_iload C (pc := 6) dL_event_6 5 rfl ?_
  refine z_iload C (pc := 8) dL_event_8 6 rfl ?_
  refine z_Vi C (pc := 10) (kc' := 9) (ks' := 113) (As := [.int x1, .int x2, .int x3, .int x4, .int x5, .int x6]) (rest := []) rfl (c_X8_event l hfl v S a x1 x2 x3 x4 x5 x6) mw_X8_event bw_835 bw_836 bw_837 (fit_of rfl) rfl rfl (Nat.le_of_ble_eq_true rfl) (by decide) rfl ho dL_event_10 h (fun r S1 h => ?_) (fun En S1 h => ?_)
  · exact z_iret C (pc := 13) T dL_event_13 (by decide) (by decide) h
  · obtain ⟨h0, h1, h2, hc⟩ := h
    rcases hc with rfl | rfl | rfl
    · have h := h0 rfl
      refine z_catch C TBh [] { startPc := 0, endPc := 13, handlerPc := 14, catchType := 15 } [{ startPc := 0, endPc := 13, handlerPc := 19, catchType := 18 }, { startPc := 0, endPc := 13, handlerPc := 24, catchType := 21 }] rfl (fun z hz => nomatch hz) rfl (by decide) bw_370 nw_130 (tgt := 14) rfl (fun q9 => ?_)
      refine z_astore C (pc := 14) (lv' := [(7, va_rf (some q9)), (0, va_rf (some a)), (1, .int x1), (2, .int x2), (3, .int x3), (4, .int x4), (5, .int x5), (6, .int x6)]) dL_event_14 (by decide) rfl ?_
      refine z_ldc C (pc := 16) (x := (-2000000001 : Int32)) dL_event_16 bw_776 ?_
      exact z_iret C (pc := 18) T dL_event_18 (by decide) (by decide) h
    · have h := h1 rfl
      refine z_catch C TBh [{ startPc := 0, endPc := 13, handlerPc := 14, catchType := 15 }] { startPc := 0, endPc := 13, handlerPc := 19, catchType := 18 } [{ startPc := 0, endPc := 13, handlerPc := 24, catchType := 21 }] rfl (fun z hz => by obtain rfl := List.mem_singleton.mp hz; exact ⟨by decide, _, bw_370, by decide⟩) rfl (by decide) bw_371 nw_226 (tgt := 19) rfl (fun q9 => ?_)
      refine z_astore C (pc := 19) (lv' := [(7, va_rf (some q9)), (0, va_rf (some a)), (1, .int x1), (2, .int x2), (3, .int x3), (4, .int x4), (5, .int x5), (6, .int x6)]) dL_event_19 (by decide) rfl ?_
      refine z_ldc C (pc := 21) (x := (-2000000002 : Int32)) dL_event_21 bw_777 ?_
      exact z_iret C (pc := 23) T dL_event_23 (by decide) (by decide) h
    · have h := h2 rfl
      refine z_catch C TBh [{ startPc := 0, endPc := 13, handlerPc := 14, catchType := 15 }, { startPc := 0, endPc := 13, handlerPc := 19, catchType := 18 }] { startPc := 0, endPc := 13, handlerPc := 24, catchType := 21 } [] rfl (fun z hz => by rcases List.mem_cons.mp hz with rfl | hz; exact ⟨by decide, _, bw_370, by decide⟩; obtain rfl := List.mem_singleton.mp hz; exact ⟨by decide, _, bw_371, by decide⟩) rfl (by decide) bw_372 nw_385 (tgt := 24) rfl (fun q9 => ?_)
      refine z_astore C (pc := 24) (lv' := [(7, va_rf (some q9)), (0, va_rf (some a)), (1, .int x1), (2, .int x2), (3, .int x3), (4, .int x4), (5, .int x5), (6, .int x6)]) dL_event_24 (by decide) rfl ?_
      refine z_ldc C (pc := 26) (x := (-2000000003 : Int32)) dL_event_26 bw_778 ?_
      exact z_iret C (pc := 28) T dL_event_28 (by decide) (by decide) h
