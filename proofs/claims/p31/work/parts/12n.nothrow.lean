def rm_X8_requireIndex_n : Room := { frames := 0, cells := 0, slots := 0, locals := 0 }
set_option maxHeartbeats 4000000 in
set_option maxRecDepth 100000 in
theorem c_X8_requireIndex_n (l : Launch) (v : Ev) (S : Hp) (x0 : Int32) (x1 : Int32) : CV l v yX8_requireIndex cX8_requireIndex 2 none rm_X8_requireIndex_n [.int x0, .int x1] S (fun Q _ => wp_X8_requireIndex S x0 x1 Q (fun _ _ => False)) := by
  intro Q EQ h
  refine z_start [(0, .int x0), (1, .int x1)] (by decide +kernel) (by simp only [la_i, la_r, la_n]) (cat_ci (cat_ci cat_nil)) (by simp only [ls_i, ls_r, ls_n]; decide) (fun z C N T => ?_)
  unfold wp_X8_requireIndex at h
  refine z_iload_n C (pc := 0) dX8_requireIndex_0 0 rfl ?_
  refine z_if_lt C (pc := 1) (tgt := 9) dX8_requireIndex_1 (by decide) h (fun h => ?_) (fun h => ?_)
  · exact h.elim
  · refine z_iload_n C (pc := 4) dX8_requireIndex_4 0 rfl ?_
    refine z_iload_n C (pc := 5) dX8_requireIndex_5 1 rfl ?_
    refine z_icmp_lt C (pc := 6) (tgt := 20) dX8_requireIndex_6 (by decide) h (fun h => ?_) (fun h => ?_)
    · exact z_vret C (pc := 20) T dX8_requireIndex_20 (by decide) (by decide) h
    · exact h.elim
def rm_X8_requireRange_n : Room := { frames := 0, cells := 0, slots := 0, locals := 0 }
set_option maxHeartbeats 4000000 in
set_option maxRecDepth 100000 in
theorem c_X8_requireRange_n (l : Launch) (v : Ev) (S : Hp) (x0 : Int32) (x1 : Int32) (x2 : Int32) : CV l v yX8_requireRange cX8_requireRange 3 none rm_X8_requireRange_n [.int x0, .int x1, .int x2] S (fun Q _ => wp_X8_requireRange S x0 x1 x2 Q (fun _ _ => False)) := by
  intro Q EQ h
  refine z_start [(0, .int x0), (1, .int x1), (2, .int x2)] (by decide +kernel) (by simp only [la_i, la_r, la_n]) (cat_ci (cat_ci (cat_ci cat_nil))) (by simp only [ls_i, ls_r, ls_n]; decide) (fun z C N T => ?_)
  unfold wp_X8_requireRange at h
  refine z_iload_n C (pc := 0) dX8_requireRange_0 0 rfl ?_
  refine z_iload_n C (pc := 1) dX8_requireRange_1 1 rfl ?_
  refine z_icmp_lt C (pc := 2) (tgt := 10) dX8_requireRange_2 (by decide) h (fun h => ?_) (fun h => ?_)
  · exact h.elim
  · refine z_iload_n C (pc := 5) dX8_requireRange_5 0 rfl ?_
    refine z_iload_n C (pc := 6) dX8_requireRange_6 2 rfl ?_
    refine z_icmp_le C (pc := 7) (tgt := 21) dX8_requireRange_7 (by decide) h (fun h => ?_) (fun h => ?_)
    · exact z_vret C (pc := 21) T dX8_requireRange_21 (by decide) (by decide) h
    · exact h.elim
def rm_X8_troopAt_n : Room := { frames := 3, cells := 0, slots := 0, locals := 64 }
set_option maxHeartbeats 4000000 in
set_option maxRecDepth 100000 in
theorem c_X8_troopAt_n (l : Launch) (v : Ev) (S : Hp) (x0 : Nat) (x1 : Int32) : CQ l v yX8_troopAt cX8_troopAt 2 (some (.object "Badgewood$Troop")) rm_X8_troopAt_n [va_rf (some x0), .int x1] S (fun Q _ => wp_X8_troopAt S x0 x1 Q (fun _ _ => False)) := by
  intro Q EQ h
  refine z_start [(0, va_rf (some x0)), (1, .int x1)] (by decide +kernel) (by simp only [la_i, la_r, la_n]) (cat_cr (cat_ci cat_nil)) (by simp only [ls_i, ls_r, ls_n]; decide) (fun z C N T => ?_)
  unfold wp_X8_troopAt at h
  refine z_iload_n C (pc := 0) dX8_troopAt_0 1 rfl ?_
  refine z_aload_n C (pc := 1) dX8_troopAt_1 0 rfl ?_
  obtain ⟨o1, h⟩ := h
  refine z_getP C (pc := 2) kf8 0 (by decide) rfl bw_74 (fun _ _ _ _ h => h) dX8_troopAt_2 rfl o1 ?_
  obtain ⟨a2, e3, o4, h⟩ := h
  refine z_Vi C (pc := 5) (KX := fun _ _ => False) (kc' := 0) (ks' := 0) (As := []) (rest := [.int x1]) e3 (c_Jx4a65c_size_8abf5 l v S a2) mw_Jx4a65c_size_8abf5 bw_121 bw_122 bw_123 (fit_of rfl) rfl rfl (Nat.le_of_ble_eq_true rfl) (by decide) rfl o4 dX8_troopAt_5 h (fun r6 S5 h => ?_) (fun En S9 h => h.elim)
  refine z_Sv C (pc := 8) (KX := fun _ _ => False) (kc' := 0) (ks' := 0) (As := [.int x1, .int r6]) (rest := []) (c_X8_requireIndex_n l v S5 x1 r6) mw_X8_requireIndex bw_125 bw_126 (fit_of rfl) rfl rfl (Nat.le_of_ble_eq_true rfl) dX8_troopAt_8 h (fun S7 h => ?_) (fun En S9 h => h.elim)
  refine z_aload_n C (pc := 11) dX8_troopAt_11 0 rfl ?_
  obtain ⟨o8, h⟩ := h
  refine z_getP C (pc := 12) kf8 0 (by decide) rfl bw_74 (fun _ _ _ _ h => h) dX8_troopAt_12 rfl o8 ?_
  refine z_iload_n C (pc := 15) dX8_troopAt_15 1 rfl ?_
  obtain ⟨a9, e10, o11, h⟩ := h
  refine z_Vq C (pc := 16) (KX := fun _ _ => False) (kc' := 0) (ks' := 0) (As := [.int x1]) (rest := []) e10 (c_Jx4a65c_get_915e3 l v S7 a9 x1) mw_Jx4a65c_get_915e3 bw_196 bw_197 bw_198 (fit_of rfl) rfl rfl (Nat.le_of_ble_eq_true rfl) (by decide) rfl o11 dX8_troopAt_16 h (fun r13 S12 h => ?_) (fun En S9 h => h.elim)
  obtain ⟨k14, h⟩ := h
  refine z_cast C (pc := 19) (κ := 7) (by decide) rfl bw_264 dX8_troopAt_19 k14 ?_
  exact z_aret C (pc := 22) rfl (Or.inl ⟨_, rfl⟩) T dX8_troopAt_22 (by decide) (by decide) h
def rm_X8_childAt_n : Room := { frames := 3, cells := 0, slots := 0, locals := 64 }
set_option maxHeartbeats 4000000 in
set_option maxRecDepth 100000 in
theorem c_X8_childAt_n (l : Launch) (v : Ev) (S : Hp) (x0 : Nat) (x1 : Int32) : CQ l v yX8_childAt cX8_childAt 2 (some (.object "Badgewood$Child")) rm_X8_childAt_n [va_rf (some x0), .int x1] S (fun Q _ => wp_X8_childAt S x0 x1 Q (fun _ _ => False)) := by
  intro Q EQ h
  refine z_start [(0, va_rf (some x0)), (1, .int x1)] (by decide +kernel) (by simp only [la_i, la_r, la_n]) (cat_cr (cat_ci cat_nil)) (by simp only [ls_i, ls_r, ls_n]; decide) (fun z C N T => ?_)
  unfold wp_X8_childAt at h
  refine z_iload_n C (pc := 0) dX8_childAt_0 1 rfl ?_
  refine z_aload_n C (pc := 1) dX8_childAt_1 0 rfl ?_
  obtain ⟨o1, h⟩ := h
  refine z_getP C (pc := 2) kf8 1 (by decide) rfl bw_75 (fun _ _ _ _ h => h) dX8_childAt_2 rfl o1 ?_
  obtain ⟨a2, e3, o4, h⟩ := h
  refine z_Vi C (pc := 5) (KX := fun _ _ => False) (kc' := 0) (ks' := 0) (As := []) (rest := [.int x1]) e3 (c_Jx4a65c_size_8abf5 l v S a2) mw_Jx4a65c_size_8abf5 bw_121 bw_122 bw_123 (fit_of rfl) rfl rfl (Nat.le_of_ble_eq_true rfl) (by decide) rfl o4 dX8_childAt_5 h (fun r6 S5 h => ?_) (fun En S9 h => h.elim)
  refine z_Sv C (pc := 8) (KX := fun _ _ => False) (kc' := 0) (ks' := 0) (As := [.int x1, .int r6]) (rest := []) (c_X8_requireIndex_n l v S5 x1 r6) mw_X8_requireIndex bw_125 bw_126 (fit_of rfl) rfl rfl (Nat.le_of_ble_eq_true rfl) dX8_childAt_8 h (fun S7 h => ?_) (fun En S9 h => h.elim)
  refine z_aload_n C (pc := 11) dX8_childAt_11 0 rfl ?_
  obtain ⟨o8, h⟩ := h
  refine z_getP C (pc := 12) kf8 1 (by decide) rfl bw_75 (fun _ _ _ _ h => h) dX8_childAt_12 rfl o8 ?_
  refine z_iload_n C (pc := 15) dX8_childAt_15 1 rfl ?_
  obtain ⟨a9, e10, o11, h⟩ := h
  refine z_Vq C (pc := 16) (KX := fun _ _ => False) (kc' := 0) (ks' := 0) (As := [.int x1]) (rest := []) e10 (c_Jx4a65c_get_915e3 l v S7 a9 x1) mw_Jx4a65c_get_915e3 bw_196 bw_197 bw_198 (fit_of rfl) rfl rfl (Nat.le_of_ble_eq_true rfl) (by decide) rfl o11 dX8_childAt_16 h (fun r13 S12 h => ?_) (fun En S9 h => h.elim)
  obtain ⟨k14, h⟩ := h
  refine z_cast C (pc := 19) (κ := 1) (by decide) rfl bw_210 dX8_childAt_19 k14 ?_
  exact z_aret C (pc := 22) rfl (Or.inl ⟨_, rfl⟩) T dX8_childAt_22 (by decide) (by decide) h
def rm_X8_eventAt_n : Room := { frames := 3, cells := 0, slots := 0, locals := 64 }
set_option maxHeartbeats 4000000 in
set_option maxRecDepth 100000 in
theorem c_X8_eventAt_n (l : Launch) (v : Ev) (S : Hp) (x0 : Nat) (x1 : Int32) : CQ l v yX8_eventAt cX8_eventAt 2 (some (.object "Badgewood$Event")) rm_X8_eventAt_n [va_rf (some x0), .int x1] S (fun Q _ => wp_X8_eventAt S x0 x1 Q (fun _ _ => False)) := by
  intro Q EQ h
  refine z_start [(0, va_rf (some x0)), (1, .int x1)] (by decide +kernel) (by simp only [la_i, la_r, la_n]) (cat_cr (cat_ci cat_nil)) (by simp only [ls_i, ls_r, ls_n]; decide) (fun z C N T => ?_)
  unfold wp_X8_eventAt at h
  refine z_iload_n C (pc := 0) dX8_eventAt_0 1 rfl ?_
  refine z_aload_n C (pc := 1) dX8_eventAt_1 0 rfl ?_
  obtain ⟨o1, h⟩ := h
  refine z_getP C (pc := 2) kf8 3 (by decide) rfl bw_77 (fun _ _ _ _ h => h) dX8_eventAt_2 rfl o1 ?_
  obtain ⟨a2, e3, o4, h⟩ := h
  refine z_Vi C (pc := 5) (KX := fun _ _ => False) (kc' := 0) (ks' := 0) (As := []) (rest := [.int x1]) e3 (c_Jx4a65c_size_8abf5 l v S a2) mw_Jx4a65c_size_8abf5 bw_121 bw_122 bw_123 (fit_of rfl) rfl rfl (Nat.le_of_ble_eq_true rfl) (by decide) rfl o4 dX8_eventAt_5 h (fun r6 S5 h => ?_) (fun En S9 h => h.elim)
  refine z_Sv C (pc := 8) (KX := fun _ _ => False) (kc' := 0) (ks' := 0) (As := [.int x1, .int r6]) (rest := []) (c_X8_requireIndex_n l v S5 x1 r6) mw_X8_requireIndex bw_125 bw_126 (fit_of rfl) rfl rfl (Nat.le_of_ble_eq_true rfl) dX8_eventAt_8 h (fun S7 h => ?_) (fun En S9 h => h.elim)
  refine z_aload_n C (pc := 11) dX8_eventAt_11 0 rfl ?_
  obtain ⟨o8, h⟩ := h
  refine z_getP C (pc := 12) kf8 3 (by decide) rfl bw_77 (fun _ _ _ _ h => h) dX8_eventAt_12 rfl o8 ?_
  refine z_iload_n C (pc := 15) dX8_eventAt_15 1 rfl ?_
  obtain ⟨a9, e10, o11, h⟩ := h
  refine z_Vq C (pc := 16) (KX := fun _ _ => False) (kc' := 0) (ks' := 0) (As := [.int x1]) (rest := []) e10 (c_Jx4a65c_get_915e3 l v S7 a9 x1) mw_Jx4a65c_get_915e3 bw_196 bw_197 bw_198 (fit_of rfl) rfl rfl (Nat.le_of_ble_eq_true rfl) (by decide) rfl o11 dX8_eventAt_16 h (fun r13 S12 h => ?_) (fun En S9 h => h.elim)
  obtain ⟨k14, h⟩ := h
  refine z_cast C (pc := 19) (κ := 4) (by decide) rfl bw_306 dX8_eventAt_19 k14 ?_
  exact z_aret C (pc := 22) rfl (Or.inl ⟨_, rfl⟩) T dX8_eventAt_22 (by decide) (by decide) h
def rm_X8_ofChild_n : Room := { frames := 4, cells := 0, slots := 0, locals := 85 }
set_option maxHeartbeats 4000000 in
set_option maxRecDepth 100000 in
theorem c_X8_ofChild_n (l : Launch) (v : Ev) (S : Hp) (x0 : Nat) (x1 : Int32) (x2 : Int32) : CI l v yX8_ofChild cX8_ofChild 4 (some .int) rm_X8_ofChild_n [va_rf (some x0), .int x1, .int x2] S (fun Q _ => wp_X8_ofChild S x0 x1 x2 Q (fun _ _ => False)) := by
  intro Q EQ h
  refine z_start [(0, va_rf (some x0)), (1, .int x1), (2, .int x2)] (by decide +kernel) (by simp only [la_i, la_r, la_n]) (cat_cr (cat_ci (cat_ci cat_nil))) (by simp only [ls_i, ls_r, ls_n]; decide) (fun z C N T => ?_)
  unfold wp_X8_ofChild at h
  refine z_aload_n C (pc := 0) dX8_ofChild_0 0 rfl ?_
  refine z_iload_n C (pc := 1) dX8_ofChild_1 1 rfl ?_
  obtain ⟨o1, h⟩ := h
  refine z_Vq C (pc := 2) (KX := fun _ _ => False) (kc' := 0) (ks' := 0) (As := [.int x1]) (rest := []) rfl (c_X8_childAt_n l v S x0 x1) mw_X8_childAt bw_117 bw_119 bw_p0 (fit_of rfl) rfl rfl (Nat.le_of_ble_eq_true rfl) (by decide) rfl o1 dX8_ofChild_2 h (fun r3 S2 h => ?_) (fun En S9 h => h.elim)
  refine z_astore_n C (pc := 5) (lv' := [(3, va_rf r3), (0, va_rf (some x0)), (1, .int x1), (2, .int x2)]) dX8_ofChild_5 (by decide) rfl ?_
  refine z_iload_n C (pc := 6) dX8_ofChild_6 3 rfl ?_
  refine z_swc C (pc := 7) (x := x2) (c := (0 : Int32)) dX8_ofChild_7 h (by decide) (by decide) rfl (tgt := 44) (by decide) (fun h => ?_) (fun n7 h => ?_)
  · refine z_aload_n C (pc := 44) dX8_ofChild_44 0 rfl ?_
    obtain ⟨a4, e5, o6, h⟩ := h
    refine z_getI C (pc := 45) kf1 1 (by decide) rfl bw_493 (fun _ _ _ _ h => h) dX8_ofChild_45 e5 o6 ?_
    exact z_iret C (pc := 48) T dX8_ofChild_48 (by decide) (by decide) h
  refine z_swc C (pc := 7) (x := x2) (c := (1 : Int32)) dX8_ofChild_7 h (by decide) (by decide) rfl (tgt := 49) (by decide) (fun h => ?_) (fun n11 h => ?_)
  · refine z_aload_n C (pc := 49) dX8_ofChild_49 0 rfl ?_
    obtain ⟨a8, e9, o10, h⟩ := h
    refine z_getI C (pc := 50) kf1 2 (by decide) rfl bw_495 (fun _ _ _ _ h => h) dX8_ofChild_50 e9 o10 ?_
    exact z_iret C (pc := 53) T dX8_ofChild_53 (by decide) (by decide) h
  refine z_swc C (pc := 7) (x := x2) (c := (2 : Int32)) dX8_ofChild_7 h (by decide) (by decide) rfl (tgt := 54) (by decide) (fun h => ?_) (fun n15 h => ?_)
  · refine z_aload_n C (pc := 54) dX8_ofChild_54 0 rfl ?_
    obtain ⟨a12, e13, o14, h⟩ := h
    refine z_getI C (pc := 55) kf1 3 (by decide) rfl bw_497 (fun _ _ _ _ h => h) dX8_ofChild_55 e13 o14 ?_
    exact z_iret C (pc := 58) T dX8_ofChild_58 (by decide) (by decide) h
  refine z_swc C (pc := 7) (x := x2) (c := (3 : Int32)) dX8_ofChild_7 h (by decide) (by decide) rfl (tgt := 59) (by decide) (fun h => ?_) (fun n19 h => ?_)
  · refine z_aload_n C (pc := 59) dX8_ofChild_59 0 rfl ?_
    obtain ⟨a16, e17, o18, h⟩ := h
    refine z_getI C (pc := 60) kf1 4 (by decide) rfl bw_499 (fun _ _ _ _ h => h) dX8_ofChild_60 e17 o18 ?_
    exact z_iret C (pc := 63) T dX8_ofChild_63 (by decide) (by decide) h
  refine z_swc C (pc := 7) (x := x2) (c := (4 : Int32)) dX8_ofChild_7 h (by decide) (by decide) rfl (tgt := 64) (by decide) (fun h => ?_) (fun n26 h => ?_)
  · refine z_aload_n C (pc := 64) dX8_ofChild_64 0 rfl ?_
    refine z_aload_n C (pc := 65) dX8_ofChild_65 1 rfl ?_
    obtain ⟨o20, h⟩ := h
    refine z_getI C (pc := 66) kf8 5 (by decide) rfl bw_79 (fun _ _ _ _ h => h) dX8_ofChild_66 rfl o20 ?_
    obtain ⟨a21, e22, o23, h⟩ := h
    refine z_Vi C (pc := 69) (KX := fun _ _ => False) (kc' := 0) (ks' := 0) (As := [.int (g_I S2 805 x0)]) (rest := []) e22 (c_X1_badgesBy l v S2 a21 (g_I S2 805 x0)) mw_X1_badgesBy bw_211 bw_212 bw_213 (fit_of rfl) rfl rfl (Nat.le_of_ble_eq_true rfl) (by decide) rfl o23 dX8_ofChild_69 h (fun r25 S24 h => ?_) (fun En S9 h => h.elim)
    exact z_iret C (pc := 72) T dX8_ofChild_72 (by decide) (by decide) h
  refine z_swc C (pc := 7) (x := x2) (c := (5 : Int32)) dX8_ofChild_7 h (by decide) (by decide) rfl (tgt := 73) (by decide) (fun h => ?_) (fun n30 h => ?_)
  · refine z_aload_n C (pc := 73) dX8_ofChild_73 0 rfl ?_
    obtain ⟨a27, e28, o29, h⟩ := h
    refine z_getI C (pc := 74) kf1 7 (by decide) rfl bw_502 (fun _ _ _ _ h => h) dX8_ofChild_74 e28 o29 ?_
    exact z_iret C (pc := 77) T dX8_ofChild_77 (by decide) (by decide) h
  refine z_tabOut C (pc := 7) (tgt := 78) dX8_ofChild_7 (by have := lv_neT n7 (a := 0) rfl; have := lv_neT n11 (a := 1) rfl; have := lv_neT n15 (a := 2) rfl; have := lv_neT n19 (a := 3) rfl; have := lv_neT n26 (a := 4) rfl; have := lv_neT n30 (a := 5) rfl; omega) (by decide) ?_
  exact h.elim
def rm_X8_ofTroop_n : Room := { frames := 4, cells := 0, slots := 0, locals := 87 }
set_option maxHeartbeats 4000000 in
set_option maxRecDepth 100000 in
theorem c_X8_ofTroop_n (l : Launch) (v : Ev) (S : Hp) (x0 : Nat) (x1 : Int32) (x2 : Int32) : CI l v yX8_ofTroop cX8_ofTroop 4 (some .int) rm_X8_ofTroop_n [va_rf (some x0), .int x1, .int x2] S (fun Q _ => wp_X8_ofTroop S x0 x1 x2 Q (fun _ _ => False)) := by
  intro Q EQ h
  refine z_start [(0, va_rf (some x0)), (1, .int x1), (2, .int x2)] (by decide +kernel) (by simp only [la_i, la_r, la_n]) (cat_cr (cat_ci (cat_ci cat_nil))) (by simp only [ls_i, ls_r, ls_n]; decide) (fun z C N T => ?_)
  unfold wp_X8_ofTroop at h
  refine z_aload_n C (pc := 0) dX8_ofTroop_0 0 rfl ?_
  refine z_iload_n C (pc := 1) dX8_ofTroop_1 1 rfl ?_
  obtain ⟨o1, h⟩ := h
  refine z_Vq C (pc := 2) (KX := fun _ _ => False) (kc' := 0) (ks' := 0) (As := [.int x1]) (rest := []) rfl (c_X8_troopAt_n l v S x0 x1) mw_X8_troopAt bw_260 bw_262 bw_p2 (fit_of rfl) rfl rfl (Nat.le_of_ble_eq_true rfl) (by decide) rfl o1 dX8_ofTroop_2 h (fun r3 S2 h => ?_) (fun En S9 h => h.elim)
  refine z_astore_n C (pc := 5) (lv' := [(3, va_rf r3), (0, va_rf (some x0)), (1, .int x1), (2, .int x2)]) dX8_ofTroop_5 (by decide) rfl ?_
  refine z_iload_n C (pc := 6) dX8_ofTroop_6 3 rfl ?_
  refine z_if_eq C (pc := 7) (tgt := 21) dX8_ofTroop_7 (by decide) h (fun h => ?_) (fun h => ?_)
  · refine z_aload_n C (pc := 21) dX8_ofTroop_21 1 rfl ?_
    refine z_aload_n C (pc := 22) dX8_ofTroop_22 0 rfl ?_
    obtain ⟨a4, e5, o6, h⟩ := h
    refine z_getI C (pc := 23) kf7 0 (by decide) rfl bw_405 (fun _ _ _ _ h => h) dX8_ofTroop_23 e5 o6 ?_
    obtain ⟨o7, h⟩ := h
    refine z_Vi C (pc := 26) (KX := fun _ _ => False) (kc' := 0) (ks' := 0) (As := [.int (g_I S2 700 a4)]) (rest := []) rfl (c_X8_childrenIn l v S2 x0 (g_I S2 700 a4)) mw_X8_childrenIn bw_269 bw_271 bw_p4 (fit_of rfl) rfl rfl (Nat.le_of_ble_eq_true rfl) (by decide) rfl o7 dX8_ofTroop_26 h (fun r9 S8 h => ?_) (fun En S9 h => h.elim)
    exact z_iret C (pc := 29) T dX8_ofTroop_29 (by decide) (by decide) h
  · refine z_aload_n C (pc := 10) dX8_ofTroop_10 1 rfl ?_
    refine z_aload_n C (pc := 11) dX8_ofTroop_11 0 rfl ?_
    obtain ⟨a10, e11, o12, h⟩ := h
    refine z_getI C (pc := 12) kf7 0 (by decide) rfl bw_405 (fun _ _ _ _ h => h) dX8_ofTroop_12 e11 o12 ?_
    obtain ⟨o13, h⟩ := h
    refine z_Vi C (pc := 15) (KX := fun _ _ => False) (kc' := 0) (ks' := 0) (As := [.int (g_I S2 700 a10)]) (rest := []) rfl (c_X8_waitingFor l v S2 x0 (g_I S2 700 a10)) mw_X8_waitingFor bw_265 bw_267 bw_p3 (fit_of rfl) rfl rfl (Nat.le_of_ble_eq_true rfl) (by decide) rfl o13 dX8_ofTroop_15 h (fun r15 S14 h => ?_) (fun En S9 h => h.elim)
    refine z_goto C (pc := 18) (tgt := 29) dX8_ofTroop_18 (by decide) ?_
    exact z_iret C (pc := 29) T dX8_ofTroop_29 (by decide) (by decide) h
def rm_X8_earned_n : Room := { frames := 4, cells := 0, slots := 0, locals := 85 }
set_option maxHeartbeats 4000000 in
set_option maxRecDepth 100000 in
theorem c_X8_earned_n (l : Launch) (v : Ev) (S : Hp) (x0 : Nat) (x1 : Int32) (x2 : Int32) : CI l v yX8_earned cX8_earned 5 (some .int) rm_X8_earned_n [va_rf (some x0), .int x1, .int x2] S (fun Q _ => wp_X8_earned S x0 x1 x2 Q (fun _ _ => False)) := by
  intro Q EQ h
  refine z_start [(0, va_rf (some x0)), (1, .int x1), (2, .int x2)] (by decide +kernel) (by simp only [la_i, la_r, la_n]) (cat_cr (cat_ci (cat_ci cat_nil))) (by simp only [ls_i, ls_r, ls_n]; decide) (fun z C N T => ?_)
  unfold wp_X8_earned at h
  refine z_aload_n C (pc := 0) dX8_earned_0 0 rfl ?_
  refine z_iload_n C (pc := 1) dX8_earned_1 1 rfl ?_
  obtain ⟨o1, h⟩ := h
  refine z_Vq C (pc := 2) (KX := fun _ _ => False) (kc' := 0) (ks' := 0) (As := [.int x1]) (rest := []) rfl (c_X8_childAt_n l v S x0 x1) mw_X8_childAt bw_117 bw_119 bw_p0 (fit_of rfl) rfl rfl (Nat.le_of_ble_eq_true rfl) (by decide) rfl o1 dX8_earned_2 h (fun r3 S2 h => ?_) (fun En S9 h => h.elim)
  refine z_astore_n C (pc := 5) (lv' := [(3, va_rf r3), (0, va_rf (some x0)), (1, .int x1), (2, .int x2)]) dX8_earned_5 (by decide) rfl ?_
  refine z_iload_n C (pc := 6) dX8_earned_6 3 rfl ?_
  refine z_bipush C (pc := 7) (x := (8 : Int32)) dX8_earned_7 kbp_8 ?_
  refine z_Sv C (pc := 9) (KX := fun _ _ => False) (kc' := 0) (ks' := 0) (As := [.int x2, .int (8 : Int32)]) (rest := []) (c_X8_requireIndex_n l v S2 x2 (8 : Int32)) mw_X8_requireIndex bw_125 bw_126 (fit_of rfl) rfl rfl (Nat.le_of_ble_eq_true rfl) dX8_earned_9 h (fun S4 h => ?_) (fun En S9 h => h.elim)
  refine z_aload_n C (pc := 12) dX8_earned_12 0 rfl ?_
  refine z_iload_n C (pc := 13) dX8_earned_13 3 rfl ?_
  obtain ⟨a5, e6, o7, h⟩ := h
  refine z_Vi C (pc := 14) (KX := fun _ _ => False) (kc' := 0) (ks' := 0) (As := [.int x2]) (rest := []) e6 (c_X1_dayEarned l v S4 a5 x2) mw_X1_dayEarned bw_244 bw_216 bw_217 (fit_of rfl) rfl rfl (Nat.le_of_ble_eq_true rfl) (by decide) rfl o7 dX8_earned_14 h (fun r9 S8 h => ?_) (fun En S9 h => h.elim)
  refine z_istore C (pc := 17) (lv' := [(4, .int r9), (3, va_rf r3), (0, va_rf (some x0)), (1, .int x1), (2, .int x2)]) dX8_earned_17 (by decide) rfl ?_
  refine z_iload C (pc := 19) dX8_earned_19 0 rfl ?_
  refine z_aload_n C (pc := 21) dX8_earned_21 2 rfl ?_
  obtain ⟨o10, h⟩ := h
  refine z_getI C (pc := 22) kf8 5 (by decide) rfl bw_79 (fun _ _ _ _ h => h) dX8_earned_22 rfl o10 ?_
  refine z_icmp_gt C (pc := 25) (tgt := 33) dX8_earned_25 (by decide) h (fun h => ?_) (fun h => ?_)
  · refine z_iconst C (pc := 33) (x := (-1 : Int32)) dX8_earned_33 kic_m1 ?_
    exact z_iret C (pc := 34) T dX8_earned_34 (by decide) (by decide) h
  · refine z_iload C (pc := 28) dX8_earned_28 0 rfl ?_
    refine z_goto C (pc := 30) (tgt := 34) dX8_earned_30 (by decide) ?_
    exact z_iret C (pc := 34) T dX8_earned_34 (by decide) (by decide) h
def rm_X8_holds_n : Room := { frames := 4, cells := 0, slots := 0, locals := 85 }
set_option maxHeartbeats 4000000 in
set_option maxRecDepth 100000 in
theorem c_X8_holds_n (l : Launch) (v : Ev) (S : Hp) (x0 : Nat) (x1 : Int32) (x2 : Int32) : CI l v yX8_holds cX8_holds 5 (some .boolean) rm_X8_holds_n [va_rf (some x0), .int x1, .int x2] S (fun Q _ => wp_X8_holds S x0 x1 x2 Q (fun _ _ => False)) := by
  intro Q EQ h
  refine z_start [(0, va_rf (some x0)), (1, .int x1), (2, .int x2)] (by decide +kernel) (by simp only [la_i, la_r, la_n]) (cat_cr (cat_ci (cat_ci cat_nil))) (by simp only [ls_i, ls_r, ls_n]; decide) (fun z C N T => ?_)
  unfold wp_X8_holds at h
  refine z_aload_n C (pc := 0) dX8_holds_0 0 rfl ?_
  refine z_iload_n C (pc := 1) dX8_holds_1 1 rfl ?_
  obtain ⟨o1, h⟩ := h
  refine z_Vq C (pc := 2) (KX := fun _ _ => False) (kc' := 0) (ks' := 0) (As := [.int x1]) (rest := []) rfl (c_X8_childAt_n l v S x0 x1) mw_X8_childAt bw_117 bw_119 bw_p0 (fit_of rfl) rfl rfl (Nat.le_of_ble_eq_true rfl) (by decide) rfl o1 dX8_holds_2 h (fun r3 S2 h => ?_) (fun En S9 h => h.elim)
  refine z_astore_n C (pc := 5) (lv' := [(3, va_rf r3), (0, va_rf (some x0)), (1, .int x1), (2, .int x2)]) dX8_holds_5 (by decide) rfl ?_
  refine z_iload_n C (pc := 6) dX8_holds_6 3 rfl ?_
  refine z_bipush C (pc := 7) (x := (8 : Int32)) dX8_holds_7 kbp_8 ?_
  refine z_Sv C (pc := 9) (KX := fun _ _ => False) (kc' := 0) (ks' := 0) (As := [.int x2, .int (8 : Int32)]) (rest := []) (c_X8_requireIndex_n l v S2 x2 (8 : Int32)) mw_X8_requireIndex bw_125 bw_126 (fit_of rfl) rfl rfl (Nat.le_of_ble_eq_true rfl) dX8_holds_9 h (fun S4 h => ?_) (fun En S9 h => h.elim)
  refine z_aload_n C (pc := 12) dX8_holds_12 0 rfl ?_
  refine z_iload_n C (pc := 13) dX8_holds_13 3 rfl ?_
  obtain ⟨a5, e6, o7, h⟩ := h
  refine z_Vq C (pc := 14) (KX := fun _ _ => False) (kc' := 0) (ks' := 0) (As := [.int x2]) (rest := []) e6 (c_X1_courseOf l v S4 a5 x2) mw_X1_courseOf bw_249 bw_220 bw_221 (fit_of rfl) rfl rfl (Nat.le_of_ble_eq_true rfl) (by decide) rfl o7 dX8_holds_14 h (fun r9 S8 h => ?_) (fun En S9 h => h.elim)
  refine z_astore C (pc := 17) (lv' := [(4, va_rf r9), (3, va_rf r3), (0, va_rf (some x0)), (1, .int x1), (2, .int x2)]) dX8_holds_17 (by decide) rfl ?_
  refine z_aload C (pc := 19) dX8_holds_19 0 rfl ?_
  refine z_ifnull C (pc := 21) (tgt := 40) dX8_holds_21 (by decide) h (fun h => ?_) (fun h => ?_)
  · refine z_iconst C (pc := 40) (x := (0 : Int32)) dX8_holds_40 kic_0 ?_
    exact z_zret C (pc := 41) T dX8_holds_41 (by decide) (by decide) h
  · refine z_aload C (pc := 24) dX8_holds_24 0 rfl ?_
    refine z_aload_n C (pc := 26) dX8_holds_26 2 rfl ?_
    obtain ⟨o10, h⟩ := h
    refine z_getI C (pc := 27) kf8 5 (by decide) rfl bw_79 (fun _ _ _ _ h => h) dX8_holds_27 rfl o10 ?_
    obtain ⟨a11, e12, o13, h⟩ := h
    refine z_Vi C (pc := 30) (KX := fun _ _ => False) (kc' := 0) (ks' := 0) (As := [.int (g_I S8 805 x0)]) (rest := []) e12 (c_X2_isHeldOn l v S8 a11 (g_I S8 805 x0)) mw_X2_isHeldOn bw_250 bw_251 bw_252 (fit_of rfl) rfl rfl (Nat.le_of_ble_eq_true rfl) (by decide) rfl o13 dX8_holds_30 h (fun r15 S14 h => ?_) (fun En S9 h => h.elim)
    refine z_if_eq C (pc := 33) (tgt := 40) dX8_holds_33 (by decide) h (fun h => ?_) (fun h => ?_)
    · refine z_iconst C (pc := 40) (x := (0 : Int32)) dX8_holds_40 kic_0 ?_
      exact z_zret C (pc := 41) T dX8_holds_41 (by decide) (by decide) h
    · refine z_iconst C (pc := 36) (x := (1 : Int32)) dX8_holds_36 kic_1 ?_
      refine z_goto C (pc := 37) (tgt := 41) dX8_holds_37 (by decide) ?_
      exact z_zret C (pc := 41) T dX8_holds_41 (by decide) (by decide) h
def rm_X8_duty_n : Room := { frames := 5, cells := 0, slots := 0, locals := 113 }
set_option maxHeartbeats 4000000 in
set_option maxRecDepth 100000 in
theorem c_X8_duty_n (l : Launch) (v : Ev) (S : Hp) (x0 : Nat) (x1 : Int32) (x2 : Int32) : CI l v yX8_duty cX8_duty 5 (some .int) rm_X8_duty_n [va_rf (some x0), .int x1, .int x2] S (fun Q _ => wp_X8_duty S x0 x1 x2 Q (fun _ _ => False)) := by
  intro Q EQ h
  refine z_start [(0, va_rf (some x0)), (1, .int x1), (2, .int x2)] (by decide +kernel) (by simp only [la_i, la_r, la_n]) (cat_cr (cat_ci (cat_ci cat_nil))) (by simp only [ls_i, ls_r, ls_n]; decide) (fun z C N T => ?_)
  unfold wp_X8_duty at h
  refine z_aload_n C (pc := 0) dX8_duty_0 0 rfl ?_
  refine z_iload_n C (pc := 1) dX8_duty_1 1 rfl ?_
  obtain ⟨o1, h⟩ := h
  refine z_Vq C (pc := 2) (KX := fun _ _ => False) (kc' := 0) (ks' := 0) (As := [.int x1]) (rest := []) rfl (c_X8_troopAt_n l v S x0 x1) mw_X8_troopAt bw_260 bw_262 bw_p2 (fit_of rfl) rfl rfl (Nat.le_of_ble_eq_true rfl) (by decide) rfl o1 dX8_duty_2 h (fun r3 S2 h => ?_) (fun En S9 h => h.elim)
  refine z_astore_n C (pc := 5) (lv' := [(3, va_rf r3), (0, va_rf (some x0)), (1, .int x1), (2, .int x2)]) dX8_duty_5 (by decide) rfl ?_
  refine z_iload_n C (pc := 6) dX8_duty_6 3 rfl ?_
  refine z_iconst C (pc := 7) (x := (0 : Int32)) dX8_duty_7 kic_0 ?_
  refine z_sipush C (pc := 8) (x := (9999 : Int32)) dX8_duty_8 ksp_9999 ?_
  refine z_Sv C (pc := 11) (KX := fun _ _ => False) (kc' := 0) (ks' := 0) (As := [.int x2, .int (0 : Int32), .int (9999 : Int32)]) (rest := []) (c_X8_requireRange_n l v S2 x2 (0 : Int32) (9999 : Int32)) mw_X8_requireRange bw_281 bw_282 (fit_of rfl) rfl rfl (Nat.le_of_ble_eq_true rfl) dX8_duty_11 h (fun S4 h => ?_) (fun En S9 h => h.elim)
  refine z_aload_n C (pc := 14) dX8_duty_14 1 rfl ?_
  refine z_aload_n C (pc := 15) dX8_duty_15 0 rfl ?_
  obtain ⟨a5, e6, o7, h⟩ := h
  refine z_getI C (pc := 16) kf7 0 (by decide) rfl bw_405 (fun _ _ _ _ h => h) dX8_duty_16 e6 o7 ?_
  obtain ⟨o8, h⟩ := h
  refine z_Vi C (pc := 19) (KX := fun _ _ => False) (kc' := 0) (ks' := 0) (As := [.int (g_I S4 700 a5)]) (rest := []) rfl (c_X8_filledPatrols l v S4 x0 (g_I S4 700 a5)) mw_X8_filledPatrols bw_285 bw_287 bw_p5 (fit_of rfl) rfl rfl (Nat.le_of_ble_eq_true rfl) (by decide) rfl o8 dX8_duty_19 h (fun r10 S9 h => ?_) (fun En S9 h => h.elim)
  refine z_istore C (pc := 22) (lv' := [(4, .int r10), (3, va_rf r3), (0, va_rf (some x0)), (1, .int x1), (2, .int x2)]) dX8_duty_22 (by decide) rfl ?_
  refine z_iload C (pc := 24) dX8_duty_24 0 rfl ?_
  refine z_if_ne C (pc := 26) (tgt := 31) dX8_duty_26 (by decide) h (fun h => ?_) (fun h => ?_)
  · refine z_aload_n C (pc := 31) dX8_duty_31 2 rfl ?_
    refine z_aload_n C (pc := 32) dX8_duty_32 1 rfl ?_
    obtain ⟨a11, e12, o13, h⟩ := h
    refine z_getI C (pc := 33) kf7 0 (by decide) rfl bw_405 (fun _ _ _ _ h => h) dX8_duty_33 e12 o13 ?_
    refine z_iload_n C (pc := 36) dX8_duty_36 4 rfl ?_
    refine z_iload C (pc := 37) dX8_duty_37 0 rfl ?_
    obtain ⟨n14, h⟩ := h
    refine z_irem C (pc := 39) dX8_duty_39 n14 ?_
    obtain ⟨o15, h⟩ := h
    refine z_Vi C (pc := 40) (KX := fun _ _ => False) (kc' := 0) (ks' := 0) (As := [.int (g_I S9 700 a11), .int (x2 - x2 / r10 * r10)]) (rest := []) rfl (c_X8_filledPatrolAt l v S9 x0 (g_I S9 700 a11) (x2 - x2 / r10 * r10)) mw_X8_filledPatrolAt bw_293 bw_295 bw_p7 (fit_of rfl) rfl rfl (Nat.le_of_ble_eq_true rfl) (by decide) rfl o15 dX8_duty_40 h (fun r17 S16 h => ?_) (fun En S9 h => h.elim)
    exact z_iret C (pc := 43) T dX8_duty_43 (by decide) (by decide) h
  · refine z_iconst C (pc := 29) (x := (-1 : Int32)) dX8_duty_29 kic_m1 ?_
    exact z_iret C (pc := 30) T dX8_duty_30 (by decide) (by decide) h
def rm_X8_owed_n : Room := { frames := 4, cells := 0, slots := 0, locals := 85 }
set_option maxHeartbeats 4000000 in
set_option maxRecDepth 100000 in
theorem l_X8_owed_n_L11 (l : Launch) (v : Ev) (f0 : Nat) (f1 : Int32) (f2 : Option Nat) (Q : Int32 → Hp → Prop) {EQ : String → Hp → Prop} {z : Z9} (C : Cx l v RX8 cX8_owed 5 (some .int) "owed" z) (N : NT z) (T : EE v rm_X8_owed_n (QI v Q) EQ z) : ∀ (n : Nat) (S : Hp) (w3 : Int32) (w4 : Int32), wp_X8_owed_L11 f0 f1 f2 Q (fun _ _ => False) n S w3 w4 → ZZ l v 5 rm_X8_owed_n z 0 0 S 11 [(0, va_rf (some f0)), (1, .int f1), (2, va_rf f2), (3, .int w3), (4, .int w4)] [] := by
  intro n
  induction n with
  | zero =>
    intro S w3 w4 h
    exact h.elim
  | succ n ih =>
    intro S w3 w4 h
    unfold wp_X8_owed_L11 at h
    refine z_iload C (pc := 11) dX8_owed_11 4 rfl ?_
    refine z_aload_n C (pc := 13) dX8_owed_13 0 rfl ?_
    obtain ⟨o4, h⟩ := h
    refine z_getP C (pc := 14) kf8 1 (by decide) rfl bw_75 (fun _ _ _ _ h => h) dX8_owed_14 rfl o4 ?_
    obtain ⟨a5, e6, o7, h⟩ := h
    refine z_Vi C (pc := 17) (KX := fun _ _ => False) (kc' := 0) (ks' := 0) (As := []) (rest := [.int w4]) e6 (c_Jx4a65c_size_8abf5 l v S a5) mw_Jx4a65c_size_8abf5 bw_121 bw_122 bw_123 (fit_of rfl) rfl rfl (Nat.le_of_ble_eq_true rfl) (by decide) rfl o7 dX8_owed_17 h (fun r9 S8 h => ?_) (fun En S9 h => h.elim)
    refine z_icmp_ge C (pc := 20) (tgt := 69) dX8_owed_20 (by decide) h (fun h => ?_) (fun h => ?_)
    · refine z_iload_n C (pc := 69) dX8_owed_69 3 rfl ?_
      exact z_iret C (pc := 70) T dX8_owed_70 (by decide) (by decide) h
    · refine z_aload_n C (pc := 23) dX8_owed_23 0 rfl ?_
      obtain ⟨o10, h⟩ := h
      refine z_getP C (pc := 24) kf8 1 (by decide) rfl bw_75 (fun _ _ _ _ h => h) dX8_owed_24 rfl o10 ?_
      refine z_iload C (pc := 27) dX8_owed_27 4 rfl ?_
      obtain ⟨a11, e12, o13, h⟩ := h
      refine z_Vq C (pc := 29) (KX := fun _ _ => False) (kc' := 0) (ks' := 0) (As := [.int w4]) (rest := []) e12 (c_Jx4a65c_get_915e3 l v S8 a11 w4) mw_Jx4a65c_get_915e3 bw_196 bw_197 bw_198 (fit_of rfl) rfl rfl (Nat.le_of_ble_eq_true rfl) (by decide) rfl o13 dX8_owed_29 h (fun r15 S14 h => ?_) (fun En S9 h => h.elim)
      obtain ⟨k16, h⟩ := h
      refine z_cast C (pc := 32) (κ := 1) (by decide) rfl bw_210 dX8_owed_32 k16 ?_
      obtain ⟨a17, e18, o19, h⟩ := h
      refine z_getI C (pc := 35) kf1 8 (by decide) rfl bw_504 (fun _ _ _ _ h => h) dX8_owed_35 e18 o19 ?_
      refine z_aload_n C (pc := 38) dX8_owed_38 2 rfl ?_
      obtain ⟨a20, e21, o22, h⟩ := h
      refine z_getI C (pc := 39) kf7 0 (by decide) rfl bw_405 (fun _ _ _ _ h => h) dX8_owed_39 e21 o22 ?_
      refine z_icmp_ne C (pc := 42) (tgt := 63) dX8_owed_42 (by decide) h (fun h => ?_) (fun h => ?_)
      · refine z_iinc C (pc := 63) (y := w4 + (1 : Int32)) (lv' := [(4, .int (w4 + (1 : Int32))), (0, va_rf (some f0)), (1, .int f1), (2, va_rf f2), (3, .int w3)]) dX8_owed_63 4 rfl rfl (by decide) rfl ?_
        refine z_goto C (pc := 66) (tgt := 11) dX8_owed_66 (by decide) ?_
        refine z_sub [1, 2, 3, 4, 0] (lv' := [(0, va_rf (some f0)), (1, .int f1), (2, va_rf f2), (3, .int w3), (4, .int (w4 + (1 : Int32)))]) rfl ?_
        exact ih S14 w3 (w4 + (1 : Int32)) h
      · refine z_iload_n C (pc := 45) dX8_owed_45 3 rfl ?_
        refine z_aload_n C (pc := 46) dX8_owed_46 0 rfl ?_
        obtain ⟨o23, h⟩ := h
        refine z_getP C (pc := 47) kf8 1 (by decide) rfl bw_75 (fun _ _ _ _ h => h) dX8_owed_47 rfl o23 ?_
        refine z_iload C (pc := 50) dX8_owed_50 4 rfl ?_
        obtain ⟨a24, e25, o26, h⟩ := h
        refine z_Vq C (pc := 52) (KX := fun _ _ => False) (kc' := 0) (ks' := 0) (As := [.int w4]) (rest := [.int w3]) e25 (c_Jx4a65c_get_915e3 l v S14 a24 w4) mw_Jx4a65c_get_915e3 bw_196 bw_197 bw_198 (fit_of rfl) rfl rfl (Nat.le_of_ble_eq_true rfl) (by decide) rfl o26 dX8_owed_52 h (fun r28 S27 h => ?_) (fun En S9 h => h.elim)
        obtain ⟨k29, h⟩ := h
        refine z_cast C (pc := 55) (κ := 1) (by decide) rfl bw_210 dX8_owed_55 k29 ?_
        obtain ⟨a30, e31, o32, h⟩ := h
        refine z_getI C (pc := 58) kf1 7 (by decide) rfl bw_502 (fun _ _ _ _ h => h) dX8_owed_58 e31 o32 ?_
        refine z_iadd C (pc := 61) dX8_owed_61 ?_
        refine z_nI h (fun y33 h => ?_)
        refine z_istore_n C (pc := 62) (lv' := [(3, .int y33), (0, va_rf (some f0)), (1, .int f1), (2, va_rf f2), (4, .int w4)]) dX8_owed_62 (by decide) rfl ?_
        refine z_iinc C (pc := 63) (y := w4 + (1 : Int32)) (lv' := [(4, .int (w4 + (1 : Int32))), (3, .int y33), (0, va_rf (some f0)), (1, .int f1), (2, va_rf f2)]) dX8_owed_63 4 rfl rfl (by decide) rfl ?_
        refine z_goto C (pc := 66) (tgt := 11) dX8_owed_66 (by decide) ?_
        refine z_sub [2, 3, 4, 1, 0] (lv' := [(0, va_rf (some f0)), (1, .int f1), (2, va_rf f2), (3, .int y33), (4, .int (w4 + (1 : Int32)))]) rfl ?_
        exact ih S27 y33 (w4 + (1 : Int32)) h
set_option maxHeartbeats 4000000 in
set_option maxRecDepth 100000 in
theorem c_X8_owed_n (l : Launch) (v : Ev) (S : Hp) (x0 : Nat) (x1 : Int32) : CI l v yX8_owed cX8_owed 5 (some .int) rm_X8_owed_n [va_rf (some x0), .int x1] S (fun Q _ => wp_X8_owed S x0 x1 Q (fun _ _ => False)) := by
  intro Q EQ h
  refine z_start [(0, va_rf (some x0)), (1, .int x1)] (by decide +kernel) (by simp only [la_i, la_r, la_n]) (cat_cr (cat_ci cat_nil)) (by simp only [ls_i, ls_r, ls_n]; decide) (fun z C N T => ?_)
  unfold wp_X8_owed at h
  refine z_aload_n C (pc := 0) dX8_owed_0 0 rfl ?_
  refine z_iload_n C (pc := 1) dX8_owed_1 1 rfl ?_
  obtain ⟨o1, h⟩ := h
  refine z_Vq C (pc := 2) (KX := fun _ _ => False) (kc' := 0) (ks' := 0) (As := [.int x1]) (rest := []) rfl (c_X8_troopAt_n l v S x0 x1) mw_X8_troopAt bw_260 bw_262 bw_p2 (fit_of rfl) rfl rfl (Nat.le_of_ble_eq_true rfl) (by decide) rfl o1 dX8_owed_2 h (fun r3 S2 h => ?_) (fun En S9 h => h.elim)
  refine z_astore_n C (pc := 5) (lv' := [(2, va_rf r3), (0, va_rf (some x0)), (1, .int x1)]) dX8_owed_5 (by decide) rfl ?_
  refine z_iconst C (pc := 6) (x := (0 : Int32)) dX8_owed_6 kic_0 ?_
  refine z_istore_n C (pc := 7) (lv' := [(3, .int (0 : Int32)), (2, va_rf r3), (0, va_rf (some x0)), (1, .int x1)]) dX8_owed_7 (by decide) rfl ?_
  refine z_iconst C (pc := 8) (x := (0 : Int32)) dX8_owed_8 kic_0 ?_
  refine z_istore C (pc := 9) (lv' := [(4, .int (0 : Int32)), (3, .int (0 : Int32)), (2, va_rf r3), (0, va_rf (some x0)), (1, .int x1)]) dX8_owed_9 (by decide) rfl ?_
  obtain ⟨n34, h⟩ := h
  refine z_sub [3, 4, 2, 1, 0] (lv' := [(0, va_rf (some x0)), (1, .int x1), (2, va_rf r3), (3, .int (0 : Int32)), (4, .int (0 : Int32))]) rfl ?_
  exact l_X8_owed_n_L11 l v x0 x1 r3 Q C N T n34 S2 (0 : Int32) (0 : Int32) h
def rm_X8_why_n : Room := { frames := 5, cells := 1, slots := 5, locals := 111 }
set_option maxHeartbeats 4000000 in
set_option maxRecDepth 100000 in
theorem c_X8_why_n (l : Launch) (v : Ev) (S : Hp) (x0 : Nat) (x1 : Int32) : CI l v yX8_why cX8_why 3 (some .int) rm_X8_why_n [va_rf (some x0), .int x1] S (fun Q _ => wp_X8_why S x0 x1 Q (fun _ _ => False)) := by
  intro Q EQ h
  refine z_start [(0, va_rf (some x0)), (1, .int x1)] (by decide +kernel) (by simp only [la_i, la_r, la_n]) (cat_cr (cat_ci cat_nil)) (by simp only [ls_i, ls_r, ls_n]; decide) (fun z C N T => ?_)
  unfold wp_X8_why at h
  refine z_aload_n C (pc := 0) dX8_why_0 0 rfl ?_
  refine z_iload_n C (pc := 1) dX8_why_1 1 rfl ?_
  obtain ⟨o1, h⟩ := h
  refine z_Vq C (pc := 2) (KX := fun _ _ => False) (kc' := 0) (ks' := 0) (As := [.int x1]) (rest := []) rfl (c_X8_eventAt_n l v S x0 x1) mw_X8_eventAt bw_302 bw_304 bw_p8 (fit_of rfl) rfl rfl (Nat.le_of_ble_eq_true rfl) (by decide) rfl o1 dX8_why_2 h (fun r3 S2 h => ?_) (fun En S9 h => h.elim)
  refine z_astore_n C (pc := 5) (lv' := [(2, va_rf r3), (0, va_rf (some x0)), (1, .int x1)]) dX8_why_5 (by decide) rfl ?_
  refine z_aload_n C (pc := 6) dX8_why_6 1 rfl ?_
  refine z_aload_n C (pc := 7) dX8_why_7 0 rfl ?_
  obtain ⟨o4, h⟩ := h
  refine z_Vq C (pc := 8) (KX := fun _ _ => False) (kc' := 1) (ks' := 5) (As := [va_rf r3]) (rest := []) rfl (c_X8_needOf l v S2 x0 r3) mw_X8_needOf bw_307 bw_309 bw_p9 (fit_of rfl) rfl rfl (Nat.le_of_ble_eq_true rfl) (by decide) rfl o4 dX8_why_8 h (fun r6 S5 h => ?_) (fun En S9 h => h.elim)
  refine z_aload_n C (pc := 11) dX8_why_11 0 rfl ?_
  obtain ⟨a7, e8, o9, h⟩ := h
  refine z_getI C (pc := 12) kf4 6 (by decide) rfl bw_854 (fun _ _ _ _ h => h) dX8_why_12 e8 o9 ?_
  obtain ⟨a10, e11, o12, h⟩ := h
  refine z_Vi C (pc := 15) (KX := fun _ _ => False) (kc' := 1) (ks' := 5) (As := [.int (g_I S5 406 a7)]) (rest := []) e11 (c_X6_verdict l v S5 a10 (g_I S5 406 a7)) mw_X6_verdict bw_354 bw_355 bw_356 (fit_of rfl) rfl rfl (Nat.le_of_ble_eq_true rfl) (by decide) rfl o12 dX8_why_15 h (fun r14 S13 h => ?_) (fun En S9 h => h.elim)
  exact z_iret C (pc := 18) T dX8_why_18 (by decide) (by decide) h
