def wp_L_both (S1 S2 S : Hp) (x0 : Nat) (x1 : Nat) (x2 : Int32) (x3 : Int32) (x4 : Int32) (x5 : Int32) (x6 : Int32) (Q : Int32 → Hp → Hp → Hp → Prop) : Prop :=
  wp_L_call S1 x0 x2 x3 x4 x5 x6 (fun r103 S102 => wp_L_call S2 x1 x2 x3 x4 x5 x6 (fun r107 S106 => if r103 = r107 then (Q r103 S102 S106 S) else (Q (-2000000099 : Int32) S102 S106 S)))
def rm_L_both : Room := { frames := 11, cells := 92, slots := 2940, locals := 329 }
set_option maxHeartbeats 4000000 in
set_option maxRecDepth 100000 in
theorem c_L_both (l : Launch) (hfl : l.stackTraces = false) (v : Ev) (S1 S2 S : Hp) (x0 : Nat) (x1 : Nat) (x2 : Int32) (x3 : Int32) (x4 : Int32) (x5 : Int32) (x6 : Int32) : C3 l v yL_both cL_both 8 (some .int) rm_L_both [va_rf (some x0), va_rf (some x1), .int x2, .int x3, .int x4, .int x5, .int x6] S1 S2 S (Q3i v) (fun Q => wp_L_both S1 S2 S x0 x1 x2 x3 x4 x5 x6 Q) := by
  refine z_start3 [(0, va_rf (some x0)), (1, va_rf (some x1)), (2, .int x2), (3, .int x3), (4, .int x4), (5, .int x5), (6, .int x6)] (by decide +kernel) (by simp only [la_i, la_r, la_n]) (cat_cr (cat_cr (cat_ci (cat_ci (cat_ci (cat_ci (cat_ci cat_nil))))))) (by simp only [ls_i, ls_r, ls_n]; decide) (fun x9 A E Y Q h t1 t2 C T => ?_)
  unfold wp_L_both at h
  refine z_aload_n (C _) (pc := 0) dL_both_0 0 rfl ?_
  refine z_iload_n (C _) (pc := 1) dL_both_1 2 rfl ?_
  refine z_iload_n (C _) (pc := 2) dL_both_2 3 rfl ?_
  refine z_iload (C _) (pc := 3) dL_both_3 4 rfl ?_
  refine z_iload (C _) (pc := 5) dL_both_5 5 rfl ?_
  refine z_iload (C _) (pc := 7) dL_both_7 6 rfl ?_
  refine z_s1 t1 (fun t101 => ?_)
  refine z_SW (C _) (pc := 9) (kc' := 46) (ks' := 1470) (As := [va_rf (some x0), .int x2, .int x3, .int x4, .int x5, .int x6]) (rest := []) (c_L_call l hfl v S1 x0 x2 x3 x4 x5 x6) bw_369 bw_0 (by decide +kernel) (n := 6) (by decide +kernel) bw_367 bw_368 (fit_of rfl) rfl rfl (Nat.le_of_ble_eq_true rfl) dL_both_9 h (fun r103 S102 h => ?_)
  refine z_s1' t101 (fun t104 => ?_)
  refine z_istore (C _) (pc := 12) (lv' := [(7, .int r103), (0, va_rf (some x0)), (1, va_rf (some x1)), (2, .int x2), (3, .int x3), (4, .int x4), (5, .int x5), (6, .int x6)]) dL_both_12 (by decide) rfl ?_
  refine z_iload (C _) (pc := 14) dL_both_14 0 rfl ?_
  refine z_aload_n (C _) (pc := 16) dL_both_16 2 rfl ?_
  refine z_iload_n (C _) (pc := 17) dL_both_17 3 rfl ?_
  refine z_iload_n (C _) (pc := 18) dL_both_18 4 rfl ?_
  refine z_iload (C _) (pc := 19) dL_both_19 5 rfl ?_
  refine z_iload (C _) (pc := 21) dL_both_21 6 rfl ?_
  refine z_iload (C _) (pc := 23) dL_both_23 7 rfl ?_
  refine z_s2 t2 (fun t105 => ?_)
  refine z_SW (C _) (pc := 25) (kc' := 92) (ks' := 2940) (As := [va_rf (some x1), .int x2, .int x3, .int x4, .int x5, .int x6]) (rest := [.int r103]) (c_L_call l hfl v S2 x1 x2 x3 x4 x5 x6) bw_369 bw_0 (by decide +kernel) (n := 6) (by decide +kernel) bw_367 bw_368 (fit_of rfl) rfl rfl (Nat.le_of_ble_eq_true rfl) dL_both_25 h (fun r107 S106 h => ?_)
  refine z_s2' t105 (fun t108 => ?_)
  refine z_icmp_ne (C _) (pc := 28) (tgt := 36) dL_both_28 (by decide) h (fun h => ?_) (fun h => ?_)
  · refine z_ldc (C _) (pc := 36) (x := (-2000000099 : Int32)) dL_both_36 bw_779 ?_
    exact z_ret3 (C []) (pc := 38) T t104 t108 dL_both_38 (by decide) (by decide) h
  · refine z_iload (C _) (pc := 31) dL_both_31 0 rfl ?_
    refine z_goto (C _) (pc := 33) (tgt := 38) dL_both_33 (by decide) ?_
    exact z_ret3 (C []) (pc := 38) T t104 t108 dL_both_38 (by decide) (by decide) h
