def wp_start (T : Nat) : Prop := ∀ x, x ∉ g_L (h_0 T) → lt (n_O 8 (h_0 T) x) (fun Sa => wp_X8_init Sa x (fun S1 => ∀ m, m ∉ g_L (h_0 T) → lt (n_O 8 (h_0 T) m) (fun Sb => wp_X8_init Sb m (fun S2 => ∀ dd, dd ∉ g_L (h_0 T) → lt (n_A 11 (h_0 T) dd 40) (fun S3 => wp_L_law S1 S2 S3 x m dd)))))
set_option maxHeartbeats 4000000 in
set_option maxRecDepth 100000 in
theorem l_start (l : Launch) (hfl : l.stackTraces = false) (v : Ev) {b L : Nat} {xs : Nat → Int32} {nm9 : String} {x9 : P9} {A : Nat → Prop} {E : State → Prop} (C : ∀ X, Cx l v RL cL_law 9 (some .boolean) nm9 (x9, X, A, E)) (hX : LX b L xs A x9) (hE : LE b A E x9) (hL : L ≤ 260) (h : wp_start v.2.2.1) : ZZ l v 9 room_1 (x9, [], A, E) 0 0 (h_0 v.2.2.1) 0 [(0, va_rf (some b))] [] := by
  unfold wp_start at h
  refine z_new (C _) (pc := 0) (kc' := 1) (ks' := 7) kf8 bw_26 bw_27 bw_1 dL_law_0 (by decide) (by decide) (by decide) (by decide) h (fun x Sa h => ?_)
  refine z_dup (C _) (pc := 3) dL_law_3 (cat_rf _) ?_
  refine z_I (C _) (pc := 4) (KX := fun _ _ => False) (kc' := 24) (ks' := 63) (As := []) (rest := [va_rf (some x)]) (c_X8_init l v Sa x) mw_X8_init bw_28 bw_29 rfl (fit_of rfl) rfl rfl (Nat.le_of_ble_eq_true rfl) dL_law_4 h (fun S1 h => ?_) (fun En S9 h => h.elim)
  refine z_astore_n (C _) (pc := 7) (lv' := [(1, va_rf (some x)), (0, va_rf (some b))]) dL_law_7 (by decide) rfl ?_
  refine z_c1 (fun hT1 => ?_)
  refine z_new (C _) (pc := 8) (kc' := 25) (ks' := 70) kf8 bw_26 bw_27 bw_1 dL_law_8 (by decide) (by decide) (by decide) (by decide) h (fun m Sb h => ?_)
  refine z_dup (C _) (pc := 11) dL_law_11 (cat_rf _) ?_
  refine z_I (C _) (pc := 12) (KX := fun _ _ => False) (kc' := 48) (ks' := 126) (As := []) (rest := [va_rf (some m)]) (c_X8_init l v Sb m) mw_X8_init bw_28 bw_29 rfl (fit_of rfl) rfl rfl (Nat.le_of_ble_eq_true rfl) dL_law_12 h (fun S2 h => ?_) (fun En S9 h => h.elim)
  refine z_astore_n (C _) (pc := 15) (lv' := [(2, va_rf (some m)), (1, va_rf (some x)), (0, va_rf (some b))]) dL_law_15 (by decide) rfl ?_
  refine z_c1 (fun hT2 => ?_)
  refine z_bipush (C _) (pc := 16) (x := (40 : Int32)) dL_law_16 kbp_40 ?_
  refine z_newI (C _) (pc := 18) (kc' := 49) (ks' := 166) (lim := 40) bw_540 dL_law_18 (by decide) (by decide) (by decide) (by decide) (by decide) ⟨by decide, by decide, h⟩ (fun dd S3 h => ?_)
  refine z_astore_n (C _) (pc := 20) (lv' := [(3, va_rf (some dd)), (2, va_rf (some m)), (1, va_rf (some x)), (0, va_rf (some b))]) dL_law_20 (by decide) rfl ?_
  refine z_s12 (S1 := S2) (S2 := S1) (Y := []) ?_
  exact k_L_law l hfl v C hX hE hL S1 S2 S3 hT1 hT2 x m dd h
