def wp_law (xs : Nat → Int32) (L T : Nat) : Prop := ∀ x, x ∉ g_L (h_0 T) → lt (n_O 8 (h_0 T) x) (fun S1 => wp_X8_init S1 x (fun S2 => ∀ m, m ∉ g_L (h_0 T) → lt (n_O 9 (h_0 T) m) (fun S3 => wp_X9_init S3 m (fun S4 => ∃ n, n ≤ 513 ∧ wp_law_L x m xs L n S2 S4 (fun _ => 0) 0))))
set_option maxHeartbeats 4000000 in
set_option maxRecDepth 100000 in
theorem l_start (l : Launch) (hfl : l.stackTraces = false) (v : Ev) (b L : Nat) (xs : Nat → Int32) {nm9 : String} {x9 : P9} {A : Nat → Prop} {E : State → Prop} (C : ∀ X, Cx l v RL cL_law 7 (some .boolean) nm9 (x9, X, A, E)) (hX : LX b L xs A x9) (hE : LE b A E x9) (h : wp_law xs L v.2.2.1) : ZZ l v 7 room_1 (x9, [], A, E) 0 0 (h_0 v.2.2.1) 0 [(0, va_rf (some b))] [] := by
  unfold wp_law at h
  refine z_new (C _) (pc := 0) (kc' := 1) (ks' := 7) kf8 bw_27 bw_28 bw_1 dL_law_0 (by decide) (by decide) (by decide) (by decide) h (fun x S1 h => ?_)
  refine z_dup (C _) (pc := 3) dL_law_3 (cat_rf _) ?_
  refine z_I (C _) (pc := 4) (KX := fun _ _ => False) (kc' := 24) (ks' := 63) (As := []) (rest := [va_rf (some x)]) (c_X8_init l v S1 x) mw_X8_init bw_29 bw_30 rfl (fit_of rfl) rfl rfl (Nat.le_of_ble_eq_true rfl) dL_law_4 h (fun S2 h => ?_) (fun En S9 h => h.elim)
  refine z_astore_n (C _) (pc := 7) (lv' := [(1, va_rf (some x)), (0, va_rf (some b))]) dL_law_7 (by decide) rfl ?_
  refine z_c1 (fun hT1 => ?_)
  refine z_new (C _) (pc := 8) (kc' := 25) (ks' := 95) kf9 bw_902 bw_903 bw_6 dL_law_8 (by decide) (by decide) (by decide) (by decide) h (fun m S3 h => ?_)
  refine z_dup (C _) (pc := 11) dL_law_11 (cat_rf _) ?_
  refine z_I (C _) (pc := 12) (KX := fun _ _ => False) (kc' := 50) (ks' := 1485) (As := []) (rest := [va_rf (some m)]) (c_X9_init l v S3 m) mw_X9_init bw_904 bw_905 rfl (fit_of rfl) rfl rfl (Nat.le_of_ble_eq_true rfl) dL_law_12 h (fun S4 h => ?_) (fun En S9 h => h.elim)
  refine z_astore_n (C _) (pc := 15) (lv' := [(2, va_rf (some m)), (1, va_rf (some x)), (0, va_rf (some b))]) dL_law_15 (by decide) rfl ?_
  refine z_iconst (C _) (pc := 16) (x := (1 : Int32)) dL_law_16 kic_1 ?_
  refine z_newL (C _) (pc := 17) (kc' := 51) (ks' := 1486) bw_1240 dL_law_17 rfl (by decide) (by decide) (by decide) (by decide) (fun o => ?_)
  refine z_astore_n (C _) (pc := 19) (lv' := [(3, va_rf (some o)), (2, va_rf (some m)), (1, va_rf (some x)), (0, va_rf (some b))]) dL_law_19 (by decide) rfl ?_
  refine z_sw hT1 (fun hT2 => ?_)
  refine z_iconst (C _) (pc := 20) (x := (0 : Int32)) dL_law_20 kic_0 ?_
  refine z_istore (C _) (pc := 21) (lv' := [(4, .int (0 : Int32)), (3, va_rf (some o)), (2, va_rf (some m)), (1, va_rf (some x)), (0, va_rf (some b))]) dL_law_21 (by decide) rfl ?_
  obtain ⟨n, hn, h⟩ := h
  refine z_sub [4, 3, 2, 1, 0] (lv' := [(0, va_rf (some b)), (1, va_rf (some x)), (2, va_rf (some m)), (3, va_rf (some o)), (4, .int (0 : Int32))]) rfl ?_
  refine z_wide (kc' := 25850 - n * 50) (ks' := 773500 - n * 1500) (by omega) (by omega) ?_
  exact l_law l hfl v b x m o L xs C hX hE n S2 S4 (fun _ => 0) 0 hn hT2 h
theorem arrOf_kind {s : State} {cA : ClassId} {k : Class} {comp : ClassId} {ty : FieldType} (h1 : s.vm.classes[cA]? = some k) (h2 : k.kind = .array comp ty) (n : Nat) (z : Nat → Value) : s.isArrayOf (arrV cA n z) ty := ⟨(fun k h => by cases h), k, h1, comp, h2⟩
theorem str_of {s : State} {b : Nat} {own tx : String} {k : Nat} (h1 : (Cond.stringRef own k tx).before #[Value.ref b] s = true) (h2 : (Cond.exactly (.string own k) "java/lang/String").before #[Value.ref b] s = true) : ∃ a, vk_R own k tx a s := by
  obtain ⟨a, c, cell, k, h3, -⟩ := Cond.exactly_spec h2
  exact ⟨a, vk_R.of h1 h3⟩
theorem arr_cls {s : State} {args : Array Value} {ty : FieldType} (hp : (match ty with | .object _ => False | _ => True)) (h : (Cond.arrayClass ty).before args s = true) : ∃ cA : ClassId, ArrOfT s cA ty ∧ va_RA s cA ty := by
  obtain ⟨c, k, comp, h1, h2, h3⟩ := Cond.arrayClass_spec h
  refine ⟨c, fun n z => arrOf_kind h2 h3 n z, ?_⟩
  cases ty with
  | object C => exact hp.elim
  | _ => exact h1
theorem arr_clsO {s : State} {args : Array Value} {C : String} (h : va_Nw (.arrayOver (.object C)) s) : ∃ cA : ClassId, ArrOfT s cA (.object C) ∧ va_RA s cA (.object C) := by
  obtain ⟨comp, c, k, h1, -, h3, h4, h5⟩ := Cond.arrayOver_spec h
  exact ⟨c, fun n z => arrOf_kind h3 h4 n z, k, comp, h3, h4, h1, h5⟩
set_option maxHeartbeats 4000000 in
set_option maxRecDepth 100000 in
theorem env_of {s : State} {b : Nat} (hts0 : ∀ w ∈ lw_tbl, w.before #[Value.ref b] s = true) (hgv : (Jvm.Cond.and given_1 narrow_1).before #[Value.ref b] s = true) {A : Nat → Prop} (hA : ∀ a : Nat, a < s.heap.size → ¬ A a) : ∃ v : Ev, va_K v.1 vwc (tyc v.2.1) s ∧ SW v.2.2 A s s.heap := by
  have hts : ∀ w ∈ BW, w.before #[Value.ref b] s = true := fun w hw => hts0 w (List.mem_filter.mp hw).1
  have hnw : ∀ w ∈ NW, va_Nw w s := by
    intro w hw
    have h1 := hts0 w (List.mem_filter.mp hw).1
    have h2 := (List.mem_filter.mp hw).2
    cases w <;> first
      | exact va_Nw.of rfl h1
      | exact h1
      | (simp [nwk] at h2; done)
  have hfl := flat_of_before _ hgv
  obtain ⟨c0, i0, hn0⟩ := u_known (C := RX0) (T := TX0) (N := 1) (n := 1) hts kwX0 (hts (.instantiable RX0 1) bw_63)
  obtain ⟨c1, i1, hn1⟩ := u_known (C := RX1) (T := TX1) (N := 14) (n := 14) hts kwX1 (hts (.instantiable RX1 14) bw_377)
  obtain ⟨c2, i2, hn2⟩ := u_known (C := RX2) (T := TX2) (N := 3) (n := 3) hts kwX2 (hts (.instantiable RX2 3) bw_633)
  obtain ⟨c3, i3, hn3⟩ := u_known (C := RX3) (T := TX3) (N := 6) (n := 6) hts kwX3 (hts (.instantiable RX3 6) bw_588)
  obtain ⟨c4, i4, hn4⟩ := u_known (C := RX4) (T := TX4) (N := 7) (n := 7) hts kwX4 (hts (.instantiable RX4 7) bw_710)
  obtain ⟨c5, i5, hn5⟩ := u_known (C := RX5) (T := TX5) (N := 4) (n := 4) hts kwX5 (hts (.instantiable RX5 4) bw_519)
  obtain ⟨c6, i6, hn6⟩ := u_known (C := RX6) (T := TX6) (N := 5) (n := 5) hts kwX6 (hts (.instantiable RX6 5) bw_779)
  obtain ⟨c7, i7, hn7⟩ := u_known (C := RX7) (T := TX7) (N := 4) (n := 4) hts kwX7 (hts (.instantiable RX7 4) bw_289)
  obtain ⟨c8, i8, hn8⟩ := u_known (C := RX8) (T := TX8) (N := 7) (n := 7) hts kwX8 (hts (.instantiable RX8 7) bw_28)
  obtain ⟨c9, i9, hn9⟩ := u_known (C := RX9) (T := TX9) (N := 32) (n := 32) hts kwX9 (hts (.instantiable RX9 32) bw_903)
  obtain ⟨c10, i10, hn10⟩ := u_known (C := RJx4a65c) (T := TJx4a65c) (N := 3) (n := 3) hts kwJx4a65c (hts (.instantiable RJx4a65c 3) bw_36)
  obtain ⟨y11, ya11⟩ := arr_cls (ty := .int) trivial (hts _ bw_434)
  obtain ⟨y12, ya12⟩ := arr_cls (ty := .boolean) trivial (hts _ bw_1005)
  obtain ⟨y13, ya13⟩ := arr_clsO (args := #[]) (hnw _ nw_62)
  obtain ⟨y14, ya14⟩ := arr_clsO (args := #[]) (hnw _ nw_383)
  obtain ⟨y15, ya15⟩ := arr_clsO (args := #[]) (hnw _ nw_360)
  obtain ⟨y16, ya16⟩ := arr_cls (ty := .long) trivial (hts _ bw_1240)
  have hlen : (Term.length (.static "java/util/ArrayList" "DEFAULTCAPACITY_EMPTY_ELEMENTDATA" "[Ljava/lang/Object;")).eval #[Value.ref b] s none [] s = some (.int (Int32.ofNat 0)) := by
    obtain ⟨w, h1, h2⟩ := Cond.eq_one (hfl (Cond.eq (Term.length (.static "java/util/ArrayList" "DEFAULTCAPACITY_EMPTY_ELEMENTDATA" "[Ljava/lang/Object;")) (.int 0)) (by decide +kernel))
    rw [h1, ← h2]
    rfl
  obtain ⟨dt, hdt, hT⟩ := va_Tof (N := 0) (f := fun _ => .null) (A := A) (by decide) (hfl (Cond.arrayOf (.static "java/util/ArrayList" "DEFAULTCAPACITY_EMPTY_ELEMENTDATA" "[Ljava/lang/Object;") (.object "java/lang/Object")) (by decide +kernel)) hlen (fun j hj => absurd hj (Nat.not_lt_zero j)) hA
  obtain ⟨mi, hmi⟩ := va_Mi.of (hfl (Cond.isRef (.mirror "[Ljava/lang/Object;")) (by decide +kernel))
  have tw : ∀ w ∈ lw_tbl, w.before #[Value.ref b] s = true := hts0
  refine ⟨((fun k => match k with | 0 => c0 | 1 => c1 | 2 => c2 | 3 => c3 | 4 => c4 | 5 => c5 | 6 => c6 | 7 => c7 | 8 => c8 | 9 => c9 | _ => c10, fun k => match k with | 0 => i0 | 1 => i1 | 2 => i2 | 3 => i3 | 4 => i4 | 5 => i5 | 6 => i6 | 7 => i7 | 8 => i8 | 9 => i9 | _ => i10), (fun k => match k with | 11 => y11 | 12 => y12 | 13 => y13 | 14 => y14 | 15 => y15 | _ => y16), dt, mi), ⟨?_, ?_⟩, hnw, ?_, ?_, ?_, ?_, hT, hmi, ?_⟩
  · intro k q hq
    match k, hq with
    | 0, hq => cases hq; exact hn0
    | 1, hq => cases hq; exact hn1
    | 2, hq => cases hq; exact hn2
    | 3, hq => cases hq; exact hn3
    | 4, hq => cases hq; exact hn4
    | 5, hq => cases hq; exact hn5
    | 6, hq => cases hq; exact hn6
    | 7, hq => cases hq; exact hn7
    | 8, hq => cases hq; exact hn8
    | 9, hq => cases hq; exact hn9
    | 10, hq => cases hq; exact hn10
    | k + 11, hq => simp [vwc] at hq
  · intro k q hq
    match k, hq with
    | 0, hq => cases hq; exact ya11
    | 1, hq => cases hq; exact ya12
    | 2, hq => cases hq; exact ya13
    | 3, hq => cases hq; exact ya14
    | 4, hq => cases hq; exact ya15
    | 5, hq => cases hq; exact ya16
    | k + 6, hq => simp [tyc] at hq
  · intro t ht
    simp only [STRS, List.mem_cons, List.not_mem_nil, or_false] at ht
    rcases ht with rfl | rfl | rfl | rfl | rfl | rfl | rfl | rfl | rfl | rfl | rfl | rfl | rfl | rfl | rfl | rfl | rfl | rfl | rfl | rfl | rfl
    · exact str_of (hts0 _ (List.mem_of_getElem? (i := 296) (by decide +kernel))) (hfl (Cond.exactly (.string "Badgewood" 303) "java/lang/String") (by decide +kernel))
    · exact str_of (hts0 _ (List.mem_of_getElem? (i := 335) (by decide +kernel))) (hfl (Cond.exactly (.string "Badgewood" 305) "java/lang/String") (by decide +kernel))
    · exact str_of (hts0 _ (List.mem_of_getElem? (i := 512) (by decide +kernel))) (hfl (Cond.exactly (.string "Badgewood" 300) "java/lang/String") (by decide +kernel))
    · exact str_of (hts0 _ (List.mem_of_getElem? (i := 523) (by decide +kernel))) (hfl (Cond.exactly (.string "Badgewood" 80) "java/lang/String") (by decide +kernel))
    · exact str_of (hts0 _ (List.mem_of_getElem? (i := 524) (by decide +kernel))) (hfl (Cond.exactly (.string "Badgewood" 92) "java/lang/String") (by decide +kernel))
    · exact str_of (hts0 _ (List.mem_of_getElem? (i := 532) (by decide +kernel))) (hfl (Cond.exactly (.string "Badgewood" 98) "java/lang/String") (by decide +kernel))
    · exact str_of (hts0 _ (List.mem_of_getElem? (i := 540) (by decide +kernel))) (hfl (Cond.exactly (.string "Badgewood" 107) "java/lang/String") (by decide +kernel))
    · exact str_of (hts0 _ (List.mem_of_getElem? (i := 563) (by decide +kernel))) (hfl (Cond.exactly (.string "Badgewood" 122) "java/lang/String") (by decide +kernel))
    · exact str_of (hts0 _ (List.mem_of_getElem? (i := 639) (by decide +kernel))) (hfl (Cond.exactly (.string "Badgewood" 177) "java/lang/String") (by decide +kernel))
    · exact str_of (hts0 _ (List.mem_of_getElem? (i := 679) (by decide +kernel))) (hfl (Cond.exactly (.string "Badgewood" 188) "java/lang/String") (by decide +kernel))
    · exact str_of (hts0 _ (List.mem_of_getElem? (i := 684) (by decide +kernel))) (hfl (Cond.exactly (.string "Badgewood" 194) "java/lang/String") (by decide +kernel))
    · exact str_of (hts0 _ (List.mem_of_getElem? (i := 744) (by decide +kernel))) (hfl (Cond.exactly (.string "Badgewood" 208) "java/lang/String") (by decide +kernel))
    · exact str_of (hts0 _ (List.mem_of_getElem? (i := 745) (by decide +kernel))) (hfl (Cond.exactly (.string "Badgewood" 210) "java/lang/String") (by decide +kernel))
    · exact str_of (hts0 _ (List.mem_of_getElem? (i := 746) (by decide +kernel))) (hfl (Cond.exactly (.string "Badgewood" 215) "java/lang/String") (by decide +kernel))
    · exact str_of (hts0 _ (List.mem_of_getElem? (i := 813) (by decide +kernel))) (hfl (Cond.exactly (.string "Badgewood" 234) "java/lang/String") (by decide +kernel))
    · exact str_of (hts0 _ (List.mem_of_getElem? (i := 881) (by decide +kernel))) (hfl (Cond.exactly (.string "Badgewood" 250) "java/lang/String") (by decide +kernel))
    · exact str_of (hts0 _ (List.mem_of_getElem? (i := 896) (by decide +kernel))) (hfl (Cond.exactly (.string "Badgewood" 266) "java/lang/String") (by decide +kernel))
    · exact str_of (hts0 _ (List.mem_of_getElem? (i := 897) (by decide +kernel))) (hfl (Cond.exactly (.string "Badgewood" 271) "java/lang/String") (by decide +kernel))
    · exact str_of (hts0 _ (List.mem_of_getElem? (i := 905) (by decide +kernel))) (hfl (Cond.exactly (.string "Badgewood" 273) "java/lang/String") (by decide +kernel))
    · exact str_of (hts0 _ (List.mem_of_getElem? (i := 920) (by decide +kernel))) (hfl (Cond.exactly (.string "Badgewood" 275) "java/lang/String") (by decide +kernel))
    · exact str_of (hts0 _ (List.mem_of_getElem? (i := 954) (by decide +kernel))) (hfl (Cond.exactly (.string "Badgewood" 289) "java/lang/String") (by decide +kernel))
  · exact vx_Zqof (hts0 _ (List.mem_of_getElem? (i := 282) (by decide +kernel))) (hts _ bw_7) (hfl _ (by decide +kernel)) hA
  · exact vx_Zqof (hts0 _ (List.mem_of_getElem? (i := 284) (by decide +kernel))) (hts _ bw_7) (hfl _ (by decide +kernel)) hA
  · exact va_Zof (hts0 _ (List.mem_of_getElem? (i := 101) (by decide +kernel))) (hts _ bw_4) hdt hA
  · intro t ht
    simp only [NCL, List.mem_cons, List.not_mem_nil, or_false] at ht
    rcases ht with rfl | rfl | rfl | rfl | rfl | rfl <;> exact va_Nc.of (hfl _ (by decide +kernel))
