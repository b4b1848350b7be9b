theorem arrOf_kind {s : State} {cA : ClassId} {k : Class} {comp : ClassId} {ty : FieldType} (h1 : s.vm.classes[cA]? = some k) (h2 : k.kind = .array comp ty) (n : Nat) (z : Nat → Value) : s.isArrayOf (arrV cA n z) ty := ⟨(fun k h => by cases h), k, h1, comp, h2⟩
theorem str_of {s : State} {b : Nat} {own tx : String} {k : Nat} (h1 : (Cond.stringRef own k tx).before #[Value.ref b] s = true) (h2 : (Cond.exactly (.string own k) "java/lang/String").before #[Value.ref b] s = true) : ∃ a, vk_R own k tx a s := by
  obtain ⟨a, c, cell, k, h3, -⟩ := Cond.exactly_spec h2
  exact ⟨a, vk_R.of h1 h3⟩
theorem arr_cls {s : State} {args : Array Value} {ty : FieldType} (hp : (match ty with | .object _ => False | _ => True)) (h : (Cond.arrayClass ty).before args s = true) : ∃ cA : ClassId, ArrOfT s cA ty ∧ va_RA s cA ty := by
  obtain ⟨c, k, comp, h1, h2, h3⟩ := Cond.arrayClass_spec h
  refine ⟨c, fun n z => arrOf_kind h2 h3 n z, ?_⟩
  cases ty with
  | object C => exact hp.elim
  | _ => exact h1
theorem arr_clsO {s : State} {args : Array Value} {C : String} (h : va_Nw (.arrayOver (.object C)) s) : ∃ cA : ClassId, ArrOfT s cA (.object C) ∧ va_RA s cA (.object C) := by
  obtain ⟨comp, c, k, h1, -, h3, h4, h5⟩ := Cond.arrayOver_spec h
  exact ⟨c, fun n z => arrOf_kind h3 h4 n z, k, comp, h3, h4, h1, h5⟩
set_option maxHeartbeats 4000000 in
set_option maxRecDepth 100000 in
theorem env_of {s : State} {b : Nat} (hts0 : ∀ w ∈ lw_tbl, w.before #[Value.ref b] s = true) (hgv : (Jvm.Cond.and given_1 narrow_1).before #[Value.ref b] s = true) {A : Nat → Prop} (hA : ∀ a : Nat, a < s.heap.size → ¬ A a) : ∃ v : Ev, va_K v.1 vwc (tyc v.2.1) s ∧ SW v.2.2 A s s.heap := by
  have hts : ∀ w ∈ BW, w.before #[Value.ref b] s = true := fun w hw => hts0 w (List.mem_filter.mp hw).1
  have hnw : ∀ w ∈ NW, va_Nw w s := by
    intro w hw
    have h1 := hts0 w (List.mem_filter.mp hw).1
    have h2 := (List.mem_filter.mp hw).2
    cases w <;> first
      | exact va_Nw.of rfl h1
      | exact h1
      | (simp [nwk] at h2; done)
  have hfl := flat_of_before _ hgv
  obtain ⟨c0, i0, hn0⟩ := u_known (C := RX0) (T := TX0) (N := 1) (n := 1) hts kwX0 (hts (.instantiable RX0 1) bw_62)
  obtain ⟨c1, i1, hn1⟩ := u_known (C := RX1) (T := TX1) (N := 14) (n := 14) hts kwX1 (hts (.instantiable RX1 14) bw_483)
  obtain ⟨c2, i2, hn2⟩ := u_known (C := RX2) (T := TX2) (N := 3) (n := 3) hts kwX2 (hts (.instantiable RX2 3) bw_673)
  obtain ⟨c3, i3, hn3⟩ := u_known (C := RX3) (T := TX3) (N := 6) (n := 6) hts kwX3 (hts (.instantiable RX3 6) bw_794)
  obtain ⟨c4, i4, hn4⟩ := u_known (C := RX4) (T := TX4) (N := 7) (n := 7) hts kwX4 (hts (.instantiable RX4 7) bw_839)
  obtain ⟨c5, i5, hn5⟩ := u_known (C := RX5) (T := TX5) (N := 4) (n := 4) hts kwX5 (hts (.instantiable RX5 4) bw_618)
  obtain ⟨c6, i6, hn6⟩ := u_known (C := RX6) (T := TX6) (N := 5) (n := 5) hts kwX6 (hts (.instantiable RX6 5) bw_325)
  obtain ⟨c7, i7, hn7⟩ := u_known (C := RX7) (T := TX7) (N := 4) (n := 4) hts kwX7 (hts (.instantiable RX7 4) bw_399)
  obtain ⟨c8, i8, hn8⟩ := u_known (C := RX8) (T := TX8) (N := 7) (n := 7) hts kwX8 (hts (.instantiable RX8 7) bw_27)
  obtain ⟨c10, i10, hn10⟩ := u_known (C := RJx4a65c) (T := TJx4a65c) (N := 3) (n := 3) hts kwJx4a65c (hts (.instantiable RJx4a65c 3) bw_35)
  obtain ⟨y11, ya11⟩ := arr_cls (ty := .int) trivial (hts _ bw_540)
  obtain ⟨y13, ya13⟩ := arr_clsO (args := #[]) (hnw _ nw_61)
  obtain ⟨y14, ya14⟩ := arr_clsO (args := #[]) (hnw _ nw_489)
  obtain ⟨y15, ya15⟩ := arr_clsO (args := #[]) (hnw _ nw_469)
  have hlen : (Term.length (.static "java/util/ArrayList" "DEFAULTCAPACITY_EMPTY_ELEMENTDATA" "[Ljava/lang/Object;")).eval #[Value.ref b] s none [] s = some (.int (Int32.ofNat 0)) := by
    obtain ⟨w, h1, h2⟩ := Cond.eq_one (hfl (Cond.eq (Term.length (.static "java/util/ArrayList" "DEFAULTCAPACITY_EMPTY_ELEMENTDATA" "[Ljava/lang/Object;")) (.int 0)) (by decide +kernel))
    rw [h1, ← h2]
    rfl
  obtain ⟨dt, hdt, hT⟩ := va_Tof (N := 0) (f := fun _ => .null) (A := A) (by decide) (hfl (Cond.arrayOf (.static "java/util/ArrayList" "DEFAULTCAPACITY_EMPTY_ELEMENTDATA" "[Ljava/lang/Object;") (.object "java/lang/Object")) (by decide +kernel)) hlen (fun j hj => absurd hj (Nat.not_lt_zero j)) hA
  obtain ⟨mi, hmi⟩ := va_Mi.of (hfl (Cond.isRef (.mirror "[Ljava/lang/Object;")) (by decide +kernel))
  have tw : ∀ w ∈ lw_tbl, w.before #[Value.ref b] s = true := hts0
  refine ⟨((fun k => match k with | 0 => c0 | 1 => c1 | 2 => c2 | 3 => c3 | 4 => c4 | 5 => c5 | 6 => c6 | 7 => c7 | 8 => c8 | 9 => c8 | _ => c10, fun k => match k with | 0 => i0 | 1 => i1 | 2 => i2 | 3 => i3 | 4 => i4 | 5 => i5 | 6 => i6 | 7 => i7 | 8 => i8 | 9 => i8 | _ => i10), (fun k => match k with | 11 => y11 | 12 => y11 | 13 => y13 | 14 => y14 | 15 => y15 | _ => y11), dt, mi), ⟨?_, ?_⟩, hnw, ?_, ?_, ?_, ?_, hT, hmi, ?_⟩
  · intro k q hq
    match k, hq with
    | 0, hq => cases hq; exact hn0
    | 1, hq => cases hq; exact hn1
    | 2, hq => cases hq; exact hn2
    | 3, hq => cases hq; exact hn3
    | 4, hq => cases hq; exact hn4
    | 5, hq => cases hq; exact hn5
    | 6, hq => cases hq; exact hn6
    | 7, hq => cases hq; exact hn7
    | 8, hq => cases hq; exact hn8
    | 9, hq => cases hq; exact hn8
    | 10, hq => cases hq; exact hn10
    | k + 11, hq => simp [vwc] at hq
  · intro k q hq
    match k, hq with
    | 0, hq => cases hq; exact ya11
    | 1, hq => cases hq; exact ya11
    | 2, hq => cases hq; exact ya13
    | 3, hq => cases hq; exact ya14
    | 4, hq => cases hq; exact ya15
    | 5, hq => cases hq; exact ya11
    | k + 6, hq => simp [tyc] at hq
  · intro t ht
    simp only [STRS, List.mem_cons, List.not_mem_nil, or_false] at ht
    rcases ht with rfl | rfl | rfl | rfl | rfl | rfl | rfl | rfl | rfl | rfl | rfl | rfl | rfl | rfl | rfl | rfl | rfl | rfl | rfl | rfl | rfl
    · exact str_of (hts0 _ (List.mem_of_getElem? (i := 199) (by decide +kernel))) (hfl (Cond.exactly (.string "Badgewood" 300) "java/lang/String") (by decide +kernel))
    · exact str_of (hts0 _ (List.mem_of_getElem? (i := 263) (by decide +kernel))) (hfl (Cond.exactly (.string "Badgewood" 275) "java/lang/String") (by decide +kernel))
    · exact str_of (hts0 _ (List.mem_of_getElem? (i := 314) (by decide +kernel))) (hfl (Cond.exactly (.string "Badgewood" 303) "java/lang/String") (by decide +kernel))
    · exact str_of (hts0 _ (List.mem_of_getElem? (i := 422) (by decide +kernel))) (hfl (Cond.exactly (.string "Badgewood" 305) "java/lang/String") (by decide +kernel))
    · exact str_of (hts0 _ (List.mem_of_getElem? (i := 575) (by decide +kernel))) (hfl (Cond.exactly (.string "Badgewood" 80) "java/lang/String") (by decide +kernel))
    · exact str_of (hts0 _ (List.mem_of_getElem? (i := 580) (by decide +kernel))) (hfl (Cond.exactly (.string "Badgewood" 92) "java/lang/String") (by decide +kernel))
    · exact str_of (hts0 _ (List.mem_of_getElem? (i := 597) (by decide +kernel))) (hfl (Cond.exactly (.string "Badgewood" 98) "java/lang/String") (by decide +kernel))
    · exact str_of (hts0 _ (List.mem_of_getElem? (i := 614) (by decide +kernel))) (hfl (Cond.exactly (.string "Badgewood" 107) "java/lang/String") (by decide +kernel))
    · exact str_of (hts0 _ (List.mem_of_getElem? (i := 619) (by decide +kernel))) (hfl (Cond.exactly (.string "Badgewood" 122) "java/lang/String") (by decide +kernel))
    · exact str_of (hts0 _ (List.mem_of_getElem? (i := 700) (by decide +kernel))) (hfl (Cond.exactly (.string "Badgewood" 188) "java/lang/String") (by decide +kernel))
    · exact str_of (hts0 _ (List.mem_of_getElem? (i := 701) (by decide +kernel))) (hfl (Cond.exactly (.string "Badgewood" 194) "java/lang/String") (by decide +kernel))
    · exact str_of (hts0 _ (List.mem_of_getElem? (i := 750) (by decide +kernel))) (hfl (Cond.exactly (.string "Badgewood" 208) "java/lang/String") (by decide +kernel))
    · exact str_of (hts0 _ (List.mem_of_getElem? (i := 751) (by decide +kernel))) (hfl (Cond.exactly (.string "Badgewood" 210) "java/lang/String") (by decide +kernel))
    · exact str_of (hts0 _ (List.mem_of_getElem? (i := 752) (by decide +kernel))) (hfl (Cond.exactly (.string "Badgewood" 215) "java/lang/String") (by decide +kernel))
    · exact str_of (hts0 _ (List.mem_of_getElem? (i := 769) (by decide +kernel))) (hfl (Cond.exactly (.string "Badgewood" 234) "java/lang/String") (by decide +kernel))
    · exact str_of (hts0 _ (List.mem_of_getElem? (i := 782) (by decide +kernel))) (hfl (Cond.exactly (.string "Badgewood" 250) "java/lang/String") (by decide +kernel))
    · exact str_of (hts0 _ (List.mem_of_getElem? (i := 794) (by decide +kernel))) (hfl (Cond.exactly (.string "Badgewood" 266) "java/lang/String") (by decide +kernel))
    · exact str_of (hts0 _ (List.mem_of_getElem? (i := 795) (by decide +kernel))) (hfl (Cond.exactly (.string "Badgewood" 271) "java/lang/String") (by decide +kernel))
    · exact str_of (hts0 _ (List.mem_of_getElem? (i := 800) (by decide +kernel))) (hfl (Cond.exactly (.string "Badgewood" 273) "java/lang/String") (by decide +kernel))
    · exact str_of (hts0 _ (List.mem_of_getElem? (i := 805) (by decide +kernel))) (hfl (Cond.exactly (.string "Badgewood" 289) "java/lang/String") (by decide +kernel))
    · exact str_of (hts0 _ (List.mem_of_getElem? (i := 823) (by decide +kernel))) (hfl (Cond.exactly (.string "Badgewood" 177) "java/lang/String") (by decide +kernel))
  · exact vx_Zqof (hts0 _ (List.mem_of_getElem? (i := 185) (by decide +kernel))) (hts _ bw_6) (hfl _ (by decide +kernel)) hA
  · exact vx_Zqof (hts0 _ (List.mem_of_getElem? (i := 187) (by decide +kernel))) (hts _ bw_6) (hfl _ (by decide +kernel)) hA
  · exact va_Zof (hts0 _ (List.mem_of_getElem? (i := 77) (by decide +kernel))) (hts _ bw_4) hdt hA
  · intro t ht
    simp only [NCL, List.mem_cons, List.not_mem_nil, or_false] at ht
    rcases ht with rfl | rfl | rfl | rfl | rfl | rfl <;> exact va_Nc.of (hfl _ (by decide +kernel))
