theorem vin01 : vp_in (0 : Int32) 1 := by unfold vp_in; decide
def wp_L_begin (S : Hp) (a : Nat) (x1 : Int32) (x2 : Int32) (f : Nat → Int64) (Q : Int32 → Hp → (Nat → Int64) → Prop) : Prop := okA S 8 a ∧ wp_X8_begin S a x1 x2 (fun r S1 => Q (0 : Int32) S1 (vp_updL f (0 : Int32).toNatClampNeg r.toInt64)) (fun En S1 => (En = "java/lang/IndexOutOfBoundsException" → Q (1 : Int32) S1 f) ∧ (En = "java/lang/IllegalStateException" → Q (2 : Int32) S1 f) ∧ (En = "java/lang/IndexOutOfBoundsException" ∨ En = "java/lang/IllegalStateException"))
def rm_L_begin : Room := { frames := 9, cells := 3, slots := 18, locals := 149 }
set_option maxHeartbeats 4000000 in
set_option maxRecDepth 100000 in
theorem c_L_begin (l : Launch) (hfl : l.stackTraces = false) (v : Ev) (S : Hp) (a o : Nat) (x1 : Int32) (x2 : Int32) (f : Nat → Int64) : CW l v yL_begin cL_begin 5 [(0, 10, 13, 25), (0, 10, 17, 15)] rm_L_begin [va_rf (some a), .int x1, .int x2, va_rf (some o)] o f S (fun Q => wp_L_begin S a x1 x2 f Q) := by
  refine z_startW [(0, va_rf (some a)), (1, .int x1), (2, .int x2), (3, va_rf (some o))] bw_621 (by decide +kernel) (by simp only [la_i, la_r, la_n]) (cat_cr (cat_ci (cat_ci (cat_cr cat_nil)))) (by simp only [ls_i, ls_r, ls_n]; decide) (fun x9 A E Y Q h C TBh T => ?_)
  obtain ⟨ho, h⟩ := h
  refine z_aload_n (C _) (pc := 0) dL_begin_0 3 rfl ?_
  refine z_iconst (C _) (pc := 1) (x := (0 : Int32)) dL_begin_1 kic_0 ?_
  refine z_aload_n (C _) (pc := 2) dL_begin_2 0 rfl ?_
  refine z_iload_n (C _) (pc := 3) dL_begin_3 1 rfl ?_
  refine z_iload_n (C _) (pc := 4) dL_begin_4 2 rfl ?_
  refine z_Vi (C _) (pc := 5) (kc' := 3) (ks' := 18) (As := [.int x1, .int x2]) (rest := [.int (0 : Int32), va_rf (some o)]) rfl (c_X8_begin l hfl v S a x1 x2) mw_X8_begin bw_622 bw_623 bw_624 (fit_of rfl) rfl rfl (Nat.le_of_ble_eq_true rfl) (by decide) rfl ho dL_begin_5 h (fun r S1 h => ?_) (fun En S1 h => ?_)
  · refine z_i2l (C _) (pc := 8) dL_begin_8 ?_
    refine z_last (C []) (pc := 9) dL_begin_9 vin01 ?_
    refine z_goto (C _) (pc := 10) (tgt := 21) dL_begin_10 (by decide) ?_
    refine z_iconst (C _) (pc := 21) (x := (0 : Int32)) dL_begin_21 kic_0 ?_
    exact z_wret (C []) T (pc := 22) dL_begin_22 (by decide) (by decide) h
  · obtain ⟨h0, h1, hc⟩ := h
    rcases hc with rfl | rfl
    · have h := h0 rfl
      refine z_catch (C _) TBh [] { startPc := 0, endPc := 10, handlerPc := 13, catchType := 25 } [{ startPc := 0, endPc := 10, handlerPc := 17, catchType := 15 }] rfl (fun z hz => nomatch hz) rfl (by decide) bw_438 nw_452 (tgt := 13) rfl (fun q9 => ?_)
      refine z_astore (C _) (pc := 13) (lv' := [(4, va_rf (some q9)), (0, va_rf (some a)), (1, .int x1), (2, .int x2), (3, va_rf (some o))]) dL_begin_13 (by decide) rfl ?_
      refine z_iconst (C _) (pc := 15) (x := (1 : Int32)) dL_begin_15 kic_1 ?_
      exact z_wret (C []) T (pc := 16) dL_begin_16 (by decide) (by decide) h
    · have h := h1 rfl
      refine z_catch (C _) TBh [{ startPc := 0, endPc := 10, handlerPc := 13, catchType := 25 }] { startPc := 0, endPc := 10, handlerPc := 17, catchType := 15 } [] rfl (fun z hz => by obtain rfl := List.mem_singleton.mp hz; exact ⟨by decide, _, bw_438, by decide⟩) rfl (by decide) bw_194 nw_275 (tgt := 17) rfl (fun q9 => ?_)
      refine z_astore (C _) (pc := 17) (lv' := [(4, va_rf (some q9)), (0, va_rf (some a)), (1, .int x1), (2, .int x2), (3, va_rf (some o))]) dL_begin_17 (by decide) rfl ?_
      refine z_iconst (C _) (pc := 19) (x := (2 : Int32)) dL_begin_19 kic_2 ?_
      exact z_wret (C []) T (pc := 20) dL_begin_20 (by decide) (by decide) h
def wp_L_boxes (S : Hp) (a : Nat) (x1 : Int32) (x2 : Int32) (f : Nat → Int64) (Q : Int32 → Hp → (Nat → Int64) → Prop) : Prop := okA S 8 a ∧ wp_X8_boxes S a x1 x2 (fun r S1 => Q (0 : Int32) S1 (vp_updL f (0 : Int32).toNatClampNeg r.toInt64)) (fun En S1 => (En = "java/lang/IndexOutOfBoundsException" → Q (1 : Int32) S1 f) ∧ (En = "java/lang/IllegalArgumentException" → Q (2 : Int32) S1 f) ∧ (En = "java/lang/IllegalStateException" → Q (3 : Int32) S1 f) ∧ (En = "java/lang/IndexOutOfBoundsException" ∨ En = "java/lang/IllegalArgumentException" ∨ En = "java/lang/IllegalStateException"))
def rm_L_boxes : Room := { frames := 9, cells := 3, slots := 18, locals := 147 }
set_option maxHeartbeats 4000000 in
set_option maxRecDepth 100000 in
theorem c_L_boxes (l : Launch) (hfl : l.stackTraces = false) (v : Ev) (S : Hp) (a o : Nat) (x1 : Int32) (x2 : Int32) (f : Nat → Int64) : CW l v yL_boxes cL_boxes 5 [(0, 10, 13, 25), (0, 10, 17, 13), (0, 10, 21, 15)] rm_L_boxes [va_rf (some a), .int x1, .int x2, va_rf (some o)] o f S (fun Q => wp_L_boxes S a x1 x2 f Q) := by
  refine z_startW [(0, va_rf (some a)), (1, .int x1), (2, .int x2), (3, va_rf (some o))] bw_838 (by decide +kernel) (by simp only [la_i, la_r, la_n]) (cat_cr (cat_ci (cat_ci (cat_cr cat_nil)))) (by simp only [ls_i, ls_r, ls_n]; decide) (fun x9 A E Y Q h C TBh T => ?_)
  obtain ⟨ho, h⟩ := h
  refine z_aload_n (C _) (pc := 0) dL_boxes_0 3 rfl ?_
  refine z_iconst (C _) (pc := 1) (x := (0 : Int32)) dL_boxes_1 kic_0 ?_
  refine z_aload_n (C _) (pc := 2) dL_boxes_2 0 rfl ?_
  refine z_iload_n (C _) (pc := 3) dL_boxes_3 1 rfl ?_
  refine z_iload_n (C _) (pc := 4) dL_boxes_4 2 rfl ?_
  refine z_Vi (C _) (pc := 5) (kc' := 3) (ks' := 18) (As := [.int x1, .int x2]) (rest := [.int (0 : Int32), va_rf (some o)]) rfl (c_X8_boxes l hfl v S a x1 x2) mw_X8_boxes bw_839 bw_840 bw_841 (fit_of rfl) rfl rfl (Nat.le_of_ble_eq_true rfl) (by decide) rfl ho dL_boxes_5 h (fun r S1 h => ?_) (fun En S1 h => ?_)
  · refine z_i2l (C _) (pc := 8) dL_boxes_8 ?_
    refine z_last (C []) (pc := 9) dL_boxes_9 vin01 ?_
    refine z_goto (C _) (pc := 10) (tgt := 25) dL_boxes_10 (by decide) ?_
    refine z_iconst (C _) (pc := 25) (x := (0 : Int32)) dL_boxes_25 kic_0 ?_
    exact z_wret (C []) T (pc := 26) dL_boxes_26 (by decide) (by decide) h
  · obtain ⟨h0, h1, h2, hc⟩ := h
    rcases hc with rfl | rfl | rfl
    · have h := h0 rfl
      refine z_catch (C _) TBh [] { startPc := 0, endPc := 10, handlerPc := 13, catchType := 25 } [{ startPc := 0, endPc := 10, handlerPc := 17, catchType := 13 }, { startPc := 0, endPc := 10, handlerPc := 21, catchType := 15 }] rfl (fun z hz => nomatch hz) rfl (by decide) bw_438 nw_452 (tgt := 13) rfl (fun q9 => ?_)
      refine z_astore (C _) (pc := 13) (lv' := [(4, va_rf (some q9)), (0, va_rf (some a)), (1, .int x1), (2, .int x2), (3, va_rf (some o))]) dL_boxes_13 (by decide) rfl ?_
      refine z_iconst (C _) (pc := 15) (x := (1 : Int32)) dL_boxes_15 kic_1 ?_
      exact z_wret (C []) T (pc := 16) dL_boxes_16 (by decide) (by decide) h
    · have h := h1 rfl
      refine z_catch (C _) TBh [{ startPc := 0, endPc := 10, handlerPc := 13, catchType := 25 }] { startPc := 0, endPc := 10, handlerPc := 17, catchType := 13 } [{ startPc := 0, endPc := 10, handlerPc := 21, catchType := 15 }] rfl (fun z hz => by obtain rfl := List.mem_singleton.mp hz; exact ⟨by decide, _, bw_438, by decide⟩) rfl (by decide) bw_193 nw_204 (tgt := 17) rfl (fun q9 => ?_)
      refine z_astore (C _) (pc := 17) (lv' := [(4, va_rf (some q9)), (0, va_rf (some a)), (1, .int x1), (2, .int x2), (3, va_rf (some o))]) dL_boxes_17 (by decide) rfl ?_
      refine z_iconst (C _) (pc := 19) (x := (2 : Int32)) dL_boxes_19 kic_2 ?_
      exact z_wret (C []) T (pc := 20) dL_boxes_20 (by decide) (by decide) h
    · have h := h2 rfl
      refine z_catch (C _) TBh [{ startPc := 0, endPc := 10, handlerPc := 13, catchType := 25 }, { startPc := 0, endPc := 10, handlerPc := 17, catchType := 13 }] { startPc := 0, endPc := 10, handlerPc := 21, catchType := 15 } [] rfl (fun z hz => by rcases List.mem_cons.mp hz with rfl | hz; exact ⟨by decide, _, bw_438, by decide⟩; obtain rfl := List.mem_singleton.mp hz; exact ⟨by decide, _, bw_193, by decide⟩) rfl (by decide) bw_194 nw_275 (tgt := 21) rfl (fun q9 => ?_)
      refine z_astore (C _) (pc := 21) (lv' := [(4, va_rf (some q9)), (0, va_rf (some a)), (1, .int x1), (2, .int x2), (3, va_rf (some o))]) dL_boxes_21 (by decide) rfl ?_
      refine z_iconst (C _) (pc := 23) (x := (3 : Int32)) dL_boxes_23 kic_3 ?_
      exact z_wret (C []) T (pc := 24) dL_boxes_24 (by decide) (by decide) h
def wp_L_child (S : Hp) (a : Nat) (x1 : Int32) (f : Nat → Int64) (Q : Int32 → Hp → (Nat → Int64) → Prop) : Prop := okA S 8 a ∧ wp_X8_child S a x1 (fun r S1 => Q (0 : Int32) S1 (vp_updL f (0 : Int32).toNatClampNeg r.toInt64)) (fun En S1 => (En = "java/lang/IllegalArgumentException" → Q (1 : Int32) S1 f) ∧ (En = "java/lang/IllegalStateException" → Q (2 : Int32) S1 f) ∧ (En = "java/lang/IllegalArgumentException" ∨ En = "java/lang/IllegalStateException"))
def rm_L_child : Room := { frames := 8, cells := 7, slots := 130, locals := 253 }
set_option maxHeartbeats 4000000 in
set_option maxRecDepth 100000 in
theorem c_L_child (l : Launch) (hfl : l.stackTraces = false) (v : Ev) (S : Hp) (a o : Nat) (x1 : Int32) (f : Nat → Int64) : CW l v yL_child cL_child 4 [(0, 9, 12, 13), (0, 9, 15, 15)] rm_L_child [va_rf (some a), .int x1, va_rf (some o)] o f S (fun Q => wp_L_child S a x1 f Q) := by
  refine z_startW [(0, va_rf (some a)), (1, .int x1), (2, va_rf (some o))] bw_372 (by decide +kernel) (by simp only [la_i, la_r, la_n]) (cat_cr (cat_ci (cat_cr cat_nil))) (by simp only [ls_i, ls_r, ls_n]; decide) (fun x9 A E Y Q h C TBh T => ?_)
  obtain ⟨ho, h⟩ := h
  refine z_aload_n (C _) (pc := 0) dL_child_0 2 rfl ?_
  refine z_iconst (C _) (pc := 1) (x := (0 : Int32)) dL_child_1 kic_0 ?_
  refine z_aload_n (C _) (pc := 2) dL_child_2 0 rfl ?_
  refine z_iload_n (C _) (pc := 3) dL_child_3 1 rfl ?_
  refine z_Vi (C _) (pc := 4) (kc' := 7) (ks' := 130) (As := [.int x1]) (rest := [.int (0 : Int32), va_rf (some o)]) rfl (c_X8_child l hfl v S a x1) mw_X8_child bw_373 bw_374 bw_375 (fit_of rfl) rfl rfl (Nat.le_of_ble_eq_true rfl) (by decide) rfl ho dL_child_4 h (fun r S1 h => ?_) (fun En S1 h => ?_)
  · refine z_i2l (C _) (pc := 7) dL_child_7 ?_
    refine z_last (C []) (pc := 8) dL_child_8 vin01 ?_
    refine z_goto (C _) (pc := 9) (tgt := 18) dL_child_9 (by decide) ?_
    refine z_iconst (C _) (pc := 18) (x := (0 : Int32)) dL_child_18 kic_0 ?_
    exact z_wret (C []) T (pc := 19) dL_child_19 (by decide) (by decide) h
  · obtain ⟨h0, h1, hc⟩ := h
    rcases hc with rfl | rfl
    · have h := h0 rfl
      refine z_catch (C _) TBh [] { startPc := 0, endPc := 9, handlerPc := 12, catchType := 13 } [{ startPc := 0, endPc := 9, handlerPc := 15, catchType := 15 }] rfl (fun z hz => nomatch hz) rfl (by decide) bw_193 nw_204 (tgt := 12) rfl (fun q9 => ?_)
      refine z_astore_n (C _) (pc := 12) (lv' := [(3, va_rf (some q9)), (0, va_rf (some a)), (1, .int x1), (2, va_rf (some o))]) dL_child_12 (by decide) rfl ?_
      refine z_iconst (C _) (pc := 13) (x := (1 : Int32)) dL_child_13 kic_1 ?_
      exact z_wret (C []) T (pc := 14) dL_child_14 (by decide) (by decide) h
    · have h := h1 rfl
      refine z_catch (C _) TBh [{ startPc := 0, endPc := 9, handlerPc := 12, catchType := 13 }] { startPc := 0, endPc := 9, handlerPc := 15, catchType := 15 } [] rfl (fun z hz => by obtain rfl := List.mem_singleton.mp hz; exact ⟨by decide, _, bw_193, by decide⟩) rfl (by decide) bw_194 nw_275 (tgt := 15) rfl (fun q9 => ?_)
      refine z_astore_n (C _) (pc := 15) (lv' := [(3, va_rf (some q9)), (0, va_rf (some a)), (1, .int x1), (2, va_rf (some o))]) dL_child_15 (by decide) rfl ?_
      refine z_iconst (C _) (pc := 16) (x := (2 : Int32)) dL_child_16 kic_2 ?_
      exact z_wret (C []) T (pc := 17) dL_child_17 (by decide) (by decide) h
def wp_L_couldStaff (S : Hp) (a : Nat) (x1 : Int32) (x2 : Int32) (x3 : Int32) (f : Nat → Int64) (Q : Int32 → Hp → (Nat → Int64) → Prop) : Prop := okA S 8 a ∧ wp_X8_couldStaff S a x1 x2 x3 (fun r S1 => if r = 0 then Q (0 : Int32) S1 (vp_updL f (0 : Int32).toNatClampNeg 0) else Q (0 : Int32) S1 (vp_updL f (0 : Int32).toNatClampNeg 1)) (fun En S1 => (En = "java/lang/IllegalArgumentException" → Q (1 : Int32) S1 f) ∧ (En = "java/lang/IllegalStateException" → Q (2 : Int32) S1 f) ∧ (En = "java/lang/IllegalArgumentException" ∨ En = "java/lang/IllegalStateException"))
def rm_L_couldStaff : Room := { frames := 9, cells := 46, slots := 1470, locals := 278 }
set_option maxHeartbeats 4000000 in
set_option maxRecDepth 100000 in
theorem c_L_couldStaff (l : Launch) (hfl : l.stackTraces = false) (v : Ev) (S : Hp) (a o : Nat) (x1 : Int32) (x2 : Int32) (x3 : Int32) (f : Nat → Int64) : CW l v yL_couldStaff cL_couldStaff 6 [(0, 19, 22, 13), (0, 19, 26, 15)] rm_L_couldStaff [va_rf (some a), .int x1, .int x2, .int x3, va_rf (some o)] o f S (fun Q => wp_L_couldStaff S a x1 x2 x3 f Q) := by
  refine z_startW [(0, va_rf (some a)), (1, .int x1), (2, .int x2), (3, .int x3), (4, va_rf (some o))] bw_815 (by decide +kernel) (by simp only [la_i, la_r, la_n]) (cat_cr (cat_ci (cat_ci (cat_ci (cat_cr cat_nil))))) (by simp only [ls_i, ls_r, ls_n]; decide) (fun x9 A E Y Q h C TBh T => ?_)
  obtain ⟨ho, h⟩ := h
  refine z_aload (C _) (pc := 0) dL_couldStaff_0 4 rfl ?_
  refine z_iconst (C _) (pc := 2) (x := (0 : Int32)) dL_couldStaff_2 kic_0 ?_
  refine z_aload_n (C _) (pc := 3) dL_couldStaff_3 0 rfl ?_
  refine z_iload_n (C _) (pc := 4) dL_couldStaff_4 1 rfl ?_
  refine z_iload_n (C _) (pc := 5) dL_couldStaff_5 2 rfl ?_
  refine z_iload_n (C _) (pc := 6) dL_couldStaff_6 3 rfl ?_
  refine z_Vi (C _) (pc := 7) (kc' := 46) (ks' := 1470) (As := [.int x1, .int x2, .int x3]) (rest := [.int (0 : Int32), va_rf (some o)]) rfl (c_X8_couldStaff l hfl v S a x1 x2 x3) mw_X8_couldStaff bw_816 bw_817 bw_818 (fit_of rfl) rfl rfl (Nat.le_of_ble_eq_true rfl) (by decide) rfl ho dL_couldStaff_7 h (fun r S1 h => ?_) (fun En S1 h => ?_)
  · refine z_if_eq (C _) (pc := 10) (tgt := 17) dL_couldStaff_10 (by decide) h (fun h => ?_) (fun h => ?_)
    · refine z_lconst (C _) (pc := 17) (x := (0 : Int64)) dL_couldStaff_17 rfl ?_
      refine z_last (C []) (pc := 18) dL_couldStaff_18 vin01 ?_
      refine z_goto (C _) (pc := 19) (tgt := 30) dL_couldStaff_19 (by decide) ?_
      refine z_iconst (C _) (pc := 30) (x := (0 : Int32)) dL_couldStaff_30 kic_0 ?_
      exact z_wret (C []) T (pc := 31) dL_couldStaff_31 (by decide) (by decide) h
    · refine z_lconst (C _) (pc := 13) (x := (1 : Int64)) dL_couldStaff_13 rfl ?_
      refine z_goto (C _) (pc := 14) (tgt := 18) dL_couldStaff_14 (by decide) ?_
      refine z_last (C []) (pc := 18) dL_couldStaff_18 vin01 ?_
      refine z_goto (C _) (pc := 19) (tgt := 30) dL_couldStaff_19 (by decide) ?_
      refine z_iconst (C _) (pc := 30) (x := (0 : Int32)) dL_couldStaff_30 kic_0 ?_
      exact z_wret (C []) T (pc := 31) dL_couldStaff_31 (by decide) (by decide) h
  · obtain ⟨h0, h1, hc⟩ := h
    rcases hc with rfl | rfl
    · have h := h0 rfl
      refine z_catch (C _) TBh [] { startPc := 0, endPc := 19, handlerPc := 22, catchType := 13 } [{ startPc := 0, endPc := 19, handlerPc := 26, catchType := 15 }] rfl (fun z hz => nomatch hz) rfl (by decide) bw_193 nw_204 (tgt := 22) rfl (fun q9 => ?_)
      refine z_astore (C _) (pc := 22) (lv' := [(5, va_rf (some q9)), (0, va_rf (some a)), (1, .int x1), (2, .int x2), (3, .int x3), (4, va_rf (some o))]) dL_couldStaff_22 (by decide) rfl ?_
      refine z_iconst (C _) (pc := 24) (x := (1 : Int32)) dL_couldStaff_24 kic_1 ?_
      exact z_wret (C []) T (pc := 25) dL_couldStaff_25 (by decide) (by decide) h
    · have h := h1 rfl
      refine z_catch (C _) TBh [{ startPc := 0, endPc := 19, handlerPc := 22, catchType := 13 }] { startPc := 0, endPc := 19, handlerPc := 26, catchType := 15 } [] rfl (fun z hz => by obtain rfl := List.mem_singleton.mp hz; exact ⟨by decide, _, bw_193, by decide⟩) rfl (by decide) bw_194 nw_275 (tgt := 26) rfl (fun q9 => ?_)
      refine z_astore (C _) (pc := 26) (lv' := [(5, va_rf (some q9)), (0, va_rf (some a)), (1, .int x1), (2, .int x2), (3, .int x3), (4, va_rf (some o))]) dL_couldStaff_26 (by decide) rfl ?_
      refine z_iconst (C _) (pc := 28) (x := (2 : Int32)) dL_couldStaff_28 kic_2 ?_
      exact z_wret (C []) T (pc := 29) dL_couldStaff_29 (by decide) (by decide) h
def wp_L_duty (S : Hp) (a : Nat) (x1 : Int32) (x2 : Int32) (f : Nat → Int64) (Q : Int32 → Hp → (Nat → Int64) → Prop) : Prop := okA S 8 a ∧ wp_X8_duty S a x1 x2 (fun r S1 => Q (0 : Int32) S1 (vp_updL f (0 : Int32).toNatClampNeg r.toInt64)) (fun En S1 => (En = "java/lang/IndexOutOfBoundsException" → Q (1 : Int32) S1 f) ∧ (En = "java/lang/IllegalArgumentException" → Q (2 : Int32) S1 f) ∧ (En = "java/lang/IndexOutOfBoundsException" ∨ En = "java/lang/IllegalArgumentException"))
def rm_L_duty : Room := { frames := 9, cells := 2, slots := 12, locals := 148 }
set_option maxHeartbeats 4000000 in
set_option maxRecDepth 100000 in
theorem c_L_duty (l : Launch) (hfl : l.stackTraces = false) (v : Ev) (S : Hp) (a o : Nat) (x1 : Int32) (x2 : Int32) (f : Nat → Int64) : CW l v yL_duty cL_duty 5 [(0, 10, 13, 25), (0, 10, 17, 13)] rm_L_duty [va_rf (some a), .int x1, .int x2, va_rf (some o)] o f S (fun Q => wp_L_duty S a x1 x2 f Q) := by
  refine z_startW [(0, va_rf (some a)), (1, .int x1), (2, .int x2), (3, va_rf (some o))] bw_490 (by decide +kernel) (by simp only [la_i, la_r, la_n]) (cat_cr (cat_ci (cat_ci (cat_cr cat_nil)))) (by simp only [ls_i, ls_r, ls_n]; decide) (fun x9 A E Y Q h C TBh T => ?_)
  obtain ⟨ho, h⟩ := h
  refine z_aload_n (C _) (pc := 0) dL_duty_0 3 rfl ?_
  refine z_iconst (C _) (pc := 1) (x := (0 : Int32)) dL_duty_1 kic_0 ?_
  refine z_aload_n (C _) (pc := 2) dL_duty_2 0 rfl ?_
  refine z_iload_n (C _) (pc := 3) dL_duty_3 1 rfl ?_
  refine z_iload_n (C _) (pc := 4) dL_duty_4 2 rfl ?_
  refine z_Vi (C _) (pc := 5) (kc' := 2) (ks' := 12) (As := [.int x1, .int x2]) (rest := [.int (0 : Int32), va_rf (some o)]) rfl (c_X8_duty l hfl v S a x1 x2) mw_X8_duty bw_491 bw_492 bw_493 (fit_of rfl) rfl rfl (Nat.le_of_ble_eq_true rfl) (by decide) rfl ho dL_duty_5 h (fun r S1 h => ?_) (fun En S1 h => ?_)
  · refine z_i2l (C _) (pc := 8) dL_duty_8 ?_
    refine z_last (C []) (pc := 9) dL_duty_9 vin01 ?_
    refine z_goto (C _) (pc := 10) (tgt := 21) dL_duty_10 (by decide) ?_
    refine z_iconst (C _) (pc := 21) (x := (0 : Int32)) dL_duty_21 kic_0 ?_
    exact z_wret (C []) T (pc := 22) dL_duty_22 (by decide) (by decide) h
  · obtain ⟨h0, h1, hc⟩ := h
    rcases hc with rfl | rfl
    · have h := h0 rfl
      refine z_catch (C _) TBh [] { startPc := 0, endPc := 10, handlerPc := 13, catchType := 25 } [{ startPc := 0, endPc := 10, handlerPc := 17, catchType := 13 }] rfl (fun z hz => nomatch hz) rfl (by decide) bw_438 nw_452 (tgt := 13) rfl (fun q9 => ?_)
      refine z_astore (C _) (pc := 13) (lv' := [(4, va_rf (some q9)), (0, va_rf (some a)), (1, .int x1), (2, .int x2), (3, va_rf (some o))]) dL_duty_13 (by decide) rfl ?_
      refine z_iconst (C _) (pc := 15) (x := (1 : Int32)) dL_duty_15 kic_1 ?_
      exact z_wret (C []) T (pc := 16) dL_duty_16 (by decide) (by decide) h
    · have h := h1 rfl
      refine z_catch (C _) TBh [{ startPc := 0, endPc := 10, handlerPc := 13, catchType := 25 }] { startPc := 0, endPc := 10, handlerPc := 17, catchType := 13 } [] rfl (fun z hz => by obtain rfl := List.mem_singleton.mp hz; exact ⟨by decide, _, bw_438, by decide⟩) rfl (by decide) bw_193 nw_204 (tgt := 17) rfl (fun q9 => ?_)
      refine z_astore (C _) (pc := 17) (lv' := [(4, va_rf (some q9)), (0, va_rf (some a)), (1, .int x1), (2, .int x2), (3, va_rf (some o))]) dL_duty_17 (by decide) rfl ?_
      refine z_iconst (C _) (pc := 19) (x := (2 : Int32)) dL_duty_19 kic_2 ?_
      exact z_wret (C []) T (pc := 20) dL_duty_20 (by decide) (by decide) h
def wp_L_earned (S : Hp) (a : Nat) (x1 : Int32) (x2 : Int32) (f : Nat → Int64) (Q : Int32 → Hp → (Nat → Int64) → Prop) : Prop := okA S 8 a ∧ wp_X8_earned S a x1 x2 (fun r S1 => Q (0 : Int32) S1 (vp_updL f (0 : Int32).toNatClampNeg r.toInt64)) (fun En S1 => (En = "java/lang/IndexOutOfBoundsException" → Q (1 : Int32) S1 f) ∧ (En = "java/lang/IndexOutOfBoundsException"))
def rm_L_earned : Room := { frames := 9, cells := 2, slots := 12, locals := 148 }
set_option maxHeartbeats 4000000 in
set_option maxRecDepth 100000 in
theorem c_L_earned (l : Launch) (hfl : l.stackTraces = false) (v : Ev) (S : Hp) (a o : Nat) (x1 : Int32) (x2 : Int32) (f : Nat → Int64) : CW l v yL_earned cL_earned 5 [(0, 10, 13, 25)] rm_L_earned [va_rf (some a), .int x1, .int x2, va_rf (some o)] o f S (fun Q => wp_L_earned S a x1 x2 f Q) := by
  refine z_startW [(0, va_rf (some a)), (1, .int x1), (2, .int x2), (3, va_rf (some o))] bw_877 (by decide +kernel) (by simp only [la_i, la_r, la_n]) (cat_cr (cat_ci (cat_ci (cat_cr cat_nil)))) (by simp only [ls_i, ls_r, ls_n]; decide) (fun x9 A E Y Q h C TBh T => ?_)
  obtain ⟨ho, h⟩ := h
  refine z_aload_n (C _) (pc := 0) dL_earned_0 3 rfl ?_
  refine z_iconst (C _) (pc := 1) (x := (0 : Int32)) dL_earned_1 kic_0 ?_
  refine z_aload_n (C _) (pc := 2) dL_earned_2 0 rfl ?_
  refine z_iload_n (C _) (pc := 3) dL_earned_3 1 rfl ?_
  refine z_iload_n (C _) (pc := 4) dL_earned_4 2 rfl ?_
  refine z_Vi (C _) (pc := 5) (kc' := 2) (ks' := 12) (As := [.int x1, .int x2]) (rest := [.int (0 : Int32), va_rf (some o)]) rfl (c_X8_earned l hfl v S a x1 x2) mw_X8_earned bw_878 bw_879 bw_880 (fit_of rfl) rfl rfl (Nat.le_of_ble_eq_true rfl) (by decide) rfl ho dL_earned_5 h (fun r S1 h => ?_) (fun En S1 h => ?_)
  · refine z_i2l (C _) (pc := 8) dL_earned_8 ?_
    refine z_last (C []) (pc := 9) dL_earned_9 vin01 ?_
    refine z_goto (C _) (pc := 10) (tgt := 17) dL_earned_10 (by decide) ?_
    refine z_iconst (C _) (pc := 17) (x := (0 : Int32)) dL_earned_17 kic_0 ?_
    exact z_wret (C []) T (pc := 18) dL_earned_18 (by decide) (by decide) h
  · obtain ⟨h0, hc⟩ := h
    subst hc
    have h := h0 rfl
    refine z_catch (C _) TBh [] { startPc := 0, endPc := 10, handlerPc := 13, catchType := 25 } [] rfl (fun z hz => nomatch hz) rfl (by decide) bw_438 nw_452 (tgt := 13) rfl (fun q9 => ?_)
    refine z_astore (C _) (pc := 13) (lv' := [(4, va_rf (some q9)), (0, va_rf (some a)), (1, .int x1), (2, .int x2), (3, va_rf (some o))]) dL_earned_13 (by decide) rfl ?_
    refine z_iconst (C _) (pc := 15) (x := (1 : Int32)) dL_earned_15 kic_1 ?_
    exact z_wret (C []) T (pc := 16) dL_earned_16 (by decide) (by decide) h
def wp_L_edition (S : Hp) (a : Nat) (x1 : Int32) (x2 : Int32) (x3 : Int32) (x4 : Int32) (x5 : Int32) (x6 : Int32) (x7 : Int32) (f : Nat → Int64) (Q : Int32 → Hp → (Nat → Int64) → Prop) : Prop := okA S 8 a ∧ wp_X8_edition S a x1 x2 x3 x4 x5 x6 x7 (fun r S1 => Q (0 : Int32) S1 (vp_updL f (0 : Int32).toNatClampNeg r.toInt64)) (fun En S1 => (En = "java/lang/IndexOutOfBoundsException" → Q (1 : Int32) S1 f) ∧ (En = "java/lang/IllegalArgumentException" → Q (2 : Int32) S1 f) ∧ (En = "java/lang/IllegalStateException" → Q (3 : Int32) S1 f) ∧ (En = "java/lang/IndexOutOfBoundsException" ∨ En = "java/lang/IllegalArgumentException" ∨ En = "java/lang/IllegalStateException"))
def rm_L_edition : Room := { frames := 9, cells := 10, slots := 118, locals := 259 }
set_option maxHeartbeats 4000000 in
set_option maxRecDepth 100000 in
theorem c_L_edition (l : Launch) (hfl : l.stackTraces = false) (v : Ev) (S : Hp) (a o : Nat) (x1 : Int32) (x2 : Int32) (x3 : Int32) (x4 : Int32) (x5 : Int32) (x6 : Int32) (x7 : Int32) (f : Nat → Int64) : CW l v yL_edition cL_edition 10 [(0, 20, 23, 25), (0, 20, 27, 13), (0, 20, 31, 15)] rm_L_edition [va_rf (some a), .int x1, .int x2, .int x3, .int x4, .int x5, .int x6, .int x7, va_rf (some o)] o f S (fun Q => wp_L_edition S a x1 x2 x3 x4 x5 x6 x7 f Q) := by
  refine z_startW [(0, va_rf (some a)), (1, .int x1), (2, .int x2), (3, .int x3), (4, .int x4), (5, .int x5), (6, .int x6), (7, .int x7), (8, va_rf (some o))] bw_577 (by decide +kernel) (by simp only [la_i, la_r, la_n]) (cat_cr (cat_ci (cat_ci (cat_ci (cat_ci (cat_ci (cat_ci (cat_ci (cat_cr cat_nil))))))))) (by simp only [ls_i, ls_r, ls_n]; decide) (fun x9 A E Y Q h C TBh T => ?_)
  obtain ⟨ho, h⟩ := h
  refine z_aload (C _) (pc := 0) dL_edition_0 8 rfl ?_
  refine z_iconst (C _) (pc := 2) (x := (0 : Int32)) dL_edition_2 kic_0 ?_
  refine z_aload_n (C _) (pc := 3) dL_edition_3 0 rfl ?_
  refine z_iload_n (C _) (pc := 4) dL_edition_4 1 rfl ?_
  refine z_iload_n (C _) (pc := 5) dL_edition_5 2 rfl ?_
  refine z_iload_n (C _) (pc := 6) dL_edition_6 3 rfl ?_
  refine z_iload (C _) (pc := 7) dL_edition_7 4 rfl ?_
  refine z_iload (C _) (pc := 9) dL_edition_9 5 rfl ?_
  refine z_iload (C _) (pc := 11) dL_edition_11 6 rfl ?_
  refine z_iload (C _) (pc := 13) dL_edition_13 7 rfl ?_
  refine z_Vi (C _) (pc := 15) (kc' := 10) (ks' := 118) (As := [.int x1, .int x2, .int x3, .int x4, .int x5, .int x6, .int x7]) (rest := [.int (0 : Int32), va_rf (some o)]) rfl (c_X8_edition l hfl v S a x1 x2 x3 x4 x5 x6 x7) mw_X8_edition bw_578 bw_579 bw_580 (fit_of rfl) rfl rfl (Nat.le_of_ble_eq_true rfl) (by decide) rfl ho dL_edition_15 h (fun r S1 h => ?_) (fun En S1 h => ?_)
  · refine z_i2l (C _) (pc := 18) dL_edition_18 ?_
    refine z_last (C []) (pc := 19) dL_edition_19 vin01 ?_
    refine z_goto (C _) (pc := 20) (tgt := 35) dL_edition_20 (by decide) ?_
    refine z_iconst (C _) (pc := 35) (x := (0 : Int32)) dL_edition_35 kic_0 ?_
    exact z_wret (C []) T (pc := 36) dL_edition_36 (by decide) (by decide) h
  · obtain ⟨h0, h1, h2, hc⟩ := h
    rcases hc with rfl | rfl | rfl
    · have h := h0 rfl
      refine z_catch (C _) TBh [] { startPc := 0, endPc := 20, handlerPc := 23, catchType := 25 } [{ startPc := 0, endPc := 20, handlerPc := 27, catchType := 13 }, { startPc := 0, endPc := 20, handlerPc := 31, catchType := 15 }] rfl (fun z hz => nomatch hz) rfl (by decide) bw_438 nw_452 (tgt := 23) rfl (fun q9 => ?_)
      refine z_astore (C _) (pc := 23) (lv' := [(9, va_rf (some q9)), (0, va_rf (some a)), (1, .int x1), (2, .int x2), (3, .int x3), (4, .int x4), (5, .int x5), (6, .int x6), (7, .int x7), (8, va_rf (some o))]) dL_edition_23 (by decide) rfl ?_
      refine z_iconst (C _) (pc := 25) (x := (1 : Int32)) dL_edition_25 kic_1 ?_
      exact z_wret (C []) T (pc := 26) dL_edition_26 (by decide) (by decide) h
    · have h := h1 rfl
      refine z_catch (C _) TBh [{ startPc := 0, endPc := 20, handlerPc := 23, catchType := 25 }] { startPc := 0, endPc := 20, handlerPc := 27, catchType := 13 } [{ startPc := 0, endPc := 20, handlerPc := 31, catchType := 15 }] rfl (fun z hz => by obtain rfl := List.mem_singleton.mp hz; exact ⟨by decide, _, bw_438, by decide⟩) rfl (by decide) bw_193 nw_204 (tgt := 27) rfl (fun q9 => ?_)
      refine z_astore (C _) (pc := 27) (lv' := [(9, va_rf (some q9)), (0, va_rf (some a)), (1, .int x1), (2, .int x2), (3, .int x3), (4, .int x4), (5, .int x5), (6, .int x6), (7, .int x7), (8, va_rf (some o))]) dL_edition_27 (by decide) rfl ?_
      refine z_iconst (C _) (pc := 29) (x := (2 : Int32)) dL_edition_29 kic_2 ?_
      exact z_wret (C []) T (pc := 30) dL_edition_30 (by decide) (by decide) h
    · have h := h2 rfl
      refine z_catch (C _) TBh [{ startPc := 0, endPc := 20, handlerPc := 23, catchType := 25 }, { startPc := 0, endPc := 20, handlerPc := 27, catchType := 13 }] { startPc := 0, endPc := 20, handlerPc := 31, catchType := 15 } [] rfl (fun z hz => by rcases List.mem_cons.mp hz with rfl | hz; exact ⟨by decide, _, bw_438, by decide⟩; obtain rfl := List.mem_singleton.mp hz; exact ⟨by decide, _, bw_193, by decide⟩) rfl (by decide) bw_194 nw_275 (tgt := 31) rfl (fun q9 => ?_)
      refine z_astore (C _) (pc := 31) (lv' := [(9, va_rf (some q9)), (0, va_rf (some a)), (1, .int x1), (2, .int x2), (3, .int x3), (4, .int x4), (5, .int x5), (6, .int x6), (7, .int x7), (8, va_rf (some o))]) dL_edition_31 (by decide) rfl ?_
      refine z_iconst (C _) (pc := 33) (x := (3 : Int32)) dL_edition_33 kic_3 ?_
      exact z_wret (C []) T (pc := 34) dL_edition_34 (by decide) (by decide) h
def wp_L_event (S : Hp) (a : Nat) (x1 : Int32) (x2 : Int32) (x3 : Int32) (x4 : Int32) (x5 : Int32) (x6 : Int32) (f : Nat → Int64) (Q : Int32 → Hp → (Nat → Int64) → Prop) : Prop := okA S 8 a ∧ wp_X8_event S a x1 x2 x3 x4 x5 x6 (fun r S1 => Q (0 : Int32) S1 (vp_updL f (0 : Int32).toNatClampNeg r.toInt64)) (fun En S1 => (En = "java/lang/IndexOutOfBoundsException" → Q (1 : Int32) S1 f) ∧ (En = "java/lang/IllegalArgumentException" → Q (2 : Int32) S1 f) ∧ (En = "java/lang/IllegalStateException" → Q (3 : Int32) S1 f) ∧ (En = "java/lang/IndexOutOfBoundsException" ∨ En = "java/lang/IllegalArgumentException" ∨ En = "java/lang/IllegalStateException"))
def rm_L_event : Room := { frames := 9, cells := 9, slots := 113, locals := 258 }
set_option maxHeartbeats 4000000 in
set_option maxRecDepth 100000 in
theorem c_L_event (l : Launch) (hfl : l.stackTraces = false) (v : Ev) (S : Hp) (a o : Nat) (x1 : Int32) (x2 : Int32) (x3 : Int32) (x4 : Int32) (x5 : Int32) (x6 : Int32) (f : Nat → Int64) : CW l v yL_event cL_event 9 [(0, 18, 21, 25), (0, 18, 25, 13), (0, 18, 29, 15)] rm_L_event [va_rf (some a), .int x1, .int x2, .int x3, .int x4, .int x5, .int x6, va_rf (some o)] o f S (fun Q => wp_L_event S a x1 x2 x3 x4 x5 x6 f Q) := by
  refine z_startW [(0, va_rf (some a)), (1, .int x1), (2, .int x2), (3, .int x3), (4, .int x4), (5, .int x5), (6, .int x6), (7, va_rf (some o))] bw_704 (by decide +kernel) (by simp only [la_i, la_r, la_n]) (cat_cr (cat_ci (cat_ci (cat_ci (cat_ci (cat_ci (cat_ci (cat_cr cat_nil)))))))) (by simp only [ls_i, ls_r, ls_n]; decide) (fun x9 A E Y Q h C TBh T => ?_)
  obtain ⟨ho, h⟩ := h
  refine z_aload (C _) (pc := 0) dL_event_0 7 rfl ?_
  refine z_iconst (C _) (pc := 2) (x := (0 : Int32)) dL_event_2 kic_0 ?_
  refine z_aload_n (C _) (pc := 3) dL_event_3 0 rfl ?_
  refine z_iload_n (C _) (pc := 4) dL_event_4 1 rfl ?_
  refine z_iload_n (C _) (pc := 5) dL_event_5 2 rfl ?_
  refine z_iload_n (C _) (pc := 6) dL_event_6 3 rfl ?_
  refine z_iload (C _) (pc := 7) dL_event_7 4 rfl ?_
  refine z_iload (C _) (pc := 9) dL_event_9 5 rfl ?_
  refine z_iload (C _) (pc := 11) dL_event_11 6 rfl ?_
  refine z_Vi (C _) (pc := 13) (kc' := 9) (ks' := 113) (As := [.int x1, .int x2, .int x3, .int x4, .int x5, .int x6]) (rest := [.int (0 : Int32), va_rf (some o)]) rfl (c_X8_event l hfl v S a x1 x2 x3 x4 x5 x6) mw_X8_event bw_705 bw_706 bw_707 (fit_of rfl) rfl rfl (Nat.le_of_ble_eq_true rfl) (by decide) rfl ho dL_event_13 h (fun r S1 h => ?_) (fun En S1 h => ?_)
  · refine z_i2l (C _) (pc := 16) dL_event_16 ?_
    refine z_last (C []) (pc := 17) dL_event_17 vin01 ?_
    refine z_goto (C _) (pc := 18) (tgt := 33) dL_event_18 (by decide) ?_
    refine z_iconst (C _) (pc := 33) (x := (0 : Int32)) dL_event_33 kic_0 ?_
    exact z_wret (C []) T (pc := 34) dL_event_34 (by decide) (by decide) h
  · obtain ⟨h0, h1, h2, hc⟩ := h
    rcases hc with rfl | rfl | rfl
    · have h := h0 rfl
      refine z_catch (C _) TBh [] { startPc := 0, endPc := 18, handlerPc := 21, catchType := 25 } [{ startPc := 0, endPc := 18, handlerPc := 25, catchType := 13 }, { startPc := 0, endPc := 18, handlerPc := 29, catchType := 15 }] rfl (fun z hz => nomatch hz) rfl (by decide) bw_438 nw_452 (tgt := 21) rfl (fun q9 => ?_)
      refine z_astore (C _) (pc := 21) (lv' := [(8, va_rf (some q9)), (0, va_rf (some a)), (1, .int x1), (2, .int x2), (3, .int x3), (4, .int x4), (5, .int x5), (6, .int x6), (7, va_rf (some o))]) dL_event_21 (by decide) rfl ?_
      refine z_iconst (C _) (pc := 23) (x := (1 : Int32)) dL_event_23 kic_1 ?_
      exact z_wret (C []) T (pc := 24) dL_event_24 (by decide) (by decide) h
    · have h := h1 rfl
      refine z_catch (C _) TBh [{ startPc := 0, endPc := 18, handlerPc := 21, catchType := 25 }] { startPc := 0, endPc := 18, handlerPc := 25, catchType := 13 } [{ startPc := 0, endPc := 18, handlerPc := 29, catchType := 15 }] rfl (fun z hz => by obtain rfl := List.mem_singleton.mp hz; exact ⟨by decide, _, bw_438, by decide⟩) rfl (by decide) bw_193 nw_204 (tgt := 25) rfl (fun q9 => ?_)
      refine z_astore (C _) (pc := 25) (lv' := [(8, va_rf (some q9)), (0, va_rf (some a)), (1, .int x1), (2, .int x2), (3, .int x3), (4, .int x4), (5, .int x5), (6, .int x6), (7, va_rf (some o))]) dL_event_25 (by decide) rfl ?_
      refine z_iconst (C _) (pc := 27) (x := (2 : Int32)) dL_event_27 kic_2 ?_
      exact z_wret (C []) T (pc := 28) dL_event_28 (by decide) (by decide) h
    · have h := h2 rfl
      refine z_catch (C _) TBh [{ startPc := 0, endPc := 18, handlerPc := 21, catchType := 25 }, { startPc := 0, endPc := 18, handlerPc := 25, catchType := 13 }] { startPc := 0, endPc := 18, handlerPc := 29, catchType := 15 } [] rfl (fun z hz => by rcases List.mem_cons.mp hz with rfl | hz; exact ⟨by decide, _, bw_438, by decide⟩; obtain rfl := List.mem_singleton.mp hz; exact ⟨by decide, _, bw_193, by decide⟩) rfl (by decide) bw_194 nw_275 (tgt := 29) rfl (fun q9 => ?_)
      refine z_astore (C _) (pc := 29) (lv' := [(8, va_rf (some q9)), (0, va_rf (some a)), (1, .int x1), (2, .int x2), (3, .int x3), (4, .int x4), (5, .int x5), (6, .int x6), (7, va_rf (some o))]) dL_event_29 (by decide) rfl ?_
      refine z_iconst (C _) (pc := 31) (x := (3 : Int32)) dL_event_31 kic_3 ?_
      exact z_wret (C []) T (pc := 32) dL_event_32 (by decide) (by decide) h
def wp_L_holds (S : Hp) (a : Nat) (x1 : Int32) (x2 : Int32) (f : Nat → Int64) (Q : Int32 → Hp → (Nat → Int64) → Prop) : Prop := okA S 8 a ∧ wp_X8_holds S a x1 x2 (fun r S1 => if r = 0 then Q (0 : Int32) S1 (vp_updL f (0 : Int32).toNatClampNeg 0) else Q (0 : Int32) S1 (vp_updL f (0 : Int32).toNatClampNeg 1)) (fun En S1 => (En = "java/lang/IndexOutOfBoundsException" → Q (1 : Int32) S1 f) ∧ (En = "java/lang/IndexOutOfBoundsException"))
def rm_L_holds : Room := { frames := 9, cells := 2, slots := 12, locals := 148 }
set_option maxHeartbeats 4000000 in
set_option maxRecDepth 100000 in
theorem c_L_holds (l : Launch) (hfl : l.stackTraces = false) (v : Ev) (S : Hp) (a o : Nat) (x1 : Int32) (x2 : Int32) (f : Nat → Int64) : CW l v yL_holds cL_holds 5 [(0, 17, 20, 25)] rm_L_holds [va_rf (some a), .int x1, .int x2, va_rf (some o)] o f S (fun Q => wp_L_holds S a x1 x2 f Q) := by
  refine z_startW [(0, va_rf (some a)), (1, .int x1), (2, .int x2), (3, va_rf (some o))] bw_885 (by decide +kernel) (by simp only [la_i, la_r, la_n]) (cat_cr (cat_ci (cat_ci (cat_cr cat_nil)))) (by simp only [ls_i, ls_r, ls_n]; decide) (fun x9 A E Y Q h C TBh T => ?_)
  obtain ⟨ho, h⟩ := h
  refine z_aload_n (C _) (pc := 0) dL_holds_0 3 rfl ?_
  refine z_iconst (C _) (pc := 1) (x := (0 : Int32)) dL_holds_1 kic_0 ?_
  refine z_aload_n (C _) (pc := 2) dL_holds_2 0 rfl ?_
  refine z_iload_n (C _) (pc := 3) dL_holds_3 1 rfl ?_
  refine z_iload_n (C _) (pc := 4) dL_holds_4 2 rfl ?_
  refine z_Vi (C _) (pc := 5) (kc' := 2) (ks' := 12) (As := [.int x1, .int x2]) (rest := [.int (0 : Int32), va_rf (some o)]) rfl (c_X8_holds l hfl v S a x1 x2) mw_X8_holds bw_886 bw_887 bw_888 (fit_of rfl) rfl rfl (Nat.le_of_ble_eq_true rfl) (by decide) rfl ho dL_holds_5 h (fun r S1 h => ?_) (fun En S1 h => ?_)
  · refine z_if_eq (C _) (pc := 8) (tgt := 15) dL_holds_8 (by decide) h (fun h => ?_) (fun h => ?_)
    · refine z_lconst (C _) (pc := 15) (x := (0 : Int64)) dL_holds_15 rfl ?_
      refine z_last (C []) (pc := 16) dL_holds_16 vin01 ?_
      refine z_goto (C _) (pc := 17) (tgt := 24) dL_holds_17 (by decide) ?_
      refine z_iconst (C _) (pc := 24) (x := (0 : Int32)) dL_holds_24 kic_0 ?_
      exact z_wret (C []) T (pc := 25) dL_holds_25 (by decide) (by decide) h
    · refine z_lconst (C _) (pc := 11) (x := (1 : Int64)) dL_holds_11 rfl ?_
      refine z_goto (C _) (pc := 12) (tgt := 16) dL_holds_12 (by decide) ?_
      refine z_last (C []) (pc := 16) dL_holds_16 vin01 ?_
      refine z_goto (C _) (pc := 17) (tgt := 24) dL_holds_17 (by decide) ?_
      refine z_iconst (C _) (pc := 24) (x := (0 : Int32)) dL_holds_24 kic_0 ?_
      exact z_wret (C []) T (pc := 25) dL_holds_25 (by decide) (by decide) h
  · obtain ⟨h0, hc⟩ := h
    subst hc
    have h := h0 rfl
    refine z_catch (C _) TBh [] { startPc := 0, endPc := 17, handlerPc := 20, catchType := 25 } [] rfl (fun z hz => nomatch hz) rfl (by decide) bw_438 nw_452 (tgt := 20) rfl (fun q9 => ?_)
    refine z_astore (C _) (pc := 20) (lv' := [(4, va_rf (some q9)), (0, va_rf (some a)), (1, .int x1), (2, .int x2), (3, va_rf (some o))]) dL_holds_20 (by decide) rfl ?_
    refine z_iconst (C _) (pc := 22) (x := (1 : Int32)) dL_holds_22 kic_1 ?_
    exact z_wret (C []) T (pc := 23) dL_holds_23 (by decide) (by decide) h
def wp_L_join (S : Hp) (a : Nat) (x1 : Int32) (x2 : Int32) (f : Nat → Int64) (Q : Int32 → Hp → (Nat → Int64) → Prop) : Prop := okA S 8 a ∧ wp_X8_join S a x1 x2 (fun r S1 => Q (0 : Int32) S1 (vp_updL f (0 : Int32).toNatClampNeg r.toInt64)) (fun En S1 => (En = "java/lang/IndexOutOfBoundsException" → Q (1 : Int32) S1 f) ∧ (En = "java/lang/IllegalStateException" → Q (2 : Int32) S1 f) ∧ (En = "java/lang/IndexOutOfBoundsException" ∨ En = "java/lang/IllegalStateException"))
def rm_L_join : Room := { frames := 9, cells := 3, slots := 18, locals := 182 }
set_option maxHeartbeats 4000000 in
set_option maxRecDepth 100000 in
theorem c_L_join (l : Launch) (hfl : l.stackTraces = false) (v : Ev) (S : Hp) (a o : Nat) (x1 : Int32) (x2 : Int32) (f : Nat → Int64) : CW l v yL_join cL_join 5 [(0, 10, 13, 25), (0, 10, 17, 15)] rm_L_join [va_rf (some a), .int x1, .int x2, va_rf (some o)] o f S (fun Q => wp_L_join S a x1 x2 f Q) := by
  refine z_startW [(0, va_rf (some a)), (1, .int x1), (2, .int x2), (3, va_rf (some o))] bw_437 (by decide +kernel) (by simp only [la_i, la_r, la_n]) (cat_cr (cat_ci (cat_ci (cat_cr cat_nil)))) (by simp only [ls_i, ls_r, ls_n]; decide) (fun x9 A E Y Q h C TBh T => ?_)
  obtain ⟨ho, h⟩ := h
  refine z_aload_n (C _) (pc := 0) dL_join_0 3 rfl ?_
  refine z_iconst (C _) (pc := 1) (x := (0 : Int32)) dL_join_1 kic_0 ?_
  refine z_aload_n (C _) (pc := 2) dL_join_2 0 rfl ?_
  refine z_iload_n (C _) (pc := 3) dL_join_3 1 rfl ?_
  refine z_iload_n (C _) (pc := 4) dL_join_4 2 rfl ?_
  refine z_Vi (C _) (pc := 5) (kc' := 3) (ks' := 18) (As := [.int x1, .int x2]) (rest := [.int (0 : Int32), va_rf (some o)]) rfl (c_X8_join l hfl v S a x1 x2) mw_X8_join bw_439 bw_440 bw_441 (fit_of rfl) rfl rfl (Nat.le_of_ble_eq_true rfl) (by decide) rfl ho dL_join_5 h (fun r S1 h => ?_) (fun En S1 h => ?_)
  · refine z_i2l (C _) (pc := 8) dL_join_8 ?_
    refine z_last (C []) (pc := 9) dL_join_9 vin01 ?_
    refine z_goto (C _) (pc := 10) (tgt := 21) dL_join_10 (by decide) ?_
    refine z_iconst (C _) (pc := 21) (x := (0 : Int32)) dL_join_21 kic_0 ?_
    exact z_wret (C []) T (pc := 22) dL_join_22 (by decide) (by decide) h
  · obtain ⟨h0, h1, hc⟩ := h
    rcases hc with rfl | rfl
    · have h := h0 rfl
      refine z_catch (C _) TBh [] { startPc := 0, endPc := 10, handlerPc := 13, catchType := 25 } [{ startPc := 0, endPc := 10, handlerPc := 17, catchType := 15 }] rfl (fun z hz => nomatch hz) rfl (by decide) bw_438 nw_452 (tgt := 13) rfl (fun q9 => ?_)
      refine z_astore (C _) (pc := 13) (lv' := [(4, va_rf (some q9)), (0, va_rf (some a)), (1, .int x1), (2, .int x2), (3, va_rf (some o))]) dL_join_13 (by decide) rfl ?_
      refine z_iconst (C _) (pc := 15) (x := (1 : Int32)) dL_join_15 kic_1 ?_
      exact z_wret (C []) T (pc := 16) dL_join_16 (by decide) (by decide) h
    · have h := h1 rfl
      refine z_catch (C _) TBh [{ startPc := 0, endPc := 10, handlerPc := 13, catchType := 25 }] { startPc := 0, endPc := 10, handlerPc := 17, catchType := 15 } [] rfl (fun z hz => by obtain rfl := List.mem_singleton.mp hz; exact ⟨by decide, _, bw_438, by decide⟩) rfl (by decide) bw_194 nw_275 (tgt := 17) rfl (fun q9 => ?_)
      refine z_astore (C _) (pc := 17) (lv' := [(4, va_rf (some q9)), (0, va_rf (some a)), (1, .int x1), (2, .int x2), (3, va_rf (some o))]) dL_join_17 (by decide) rfl ?_
      refine z_iconst (C _) (pc := 19) (x := (2 : Int32)) dL_join_19 kic_2 ?_
      exact z_wret (C []) T (pc := 20) dL_join_20 (by decide) (by decide) h
def wp_L_lacks (S : Hp) (a : Nat) (x1 : Int32) (x2 : Int32) (f : Nat → Int64) (Q : Int32 → Hp → (Nat → Int64) → Prop) : Prop := okA S 8 a ∧ wp_X8_lacks S a x1 x2 (fun r S1 => Q (0 : Int32) S1 (vp_updL f (0 : Int32).toNatClampNeg r.toInt64)) (fun En S1 => (En = "java/lang/IndexOutOfBoundsException" → Q (1 : Int32) S1 f) ∧ (En = "java/lang/IllegalStateException" → Q (2 : Int32) S1 f) ∧ (En = "java/lang/IndexOutOfBoundsException" ∨ En = "java/lang/IllegalStateException"))
def rm_L_lacks : Room := { frames := 9, cells := 3, slots := 18, locals := 148 }
set_option maxHeartbeats 4000000 in
set_option maxRecDepth 100000 in
theorem c_L_lacks (l : Launch) (hfl : l.stackTraces = false) (v : Ev) (S : Hp) (a o : Nat) (x1 : Int32) (x2 : Int32) (f : Nat → Int64) : CW l v yL_lacks cL_lacks 5 [(0, 10, 13, 25), (0, 10, 17, 15)] rm_L_lacks [va_rf (some a), .int x1, .int x2, va_rf (some o)] o f S (fun Q => wp_L_lacks S a x1 x2 f Q) := by
  refine z_startW [(0, va_rf (some a)), (1, .int x1), (2, .int x2), (3, va_rf (some o))] bw_896 (by decide +kernel) (by simp only [la_i, la_r, la_n]) (cat_cr (cat_ci (cat_ci (cat_cr cat_nil)))) (by simp only [ls_i, ls_r, ls_n]; decide) (fun x9 A E Y Q h C TBh T => ?_)
  obtain ⟨ho, h⟩ := h
  refine z_aload_n (C _) (pc := 0) dL_lacks_0 3 rfl ?_
  refine z_iconst (C _) (pc := 1) (x := (0 : Int32)) dL_lacks_1 kic_0 ?_
  refine z_aload_n (C _) (pc := 2) dL_lacks_2 0 rfl ?_
  refine z_iload_n (C _) (pc := 3) dL_lacks_3 1 rfl ?_
  refine z_iload_n (C _) (pc := 4) dL_lacks_4 2 rfl ?_
  refine z_Vi (C _) (pc := 5) (kc' := 3) (ks' := 18) (As := [.int x1, .int x2]) (rest := [.int (0 : Int32), va_rf (some o)]) rfl (c_X8_lacks l hfl v S a x1 x2) mw_X8_lacks bw_897 bw_898 bw_899 (fit_of rfl) rfl rfl (Nat.le_of_ble_eq_true rfl) (by decide) rfl ho dL_lacks_5 h (fun r S1 h => ?_) (fun En S1 h => ?_)
  · refine z_i2l (C _) (pc := 8) dL_lacks_8 ?_
    refine z_last (C []) (pc := 9) dL_lacks_9 vin01 ?_
    refine z_goto (C _) (pc := 10) (tgt := 21) dL_lacks_10 (by decide) ?_
    refine z_iconst (C _) (pc := 21) (x := (0 : Int32)) dL_lacks_21 kic_0 ?_
    exact z_wret (C []) T (pc := 22) dL_lacks_22 (by decide) (by decide) h
  · obtain ⟨h0, h1, hc⟩ := h
    rcases hc with rfl | rfl
    · have h := h0 rfl
      refine z_catch (C _) TBh [] { startPc := 0, endPc := 10, handlerPc := 13, catchType := 25 } [{ startPc := 0, endPc := 10, handlerPc := 17, catchType := 15 }] rfl (fun z hz => nomatch hz) rfl (by decide) bw_438 nw_452 (tgt := 13) rfl (fun q9 => ?_)
      refine z_astore (C _) (pc := 13) (lv' := [(4, va_rf (some q9)), (0, va_rf (some a)), (1, .int x1), (2, .int x2), (3, va_rf (some o))]) dL_lacks_13 (by decide) rfl ?_
      refine z_iconst (C _) (pc := 15) (x := (1 : Int32)) dL_lacks_15 kic_1 ?_
      exact z_wret (C []) T (pc := 16) dL_lacks_16 (by decide) (by decide) h
    · have h := h1 rfl
      refine z_catch (C _) TBh [{ startPc := 0, endPc := 10, handlerPc := 13, catchType := 25 }] { startPc := 0, endPc := 10, handlerPc := 17, catchType := 15 } [] rfl (fun z hz => by obtain rfl := List.mem_singleton.mp hz; exact ⟨by decide, _, bw_438, by decide⟩) rfl (by decide) bw_194 nw_275 (tgt := 17) rfl (fun q9 => ?_)
      refine z_astore (C _) (pc := 17) (lv' := [(4, va_rf (some q9)), (0, va_rf (some a)), (1, .int x1), (2, .int x2), (3, va_rf (some o))]) dL_lacks_17 (by decide) rfl ?_
      refine z_iconst (C _) (pc := 19) (x := (2 : Int32)) dL_lacks_19 kic_2 ?_
      exact z_wret (C []) T (pc := 20) dL_lacks_20 (by decide) (by decide) h
def wp_L_leader (S : Hp) (a : Nat) (f : Nat → Int64) (Q : Int32 → Hp → (Nat → Int64) → Prop) : Prop := okA S 8 a ∧ wp_X8_leader S a (fun r S1 => Q (0 : Int32) S1 (vp_updL f (0 : Int32).toNatClampNeg r.toInt64)) (fun En S1 => (En = "java/lang/IllegalStateException" → Q (1 : Int32) S1 f) ∧ (En = "java/lang/IllegalStateException"))
def rm_L_leader : Room := { frames := 8, cells := 6, slots := 84, locals := 251 }
set_option maxHeartbeats 4000000 in
set_option maxRecDepth 100000 in
theorem c_L_leader (l : Launch) (hfl : l.stackTraces = false) (v : Ev) (S : Hp) (a o : Nat) (f : Nat → Int64) : CW l v yL_leader cL_leader 3 [(0, 8, 11, 15)] rm_L_leader [va_rf (some a), va_rf (some o)] o f S (fun Q => wp_L_leader S a f Q) := by
  refine z_startW [(0, va_rf (some a)), (1, va_rf (some o))] bw_513 (by decide +kernel) (by simp only [la_i, la_r, la_n]) (cat_cr (cat_cr cat_nil)) (by simp only [ls_i, ls_r, ls_n]; decide) (fun x9 A E Y Q h C TBh T => ?_)
  obtain ⟨ho, h⟩ := h
  refine z_aload_n (C _) (pc := 0) dL_leader_0 1 rfl ?_
  refine z_iconst (C _) (pc := 1) (x := (0 : Int32)) dL_leader_1 kic_0 ?_
  refine z_aload_n (C _) (pc := 2) dL_leader_2 0 rfl ?_
  refine z_Vi (C _) (pc := 3) (kc' := 6) (ks' := 84) (As := []) (rest := [.int (0 : Int32), va_rf (some o)]) rfl (c_X8_leader l hfl v S a) mw_X8_leader bw_514 bw_515 bw_516 (fit_of rfl) rfl rfl (Nat.le_of_ble_eq_true rfl) (by decide) rfl ho dL_leader_3 h (fun r S1 h => ?_) (fun En S1 h => ?_)
  · refine z_i2l (C _) (pc := 6) dL_leader_6 ?_
    refine z_last (C []) (pc := 7) dL_leader_7 vin01 ?_
    refine z_goto (C _) (pc := 8) (tgt := 14) dL_leader_8 (by decide) ?_
    refine z_iconst (C _) (pc := 14) (x := (0 : Int32)) dL_leader_14 kic_0 ?_
    exact z_wret (C []) T (pc := 15) dL_leader_15 (by decide) (by decide) h
  · obtain ⟨h0, hc⟩ := h
    subst hc
    have h := h0 rfl
    refine z_catch (C _) TBh [] { startPc := 0, endPc := 8, handlerPc := 11, catchType := 15 } [] rfl (fun z hz => nomatch hz) rfl (by decide) bw_194 nw_275 (tgt := 11) rfl (fun q9 => ?_)
    refine z_astore_n (C _) (pc := 11) (lv' := [(2, va_rf (some q9)), (0, va_rf (some a)), (1, va_rf (some o))]) dL_leader_11 (by decide) rfl ?_
    refine z_iconst (C _) (pc := 12) (x := (1 : Int32)) dL_leader_12 kic_1 ?_
    exact z_wret (C []) T (pc := 13) dL_leader_13 (by decide) (by decide) h
def wp_L_leave (S : Hp) (a : Nat) (x1 : Int32) (f : Nat → Int64) (Q : Int32 → Hp → (Nat → Int64) → Prop) : Prop := okA S 8 a ∧ wp_X8_leave S a x1 (fun r S1 => Q (0 : Int32) S1 (vp_updL f (0 : Int32).toNatClampNeg r.toInt64)) (fun En S1 => (En = "java/lang/IndexOutOfBoundsException" → Q (1 : Int32) S1 f) ∧ (En = "java/lang/IllegalStateException" → Q (2 : Int32) S1 f) ∧ (En = "java/lang/IndexOutOfBoundsException" ∨ En = "java/lang/IllegalStateException"))
def rm_L_leave : Room := { frames := 9, cells := 2, slots := 12, locals := 181 }
set_option maxHeartbeats 4000000 in
set_option maxRecDepth 100000 in
theorem c_L_leave (l : Launch) (hfl : l.stackTraces = false) (v : Ev) (S : Hp) (a o : Nat) (x1 : Int32) (f : Nat → Int64) : CW l v yL_leave cL_leave 4 [(0, 9, 12, 25), (0, 9, 15, 15)] rm_L_leave [va_rf (some a), .int x1, va_rf (some o)] o f S (fun Q => wp_L_leave S a x1 f Q) := by
  refine z_startW [(0, va_rf (some a)), (1, .int x1), (2, va_rf (some o))] bw_474 (by decide +kernel) (by simp only [la_i, la_r, la_n]) (cat_cr (cat_ci (cat_cr cat_nil))) (by simp only [ls_i, ls_r, ls_n]; decide) (fun x9 A E Y Q h C TBh T => ?_)
  obtain ⟨ho, h⟩ := h
  refine z_aload_n (C _) (pc := 0) dL_leave_0 2 rfl ?_
  refine z_iconst (C _) (pc := 1) (x := (0 : Int32)) dL_leave_1 kic_0 ?_
  refine z_aload_n (C _) (pc := 2) dL_leave_2 0 rfl ?_
  refine z_iload_n (C _) (pc := 3) dL_leave_3 1 rfl ?_
  refine z_Vi (C _) (pc := 4) (kc' := 2) (ks' := 12) (As := [.int x1]) (rest := [.int (0 : Int32), va_rf (some o)]) rfl (c_X8_leave l hfl v S a x1) mw_X8_leave bw_475 bw_476 bw_477 (fit_of rfl) rfl rfl (Nat.le_of_ble_eq_true rfl) (by decide) rfl ho dL_leave_4 h (fun r S1 h => ?_) (fun En S1 h => ?_)
  · refine z_i2l (C _) (pc := 7) dL_leave_7 ?_
    refine z_last (C []) (pc := 8) dL_leave_8 vin01 ?_
    refine z_goto (C _) (pc := 9) (tgt := 18) dL_leave_9 (by decide) ?_
    refine z_iconst (C _) (pc := 18) (x := (0 : Int32)) dL_leave_18 kic_0 ?_
    exact z_wret (C []) T (pc := 19) dL_leave_19 (by decide) (by decide) h
  · obtain ⟨h0, h1, hc⟩ := h
    rcases hc with rfl | rfl
    · have h := h0 rfl
      refine z_catch (C _) TBh [] { startPc := 0, endPc := 9, handlerPc := 12, catchType := 25 } [{ startPc := 0, endPc := 9, handlerPc := 15, catchType := 15 }] rfl (fun z hz => nomatch hz) rfl (by decide) bw_438 nw_452 (tgt := 12) rfl (fun q9 => ?_)
      refine z_astore_n (C _) (pc := 12) (lv' := [(3, va_rf (some q9)), (0, va_rf (some a)), (1, .int x1), (2, va_rf (some o))]) dL_leave_12 (by decide) rfl ?_
      refine z_iconst (C _) (pc := 13) (x := (1 : Int32)) dL_leave_13 kic_1 ?_
      exact z_wret (C []) T (pc := 14) dL_leave_14 (by decide) (by decide) h
    · have h := h1 rfl
      refine z_catch (C _) TBh [{ startPc := 0, endPc := 9, handlerPc := 12, catchType := 25 }] { startPc := 0, endPc := 9, handlerPc := 15, catchType := 15 } [] rfl (fun z hz => by obtain rfl := List.mem_singleton.mp hz; exact ⟨by decide, _, bw_438, by decide⟩) rfl (by decide) bw_194 nw_275 (tgt := 15) rfl (fun q9 => ?_)
      refine z_astore_n (C _) (pc := 15) (lv' := [(3, va_rf (some q9)), (0, va_rf (some a)), (1, .int x1), (2, va_rf (some o))]) dL_leave_15 (by decide) rfl ?_
      refine z_iconst (C _) (pc := 16) (x := (2 : Int32)) dL_leave_16 kic_2 ?_
      exact z_wret (C []) T (pc := 17) dL_leave_17 (by decide) (by decide) h
def wp_L_ofChild (S : Hp) (a : Nat) (x1 : Int32) (x2 : Int32) (f : Nat → Int64) (Q : Int32 → Hp → (Nat → Int64) → Prop) : Prop := okA S 8 a ∧ wp_X8_ofChild S a x1 x2 (fun r S1 => Q (0 : Int32) S1 (vp_updL f (0 : Int32).toNatClampNeg r.toInt64)) (fun En S1 => (En = "java/lang/IndexOutOfBoundsException" → Q (1 : Int32) S1 f) ∧ (En = "java/lang/IllegalArgumentException" → Q (2 : Int32) S1 f) ∧ (En = "java/lang/IndexOutOfBoundsException" ∨ En = "java/lang/IllegalArgumentException"))
def rm_L_ofChild : Room := { frames := 9, cells := 2, slots := 12, locals := 147 }
set_option maxHeartbeats 4000000 in
set_option maxRecDepth 100000 in
theorem c_L_ofChild (l : Launch) (hfl : l.stackTraces = false) (v : Ev) (S : Hp) (a o : Nat) (x1 : Int32) (x2 : Int32) (f : Nat → Int64) : CW l v yL_ofChild cL_ofChild 5 [(0, 10, 13, 25), (0, 10, 17, 13)] rm_L_ofChild [va_rf (some a), .int x1, .int x2, va_rf (some o)] o f S (fun Q => wp_L_ofChild S a x1 x2 f Q) := by
  refine z_startW [(0, va_rf (some a)), (1, .int x1), (2, .int x2), (3, va_rf (some o))] bw_862 (by decide +kernel) (by simp only [la_i, la_r, la_n]) (cat_cr (cat_ci (cat_ci (cat_cr cat_nil)))) (by simp only [ls_i, ls_r, ls_n]; decide) (fun x9 A E Y Q h C TBh T => ?_)
  obtain ⟨ho, h⟩ := h
  refine z_aload_n (C _) (pc := 0) dL_ofChild_0 3 rfl ?_
  refine z_iconst (C _) (pc := 1) (x := (0 : Int32)) dL_ofChild_1 kic_0 ?_
  refine z_aload_n (C _) (pc := 2) dL_ofChild_2 0 rfl ?_
  refine z_iload_n (C _) (pc := 3) dL_ofChild_3 1 rfl ?_
  refine z_iload_n (C _) (pc := 4) dL_ofChild_4 2 rfl ?_
  refine z_Vi (C _) (pc := 5) (kc' := 2) (ks' := 12) (As := [.int x1, .int x2]) (rest := [.int (0 : Int32), va_rf (some o)]) rfl (c_X8_ofChild l hfl v S a x1 x2) mw_X8_ofChild bw_863 bw_864 bw_865 (fit_of rfl) rfl rfl (Nat.le_of_ble_eq_true rfl) (by decide) rfl ho dL_ofChild_5 h (fun r S1 h => ?_) (fun En S1 h => ?_)
  · refine z_i2l (C _) (pc := 8) dL_ofChild_8 ?_
    refine z_last (C []) (pc := 9) dL_ofChild_9 vin01 ?_
    refine z_goto (C _) (pc := 10) (tgt := 21) dL_ofChild_10 (by decide) ?_
    refine z_iconst (C _) (pc := 21) (x := (0 : Int32)) dL_ofChild_21 kic_0 ?_
    exact z_wret (C []) T (pc := 22) dL_ofChild_22 (by decide) (by decide) h
  · obtain ⟨h0, h1, hc⟩ := h
    rcases hc with rfl | rfl
    · have h := h0 rfl
      refine z_catch (C _) TBh [] { startPc := 0, endPc := 10, handlerPc := 13, catchType := 25 } [{ startPc := 0, endPc := 10, handlerPc := 17, catchType := 13 }] rfl (fun z hz => nomatch hz) rfl (by decide) bw_438 nw_452 (tgt := 13) rfl (fun q9 => ?_)
      refine z_astore (C _) (pc := 13) (lv' := [(4, va_rf (some q9)), (0, va_rf (some a)), (1, .int x1), (2, .int x2), (3, va_rf (some o))]) dL_ofChild_13 (by decide) rfl ?_
      refine z_iconst (C _) (pc := 15) (x := (1 : Int32)) dL_ofChild_15 kic_1 ?_
      exact z_wret (C []) T (pc := 16) dL_ofChild_16 (by decide) (by decide) h
    · have h := h1 rfl
      refine z_catch (C _) TBh [{ startPc := 0, endPc := 10, handlerPc := 13, catchType := 25 }] { startPc := 0, endPc := 10, handlerPc := 17, catchType := 13 } [] rfl (fun z hz => by obtain rfl := List.mem_singleton.mp hz; exact ⟨by decide, _, bw_438, by decide⟩) rfl (by decide) bw_193 nw_204 (tgt := 17) rfl (fun q9 => ?_)
      refine z_astore (C _) (pc := 17) (lv' := [(4, va_rf (some q9)), (0, va_rf (some a)), (1, .int x1), (2, .int x2), (3, va_rf (some o))]) dL_ofChild_17 (by decide) rfl ?_
      refine z_iconst (C _) (pc := 19) (x := (2 : Int32)) dL_ofChild_19 kic_2 ?_
      exact z_wret (C []) T (pc := 20) dL_ofChild_20 (by decide) (by decide) h
def wp_L_ofTroop (S : Hp) (a : Nat) (x1 : Int32) (x2 : Int32) (f : Nat → Int64) (Q : Int32 → Hp → (Nat → Int64) → Prop) : Prop := okA S 8 a ∧ wp_X8_ofTroop S a x1 x2 (fun r S1 => Q (0 : Int32) S1 (vp_updL f (0 : Int32).toNatClampNeg r.toInt64)) (fun En S1 => (En = "java/lang/IndexOutOfBoundsException" → Q (1 : Int32) S1 f) ∧ (En = "java/lang/IndexOutOfBoundsException"))
def rm_L_ofTroop : Room := { frames := 9, cells := 1, slots := 6, locals := 147 }
set_option maxHeartbeats 4000000 in
set_option maxRecDepth 100000 in
theorem c_L_ofTroop (l : Launch) (hfl : l.stackTraces = false) (v : Ev) (S : Hp) (a o : Nat) (x1 : Int32) (x2 : Int32) (f : Nat → Int64) : CW l v yL_ofTroop cL_ofTroop 5 [(0, 10, 13, 25)] rm_L_ofTroop [va_rf (some a), .int x1, .int x2, va_rf (some o)] o f S (fun Q => wp_L_ofTroop S a x1 x2 f Q) := by
  refine z_startW [(0, va_rf (some a)), (1, .int x1), (2, .int x2), (3, va_rf (some o))] bw_870 (by decide +kernel) (by simp only [la_i, la_r, la_n]) (cat_cr (cat_ci (cat_ci (cat_cr cat_nil)))) (by simp only [ls_i, ls_r, ls_n]; decide) (fun x9 A E Y Q h C TBh T => ?_)
  obtain ⟨ho, h⟩ := h
  refine z_aload_n (C _) (pc := 0) dL_ofTroop_0 3 rfl ?_
  refine z_iconst (C _) (pc := 1) (x := (0 : Int32)) dL_ofTroop_1 kic_0 ?_
  refine z_aload_n (C _) (pc := 2) dL_ofTroop_2 0 rfl ?_
  refine z_iload_n (C _) (pc := 3) dL_ofTroop_3 1 rfl ?_
  refine z_iload_n (C _) (pc := 4) dL_ofTroop_4 2 rfl ?_
  refine z_Vi (C _) (pc := 5) (kc' := 1) (ks' := 6) (As := [.int x1, .int x2]) (rest := [.int (0 : Int32), va_rf (some o)]) rfl (c_X8_ofTroop l hfl v S a x1 x2) mw_X8_ofTroop bw_871 bw_872 bw_873 (fit_of rfl) rfl rfl (Nat.le_of_ble_eq_true rfl) (by decide) rfl ho dL_ofTroop_5 h (fun r S1 h => ?_) (fun En S1 h => ?_)
  · refine z_i2l (C _) (pc := 8) dL_ofTroop_8 ?_
    refine z_last (C []) (pc := 9) dL_ofTroop_9 vin01 ?_
    refine z_goto (C _) (pc := 10) (tgt := 17) dL_ofTroop_10 (by decide) ?_
    refine z_iconst (C _) (pc := 17) (x := (0 : Int32)) dL_ofTroop_17 kic_0 ?_
    exact z_wret (C []) T (pc := 18) dL_ofTroop_18 (by decide) (by decide) h
  · obtain ⟨h0, hc⟩ := h
    subst hc
    have h := h0 rfl
    refine z_catch (C _) TBh [] { startPc := 0, endPc := 10, handlerPc := 13, catchType := 25 } [] rfl (fun z hz => nomatch hz) rfl (by decide) bw_438 nw_452 (tgt := 13) rfl (fun q9 => ?_)
    refine z_astore (C _) (pc := 13) (lv' := [(4, va_rf (some q9)), (0, va_rf (some a)), (1, .int x1), (2, .int x2), (3, va_rf (some o))]) dL_ofTroop_13 (by decide) rfl ?_
    refine z_iconst (C _) (pc := 15) (x := (1 : Int32)) dL_ofTroop_15 kic_1 ?_
    exact z_wret (C []) T (pc := 16) dL_ofTroop_16 (by decide) (by decide) h
def wp_L_owed (S : Hp) (a : Nat) (x1 : Int32) (f : Nat → Int64) (Q : Int32 → Hp → (Nat → Int64) → Prop) : Prop := okA S 8 a ∧ wp_X8_owed S a x1 (fun r S1 => Q (0 : Int32) S1 (vp_updL f (0 : Int32).toNatClampNeg r.toInt64)) (fun En S1 => (En = "java/lang/IndexOutOfBoundsException" → Q (1 : Int32) S1 f) ∧ (En = "java/lang/IndexOutOfBoundsException"))
def rm_L_owed : Room := { frames := 9, cells := 1, slots := 6, locals := 148 }
set_option maxHeartbeats 4000000 in
set_option maxRecDepth 100000 in
theorem c_L_owed (l : Launch) (hfl : l.stackTraces = false) (v : Ev) (S : Hp) (a o : Nat) (x1 : Int32) (f : Nat → Int64) : CW l v yL_owed cL_owed 4 [(0, 9, 12, 25)] rm_L_owed [va_rf (some a), .int x1, va_rf (some o)] o f S (fun Q => wp_L_owed S a x1 f Q) := by
  refine z_startW [(0, va_rf (some a)), (1, .int x1), (2, va_rf (some o))] bw_855 (by decide +kernel) (by simp only [la_i, la_r, la_n]) (cat_cr (cat_ci (cat_cr cat_nil))) (by simp only [ls_i, ls_r, ls_n]; decide) (fun x9 A E Y Q h C TBh T => ?_)
  obtain ⟨ho, h⟩ := h
  refine z_aload_n (C _) (pc := 0) dL_owed_0 2 rfl ?_
  refine z_iconst (C _) (pc := 1) (x := (0 : Int32)) dL_owed_1 kic_0 ?_
  refine z_aload_n (C _) (pc := 2) dL_owed_2 0 rfl ?_
  refine z_iload_n (C _) (pc := 3) dL_owed_3 1 rfl ?_
  refine z_Vi (C _) (pc := 4) (kc' := 1) (ks' := 6) (As := [.int x1]) (rest := [.int (0 : Int32), va_rf (some o)]) rfl (c_X8_owed l hfl v S a x1) mw_X8_owed bw_856 bw_857 bw_858 (fit_of rfl) rfl rfl (Nat.le_of_ble_eq_true rfl) (by decide) rfl ho dL_owed_4 h (fun r S1 h => ?_) (fun En S1 h => ?_)
  · refine z_i2l (C _) (pc := 7) dL_owed_7 ?_
    refine z_last (C []) (pc := 8) dL_owed_8 vin01 ?_
    refine z_goto (C _) (pc := 9) (tgt := 15) dL_owed_9 (by decide) ?_
    refine z_iconst (C _) (pc := 15) (x := (0 : Int32)) dL_owed_15 kic_0 ?_
    exact z_wret (C []) T (pc := 16) dL_owed_16 (by decide) (by decide) h
  · obtain ⟨h0, hc⟩ := h
    subst hc
    have h := h0 rfl
    refine z_catch (C _) TBh [] { startPc := 0, endPc := 9, handlerPc := 12, catchType := 25 } [] rfl (fun z hz => nomatch hz) rfl (by decide) bw_438 nw_452 (tgt := 12) rfl (fun q9 => ?_)
    refine z_astore_n (C _) (pc := 12) (lv' := [(3, va_rf (some q9)), (0, va_rf (some a)), (1, .int x1), (2, va_rf (some o))]) dL_owed_12 (by decide) rfl ?_
    refine z_iconst (C _) (pc := 13) (x := (1 : Int32)) dL_owed_13 kic_1 ?_
    exact z_wret (C []) T (pc := 14) dL_owed_14 (by decide) (by decide) h
def wp_L_pass (S : Hp) (a : Nat) (x1 : Int32) (f : Nat → Int64) (Q : Int32 → Hp → (Nat → Int64) → Prop) : Prop := okA S 8 a ∧ wp_X8_pass S a x1 (fun r S1 => Q (0 : Int32) S1 (vp_updL f (0 : Int32).toNatClampNeg r.toInt64)) (fun En S1 => (En = "java/lang/IllegalArgumentException" → Q (1 : Int32) S1 f) ∧ (En = "java/lang/IllegalStateException" → Q (2 : Int32) S1 f) ∧ (En = "java/lang/IllegalArgumentException" ∨ En = "java/lang/IllegalStateException"))
def rm_L_pass : Room := { frames := 8, cells := 2, slots := 12, locals := 125 }
set_option maxHeartbeats 4000000 in
set_option maxRecDepth 100000 in
theorem c_L_pass (l : Launch) (hfl : l.stackTraces = false) (v : Ev) (S : Hp) (a o : Nat) (x1 : Int32) (f : Nat → Int64) : CW l v yL_pass cL_pass 4 [(0, 9, 12, 13), (0, 9, 15, 15)] rm_L_pass [va_rf (some a), .int x1, va_rf (some o)] o f S (fun Q => wp_L_pass S a x1 f Q) := by
  refine z_startW [(0, va_rf (some a)), (1, .int x1), (2, va_rf (some o))] bw_505 (by decide +kernel) (by simp only [la_i, la_r, la_n]) (cat_cr (cat_ci (cat_cr cat_nil))) (by simp only [ls_i, ls_r, ls_n]; decide) (fun x9 A E Y Q h C TBh T => ?_)
  obtain ⟨ho, h⟩ := h
  refine z_aload_n (C _) (pc := 0) dL_pass_0 2 rfl ?_
  refine z_iconst (C _) (pc := 1) (x := (0 : Int32)) dL_pass_1 kic_0 ?_
  refine z_aload_n (C _) (pc := 2) dL_pass_2 0 rfl ?_
  refine z_iload_n (C _) (pc := 3) dL_pass_3 1 rfl ?_
  refine z_Vi (C _) (pc := 4) (kc' := 2) (ks' := 12) (As := [.int x1]) (rest := [.int (0 : Int32), va_rf (some o)]) rfl (c_X8_pass l hfl v S a x1) mw_X8_pass bw_506 bw_507 bw_508 (fit_of rfl) rfl rfl (Nat.le_of_ble_eq_true rfl) (by decide) rfl ho dL_pass_4 h (fun r S1 h => ?_) (fun En S1 h => ?_)
  · refine z_i2l (C _) (pc := 7) dL_pass_7 ?_
    refine z_last (C []) (pc := 8) dL_pass_8 vin01 ?_
    refine z_goto (C _) (pc := 9) (tgt := 18) dL_pass_9 (by decide) ?_
    refine z_iconst (C _) (pc := 18) (x := (0 : Int32)) dL_pass_18 kic_0 ?_
    exact z_wret (C []) T (pc := 19) dL_pass_19 (by decide) (by decide) h
  · obtain ⟨h0, h1, hc⟩ := h
    rcases hc with rfl | rfl
    · have h := h0 rfl
      refine z_catch (C _) TBh [] { startPc := 0, endPc := 9, handlerPc := 12, catchType := 13 } [{ startPc := 0, endPc := 9, handlerPc := 15, catchType := 15 }] rfl (fun z hz => nomatch hz) rfl (by decide) bw_193 nw_204 (tgt := 12) rfl (fun q9 => ?_)
      refine z_astore_n (C _) (pc := 12) (lv' := [(3, va_rf (some q9)), (0, va_rf (some a)), (1, .int x1), (2, va_rf (some o))]) dL_pass_12 (by decide) rfl ?_
      refine z_iconst (C _) (pc := 13) (x := (1 : Int32)) dL_pass_13 kic_1 ?_
      exact z_wret (C []) T (pc := 14) dL_pass_14 (by decide) (by decide) h
    · have h := h1 rfl
      refine z_catch (C _) TBh [{ startPc := 0, endPc := 9, handlerPc := 12, catchType := 13 }] { startPc := 0, endPc := 9, handlerPc := 15, catchType := 15 } [] rfl (fun z hz => by obtain rfl := List.mem_singleton.mp hz; exact ⟨by decide, _, bw_193, by decide⟩) rfl (by decide) bw_194 nw_275 (tgt := 15) rfl (fun q9 => ?_)
      refine z_astore_n (C _) (pc := 15) (lv' := [(3, va_rf (some q9)), (0, va_rf (some a)), (1, .int x1), (2, va_rf (some o))]) dL_pass_15 (by decide) rfl ?_
      refine z_iconst (C _) (pc := 16) (x := (2 : Int32)) dL_pass_16 kic_2 ?_
      exact z_wret (C []) T (pc := 17) dL_pass_17 (by decide) (by decide) h
def wp_L_patrol (S : Hp) (a : Nat) (x1 : Int32) (x2 : Int32) (f : Nat → Int64) (Q : Int32 → Hp → (Nat → Int64) → Prop) : Prop := okA S 8 a ∧ wp_X8_patrol S a x1 x2 (fun r S1 => Q (0 : Int32) S1 (vp_updL f (0 : Int32).toNatClampNeg r.toInt64)) (fun En S1 => (En = "java/lang/IndexOutOfBoundsException" → Q (1 : Int32) S1 f) ∧ (En = "java/lang/IllegalArgumentException" → Q (2 : Int32) S1 f) ∧ (En = "java/lang/IllegalStateException" → Q (3 : Int32) S1 f) ∧ (En = "java/lang/IndexOutOfBoundsException" ∨ En = "java/lang/IllegalArgumentException" ∨ En = "java/lang/IllegalStateException"))
def rm_L_patrol : Room := { frames := 9, cells := 3, slots := 18, locals := 148 }
set_option maxHeartbeats 4000000 in
set_option maxRecDepth 100000 in
theorem c_L_patrol (l : Launch) (hfl : l.stackTraces = false) (v : Ev) (S : Hp) (a o : Nat) (x1 : Int32) (x2 : Int32) (f : Nat → Int64) : CW l v yL_patrol cL_patrol 5 [(0, 10, 13, 25), (0, 10, 17, 13), (0, 10, 21, 15)] rm_L_patrol [va_rf (some a), .int x1, .int x2, va_rf (some o)] o f S (fun Q => wp_L_patrol S a x1 x2 f Q) := by
  refine z_startW [(0, va_rf (some a)), (1, .int x1), (2, .int x2), (3, va_rf (some o))] bw_482 (by decide +kernel) (by simp only [la_i, la_r, la_n]) (cat_cr (cat_ci (cat_ci (cat_cr cat_nil)))) (by simp only [ls_i, ls_r, ls_n]; decide) (fun x9 A E Y Q h C TBh T => ?_)
  obtain ⟨ho, h⟩ := h
  refine z_aload_n (C _) (pc := 0) dL_patrol_0 3 rfl ?_
  refine z_iconst (C _) (pc := 1) (x := (0 : Int32)) dL_patrol_1 kic_0 ?_
  refine z_aload_n (C _) (pc := 2) dL_patrol_2 0 rfl ?_
  refine z_iload_n (C _) (pc := 3) dL_patrol_3 1 rfl ?_
  refine z_iload_n (C _) (pc := 4) dL_patrol_4 2 rfl ?_
  refine z_Vi (C _) (pc := 5) (kc' := 3) (ks' := 18) (As := [.int x1, .int x2]) (rest := [.int (0 : Int32), va_rf (some o)]) rfl (c_X8_patrol l hfl v S a x1 x2) mw_X8_patrol bw_483 bw_484 bw_485 (fit_of rfl) rfl rfl (Nat.le_of_ble_eq_true rfl) (by decide) rfl ho dL_patrol_5 h (fun r S1 h => ?_) (fun En S1 h => ?_)
  · refine z_i2l (C _) (pc := 8) dL_patrol_8 ?_
    refine z_last (C []) (pc := 9) dL_patrol_9 vin01 ?_
    refine z_goto (C _) (pc := 10) (tgt := 25) dL_patrol_10 (by decide) ?_
    refine z_iconst (C _) (pc := 25) (x := (0 : Int32)) dL_patrol_25 kic_0 ?_
    exact z_wret (C []) T (pc := 26) dL_patrol_26 (by decide) (by decide) h
  · obtain ⟨h0, h1, h2, hc⟩ := h
    rcases hc with rfl | rfl | rfl
    · have h := h0 rfl
      refine z_catch (C _) TBh [] { startPc := 0, endPc := 10, handlerPc := 13, catchType := 25 } [{ startPc := 0, endPc := 10, handlerPc := 17, catchType := 13 }, { startPc := 0, endPc := 10, handlerPc := 21, catchType := 15 }] rfl (fun z hz => nomatch hz) rfl (by decide) bw_438 nw_452 (tgt := 13) rfl (fun q9 => ?_)
      refine z_astore (C _) (pc := 13) (lv' := [(4, va_rf (some q9)), (0, va_rf (some a)), (1, .int x1), (2, .int x2), (3, va_rf (some o))]) dL_patrol_13 (by decide) rfl ?_
      refine z_iconst (C _) (pc := 15) (x := (1 : Int32)) dL_patrol_15 kic_1 ?_
      exact z_wret (C []) T (pc := 16) dL_patrol_16 (by decide) (by decide) h
    · have h := h1 rfl
      refine z_catch (C _) TBh [{ startPc := 0, endPc := 10, handlerPc := 13, catchType := 25 }] { startPc := 0, endPc := 10, handlerPc := 17, catchType := 13 } [{ startPc := 0, endPc := 10, handlerPc := 21, catchType := 15 }] rfl (fun z hz => by obtain rfl := List.mem_singleton.mp hz; exact ⟨by decide, _, bw_438, by decide⟩) rfl (by decide) bw_193 nw_204 (tgt := 17) rfl (fun q9 => ?_)
      refine z_astore (C _) (pc := 17) (lv' := [(4, va_rf (some q9)), (0, va_rf (some a)), (1, .int x1), (2, .int x2), (3, va_rf (some o))]) dL_patrol_17 (by decide) rfl ?_
      refine z_iconst (C _) (pc := 19) (x := (2 : Int32)) dL_patrol_19 kic_2 ?_
      exact z_wret (C []) T (pc := 20) dL_patrol_20 (by decide) (by decide) h
    · have h := h2 rfl
      refine z_catch (C _) TBh [{ startPc := 0, endPc := 10, handlerPc := 13, catchType := 25 }, { startPc := 0, endPc := 10, handlerPc := 17, catchType := 13 }] { startPc := 0, endPc := 10, handlerPc := 21, catchType := 15 } [] rfl (fun z hz => by rcases List.mem_cons.mp hz with rfl | hz; exact ⟨by decide, _, bw_438, by decide⟩; obtain rfl := List.mem_singleton.mp hz; exact ⟨by decide, _, bw_193, by decide⟩) rfl (by decide) bw_194 nw_275 (tgt := 21) rfl (fun q9 => ?_)
      refine z_astore (C _) (pc := 21) (lv' := [(4, va_rf (some q9)), (0, va_rf (some a)), (1, .int x1), (2, .int x2), (3, va_rf (some o))]) dL_patrol_21 (by decide) rfl ?_
      refine z_iconst (C _) (pc := 23) (x := (3 : Int32)) dL_patrol_23 kic_3 ?_
      exact z_wret (C []) T (pc := 24) dL_patrol_24 (by decide) (by decide) h
def wp_L_pay (S : Hp) (a : Nat) (x1 : Int32) (x2 : Int32) (f : Nat → Int64) (Q : Int32 → Hp → (Nat → Int64) → Prop) : Prop := okA S 8 a ∧ wp_X8_pay S a x1 x2 (fun r S1 => Q (0 : Int32) S1 (vp_updL f (0 : Int32).toNatClampNeg r.toInt64)) (fun En S1 => (En = "java/lang/IndexOutOfBoundsException" → Q (1 : Int32) S1 f) ∧ (En = "java/lang/IllegalArgumentException" → Q (2 : Int32) S1 f) ∧ (En = "java/lang/IllegalStateException" → Q (3 : Int32) S1 f) ∧ (En = "java/lang/IndexOutOfBoundsException" ∨ En = "java/lang/IllegalArgumentException" ∨ En = "java/lang/IllegalStateException"))
def rm_L_pay : Room := { frames := 9, cells := 3, slots := 18, locals := 147 }
set_option maxHeartbeats 4000000 in
set_option maxRecDepth 100000 in
theorem c_L_pay (l : Launch) (hfl : l.stackTraces = false) (v : Ev) (S : Hp) (a o : Nat) (x1 : Int32) (x2 : Int32) (f : Nat → Int64) : CW l v yL_pay cL_pay 5 [(0, 10, 13, 25), (0, 10, 17, 13), (0, 10, 21, 15)] rm_L_pay [va_rf (some a), .int x1, .int x2, va_rf (some o)] o f S (fun Q => wp_L_pay S a x1 x2 f Q) := by
  refine z_startW [(0, va_rf (some a)), (1, .int x1), (2, .int x2), (3, va_rf (some o))] bw_847 (by decide +kernel) (by simp only [la_i, la_r, la_n]) (cat_cr (cat_ci (cat_ci (cat_cr cat_nil)))) (by simp only [ls_i, ls_r, ls_n]; decide) (fun x9 A E Y Q h C TBh T => ?_)
  obtain ⟨ho, h⟩ := h
  refine z_aload_n (C _) (pc := 0) dL_pay_0 3 rfl ?_
  refine z_iconst (C _) (pc := 1) (x := (0 : Int32)) dL_pay_1 kic_0 ?_
  refine z_aload_n (C _) (pc := 2) dL_pay_2 0 rfl ?_
  refine z_iload_n (C _) (pc := 3) dL_pay_3 1 rfl ?_
  refine z_iload_n (C _) (pc := 4) dL_pay_4 2 rfl ?_
  refine z_Vi (C _) (pc := 5) (kc' := 3) (ks' := 18) (As := [.int x1, .int x2]) (rest := [.int (0 : Int32), va_rf (some o)]) rfl (c_X8_pay l hfl v S a x1 x2) mw_X8_pay bw_848 bw_849 bw_850 (fit_of rfl) rfl rfl (Nat.le_of_ble_eq_true rfl) (by decide) rfl ho dL_pay_5 h (fun r S1 h => ?_) (fun En S1 h => ?_)
  · refine z_i2l (C _) (pc := 8) dL_pay_8 ?_
    refine z_last (C []) (pc := 9) dL_pay_9 vin01 ?_
    refine z_goto (C _) (pc := 10) (tgt := 25) dL_pay_10 (by decide) ?_
    refine z_iconst (C _) (pc := 25) (x := (0 : Int32)) dL_pay_25 kic_0 ?_
    exact z_wret (C []) T (pc := 26) dL_pay_26 (by decide) (by decide) h
  · obtain ⟨h0, h1, h2, hc⟩ := h
    rcases hc with rfl | rfl | rfl
    · have h := h0 rfl
      refine z_catch (C _) TBh [] { startPc := 0, endPc := 10, handlerPc := 13, catchType := 25 } [{ startPc := 0, endPc := 10, handlerPc := 17, catchType := 13 }, { startPc := 0, endPc := 10, handlerPc := 21, catchType := 15 }] rfl (fun z hz => nomatch hz) rfl (by decide) bw_438 nw_452 (tgt := 13) rfl (fun q9 => ?_)
      refine z_astore (C _) (pc := 13) (lv' := [(4, va_rf (some q9)), (0, va_rf (some a)), (1, .int x1), (2, .int x2), (3, va_rf (some o))]) dL_pay_13 (by decide) rfl ?_
      refine z_iconst (C _) (pc := 15) (x := (1 : Int32)) dL_pay_15 kic_1 ?_
      exact z_wret (C []) T (pc := 16) dL_pay_16 (by decide) (by decide) h
    · have h := h1 rfl
      refine z_catch (C _) TBh [{ startPc := 0, endPc := 10, handlerPc := 13, catchType := 25 }] { startPc := 0, endPc := 10, handlerPc := 17, catchType := 13 } [{ startPc := 0, endPc := 10, handlerPc := 21, catchType := 15 }] rfl (fun z hz => by obtain rfl := List.mem_singleton.mp hz; exact ⟨by decide, _, bw_438, by decide⟩) rfl (by decide) bw_193 nw_204 (tgt := 17) rfl (fun q9 => ?_)
      refine z_astore (C _) (pc := 17) (lv' := [(4, va_rf (some q9)), (0, va_rf (some a)), (1, .int x1), (2, .int x2), (3, va_rf (some o))]) dL_pay_17 (by decide) rfl ?_
      refine z_iconst (C _) (pc := 19) (x := (2 : Int32)) dL_pay_19 kic_2 ?_
      exact z_wret (C []) T (pc := 20) dL_pay_20 (by decide) (by decide) h
    · have h := h2 rfl
      refine z_catch (C _) TBh [{ startPc := 0, endPc := 10, handlerPc := 13, catchType := 25 }, { startPc := 0, endPc := 10, handlerPc := 17, catchType := 13 }] { startPc := 0, endPc := 10, handlerPc := 21, catchType := 15 } [] rfl (fun z hz => by rcases List.mem_cons.mp hz with rfl | hz; exact ⟨by decide, _, bw_438, by decide⟩; obtain rfl := List.mem_singleton.mp hz; exact ⟨by decide, _, bw_193, by decide⟩) rfl (by decide) bw_194 nw_275 (tgt := 21) rfl (fun q9 => ?_)
      refine z_astore (C _) (pc := 21) (lv' := [(4, va_rf (some q9)), (0, va_rf (some a)), (1, .int x1), (2, .int x2), (3, va_rf (some o))]) dL_pay_21 (by decide) rfl ?_
      refine z_iconst (C _) (pc := 23) (x := (3 : Int32)) dL_pay_23 kic_3 ?_
      exact z_wret (C []) T (pc := 24) dL_pay_24 (by decide) (by decide) h
def wp_L_permit (S : Hp) (a : Nat) (x1 : Int32) (x2 : Int32) (x3 : Int32) (f : Nat → Int64) (Q : Int32 → Hp → (Nat → Int64) → Prop) : Prop := okA S 8 a ∧ wp_X8_permit S a x1 x2 x3 (fun r S1 => Q (0 : Int32) S1 (vp_updL f (0 : Int32).toNatClampNeg r.toInt64)) (fun En S1 => (En = "java/lang/IndexOutOfBoundsException" → Q (1 : Int32) S1 f) ∧ (En = "java/lang/IllegalArgumentException" → Q (2 : Int32) S1 f) ∧ (En = "java/lang/IndexOutOfBoundsException" ∨ En = "java/lang/IllegalArgumentException"))
def rm_L_permit : Room := { frames := 9, cells := 3, slots := 18, locals := 149 }
set_option maxHeartbeats 4000000 in
set_option maxRecDepth 100000 in
theorem c_L_permit (l : Launch) (hfl : l.stackTraces = false) (v : Ev) (S : Hp) (a o : Nat) (x1 : Int32) (x2 : Int32) (x3 : Int32) (f : Nat → Int64) : CW l v yL_permit cL_permit 6 [(0, 12, 15, 25), (0, 12, 19, 13)] rm_L_permit [va_rf (some a), .int x1, .int x2, .int x3, va_rf (some o)] o f S (fun Q => wp_L_permit S a x1 x2 x3 f Q) := by
  refine z_startW [(0, va_rf (some a)), (1, .int x1), (2, .int x2), (3, .int x3), (4, va_rf (some o))] bw_554 (by decide +kernel) (by simp only [la_i, la_r, la_n]) (cat_cr (cat_ci (cat_ci (cat_ci (cat_cr cat_nil))))) (by simp only [ls_i, ls_r, ls_n]; decide) (fun x9 A E Y Q h C TBh T => ?_)
  obtain ⟨ho, h⟩ := h
  refine z_aload (C _) (pc := 0) dL_permit_0 4 rfl ?_
  refine z_iconst (C _) (pc := 2) (x := (0 : Int32)) dL_permit_2 kic_0 ?_
  refine z_aload_n (C _) (pc := 3) dL_permit_3 0 rfl ?_
  refine z_iload_n (C _) (pc := 4) dL_permit_4 1 rfl ?_
  refine z_iload_n (C _) (pc := 5) dL_permit_5 2 rfl ?_
  refine z_iload_n (C _) (pc := 6) dL_permit_6 3 rfl ?_
  refine z_Vi (C _) (pc := 7) (kc' := 3) (ks' := 18) (As := [.int x1, .int x2, .int x3]) (rest := [.int (0 : Int32), va_rf (some o)]) rfl (c_X8_permit l hfl v S a x1 x2 x3) mw_X8_permit bw_555 bw_556 bw_557 (fit_of rfl) rfl rfl (Nat.le_of_ble_eq_true rfl) (by decide) rfl ho dL_permit_7 h (fun r S1 h => ?_) (fun En S1 h => ?_)
  · refine z_i2l (C _) (pc := 10) dL_permit_10 ?_
    refine z_last (C []) (pc := 11) dL_permit_11 vin01 ?_
    refine z_goto (C _) (pc := 12) (tgt := 23) dL_permit_12 (by decide) ?_
    refine z_iconst (C _) (pc := 23) (x := (0 : Int32)) dL_permit_23 kic_0 ?_
    exact z_wret (C []) T (pc := 24) dL_permit_24 (by decide) (by decide) h
  · obtain ⟨h0, h1, hc⟩ := h
    rcases hc with rfl | rfl
    · have h := h0 rfl
      refine z_catch (C _) TBh [] { startPc := 0, endPc := 12, handlerPc := 15, catchType := 25 } [{ startPc := 0, endPc := 12, handlerPc := 19, catchType := 13 }] rfl (fun z hz => nomatch hz) rfl (by decide) bw_438 nw_452 (tgt := 15) rfl (fun q9 => ?_)
      refine z_astore (C _) (pc := 15) (lv' := [(5, va_rf (some q9)), (0, va_rf (some a)), (1, .int x1), (2, .int x2), (3, .int x3), (4, va_rf (some o))]) dL_permit_15 (by decide) rfl ?_
      refine z_iconst (C _) (pc := 17) (x := (1 : Int32)) dL_permit_17 kic_1 ?_
      exact z_wret (C []) T (pc := 18) dL_permit_18 (by decide) (by decide) h
    · have h := h1 rfl
      refine z_catch (C _) TBh [{ startPc := 0, endPc := 12, handlerPc := 15, catchType := 25 }] { startPc := 0, endPc := 12, handlerPc := 19, catchType := 13 } [] rfl (fun z hz => by obtain rfl := List.mem_singleton.mp hz; exact ⟨by decide, _, bw_438, by decide⟩) rfl (by decide) bw_193 nw_204 (tgt := 19) rfl (fun q9 => ?_)
      refine z_astore (C _) (pc := 19) (lv' := [(5, va_rf (some q9)), (0, va_rf (some a)), (1, .int x1), (2, .int x2), (3, .int x3), (4, va_rf (some o))]) dL_permit_19 (by decide) rfl ?_
      refine z_iconst (C _) (pc := 21) (x := (2 : Int32)) dL_permit_21 kic_2 ?_
      exact z_wret (C []) T (pc := 22) dL_permit_22 (by decide) (by decide) h
def wp_L_prove (S : Hp) (a : Nat) (x1 : Int32) (x2 : Int32) (x3 : Int32) (f : Nat → Int64) (Q : Int32 → Hp → (Nat → Int64) → Prop) : Prop := okA S 8 a ∧ wp_X8_prove S a x1 x2 x3 (fun r S1 => Q (0 : Int32) S1 (vp_updL f (0 : Int32).toNatClampNeg r.toInt64)) (fun En S1 => (En = "java/lang/IndexOutOfBoundsException" → Q (1 : Int32) S1 f) ∧ (En = "java/lang/IllegalStateException" → Q (2 : Int32) S1 f) ∧ (En = "java/lang/IndexOutOfBoundsException" ∨ En = "java/lang/IllegalStateException"))
def rm_L_prove : Room := { frames := 9, cells := 4, slots := 24, locals := 149 }
set_option maxHeartbeats 4000000 in
set_option maxRecDepth 100000 in
theorem c_L_prove (l : Launch) (hfl : l.stackTraces = false) (v : Ev) (S : Hp) (a o : Nat) (x1 : Int32) (x2 : Int32) (x3 : Int32) (f : Nat → Int64) : CW l v yL_prove cL_prove 6 [(0, 12, 15, 25), (0, 12, 19, 15)] rm_L_prove [va_rf (some a), .int x1, .int x2, .int x3, va_rf (some o)] o f S (fun Q => wp_L_prove S a x1 x2 x3 f Q) := by
  refine z_startW [(0, va_rf (some a)), (1, .int x1), (2, .int x2), (3, .int x3), (4, va_rf (some o))] bw_678 (by decide +kernel) (by simp only [la_i, la_r, la_n]) (cat_cr (cat_ci (cat_ci (cat_ci (cat_cr cat_nil))))) (by simp only [ls_i, ls_r, ls_n]; decide) (fun x9 A E Y Q h C TBh T => ?_)
  obtain ⟨ho, h⟩ := h
  refine z_aload (C _) (pc := 0) dL_prove_0 4 rfl ?_
  refine z_iconst (C _) (pc := 2) (x := (0 : Int32)) dL_prove_2 kic_0 ?_
  refine z_aload_n (C _) (pc := 3) dL_prove_3 0 rfl ?_
  refine z_iload_n (C _) (pc := 4) dL_prove_4 1 rfl ?_
  refine z_iload_n (C _) (pc := 5) dL_prove_5 2 rfl ?_
  refine z_iload_n (C _) (pc := 6) dL_prove_6 3 rfl ?_
  refine z_Vi (C _) (pc := 7) (kc' := 4) (ks' := 24) (As := [.int x1, .int x2, .int x3]) (rest := [.int (0 : Int32), va_rf (some o)]) rfl (c_X8_prove l hfl v S a x1 x2 x3) mw_X8_prove bw_679 bw_680 bw_681 (fit_of rfl) rfl rfl (Nat.le_of_ble_eq_true rfl) (by decide) rfl ho dL_prove_7 h (fun r S1 h => ?_) (fun En S1 h => ?_)
  · refine z_i2l (C _) (pc := 10) dL_prove_10 ?_
    refine z_last (C []) (pc := 11) dL_prove_11 vin01 ?_
    refine z_goto (C _) (pc := 12) (tgt := 23) dL_prove_12 (by decide) ?_
    refine z_iconst (C _) (pc := 23) (x := (0 : Int32)) dL_prove_23 kic_0 ?_
    exact z_wret (C []) T (pc := 24) dL_prove_24 (by decide) (by decide) h
  · obtain ⟨h0, h1, hc⟩ := h
    rcases hc with rfl | rfl
    · have h := h0 rfl
      refine z_catch (C _) TBh [] { startPc := 0, endPc := 12, handlerPc := 15, catchType := 25 } [{ startPc := 0, endPc := 12, handlerPc := 19, catchType := 15 }] rfl (fun z hz => nomatch hz) rfl (by decide) bw_438 nw_452 (tgt := 15) rfl (fun q9 => ?_)
      refine z_astore (C _) (pc := 15) (lv' := [(5, va_rf (some q9)), (0, va_rf (some a)), (1, .int x1), (2, .int x2), (3, .int x3), (4, va_rf (some o))]) dL_prove_15 (by decide) rfl ?_
      refine z_iconst (C _) (pc := 17) (x := (1 : Int32)) dL_prove_17 kic_1 ?_
      exact z_wret (C []) T (pc := 18) dL_prove_18 (by decide) (by decide) h
    · have h := h1 rfl
      refine z_catch (C _) TBh [{ startPc := 0, endPc := 12, handlerPc := 15, catchType := 25 }] { startPc := 0, endPc := 12, handlerPc := 19, catchType := 15 } [] rfl (fun z hz => by obtain rfl := List.mem_singleton.mp hz; exact ⟨by decide, _, bw_438, by decide⟩) rfl (by decide) bw_194 nw_275 (tgt := 19) rfl (fun q9 => ?_)
      refine z_astore (C _) (pc := 19) (lv' := [(5, va_rf (some q9)), (0, va_rf (some a)), (1, .int x1), (2, .int x2), (3, .int x3), (4, va_rf (some o))]) dL_prove_19 (by decide) rfl ?_
      refine z_iconst (C _) (pc := 21) (x := (2 : Int32)) dL_prove_21 kic_2 ?_
      exact z_wret (C []) T (pc := 22) dL_prove_22 (by decide) (by decide) h
def wp_L_staff (S : Hp) (a : Nat) (x1 : Int32) (x2 : Int32) (x3 : Int32) (f : Nat → Int64) (Q : Int32 → Hp → (Nat → Int64) → Prop) : Prop := okA S 8 a ∧ wp_X8_staff S a x1 x2 x3 (fun r S1 => Q (0 : Int32) S1 (vp_updL f (0 : Int32).toNatClampNeg r.toInt64)) (fun En S1 => (En = "java/lang/IndexOutOfBoundsException" → Q (1 : Int32) S1 f) ∧ (En = "java/lang/IllegalStateException" → Q (2 : Int32) S1 f) ∧ (En = "java/lang/IndexOutOfBoundsException" ∨ En = "java/lang/IllegalStateException"))
def rm_L_staff : Room := { frames := 9, cells := 3, slots := 18, locals := 149 }
set_option maxHeartbeats 4000000 in
set_option maxRecDepth 100000 in
theorem c_L_staff (l : Launch) (hfl : l.stackTraces = false) (v : Ev) (S : Hp) (a o : Nat) (x1 : Int32) (x2 : Int32) (x3 : Int32) (f : Nat → Int64) : CW l v yL_staff cL_staff 6 [(0, 12, 15, 25), (0, 12, 19, 15)] rm_L_staff [va_rf (some a), .int x1, .int x2, .int x3, va_rf (some o)] o f S (fun Q => wp_L_staff S a x1 x2 x3 f Q) := by
  refine z_startW [(0, va_rf (some a)), (1, .int x1), (2, .int x2), (3, .int x3), (4, va_rf (some o))] bw_743 (by decide +kernel) (by simp only [la_i, la_r, la_n]) (cat_cr (cat_ci (cat_ci (cat_ci (cat_cr cat_nil))))) (by simp only [ls_i, ls_r, ls_n]; decide) (fun x9 A E Y Q h C TBh T => ?_)
  obtain ⟨ho, h⟩ := h
  refine z_aload (C _) (pc := 0) dL_staff_0 4 rfl ?_
  refine z_iconst (C _) (pc := 2) (x := (0 : Int32)) dL_staff_2 kic_0 ?_
  refine z_aload_n (C _) (pc := 3) dL_staff_3 0 rfl ?_
  refine z_iload_n (C _) (pc := 4) dL_staff_4 1 rfl ?_
  refine z_iload_n (C _) (pc := 5) dL_staff_5 2 rfl ?_
  refine z_iload_n (C _) (pc := 6) dL_staff_6 3 rfl ?_
  refine z_Vi (C _) (pc := 7) (kc' := 3) (ks' := 18) (As := [.int x1, .int x2, .int x3]) (rest := [.int (0 : Int32), va_rf (some o)]) rfl (c_X8_staff l hfl v S a x1 x2 x3) mw_X8_staff bw_744 bw_745 bw_746 (fit_of rfl) rfl rfl (Nat.le_of_ble_eq_true rfl) (by decide) rfl ho dL_staff_7 h (fun r S1 h => ?_) (fun En S1 h => ?_)
  · refine z_i2l (C _) (pc := 10) dL_staff_10 ?_
    refine z_last (C []) (pc := 11) dL_staff_11 vin01 ?_
    refine z_goto (C _) (pc := 12) (tgt := 23) dL_staff_12 (by decide) ?_
    refine z_iconst (C _) (pc := 23) (x := (0 : Int32)) dL_staff_23 kic_0 ?_
    exact z_wret (C []) T (pc := 24) dL_staff_24 (by decide) (by decide) h
  · obtain ⟨h0, h1, hc⟩ := h
    rcases hc with rfl | rfl
    · have h := h0 rfl
      refine z_catch (C _) TBh [] { startPc := 0, endPc := 12, handlerPc := 15, catchType := 25 } [{ startPc := 0, endPc := 12, handlerPc := 19, catchType := 15 }] rfl (fun z hz => nomatch hz) rfl (by decide) bw_438 nw_452 (tgt := 15) rfl (fun q9 => ?_)
      refine z_astore (C _) (pc := 15) (lv' := [(5, va_rf (some q9)), (0, va_rf (some a)), (1, .int x1), (2, .int x2), (3, .int x3), (4, va_rf (some o))]) dL_staff_15 (by decide) rfl ?_
      refine z_iconst (C _) (pc := 17) (x := (1 : Int32)) dL_staff_17 kic_1 ?_
      exact z_wret (C []) T (pc := 18) dL_staff_18 (by decide) (by decide) h
    · have h := h1 rfl
      refine z_catch (C _) TBh [{ startPc := 0, endPc := 12, handlerPc := 15, catchType := 25 }] { startPc := 0, endPc := 12, handlerPc := 19, catchType := 15 } [] rfl (fun z hz => by obtain rfl := List.mem_singleton.mp hz; exact ⟨by decide, _, bw_438, by decide⟩) rfl (by decide) bw_194 nw_275 (tgt := 19) rfl (fun q9 => ?_)
      refine z_astore (C _) (pc := 19) (lv' := [(5, va_rf (some q9)), (0, va_rf (some a)), (1, .int x1), (2, .int x2), (3, .int x3), (4, va_rf (some o))]) dL_staff_19 (by decide) rfl ?_
      refine z_iconst (C _) (pc := 21) (x := (2 : Int32)) dL_staff_21 kic_2 ?_
      exact z_wret (C []) T (pc := 22) dL_staff_22 (by decide) (by decide) h
def wp_L_teach (S : Hp) (a : Nat) (x1 : Int32) (x2 : Int32) (f : Nat → Int64) (Q : Int32 → Hp → (Nat → Int64) → Prop) : Prop := okA S 8 a ∧ wp_X8_teach S a x1 x2 (fun r S1 => Q (0 : Int32) S1 (vp_updL f (0 : Int32).toNatClampNeg r.toInt64)) (fun En S1 => (En = "java/lang/IndexOutOfBoundsException" → Q (1 : Int32) S1 f) ∧ (En = "java/lang/IllegalArgumentException" → Q (2 : Int32) S1 f) ∧ (En = "java/lang/IndexOutOfBoundsException" ∨ En = "java/lang/IllegalArgumentException"))
def rm_L_teach : Room := { frames := 9, cells := 2, slots := 12, locals := 148 }
set_option maxHeartbeats 4000000 in
set_option maxRecDepth 100000 in
theorem c_L_teach (l : Launch) (hfl : l.stackTraces = false) (v : Ev) (S : Hp) (a o : Nat) (x1 : Int32) (x2 : Int32) (f : Nat → Int64) : CW l v yL_teach cL_teach 5 [(0, 10, 13, 25), (0, 10, 17, 13)] rm_L_teach [va_rf (some a), .int x1, .int x2, va_rf (some o)] o f S (fun Q => wp_L_teach S a x1 x2 f Q) := by
  refine z_startW [(0, va_rf (some a)), (1, .int x1), (2, .int x2), (3, va_rf (some o))] bw_569 (by decide +kernel) (by simp only [la_i, la_r, la_n]) (cat_cr (cat_ci (cat_ci (cat_cr cat_nil)))) (by simp only [ls_i, ls_r, ls_n]; decide) (fun x9 A E Y Q h C TBh T => ?_)
  obtain ⟨ho, h⟩ := h
  refine z_aload_n (C _) (pc := 0) dL_teach_0 3 rfl ?_
  refine z_iconst (C _) (pc := 1) (x := (0 : Int32)) dL_teach_1 kic_0 ?_
  refine z_aload_n (C _) (pc := 2) dL_teach_2 0 rfl ?_
  refine z_iload_n (C _) (pc := 3) dL_teach_3 1 rfl ?_
  refine z_iload_n (C _) (pc := 4) dL_teach_4 2 rfl ?_
  refine z_Vi (C _) (pc := 5) (kc' := 2) (ks' := 12) (As := [.int x1, .int x2]) (rest := [.int (0 : Int32), va_rf (some o)]) rfl (c_X8_teach l hfl v S a x1 x2) mw_X8_teach bw_570 bw_571 bw_572 (fit_of rfl) rfl rfl (Nat.le_of_ble_eq_true rfl) (by decide) rfl ho dL_teach_5 h (fun r S1 h => ?_) (fun En S1 h => ?_)
  · refine z_i2l (C _) (pc := 8) dL_teach_8 ?_
    refine z_last (C []) (pc := 9) dL_teach_9 vin01 ?_
    refine z_goto (C _) (pc := 10) (tgt := 21) dL_teach_10 (by decide) ?_
    refine z_iconst (C _) (pc := 21) (x := (0 : Int32)) dL_teach_21 kic_0 ?_
    exact z_wret (C []) T (pc := 22) dL_teach_22 (by decide) (by decide) h
  · obtain ⟨h0, h1, hc⟩ := h
    rcases hc with rfl | rfl
    · have h := h0 rfl
      refine z_catch (C _) TBh [] { startPc := 0, endPc := 10, handlerPc := 13, catchType := 25 } [{ startPc := 0, endPc := 10, handlerPc := 17, catchType := 13 }] rfl (fun z hz => nomatch hz) rfl (by decide) bw_438 nw_452 (tgt := 13) rfl (fun q9 => ?_)
      refine z_astore (C _) (pc := 13) (lv' := [(4, va_rf (some q9)), (0, va_rf (some a)), (1, .int x1), (2, .int x2), (3, va_rf (some o))]) dL_teach_13 (by decide) rfl ?_
      refine z_iconst (C _) (pc := 15) (x := (1 : Int32)) dL_teach_15 kic_1 ?_
      exact z_wret (C []) T (pc := 16) dL_teach_16 (by decide) (by decide) h
    · have h := h1 rfl
      refine z_catch (C _) TBh [{ startPc := 0, endPc := 10, handlerPc := 13, catchType := 25 }] { startPc := 0, endPc := 10, handlerPc := 17, catchType := 13 } [] rfl (fun z hz => by obtain rfl := List.mem_singleton.mp hz; exact ⟨by decide, _, bw_438, by decide⟩) rfl (by decide) bw_193 nw_204 (tgt := 17) rfl (fun q9 => ?_)
      refine z_astore (C _) (pc := 17) (lv' := [(4, va_rf (some q9)), (0, va_rf (some a)), (1, .int x1), (2, .int x2), (3, va_rf (some o))]) dL_teach_17 (by decide) rfl ?_
      refine z_iconst (C _) (pc := 19) (x := (2 : Int32)) dL_teach_19 kic_2 ?_
      exact z_wret (C []) T (pc := 20) dL_teach_20 (by decide) (by decide) h
def wp_L_troop (S : Hp) (a : Nat) (x1 : Int32) (x2 : Int32) (x3 : Int32) (f : Nat → Int64) (Q : Int32 → Hp → (Nat → Int64) → Prop) : Prop := okA S 8 a ∧ wp_X8_troop S a x1 x2 x3 (fun r S1 => Q (0 : Int32) S1 (vp_updL f (0 : Int32).toNatClampNeg r.toInt64)) (fun En S1 => (En = "java/lang/IllegalArgumentException" → Q (1 : Int32) S1 f) ∧ (En = "java/lang/IllegalStateException" → Q (2 : Int32) S1 f) ∧ (En = "java/lang/IllegalArgumentException" ∨ En = "java/lang/IllegalStateException"))
def rm_L_troop : Room := { frames := 8, cells := 6, slots := 92, locals := 255 }
set_option maxHeartbeats 4000000 in
set_option maxRecDepth 100000 in
theorem c_L_troop (l : Launch) (hfl : l.stackTraces = false) (v : Ev) (S : Hp) (a o : Nat) (x1 : Int32) (x2 : Int32) (x3 : Int32) (f : Nat → Int64) : CW l v yL_troop cL_troop 6 [(0, 12, 15, 13), (0, 12, 19, 15)] rm_L_troop [va_rf (some a), .int x1, .int x2, .int x3, va_rf (some o)] o f S (fun Q => wp_L_troop S a x1 x2 x3 f Q) := by
  refine z_startW [(0, va_rf (some a)), (1, .int x1), (2, .int x2), (3, .int x3), (4, va_rf (some o))] bw_192 (by decide +kernel) (by simp only [la_i, la_r, la_n]) (cat_cr (cat_ci (cat_ci (cat_ci (cat_cr cat_nil))))) (by simp only [ls_i, ls_r, ls_n]; decide) (fun x9 A E Y Q h C TBh T => ?_)
  obtain ⟨ho, h⟩ := h
  refine z_aload (C _) (pc := 0) dL_troop_0 4 rfl ?_
  refine z_iconst (C _) (pc := 2) (x := (0 : Int32)) dL_troop_2 kic_0 ?_
  refine z_aload_n (C _) (pc := 3) dL_troop_3 0 rfl ?_
  refine z_iload_n (C _) (pc := 4) dL_troop_4 1 rfl ?_
  refine z_iload_n (C _) (pc := 5) dL_troop_5 2 rfl ?_
  refine z_iload_n (C _) (pc := 6) dL_troop_6 3 rfl ?_
  refine z_Vi (C _) (pc := 7) (kc' := 6) (ks' := 92) (As := [.int x1, .int x2, .int x3]) (rest := [.int (0 : Int32), va_rf (some o)]) rfl (c_X8_troop l hfl v S a x1 x2 x3) mw_X8_troop bw_195 bw_196 bw_197 (fit_of rfl) rfl rfl (Nat.le_of_ble_eq_true rfl) (by decide) rfl ho dL_troop_7 h (fun r S1 h => ?_) (fun En S1 h => ?_)
  · refine z_i2l (C _) (pc := 10) dL_troop_10 ?_
    refine z_last (C []) (pc := 11) dL_troop_11 vin01 ?_
    refine z_goto (C _) (pc := 12) (tgt := 23) dL_troop_12 (by decide) ?_
    refine z_iconst (C _) (pc := 23) (x := (0 : Int32)) dL_troop_23 kic_0 ?_
    exact z_wret (C []) T (pc := 24) dL_troop_24 (by decide) (by decide) h
  · obtain ⟨h0, h1, hc⟩ := h
    rcases hc with rfl | rfl
    · have h := h0 rfl
      refine z_catch (C _) TBh [] { startPc := 0, endPc := 12, handlerPc := 15, catchType := 13 } [{ startPc := 0, endPc := 12, handlerPc := 19, catchType := 15 }] rfl (fun z hz => nomatch hz) rfl (by decide) bw_193 nw_204 (tgt := 15) rfl (fun q9 => ?_)
      refine z_astore (C _) (pc := 15) (lv' := [(5, va_rf (some q9)), (0, va_rf (some a)), (1, .int x1), (2, .int x2), (3, .int x3), (4, va_rf (some o))]) dL_troop_15 (by decide) rfl ?_
      refine z_iconst (C _) (pc := 17) (x := (1 : Int32)) dL_troop_17 kic_1 ?_
      exact z_wret (C []) T (pc := 18) dL_troop_18 (by decide) (by decide) h
    · have h := h1 rfl
      refine z_catch (C _) TBh [{ startPc := 0, endPc := 12, handlerPc := 15, catchType := 13 }] { startPc := 0, endPc := 12, handlerPc := 19, catchType := 15 } [] rfl (fun z hz => by obtain rfl := List.mem_singleton.mp hz; exact ⟨by decide, _, bw_193, by decide⟩) rfl (by decide) bw_194 nw_275 (tgt := 19) rfl (fun q9 => ?_)
      refine z_astore (C _) (pc := 19) (lv' := [(5, va_rf (some q9)), (0, va_rf (some a)), (1, .int x1), (2, .int x2), (3, .int x3), (4, va_rf (some o))]) dL_troop_19 (by decide) rfl ?_
      refine z_iconst (C _) (pc := 21) (x := (2 : Int32)) dL_troop_21 kic_2 ?_
      exact z_wret (C []) T (pc := 22) dL_troop_22 (by decide) (by decide) h
def wp_L_vet (S : Hp) (a : Nat) (x1 : Int32) (x2 : Int32) (x3 : Int32) (x4 : Int32) (f : Nat → Int64) (Q : Int32 → Hp → (Nat → Int64) → Prop) : Prop := okA S 8 a ∧ wp_X8_vet S a x1 x2 x3 x4 (fun S1 => Q (0 : Int32) S1 f) (fun En S1 => (En = "java/lang/IndexOutOfBoundsException" → Q (1 : Int32) S1 f) ∧ (En = "java/lang/IllegalArgumentException" → Q (2 : Int32) S1 f) ∧ (En = "java/lang/IndexOutOfBoundsException" ∨ En = "java/lang/IllegalArgumentException"))
def rm_L_vet : Room := { frames := 9, cells := 4, slots := 24, locals := 149 }
set_option maxHeartbeats 4000000 in
set_option maxRecDepth 100000 in
theorem c_L_vet (l : Launch) (hfl : l.stackTraces = false) (v : Ev) (S : Hp) (a o : Nat) (x1 : Int32) (x2 : Int32) (x3 : Int32) (x4 : Int32) (f : Nat → Int64) : CW l v yL_vet cL_vet 6 [(0, 9, 12, 25), (0, 9, 16, 13)] rm_L_vet [va_rf (some a), .int x1, .int x2, .int x3, .int x4] o f S (fun Q => wp_L_vet S a x1 x2 x3 x4 f Q) := by
  refine z_startW [(0, va_rf (some a)), (1, .int x1), (2, .int x2), (3, .int x3), (4, .int x4)] bw_539 (by decide +kernel) (by simp only [la_i, la_r, la_n]) (cat_cr (cat_ci (cat_ci (cat_ci (cat_ci cat_nil))))) (by simp only [ls_i, ls_r, ls_n]; decide) (fun x9 A E Y Q h C TBh T => ?_)
  obtain ⟨ho, h⟩ := h
  refine z_aload_n (C _) (pc := 0) dL_vet_0 0 rfl ?_
  refine z_iload_n (C _) (pc := 1) dL_vet_1 1 rfl ?_
  refine z_iload_n (C _) (pc := 2) dL_vet_2 2 rfl ?_
  refine z_iload_n (C _) (pc := 3) dL_vet_3 3 rfl ?_
  refine z_iload (C _) (pc := 4) dL_vet_4 4 rfl ?_
  refine z_Vv (C _) (pc := 6) (kc' := 4) (ks' := 24) (As := [.int x1, .int x2, .int x3, .int x4]) (rest := []) rfl (c_X8_vet l hfl v S a x1 x2 x3 x4) mw_X8_vet bw_540 bw_541 bw_542 (fit_of rfl) rfl rfl (Nat.le_of_ble_eq_true rfl) (by decide) rfl ho dL_vet_6 h (fun S1 h => ?_) (fun En S1 h => ?_)
  · skip
    refine z_goto (C _) (pc := 9) (tgt := 20) dL_vet_9 (by decide) ?_
    refine z_iconst (C _) (pc := 20) (x := (0 : Int32)) dL_vet_20 kic_0 ?_
    exact z_wret (C []) T (pc := 21) dL_vet_21 (by decide) (by decide) h
  · obtain ⟨h0, h1, hc⟩ := h
    rcases hc with rfl | rfl
    · have h := h0 rfl
      refine z_catch (C _) TBh [] { startPc := 0, endPc := 9, handlerPc := 12, catchType := 25 } [{ startPc := 0, endPc := 9, handlerPc := 16, catchType := 13 }] rfl (fun z hz => nomatch hz) rfl (by decide) bw_438 nw_452 (tgt := 12) rfl (fun q9 => ?_)
      refine z_astore (C _) (pc := 12) (lv' := [(5, va_rf (some q9)), (0, va_rf (some a)), (1, .int x1), (2, .int x2), (3, .int x3), (4, .int x4)]) dL_vet_12 (by decide) rfl ?_
      refine z_iconst (C _) (pc := 14) (x := (1 : Int32)) dL_vet_14 kic_1 ?_
      exact z_wret (C []) T (pc := 15) dL_vet_15 (by decide) (by decide) h
    · have h := h1 rfl
      refine z_catch (C _) TBh [{ startPc := 0, endPc := 9, handlerPc := 12, catchType := 25 }] { startPc := 0, endPc := 9, handlerPc := 16, catchType := 13 } [] rfl (fun z hz => by obtain rfl := List.mem_singleton.mp hz; exact ⟨by decide, _, bw_438, by decide⟩) rfl (by decide) bw_193 nw_204 (tgt := 16) rfl (fun q9 => ?_)
      refine z_astore (C _) (pc := 16) (lv' := [(5, va_rf (some q9)), (0, va_rf (some a)), (1, .int x1), (2, .int x2), (3, .int x3), (4, .int x4)]) dL_vet_16 (by decide) rfl ?_
      refine z_iconst (C _) (pc := 18) (x := (2 : Int32)) dL_vet_18 kic_2 ?_
      exact z_wret (C []) T (pc := 19) dL_vet_19 (by decide) (by decide) h
def wp_L_why (S : Hp) (a : Nat) (x1 : Int32) (f : Nat → Int64) (Q : Int32 → Hp → (Nat → Int64) → Prop) : Prop := okA S 8 a ∧ wp_X8_why S a x1 (fun r S1 => Q (0 : Int32) S1 (vp_updL f (0 : Int32).toNatClampNeg r.toInt64)) (fun En S1 => (En = "java/lang/IndexOutOfBoundsException" → Q (1 : Int32) S1 f) ∧ (En = "java/lang/IndexOutOfBoundsException"))
def rm_L_why : Room := { frames := 9, cells := 2, slots := 11, locals := 146 }
set_option maxHeartbeats 4000000 in
set_option maxRecDepth 100000 in
theorem c_L_why (l : Launch) (hfl : l.stackTraces = false) (v : Ev) (S : Hp) (a o : Nat) (x1 : Int32) (f : Nat → Int64) : CW l v yL_why cL_why 4 [(0, 9, 12, 25)] rm_L_why [va_rf (some a), .int x1, va_rf (some o)] o f S (fun Q => wp_L_why S a x1 f Q) := by
  refine z_startW [(0, va_rf (some a)), (1, .int x1), (2, va_rf (some o))] bw_763 (by decide +kernel) (by simp only [la_i, la_r, la_n]) (cat_cr (cat_ci (cat_cr cat_nil))) (by simp only [ls_i, ls_r, ls_n]; decide) (fun x9 A E Y Q h C TBh T => ?_)
  obtain ⟨ho, h⟩ := h
  refine z_aload_n (C _) (pc := 0) dL_why_0 2 rfl ?_
  refine z_iconst (C _) (pc := 1) (x := (0 : Int32)) dL_why_1 kic_0 ?_
  refine z_aload_n (C _) (pc := 2) dL_why_2 0 rfl ?_
  refine z_iload_n (C _) (pc := 3) dL_why_3 1 rfl ?_
  refine z_Vi (C _) (pc := 4) (kc' := 2) (ks' := 11) (As := [.int x1]) (rest := [.int (0 : Int32), va_rf (some o)]) rfl (c_X8_why l hfl v S a x1) mw_X8_why bw_764 bw_765 bw_766 (fit_of rfl) rfl rfl (Nat.le_of_ble_eq_true rfl) (by decide) rfl ho dL_why_4 h (fun r S1 h => ?_) (fun En S1 h => ?_)
  · refine z_i2l (C _) (pc := 7) dL_why_7 ?_
    refine z_last (C []) (pc := 8) dL_why_8 vin01 ?_
    refine z_goto (C _) (pc := 9) (tgt := 15) dL_why_9 (by decide) ?_
    refine z_iconst (C _) (pc := 15) (x := (0 : Int32)) dL_why_15 kic_0 ?_
    exact z_wret (C []) T (pc := 16) dL_why_16 (by decide) (by decide) h
  · obtain ⟨h0, hc⟩ := h
    subst hc
    have h := h0 rfl
    refine z_catch (C _) TBh [] { startPc := 0, endPc := 9, handlerPc := 12, catchType := 25 } [] rfl (fun z hz => nomatch hz) rfl (by decide) bw_438 nw_452 (tgt := 12) rfl (fun q9 => ?_)
    refine z_astore_n (C _) (pc := 12) (lv' := [(3, va_rf (some q9)), (0, va_rf (some a)), (1, .int x1), (2, va_rf (some o))]) dL_why_12 (by decide) rfl ?_
    refine z_iconst (C _) (pc := 13) (x := (1 : Int32)) dL_why_13 kic_1 ?_
    exact z_wret (C []) T (pc := 14) dL_why_14 (by decide) (by decide) h
