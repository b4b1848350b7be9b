theorem cell_out {k : Int32} {L : Nat} (hL : L ≤ 260) (hk0 : 0 ≤ k) (hk : ¬ vp_in k L) : Int32.ofNat L ≤ k := by
  by_cases h : Int32.ofNat L ≤ k
  · exact h
  · refine absurd ?_ hk
    have h1 : k < Int32.ofNat L := Int32.not_le.mp h
    have h2 : (Int32.ofNat L).toInt = L := Int32.toInt_ofNat_of_lt (by omega)
    have h3 := Int32.lt_iff_toInt_lt.mp h1
    have h4 := Int32.le_iff_toInt_le.mp hk0
    rw [h2] at h3
    rw [show (0 : Int32).toInt = 0 from rfl] at h4
    exact vp_in_iff.mpr ⟨h4, h3⟩
theorem kbp_45 : (Int8.ofInt (45)).toInt32 = (45 : Int32) := by decide
theorem kbp_90 : (Int8.ofInt (90)).toInt32 = (90 : Int32) := by decide
theorem kbp_103 : (Int8.ofInt (103)).toInt32 = (103 : Int32) := by decide
theorem ksp_311 : (Int16.ofInt (311)).toInt32 = (311 : Int32) := by decide
def rm_L_cell : Room := { frames := 0, cells := 0, slots := 0, locals := 0 }
set_option maxHeartbeats 4000000 in
set_option maxRecDepth 100000 in
theorem c_L_cell (l : Launch) (v : Ev) (b L : Nat) (xs : Nat → Int32) (k : Int32) (hL : L ≤ 260) (hk0 : 0 ≤ k) : CL l v yL_cell cL_cell 3 rm_L_cell [va_rf (some b), .int k] b L xs := by
  refine z_startL [(0, va_rf (some b)), (1, .int k)] (by decide +kernel) (by simp only [la_i, la_r, la_n]) (cat_cr (cat_ci cat_nil)) (by simp only [ls_i, ls_r, ls_n]; decide) (fun x9 A E hX C T => ?_)
  refine z_iload_n C (pc := 0) dL_cell_0 1 rfl ?_
  refine z_aload_n C (pc := 1) dL_cell_1 0 rfl ?_
  refine z_slen C hX (pc := 2) dL_cell_2 ?_
  by_cases hk : vp_in k L
  · refine z_icmp_ge C (pc := 3) (tgt := 12) (P := True) (N := True) dL_cell_3 (by decide) (by split <;> trivial) (fun _ => ?_) (fun _ => ?_)
    · refine z_ldc C (pc := 12) (x := (91171 : Int32)) dL_cell_12 bw_99 ?_
      refine z_iload_n C (pc := 14) dL_cell_14 1 rfl ?_
      refine z_bipush C (pc := 15) (x := (103 : Int32)) dL_cell_15 kbp_103 ?_
      refine z_iadd C (pc := 17) dL_cell_17 ?_
      refine z_imul C (pc := 18) dL_cell_18 ?_
      refine z_istore_n C (pc := 19) (lv' := [(2, .int ((91171 : Int32) * (k + 103))), (0, va_rf (some b)), (1, .int k)]) dL_cell_19 (by decide) rfl ?_
      refine z_iload_n C (pc := 20) dL_cell_20 0 rfl ?_
      refine z_iload_n C (pc := 21) dL_cell_21 0 rfl ?_
      refine z_bipush C (pc := 22) (x := (16 : Int32)) dL_cell_22 kbp_16 ?_
      refine z_iushr C (pc := 24) dL_cell_24 ?_
      refine z_ixor C (pc := 25) dL_cell_25 ?_
      refine z_ldc C (pc := 26) (x := (1014072123 : Int32)) dL_cell_26 bw_100 ?_
      refine z_imul C (pc := 28) dL_cell_28 ?_
      refine z_sipush C (pc := 29) (x := (311 : Int32)) dL_cell_29 ksp_311 ?_
      refine z_iload_n C (pc := 32) dL_cell_32 2 rfl ?_
      refine z_imul C (pc := 33) dL_cell_33 ?_
      refine z_iadd C (pc := 34) dL_cell_34 ?_
      exact z_iret C (pc := 35) T dL_cell_35 (by decide) (by decide) trivial
    · refine z_aload_n C (pc := 6) dL_cell_6 0 rfl ?_
      refine z_iload_n C (pc := 7) dL_cell_7 1 rfl ?_
      refine z_sld C hX (pc := 8) dL_cell_8 hk ?_
      refine z_goto C (pc := 9) (tgt := 19) dL_cell_9 (by decide) ?_
      refine z_istore_n C (pc := 19) (lv' := [(2, .int (xs k.toNatClampNeg)), (0, va_rf (some b)), (1, .int k)]) dL_cell_19 (by decide) rfl ?_
      refine z_iload_n C (pc := 20) dL_cell_20 0 rfl ?_
      refine z_iload_n C (pc := 21) dL_cell_21 0 rfl ?_
      refine z_bipush C (pc := 22) (x := (16 : Int32)) dL_cell_22 kbp_16 ?_
      refine z_iushr C (pc := 24) dL_cell_24 ?_
      refine z_ixor C (pc := 25) dL_cell_25 ?_
      refine z_ldc C (pc := 26) (x := (1014072123 : Int32)) dL_cell_26 bw_100 ?_
      refine z_imul C (pc := 28) dL_cell_28 ?_
      refine z_sipush C (pc := 29) (x := (311 : Int32)) dL_cell_29 ksp_311 ?_
      refine z_iload_n C (pc := 32) dL_cell_32 2 rfl ?_
      refine z_imul C (pc := 33) dL_cell_33 ?_
      refine z_iadd C (pc := 34) dL_cell_34 ?_
      exact z_iret C (pc := 35) T dL_cell_35 (by decide) (by decide) trivial
  · refine z_icmp_ge C (pc := 3) (tgt := 12) (P := True) (N := False) dL_cell_3 (by decide) (by rw [if_pos (cell_out hL hk0 hk)]; trivial) (fun _ => ?_) (fun h => h.elim)
    refine z_ldc C (pc := 12) (x := (91171 : Int32)) dL_cell_12 bw_99 ?_
    refine z_iload_n C (pc := 14) dL_cell_14 1 rfl ?_
    refine z_bipush C (pc := 15) (x := (103 : Int32)) dL_cell_15 kbp_103 ?_
    refine z_iadd C (pc := 17) dL_cell_17 ?_
    refine z_imul C (pc := 18) dL_cell_18 ?_
    refine z_istore_n C (pc := 19) (lv' := [(2, .int ((91171 : Int32) * (k + 103))), (0, va_rf (some b)), (1, .int k)]) dL_cell_19 (by decide) rfl ?_
    refine z_iload_n C (pc := 20) dL_cell_20 0 rfl ?_
    refine z_iload_n C (pc := 21) dL_cell_21 0 rfl ?_
    refine z_bipush C (pc := 22) (x := (16 : Int32)) dL_cell_22 kbp_16 ?_
    refine z_iushr C (pc := 24) dL_cell_24 ?_
    refine z_ixor C (pc := 25) dL_cell_25 ?_
    refine z_ldc C (pc := 26) (x := (1014072123 : Int32)) dL_cell_26 bw_100 ?_
    refine z_imul C (pc := 28) dL_cell_28 ?_
    refine z_sipush C (pc := 29) (x := (311 : Int32)) dL_cell_29 ksp_311 ?_
    refine z_iload_n C (pc := 32) dL_cell_32 2 rfl ?_
    refine z_imul C (pc := 33) dL_cell_33 ?_
    refine z_iadd C (pc := 34) dL_cell_34 ?_
    exact z_iret C (pc := 35) T dL_cell_35 (by decide) (by decide) trivial
