/-! CHILDREN -/
section CHILDREN
variable {n nL nE d : Nat} {D : Nat → Int32} {F F' : Nat → Nat → Int32} {S S1 S2 : Hp} {x m dd : Nat} {Q : Int32 → Hp → Hp → Hp → Prop}
theorem q0 (h : Q 1 S1 S2 S) : bz (1 : Int32) (Q 1 S1 S2 S) := bz1i h
theorem age_ok {s : Nat} (hs : s < 10) : ¬ ((5 : Int32) + nI s < 5 ∨ 17 < (5 : Int32) + nI s) := by
  rw [show (5 : Int32) + nI s = nI (5 + s) from nI_add 5 s]
  rintro (w | w)
  · have := (nI_lt_iff (b := 5) (by omega) (by omega)).mp w
    omega
  · have := (nI_lt_iff (a := 17) (by omega) (by omega)).mp w
    omega
theorem ch_20 {a z w : Int32} (hI : JV n nL nE d D F) (h1 : RS S1 x (n, 4, nL, nE, D, F)) (h2 : RS S2 m (n, 4, nL, nE, D, F)) (hA : DA S dd n nL nE F) (hQ : ∀ U1 U2 U, JJ U1 U2 U x m dd → Q 1 U1 U2 U) : wp_L_children_B20 Q S1 S2 S x m dd a z w := by
  unfold wp_L_children_B20
  have n24 := (iv_N hI).1
  have e : g_R S dd (0 : Int32).toNatClampNeg = nI n := hA.2.2.1
  refine some_of (N := 10) rfl (by decide) (by decide) ?_
  have s1 := smv_lt z (N := 10) (by decide)
  rcases do_child (a := 5 + nI (smv z 10)) (b := 0) (c := 0) (e := 0) hI (age_ok s1) with ⟨hn, hd⟩ | ⟨hn, hd⟩
  · refine both_of hd h1 h2 (fun U1 U2 r1 r2 => ⟨hA.1, da_v (k := 0) hA (by decide), da_v (k := 0) hA (by decide), ?_⟩)
    rw [lt_v, if_pos n3, if_pos rfl, e, Int32.add_zero]
    have hA' : DA (s_R S dd (0 : Int32).toNatClampNeg (nI n)) dd n nL nE F := da_0 hA
    refine ⟨hA'.1, da_v (k := 0) hA' (by decide), ?_⟩
    have e2 : g_R (s_R S dd (0 : Int32).toNatClampNeg (nI n)) dd (0 : Int32).toNatClampNeg = nI n := gR_s
    rw [e2, if_pos (show nI n = 24 by rw [hn]; rfl)]
    exact bz1i (hQ _ _ _ ⟨n, nL, nE, d, D, F, hI, r1, r2, hA'⟩)
  · have hI' := iv_child (a := 5 + nI (smv z 10)) hI hn
    have z12 := (hI.1.1.2.2.2.2.2.2.2.2.2.2.1 n (Nat.le_refl n) hn).1
    refine both_of hd h1 h2 (fun U1 U2 r1 r2 => ⟨hA.1, da_v (k := 0) hA (by decide), da_v (k := 0) hA (by decide), ?_⟩)
    rw [lt_v, if_neg (nI_pos (by omega)), if_neg (nI_n (by omega) n3), e, nI_s1]
    have hA' : DA (s_R S dd (0 : Int32).toNatClampNeg (nI (n + 1))) dd (n + 1) nL nE (chN F n (5 + nI (smv z 10))) := da_cg (da_0 hA) (by unfold chN; rw [g2_row (by decide), g2_row (by decide), g2_row (by decide), g2_row (by decide)]) (by unfold chN; rw [g2_row (by decide), g2_row (by decide), g2_row (by decide), g2_row (by decide)])
    refine ⟨hA'.1, da_v (k := 0) hA' (by decide), ?_⟩
    have e2 : g_R (s_R S dd (0 : Int32).toNatClampNeg (nI (n + 1))) dd (0 : Int32).toNatClampNeg = nI (n + 1) := gR_s
    rw [e2, nI_pred, if_pos rfl]
    refine ⟨rs_ok r1, oc0 r1 hI' (Nat.lt_succ_self n) (some_of (N := 10) rfl (by decide) (by decide) ?_)⟩
    have c6 : chN F n (5 + nI (smv z 10)) 6 n = 5 + nI (smv z 10) := by simp [chN, g_2]
    have c7 : chN F n (5 + nI (smv z 10)) 7 n = -1 := by simp [chN, g_2]
    have c12 : chN F n (5 + nI (smv z 10)) 12 n = 0 := by
      rw [← z12]
      simp [chN, g_2]
    rw [if_pos c6]
    refine ⟨rs_ok r1, oc1 r1 hI' (Nat.lt_succ_self n) ?_⟩
    rw [if_pos c7]
    refine ⟨rs_ok r1, oc5 r1 hI' (Nat.lt_succ_self n) ?_⟩
    exact q1 c12 (hQ _ _ _ ⟨n + 1, nL, nE, d, _, _, hI', r1, r2, hA'⟩)
theorem one_nI {s : Nat} : (1 : Int32) + nI s = nI (1 + s) := nI_add 1 s
theorem rng1 {k N : Nat} (h1 : 1 ≤ k) (h : k ≤ N) (hN : N < 2 ^ 31) : ¬ (nI k < 1 ∨ nI N < nI k) := by
  rintro (w | w)
  · have := (nI_lt_iff (b := 1) (by omega) (by decide)).mp w
    omega
  · have := (nI_lt_iff hN (by omega)).mp w
    omega
theorem nI_sb {a b : Nat} (h : b ≤ a) : nI a - nI b = nI (a - b) := pk_sub h
theorem ch_661 {a z w u v p : Int32} {i : Nat} (hI : JV n nL nE d D F) (h1 : RS S1 x (n, 4, nL, nE, D, F)) (h2 : RS S2 m (n, 4, nL, nE, D, F)) (hA : DA S dd n nL nE F) (hi : i < n) (hQ : ∀ U1 U2 U, JJ U1 U2 U x m dd → Q 1 U1 U2 U) : wp_L_children_B661 Q S1 S2 S x m dd a z w (nI i) u v p (F 12 i) := by
  unfold wp_L_children_B661
  refine some_of (N := 396) rfl (by decide) (by decide) ?_
  have s1 := smv_lt (z >>> ((5 : Int32) &&& 31)) (N := 396) (by decide)
  generalize smv (z >>> ((5 : Int32) &&& 31)) 396 = s at s1 ⊢
  rw [lt_v, one_nI]
  obtain ⟨tk, ow, e14, e12, q1', q2⟩ := hI.1.1.2.2.2.1 i hi
  rcases do_pay (b := nI (1 + s)) (c := 0) (e := 0) hI hi (rng1 (N := 396) (by omega) (by omega) (by decide)) with ⟨hw, hd⟩ | ⟨hw, hd⟩
  · refine both_of hd h1 h2 (fun U1 U2 r1 r2 => ?_)
    rw [if_pos rfl, if_neg hw]
    exact q0 (hQ _ _ _ ⟨n, nL, nE, d, D, F, hI, r1, r2, hA⟩)
  · have hle : 1 + s ≤ ow := by
      rw [e12] at hw
      exact (nI_le_iff (by omega) (by omega)).mp hw
    have es : F 12 i - nI (1 + s) = nI (ow - (1 + s)) := by
      rw [e12]
      exact nI_sb hle
    have hI' : JV n nL nE d D (g_2 F 12 i (F 12 i - nI (1 + s))) := by
      refine iv_M (i := i) (tk := tk) (ow := ow - (1 + s)) hI hi (fun j g1 g2 g3 => g2_row g1) (fun j k hk => g_2n _ _ (fun q => hk q.2)) ?_ ?_ q1' (by omega) (Or.inr ?_)
      · rw [g2_row (by decide)]
        exact e14
      · rw [g_2s]
        exact es
      · rw [g2_row (by decide)]
        refine (hI.2.2.2.1 i hi).resolve_left (fun q => ?_)
        rw [e12] at q
        have := (nI_z (by omega)).mp q
        omega
    refine both_of hd h1 h2 (fun U1 U2 r1 r2 => ?_)
    rw [if_neg (by rw [es]; exact nI_n (by omega) n3)]
    exact q1 rfl (hQ _ _ _ ⟨n, nL, nE, d, D, _, hI', r1, r2, da_cg hA (g2_row (by decide)) (g2_row (by decide))⟩)
/-- owed together, at least one child's -/
theorem owS_ge {t : Int32} {o : Nat → Nat} : ∀ {n : Nat}, (∀ k, k < n → F 12 k = nI (o k) ∧ o k ≤ 39996) → n ≤ 24 → ∃ s, owS F t n = nI s ∧ s ≤ n * 39996 ∧ ∀ i, i < n → F 13 i = t → o i ≤ s
  | 0, _, _ => ⟨0, rfl, by omega, fun i hi => by omega⟩
  | n + 1, h, h24 => by
    obtain ⟨s, e, hs, hi⟩ := owS_ge (t := t) (o := o) (n := n) (fun k hk => h k (by omega)) (by omega)
    obtain ⟨en, on⟩ := h n (by omega)
    rw [owS_s, e]
    by_cases z : F 12 n ≤ 0
    · rw [if_pos z]
      refine ⟨s, rfl, Nat.le_trans hs (Nat.mul_le_mul_right _ (Nat.le_succ n)), fun i hin hit => ?_⟩
      by_cases c : i = n
      · subst c
        rw [en, nI_le0 (by omega)] at z
        omega
      · exact hi i (by omega) hit
    · rw [if_neg z]
      by_cases c : F 13 n = t
      · rw [if_pos c, en, nI_add]
        refine ⟨s + o n, rfl, by omega, fun i hin hit => ?_⟩
        by_cases c2 : i = n
        · subst c2
          omega
        · have := hi i (by omega) hit
          omega
      · rw [if_neg c]
        refine ⟨s, rfl, Nat.le_trans hs (Nat.mul_le_mul_right _ (Nat.le_succ n)), fun i hin hit => ?_⟩
        by_cases c2 : i = n
        · subst c2
          exact absurd hit c
        · exact hi i (by omega) hit
theorem wm_o (h : W_M F n) : ∀ k, k < n → F 12 k = nI (F 12 k).toNatClampNeg ∧ (F 12 k).toNatClampNeg ≤ 39996 := fun k hk => by
  obtain ⟨tk, ow, -, e, h1, h2⟩ := h k hk
  rw [e, nIc (by omega)]
  exact ⟨rfl, by omega⟩
theorem ch_555 {a z w v p : Int32} {i : Nat} (hI : JV n nL nE d D F) (h1 : RS S1 x (n, 4, nL, nE, D, F)) (h2 : RS S2 m (n, 4, nL, nE, D, F)) (hA : DA S dd n nL nE F) (hi : i < n) (hQ : ∀ U1 U2 U, JJ U1 U2 U x m dd → Q 1 U1 U2 U) : wp_L_children_B555 Q S1 S2 S x m dd a z w (nI i) (F 7 i) v p (F 12 i) := by
  unfold wp_L_children_B555
  have n24 := (iv_N hI).1
  refine some_of (N := 99) rfl (by decide) (by decide) ?_
  have s1 := smv_lt (z >>> ((5 : Int32) &&& 31)) (N := 99) (by decide)
  generalize smv (z >>> ((5 : Int32) &&& 31)) 99 = s at s1 ⊢
  rw [lt_v, one_nI]
  obtain ⟨tk, ow, e14, e12, q1', q2⟩ := hI.1.1.2.2.2.1 i hi
  rcases do_boxes (b := nI (1 + s)) (c := 0) (e := 0) hI hi (rng1 (N := 99) (by omega) (by omega) (by decide)) with ⟨hw, hd⟩ | ⟨hw, hd⟩
  · refine both_of hd h1 h2 (fun U1 U2 r1 r2 => ?_)
    have hq : Q 1 U1 U2 S := hQ _ _ _ ⟨n, nL, nE, d, D, F, hI, r1, r2, hA⟩
    rw [if_pos rfl]
    refine ⟨rs_ok r1, oc5 r1 hI hi ?_⟩
    rw [if_pos rfl]
    by_cases c1 : F 7 i = -1
    · rw [if_pos c1]
      exact q0 hq
    · rw [if_neg c1]
      by_cases c2 : 0 < F 12 i
      · rw [if_pos c2]
        exact q0 hq
      · rw [if_neg c2]
        have c3 : F 12 i = 0 := by
          rw [e12] at c2 ⊢
          have : ¬ 0 < ow := fun w => c2 ((nI_lt_iff (a := 0) (by omega) (by omega)).mpr w)
          rw [show ow = 0 by omega]
          rfl
        rw [if_pos c3]
        exact q0 hq
  · have h14 := hw.2.2
    rw [e14, nI_add, show (9999 : Int32) = nI 9999 from rfl, nI_le_iff (by omega) (by omega)] at h14
    obtain ⟨t, ht, et⟩ := (hI.1.1.2.1 i hi).1.resolve_left hw.1
    have er : F 12 i + 4 * nI (1 + s) = nI (ow + 4 * (1 + s)) := by
      rw [e12, show (4 : Int32) = nI 4 from rfl, nI_mul, nI_add]
    have b12 : boxF F i (nI (1 + s)) 12 i = F 12 i + 4 * nI (1 + s) := by simp [boxF, g_2]
    have b13 : boxF F i (nI (1 + s)) 13 i = nI t := by
      rw [← et]
      simp [boxF, g_2]
    have hI' : JV n nL nE d D (boxF F i (nI (1 + s))) := by
      refine iv_M (i := i) (tk := tk + (1 + s)) (ow := ow + 4 * (1 + s)) hI hi (fun j g1 g2 g3 => ?_) (fun j k hk => ?_) ?_ (b12.trans er) (by omega) (by omega) (Or.inr ⟨t, ht, b13⟩)
      · unfold boxF
        rw [g2_row g1, g2_row g3, g2_row g2]
      · simp [boxF, g_2, hk]
      · have b14 : boxF F i (nI (1 + s)) 14 i = F 14 i + nI (1 + s) := by simp [boxF, g_2]
        rw [b14, e14, nI_add]
    refine both_of hd h1 h2 (fun U1 U2 r1 r2 => ?_)
    have hq : Q 1 U1 U2 S := hQ _ _ _ ⟨n, nL, nE, d, D, _, hI', r1, r2, da_cg hA (by unfold boxF; rw [g2_row (by decide), g2_row (by decide), g2_row (by decide)]) (by unfold boxF; rw [g2_row (by decide), g2_row (by decide), g2_row (by decide)])⟩
    rw [if_neg (by rw [er]; exact nI_n (by omega) n3), if_neg hw.1, if_pos rfl, et]
    refine ⟨rs_ok r1, owd r1 hI' ht ?_⟩
    obtain ⟨s', e', b', g'⟩ := owS_ge (F := boxF F i (nI (1 + s))) (t := nI t) (wm_o hI'.1.1.2.2.2.1) n24
    have := g' i hi b13
    rw [b12, er, nIc (by omega)] at this
    rw [e', er, if_neg (fun w => by have := (nI_lt_iff (by omega) (by omega)).mp w; omega)]
    exact q0 hq
theorem ch_458 {a z w v p : Int32} {i : Nat} (hI : JV n nL nE d D F) (h1 : RS S1 x (n, 4, nL, nE, D, F)) (h2 : RS S2 m (n, 4, nL, nE, D, F)) (hA : DA S dd n nL nE F) (hi : i < n) (hQ : ∀ U1 U2 U, JJ U1 U2 U x m dd → Q 1 U1 U2 U) : wp_L_children_B458 Q S1 S2 S x m dd a z w (nI i) (F 7 i) v p := by
  unfold wp_L_children_B458
  refine ⟨rs_ok h1, oc3 h1 hI hi (some_of (N := 4) rfl (by decide) (by decide) ?_)⟩
  have s1 := smv_lt (z >>> ((5 : Int32) &&& 31)) (N := 4) (by decide)
  rcases do_patrol (p := smv (z >>> ((5 : Int32) &&& 31)) 4) (c := 0) (e := 0) hI hi s1 with ⟨hw, hd⟩ | ⟨hw, hd⟩
  · refine both_of hd h1 h2 (fun U1 U2 r1 r2 => ?_)
    rw [if_pos rfl, if_pos hw]
    exact q0 (hQ _ _ _ ⟨n, nL, nE, d, D, F, hI, r1, r2, hA⟩)
  · have hI' := iv_patrol hI hi s1 hw
    obtain ⟨q, hq, eq⟩ := hI.2.1 i hi hw
    refine both_of hd h1 h2 (fun U1 U2 r1 r2 => ?_)
    rw [if_neg (by rw [eq]; exact nI_n (by omega) n3), if_pos rfl]
    refine ⟨rs_ok r1, oc3 r1 hI' hi (some_of (N := 4) rfl (by decide) (by decide) ?_)⟩
    exact q1 (g_2s _ _ _ _) (hQ _ _ _ ⟨n, nL, nE, d, D, _, hI', r1, r2, da_cg hA (g2_row (by decide)) (g2_row (by decide))⟩)
theorem ch_327 {a z w p : Int32} {i : Nat} (hI : JV n nL nE d D F) (h1 : RS S1 x (n, 4, nL, nE, D, F)) (h2 : RS S2 m (n, 4, nL, nE, D, F)) (hA : DA S dd n nL nE F) (hi : i < n) (hQ : ∀ U1 U2 U, JJ U1 U2 U x m dd → Q 1 U1 U2 U) : wp_L_children_B327 Q S1 S2 S x m dd a z w (nI i) (F 7 i) (F 8 i) p := by
  unfold wp_L_children_B327
  have n24 := (iv_N hI).1
  refine ⟨rs_ok h1, oc5 h1 hI hi ?_⟩
  have w12 : wOut F i 12 i = F 12 i := by rw [wOut_row (by decide) (by decide) (by decide)]
  rcases do_leave (b := 0) (c := 0) (e := 0) hI hi with ⟨g7, g8, hd⟩ | ⟨g7, g8, hd⟩ | ⟨t, ht, et, hf, hd⟩ | ⟨t, f, ht, et, hf, hd⟩
  · refine both_of hd h1 h2 (fun U1 U2 r1 r2 => ?_)
    rw [if_pos rfl, if_pos g7, if_pos g8]
    exact q0 (hQ _ _ _ ⟨n, nL, nE, d, D, F, hI, r1, r2, hA⟩)
  · have hI' := iv_wOut1 hI hi g7
    refine both_of hd h1 h2 (fun U1 U2 r1 r2 => ?_)
    rw [if_neg (by decide)]
    refine ⟨rs_ok r1, oc1 r1 hI' hi ?_⟩
    rw [if_pos wOut_7]
    refine ⟨rs_ok r1, oc2 r1 hI' hi ?_⟩
    rw [if_pos wOut_8]
    refine ⟨rs_ok r1, oc3 r1 hI' hi ?_⟩
    rw [if_pos wOut_11]
    refine ⟨rs_ok r1, oc5 r1 hI' hi ?_⟩
    rw [if_pos w12, if_pos rfl]
    exact q0 (hQ _ _ _ ⟨n, nL, nE, d, D, _, hI', r1, r2, da_cg hA (wOut_row (by decide) (by decide) (by decide)) (wOut_row (by decide) (by decide) (by decide))⟩)
  · have hI' := iv_wOut0 hI hi ht et hf
    refine both_of hd h1 h2 (fun U1 U2 r1 r2 => ?_)
    rw [if_neg (by decide)]
    refine ⟨rs_ok r1, oc1 r1 hI' hi ?_⟩
    rw [if_pos wOut_7]
    refine ⟨rs_ok r1, oc2 r1 hI' hi ?_⟩
    rw [if_pos wOut_8]
    refine ⟨rs_ok r1, oc3 r1 hI' hi ?_⟩
    rw [if_pos wOut_11]
    refine ⟨rs_ok r1, oc5 r1 hI' hi ?_⟩
    rw [if_pos w12, if_pos rfl]
    exact q0 (hQ _ _ _ ⟨n, nL, nE, d, D, _, hI', r1, r2, da_cg hA (wOut_row (by decide) (by decide) (by decide)) (wOut_row (by decide) (by decide) (by decide))⟩)
  · have hI' := iv_leave hI hi ht et hf
    obtain ⟨f1, fi, f8, f7⟩ := leave_f hI.1.1.2.1 ht hf
    have fi' : i ≠ f := fun e => fi e.symm
    refine both_of hd h1 h2 (fun U1 U2 r1 r2 => ?_)
    rw [if_neg (nI_n (by omega) n3)]
    refine ⟨rs_ok r1, oc1 r1 hI' hi ?_⟩
    rw [if_pos ((cIn_o fi').trans wOut_7)]
    refine ⟨rs_ok r1, oc2 r1 hI' hi ?_⟩
    rw [if_pos ((cIn_o fi').trans wOut_8)]
    refine ⟨rs_ok r1, oc3 r1 hI' hi ?_⟩
    rw [if_pos ((cIn_o fi').trans wOut_11)]
    refine ⟨rs_ok r1, oc5 r1 hI' hi ?_⟩
    rw [if_pos ((cIn_o fi').trans w12), if_neg (nI_m1 (by omega)), if_neg (by rw [et]; exact nI_m1 (by omega))]
    refine ⟨rs_ok r1, oc1 r1 hI' f1 ?_⟩
    exact q1 (cIn_7.trans et.symm) (hQ _ _ _ ⟨n, nL, nE, d, D, _, hI', r1, r2, da_cg hA (by rw [cIn_row (by decide) (by decide) (by decide), wOut_row (by decide) (by decide) (by decide)]) (by rw [cIn_row (by decide) (by decide) (by decide), wOut_row (by decide) (by decide) (by decide)])⟩)
theorem ch_182 {a z w : Int32} {i t : Nat} (hI : JV n nL nE d D F) (h1 : RS S1 x (n, 4, nL, nE, D, F)) (h2 : RS S2 m (n, 4, nL, nE, D, F)) (hA : DA S dd n nL nE F) (hi : i < n) (ht : t < 4) (hQ : ∀ U1 U2 U, JJ U1 U2 U x m dd → Q 1 U1 U2 U) : wp_L_children_B182 Q S1 S2 S x m dd a z w (nI i) (F 7 i) (F 8 i) (nI t) := by
  unfold wp_L_children_B182
  have n24 := (iv_N hI).1
  refine ⟨rs_ok h1, ot0 h1 hI ht ?_⟩
  rcases do_join (t := t) (c := 0) (e := 0) hI hi ht with ⟨hw, hd⟩ | ⟨g7, g8, hlt, hd⟩ | ⟨g7, g8, hlt, hd⟩
  · refine both_of hd h1 h2 (fun U1 U2 r1 r2 => ?_)
    rw [if_pos rfl]
    refine ⟨rs_ok r1, oc1 r1 hI hi ?_⟩
    rw [if_pos rfl]
    refine ⟨rs_ok r1, oc2 r1 hI hi ?_⟩
    rw [if_pos rfl]
    exact q0 (hQ _ _ _ ⟨n, nL, nE, d, D, F, hI, r1, r2, hA⟩)
  · have hI' := iv_cIn hI hi ht g7 g8 hlt
    refine both_of hd h1 h2 (fun U1 U2 r1 r2 => ?_)
    rw [if_neg (by decide), if_pos g7, if_pos g8, if_pos rfl]
    refine ⟨rs_ok r1, oc1 r1 hI' hi ?_⟩
    rw [if_pos cIn_7]
    refine ⟨rs_ok r1, ot0 r1 hI' ht ?_⟩
    rw [inT_cIn hi (by rw [g7]; exact m1_nI ht), nI_s1, if_pos rfl]
    exact q0 (hQ _ _ _ ⟨n, nL, nE, d, D, _, hI', r1, r2, da_cg hA (cIn_row (by decide) (by decide) (by decide)) (cIn_row (by decide) (by decide) (by decide))⟩)
  · have hI' := iv_joW hI hi ht g7 g8 hlt
    have hwa := waT_le (joW D F i t) n (nI t)
    have u2 := waT_up (F := F) (G := joW D F i t) (s := nI t) hi (fun k _ e => joW_8o e)
    rw [g8, joW_8, if_neg (m1_nI ht), if_pos rfl] at u2
    refine both_of hd h1 h2 (fun U1 U2 r1 r2 => ?_)
    rw [if_neg (nI_n (by omega) n3), if_pos g7, if_pos g8, if_neg (fun q => by have := (nI_z (by omega)).mp q; omega)]
    refine ⟨rs_ok r1, oc2 r1 hI' hi ?_⟩
    rw [if_pos joW_8]
    refine ⟨rs_ok r1, ot1 r1 hI' ht ?_⟩
    exact q1 rfl (hQ _ _ _ ⟨n, nL, nE, d, _, _, hI', r1, r2, da_cg hA (joW_row (by decide) (by decide)) (joW_row (by decide) (by decide))⟩)
theorem children_ok {a z : Int32} (hJ : JJ S1 S2 S x m dd) (hQ : ∀ U1 U2 U, JJ U1 U2 U x m dd → Q 1 U1 U2 U) : wp_L_children S1 S2 S x m dd a z Q := by
  obtain ⟨n, nL, nE, d, D, F, hI, h1, h2, hA⟩ := hJ
  have n24 := (iv_N hI).1
  unfold wp_L_children
  refine some_of (N := 12) rfl (by decide) (by decide) ?_
  by_cases c1 : nI (smv a 12) < 3
  · rw [if_pos c1]
    exact ch_20 hI h1 h2 hA hQ
  · rw [if_neg c1]
    have e : g_R S dd (0 : Int32).toNatClampNeg = nI n := hA.2.2.1
    have e1 : g_R S dd (1 : Int32).toNatClampNeg = nI 4 := hA.2.2.2.1
    refine ⟨hA.1, da_v (k := 0) hA (by decide), ?_⟩
    rw [e]
    by_cases c2 : nI n = 0
    · rw [if_pos c2]
      exact ch_20 hI h1 h2 hA hQ
    · rw [if_neg c2]
      have hz : n ≠ 0 := fun q => c2 (by rw [q]; rfl)
      unfold wp_L_children_B135
      refine ⟨hA.1, da_v (k := 0) hA (by decide), ?_⟩
      rw [e]
      refine some_of (N := n) rfl (by omega) (by omega) ?_
      have hi := smv_lt z (N := n) (by omega)
      refine ⟨rs_ok h1, oc1 h1 hI hi ⟨rs_ok h1, oc2 h1 hI hi ⟨hA.1, da_v (k := 1) hA (by decide), some_of (N := 4) e1 (by decide) (by decide) ?_⟩⟩⟩
      have ht := smv_lt (z >>> ((5 : Int32) &&& 31)) (N := 4) (by decide)
      by_cases c3 : 7 ≤ nI (smv a 12)
      · rw [if_pos c3]
        by_cases c4 : 9 ≤ nI (smv a 12)
        · rw [if_pos c4]
          by_cases c5 : 10 ≤ nI (smv a 12)
          · rw [if_pos c5]
            refine ⟨rs_ok h1, oc5 h1 hI hi ?_⟩
            by_cases c6 : 11 ≤ nI (smv a 12)
            · rw [if_pos c6]
              exact ch_661 hI h1 h2 hA hi hQ
            · rw [if_neg c6]
              exact ch_555 hI h1 h2 hA hi hQ
          · rw [if_neg c5]
            exact ch_458 hI h1 h2 hA hi hQ
        · rw [if_neg c4]
          exact ch_327 hI h1 h2 hA hi hQ
      · rw [if_neg c3]
        exact ch_182 hI h1 h2 hA hi ht hQ
end CHILDREN
