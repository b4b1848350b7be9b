/-! BADGES -/
section BADGES
variable {n nL nE d : Nat} {D : Nat → Int32} {F G : Nat → Nat → Int32} {S S1 S2 : Hp} {x m dd : Nat} {Q : Int32 → Hp → Hp → Hp → Prop}
theorem mxN_mono {p q : Nat → Nat} {s e : Nat} (h : ∀ k, k < 16 → q k ≤ p k) : mxN q s e 16 ≤ mxN p s e 16 := by
  obtain ⟨h1, h2⟩ := (mxN_le_iff (p := p) (s := s) (d := e) (T := mxN p s e 16) 16).mp (Nat.le_refl _)
  exact (mxN_le_iff 16).mpr ⟨h1, fun i hi hs => Nat.le_trans (h i hi) (h2 i hi hs)⟩
theorem cnD_sub {p q : Nat → Nat} {s t : Nat} (h : ∀ k, k < 16 → q k ≤ p k) : cnD p s t 16 ≤ cnD q s t 16 := by
  unfold cnD
  rw [ct_fb, ct_fb]
  refine fb_ct_sub (fun k hk w => ?_)
  simp only [Bool.and_eq_true, decide_eq_true_eq] at w ⊢
  exact ⟨w.1, Nat.le_trans (h k hk) w.2⟩
theorem dmT_mono {p q : Nat → Nat} {s y : Nat} (h : ∀ k, k < 16 → q k ≤ p k) : dmT q s y 16 ≤ dmT p s y 16 := by
  rcases Nat.lt_or_ge (dmT p s y 16) 100000 with c | c
  · exact (dmT_le_iff c).mpr (Nat.le_trans ((dmT_le_iff c).mp (Nat.le_refl _)) (cnD_sub h))
  · exact Nat.le_trans (dmT_le q s y 16) c
theorem dayv_mono {c b : Nat} {T U : Nat → Nat} (h17 : G 17 (8 * c + b) = F 17 (8 * c + b)) (h18 : G 18 (8 * c + b) = F 18 (8 * c + b)) (h24 : G 24 = F 24) (hp : ∀ k, k < 16 → pd G c k ≤ pd F c k) (hT : ∀ k, U k ≤ T k) : dayv G c b U ≤ dayv F c b T := by
  have e : eAt G c b = eAt F c b := by
    unfold eAt
    rw [h18]
  unfold dayv
  rw [h17, h24, e]
  have a1 := mxN_mono (p := pd F c) (q := pd G c) (s := (F 24 (eAt F c b)).toNatClampNeg) (e := (F 17 (8 * c + b)).toNatClampNeg) hp
  have a2 := dmT_mono (p := pd F c) (q := pd G c) (s := (F 24 (eAt F c b + 1)).toNatClampNeg) (y := (F 24 (eAt F c b + 2)).toNatClampNeg) hp
  have a3 := hT (F 24 (eAt F c b + 3)).toNatClampNeg
  by_cases z : F 17 (8 * c + b) = -1
  · rw [if_pos z, if_pos z]
    exact Nat.le_refl _
  · rw [if_neg z, if_neg z]
    by_cases z2 : F 24 (eAt F c b + 3) = -1
    · rw [if_pos z2, if_pos z2]
      omega
    · rw [if_neg z2, if_neg z2]
      omega
theorem dyT_mono {c : Nat} (h24 : G 24 = F 24) (hp : ∀ k, k < 16 → pd G c k ≤ pd F c k) (hb : ∀ b, b < 8 → F 17 (8 * c + b) = -1 ∨ (G 17 (8 * c + b) = F 17 (8 * c + b) ∧ G 18 (8 * c + b) = F 18 (8 * c + b))) : ∀ k, k ≤ 8 → ∀ b, dyT G c k b ≤ dyT F c k b
  | 0, _, _ => Nat.le_refl _
  | k + 1, hk, b => by
    have ih := dyT_mono h24 hp hb k (by omega)
    show (if b = k then dayv G c k (dyT G c k) else dyT G c k b) ≤ (if b = k then dayv F c k (dyT F c k) else dyT F c k b)
    by_cases e : b = k
    · rw [if_pos e, if_pos e]
      rcases hb k (by omega) with w | ⟨w1, w2⟩
      · have : dayv F c k (dyT F c k) = 100000 := by
          unfold dayv
          rw [if_pos w]
        rw [this]
        exact dayv_le _ _ _ _
      · exact dayv_mono w1 w2 h24 hp ih
    · rw [if_neg e, if_neg e]
      exact ih b
theorem ea_mono {c e e' : Nat} (h : ∀ b, dyT G c 8 b ≤ dyT F c 8 b) (he : e ≤ e') : eaN F c e 8 ≤ eaN G c e' 8 := by
  unfold eaN
  rw [ct_fb, ct_fb]
  refine fb_ct_sub (fun k hk w => ?_)
  simp only [decide_eq_true_eq] at w ⊢
  exact Nat.le_trans (h k) (Nat.le_trans w he)
theorem dyT_from {c b : Nat} (hb : b < 8) (h17 : F 17 (8 * c + b) = nI d) (d4 : d < 10000) : d ≤ dyT F c 8 b := by
  rw [dyT_at F c 8 hb]
  unfold dayv
  have e : ¬ F 17 (8 * c + b) = -1 := by rw [h17]; exact nI_m1 (by omega)
  rw [if_neg e, h17, nIc (by omega)]
  have a1 := ((mxN_le_iff (p := pd F c) (s := (F 24 (eAt F c b)).toNatClampNeg) (d := d) (T := mxN (pd F c) (F 24 (eAt F c b)).toNatClampNeg d 16) 16).mp (Nat.le_refl _)).1
  by_cases z2 : F 24 (eAt F c b + 3) = -1
  · rw [if_pos z2]
    omega
  · rw [if_neg z2]
    omega
theorem lk_zero {c b : Nat} (hb : b < 8) (h : dyT F c 8 b ≤ d) (d4 : d < 10000) : lkN F c (F 24 (eAt F c b)).toNatClampNeg 16 = 0 := by
  rw [dyT_at F c 8 hb] at h
  unfold dayv at h
  by_cases z : F 17 (8 * c + b) = -1
  · rw [if_pos z] at h
    omega
  · rw [if_neg z] at h
    have a0 : mxN (pd F c) (F 24 (eAt F c b)).toNatClampNeg (F 17 (8 * c + b)).toNatClampNeg 16 ≤ d := by
      by_cases z2 : F 24 (eAt F c b + 3) = -1
      · rw [if_pos z2] at h
        omega
      · rw [if_neg z2] at h
        omega
    have a1 := ((mxN_le_iff 16).mp a0).2
    rw [lkN_bs]
    refine Nat.eq_of_testBit_eq (fun j => ?_)
    rw [bs_bit, Nat.zero_testBit]
    by_cases hj : j < 16
    · cases hm : (F 24 (eAt F c b)).toNatClampNeg.testBit j with
      | false => simp
      | true =>
        have := a1 j hj hm
        unfold pd at this
        by_cases w : F 16 (16 * c + j) = -1
        · rw [if_pos w] at this
          omega
        · simp [w]
    · simp [hj]
theorem lk_bit {c k s : Nat} (h : ¬ F 16 (16 * c + k) = -1) : (lkN F c s 16).testBit k = false := by
  rw [lkN_bs, bs_bit]
  simp [h]
/-! editions -/
theorem pop_pos {s : Nat} (hs : s < 65536) (h : s ≠ 0) : 1 ≤ pop s 16 := by
  obtain ⟨i, hi⟩ := Nat.exists_testBit_of_ne_zero h
  unfold pop
  rw [ct_fb]
  exact fb_ct_pos.mpr ⟨i, lt_bit (m := 16) hs hi, hi⟩
theorem dfN_le {s t : Nat} : dfN s t < 65536 := bs_lt _ 16
theorem df_and {s t : Nat} : nI t &&& nI (dfN s t) = 0 := by
  rw [nx_and]
  have e : t &&& dfN s t = 0 := by
    refine Nat.eq_of_testBit_eq (fun i => ?_)
    rw [Nat.testBit_and, Nat.zero_testBit]
    unfold dfN
    rw [bs_bit]
    cases t.testBit i <;> simp
  rw [e]
  rfl
theorem da_b {b : Nat} {v : Int32} (h : DA S dd n nL nE F) (hb : b < 8) (e1 : G 23 b = v) (e2 : ∀ k, k ≠ b → G 23 k = F 23 k) (e28 : G 28 = F 28) : DA (s_R S dd (4 + b) v) dd n nL nE G := by
  obtain ⟨h1, h2, h3, h4, h5, h6, h7, h8⟩ := h
  refine ⟨h1, h2, (gR_n (by omega)).trans h3, (gR_n (by omega)).trans h4, (gR_n (by omega)).trans h5, (gR_n (by omega)).trans h6, fun k hk => ?_, fun e he => ?_⟩
  · by_cases c : k = b
    · subst c
      exact gR_s.trans e1.symm
    · rw [e2 k c]
      exact (gR_n (by omega)).trans (h7 k hk)
  · rw [e28]
    exact (gR_n (by omega)).trans (h8 e he)
theorem edi_23 {b v : Nat} {m1 c y p g l : Int32} : ediF F b v m1 c y p g l 23 b = nI (v + 1) := by
  unfold ediF
  exact g_2s _ _ _ _
theorem edi_23o {b v k : Nat} {m1 c y p g l : Int32} (h : k ≠ b) : ediF F b v m1 c y p g l 23 k = F 23 k := by
  unfold ediF
  rw [g_2n _ _ (fun q => h q.2), g2_row (by decide), g2_row (by decide), g2_row (by decide), g2_row (by decide), g2_row (by decide), g2_row (by decide)]
theorem four_nI {b : Nat} : (4 : Int32) + nI b = nI (4 + b) := nI_add 4 b
theorem bg_165 {a z w c y p : Int32} {b s : Nat} {told : Int32} {n0 : Nat} (hI : JV n nL nE d D G) (h1 : RS S1 x (n, 4, nL, nE, D, G)) (h2 : RS S2 m (n, 4, nL, nE, D, G)) (hA : DA S dd n nL nE F) (hb : b < 8) (hc : (told = -2000000003 ∧ F 23 b = 3 ∧ G = F) ∨ ∃ v, v < 3 ∧ told = nI v ∧ F 23 b = nI v ∧ G 23 b = nI (v + 1) ∧ (∀ k, k ≠ b → G 23 k = F 23 k) ∧ G 28 = F 28) (hQ : ∀ U1 U2 U, JJ U1 U2 U x m dd → Q 1 U1 U2 U) : wp_L_badges_B165 Q S1 S2 S x m dd a z w (nI b) (nI s) c y p told 1 := by
  unfold wp_L_badges_B165
  rw [four_nI]
  have hv := da_v (k := 4 + b) hA (by omega)
  refine ⟨hA.1, hv, hv, ?_⟩
  have e : g_R S dd (nI (4 + b)).toNatClampNeg = F 23 b := by
    rw [nIc (by omega)]
    exact hA.2.2.2.2.2.2.1 b hb
  rw [lt_v, if_neg (show ¬ (1 : Int32) = 0 by decide), e]
  rcases hc with ⟨rfl, h3, rfl⟩ | ⟨v, hv3, rfl, ev, g1, g2, g3⟩
  · rw [if_pos n3, if_pos rfl, Int32.add_zero, nIc (show 4 + b < 2 ^ 31 by omega)]
    have hA' : DA (s_R S dd (4 + b) (G 23 b)) dd n nL nE G := da_b hA hb rfl (fun _ _ => rfl) rfl
    refine ⟨hA'.1, da_v (k := 4 + b) hA' (by omega), ?_⟩
    rw [gR_s, if_pos h3]
    exact bz1i (hQ _ _ _ ⟨n, nL, nE, d, D, G, hI, h1, h2, hA'⟩)
  · rw [if_neg (nI_pos (by omega)), if_neg (nI_n (by omega) n3), ev, nI_s1, nIc (show 4 + b < 2 ^ 31 by omega)]
    have hA' : DA (s_R S dd (4 + b) (nI (v + 1))) dd n nL nE G := da_b hA hb g1 g2 g3
    refine ⟨hA'.1, da_v (k := 4 + b) hA' (by omega), ?_⟩
    rw [gR_s, nI_pred]
    exact q1 rfl (hQ _ _ _ ⟨n, nL, nE, d, D, G, hI, h1, h2, hA'⟩)
theorem bg_87 {a z w p : Int32} {b s c y : Nat} (hI : JV n nL nE d D F) (h1 : RS S1 x (n, 4, nL, nE, D, F)) (h2 : RS S2 m (n, 4, nL, nE, D, F)) (hA : DA S dd n nL nE F) (hb : b < 8) (hs : s < 65536) (hc : c < 65536) (hsc : nI s &&& nI c = 0) (hy : y ≤ pop c 16) (hp : ¬ (p < -1 ∨ nI b - 1 < p)) (hQ : ∀ U1 U2 U, JJ U1 U2 U x m dd → Q 1 U1 U2 U) : wp_L_badges_B87 Q S1 S2 S x m dd a z w (nI b) (nI s) (nI c) (nI y) p := by
  unfold wp_L_badges_B87
  refine some_of (N := 30) rfl (by decide) (by decide) (some_of (N := 40) rfl (by decide) (by decide) ?_)
  have s1 := smv_lt (a >>> ((7 : Int32) &&& 31)) (N := 30) (by decide)
  have s2 := smv_lt (a >>> ((9 : Int32) &&& 31)) (N := 40) (by decide)
  have hpo := pop_le c 16
  have hw : edV (nI b) (nI s) (nI c) (nI y) p (nI (smv (a >>> ((7 : Int32) &&& 31)) 30)) (nI (smv (a >>> ((9 : Int32) &&& 31)) 40)) :=
    ⟨rng (N := 65535) (by omega) (by decide), rng (N := 65535) (by omega) (by decide), hsc, by rw [nIc (by omega)]; exact rng hy (by omega), hp, Or.inr (rng (N := 400) (by omega) (by decide)), rng (N := 4000) (by omega) (by decide)⟩
  rcases do_edition hI hb hw with ⟨h3, hd⟩ | ⟨v, hv, ev, hd⟩
  · refine hd S1 x _ h1 (fun U1 r1 => some_of (N := 30) rfl (by decide) (by decide) (some_of (N := 40) rfl (by decide) (by decide) (hd S2 m _ h2 (fun U2 r2 => ?_))))
    rw [lt_v, if_pos rfl]
    exact bg_165 (n0 := 0) hI r1 r2 hA hb (Or.inl ⟨rfl, h3, rfl⟩) hQ
  · refine hd S1 x _ h1 (fun U1 r1 => some_of (N := 30) rfl (by decide) (by decide) (some_of (N := 40) rfl (by decide) (by decide) (hd S2 m _ h2 (fun U2 r2 => ?_))))
    rw [lt_v, if_pos rfl]
    exact bg_165 (n0 := 0) (iv_edition hI hb ev hv hw) r1 r2 hA hb (Or.inr ⟨v, hv, rfl, ev, edi_23, fun k hk => edi_23o hk, edi_row (by decide) (by decide)⟩) hQ
theorem before_ok {b t : Nat} (hb : b < 8) (ht : t < b + 1) : ¬ (nI t - 1 < -1 ∨ nI b - 1 < nI t - 1) := by
  rw [i_lt, i_lt, sub1_toInt (by omega), sub1_toInt (by omega), show (-1 : Int32).toInt = -1 from rfl]
  omega
theorem bg_23 {a z w : Int32} {b : Nat} (hI : JV n nL nE d D F) (h1 : RS S1 x (n, 4, nL, nE, D, F)) (h2 : RS S2 m (n, 4, nL, nE, D, F)) (hA : DA S dd n nL nE F) (hb : b < 8) (hQ : ∀ U1 U2 U, JJ U1 U2 U x m dd → Q 1 U1 U2 U) : wp_L_badges_B23 Q S1 S2 S x m dd a z w (nI b) := by
  unfold wp_L_badges_B23
  refine some_of (N := 64) rfl (by decide) (by decide) (some_of (N := 1024) rfl (by decide) (by decide) ?_)
  have s1 := smv_lt (z >>> ((3 : Int32) &&& 31)) (N := 64) (by decide)
  have s2 := smv_lt (z >>> ((6 : Int32) &&& 31)) (N := 1024) (by decide)
  generalize smv (z >>> ((3 : Int32) &&& 31)) 64 = s at s1 ⊢
  generalize smv (z >>> ((6 : Int32) &&& 31)) 1024 = t at s2 ⊢
  rw [lt_v, lt_v, nd_and (by omega)]
  have hc := dfN_le (s := t) (t := s)
  have hz := nI_z (k := dfN t s) (by omega)
  have hm : ∃ y : Nat, y ≤ pop (dfN t s) 16 ∧ (if nI (dfN t s) = 0 then (0 : Int32) else 1) = nI y := by
    by_cases q : dfN t s = 0
    · exact ⟨0, Nat.zero_le _, by rw [if_pos (hz.mpr q)]; rfl⟩
    · exact ⟨1, pop_pos hc q, by rw [if_neg (fun w => q (hz.mp w))]; rfl⟩
  obtain ⟨y, hy, ey⟩ := hm
  rw [ey]
  by_cases q : nI b = 0
  · rw [if_pos q]
    refine bg_87 hI h1 h2 hA hb (by omega) hc df_and hy ?_ hQ
    have hb0 : b = 0 := (nI_z (by omega)).mp q
    subst hb0
    decide
  · rw [if_neg q, nI_s1]
    refine some_of (N := b + 1) rfl (by omega) (by omega) ?_
    rw [lt_v]
    exact bg_87 hI h1 h2 hA hb (by omega) hc df_and hy (before_ok hb (smv_lt _ (by omega))) hQ
/-! begun -/
theorem beg_17 {i b v : Nat} : begF D F i b v 17 (8 * i + b) = D 0 := by
  unfold begF
  rw [g_2n _ _ (fun q => by omega), g_2s]
theorem beg_o {i b v j k : Nat} (h : k ≠ 8 * i + b) : begF D F i b v j k = F j k := by
  unfold begF
  rw [g_2n _ _ (fun q => h q.2), g_2n _ _ (fun q => h q.2)]
theorem beg_mono {i b v : Nat} (h17 : F 17 (8 * i + b) = -1) : ∀ c, dyT (begF D F i b v) i 8 c ≤ dyT F i 8 c := by
  refine dyT_mono (beg_row (by decide) (by decide)) (fun k _ => ?_) (fun c hc => ?_) 8 (Nat.le_refl 8)
  · unfold pd
    rw [beg_row (by decide) (by decide)]
    exact Nat.le_refl _
  · by_cases e : c = b
    · subst e
      exact Or.inl h17
    · exact Or.inr ⟨beg_o (by omega), beg_o (by omega)⟩
theorem bg_293 {a z w : Int32} {i b : Nat} (hI : JV n nL nE d D F) (h1 : RS S1 x (n, 4, nL, nE, D, F)) (h2 : RS S2 m (n, 4, nL, nE, D, F)) (hA : DA S dd n nL nE F) (hi : i < n) (hb : b < 8) (hQ : ∀ U1 U2 U, JJ U1 U2 U x m dd → Q 1 U1 U2 U) : wp_L_badges_B293 Q S1 S2 S x m dd a z w (nI b) (nI i) (nI (eaN F i d 8)) := by
  obtain ⟨n24, l8, e20, d4, gd⟩ := iv_N hI
  unfold wp_L_badges_B293
  rw [four_nI]
  have e23 : g_R S dd (nI (4 + b)).toNatClampNeg = F 23 b := by
    rw [nIc (by omega)]
    exact hA.2.2.2.2.2.2.1 b hb
  have hv := da_v (k := 4 + b) hA (by omega)
  rcases do_begin (b := b) (c := 0) (e := 0) hI hi hb with ⟨hw, hd⟩ | ⟨v, hv3, ev, h17, hd⟩
  · refine both_of hd h1 h2 (fun U1 U2 r1 r2 => ?_)
    rcases do_lacks (b := b) (c := 0) (e := 0) hI hi hb with ⟨k17, kd⟩ | ⟨k17, kd⟩
    · refine kd U1 x _ r1 (fun V v1 => ?_)
      have z23 : F 23 b = 0 := hw.resolve_right (fun q => q k17)
      rw [if_pos rfl]
      refine ⟨hA.1, hv, ?_⟩
      rw [e23, if_pos z23, if_pos rfl, if_pos rfl]
      exact q0 (hQ _ _ _ ⟨n, nL, nE, d, D, F, hI, v1, r2, hA⟩)
    · have hlk := lkN_lt F i (F 24 (eAt F i b)).toNatClampNeg 16
      refine kd U1 x _ r1 (fun V v1 => ?_)
      have z23 : ¬ F 23 b = 0 := fun q => by
        have := (hI.1.1.2.2.2.2.2.1 i hi b hb).2.resolve_left k17
        unfold edn at this
        rw [q] at this
        exact absurd this.2 (Nat.not_lt_zero _)
      rw [if_pos rfl]
      refine ⟨hA.1, hv, ?_⟩
      rw [e23, if_neg z23, if_neg (nI_n (by omega) n3), if_pos rfl]
      exact q0 (hQ _ _ _ ⟨n, nL, nE, d, D, F, hI, v1, r2, hA⟩)
  · have hI' := iv_begin hI hi hb ev hv3
    refine both_of hd h1 h2 (fun U1 U2 r1 r2 => ?_)
    have hA' : DA S dd n nL nE (begF D F i b v) := da_cg hA (beg_row (by decide) (by decide)) (beg_row (by decide) (by decide))
    have k17 : begF D F i b v 17 (8 * i + b) = nI d := beg_17.trans gd
    rcases do_lacks (b := b) (c := 0) (e := 0) hI' hi hb with ⟨k17', kd⟩ | ⟨k17', kd⟩
    · rw [k17] at k17'
      exact absurd k17' (nI_m1 (by omega))
    · have hlk := lkN_lt (begF D F i b v) i (begF D F i b v 24 (eAt (begF D F i b v) i b)).toNatClampNeg 16
      refine kd U1 x _ r1 (fun V v1 => ?_)
      have hq : Q 1 V U2 S := hQ _ _ _ ⟨n, nL, nE, d, D, _, hI', v1, r2, hA'⟩
      have hmon : ¬ nI (eaN (begF D F i b v) i d 8) < nI (eaN F i d 8) := fun w => by
        have b1 := ct_le (fun b' => decide (dyT (begF D F i b v) i 8 b' ≤ d)) 8
        have b2 := ct_le (fun b' => decide (dyT F i 8 b' ≤ d)) 8
        have := (nI_lt_iff (by unfold eaN; omega) (by unfold eaN; omega)).mp w
        have := ea_mono (e := d) (e' := d) (beg_mono (D := D) (v := v) h17) (Nat.le_refl d)
        omega
      rw [if_neg (nI_n (by omega) n3)]
      refine ⟨hA.1, hv, ?_⟩
      rw [e23, ev, nI_pred, if_pos rfl, if_neg (nI_pos (by omega))]
      refine ⟨rs_ok v1, erd v1 hI' hi hb ?_⟩
      by_cases c1 : dyT (begF D F i b v) i 8 b ≤ d
      · have hge := dyT_from hb k17 d4
        rw [if_neg (fun w => (ern_m1.mp w) c1)]
        refine ⟨rs_ok v1, erd v1 hI' hi hb ⟨rs_ok v1, tdd v1 hI' ?_⟩⟩
        rw [if_pos (show (if dyT (begF D F i b v) i 8 b ≤ d then nI (dyT (begF D F i b v) i 8 b) else -1) = nI d by rw [if_pos c1, show dyT (begF D F i b v) i 8 b = d by omega])]
        refine ⟨rs_ok v1, oc4 v1 hI' hi ?_⟩
        rw [if_neg hmon]
        exact q0 hq
      · rw [if_pos (ern_m1.mpr c1)]
        refine ⟨rs_ok v1, oc4 v1 hI' hi ?_⟩
        rw [if_neg hmon]
        exact q0 hq
/-! proven -/
theorem prv_mono {i k : Nat} (hk : k < 16) (gd : D 0 = nI d) (d4 : d < 10000) (h16 : F 16 (16 * i + k) = -1) : ∀ c, dyT (g_2 F 16 (16 * i + k) (D 0)) i 8 c ≤ dyT F i 8 c := by
  refine dyT_mono (g2_row (by decide)) (fun j _ => ?_) (fun c hc => Or.inr ⟨by rw [g2_row (by decide)], by rw [g2_row (by decide)]⟩) 8 (Nat.le_refl 8)
  unfold pd
  by_cases e : j = k
  · subst e
    rw [g_2s, h16, if_pos rfl, gd, if_neg (nI_m1 (by omega)), nIc (by omega)]
    omega
  · rw [g_2n _ _ (fun q => by omega)]
    exact Nat.le_refl _
theorem bg_545 {a z w bb w8 : Int32} {i k r : Nat} (hI : JV n nL nE d D F) (hi : i < n) (hk : k < 16) (hr : r < 2 ^ 31) (h16 : ¬ F 16 (16 * i + k) = -1) (hQ : ∀ U, RS U x (n, 4, nL, nE, D, F) → Q 1 U S2 S) : ∀ (j b : Nat), b + j = 8 → ∀ (fuel : Nat) (S1 : Hp), 8 < b + fuel → RS S1 x (n, 4, nL, nE, D, F) → wp_L_badges_L545 Q x m dd a z w bb (nI i) w8 (nI k) (nI r) fuel S1 S2 S 1 (nI b) := by
  obtain ⟨n24, l8, e20, d4, gd⟩ := iv_N hI
  intro j
  induction j with
  | zero =>
    intro b hb fuel S1 hf h
    obtain ⟨f, rfl⟩ : ∃ f, fuel = f + 1 := ⟨fuel - 1, by omega⟩
    unfold wp_L_badges_L545
    rw [if_pos (show (8 : Int32) ≤ nI b from (nI_le_iff (a := 8) (by omega) (by omega)).mpr (by omega))]
    exact bz1i (hQ S1 h)
  | succ j ih =>
    intro b hb fuel S1 hf h
    obtain ⟨f, rfl⟩ : ∃ f, fuel = f + 1 := ⟨fuel - 1, by omega⟩
    have b8 : b < 8 := by omega
    have hn := fun U (hU : RS U x (n, 4, nL, nE, D, F)) => ih (b + 1) (by omega) f U (by omega) hU
    unfold wp_L_badges_L545
    rw [if_neg (show ¬ (8 : Int32) ≤ nI b from fun w => by have := (nI_le_iff (a := 8) (by omega) (by omega)).mp w; omega), if_neg (show ¬ (1 : Int32) = 0 by decide), if_neg (nI_pos hr)]
    have hdy := dyT_le F i 8 b
    have tail : ∀ U, RS U x (n, 4, nL, nE, D, F) → okA U 8 x ∧ wp_X8_holds U x (nI i) (nI b) (fun r147 S146 => if r147 = 0 then (wp_L_badges_L545 Q x m dd a z w bb (nI i) w8 (nI k) (nI r) f S146 S2 S (1 : Int32) (nI b + (1 : Int32))) else (okA S146 8 x ∧ (wp_X8_earned S146 x (nI i) (nI b) (fun r152 S151 => lt (if r152 < 0 then (0 : Int32) else (1 : Int32)) (fun y154 => wp_L_badges_L545 Q x m dd a z w bb (nI i) w8 (nI k) (nI r) f S151 S2 S y154 (nI b + (1 : Int32)))) (fun _ _ => False)))) (fun _ _ => False) := by
      intro U hU
      refine ⟨rs_ok hU, hld hU hI hi b8 ?_⟩
      cases hb2 : hoB F i b d with
      | false =>
        rw [if_pos (show bI false = 0 from rfl), nI_s1]
        exact hn U hU
      | true =>
        rw [if_neg (show ¬ bI true = 0 by decide)]
        refine ⟨rs_ok hU, erd hU hI hi b8 ?_⟩
        rw [lt_v, if_pos (hoB_le hb2), if_neg (nI_pos (by omega)), nI_s1]
        exact hn U hU
    rcases do_lacks (b := b) (c := 0) (e := 0) hI hi b8 with ⟨k17, kd⟩ | ⟨k17, kd⟩
    · refine kd S1 x _ h (fun V v1 => ?_)
      rw [if_pos rfl]
      refine ⟨rs_ok v1, erd v1 hI hi b8 ?_⟩
      have hnot : ¬ dyT F i 8 b ≤ d := by
        rw [dyT_none b8 k17]
        omega
      rw [if_pos (ern_m1.mpr hnot)]
      exact tail V v1
    · have hlk := lkN_lt F i (F 24 (eAt F i b)).toNatClampNeg 16
      refine kd S1 x _ h (fun V v1 => ?_)
      rw [if_neg (nI_n (by omega) n3), bit_nI (by omega) (by omega)]
      have hbn : bN (lkN F i (F 24 (eAt F i b)).toNatClampNeg 16) k = 0 := by
        unfold bN
        rw [lk_bit h16]
        rfl
      rw [hbn, if_pos (show nI 0 = 0 from rfl)]
      refine ⟨rs_ok v1, erd v1 hI hi b8 ?_⟩
      by_cases c1 : dyT F i 8 b ≤ d
      · rw [if_neg (fun w => (ern_m1.mp w) c1), lk_zero b8 c1 d4, if_pos (show nI 0 = 0 from rfl)]
        exact tail V v1
      · rw [if_pos (ern_m1.mpr c1)]
        exact tail V v1
theorem bg_429 {a z w bb : Int32} {i : Nat} (hI : JV n nL nE d D F) (h1 : RS S1 x (n, 4, nL, nE, D, F)) (h2 : RS S2 m (n, 4, nL, nE, D, F)) (hA : DA S dd n nL nE F) (hi : i < n) (hnL : nL ≠ 0) (hQ : ∀ U1 U2 U, JJ U1 U2 U x m dd → Q 1 U1 U2 U) : wp_L_badges_B429 Q S1 S2 S x m dd a z w bb (nI i) (nI (eaN F i d 8)) := by
  obtain ⟨n24, l8, e20, d4, gd⟩ := iv_N hI
  unfold wp_L_badges_B429
  have e2 : g_R S dd (2 : Int32).toNatClampNeg = nI nL := hA.2.2.2.2.1
  refine some_of (N := 12) rfl (by decide) (by decide) ⟨hA.1, da_v (k := 2) hA (by decide), some_of (N := nL) e2 (by omega) (by omega) ?_⟩
  have s1 := smv_lt (z >>> ((6 : Int32) &&& 31)) (N := 12) (by decide)
  have s2 := smv_lt (a >>> ((4 : Int32) &&& 31)) (N := nL) (by omega)
  have b2 := ct_le (fun b' => decide (dyT F i 8 b' ≤ d)) 8
  rcases do_prove (k := smv (z >>> ((6 : Int32) &&& 31)) 12) (l := smv (a >>> ((4 : Int32) &&& 31)) nL) (e := 0) hI hi (by omega) s2 with ⟨hw, hd⟩ | ⟨h16, hd⟩
  · refine both_of hd h1 h2 (fun U1 U2 r1 r2 => ?_)
    rw [if_pos rfl]
    refine ⟨rs_ok r1, oc4 r1 hI hi ?_⟩
    rw [if_pos rfl]
    unfold wp_L_badges_B542
    refine ⟨1, by decide, ?_⟩
    unfold wp_L_badges_L545
    rw [if_neg (show ¬ (8 : Int32) ≤ 0 by decide), if_neg (show ¬ (1 : Int32) = 0 by decide), if_pos n3]
    exact bz1i (hQ _ _ _ ⟨n, nL, nE, d, D, F, hI, r1, r2, hA⟩)
  · have hI' := iv_prove hI hi (show smv (z >>> ((6 : Int32) &&& 31)) 12 < 16 by omega)
    have g16 : ¬ g_2 F 16 (16 * i + smv (z >>> ((6 : Int32) &&& 31)) 12) (D 0) 16 (16 * i + smv (z >>> ((6 : Int32) &&& 31)) 12) = -1 := by
      rw [g_2s, gd]
      exact nI_m1 (by omega)
    have b1 := ct_le (fun b' => decide (dyT (g_2 F 16 (16 * i + smv (z >>> ((6 : Int32) &&& 31)) 12) (D 0)) i 8 b' ≤ d)) 8
    have hmon : ¬ nI (eaN (g_2 F 16 (16 * i + smv (z >>> ((6 : Int32) &&& 31)) 12) (D 0)) i d 8) < nI (eaN F i d 8) := fun w => by
      have := (nI_lt_iff (by unfold eaN; omega) (by unfold eaN; omega)).mp w
      have := ea_mono (e := d) (e' := d) (prv_mono (i := i) (show smv (z >>> ((6 : Int32) &&& 31)) 12 < 16 by omega) gd d4 h16) (Nat.le_refl d)
      omega
    refine both_of hd h1 h2 (fun U1 U2 r1 r2 => ?_)
    rw [if_neg (nI_n (by unfold eaN; omega) n3), if_neg hmon]
    refine ⟨rs_ok r1, oc4 r1 hI' hi ?_⟩
    rw [if_pos rfl]
    refine ⟨hA.1, da_v (k := 2) hA (by decide), some_of (N := nL) e2 (by omega) (by omega) ?_⟩
    rcases do_prove (k := smv (z >>> ((6 : Int32) &&& 31)) 12) (l := smv (a >>> ((4 : Int32) &&& 31)) nL) (e := 0) hI' hi (by omega) s2 with ⟨hw, kd⟩ | ⟨k16, kd⟩
    · refine kd U1 x _ r1 (fun V v1 => ?_)
      rw [lt_v, if_pos rfl]
      unfold wp_L_badges_B542
      exact ⟨9, Nat.le_refl _, bg_545 hI' hi (by omega) (by unfold eaN; omega) g16 (fun U hU => hQ _ _ _ ⟨n, nL, nE, d, D, _, hI', hU, r2, da_cg hA (g2_row (by decide)) (g2_row (by decide))⟩) 8 0 (by omega) 9 V (by omega) v1⟩
    · exact absurd k16 g16
theorem badges_ok {a z : Int32} (hJ : JJ S1 S2 S x m dd) (hQ : ∀ U1 U2 U, JJ U1 U2 U x m dd → Q 1 U1 U2 U) : wp_L_badges S1 S2 S x m dd a z Q := by
  obtain ⟨n, nL, nE, d, D, F, hI, h1, h2, hA⟩ := hJ
  obtain ⟨n24, l8, e20, d4, gd⟩ := iv_N hI
  unfold wp_L_badges
  refine some_of (N := 12) rfl (by decide) (by decide) (some_of (N := 8) rfl (by decide) (by decide) ?_)
  have hb := smv_lt z (N := 8) (by decide)
  by_cases c1 : 3 ≤ nI (smv a 12)
  · rw [if_pos c1]
    unfold wp_L_badges_B228
    have e0 : g_R S dd (0 : Int32).toNatClampNeg = nI n := hA.2.2.1
    have e2 : g_R S dd (2 : Int32).toNatClampNeg = nI nL := hA.2.2.2.2.1
    have v0 := da_v (k := 0) hA (by decide)
    have v2 := da_v (k := 2) hA (by decide)
    have hO : Do 13 (nI n) 0 (nI nL) 0 (n, 4, nL, nE, D, F) (-2000000001) (n, 4, nL, nE, D, F) := do_proveO hI (by decide) (Or.inl ⟨Nat.le_refl n, by omega⟩)
    refine ⟨hA.1, v0, ?_⟩
    rw [e0, e2]
    by_cases c2 : nI n = 0
    · rw [if_pos c2]
      refine ⟨v0, v2, hO S1 x _ h1 (fun U u1 => ?_)⟩
      exact q1 rfl (hQ _ _ _ ⟨n, nL, nE, d, D, F, hI, u1, h2, hA⟩)
    · rw [if_neg c2]
      refine ⟨v2, ?_⟩
      by_cases c3 : nI nL = 0
      · rw [if_pos c3]
        refine ⟨v0, v2, hO S1 x _ h1 (fun U u1 => ?_)⟩
        exact q1 rfl (hQ _ _ _ ⟨n, nL, nE, d, D, F, hI, u1, h2, hA⟩)
      · rw [if_neg c3]
        have hz : n ≠ 0 := fun q => c2 (by rw [q]; rfl)
        have hzL : nL ≠ 0 := fun q => c3 (by rw [q]; rfl)
        unfold wp_L_badges_B265
        refine ⟨hA.1, v0, some_of (N := n) e0 (by omega) (by omega) ?_⟩
        have hi := smv_lt (z >>> ((3 : Int32) &&& 31)) (N := n) (by omega)
        refine ⟨rs_ok h1, oc4 h1 hI hi ?_⟩
        by_cases c4 : 6 ≤ nI (smv a 12)
        · rw [if_pos c4]
          exact bg_429 hI h1 h2 hA hi hzL hQ
        · rw [if_neg c4]
          exact bg_293 hI h1 h2 hA hi hb hQ
  · rw [if_neg c1]
    exact bg_23 hI h1 h2 hA hb hQ
end BADGES
