/-! LEADERS -/
section LEADERS
variable {n nL nE d : Nat} {D : Nat → Int32} {F F' : Nat → Nat → Int32} {S S1 S2 : Hp} {x m dd : Nat} {Q : Int32 → Hp → Hp → Hp → Prop}
/-- both movements hold the same numbers, the law's array tells of them -/
def JJ (S1 S2 S : Hp) (x m dd : Nat) : Prop := ∃ (n nL nE d : Nat) (D : Nat → Int32) (F : Nat → Nat → Int32), JV n nL nE d D F ∧ RS S1 x (n, 4, nL, nE, D, F) ∧ RS S2 m (n, 4, nL, nE, D, F) ∧ DA S dd n nL nE F
theorem gR_s {i : Nat} {v : Int32} : g_R (s_R S dd i v) dd i = v := g_2s _ _ _ _
theorem gR_n {i j : Nat} {v : Int32} (h : j ≠ i) : g_R (s_R S dd i v) dd j = g_R S dd j := g_2n _ _ (fun q => h q.2)
theorem da_cg (h : DA S dd n nL nE F) (e23 : F' 23 = F 23) (e28 : F' 28 = F 28) : DA S dd n nL nE F' := by
  unfold DA
  rw [e23, e28]
  exact h
theorem da_0 {n' : Nat} (h : DA S dd n nL nE F) : DA (s_R S dd 0 (nI n')) dd n' nL nE F := by
  obtain ⟨h1, h2, h3, h4, h5, h6, h7, h8⟩ := h
  exact ⟨h1, h2, gR_s, (gR_n (by decide)).trans h4, (gR_n (by decide)).trans h5, (gR_n (by decide)).trans h6, fun b hb => (gR_n (by omega)).trans (h7 b hb), fun e he => (gR_n (by omega)).trans (h8 e he)⟩
theorem da_2 {nL' : Nat} (h : DA S dd n nL nE F) : DA (s_R S dd 2 (nI nL')) dd n nL' nE F := by
  obtain ⟨h1, h2, h3, h4, h5, h6, h7, h8⟩ := h
  exact ⟨h1, h2, (gR_n (by decide)).trans h3, (gR_n (by decide)).trans h4, gR_s, (gR_n (by decide)).trans h6, fun b hb => (gR_n (by omega)).trans (h7 b hb), fun e he => (gR_n (by omega)).trans (h8 e he)⟩
theorem n3 : (-2000000003 : Int32) < 0 := by decide
theorem nI_n {k : Nat} (hk : k < 2 ^ 31) {c : Int32} (hc : c < 0) : ¬ nI k = c := fun e => nI_pos hk (by rw [e]; exact hc)
theorem q1 {c : Prop} [Decidable c] (hc : c) (h : Q 1 S1 S2 S) : bz (if c then (1 : Int32) else 0) (Q (if c then (1 : Int32) else 0) S1 S2 S) := by
  rw [if_pos hc]
  exact bz1i h
theorem ld_20 {a z w : Int32} (hI : JV n nL nE d D F) (h1 : RS S1 x (n, 4, nL, nE, D, F)) (h2 : RS S2 m (n, 4, nL, nE, D, F)) (hA : DA S dd n nL nE F) (hQ : ∀ U1 U2 U, JJ U1 U2 U x m dd → Q 1 U1 U2 U) : wp_L_leaders_B20 Q S1 S2 S x m dd a z w := by
  unfold wp_L_leaders_B20
  have l8 := (iv_N hI).2.1
  have e : g_R S dd (2 : Int32).toNatClampNeg = nI nL := hA.2.2.2.2.1
  rcases do_leader (a := 0) (b := 0) (c := 0) (e := 0) hI with ⟨h8, hd⟩ | ⟨h8, hd⟩
  · refine both_of hd h1 h2 (fun U1 U2 r1 r2 => ⟨hA.1, da_v (k := 2) hA (by decide), da_v (k := 2) hA (by decide), ?_⟩)
    rw [lt_v, if_pos n3, if_pos rfl, e, Int32.add_zero]
    have hA' : DA (s_R S dd (2 : Int32).toNatClampNeg (nI nL)) dd n nL nE F := da_2 hA
    refine ⟨hA'.1, da_v (k := 2) hA' (by decide), ?_⟩
    have e2 : g_R (s_R S dd (2 : Int32).toNatClampNeg (nI nL)) dd (2 : Int32).toNatClampNeg = nI nL := gR_s
    rw [e2, if_pos (show nI nL = 8 by rw [h8]; rfl)]
    exact bz1i (hQ _ _ _ ⟨n, nL, nE, d, D, F, hI, r1, r2, hA'⟩)
  · refine both_of hd h1 h2 (fun U1 U2 r1 r2 => ⟨hA.1, da_v (k := 2) hA (by decide), da_v (k := 2) hA (by decide), ?_⟩)
    rw [lt_v, if_neg (nI_pos (by omega)), if_neg (nI_n (by omega) n3), e, nI_s1]
    have hA' : DA (s_R S dd (2 : Int32).toNatClampNeg (nI (nL + 1))) dd n (nL + 1) nE F := da_2 hA
    refine ⟨hA'.1, da_v (k := 2) hA' (by decide), ?_⟩
    have e2 : g_R (s_R S dd (2 : Int32).toNatClampNeg (nI (nL + 1))) dd (2 : Int32).toNatClampNeg = nI (nL + 1) := gR_s
    rw [e2, nI_pred]
    exact q1 rfl (hQ _ _ _ ⟨n, nL + 1, nE, d, _, F, iv_leader hI h8, r1, r2, hA'⟩)
theorem ld_105 {a z w : Int32} {l : Nat} (hI : JV n nL nE d D F) (h1 : RS S1 x (n, 4, nL, nE, D, F)) (h2 : RS S2 m (n, 4, nL, nE, D, F)) (hA : DA S dd n nL nE F) (hl : l < nL) (hQ : ∀ U1 U2 U, JJ U1 U2 U x m dd → Q 1 U1 U2 U) : wp_L_leaders_B105 Q S1 S2 S x m dd a z w (nI l) := by
  unfold wp_L_leaders_B105
  refine some_of (N := 20) rfl (by decide) (by decide) (some_of (N := 3) rfl (by decide) (by decide) (some_of (N := 400) rfl (by decide) (by decide) ?_))
  have s1 := smv_lt (z >>> ((3 : Int32) &&& 31)) (N := 20) (by decide)
  have s2 := smv_lt (z >>> ((6 : Int32) &&& 31)) (N := 3) (by decide)
  have s3 := smv_lt (z >>> ((8 : Int32) &&& 31)) (N := 400) (by decide)
  rw [nI_add]
  have c2 : ¬ (nI (smv (z >>> ((3 : Int32) &&& 31)) 20 + smv (z >>> ((8 : Int32) &&& 31)) 400) < nI (smv (z >>> ((3 : Int32) &&& 31)) 20) ∨ 9999 < nI (smv (z >>> ((3 : Int32) &&& 31)) 20 + smv (z >>> ((8 : Int32) &&& 31)) 400)) := by
    rintro (w | w)
    · have := (nI_lt_iff (by omega) (by omega)).mp w
      omega
    · have := (nI_lt_iff (a := 9999) (by omega) (by omega)).mp w
      omega
  refine both_of (do_vet hI hl s2 (rng (N := 9999) (by omega) (by decide)) c2) h1 h2 (fun U1 U2 r1 r2 => ?_)
  exact q1 rfl (hQ _ _ _ ⟨n, nL, nE, d, D, _, iv_vet hI hl s2, r1, r2, da_cg hA (vet_row (by decide)) (vet_row (by decide))⟩)
theorem till_ok {t : Nat} (ht : t < 400) : ¬ (nI t - 1 < -1 ∨ 9999 < nI t - 1) ∧ -1 ≤ nI t - 1 := by
  have h1 : (1 : Int32).toInt = 1 := by decide
  have e : (nI t - 1).toInt = (t : Int) - 1 := by
    rw [fb_subI (by rw [nI_toInt (by omega), h1]; omega) (by rw [nI_toInt (by omega), h1]; omega), nI_toInt (by omega), h1]
  rw [i_lt, i_lt, i_le, e, show (-1 : Int32).toInt = -1 from rfl, show (9999 : Int32).toInt = 9999 from rfl]
  omega
theorem ld_166 {a z w : Int32} {l : Nat} (hI : JV n nL nE d D F) (h1 : RS S1 x (n, 4, nL, nE, D, F)) (h2 : RS S2 m (n, 4, nL, nE, D, F)) (hA : DA S dd n nL nE F) (hl : l < nL) (hQ : ∀ U1 U2 U, JJ U1 U2 U x m dd → Q 1 U1 U2 U) : wp_L_leaders_B166 Q S1 S2 S x m dd a z w (nI l) := by
  unfold wp_L_leaders_B166
  refine some_of (N := 3) rfl (by decide) (by decide) ?_
  rw [lt_v]
  refine some_of (N := 400) rfl (by decide) (by decide) ?_
  rw [lt_v]
  have s1 := smv_lt (z >>> ((3 : Int32) &&& 31)) (N := 3) (by decide)
  have s2 := smv_lt (z >>> ((5 : Int32) &&& 31)) (N := 400) (by decide)
  have e1 : (1 : Int32) + nI (smv (z >>> ((3 : Int32) &&& 31)) 3) = nI (smv (z >>> ((3 : Int32) &&& 31)) 3 + 1) := by
    rw [show (1 : Int32) = nI 1 from rfl, nI_add, Nat.add_comm]
  obtain ⟨t1, t2⟩ := till_ok s2
  rw [e1]
  have hI' := iv_permit hI hl s1 t2
  refine both_of (do_permit hI hl s1 t1) h1 h2 (fun U1 U2 r1 r2 => ?_)
  rw [if_neg (Int32.not_lt.mpr (hI.2.2.2.2.2 l hl _ s1))]
  refine both_of (do_permit hI' hl s1 t1) r1 r2 (fun V1 V2 v1 v2 => ?_)
  exact q1 (g_2s _ _ _ _) (hQ _ _ _ ⟨n, nL, nE, d, D, _, iv_permit hI' hl s1 t2, v1, v2, da_cg hA (by rw [g2_row (by decide), g2_row (by decide)]) (by rw [g2_row (by decide), g2_row (by decide)])⟩)
theorem ld_239 {a z w : Int32} {l : Nat} (hI : JV n nL nE d D F) (h1 : RS S1 x (n, 4, nL, nE, D, F)) (h2 : RS S2 m (n, 4, nL, nE, D, F)) (hA : DA S dd n nL nE F) (hl : l < nL) (hQ : ∀ U1 U2 U, JJ U1 U2 U x m dd → Q 1 U1 U2 U) : wp_L_leaders_B239 Q S1 S2 S x m dd a z w (nI l) := by
  unfold wp_L_leaders_B239
  refine some_of (N := 65536) rfl (by decide) (by decide) ?_
  have s1 := smv_lt (z >>> ((3 : Int32) &&& 31)) (N := 65536) (by decide)
  have c1 : ¬ (nI (smv (z >>> ((3 : Int32) &&& 31)) 65536) < 0 ∨ 65535 < nI (smv (z >>> ((3 : Int32) &&& 31)) 65536)) := rng (N := 65535) (by omega) (by decide)
  have ix : isIx (nI (smv (z >>> ((3 : Int32) &&& 31)) 65536)) 65536 := ⟨_, s1, rfl⟩
  have hI' := iv_teach hI hl ix
  refine both_of (do_teach hI hl c1) h1 h2 (fun U1 U2 r1 r2 => ?_)
  have hpos : ¬ F 22 l < 0 := by
    obtain ⟨v, hv, ev⟩ := hI.1.1.2.2.2.2.2.2.2.1 l hl
    rw [ev]
    exact nI_pos (by omega)
  rw [if_neg hpos]
  refine both_of (do_teach hI' hl c1) r1 r2 (fun V1 V2 v1 v2 => ?_)
  exact q1 (g_2s _ _ _ _) (hQ _ _ _ ⟨n, nL, nE, d, D, _, iv_teach hI' hl ix, v1, v2, da_cg hA (by rw [g2_row (by decide), g2_row (by decide)]) (by rw [g2_row (by decide), g2_row (by decide)])⟩)
theorem leaders_ok {a z : Int32} (hJ : JJ S1 S2 S x m dd) (hQ : ∀ U1 U2 U, JJ U1 U2 U x m dd → Q 1 U1 U2 U) : wp_L_leaders S1 S2 S x m dd a z Q := by
  obtain ⟨n, nL, nE, d, D, F, hI, h1, h2, hA⟩ := hJ
  have l8 := (iv_N hI).2.1
  unfold wp_L_leaders
  refine some_of (N := 10) rfl (by decide) (by decide) ?_
  by_cases c1 : nI (smv a 10) < 2
  · rw [if_pos c1]
    exact ld_20 hI h1 h2 hA hQ
  · rw [if_neg c1]
    have e : g_R S dd (2 : Int32).toNatClampNeg = nI nL := hA.2.2.2.2.1
    refine ⟨hA.1, da_v (k := 2) hA (by decide), ?_⟩
    rw [e]
    by_cases c2 : nI nL = 0
    · rw [if_pos c2]
      exact ld_20 hI h1 h2 hA hQ
    · rw [if_neg c2]
      have hz : nL ≠ 0 := fun q => c2 (by rw [q]; rfl)
      unfold wp_L_leaders_B88
      refine ⟨hA.1, da_v (k := 2) hA (by decide), ?_⟩
      rw [e]
      refine some_of (N := nL) rfl (by omega) (by omega) ?_
      have hl := smv_lt z (N := nL) (by omega)
      by_cases c3 : 6 ≤ nI (smv a 10)
      · rw [if_pos c3]
        by_cases c4 : 8 ≤ nI (smv a 10)
        · rw [if_pos c4]
          exact ld_239 hI h1 h2 hA hl hQ
        · rw [if_neg c4]
          exact ld_166 hI h1 h2 hA hl hQ
      · rw [if_neg c3]
        exact ld_105 hI h1 h2 hA hl hQ
end LEADERS
