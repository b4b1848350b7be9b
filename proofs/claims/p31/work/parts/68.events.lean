/-! EVENTS -/
section EVENTS
variable {n nL nE d : Nat} {D : Nat → Int32} {F F' : Nat → Nat → Int32} {S S1 S2 : Hp} {x m dd : Nat} {Q : Int32 → Hp → Hp → Hp → Prop}
theorem n2 : (-2000000002 : Int32) < 0 := by decide
theorem da_3 {nE' : Nat} (h : DA S dd n nL nE F) (e23 : F' 23 = F 23) (e28 : ∀ e, e < nE' → g_R S dd (12 + e) = F' 28 e) : DA (s_R S dd 3 (nI nE')) dd n nL nE' F' := by
  obtain ⟨h1, h2, h3, h4, h5, h6, h7, h8⟩ := h
  exact ⟨h1, h2, (gR_n (by decide)).trans h3, (gR_n (by decide)).trans h4, (gR_n (by decide)).trans h5, gR_s, fun b hb => (gR_n (by omega)).trans (by rw [e23]; exact h7 b hb), fun e he => (gR_n (by omega)).trans (e28 e he)⟩
theorem da_hi {k : Nat} {v : Int32} (h : DA S dd n nL nE F) (hk : 12 + nE ≤ k) : DA (s_R S dd k v) dd n nL nE F := by
  obtain ⟨h1, h2, h3, h4, h5, h6, h7, h8⟩ := h
  exact ⟨h1, h2, (gR_n (by omega)).trans h3, (gR_n (by omega)).trans h4, (gR_n (by omega)).trans h5, (gR_n (by omega)).trans h6, fun b hb => (gR_n (by omega)).trans (h7 b hb), fun e he => (gR_n (by omega)).trans (h8 e he)⟩
theorem da_e {e : Nat} {v : Int32} (h : DA S dd n nL nE F) : DA (s_R S dd (12 + e) v) dd n nL nE (g_2 F 28 e v) := by
  obtain ⟨h1, h2, h3, h4, h5, h6, h7, h8⟩ := h
  refine ⟨h1, h2, (gR_n (by omega)).trans h3, (gR_n (by omega)).trans h4, (gR_n (by omega)).trans h5, (gR_n (by omega)).trans h6, fun b hb => (gR_n (by omega)).trans ?_, fun k hk => ?_⟩
  · rw [g2_row (by decide)]
    exact h7 b hb
  · by_cases c : k = e
    · subst c
      exact gR_s.trans (g_2s _ _ _ _).symm
    · rw [g_2n _ _ (fun q => c q.2)]
      exact (gR_n (by omega)).trans (h8 k hk)
theorem rsn_04 (F : Nat → Nat → Int32) (n nl e s : Nat) : ∃ k, k ≤ 4 ∧ rsn F n nl e s = nI k := by
  unfold rsn
  split
  · exact ⟨0, by decide, rfl⟩
  · split
    · exact ⟨1, by decide, rfl⟩
    · unfold rsT
      split
      · exact ⟨2, by decide, rfl⟩
      · split
        · exact ⟨3, by decide, rfl⟩
        · split
          · exact ⟨4, by decide, rfl⟩
          · exact ⟨0, by decide, rfl⟩
theorem rsn_01 {nl e s : Nat} (h : pop s 16 = 0) : rsn F n nl e s = 0 ∨ rsn F n nl e s = 1 := by
  unfold rsn
  rw [h, Nat.zero_mul]
  by_cases z : inT F n (F 27 (6 * e)) = 0
  · rw [if_pos z]
    exact Or.inl rfl
  · rw [if_neg z, if_pos (Nat.pos_of_ne_zero z)]
    exact Or.inr rfl
/-! made -/
theorem ev_175 {a z w hh y told : Int32} (hI : JV n nL nE d D F) (h1 : RS S1 x (n, 4, nL, nE, D, F)) (h2 : RS S2 m (n, 4, nL, nE, D, F)) (hok : okA S 11 dd) (hN : g_N S dd = 40) (hA : DA (s_R S dd (3 : Int32).toNatClampNeg (g_R S dd (3 : Int32).toNatClampNeg + (if told < 0 then (0 : Int32) else (1 : Int32)))) dd n nL nE F) (hc : (told = -2000000003 ∧ nE = 20) ∨ (told = -2000000002 ∧ ¬ y ≤ 9999) ∨ ∃ e, nE = e + 1 ∧ told = nI e ∧ sN F e = 0) (hQ : ∀ U1 U2 U, JJ U1 U2 U x m dd → Q 1 U1 U2 U) : wp_L_events_B175 Q S1 S2 S x m dd a z w hh y told 1 := by
  have e20 := (iv_N hI).2.2.1
  have hv : vp_in (3 : Int32) (g_N S dd) := by
    rw [hN]
    exact vp_in_nI (n := 3) (by decide) (by decide)
  unfold wp_L_events_B175
  refine ⟨hok, hv, hv, ?_⟩
  rw [lt_v, if_neg (show ¬ (1 : Int32) = 0 by decide)]
  generalize s_R S dd (3 : Int32).toNatClampNeg (g_R S dd (3 : Int32).toNatClampNeg + (if told < 0 then (0 : Int32) else (1 : Int32))) = S' at hA ⊢
  have e3 : g_R S' dd (3 : Int32).toNatClampNeg = nI nE := hA.2.2.2.2.2.1
  have hq : ∀ U1, RS U1 x (n, 4, nL, nE, D, F) → Q 1 U1 S2 S' := fun U1 r1 => hQ _ _ _ ⟨n, nL, nE, d, D, F, hI, r1, h2, hA⟩
  rcases hc with ⟨rfl, rfl⟩ | ⟨rfl, c⟩ | ⟨e, rfl, rfl, hs⟩
  · rw [if_pos rfl]
    refine ⟨hA.1, da_v (k := 3) hA (by decide), ?_⟩
    rw [e3, if_pos (show nI 20 = 20 from rfl)]
    exact q0 (hq _ h1)
  · rw [if_neg (by decide), if_pos rfl, if_neg c]
    exact q0 (hq _ h1)
  · rw [if_neg (nI_n (by omega) n3), if_neg (nI_n (by omega) n2)]
    refine ⟨hA.1, da_v (k := 3) hA (by decide), ?_⟩
    rw [e3, nI_pred, if_pos rfl]
    have hr : rsn F n nL e (sN F e) = 0 ∨ rsn F n nL e (sN F e) = 1 := rsn_01 (by rw [hs]; decide)
    refine ⟨rs_ok h1, whd h1 hI (Nat.lt_succ_self e) (fun U r1 => ?_)⟩
    rcases hr with hr | hr
    · rw [hr, if_neg (by decide)]
      refine ⟨rs_ok r1, whd r1 hI (Nat.lt_succ_self e) (fun V v1 => ?_)⟩
      rw [hr]
      exact q1 rfl (hq _ v1)
    · rw [hr, if_pos rfl]
      exact q0 (hq _ r1)
theorem ev_ok {r c h q : Nat} (gd : D 0 = nI d) (d4 : d < 10000) (hr : r < 3) (hc : c < 4) (hh : h < 24) (hq : q < 24 - h) (hy : nI (d + r) ≤ 9999) : evV D (nI c) (nI (d + r)) (nI h) (1 + nI q) := by
  have hy' : d + r ≤ 9999 := (nI_le_iff (b := 9999) (by omega) (by omega)).mp hy
  refine ⟨rng (N := 3) (by omega) (by decide), ?_, rng (N := 23) (by omega) (by decide), ?_⟩
  · rw [gd]
    rintro (w | w)
    · have := (nI_lt_iff (by omega) (by omega)).mp w
      omega
    · have := (nI_lt_iff (a := 9999) (by omega) (by omega)).mp w
      omega
  · rw [one_nI, show (24 : Int32) - nI h = nI (24 - h) from nI_sb (a := 24) (by omega)]
    exact rng1 (by omega) (by omega) (by omega)
theorem ev_20 {a z w : Int32} (hI : JV n nL nE d D F) (h1 : RS S1 x (n, 4, nL, nE, D, F)) (h2 : RS S2 m (n, 4, nL, nE, D, F)) (hA : DA S dd n nL nE F) (hQ : ∀ U1 U2 U, JJ U1 U2 U x m dd → Q 1 U1 U2 U) : wp_L_events_B20 Q S1 S2 S x m dd a z w := by
  obtain ⟨n24, l8, e20, d4, gd⟩ := iv_N hI
  have e1 : g_R S dd (1 : Int32).toNatClampNeg = nI 4 := hA.2.2.2.1
  have e3 : g_R S dd 3 = nI nE := hA.2.2.2.2.2.1
  have v1 : vp_in (1 : Int32) (g_N S dd) := da_v (k := 1) hA (by decide)
  unfold wp_L_events_B20
  refine some_of (N := 24) rfl (by decide) (by decide) ⟨rs_ok h1, tdd h1 hI (some_of (N := 3) rfl (by decide) (by decide) ?_)⟩
  have sh := smv_lt (z >>> ((4 : Int32) &&& 31)) (N := 24) (by decide)
  have sr := smv_lt (z >>> ((8 : Int32) &&& 31)) (N := 3) (by decide)
  generalize smv (z >>> ((4 : Int32) &&& 31)) 24 = h at sh ⊢
  generalize smv (z >>> ((8 : Int32) &&& 31)) 3 = r at sr ⊢
  rw [lt_v, nI_add]
  have hs : (24 : Int32) - nI h = nI (24 - h) := nI_sb (a := 24) (by omega)
  have st := smv_lt z (N := 4) (by decide)
  have sk := smv_lt (z >>> ((3 : Int32) &&& 31)) (N := 3) (by decide)
  have sc := smv_lt (z >>> ((6 : Int32) &&& 31)) (N := 4) (by decide)
  have sq := smv_lt (z >>> ((9 : Int32) &&& 31)) (N := 24 - h) (by omega)
  refine ⟨hA.1, v1, some_of (N := 4) e1 (by decide) (by decide) (some_of (N := 3) rfl (by decide) (by decide) (some_of (N := 4) rfl (by decide) (by decide) (some_of (N := 24 - h) hs (by omega) (by omega) ?_)))⟩
  have hT : vp_in ((12 : Int32) + 20) (g_N S dd) := da_v (k := 32) hA (by decide)
  rcases do_event (t := smv z 4) (k := smv (z >>> ((3 : Int32) &&& 31)) 3) (c := nI (smv (z >>> ((6 : Int32) &&& 31)) 4)) (dd := nI (d + r)) (e := nI h) (f := 1 + nI (smv (z >>> ((9 : Int32) &&& 31)) (24 - h))) hI st sk with ⟨hw, hd⟩ | ⟨hw, h20, hd⟩ | ⟨hw, h20, hd⟩
  · refine hd S1 x _ h1 (fun U1 r1 => ⟨hA.1, v1, some_of (N := 4) e1 (by decide) (by decide) (some_of (N := 3) rfl (by decide) (by decide) (some_of (N := 4) rfl (by decide) (by decide) (some_of (N := 24 - h) hs (by omega) (by omega) (hd S2 m _ h2 (fun U2 r2 => ?_)))))⟩)
    rw [lt_v, if_pos rfl, if_pos n2]
    refine ⟨hA.1, hT, ?_⟩
    rw [lt_v]
    refine ev_175 hI r1 r2 hA.1 hA.2.1 ?_ (Or.inr (Or.inl ⟨rfl, fun q => hw (ev_ok gd d4 sr sc sh sq q)⟩)) hQ
    have hA2 : DA (s_R S dd 32 0) dd n nL nE F := da_hi hA (by omega)
    have hA3 := da_3 (F' := F) hA2 rfl (fun e he => hA2.2.2.2.2.2.2.2 e he)
    have hA4 : nI nE = g_R (s_R S dd 32 0) dd 3 + (if (-2000000002 : Int32) < 0 then (0 : Int32) else 1) := by
      rw [if_pos n2, gR_n (by decide), e3]
      exact (nI_add0 nE).symm
    rw [hA4] at hA3
    exact hA3
  · refine hd S1 x _ h1 (fun U1 r1 => ⟨hA.1, v1, some_of (N := 4) e1 (by decide) (by decide) (some_of (N := 3) rfl (by decide) (by decide) (some_of (N := 4) rfl (by decide) (by decide) (some_of (N := 24 - h) hs (by omega) (by omega) (hd S2 m _ h2 (fun U2 r2 => ?_)))))⟩)
    rw [lt_v, if_pos rfl, if_pos n3]
    refine ⟨hA.1, hT, ?_⟩
    rw [lt_v]
    refine ev_175 hI r1 r2 hA.1 hA.2.1 ?_ (Or.inl ⟨rfl, h20⟩) hQ
    have hA2 : DA (s_R S dd 32 0) dd n nL nE F := da_hi hA (by omega)
    have hA3 := da_3 (F' := F) hA2 rfl (fun e he => hA2.2.2.2.2.2.2.2 e he)
    have hA4 : nI nE = g_R (s_R S dd 32 0) dd 3 + (if (-2000000003 : Int32) < 0 then (0 : Int32) else 1) := by
      rw [if_pos n3, gR_n (by decide), e3]
      exact (nI_add0 nE).symm
    rw [hA4] at hA3
    exact hA3
  · refine hd S1 x _ h1 (fun U1 r1 => ⟨hA.1, v1, some_of (N := 4) e1 (by decide) (by decide) (some_of (N := 3) rfl (by decide) (by decide) (some_of (N := 4) rfl (by decide) (by decide) (some_of (N := 24 - h) hs (by omega) (by omega) (hd S2 m _ h2 (fun U2 r2 => ?_)))))⟩)
    have ex : (12 : Int32) + nI nE = nI (12 + nE) := nI_add 12 nE
    have hvE : vp_in (nI (12 + nE)) (g_N S dd) := da_v (k := 12 + nE) hA (by omega)
    rw [lt_v, if_pos rfl, if_neg (nI_pos (by omega)), ex]
    refine ⟨hA.1, hvE, ?_⟩
    rw [lt_v, nIc (by omega)]
    have hW2 : F 28 nE = 0 := hI.1.1.2.2.2.2.2.2.2.2.2.2.2.2 nE (Nat.le_refl nE) h20
    have hI' := iv_event hI h20 (b := nI (smv (z >>> ((3 : Int32) &&& 31)) 3)) (a := nI (smv z 4)) ⟨_, sk, rfl⟩ hw
    refine ev_175 hI' r1 r2 hA.1 hA.2.1 ?_ (Or.inr (Or.inr ⟨nE, rfl, rfl, ?_⟩)) hQ
    · have hA2 : DA (s_R S dd (12 + nE) 0) dd n nL nE F := da_hi hA (by omega)
      have hA3 := da_3 (F' := evnF F nE (nI (smv z 4)) (nI (smv (z >>> ((3 : Int32) &&& 31)) 3)) (nI (smv (z >>> ((6 : Int32) &&& 31)) 4)) (nI (d + r)) (nI h) (1 + nI (smv (z >>> ((9 : Int32) &&& 31)) (24 - h)))) (nE' := nE + 1) hA2 (evn_row (by decide)) (fun e he => by
        rw [evn_row (by decide)]
        by_cases q : e = nE
        · subst q
          exact gR_s.trans hW2.symm
        · exact hA2.2.2.2.2.2.2.2 e (by omega))
      have hA4 : nI (nE + 1) = g_R (s_R S dd (12 + nE) 0) dd 3 + (if nI nE < 0 then (0 : Int32) else 1) := by
        rw [if_neg (nI_pos (by omega)), gR_n (by omega), e3, nI_s1]
      rw [hA4] at hA3
      exact hA3
    · unfold sN
      rw [evn_row (by decide), hW2]
      rfl
/-! staffed -/
theorem ev_417 {a z w l' c : Int32} {e v : Nat} (hI : JV n nL nE d D F) (h1 : RS S1 x (n, 4, nL, nE, D, F)) (hA : DA S dd n nL nE F) (he : e < nE) (hs : sN F e = v) (hv : v < 256) (hQ : ∀ U, RS U x (n, 4, nL, nE, D, F) → Q 1 U S2 S) : ∀ (j b : Nat), b + j = 8 → ∀ (fuel : Nat), 8 < b + fuel → wp_L_events_L417 Q x m dd a z w (nI e) l' c (nI (pop v 16)) fuel S1 S2 S (nI (pop v b)) (nI b) := by
  obtain ⟨n24, l8, e20, d4, gd⟩ := iv_N hI
  have hSN := hI.1.1.2.2.2.2.2.2.2.2.2.1
  have p16 : pop v 16 = pop v 8 := pop_hi (n := 8) hv (by decide)
  have p8 := pop_le v 8
  intro j
  induction j with
  | zero =>
    intro b hb fuel hf
    obtain ⟨f, rfl⟩ : ∃ f, fuel = f + 1 := ⟨fuel - 1, by omega⟩
    have : b = 8 := by omega
    subst this
    unfold wp_L_events_L417
    rw [if_pos (show (8 : Int32) ≤ nI 8 by decide), p16, if_pos rfl]
    obtain ⟨r, r4, er⟩ := rsn_04 F n nL e (sN F e)
    refine ⟨rs_ok h1, whd h1 hI he (fun U u1 => ?_)⟩
    rw [er, if_neg (nI_pos (by omega))]
    refine ⟨rs_ok u1, whd u1 hI he (fun V v1 => ?_)⟩
    rw [er, if_neg (show ¬ (4 : Int32) < nI r from fun w => by have := (nI_lt_iff (a := 4) (by omega) (by omega)).mp w; omega)]
    by_cases c1 : (0 : Int32) < nI (pop v 8)
    · rw [if_pos c1]
      exact q0 (hQ V v1)
    · rw [if_neg c1]
      have hz : pop v 16 = 0 := by
        rw [p16]
        by_cases q : pop v 8 = 0
        · exact q
        · exact absurd ((nI_lt_iff (a := 0) (by omega) (by omega)).mpr (by omega)) c1
      have hr : rsn F n nL e (sN F e) = 0 ∨ rsn F n nL e (sN F e) = 1 := rsn_01 (by rw [hs]; exact hz)
      refine ⟨rs_ok v1, whd v1 hI he (fun W w1 => ?_)⟩
      rcases hr with hr | hr
      · rw [hr, if_neg (by decide)]
        refine ⟨rs_ok w1, whd w1 hI he (fun X x1 => ?_)⟩
        rw [hr]
        exact q1 rfl (hQ X x1)
      · rw [hr, if_pos rfl]
        exact q0 (hQ W w1)
  | succ j ih =>
    intro b hb fuel hf
    obtain ⟨f, rfl⟩ : ∃ f, fuel = f + 1 := ⟨fuel - 1, by omega⟩
    have ex : (12 : Int32) + nI e = nI (12 + e) := nI_add 12 e
    have eg : g_R S dd (12 + e) = nI v := by
      rw [hA.2.2.2.2.2.2.2 e he, (hSN e he).1, hs]
    unfold wp_L_events_L417
    rw [if_neg (show ¬ (8 : Int32) ≤ nI b from fun w => by have := (nI_le_iff (a := 8) (by omega) (by omega)).mp w; omega), ex]
    refine ⟨hA.1, da_v (k := 12 + e) hA (by omega), ?_⟩
    rw [nIc (by omega), eg, bit_nI (by omega) (by omega), lt_v, nI_add, nI_s1, ← pop_succ]
    exact ih (b + 1) (by omega) f (by omega)
theorem ev_411 {a z w l' c : Int32} {e v : Nat} (hI : JV n nL nE d D F) (h1 : RS S1 x (n, 4, nL, nE, D, F)) (h2 : RS S2 m (n, 4, nL, nE, D, F)) (hA : DA S dd n nL nE F) (he : e < nE) (hs : sN F e = v) (hv : v < 256) (hQ : ∀ U1 U2 U, JJ U1 U2 U x m dd → Q 1 U1 U2 U) : wp_L_events_B411 Q S1 S2 S x m dd a z w (nI e) l' c (nI (pop v 16)) := by
  unfold wp_L_events_B411
  exact ⟨9, ev_417 hI h1 hA he hs hv (fun U u1 => hQ _ _ _ ⟨n, nL, nE, d, D, F, hI, u1, h2, hA⟩) 8 0 (by omega) 9 (by omega)⟩
theorem sN_s {e v : Nat} (hv : v < 256) : sN (g_2 F 28 e (nI v)) e = v := by
  unfold sN
  rw [g_2s, nIc (by omega)]
theorem ev_290 {a z w : Int32} {e : Nat} (hI : JV n nL nE d D F) (h1 : RS S1 x (n, 4, nL, nE, D, F)) (h2 : RS S2 m (n, 4, nL, nE, D, F)) (hA : DA S dd n nL nE F) (he : e < nE) (hnL : nL ≠ 0) (hQ : ∀ U1 U2 U, JJ U1 U2 U x m dd → Q 1 U1 U2 U) : wp_L_events_B290 Q S1 S2 S x m dd a z w (nI e) := by
  obtain ⟨n24, l8, e20, d4, gd⟩ := iv_N hI
  have hSN := hI.1.1.2.2.2.2.2.2.2.2.2.1
  have hWS := hI.1.2.1
  have e2 : g_R S dd (2 : Int32).toNatClampNeg = nI nL := hA.2.2.2.2.1
  have ex : (12 : Int32) + nI e = nI (12 + e) := nI_add 12 e
  have hvE : vp_in (nI (12 + e)) (g_N S dd) := da_v (k := 12 + e) hA (by omega)
  have eg : g_R S dd (12 + e) = nI (sN F e) := by
    rw [hA.2.2.2.2.2.2.2 e he, (hSN e he).1]
  have s256 := (hSN e he).2
  unfold wp_L_events_B290
  refine ⟨hA.1, da_v (k := 2) hA (by decide), some_of (N := nL) e2 (by omega) (by omega) (some_of (N := 4) rfl (by decide) (by decide) ?_)⟩
  have hl := smv_lt (z >>> ((5 : Int32) &&& 31)) (N := nL) (by omega)
  generalize smv (z >>> ((5 : Int32) &&& 31)) nL = l at hl ⊢
  rw [lt_v]
  generalize (if nI (smv (a >>> ((4 : Int32) &&& 31)) 4) ≤ 0 then (0 : Int32) else 1) = c
  rcases do_staff (c := c) (q := 0) hI he hl with ⟨hc, hb, hd⟩ | ⟨hc, hb, hd⟩ | ⟨hc, hd⟩
  · refine both_of hd h1 h2 (fun U1 U2 r1 r2 => ?_)
    rw [if_pos rfl, if_pos hc, ex]
    refine ⟨hA.1, hvE, ?_⟩
    rw [nIc (by omega), eg, bit_nI (by omega) (by omega)]
    have hbit : (sN F e).testBit l = false := by
      obtain ⟨k, hk, hbk⟩ := (anB_true _ _).mp hb
      unfold bsB at hbk
      simp only [Bool.and_eq_true, Bool.not_eq_true', decide_eq_false_iff_not] at hbk
      cases q : (sN F e).testBit l with
      | false => rfl
      | true =>
        have := hI.2.2.2.2.1 e he k hk hbk.1.1 hbk.2 l q
        rw [hbk.1.2] at this
        exact absurd this (by decide)
    have hz : nI (bN (sN F e) l) = 0 := by
      unfold bN
      rw [hbit]
      rfl
    exact q1 hz (hQ _ _ _ ⟨n, nL, nE, d, D, F, hI, r1, r2, hA⟩)
  · have ho := setb_ok (sN F e) s256 l (by omega)
    have hp := pop_le (setb (sN F e) l) 16
    have hI' := iv_staff hI he ho.2 (setb_lt (hWS e he) hl) (fun k hk => by
      unfold setb at hk
      rw [fb_bit_set] at hk
      by_cases q : k = l
      · subst q
        refine Or.inr (fun j hj hje hm => ?_)
        cases q2 : (sN F j).testBit k with
        | false => rfl
        | true =>
          have : anB (bsB F k e) nE = true := (anB_true _ _).mpr ⟨j, hj, by
            unfold bsB
            rw [q2, hm, decide_eq_false hje]
            rfl⟩
          rw [hb] at this
          exact absurd this (by decide)
      · rw [decide_eq_false q, Bool.or_false] at hk
        exact Or.inl hk)
    refine both_of hd h1 h2 (fun U1 U2 r1 r2 => ?_)
    rw [if_neg (nI_n (by omega) n3), if_pos hc, ex]
    refine ⟨hA.1, hvE, hvE, ?_⟩
    rw [nIc (by omega), eg, lt_v, ho.1]
    exact ev_411 hI' r1 r2 (da_e hA) he (sN_s ho.2) ho.2 hQ
  · have ho := clr_ok (sN F e) s256 l (by omega)
    have hp := pop_le (clr (sN F e) l) 16
    have hI' := iv_staff hI he ho.2 (Nat.lt_of_le_of_lt (clr_le _ _) (hWS e he)) (fun k hk => by
      have k8 : k < 8 := lt_bit (m := 8) ho.2 hk
      rw [clr_bit _ s256 l (by omega) k k8] at hk
      exact Or.inl (Bool.and_eq_true _ _ ▸ hk).1)
    refine both_of hd h1 h2 (fun U1 U2 r1 r2 => ?_)
    rw [if_neg (nI_n (by omega) n3), if_neg hc, ex]
    refine ⟨hA.1, hvE, hvE, ?_⟩
    rw [nIc (by omega), eg, lt_v, ho.1]
    exact ev_411 hI' r1 r2 (da_e hA) he (sN_s ho.2) ho.2 hQ
/-! could be -/
theorem ev_540 {a z w e : Int32} {y h : Nat} (hI : JV n nL nE d D F) (h1 : RS S1 x (n, 4, nL, nE, D, F)) (h2 : RS S2 m (n, 4, nL, nE, D, F)) (hA : DA S dd n nL nE F) (hy : y ≤ 9999) (hh : h < 24) (hQ : ∀ U1 U2 U, JJ U1 U2 U x m dd → Q 1 U1 U2 U) : wp_L_events_B540 Q S1 S2 S x m dd a z w e (nI y) (nI h) := by
  obtain ⟨n24, l8, e20, d4, gd⟩ := iv_N hI
  have e2 : g_R S dd (2 : Int32).toNatClampNeg = nI nL := hA.2.2.2.2.1
  have hpw : 0 < 2 ^ nL := Nat.two_pow_pos _
  unfold wp_L_events_B540
  refine ⟨hA.1, da_v (k := 2) hA (by decide), ?_⟩
  rw [e2, sh_1 (by omega), show nI (2 ^ nL) - (1 : Int32) = nI (2 ^ nL - 1) from nI_sb (b := 1) hpw, lt_v]
  refine some_of (N := 256) rfl (by decide) (by decide) ?_
  have e31 : ∀ t : Nat, (nI t &&& nI (2 ^ nL - 1)) &&& (31 : Int32) = nI ((t &&& (2 ^ nL - 1)) &&& 31) := fun t => by
    rw [nx_and]
    exact nx_and _ 31
  rw [lt_v, e31]
  have hs : (smv (a >>> ((4 : Int32) &&& 31)) 256 &&& (2 ^ nL - 1)) &&& 31 ≤ 2 ^ nL - 1 := Nat.le_trans Nat.and_le_left Nat.and_le_right
  generalize (smv (a >>> ((4 : Int32) &&& 31)) 256 &&& (2 ^ nL - 1)) &&& 31 = s at hs ⊢
  have g1 : ¬ (nI y < 0 ∨ 9999 < nI y) := rng (N := 9999) hy (by decide)
  have g2 : ¬ (nI h < 0 ∨ 23 < nI h) := rng (N := 23) (by omega) (by decide)
  have hq : ∀ U1 U2, RS U1 x (n, 4, nL, nE, D, F) → RS U2 m (n, 4, nL, nE, D, F) → Q 1 U1 U2 S := fun U1 U2 r1 r2 => hQ _ _ _ ⟨n, nL, nE, d, D, F, hI, r1, r2, hA⟩
  rcases do_could (e := 0) hI g1 g2 hs with ⟨h3, hd⟩ | ⟨h3, ha, hd⟩ | ⟨h3, ha, hd⟩
  · refine both_of hd h1 h2 (fun U1 U2 r1 r2 => ?_)
    rw [if_pos rfl]
    rcases do_could (s := 0) (e := 0) hI g1 g2 (Nat.zero_le _) with ⟨k3, kd⟩ | ⟨k3, ka, kd⟩ | ⟨k3, ka, kd⟩
    · refine kd U1 x _ r1 (fun V v1 => ?_)
      rw [if_pos rfl]
      exact q0 (hq _ _ v1 r2)
    · omega
    · omega
  · refine both_of hd h1 h2 (fun U1 U2 r1 r2 => ?_)
    rw [if_neg (by decide), if_pos rfl]
    exact q0 (hq _ _ r1 r2)
  · refine both_of hd h1 h2 (fun U1 U2 r1 r2 => ?_)
    rw [if_neg (by decide), if_neg (by decide), if_pos rfl, show nI s &&& (5 : Int32) = nI (s &&& 5) from nx_and s 5]
    rcases do_could (s := s &&& 5) (e := 0) hI g1 g2 (Nat.le_trans Nat.and_le_left hs) with ⟨k3, kd⟩ | ⟨k3, ka, kd⟩ | ⟨k3, ka, kd⟩
    · omega
    · refine absurd (asP_mono ka (fun k hk => ?_)) ha
      rw [Nat.testBit_and, Bool.and_eq_true] at hk
      exact hk.1
    · refine kd U1 x _ r1 (fun V v1 => ?_)
      exact q1 rfl (hq _ _ v1 r2)
theorem ev_503 {a z w e : Int32} (hI : JV n nL nE d D F) (h1 : RS S1 x (n, 4, nL, nE, D, F)) (h2 : RS S2 m (n, 4, nL, nE, D, F)) (hA : DA S dd n nL nE F) (hQ : ∀ U1 U2 U, JJ U1 U2 U x m dd → Q 1 U1 U2 U) : wp_L_events_B503 Q S1 S2 S x m dd a z w e := by
  obtain ⟨n24, l8, e20, d4, gd⟩ := iv_N hI
  unfold wp_L_events_B503
  refine ⟨rs_ok h1, tdd h1 hI (some_of (N := 3) rfl (by decide) (by decide) ?_)⟩
  have sr := smv_lt (z >>> ((4 : Int32) &&& 31)) (N := 3) (by decide)
  generalize smv (z >>> ((4 : Int32) &&& 31)) 3 = r at sr ⊢
  rw [lt_v, nI_add]
  refine some_of (N := 24) rfl (by decide) (by decide) ?_
  by_cases c : nI (d + r) ≤ 9999
  · rw [if_pos c]
    exact ev_540 hI h1 h2 hA ((nI_le_iff (b := 9999) (by omega) (by omega)).mp c) (smv_lt _ (by decide)) hQ
  · rw [if_neg c]
    exact q0 (hQ _ _ _ ⟨n, nL, nE, d, D, F, hI, h1, h2, hA⟩)
theorem events_ok {a z : Int32} (hJ : JJ S1 S2 S x m dd) (hQ : ∀ U1 U2 U, JJ U1 U2 U x m dd → Q 1 U1 U2 U) : wp_L_events S1 S2 S x m dd a z Q := by
  obtain ⟨n, nL, nE, d, D, F, hI, h1, h2, hA⟩ := hJ
  obtain ⟨n24, l8, e20, d4, gd⟩ := iv_N hI
  unfold wp_L_events
  refine some_of (N := 9) rfl (by decide) (by decide) ?_
  have e2 : g_R S dd (2 : Int32).toNatClampNeg = nI nL := hA.2.2.2.2.1
  have e3 : g_R S dd (3 : Int32).toNatClampNeg = nI nE := hA.2.2.2.2.2.1
  have v2 := da_v (k := 2) hA (by decide)
  have v3 := da_v (k := 3) hA (by decide)
  by_cases c1 : nI (smv a 9) < 3
  · rw [if_pos c1]
    exact ev_20 hI h1 h2 hA hQ
  · rw [if_neg c1]
    refine ⟨hA.1, v3, ?_⟩
    rw [e3]
    by_cases c2 : nI nE = 0
    · rw [if_pos c2]
      exact ev_20 hI h1 h2 hA hQ
    · rw [if_neg c2]
      have hz : nE ≠ 0 := fun q => c2 (by rw [q]; rfl)
      unfold wp_L_events_B267
      refine ⟨hA.1, v3, some_of (N := nE) e3 (by omega) (by omega) ?_⟩
      have he := smv_lt z (N := nE) (by omega)
      by_cases c3 : 7 ≤ nI (smv a 9)
      · rw [if_pos c3]
        exact ev_503 hI h1 h2 hA hQ
      · rw [if_neg c3]
        refine ⟨hA.1, v2, ?_⟩
        rw [e2]
        by_cases c4 : nI nL ≤ 0
        · rw [if_pos c4]
          exact ev_503 hI h1 h2 hA hQ
        · rw [if_neg c4]
          refine ev_290 hI h1 h2 hA he (fun q => c4 ?_) hQ
          rw [q]
          decide
end EVENTS
