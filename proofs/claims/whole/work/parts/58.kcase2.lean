/-! THE CALLS OF THE LAW: the rest -/
section KCASE2
variable {S1 S2 : Hp} {x m : Nat} {K : Hp → Hp → (Nat → Int64) → Prop} {f : Nat → Int64}
theorem da_usd {F : Nat → Nat → Int32} {c : Nat} (j : Nat) (hj : j ∈ usd) : daF F c 8 j = F j := daF_ne F c 8 j (fun w => by subst w; exact absurd hj (by decide))
theorem k_begin {a b : Int32} (hR : RR x m S1 S2) (hK : ∀ S' S2' f7, RR x m S' S2' → K S' S2' f7) : wp_L_begin S1 x a b f (fun r5 S6 f7 => okA S2 9 m ∧ wp_X9_begin S2 m a b (eT K m r5 S6 f7)) := by
  obtain ⟨B, ad, tg, D, F, A, n, nT, nL, nE, d, hB, rfl, h, hW⟩ := hR
  have hW2 := hW
  obtain ⟨⟨⟨⟨n24, t6, l8, e20, d4⟩, gT, gn, gL, gE, gd⟩, hPL, hRM, hWM, hWP, hWC, hWE, hWL, hWV, hSN, h0', h1', h2'⟩, hWS, hWT⟩ := hW2
  unfold wp_L_begin
  refine ⟨h.1.1, ?_⟩
  rcases ix_or a (n := n) (by omega) with ⟨i, hi, rfl⟩ | hv
  · by_cases hb : b < 0 ∨ 7 < b
    · refine c8_begin1b h n24 hi hb ?_
      refine ⟨fun _ => ?_, fun e => absurd e (by decide), Or.inl rfl⟩
      exact ⟨m_ok hB, x9_begin1b hB gn n24 hi hb (er1 hB h hW hK (by decide))⟩
    · obtain ⟨c, hc, rfl⟩ := isIx_of (M := 7) (N := 8) rfl (by decide) hb
      by_cases hw : F 23 c = 0 ∨ ¬ F 17 (8 * i + c) = -1
      · refine c8_begin2 h n24 hi hc (hWE c hc).1 hw ?_
        refine ⟨fun e => absurd e (by decide), fun _ => ?_, Or.inr rfl⟩
        exact ⟨m_ok hB, x9_begin2 hB gn n24 hi hc hw (er2 hB h hW hK (by decide))⟩
      · have h23 : ¬ F 23 c = 0 := fun w => hw (Or.inl w)
        have h17 : F 17 (8 * i + c) = -1 := by
          by_cases z : F 17 (8 * i + c) = -1
          · exact z
          · exact absurd (Or.inr z) hw
        obtain ⟨e, he, ee⟩ := (hWE c hc).1
        have he0 : e ≠ 0 := fun z => h23 (by rw [ee, z]; rfl)
        obtain ⟨e', rfl⟩ : ∃ e', e = e' + 1 := ⟨e - 1, by omega⟩
        have hW' := fw_begin (b := c) hW hi hc ee (by omega)
        refine c8_begin0 h n24 hi hc ee (by omega) gd d4 h17 (fw_pr hW hi) (fw_co hW' hi) (fw_ed hW hi) (fun S' A' h' => ?_)
        exact ⟨m_ok hB, x9_begin0 hB gn n24 hi hc ee (by omega) h17 (eT_0 hB rfl (hK _ _ _ (rr_mk hB h' (fw_31 hW') rfl rfl)))⟩
  · refine c8_begin1a h hv ?_
    refine ⟨fun _ => ?_, fun e => absurd e (by decide), Or.inl rfl⟩
    exact ⟨m_ok hB, x9_begin1a hB gn n24 hv (er1 hB h hW hK (by decide))⟩
theorem k_prove {a b c : Int32} (hR : RR x m S1 S2) (hK : ∀ S' S2' f7, RR x m S' S2' → K S' S2' f7) : wp_L_prove S1 x a b c f (fun r5 S6 f7 => okA S2 9 m ∧ wp_X9_prove S2 m a b c (eT K m r5 S6 f7)) := by
  obtain ⟨B, ad, tg, D, F, A, n, nT, nL, nE, d, hB, rfl, h, hW⟩ := hR
  have hW2 := hW
  obtain ⟨⟨⟨⟨n24, t6, l8, e20, d4⟩, gT, gn, gL, gE, gd⟩, hPL, hRM, hWM, hWP, hWC, hWE, hWL, hWV, hSN, h0', h1', h2'⟩, hWS, hWT⟩ := hW2
  unfold wp_L_prove
  refine ⟨h.1.1, ?_⟩
  rcases ix_or a (n := n) (by omega) with ⟨i, hi, rfl⟩ | hv
  · by_cases hb : b < 0 ∨ 15 < b
    · refine c8_prove1b h n24 hi hb ?_
      refine ⟨fun _ => ?_, fun e => absurd e (by decide), Or.inl rfl⟩
      exact ⟨m_ok hB, x9_prove1b hB gn n24 hi hb (er1 hB h hW hK (by decide))⟩
    · obtain ⟨k, hk, rfl⟩ := isIx_of (M := 15) (N := 16) rfl (by decide) hb
      rcases ix_or c (n := nL) (by omega) with ⟨l, hl, rfl⟩ | hv
      · refine c8_prove h n24 hi hk l8 hl gd d4 (hWL l hl) (hWP i hi) (fw_co hW hi) (fw_ed hW hi) (fun hno => ?_) (fun v1 v2 v3 S' h' => ?_)
        · refine ⟨fun e => absurd e (by decide), fun _ => ?_, Or.inr rfl⟩
          exact ⟨m_ok hB, x9_prove hB gn n24 hi hk gL l8 hl gd d4 (hWL l hl) (fw_pr hW hi) (fw_co hW hi) (fun _ => (er2 hB h hW hK (by decide))) (fun v1 v2 v3 => absurd ⟨v1, v2, v3⟩ hno)⟩
        · refine ⟨m_ok hB, x9_prove hB gn n24 hi hk gL l8 hl gd d4 (hWL l hl) (fw_pr hW hi) (fw_co hW hi) (fun hno => absurd ⟨v1, v2, v3⟩ hno) (fun _ _ _ => eT_0 hB rfl (hK _ _ _ (rr_mk hB (cs_cg h' da_usd) (fw_cg (fw_31 (fw_prove hW hi hk)) da_usd) rfl rfl)))⟩
      · refine c8_prove1c h n24 hi hk hv ?_
        refine ⟨fun _ => ?_, fun e => absurd e (by decide), Or.inl rfl⟩
        exact ⟨m_ok hB, x9_prove1c hB gn n24 hi hb gL l8 hv (er1 hB h hW hK (by decide))⟩
  · refine c8_prove1a h hv ?_
    refine ⟨fun _ => ?_, fun e => absurd e (by decide), Or.inl rfl⟩
    exact ⟨m_ok hB, x9_prove1a hB gn n24 hv (er1 hB h hW hK (by decide))⟩
theorem k_event {a b c e g q : Int32} (hR : RR x m S1 S2) (hK : ∀ S' S2' f7, RR x m S' S2' → K S' S2' f7) : wp_L_event S1 x a b c e g q f (fun r5 S6 f7 => okA S2 9 m ∧ wp_X9_event S2 m a b c e g q (eT K m r5 S6 f7)) := by
  obtain ⟨B, ad, tg, D, F, A, n, nT, nL, nE, d, hB, rfl, h, hW⟩ := hR
  have hW2 := hW
  obtain ⟨⟨⟨⟨n24, t6, l8, e20, d4⟩, gT, gn, gL, gE, gd⟩, hPL, hRM, hWM, hWP, hWC, hWE, hWL, hWV, hSN, h0', h1', h2'⟩, hWS, hWT⟩ := hW2
  unfold wp_L_event
  refine ⟨h.1.1, ?_⟩
  rcases ix_or a (n := nT) (by omega) with ⟨i, hi, rfl⟩ | hv
  · by_cases hb : b < 0 ∨ 2 < b
    · refine c8_event1b h t6 hi hb ?_
      refine ⟨fun _ => ?_, fun e => absurd e (by decide), fun e => absurd e (by decide), Or.inl rfl⟩
      exact ⟨m_ok hB, x9_event1b hB gT t6 hi hb (er1 hB h hW hK (by decide))⟩
    · have ib := isIx_of (M := 2) (N := 3) rfl (by decide) hb
      obtain ⟨k, hk, rfl⟩ := ib
      by_cases hw : evV D c e g q
      · by_cases h20 : nE = 20
        · refine c8_event3 h t6 hi hk hw h20 ?_
          refine ⟨fun e => absurd e (by decide), fun e => absurd e (by decide), fun _ => ?_, Or.inr (Or.inr rfl)⟩
          exact ⟨m_ok hB, x9_event3 hB gT t6 hi hb hw (by rw [gE, h20]; rfl) (er2 hB h hW hK (by decide))⟩
        · refine c8_event0 h t6 hi hk hw (by omega) (h2' nE (Nat.le_refl _) (by omega)) (fun S' A' h' => ?_)
          exact ⟨m_ok hB, x9_event0 hB gT t6 hi hb hw gE (by omega) (eT_0 hB rfl (hK _ _ _ (rr_mk hB h' (fw_event (D := D) hW (by omega) ⟨k, hk, rfl⟩ hw rfl rfl rfl rfl rfl) rfl rfl)))⟩
      · refine c8_event2 h t6 hi hk hw ?_
        refine ⟨fun e => absurd e (by decide), fun _ => ?_, fun e => absurd e (by decide), Or.inr (Or.inl rfl)⟩
        exact ⟨m_ok hB, x9_event2 hB gT t6 hi hb hw (er2 hB h hW hK (by decide))⟩
  · refine c8_event1a h hv ?_
    refine ⟨fun _ => ?_, fun e => absurd e (by decide), fun e => absurd e (by decide), Or.inl rfl⟩
    exact ⟨m_ok hB, x9_event1a hB gT t6 hv (er1 hB h hW hK (by decide))⟩
theorem k_staff {a b c : Int32} (hR : RR x m S1 S2) (hK : ∀ S' S2' f7, RR x m S' S2' → K S' S2' f7) : wp_L_staff S1 x a b c f (fun r5 S6 f7 => okA S2 9 m ∧ wp_X9_staff S2 m a b c (eT K m r5 S6 f7)) := by
  obtain ⟨B, ad, tg, D, F, A, n, nT, nL, nE, d, hB, rfl, h, hW⟩ := hR
  have hW2 := hW
  obtain ⟨⟨⟨⟨n24, t6, l8, e20, d4⟩, gT, gn, gL, gE, gd⟩, hPL, hRM, hWM, hWP, hWC, hWE, hWL, hWV, hSN, h0', h1', h2'⟩, hWS, hWT⟩ := hW2
  unfold wp_L_staff
  refine ⟨h.1.1, ?_⟩
  rcases ix_or a (n := nE) (by omega) with ⟨e, he, rfl⟩ | hv
  · rcases ix_or b (n := nL) (by omega) with ⟨l, hl, rfl⟩ | hv
    · obtain ⟨s1, s2⟩ := hSN e he
      have s3 := hWS e he
      obtain ⟨-, d1⟩ := clr_ok (sN F e) s2 l (by omega)
      obtain ⟨-, d2⟩ := setb_ok (sN F e) s2 l (by omega)
      have hv : (if c = 0 then clr (sN F e) l else setb (sN F e) l) < 256 ∧ (if c = 0 then clr (sN F e) l else setb (sN F e) l) < 2 ^ nL := by
        by_cases z : c = 0
        · rw [if_pos z]
          exact ⟨d1, Nat.lt_of_le_of_lt (clr_le _ _) s3⟩
        · rw [if_neg z]
          exact ⟨d2, setb_lt s3 hl⟩
      refine c8_staff h e20 he l8 hl hSN (fun z w => ?_) (fun w S' h' => ?_)
      · refine ⟨fun e => absurd e (by decide), fun _ => ?_, Or.inr rfl⟩
        exact ⟨m_ok hB, x9_staff hB gE e20 he gL l8 hl hSN (fun _ _ => (er2 hB h hW hK (by decide))) (fun w2 => by rcases w2 with w2 | w2; exact absurd w2 z; rw [w] at w2; exact absurd w2 (by decide))⟩
      · refine ⟨m_ok hB, x9_staff hB gE e20 he gL l8 hl hSN (fun z w2 => ?_) (fun _ => eT_0 hB rfl (hK _ _ _ (rr_mk hB h' (fw_31 (fw_staff hW he hv.1 hv.2)) rfl rfl)))⟩
        rcases w with w | w
        · exact absurd w z
        · rw [w2] at w
          exact absurd w (by decide)
    · refine c8_staff1b h e20 he hv ?_
      refine ⟨fun _ => ?_, fun e => absurd e (by decide), Or.inl rfl⟩
      exact ⟨m_ok hB, x9_staff1b hB gE e20 he gL l8 hv (er1 hB h hW hK (by decide))⟩
  · refine c8_staff1a h hv ?_
    refine ⟨fun _ => ?_, fun e => absurd e (by decide), Or.inl rfl⟩
    exact ⟨m_ok hB, x9_staff1a hB gE e20 hv (er1 hB h hW hK (by decide))⟩
theorem k_why {a : Int32} (hR : RR x m S1 S2) (hK : ∀ S' S2' f7, RR x m S' S2' → K S' S2' f7) : wp_L_why S1 x a f (fun r5 S6 f7 => okA S2 9 m ∧ wp_X9_why S2 m a (eT K m r5 S6 f7)) := by
  obtain ⟨B, ad, tg, D, F, A, n, nT, nL, nE, d, hB, rfl, h, hW⟩ := hR
  have hW2 := hW
  obtain ⟨⟨⟨⟨n24, t6, l8, e20, d4⟩, gT, gn, gL, gE, gd⟩, hPL, hRM, hWM, hWP, hWC, hWE, hWL, hWV, hSN, h0', h1', h2'⟩, hWS, hWT⟩ := hW2
  unfold wp_L_why
  refine ⟨h.1.1, ?_⟩
  rcases ix_or a (n := nE) (by omega) with ⟨e, he, rfl⟩ | hv
  · obtain ⟨v1, v2, -, -⟩ := hWV e he
    refine c8_why0 h n24 l8 e20 he v1 v2 (hSN e he).1 (hWS e he) (fun S' h' => ?_)
    exact ⟨m_ok hB, x9_why0 hB gn n24 gL l8 gE e20 he v1 hSN (ok1 hB h' hW hK)⟩
  · refine c8_why1 h hv ?_
    refine ⟨fun _ => ?_, rfl⟩
    exact ⟨m_ok hB, x9_why1 hB gE e20 hv (er1 hB h hW hK (by decide))⟩
theorem sm_usd {F G : Nat → Nat → Int32} (h : sm2 F G) (j : Nat) (hj : j ∈ usd) : G j = F j := h j (fun w => by subst w; exact absurd hj (by decide)) (fun w => by subst w; exact absurd hj (by decide))
theorem k_couldStaff {a b c : Int32} (hR : RR x m S1 S2) (hK : ∀ S' S2' f7, RR x m S' S2' → K S' S2' f7) : wp_L_couldStaff S1 x a b c f (fun r5 S6 f7 => okA S2 9 m ∧ wp_X9_couldStaff S2 m a b c (eB K m r5 S6 f7)) := by
  obtain ⟨B, ad, tg, D, F, A, n, nT, nL, nE, d, hB, rfl, h, hW⟩ := hR
  have hW2 := hW
  obtain ⟨⟨⟨⟨n24, t6, l8, e20, d4⟩, gT, gn, gL, gE, gd⟩, hPL, hRM, hWM, hWP, hWC, hWE, hWL, hWV, hSN, h0', h1', h2'⟩, hWS, hWT⟩ := hW2
  unfold wp_L_couldStaff
  refine ⟨h.1.1, ?_⟩
  by_cases hv : (a < 0 ∨ 9999 < a) ∨ (b < 0 ∨ 23 < b) ∨ (c < 0 ∨ nI (2 ^ nL - 1) < c)
  · refine c8_could1 h l8 hv ?_
    refine ⟨fun _ => ?_, fun e => absurd e (by decide), Or.inl rfl⟩
    exact ⟨m_ok hB, x9_could1 hB gL l8 hv (eB_k hB rfl (by decide) (hK _ _ _ (rr_1 hB h hW)))⟩
  · have w1 : ¬ (a < 0 ∨ 9999 < a) := fun w => hv (Or.inl w)
    have w2 : ¬ (b < 0 ∨ 23 < b) := fun w => hv (Or.inr (Or.inl w))
    have w3 : ¬ (c < 0 ∨ nI (2 ^ nL - 1) < c) := fun w => hv (Or.inr (Or.inr w))
    have hpw : 0 < 2 ^ nL := Nat.two_pow_pos _
    have hpw2 : 2 ^ nL ≤ 2 ^ 8 := Nat.pow_le_pow_right (by decide) l8
    obtain ⟨s, hs, rfl⟩ := isIx_of (M := nI (2 ^ nL - 1)) (N := 2 ^ nL) (by rw [nI_toInt (by omega)]; omega) (by omega) w3
    have hV : ∀ e, e < nE → EvV F e := fun e he => (hWV e he).1
    by_cases h3 : 3 < (goS F a b nE).length
    · refine c8_could2 h l8 e20 hWV w1 w2 (by omega) h3 ?_
      refine ⟨fun e => absurd e (by decide), fun _ => ?_, Or.inr rfl⟩
      exact ⟨m_ok hB, x9_could hB gn n24 gL l8 gE e20 hV w1 w2 (by omega) (fun _ G' hG => eB_k hB rfl (by decide) (hK _ _ _ (rr_mk hB (cs_cg h (sm_usd hG)) (fw_cg (fw_31 (fw_31 hW)) (sm_usd hG)) rfl rfl))) (fun w => by omega)⟩
    · refine c8_could0 h n24 l8 e20 hWV w1 w2 (by omega) (by omega) (fun S' h' => ?_)
      have hR' : ∀ G', sm2 F G' → RR x m S' (mS B m tg (upD D 31 0) G') := fun G' hG => rr_mk hB (cs_cg h' (sm_usd hG)) (fw_cg (fw_31 hW) (sm_usd hG)) rfl rfl
      have href : ∀ {Q : Int32 → Hp → Prop}, (∀ G', sm2 F G' → Q (bI (decide ((goS F a b nE).length = 0) || anB (lawB F n nL (goS F a b nE).length s (fun k => (goS F a b nE).getD k 0)) (((goS F a b nE).length + 1) ^ pop s nL))) (mS B m tg (upD D 31 0) G')) → wp_X9_couldStaff (mS B m tg D F) m a b (nI s) Q := fun hq => x9_could hB gn n24 gL l8 gE e20 hV w1 w2 (by omega) (fun w => by omega) (fun _ G' hG => hq G' hG)
      cases hbv : (decide ((goS F a b nE).length = 0) || anB (lawB F n nL (goS F a b nE).length s (fun k => (goS F a b nE).getD k 0)) (((goS F a b nE).length + 1) ^ pop s nL)) with
      | false =>
        show if bI false = 0 then _ else _
        rw [if_pos (show bI false = 0 from rfl)]
        refine ⟨m_ok hB, href (fun G' hG => ?_)⟩
        rw [hbv]
        exact eB_0 hB rfl (fun g => hK _ _ _ (hR' G' hG))
      | true =>
        show if bI true = 0 then _ else _
        rw [if_neg (show ¬ bI true = 0 by decide)]
        refine ⟨m_ok hB, href (fun G' hG => ?_)⟩
        rw [hbv]
        exact eB_1 hB rfl (fun g => hK _ _ _ (hR' G' hG))
theorem ge1 {b M : Int32} {N : Nat} (hM : M.toInt = (N : Int) - 1) (hN : N < 2 ^ 31) (hv : ¬ (b < 1 ∨ M < b)) : ∃ k : Nat, 0 < k ∧ k < N ∧ b = nI k := by
  obtain ⟨k, hk, e⟩ := isIx_of (v := b) (M := M) (N := N) hM hN (fun w => hv (by
    rcases w with w | w
    · refine Or.inl ?_
      rw [i_lt] at w ⊢
      rw [show (0 : Int32).toInt = 0 from rfl] at w
      rw [show (1 : Int32).toInt = 1 from rfl]
      omega
    · exact Or.inr w))
  refine ⟨k, ?_, hk, e⟩
  rcases Nat.eq_zero_or_pos k with z | z
  · exact absurd (Or.inl (by rw [e, z]; decide)) hv
  · exact z
theorem k_boxes {a b : Int32} (hR : RR x m S1 S2) (hK : ∀ S' S2' f7, RR x m S' S2' → K S' S2' f7) : wp_L_boxes S1 x a b f (fun r5 S6 f7 => okA S2 9 m ∧ wp_X9_boxes S2 m a b (eT K m r5 S6 f7)) := by
  obtain ⟨B, ad, tg, D, F, A, n, nT, nL, nE, d, hB, rfl, h, hW⟩ := hR
  have hW2 := hW
  obtain ⟨⟨⟨⟨n24, t6, l8, e20, d4⟩, gT, gn, gL, gE, gd⟩, hPL, hRM, hWM, hWP, hWC, hWE, hWL, hWV, hSN, h0', h1', h2'⟩, hWS, hWT⟩ := hW2
  unfold wp_L_boxes
  refine ⟨h.1.1, ?_⟩
  rcases ix_or a (n := n) (by omega) with ⟨i, hi, rfl⟩ | hv
  · by_cases hb : b < 1 ∨ 99 < b
    · refine c8_boxes2 h n24 hi hb ?_
      refine ⟨fun e => absurd e (by decide), fun _ => ?_, fun e => absurd e (by decide), Or.inr (Or.inl rfl)⟩
      exact ⟨m_ok hB, x9_boxes2 hB gn n24 hi hb (er2 hB h hW hK (by decide))⟩
    · by_cases hw : bxO F i b
      · refine c8_boxes0 h n24 hi hb hw (fun S' h' => ?_)
        obtain ⟨k, hk0, hk, ek⟩ := ge1 (M := 99) (N := 100) rfl (by decide) hb
        obtain ⟨tk, ow, e14, e12, q1, q2⟩ := hWM i hi
        have h14 := hw.2.2
        rw [e14, ek, nI_add, i_le, nI_toInt (by omega), show (9999 : Int32).toInt = 9999 from rfl] at h14
        have hW' : FW n nT nL nE d D (boxF F i b) := by
          refine fw_M (i := i) (tk := tk + k) (ow := ow + 4 * k) hW hi (fun j z1 z2 z3 => ?_) (fun j l z => ?_) ?_ ?_ (by omega) (by omega)
          · funext l
            simp [boxF, g_2, z1, z2, z3]
          · simp [boxF, g_2, z]
          · rw [← nI_add, ← e14, ← ek]
            simp [boxF, g_2]
          · rw [← nI_add, ← e12, ← nI_mul, ← ek]
            simp [boxF, g_2]
            rfl
        exact ⟨m_ok hB, x9_boxes0 hB gn n24 hi hb hw (eT_0 hB rfl (hK _ _ _ (rr_mk hB h' (fw_31 hW') rfl rfl)))⟩
      · refine c8_boxes3 h n24 hi hb hw ?_
        refine ⟨fun e => absurd e (by decide), fun e => absurd e (by decide), fun _ => ?_, Or.inr (Or.inr rfl)⟩
        exact ⟨m_ok hB, x9_boxes3 hB gn n24 hi hb hw (er2 hB h hW hK (by decide))⟩
  · refine c8_boxes1 h hv ?_
    refine ⟨fun _ => ?_, fun e => absurd e (by decide), fun e => absurd e (by decide), Or.inl rfl⟩
    exact ⟨m_ok hB, x9_boxes1 hB gn n24 hv (er1 hB h hW hK (by decide))⟩
theorem k_pay {a b : Int32} (hR : RR x m S1 S2) (hK : ∀ S' S2' f7, RR x m S' S2' → K S' S2' f7) : wp_L_pay S1 x a b f (fun r5 S6 f7 => okA S2 9 m ∧ wp_X9_pay S2 m a b (eT K m r5 S6 f7)) := by
  obtain ⟨B, ad, tg, D, F, A, n, nT, nL, nE, d, hB, rfl, h, hW⟩ := hR
  have hW2 := hW
  obtain ⟨⟨⟨⟨n24, t6, l8, e20, d4⟩, gT, gn, gL, gE, gd⟩, hPL, hRM, hWM, hWP, hWC, hWE, hWL, hWV, hSN, h0', h1', h2'⟩, hWS, hWT⟩ := hW2
  unfold wp_L_pay
  refine ⟨h.1.1, ?_⟩
  rcases ix_or a (n := n) (by omega) with ⟨i, hi, rfl⟩ | hv
  · by_cases hb : b < 1 ∨ 396 < b
    · refine c8_pay2 h n24 hi hb ?_
      refine ⟨fun e => absurd e (by decide), fun _ => ?_, fun e => absurd e (by decide), Or.inr (Or.inl rfl)⟩
      exact ⟨m_ok hB, x9_pay2 hB gn n24 hi hb (er2 hB h hW hK (by decide))⟩
    · by_cases hw : b ≤ F 12 i
      · obtain ⟨k, hk0, hk, ek⟩ := ge1 (M := 396) (N := 397) rfl (by decide) hb
        obtain ⟨tk, ow, e14, e12, q1, q2⟩ := hWM i hi
        have hko : k ≤ ow := by
          have w := hw
          rw [e12, ek, i_le, nI_toInt (by omega), nI_toInt (by omega)] at w
          omega
        refine c8_pay0 h n24 hi hb hw (fun z => ?_) (fun S' h' => ?_)
        · rw [e12] at z
          exact nI_ne0 (by omega) (by omega) z
        · have hW' : FW n nT nL nE d D (g_2 F 12 i (F 12 i - b)) := by
            refine fw_M (i := i) (tk := tk) (ow := ow - k) hW hi (fun j z1 z2 z3 => ?_) (fun j l z => ?_) ?_ ?_ (by omega) (by omega)
            · exact funext fun l => g_2n _ _ (fun w => z1 w.1)
            · exact g_2n _ _ (fun w => z w.2)
            · exact (g_2n _ _ (fun w => absurd w.1 (by decide))).trans e14
            · rw [g_2s, e12, ek, pk_sub hko]
          exact ⟨m_ok hB, x9_pay0 hB gn n24 hi hb hw (eT_0 hB rfl (hK _ _ _ (rr_mk hB h' (fw_31 hW') rfl rfl)))⟩
      · refine c8_pay3 h n24 hi hb hw ?_
        refine ⟨fun e => absurd e (by decide), fun e => absurd e (by decide), fun _ => ?_, Or.inr (Or.inr rfl)⟩
        exact ⟨m_ok hB, x9_pay3 hB gn n24 hi hb hw (er2 hB h hW hK (by decide))⟩
  · refine c8_pay1 h hv ?_
    refine ⟨fun _ => ?_, fun e => absurd e (by decide), fun e => absurd e (by decide), Or.inl rfl⟩
    exact ⟨m_ok hB, x9_pay1 hB gn n24 hv (er1 hB h hW hK (by decide))⟩
theorem k_owed {a : Int32} (hR : RR x m S1 S2) (hK : ∀ S' S2' f7, RR x m S' S2' → K S' S2' f7) : wp_L_owed S1 x a f (fun r5 S6 f7 => okA S2 9 m ∧ wp_X9_owed S2 m a (eT K m r5 S6 f7)) := by
  obtain ⟨B, ad, tg, D, F, A, n, nT, nL, nE, d, hB, rfl, h, hW⟩ := hR
  have hW2 := hW
  obtain ⟨⟨⟨⟨n24, t6, l8, e20, d4⟩, gT, gn, gL, gE, gd⟩, hPL, hRM, hWM, hWP, hWC, hWE, hWL, hWV, hSN, h0', h1', h2'⟩, hWS, hWT⟩ := hW2
  unfold wp_L_owed
  refine ⟨h.1.1, ?_⟩
  rcases ix_or a (n := nT) (by omega) with ⟨j, hj, rfl⟩ | hv
  · refine c8_owed0 h n24 t6 hj (fun i hi => ?_) ?_
    · obtain ⟨tk, ow, e14, e12, q1, q2⟩ := hWM i hi
      rw [e12]
      exact nI_pos (by omega)
    · exact ⟨m_ok hB, x9_owed0 hB gn n24 gT t6 hj (ok1 hB h hW hK)⟩
  · refine c8_owed1 h hv ?_
    refine ⟨fun _ => ?_, rfl⟩
    exact ⟨m_ok hB, x9_owed1 hB gT t6 hv (er1 hB h hW hK (by decide))⟩
theorem k_today (hR : RR x m S1 S2) (hK : ∀ S' S2', RR x m S' S2' → K S' S2' f) : okA S1 8 x ∧ wp_X8_today S1 x (fun r S6 => okA S2 9 m ∧ wp_X9_today S2 m (fun r2 S13 => if r = r2 then K S6 S13 f else False)) := by
  obtain ⟨B, ad, tg, D, F, A, n, nT, nL, nE, d, hB, rfl, h, hW⟩ := hR
  have hW2 := hW
  obtain ⟨⟨⟨⟨n24, t6, l8, e20, d4⟩, gT, gn, gL, gE, gd⟩, hPL, hRM, hWM, hWP, hWC, hWE, hWL, hWV, hSN, h0', h1', h2'⟩, hWS, hWT⟩ := hW2
  refine ⟨h.1.1, c8_today h ⟨m_ok hB, x9_today hB ?_⟩⟩
  rw [if_pos rfl]
  exact hK _ _ (rr_1 hB h hW)
theorem k_ofChild {a b : Int32} (hR : RR x m S1 S2) (hK : ∀ S' S2' f7, RR x m S' S2' → K S' S2' f7) : wp_L_ofChild S1 x a b f (fun r5 S6 f7 => okA S2 9 m ∧ wp_X9_ofChild S2 m a b (eT K m r5 S6 f7)) := by
  obtain ⟨B, ad, tg, D, F, A, n, nT, nL, nE, d, hB, rfl, h, hW⟩ := hR
  have hW2 := hW
  obtain ⟨⟨⟨⟨n24, t6, l8, e20, d4⟩, gT, gn, gL, gE, gd⟩, hPL, hRM, hWM, hWP, hWC, hWE, hWL, hWV, hSN, h0', h1', h2'⟩, hWS, hWT⟩ := hW2
  unfold wp_L_ofChild
  refine ⟨h.1.1, ?_⟩
  rcases ix_or a (n := n) (by omega) with ⟨i, hi, rfl⟩ | hv
  · have hx : ∀ (q0 : Int32 → Hp → Prop), (b = 0 → q0 (F 6 i) (mS B m tg (upD D 31 0) F)) → (b = 1 → q0 (F 7 i) (mS B m tg (upD D 31 0) F)) → (b = 2 → q0 (F 8 i) (mS B m tg (upD D 31 0) F)) → (b = 3 → q0 (F 11 i) (mS B m tg (upD D 31 0) F)) → (b = 4 → q0 (nI (eaN F i d 8)) (mS B m tg (upD D 31 0) (daF F i 8))) → (b = 5 → q0 (F 12 i) (mS B m tg (upD D 31 0) F)) → (¬ b = 0 → ¬ b = 1 → ¬ b = 2 → ¬ b = 3 → ¬ b = 4 → ¬ b = 5 → q0 0 (mS B m tg (upD (upD D 31 0) 31 2) F)) → wp_X9_ofChild (mS B m tg D F) m (nI i) b q0 := fun q0 p0 p1 p2 p3 p4 p5 p6 => x9_ofChild hB gn n24 hi gd d4 (fw_pr hW hi) (fw_co hW hi) p0 p1 p2 p3 p4 p5 p6
    have nb : ∀ {u v : Int32}, u = v → b = u → ∀ {w : Int32}, ¬ w = v → ¬ b = w := fun e1 e2 _ h3 e4 => h3 (by rw [← e4, e2, e1])
    refine c8_ofChild h n24 hi gd d4 (fun z => ?_) (fun z => ?_) (fun z => ?_) (fun z => ?_) (fun z => ?_) (fun z => ?_) (fun z0 z1 z2 z3 z4 z5 => ?_)
    · refine ⟨m_ok hB, hx _ (fun _ => ok1 hB h hW hK) (fun w => ?_) (fun w => ?_) (fun w => ?_) (fun w => ?_) (fun w => ?_) (fun w => absurd z w)⟩
      all_goals exact absurd (z.symm.trans w) (by decide)
    · refine ⟨m_ok hB, hx _ (fun w => ?_) (fun _ => ok1 hB h hW hK) (fun w => ?_) (fun w => ?_) (fun w => ?_) (fun w => ?_) (fun _ w => absurd z w)⟩
      all_goals exact absurd (z.symm.trans w) (by decide)
    · refine ⟨m_ok hB, hx _ (fun w => ?_) (fun w => ?_) (fun _ => ok1 hB h hW hK) (fun w => ?_) (fun w => ?_) (fun w => ?_) (fun _ _ w => absurd z w)⟩
      all_goals exact absurd (z.symm.trans w) (by decide)
    · refine ⟨m_ok hB, hx _ (fun w => ?_) (fun w => ?_) (fun w => ?_) (fun _ => ok1 hB h hW hK) (fun w => ?_) (fun w => ?_) (fun _ _ _ w => absurd z w)⟩
      all_goals exact absurd (z.symm.trans w) (by decide)
    · refine ⟨m_ok hB, hx _ (fun w => ?_) (fun w => ?_) (fun w => ?_) (fun w => ?_) (fun _ => eT_0 hB rfl (hK _ _ _ (rr_mk hB (cs_cg h da_usd) (fw_cg (fw_31 hW) da_usd) rfl rfl))) (fun w => ?_) (fun _ _ _ _ w => absurd z w)⟩
      all_goals exact absurd (z.symm.trans w) (by decide)
    · refine ⟨m_ok hB, hx _ (fun w => ?_) (fun w => ?_) (fun w => ?_) (fun w => ?_) (fun w => ?_) (fun _ => ok1 hB h hW hK) (fun _ _ _ _ _ w => absurd z w)⟩
      all_goals exact absurd (z.symm.trans w) (by decide)
    · refine ⟨fun e => absurd e (by decide), fun _ => ?_, Or.inr rfl⟩
      exact ⟨m_ok hB, hx _ (fun w => absurd w z0) (fun w => absurd w z1) (fun w => absurd w z2) (fun w => absurd w z3) (fun w => absurd w z4) (fun w => absurd w z5) (fun _ _ _ _ _ _ => (er2 hB h hW hK (by decide)))⟩
  · refine c8_ofChild1 h hv ?_
    refine ⟨fun _ => ?_, fun e => absurd e (by decide), Or.inl rfl⟩
    exact ⟨m_ok hB, x9_ofChild1 hB gn n24 hv (er1 hB h hW hK (by decide))⟩
theorem k_ofTroop {a b : Int32} (hR : RR x m S1 S2) (hK : ∀ S' S2' f7, RR x m S' S2' → K S' S2' f7) : wp_L_ofTroop S1 x a b f (fun r5 S6 f7 => okA S2 9 m ∧ wp_X9_ofTroop S2 m a b (eT K m r5 S6 f7)) := by
  obtain ⟨B, ad, tg, D, F, A, n, nT, nL, nE, d, hB, rfl, h, hW⟩ := hR
  have hW2 := hW
  obtain ⟨⟨⟨⟨n24, t6, l8, e20, d4⟩, gT, gn, gL, gE, gd⟩, hPL, hRM, hWM, hWP, hWC, hWE, hWL, hWV, hSN, h0', h1', h2'⟩, hWS, hWT⟩ := hW2
  unfold wp_L_ofTroop
  refine ⟨h.1.1, ?_⟩
  rcases ix_or a (n := nT) (by omega) with ⟨j, hj, rfl⟩ | hv
  · refine c8_ofTroop0 h n24 t6 hj ?_
    exact ⟨m_ok hB, x9_ofTroop0 hB gn n24 gT t6 hj (ok1 hB h hW hK)⟩
  · refine c8_ofTroop1 h hv ?_
    refine ⟨fun _ => ?_, rfl⟩
    exact ⟨m_ok hB, x9_ofTroop1 hB gT t6 hv (er1 hB h hW hK (by decide))⟩
theorem k_earned {a b : Int32} (hR : RR x m S1 S2) (hK : ∀ S' S2' f7, RR x m S' S2' → K S' S2' f7) : wp_L_earned S1 x a b f (fun r5 S6 f7 => okA S2 9 m ∧ wp_X9_earned S2 m a b (eT K m r5 S6 f7)) := by
  obtain ⟨B, ad, tg, D, F, A, n, nT, nL, nE, d, hB, rfl, h, hW⟩ := hR
  have hW2 := hW
  obtain ⟨⟨⟨⟨n24, t6, l8, e20, d4⟩, gT, gn, gL, gE, gd⟩, hPL, hRM, hWM, hWP, hWC, hWE, hWL, hWV, hSN, h0', h1', h2'⟩, hWS, hWT⟩ := hW2
  unfold wp_L_earned
  refine ⟨h.1.1, ?_⟩
  rcases ix_or a (n := n) (by omega) with ⟨i, hi, rfl⟩ | hv
  · by_cases hb : b < 0 ∨ 7 < b
    · refine c8_earned1b h n24 hi hb ?_
      refine ⟨fun _ => ?_, rfl⟩
      exact ⟨m_ok hB, x9_earned1b hB gn n24 hi hb (er1 hB h hW hK (by decide))⟩
    · obtain ⟨c, hc, rfl⟩ := isIx_of (M := 7) (N := 8) rfl (by decide) hb
      refine c8_earned h n24 hi hc gd d4 ?_
      exact ⟨m_ok hB, x9_earned hB gn n24 hi hc gd d4 (fw_pr hW hi) (fw_co hW hi) (eT_0 hB rfl (hK _ _ _ (rr_mk hB (cs_cg h da_usd) (fw_cg (fw_31 hW) da_usd) rfl rfl)))⟩
  · refine c8_earned1a h hv ?_
    refine ⟨fun _ => ?_, rfl⟩
    exact ⟨m_ok hB, x9_earned1a hB gn n24 hv (er1 hB h hW hK (by decide))⟩
theorem k_holds {a b : Int32} (hR : RR x m S1 S2) (hK : ∀ S' S2' f7, RR x m S' S2' → K S' S2' f7) : wp_L_holds S1 x a b f (fun r5 S6 f7 => okA S2 9 m ∧ wp_X9_holds S2 m a b (eB K m r5 S6 f7)) := by
  obtain ⟨B, ad, tg, D, F, A, n, nT, nL, nE, d, hB, rfl, h, hW⟩ := hR
  have hW2 := hW
  obtain ⟨⟨⟨⟨n24, t6, l8, e20, d4⟩, gT, gn, gL, gE, gd⟩, hPL, hRM, hWM, hWP, hWC, hWE, hWL, hWV, hSN, h0', h1', h2'⟩, hWS, hWT⟩ := hW2
  unfold wp_L_holds
  refine ⟨h.1.1, ?_⟩
  rcases ix_or a (n := n) (by omega) with ⟨i, hi, rfl⟩ | hv
  · by_cases hb : b < 0 ∨ 7 < b
    · refine c8_holds1b h n24 hi hb ?_
      refine ⟨fun _ => ?_, rfl⟩
      exact ⟨m_ok hB, x9_holds1b hB gn n24 hi hb (eB_k hB rfl (by decide) (hK _ _ _ (rr_1 hB h hW)))⟩
    · obtain ⟨c, hc, rfl⟩ := isIx_of (M := 7) (N := 8) rfl (by decide) hb
      refine c8_holds h n24 hi hc gd d4 (fw_co hW hi) (fw_ed hW hi c hc) ?_
      have hR' : RR x m S1 (mS B m tg (upD D 31 0) (daF F i 8)) := rr_mk hB (cs_cg h da_usd) (fw_cg (fw_31 hW) da_usd) rfl rfl
      have href : ∀ {Q : Int32 → Hp → Prop}, Q (bI (hoB F i c d)) (mS B m tg (upD D 31 0) (daF F i 8)) → wp_X9_holds (mS B m tg D F) m (nI i) (nI c) Q := fun hq => x9_holds hB gn n24 hi hc gd d4 (fw_pr hW hi) (fw_co hW hi) hq
      cases hbv : hoB F i c d with
      | false =>
        show if bI false = 0 then _ else _
        rw [if_pos (show bI false = 0 from rfl)]
        refine ⟨m_ok hB, href ?_⟩
        rw [hbv]
        exact eB_0 hB rfl (fun g => hK _ _ _ hR')
      | true =>
        show if bI true = 0 then _ else _
        rw [if_neg (show ¬ bI true = 0 by decide)]
        refine ⟨m_ok hB, href ?_⟩
        rw [hbv]
        exact eB_1 hB rfl (fun g => hK _ _ _ hR')
  · refine c8_holds1a h hv ?_
    refine ⟨fun _ => ?_, rfl⟩
    exact ⟨m_ok hB, x9_holds1a hB gn n24 hv (eB_k hB rfl (by decide) (hK _ _ _ (rr_1 hB h hW)))⟩
theorem k_lacks {a b : Int32} (hR : RR x m S1 S2) (hK : ∀ S' S2' f7, RR x m S' S2' → K S' S2' f7) : wp_L_lacks S1 x a b f (fun r5 S6 f7 => okA S2 9 m ∧ wp_X9_lacks S2 m a b (eT K m r5 S6 f7)) := by
  obtain ⟨B, ad, tg, D, F, A, n, nT, nL, nE, d, hB, rfl, h, hW⟩ := hR
  have hW2 := hW
  obtain ⟨⟨⟨⟨n24, t6, l8, e20, d4⟩, gT, gn, gL, gE, gd⟩, hPL, hRM, hWM, hWP, hWC, hWE, hWL, hWV, hSN, h0', h1', h2'⟩, hWS, hWT⟩ := hW2
  unfold wp_L_lacks
  refine ⟨h.1.1, ?_⟩
  rcases ix_or a (n := n) (by omega) with ⟨i, hi, rfl⟩ | hv
  · by_cases hb : b < 0 ∨ 7 < b
    · refine c8_lacks1b h n24 hi hb ?_
      refine ⟨fun _ => ?_, fun e => absurd e (by decide), Or.inl rfl⟩
      exact ⟨m_ok hB, x9_lacks1b hB gn n24 hi hb (er1 hB h hW hK (by decide))⟩
    · obtain ⟨c, hc, rfl⟩ := isIx_of (M := 7) (N := 8) rfl (by decide) hb
      by_cases hw : F 17 (8 * i + c) = -1
      · refine c8_lacks2 h n24 hi hc hw ?_
        refine ⟨fun e => absurd e (by decide), fun _ => ?_, Or.inr rfl⟩
        exact ⟨m_ok hB, x9_lacks2 hB gn n24 hi hc hw (er2 hB h hW hK (by decide))⟩
      · refine c8_lacks0 h n24 hi hc hw (fw_co hW hi) (fw_ed hW hi c hc hw) ?_
        exact ⟨m_ok hB, x9_lacks0 hB gn n24 hi hc hw (fw_co hW hi) (ok1 hB h hW hK)⟩
  · refine c8_lacks1a h hv ?_
    refine ⟨fun _ => ?_, fun e => absurd e (by decide), Or.inl rfl⟩
    exact ⟨m_ok hB, x9_lacks1a hB gn n24 hv (er1 hB h hW hK (by decide))⟩
end KCASE2
