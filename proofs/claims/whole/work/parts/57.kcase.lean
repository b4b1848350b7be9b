/-! THE CALLS OF THE LAW: one row each, class and reference side by side -/
section KCASE
variable {S1 S2 : Hp} {x m : Nat} {K : Hp → Hp → (Nat → Int64) → Prop} {f : Nat → Int64}
/-- class and reference hold the same movement -/
def RR (x m : Nat) (S1 S2 : Hp) : Prop := ∃ (B : Hp) (ad tg : Nat → Nat) (D : Nat → Int32) (F : Nat → Nat → Int32) (A : Nat → Nat → Nat) (n nT nL nE d : Nat), BM B m ad tg ∧ S2 = mS B m tg D F ∧ CS S1 x A n nT nL nE D F ∧ FW n nT nL nE d D F
theorem rr_mk {B S' : Hp} {ad tg : Nat → Nat} {D' D1 : Nat → Int32} {F' : Nat → Nat → Int32} {A' : Nat → Nat → Nat} {n nT nL nE d : Nat} (hB : BM B m ad tg) (h : CS S' x A' n nT nL nE D1 F') (hW : FW n nT nL nE d D' F') (e0 : D' 0 = D1 0) (e10 : D' 10 = D1 10) : RR x m S' (mS B m tg D' F') := ⟨B, ad, tg, D', F', A', n, nT, nL, nE, d, hB, rfl, cs_D h e0 e10, hW⟩
/-- what the law does behind a call's two answers -/
def eT (K : Hp → Hp → (Nat → Int64) → Prop) (m : Nat) (r5 : Int32) (S6 : Hp) (f7 : Nat → Int64) (r10 : Int32) (S9 : Hp) : Prop := okA S9 9 m ∧ wp_X9_thrown S9 m (fun r14 S13 => if r14 = r5 then (if r5 = 0 then (if (lg_cmp (f7 (0 : Int32).toNatClampNeg) r10.toInt64) = 0 then K S6 S13 f7 else False) else K S6 S13 f7) else False)
def eV (K : Hp → Hp → (Nat → Int64) → Prop) (m : Nat) (r5 : Int32) (S6 : Hp) (f7 : Nat → Int64) (S9 : Hp) : Prop := okA S9 9 m ∧ wp_X9_thrown S9 m (fun r14 S13 => if r14 = r5 then K S6 S13 f7 else False)
def eB (K : Hp → Hp → (Nat → Int64) → Prop) (m : Nat) (r5 : Int32) (S6 : Hp) (f7 : Nat → Int64) (r10 : Int32) (S9 : Hp) : Prop := okA S9 9 m ∧ wp_X9_thrown S9 m (fun r14 S13 => if r14 = r5 then (if r5 = 0 then (if r10 = 0 then (if (lg_cmp (f7 (0 : Int32).toNatClampNeg) (0 : Int64)) = 0 then K S6 S13 f7 else False) else (if (lg_cmp (f7 (0 : Int32).toNatClampNeg) (1 : Int64)) = 0 then K S6 S13 f7 else False)) else K S6 S13 f7) else False)
section
variable {B : Hp} {ad tg : Nat → Nat} {D : Nat → Int32} {F : Nat → Nat → Int32} {S6 : Hp} {f7 : Nat → Int64} {v k : Int32}
theorem eT_k (hB : BM B m ad tg) (hr : D 31 = k) (hk : ¬ k = 0) (hK : K S6 (mS B m tg D F) f7) : eT K m k S6 f7 v (mS B m tg D F) := ⟨m_ok hB, x9_thrown hB (by rw [hr, if_pos rfl, if_neg hk]; exact hK)⟩
theorem upL_0 {w : Int64} : vp_updL f (0 : Int32).toNatClampNeg w (0 : Int32).toNatClampNeg = w := if_pos rfl
theorem eT_0 (hB : BM B m ad tg) (hr : D 31 = 0) (hK : K S6 (mS B m tg D F) (vp_updL f (0 : Int32).toNatClampNeg v.toInt64)) : eT K m 0 S6 (vp_updL f (0 : Int32).toNatClampNeg v.toInt64) v (mS B m tg D F) := ⟨m_ok hB, x9_thrown hB (by rw [hr, if_pos rfl, if_pos rfl, upL_0, if_pos ((lg_cmp_eq _ _).mpr rfl)]; exact hK)⟩
theorem eV_k (hB : BM B m ad tg) (hr : D 31 = k) (hK : K S6 (mS B m tg D F) f7) : eV K m k S6 f7 (mS B m tg D F) := ⟨m_ok hB, x9_thrown hB (by rw [hr, if_pos rfl]; exact hK)⟩
theorem eB_k (hB : BM B m ad tg) (hr : D 31 = k) (hk : ¬ k = 0) (hK : K S6 (mS B m tg D F) f7) : eB K m k S6 f7 v (mS B m tg D F) := ⟨m_ok hB, x9_thrown hB (by rw [hr, if_pos rfl, if_neg hk]; exact hK)⟩
theorem eB_0 (hB : BM B m ad tg) (hr : D 31 = 0) (hK : ∀ g, K S6 (mS B m tg D F) g) : eB K m 0 S6 (vp_updL f (0 : Int32).toNatClampNeg 0) (bI false) (mS B m tg D F) := ⟨m_ok hB, x9_thrown hB (by rw [hr, if_pos rfl, if_pos rfl, if_pos (show bI false = 0 from rfl), upL_0, if_pos ((lg_cmp_eq _ _).mpr rfl)]; exact hK _)⟩
theorem eB_1 (hB : BM B m ad tg) (hr : D 31 = 0) (hK : ∀ g, K S6 (mS B m tg D F) g) : eB K m 0 S6 (vp_updL f (0 : Int32).toNatClampNeg 1) (bI true) (mS B m tg D F) := ⟨m_ok hB, x9_thrown hB (by rw [hr, if_pos rfl, if_pos rfl, if_neg (show ¬ bI true = 0 by decide), upL_0, if_pos ((lg_cmp_eq _ _).mpr rfl)]; exact hK _)⟩
variable {A : Nat → Nat → Nat} {n nT nL nE d : Nat}
theorem rr_1 (hB : BM B m ad tg) (h : CS S1 x A n nT nL nE D F) (hW : FW n nT nL nE d D F) : RR x m S1 (mS B m tg (upD D 31 k) F) := rr_mk hB h (fw_31 hW) rfl rfl
theorem rr_2 (hB : BM B m ad tg) (h : CS S1 x A n nT nL nE D F) (hW : FW n nT nL nE d D F) : RR x m S1 (mS B m tg (upD (upD D 31 0) 31 k) F) := rr_mk hB h (fw_31 (fw_31 hW)) rfl rfl
theorem er1 (hB : BM B m ad tg) (h : CS S1 x A n nT nL nE D F) (hW : FW n nT nL nE d D F) (hK : ∀ S' S2' f7, RR x m S' S2' → K S' S2' f7) (hk : ¬ k = 0) : eT K m k S1 f v (mS B m tg (upD D 31 k) F) := eT_k hB rfl hk (hK _ _ _ (rr_1 hB h hW))
theorem er2 (hB : BM B m ad tg) (h : CS S1 x A n nT nL nE D F) (hW : FW n nT nL nE d D F) (hK : ∀ S' S2' f7, RR x m S' S2' → K S' S2' f7) (hk : ¬ k = 0) : eT K m k S1 f v (mS B m tg (upD (upD D 31 0) 31 k) F) := eT_k hB rfl hk (hK _ _ _ (rr_2 hB h hW))
theorem ok1 (hB : BM B m ad tg) (h : CS S1 x A n nT nL nE D F) (hW : FW n nT nL nE d D F) (hK : ∀ S' S2' f7, RR x m S' S2' → K S' S2' f7) : eT K m 0 S1 (vp_updL f (0 : Int32).toNatClampNeg v.toInt64) v (mS B m tg (upD D 31 0) F) := eT_0 hB rfl (hK _ _ _ (rr_1 hB h hW))
end
theorem k_troop {a b c : Int32} (hR : RR x m S1 S2) (hK : ∀ S' S2' f7, RR x m S' S2' → K S' S2' f7) : wp_L_troop S1 x a b c f (fun r5 S6 f7 => okA S2 9 m ∧ wp_X9_troop S2 m a b c (eT K m r5 S6 f7)) := by
  obtain ⟨B, ad, tg, D, F, A, n, nT, nL, nE, d, hB, rfl, h, hW⟩ := hR
  have hW2 := hW
  obtain ⟨⟨⟨⟨n24, t6, l8, e20, d4⟩, gT, gn, gL, gE, gd⟩, hPL, hRM, hWM, hWP, hWC, hWE, hWL, hWV, hSN, h0', h1', h2'⟩, hWS, hWT⟩ := hW2
  unfold wp_L_troop
  refine ⟨h.1.1, ?_⟩
  by_cases hv : a < 5 ∨ 20 < a ∨ b < a ∨ 20 < b ∨ c < 1 ∨ 12 < c
  · refine c8_troop1 hv ?_
    refine ⟨fun _ => ?_, fun e => absurd e (by decide), Or.inl rfl⟩
    exact ⟨m_ok hB, x9_troop0 hB hv (er1 hB h hW hK (by decide))⟩
  · by_cases h6 : nT = 6
    · refine c8_troop2 h hv h6 ?_
      refine ⟨fun e => absurd e (by decide), fun _ => ?_, Or.inr rfl⟩
      exact ⟨m_ok hB, x9_troop2 hB hv (by rw [gT, h6]; rfl) (er2 hB h hW hK (by decide))⟩
    · refine c8_troop0 h hv (by omega) (fun S' A' h' => ?_)
      have hc : ¬ (c < 1 ∨ 12 < c) := fun w => hv (Or.inr (Or.inr (Or.inr (Or.inr w))))
      exact ⟨m_ok hB, x9_troop3 hB hv gT (by omega) (eT_0 hB rfl (hK _ _ _ (rr_mk hB h' (fw_troop (D := D) hW (by omega) hc rfl rfl rfl rfl rfl) rfl rfl)))⟩
theorem k_child {a : Int32} (hR : RR x m S1 S2) (hK : ∀ S' S2' f7, RR x m S' S2' → K S' S2' f7) : wp_L_child S1 x a f (fun r5 S6 f7 => okA S2 9 m ∧ wp_X9_child S2 m a (eT K m r5 S6 f7)) := by
  obtain ⟨B, ad, tg, D, F, A, n, nT, nL, nE, d, hB, rfl, h, hW⟩ := hR
  have hW2 := hW
  obtain ⟨⟨⟨⟨n24, t6, l8, e20, d4⟩, gT, gn, gL, gE, gd⟩, hPL, hRM, hWM, hWP, hWC, hWE, hWL, hWV, hSN, h0', h1', h2'⟩, hWS, hWT⟩ := hW2
  unfold wp_L_child
  refine ⟨h.1.1, ?_⟩
  by_cases hv : a < 5 ∨ 17 < a
  · refine c8_child1 hv ?_
    refine ⟨fun _ => ?_, fun e => absurd e (by decide), Or.inl rfl⟩
    exact ⟨m_ok hB, x9_child1 hB hv (er1 hB h hW hK (by decide))⟩
  · by_cases h6 : n = 24
    · refine c8_child2 h hv h6 ?_
      refine ⟨fun e => absurd e (by decide), fun _ => ?_, Or.inr rfl⟩
      exact ⟨m_ok hB, x9_child2 hB hv (by rw [gn, h6]; rfl) (er2 hB h hW hK (by decide))⟩
    · obtain ⟨z12, z14, z16, z17⟩ := h0' n (Nat.le_refl _) (by omega)
      refine c8_child0 h hv (by omega) z12 z14 z16 (fun b hb => (z17 b hb).1) (fun S' A' h' => ?_)
      exact ⟨m_ok hB, x9_child0 hB hv gn (by omega) (eT_0 hB rfl (hK _ _ _ (rr_mk hB h' (fw_child (D := D) hW (by omega) rfl rfl rfl rfl rfl) rfl rfl)))⟩
theorem k_join {a b : Int32} (hR : RR x m S1 S2) (hK : ∀ S' S2' f7, RR x m S' S2' → K S' S2' f7) : wp_L_join S1 x a b f (fun r5 S6 f7 => okA S2 9 m ∧ wp_X9_join S2 m a b (eT K m r5 S6 f7)) := by
  obtain ⟨B, ad, tg, D, F, A, n, nT, nL, nE, d, hB, rfl, h, hW⟩ := hR
  have hW2 := hW
  obtain ⟨⟨⟨⟨n24, t6, l8, e20, d4⟩, gT, gn, gL, gE, gd⟩, hPL, hRM, hWM, hWP, hWC, hWE, hWL, hWV, hSN, h0', h1', h2'⟩, hWS, hWT⟩ := hW2
  unfold wp_L_join
  refine ⟨h.1.1, ?_⟩
  rcases ix_or a (n := n) (by omega) with ⟨i, hi, rfl⟩ | hv
  · rcases ix_or b (n := nT) (by omega) with ⟨j, hj, rfl⟩ | hv
    · by_cases hg : F 7 i = -1 ∧ F 8 i = -1 ∧ fo F j i
      · obtain ⟨g7, g8, g9⟩ := hg
        have hD : CS S1 x A n nT nL nE (upD D 31 0) F := cs_D h rfl rfl
        refine c8_joinT hD n24 hi t6 hj g7 g8 g9 (c8_comeOrWait hD n24 hi hj (fun c S' h' => ?_) (fun c S' h' => ?_))
        · exact ⟨m_ok hB, x9_joinT hB gn n24 hi gT t6 hj g7 g8 g9 (x9_joins0 (D := upD D 31 0) hB gn n24 hi (by omega) c (eT_0 hB rfl (hK _ _ _ (rr_mk hB h' (fw_31 (fw_cIn hW hj)) rfl rfl))))⟩
        · exact ⟨m_ok hB, x9_joinT hB gn n24 hi gT t6 hj g7 g8 g9 (x9_joins1 (D := upD D 31 0) hB gn n24 hi (by omega) c (eT_0 hB rfl (hK _ _ _ (rr_mk hB h' (fw_D (D := D) (fw_joW hW hi hj g7) rfl rfl rfl rfl rfl) rfl rfl))))⟩
      · refine c8_join2 h n24 hi t6 hj hg ?_
        refine ⟨fun e => absurd e (by decide), fun _ => ?_, Or.inr rfl⟩
        exact ⟨m_ok hB, x9_join2 hB gn n24 hi gT t6 hj hg (er2 hB h hW hK (by decide))⟩
    · refine c8_join1b h n24 hi hv ?_
      refine ⟨fun _ => ?_, fun e => absurd e (by decide), Or.inl rfl⟩
      exact ⟨m_ok hB, x9_join1b hB gn n24 hi gT t6 hv (er1 hB h hW hK (by decide))⟩
  · refine c8_join1a h hv ?_
    refine ⟨fun _ => ?_, fun e => absurd e (by decide), Or.inl rfl⟩
    exact ⟨m_ok hB, x9_join1a hB gn n24 hv (er1 hB h hW hK (by decide))⟩
theorem k_leave {a : Int32} (hR : RR x m S1 S2) (hK : ∀ S' S2' f7, RR x m S' S2' → K S' S2' f7) : wp_L_leave S1 x a f (fun r5 S6 f7 => okA S2 9 m ∧ wp_X9_leave S2 m a (eT K m r5 S6 f7)) := by
  obtain ⟨B, ad, tg, D, F, A, n, nT, nL, nE, d, hB, rfl, h, hW⟩ := hR
  have hW2 := hW
  obtain ⟨⟨⟨⟨n24, t6, l8, e20, d4⟩, gT, gn, gL, gE, gd⟩, hPL, hRM, hWM, hWP, hWC, hWE, hWL, hWV, hSN, h0', h1', h2'⟩, hWS, hWT⟩ := hW2
  unfold wp_L_leave
  refine ⟨h.1.1, ?_⟩
  rcases ix_or a (n := n) (by omega) with ⟨i, hi, rfl⟩ | hv
  · by_cases g7 : F 7 i = -1
    · by_cases g8 : F 8 i = -1
      · refine c8_leave2 h n24 hi g7 g8 ?_
        refine ⟨fun e => absurd e (by decide), fun _ => ?_, Or.inr rfl⟩
        exact ⟨m_ok hB, x9_leave2 hB gn n24 hi g7 g8 (er2 hB h hW hK (by decide))⟩
      · refine c8_leave3 h n24 hi g7 g8 (fun S' h' => ?_)
        exact ⟨m_ok hB, x9_leave3 hB gn n24 hi g7 g8 (eT_0 hB rfl (hK _ _ _ (rr_mk hB h' (fw_31 (fw_wOut hW)) rfl rfl)))⟩
    · obtain ⟨t, ht, et⟩ := (hPL i hi).1.resolve_left g7
      refine c8_leave4 h n24 hi g7 (fun hf S' h' => ?_) (fun c hf S' h' => ?_)
      · exact ⟨m_ok hB, x9_leave4 hB gn n24 hi g7 hf (eT_0 hB rfl (hK _ _ _ (rr_mk hB h' (fw_31 (fw_wOut hW)) rfl rfl)))⟩
      · have hw := fw_cIn (f := c) (fw_wOut (i := i) hW) ht
        rw [← et] at hw
        exact ⟨m_ok hB, x9_leave5 hB gn n24 hi g7 hf (eT_0 hB rfl (hK _ _ _ (rr_mk hB h' (fw_31 hw) rfl rfl)))⟩
  · refine c8_leave1 h hv ?_
    refine ⟨fun _ => ?_, fun e => absurd e (by decide), Or.inl rfl⟩
    exact ⟨m_ok hB, x9_leave1 hB gn n24 hv (er1 hB h hW hK (by decide))⟩
theorem k_patrol {a b : Int32} (hR : RR x m S1 S2) (hK : ∀ S' S2' f7, RR x m S' S2' → K S' S2' f7) : wp_L_patrol S1 x a b f (fun r5 S6 f7 => okA S2 9 m ∧ wp_X9_patrol S2 m a b (eT K m r5 S6 f7)) := by
  obtain ⟨B, ad, tg, D, F, A, n, nT, nL, nE, d, hB, rfl, h, hW⟩ := hR
  have hW2 := hW
  obtain ⟨⟨⟨⟨n24, t6, l8, e20, d4⟩, gT, gn, gL, gE, gd⟩, hPL, hRM, hWM, hWP, hWC, hWE, hWL, hWV, hSN, h0', h1', h2'⟩, hWS, hWT⟩ := hW2
  unfold wp_L_patrol
  refine ⟨h.1.1, ?_⟩
  rcases ix_or a (n := n) (by omega) with ⟨i, hi, rfl⟩ | hv
  · by_cases hb : b < 0 ∨ 3 < b
    · refine c8_patrol2 h n24 hi hb ?_
      refine ⟨fun e => absurd e (by decide), fun _ => ?_, fun e => absurd e (by decide), Or.inr (Or.inl rfl)⟩
      exact ⟨m_ok hB, x9_patrol2 hB gn n24 hi hb (er2 hB h hW hK (by decide))⟩
    · by_cases g7 : F 7 i = -1
      · refine c8_patrol3 h n24 hi hb g7 ?_
        refine ⟨fun e => absurd e (by decide), fun e => absurd e (by decide), fun _ => ?_, Or.inr (Or.inr rfl)⟩
        exact ⟨m_ok hB, x9_patrol3 hB gn n24 hi hb g7 (er2 hB h hW hK (by decide))⟩
      · refine c8_patrol0 h n24 hi hb g7 (fun S' h' => ?_)
        exact ⟨m_ok hB, x9_patrol0 hB gn n24 hi hb g7 (eT_0 hB rfl (hK _ _ _ (rr_mk hB h' (fw_31 (fw_patrol hW hi g7)) rfl rfl)))⟩
  · refine c8_patrol1 h hv ?_
    refine ⟨fun _ => ?_, fun e => absurd e (by decide), fun e => absurd e (by decide), Or.inl rfl⟩
    exact ⟨m_ok hB, x9_patrol1 hB gn n24 hv (er1 hB h hW hK (by decide))⟩
theorem k_duty {a b : Int32} (hR : RR x m S1 S2) (hK : ∀ S' S2' f7, RR x m S' S2' → K S' S2' f7) : wp_L_duty S1 x a b f (fun r5 S6 f7 => okA S2 9 m ∧ wp_X9_duty S2 m a b (eT K m r5 S6 f7)) := by
  obtain ⟨B, ad, tg, D, F, A, n, nT, nL, nE, d, hB, rfl, h, hW⟩ := hR
  have hW2 := hW
  obtain ⟨⟨⟨⟨n24, t6, l8, e20, d4⟩, gT, gn, gL, gE, gd⟩, hPL, hRM, hWM, hWP, hWC, hWE, hWL, hWV, hSN, h0', h1', h2'⟩, hWS, hWT⟩ := hW2
  unfold wp_L_duty
  refine ⟨h.1.1, ?_⟩
  rcases ix_or a (n := nT) (by omega) with ⟨j, hj, rfl⟩ | hv
  · by_cases hb : b < 0 ∨ 9999 < b
    · refine c8_duty2 h t6 hj hb ?_
      refine ⟨fun e => absurd e (by decide), fun _ => ?_, Or.inr rfl⟩
      exact ⟨m_ok hB, x9_duty2 hB gT t6 hj hb (er2 hB h hW hK (by decide))⟩
    · obtain ⟨dd, hd, rfl⟩ := day_nat hb
      refine c8_duty0 h n24 t6 hj hd ?_
      exact ⟨m_ok hB, x9_duty0 hB gn n24 gT t6 hj hd (ok1 hB h hW hK)⟩
  · refine c8_duty1 h hv ?_
    refine ⟨fun _ => ?_, fun e => absurd e (by decide), Or.inl rfl⟩
    exact ⟨m_ok hB, x9_duty1 hB gT t6 hv (er1 hB h hW hK (by decide))⟩
theorem k_pass {a : Int32} (hR : RR x m S1 S2) (hK : ∀ S' S2' f7, RR x m S' S2' → K S' S2' f7) : wp_L_pass S1 x a f (fun r5 S6 f7 => okA S2 9 m ∧ wp_X9_pass S2 m a (eT K m r5 S6 f7)) := by
  obtain ⟨B, ad, tg, D, F, A, n, nT, nL, nE, d, hB, rfl, h, hW⟩ := hR
  have hW2 := hW
  obtain ⟨⟨⟨⟨n24, t6, l8, e20, d4⟩, gT, gn, gL, gE, gd⟩, hPL, hRM, hWM, hWP, hWC, hWE, hWL, hWV, hSN, h0', h1', h2'⟩, hWS, hWT⟩ := hW2
  unfold wp_L_pass
  refine ⟨h.1.1, ?_⟩
  by_cases hv : a < 1 ∨ 400 < a
  · refine c8_pass1 hv ?_
    refine ⟨fun _ => ?_, fun e => absurd e (by decide), Or.inl rfl⟩
    exact ⟨m_ok hB, x9_pass1 hB hv (er1 hB h hW hK (by decide))⟩
  · by_cases hd : D 0 + a ≤ 9999
    · refine c8_pass0 h hv hd (fun S' h' => ?_)
      have ha : isIx a 401 := isIx_of (M := 400) (N := 401) rfl (by decide) (fun w => hv (by
        rcases w with w | w
        · refine Or.inl ?_
          rw [i_lt] at w ⊢
          rw [show (0 : Int32).toInt = 0 from rfl] at w
          rw [show (1 : Int32).toInt = 1 from rfl]
          omega
        · exact Or.inr w))
      obtain ⟨k, hk, rfl⟩ := ha
      have hdk : d + k < 10000 := by
        rw [gd, nI_add, i_le, nI_toInt (by omega), show (9999 : Int32).toInt = 9999 from rfl] at hd
        omega
      exact ⟨m_ok hB, x9_pass0 hB hv hd (eT_0 hB rfl (hK _ _ _ (rr_mk hB h' (fw_pass (D := D) (a := k) hW rfl hdk rfl rfl rfl rfl (by show D 0 + nI k = _; rw [gd, nI_add])) rfl rfl)))⟩
    · refine c8_pass2 h hv hd ?_
      refine ⟨fun e => absurd e (by decide), fun _ => ?_, Or.inr rfl⟩
      exact ⟨m_ok hB, x9_pass2 hB hv hd (er2 hB h hW hK (by decide))⟩
theorem k_season (hR : RR x m S1 S2) (hK : ∀ S' S2', RR x m S' S2' → K S' S2' f) : okA S1 8 x ∧ wp_X8_season S1 x (fun r S6 => okA S2 9 m ∧ wp_X9_season S2 m (fun r2 S13 => if r = r2 then K S6 S13 f else False)) := by
  obtain ⟨B, ad, tg, D, F, A, n, nT, nL, nE, d, hB, rfl, h, hW⟩ := hR
  have hW2 := hW
  obtain ⟨⟨⟨⟨n24, t6, l8, e20, d4⟩, gT, gn, gL, gE, gd⟩, hPL, hRM, hWM, hWP, hWC, hWE, hWL, hWV, hSN, h0', h1', h2'⟩, hWS, hWT⟩ := hW2
  have hD : CS S1 x A n nT nL nE (upD D 31 0) F := cs_D h rfl rfl
  refine ⟨h.1.1, c8_season hD n24 t6 hPL hRM (fun S' h' => ⟨m_ok hB, x9_season hB gn n24 gT t6 hPL hRM ?_⟩)⟩
  rw [if_pos rfl]
  exact hK _ _ (rr_mk hB h' (fw_season (fw_31 hW)) rfl rfl)
theorem k_leader (hR : RR x m S1 S2) (hK : ∀ S' S2' f7, RR x m S' S2' → K S' S2' f7) : wp_L_leader S1 x f (fun r5 S6 f7 => okA S2 9 m ∧ wp_X9_leader S2 m (eT K m r5 S6 f7)) := by
  obtain ⟨B, ad, tg, D, F, A, n, nT, nL, nE, d, hB, rfl, h, hW⟩ := hR
  have hW2 := hW
  obtain ⟨⟨⟨⟨n24, t6, l8, e20, d4⟩, gT, gn, gL, gE, gd⟩, hPL, hRM, hWM, hWP, hWC, hWE, hWL, hWV, hSN, h0', h1', h2'⟩, hWS, hWT⟩ := hW2
  unfold wp_L_leader
  refine ⟨h.1.1, ?_⟩
  by_cases h8 : nL = 8
  · refine c8_leader1 h h8 ?_
    refine ⟨fun _ => ?_, rfl⟩
    exact ⟨m_ok hB, x9_leader1 hB (by rw [gL, h8]; rfl) (er1 hB h hW hK (by decide))⟩
  · obtain ⟨z20, z22⟩ := h1' nL (Nat.le_refl _) (by omega)
    refine c8_leader0 h n24 (by omega) z22 z20 (fun S' A' h' => ?_)
    exact ⟨m_ok hB, x9_leader0 hB gL (by omega) (eT_0 hB rfl (hK _ _ _ (rr_mk hB h' (fw_leader (D := D) hW (by omega) rfl rfl rfl rfl rfl) rfl rfl)))⟩
theorem k_vet {a b c e : Int32} (hR : RR x m S1 S2) (hK : ∀ S' S2' f7, RR x m S' S2' → K S' S2' f7) : wp_L_vet S1 x a b c e f (fun r5 S6 f7 => okA S2 9 m ∧ wp_X9_vet S2 m a b c e (eV K m r5 S6 f7)) := by
  obtain ⟨B, ad, tg, D, F, A, n, nT, nL, nE, d, hB, rfl, h, hW⟩ := hR
  have hW2 := hW
  obtain ⟨⟨⟨⟨n24, t6, l8, e20, d4⟩, gT, gn, gL, gE, gd⟩, hPL, hRM, hWM, hWP, hWC, hWE, hWL, hWV, hSN, h0', h1', h2'⟩, hWS, hWT⟩ := hW2
  unfold wp_L_vet
  refine ⟨h.1.1, ?_⟩
  rcases ix_or a (n := nL) (by omega) with ⟨l, hl, rfl⟩ | hv
  · by_cases hb : b < 0 ∨ 2 < b
    · refine c8_vet1b h l8 hl hb ?_
      refine ⟨fun _ => ?_, fun e => absurd e (by decide), Or.inl rfl⟩
      exact ⟨m_ok hB, x9_vet1b hB gL l8 hl hb (eV_k hB rfl (hK _ _ _ (rr_1 hB h hW)))⟩
    · obtain ⟨k, hk, rfl⟩ := isIx_of (M := 2) (N := 3) rfl (by decide) hb
      by_cases hw : (c < 0 ∨ 9999 < c) ∨ (e < c ∨ 9999 < e)
      · refine c8_vet2 h l8 hl hk hw ?_
        refine ⟨fun e => absurd e (by decide), fun _ => ?_, Or.inr rfl⟩
        exact ⟨m_ok hB, x9_vet2 hB gL l8 hl hb hw (eV_k hB rfl (hK _ _ _ (rr_2 hB h hW)))⟩
      · have w1 : ¬ (c < 0 ∨ 9999 < c) := fun w => hw (Or.inl w)
        have w2 : ¬ (e < c ∨ 9999 < e) := fun w => hw (Or.inr w)
        refine c8_vet0 h n24 l8 hl hk w1 w2 (fun S' h' => ?_)
        exact ⟨m_ok hB, x9_vet0 hB gL l8 hl hk w1 w2 (eV_k hB rfl (hK _ _ _ (rr_mk hB h' (fw_31 (fw_vet hW hl hk)) rfl rfl)))⟩
  · refine c8_vet1a h hv ?_
    refine ⟨fun _ => ?_, fun e => absurd e (by decide), Or.inl rfl⟩
    exact ⟨m_ok hB, x9_vet1a hB gL l8 hv (eV_k hB rfl (hK _ _ _ (rr_1 hB h hW)))⟩
theorem k_permit {a b c : Int32} (hR : RR x m S1 S2) (hK : ∀ S' S2' f7, RR x m S' S2' → K S' S2' f7) : wp_L_permit S1 x a b c f (fun r5 S6 f7 => okA S2 9 m ∧ wp_X9_permit S2 m a b c (eT K m r5 S6 f7)) := by
  obtain ⟨B, ad, tg, D, F, A, n, nT, nL, nE, d, hB, rfl, h, hW⟩ := hR
  have hW2 := hW
  obtain ⟨⟨⟨⟨n24, t6, l8, e20, d4⟩, gT, gn, gL, gE, gd⟩, hPL, hRM, hWM, hWP, hWC, hWE, hWL, hWV, hSN, h0', h1', h2'⟩, hWS, hWT⟩ := hW2
  unfold wp_L_permit
  refine ⟨h.1.1, ?_⟩
  rcases ix_or a (n := nL) (by omega) with ⟨l, hl, rfl⟩ | hv
  · by_cases hw : (b < 1 ∨ 3 < b) ∨ (c < -1 ∨ 9999 < c)
    · refine c8_permit2 h l8 hl hw ?_
      refine ⟨fun e => absurd e (by decide), fun _ => ?_, Or.inr rfl⟩
      exact ⟨m_ok hB, x9_permit2 hB gL l8 hl hw (er2 hB h hW hK (by decide))⟩
    · have w1 : ¬ (b < 1 ∨ 3 < b) := fun w => hw (Or.inl w)
      have w2 : ¬ (c < -1 ∨ 9999 < c) := fun w => hw (Or.inr w)
      have hb : isIx b 4 := isIx_of (M := 3) (N := 4) rfl (by decide) (fun w => w1 (by
        rcases w with w | w
        · refine Or.inl ?_
          rw [i_lt] at w ⊢
          rw [show (0 : Int32).toInt = 0 from rfl] at w
          rw [show (1 : Int32).toInt = 1 from rfl]
          omega
        · exact Or.inr w))
      obtain ⟨k, hk, rfl⟩ := hb
      have hk0 : k ≠ 0 := fun z => w1 (Or.inl (by rw [z]; decide))
      obtain ⟨k', rfl⟩ : ∃ k', k = k' + 1 := ⟨k - 1, by omega⟩
      refine c8_permit0 h n24 l8 hl (by omega) w2 (fun S' h' => ?_)
      exact ⟨m_ok hB, x9_permit0 hB gL l8 hl (by omega) w2 (eT_0 hB rfl (hK _ _ _ (rr_mk hB h' (fw_31 (fw_permit hW hl (by omega))) rfl rfl)))⟩
  · refine c8_permit1 h hv ?_
    refine ⟨fun _ => ?_, fun e => absurd e (by decide), Or.inl rfl⟩
    exact ⟨m_ok hB, x9_permit1 hB gL l8 hv (er1 hB h hW hK (by decide))⟩
theorem k_teach {a b : Int32} (hR : RR x m S1 S2) (hK : ∀ S' S2' f7, RR x m S' S2' → K S' S2' f7) : wp_L_teach S1 x a b f (fun r5 S6 f7 => okA S2 9 m ∧ wp_X9_teach S2 m a b (eT K m r5 S6 f7)) := by
  obtain ⟨B, ad, tg, D, F, A, n, nT, nL, nE, d, hB, rfl, h, hW⟩ := hR
  have hW2 := hW
  obtain ⟨⟨⟨⟨n24, t6, l8, e20, d4⟩, gT, gn, gL, gE, gd⟩, hPL, hRM, hWM, hWP, hWC, hWE, hWL, hWV, hSN, h0', h1', h2'⟩, hWS, hWT⟩ := hW2
  unfold wp_L_teach
  refine ⟨h.1.1, ?_⟩
  rcases ix_or a (n := nL) (by omega) with ⟨l, hl, rfl⟩ | hv
  · by_cases hw : b < 0 ∨ 65535 < b
    · refine c8_teach2 h l8 hl hw ?_
      refine ⟨fun e => absurd e (by decide), fun _ => ?_, Or.inr rfl⟩
      exact ⟨m_ok hB, x9_teach2 hB gL l8 hl hw (er2 hB h hW hK (by decide))⟩
    · refine c8_teach0 h l8 hl hw (fun S' h' => ?_)
      exact ⟨m_ok hB, x9_teach0 hB gL l8 hl hw (eT_0 hB rfl (hK _ _ _ (rr_mk hB h' (fw_31 (fw_teach hW hl (isIx_of (M := 65535) (N := 65536) rfl (by decide) hw))) rfl rfl)))⟩
  · refine c8_teach1 h hv ?_
    refine ⟨fun _ => ?_, fun e => absurd e (by decide), Or.inl rfl⟩
    exact ⟨m_ok hB, x9_teach1 hB gL l8 hv (er1 hB h hW hK (by decide))⟩
theorem k_edition {a1 a2 a3 a4 a5 a6 a7 : Int32} (hR : RR x m S1 S2) (hK : ∀ S' S2' f7, RR x m S' S2' → K S' S2' f7) : wp_L_edition S1 x a1 a2 a3 a4 a5 a6 a7 f (fun r5 S6 f7 => okA S2 9 m ∧ wp_X9_edition S2 m a1 a2 a3 a4 a5 a6 a7 (eT K m r5 S6 f7)) := by
  obtain ⟨B, ad, tg, D, F, A, n, nT, nL, nE, d, hB, rfl, h, hW⟩ := hR
  have hW2 := hW
  obtain ⟨⟨⟨⟨n24, t6, l8, e20, d4⟩, gT, gn, gL, gE, gd⟩, hPL, hRM, hWM, hWP, hWC, hWE, hWL, hWV, hSN, h0', h1', h2'⟩, hWS, hWT⟩ := hW2
  unfold wp_L_edition
  refine ⟨h.1.1, ?_⟩
  by_cases hv : a1 < 0 ∨ 7 < a1
  · refine c8_edition1 h hv ?_
    refine ⟨fun _ => ?_, fun e => absurd e (by decide), fun e => absurd e (by decide), Or.inl rfl⟩
    exact ⟨m_ok hB, x9_edition1 hB hv (er1 hB h hW hK (by decide))⟩
  · obtain ⟨b, hb, rfl⟩ := isIx_of (M := 7) (N := 8) rfl (by decide) hv
    by_cases hw : edV (nI b) a2 a3 a4 a5 a6 a7
    · obtain ⟨e, he, ee⟩ := (hWE b hb).1
      by_cases h3 : e = 3
      · subst h3
        refine c8_editionT h hb hw (c8_edT1 h hb ee ?_)
        refine ⟨fun e => absurd e (by decide), fun e => absurd e (by decide), fun _ => ?_, Or.inr (Or.inr rfl)⟩
        exact ⟨m_ok hB, x9_edition3 hB hb hw ee (er2 hB h hW hK (by decide))⟩
      · refine c8_editionT h hb hw (c8_edT0 h hWC hWE hb ee (by omega) (fun S' A' h' => ?_))
        exact ⟨m_ok hB, x9_edition0 hB hb hw ee (by omega) (eT_0 hB rfl (hK _ _ _ (rr_mk hB h' (fw_31 (fw_edition hW hb ee (by omega) hw)) rfl rfl)))⟩
    · refine c8_edition2 h hb hw ?_
      refine ⟨fun e => absurd e (by decide), fun _ => ?_, fun e => absurd e (by decide), Or.inr (Or.inl rfl)⟩
      exact ⟨m_ok hB, x9_edition2 hB hv hw (er2 hB h hW hK (by decide))⟩
end KCASE
