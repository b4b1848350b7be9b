/-! THE REFERENCE: season -/
section MSEASON
variable {B : Hp} {m : Nat} {ad tg : Nat → Nat} {D : Nat → Int32} {F : Nat → Nat → Int32} {Q : Int32 → Hp → Prop} {S : Hp}
/-- of another age than troop t wants -/
def ofA (F : Nat → Nat → Int32) (t : Nat) (a : Int32) : Bool := decide (a < F 2 t) || decide (F 3 t < a)
theorem fo_ofA (F : Nat → Nat → Int32) (t c : Nat) : fo F t c ↔ ofA F t (F 6 c) = false := by
  simp [fo, ofA]
/-- leaves at the end of a season -/
def lfB (F : Nat → Nat → Int32) (i : Nat) : Bool := !decide (F 7 i = -1) && ofA F (F 7 i).toNatClampNeg (F 6 i + 1)
def wfB (F : Nat → Nat → Int32) (i : Nat) : Bool := !decide (F 8 i = -1) && ofA F (F 8 i).toNatClampNeg (F 6 i + 1)
/-- what a season does to one child -/
def stp (F : Nat → Nat → Int32) (k : Nat) : Nat → Nat → Int32 := fun j i => if i = k then (if j = 6 then F 6 k + 1 else if j = 7 then (if lfB F k then -1 else F 7 k) else if j = 11 then (if lfB F k then -1 else F 11 k) else if j = 8 then (if wfB F k then -1 else F 8 k) else if j = 15 then (if lfB F k then 1 else 0) else F j i) else F j i
def inR (x : Int32) (N : Nat) : Prop := x = -1 ∨ ∃ t, t < N ∧ x = nI t
theorem nar0 : vp_nar .boolean (0 : Int32) = 0 := by decide
theorem nar1 : vp_nar .boolean (1 : Int32) = 1 := by decide
theorem season_w (hB : BM B m ad tg) {k : Nat} {w : Int32} {f : Nat} (h24 : k < 24) (h8 : inR (F 8 k) 6) (K : Hp → Prop)
    (h : K (mS B m tg D ((if !decide (F 8 k = -1) && ofA F (F 8 k).toNatClampNeg (F 6 k) then g_2 F 8 k (-1) else F)))) :
    rd (mS B m tg D F) 11 (g_P (mS B m tg D F) 908 m) (fun a53 => vp_in (nI k) (g_N (mS B m tg D F) a53) ∧ (if (g_R (mS B m tg D F) a53 (nI k).toNatClampNeg) = (-1 : Int32) then K (mS B m tg D F) else (rd (mS B m tg D F) 11 (g_P (mS B m tg D F) 908 m) (fun a57 => vp_in (nI k) (g_N (mS B m tg D F) a57) ∧ (wp_X9_isFor (mS B m tg D F) m (g_R (mS B m tg D F) a57 (nI k).toNatClampNeg) (nI k) (fun r62 S61 => if r62 = 0 then (okA S61 9 m ∧ (rd S61 11 (g_P S61 908 m) (fun a64 => vp_in (nI k) (g_N S61 a64) ∧ (lt (s_R S61 a64 (nI k).toNatClampNeg (-1 : Int32)) (fun S68 => K S68))))) else K S61)))))) := by
  simp only [m_ok hB, m_rd2 hB, m_N2 hB, m_R2 hB, m_sR2 hB, m_rd3 hB, m_N3 hB, m_R3 hB, m_sR3 hB, m_rd4 hB, m_N4 hB, m_R4 hB, m_sR4 hB, m_rd6 hB, m_N6 hB, m_R6 hB, m_sR6 hB, m_rd7 hB, m_N7 hB, m_R7 hB, m_sR7 hB, m_rd8 hB, m_N8 hB, m_R8 hB, m_sR8 hB, m_rd9 hB, m_N9 hB, m_R9 hB, m_sR9 hB, m_rd11 hB, m_N11 hB, m_R11 hB, m_sR11 hB, m_rd12 hB, m_N12 hB, m_R12 hB, m_sR12 hB, m_rd13 hB, m_N13 hB, m_R13 hB, m_sR13 hB, m_rd14 hB, m_N14 hB, m_R14 hB, m_sR14 hB, m_rd15 hB, m_N15 hB, m_R15 hB, m_sR15 hB, m_rd16 hB, m_N16 hB, m_R16 hB, m_sR16 hB, m_rd17 hB, m_N17 hB, m_R17 hB, m_sR17 hB, m_rd18 hB, m_N18 hB, m_R18 hB, m_sR18 hB, m_rd20 hB, m_N20 hB, m_R20 hB, m_sR20 hB, m_rd21 hB, m_N21 hB, m_R21 hB, m_sR21 hB, m_rd22 hB, m_N22 hB, m_R22 hB, m_sR22 hB, m_rd23 hB, m_N23 hB, m_R23 hB, m_sR23 hB, m_rd24 hB, m_N24 hB, m_R24 hB, m_sR24 hB, m_rd25 hB, m_N25 hB, m_R25 hB, m_sR25 hB, m_rd27 hB, m_N27 hB, m_R27 hB, m_sR27 hB, m_rd28 hB, m_N28 hB, m_R28 hB, m_sR28 hB, m_rd29 hB, m_N29 hB, m_R29 hB, m_sR29 hB, m_rd30 hB, m_N30 hB, m_R30 hB, m_sR30 hB, m_I0, m_sI0, m_I1, m_sI1, m_I5, m_sI5, m_I10, m_sI10, m_I19, m_sI19, m_I26, m_sI26, m_I31, m_sI31, lt_v, bz0, bz1, true_and]
  refine ⟨vp_in_nI (by omega) (by omega), ?_⟩
  rw [nIc (by omega)]
  rcases h8 with e | ⟨t, ht, e⟩
  · rw [if_pos e]
    simpa [e] using h
  · have hne : ¬ F 8 k = -1 := by rw [e]; exact nI_m1 (by omega)
    rw [if_neg hne]
    refine ⟨vp_in_nI (by omega) (by omega), ?_⟩
    have e2 : (!decide (F 8 k = -1) && ofA F (F 8 k).toNatClampNeg (F 6 k)) = ofA F t (F 6 k) := by
      rw [e, nIc (by omega)]
      simp [nI_m1 (show t < 2 ^ 31 by omega)]
    rw [e2] at h
    rw [e]
    cases hq : ofA F t (F 6 k) with
    | true =>
      refine x9_isFor0 hB ht h24 (fun q => ?_) ?_
      · rw [fo_ofA, hq] at q
        exact absurd q (by decide)
      · rw [if_pos rfl]
        simp only [m_ok hB, m_rd2 hB, m_N2 hB, m_R2 hB, m_sR2 hB, m_rd3 hB, m_N3 hB, m_R3 hB, m_sR3 hB, m_rd4 hB, m_N4 hB, m_R4 hB, m_sR4 hB, m_rd6 hB, m_N6 hB, m_R6 hB, m_sR6 hB, m_rd7 hB, m_N7 hB, m_R7 hB, m_sR7 hB, m_rd8 hB, m_N8 hB, m_R8 hB, m_sR8 hB, m_rd9 hB, m_N9 hB, m_R9 hB, m_sR9 hB, m_rd11 hB, m_N11 hB, m_R11 hB, m_sR11 hB, m_rd12 hB, m_N12 hB, m_R12 hB, m_sR12 hB, m_rd13 hB, m_N13 hB, m_R13 hB, m_sR13 hB, m_rd14 hB, m_N14 hB, m_R14 hB, m_sR14 hB, m_rd15 hB, m_N15 hB, m_R15 hB, m_sR15 hB, m_rd16 hB, m_N16 hB, m_R16 hB, m_sR16 hB, m_rd17 hB, m_N17 hB, m_R17 hB, m_sR17 hB, m_rd18 hB, m_N18 hB, m_R18 hB, m_sR18 hB, m_rd20 hB, m_N20 hB, m_R20 hB, m_sR20 hB, m_rd21 hB, m_N21 hB, m_R21 hB, m_sR21 hB, m_rd22 hB, m_N22 hB, m_R22 hB, m_sR22 hB, m_rd23 hB, m_N23 hB, m_R23 hB, m_sR23 hB, m_rd24 hB, m_N24 hB, m_R24 hB, m_sR24 hB, m_rd25 hB, m_N25 hB, m_R25 hB, m_sR25 hB, m_rd27 hB, m_N27 hB, m_R27 hB, m_sR27 hB, m_rd28 hB, m_N28 hB, m_R28 hB, m_sR28 hB, m_rd29 hB, m_N29 hB, m_R29 hB, m_sR29 hB, m_rd30 hB, m_N30 hB, m_R30 hB, m_sR30 hB, m_I0, m_sI0, m_I1, m_sI1, m_I5, m_sI5, m_I10, m_sI10, m_I19, m_sI19, m_I26, m_sI26, m_I31, m_sI31, lt_v, bz0, bz1, true_and]
        refine ⟨vp_in_nI (by omega) (by omega), ?_⟩
        rw [hq] at h
        exact h
    | false =>
      refine x9_isFor1 hB ht h24 ((fo_ofA F t k).mpr hq) ?_
      rw [if_neg (by decide)]
      rw [hq] at h
      exact h
theorem stp_eq (F : Nat → Nat → Int32) (k : Nat) (b : Bool) (G : Nat → Nat → Int32) (hG : G = (if b then gOut (g_2 (g_2 F 6 k (F 6 k + 1)) 15 k 1) k else g_2 (g_2 F 6 k (F 6 k + 1)) 15 k 0)) (hb : lfB F k = b) : (if !decide (G 8 k = -1) && ofA G (G 8 k).toNatClampNeg (G 6 k) then g_2 G 8 k (-1) else G) = stp F k := by
  have e8 : G 8 k = F 8 k := by
    rw [hG]
    cases b <;> simp [gOut, g_2]
  have e6 : G 6 k = F 6 k + 1 := by
    rw [hG]
    cases b <;> simp [gOut, g_2]
  have e2 : G 2 = F 2 := by
    rw [hG]
    funext i
    cases b <;> simp [gOut, g_2]
  have e3 : G 3 = F 3 := by
    rw [hG]
    funext i
    cases b <;> simp [gOut, g_2]
  have ew : (!decide (G 8 k = -1) && ofA G (G 8 k).toNatClampNeg (G 6 k)) = wfB F k := by
    unfold wfB ofA
    rw [e8, e6, e2, e3]
  rw [ew]
  funext j i
  unfold stp
  rw [hb]
  by_cases hi : i = k
  · subst hi
    rw [if_pos rfl]
    by_cases h6 : j = 6
    · subst h6
      cases wfB F i <;> cases b <;> simp [hG, gOut, g_2]
    by_cases h7 : j = 7
    · subst h7
      cases wfB F i <;> cases b <;> simp [hG, gOut, g_2]
    by_cases h11 : j = 11
    · subst h11
      cases wfB F i <;> cases b <;> simp [hG, gOut, g_2]
    by_cases h8 : j = 8
    · subst h8
      cases wfB F i <;> cases b <;> simp [hG, gOut, g_2]
    by_cases h15 : j = 15
    · subst h15
      cases wfB F i <;> cases b <;> simp [hG, gOut, g_2]
    cases wfB F i <;> cases b <;> simp [hG, gOut, g_2, h6, h7, h8, h11, h15]
  · rw [if_neg hi]
    cases wfB F k <;> cases b <;> simp [hG, gOut, g_2, hi]
theorem x9_season_step (hB : BM B m ad tg) {n k f : Nat} {w : Int32} (hn : D 5 = nI n) (h24 : n ≤ 24) (hk : k < n) (h7 : inR (F 7 k) 6) (h8 : inR (F 8 k) 6) (h : wp_X9_season_L9 m Q f (mS B m tg D (stp F k)) (if lfB F k then w + 1 else w) (nI k + 1)) : wp_X9_season_L9 m Q (f + 1) (mS B m tg D F) w (nI k) := by
  unfold wp_X9_season_L9
  have hc : (nI k).toNatClampNeg = k := nIc (by omega)
  have vin : vp_in (nI k) 24 = True := eq_true (vp_in_nI (by omega) (by omega))
  simp only [m_ok hB, m_rd2 hB, m_N2 hB, m_R2 hB, m_sR2 hB, m_rd3 hB, m_N3 hB, m_R3 hB, m_sR3 hB, m_rd4 hB, m_N4 hB, m_R4 hB, m_sR4 hB, m_rd6 hB, m_N6 hB, m_R6 hB, m_sR6 hB, m_rd7 hB, m_N7 hB, m_R7 hB, m_sR7 hB, m_rd8 hB, m_N8 hB, m_R8 hB, m_sR8 hB, m_rd9 hB, m_N9 hB, m_R9 hB, m_sR9 hB, m_rd11 hB, m_N11 hB, m_R11 hB, m_sR11 hB, m_rd12 hB, m_N12 hB, m_R12 hB, m_sR12 hB, m_rd13 hB, m_N13 hB, m_R13 hB, m_sR13 hB, m_rd14 hB, m_N14 hB, m_R14 hB, m_sR14 hB, m_rd15 hB, m_N15 hB, m_R15 hB, m_sR15 hB, m_rd16 hB, m_N16 hB, m_R16 hB, m_sR16 hB, m_rd17 hB, m_N17 hB, m_R17 hB, m_sR17 hB, m_rd18 hB, m_N18 hB, m_R18 hB, m_sR18 hB, m_rd20 hB, m_N20 hB, m_R20 hB, m_sR20 hB, m_rd21 hB, m_N21 hB, m_R21 hB, m_sR21 hB, m_rd22 hB, m_N22 hB, m_R22 hB, m_sR22 hB, m_rd23 hB, m_N23 hB, m_R23 hB, m_sR23 hB, m_rd24 hB, m_N24 hB, m_R24 hB, m_sR24 hB, m_rd25 hB, m_N25 hB, m_R25 hB, m_sR25 hB, m_rd27 hB, m_N27 hB, m_R27 hB, m_sR27 hB, m_rd28 hB, m_N28 hB, m_R28 hB, m_sR28 hB, m_rd29 hB, m_N29 hB, m_R29 hB, m_sR29 hB, m_rd30 hB, m_N30 hB, m_R30 hB, m_sR30 hB, m_I0, m_sI0, m_I1, m_sI1, m_I5, m_sI5, m_I10, m_sI10, m_I19, m_sI19, m_I26, m_sI26, m_I31, m_sI31, lt_v, bz0, bz1, true_and, vin, hc]
  rw [hn, if_neg (nI_ge (by omega) (by omega))]
  rw [show g_2 F 6 k (F 6 k + 1) 7 k = F 7 k by simp [g_2]]
  have h8a : inR (g_2 (g_2 F 6 k (F 6 k + 1)) 15 k 0 8 k) 6 := by simpa [g_2] using h8
  have h8b : inR (gOut (g_2 (g_2 F 6 k (F 6 k + 1)) 15 k 1) k 8 k) 6 := by simpa [g_2, gOut] using h8
  rcases h7 with e | ⟨t, ht, e⟩
  · rw [if_pos e]
    have hl : lfB F k = false := by simp [lfB, e]
    simp only [m_ok hB, m_rd2 hB, m_N2 hB, m_R2 hB, m_sR2 hB, m_rd3 hB, m_N3 hB, m_R3 hB, m_sR3 hB, m_rd4 hB, m_N4 hB, m_R4 hB, m_sR4 hB, m_rd6 hB, m_N6 hB, m_R6 hB, m_sR6 hB, m_rd7 hB, m_N7 hB, m_R7 hB, m_sR7 hB, m_rd8 hB, m_N8 hB, m_R8 hB, m_sR8 hB, m_rd9 hB, m_N9 hB, m_R9 hB, m_sR9 hB, m_rd11 hB, m_N11 hB, m_R11 hB, m_sR11 hB, m_rd12 hB, m_N12 hB, m_R12 hB, m_sR12 hB, m_rd13 hB, m_N13 hB, m_R13 hB, m_sR13 hB, m_rd14 hB, m_N14 hB, m_R14 hB, m_sR14 hB, m_rd15 hB, m_N15 hB, m_R15 hB, m_sR15 hB, m_rd16 hB, m_N16 hB, m_R16 hB, m_sR16 hB, m_rd17 hB, m_N17 hB, m_R17 hB, m_sR17 hB, m_rd18 hB, m_N18 hB, m_R18 hB, m_sR18 hB, m_rd20 hB, m_N20 hB, m_R20 hB, m_sR20 hB, m_rd21 hB, m_N21 hB, m_R21 hB, m_sR21 hB, m_rd22 hB, m_N22 hB, m_R22 hB, m_sR22 hB, m_rd23 hB, m_N23 hB, m_R23 hB, m_sR23 hB, m_rd24 hB, m_N24 hB, m_R24 hB, m_sR24 hB, m_rd25 hB, m_N25 hB, m_R25 hB, m_sR25 hB, m_rd27 hB, m_N27 hB, m_R27 hB, m_sR27 hB, m_rd28 hB, m_N28 hB, m_R28 hB, m_sR28 hB, m_rd29 hB, m_N29 hB, m_R29 hB, m_sR29 hB, m_rd30 hB, m_N30 hB, m_R30 hB, m_sR30 hB, m_I0, m_sI0, m_I1, m_sI1, m_I5, m_sI5, m_I10, m_sI10, m_I19, m_sI19, m_I26, m_sI26, m_I31, m_sI31, lt_v, bz0, bz1, true_and, vin, hc, nar0]
    rw [if_pos (show g_2 (g_2 F 6 k (F 6 k + 1)) 15 k 0 15 k = 0 by simp [g_2])]
    have hs := season_w hB (w := w) (f := f) (D := D) (by omega) h8a (fun S => wp_X9_season_L9 m Q f S w (nI k + 1)) ?_
    · simp only [m_ok hB, m_rd2 hB, m_N2 hB, m_R2 hB, m_sR2 hB, m_rd3 hB, m_N3 hB, m_R3 hB, m_sR3 hB, m_rd4 hB, m_N4 hB, m_R4 hB, m_sR4 hB, m_rd6 hB, m_N6 hB, m_R6 hB, m_sR6 hB, m_rd7 hB, m_N7 hB, m_R7 hB, m_sR7 hB, m_rd8 hB, m_N8 hB, m_R8 hB, m_sR8 hB, m_rd9 hB, m_N9 hB, m_R9 hB, m_sR9 hB, m_rd11 hB, m_N11 hB, m_R11 hB, m_sR11 hB, m_rd12 hB, m_N12 hB, m_R12 hB, m_sR12 hB, m_rd13 hB, m_N13 hB, m_R13 hB, m_sR13 hB, m_rd14 hB, m_N14 hB, m_R14 hB, m_sR14 hB, m_rd15 hB, m_N15 hB, m_R15 hB, m_sR15 hB, m_rd16 hB, m_N16 hB, m_R16 hB, m_sR16 hB, m_rd17 hB, m_N17 hB, m_R17 hB, m_sR17 hB, m_rd18 hB, m_N18 hB, m_R18 hB, m_sR18 hB, m_rd20 hB, m_N20 hB, m_R20 hB, m_sR20 hB, m_rd21 hB, m_N21 hB, m_R21 hB, m_sR21 hB, m_rd22 hB, m_N22 hB, m_R22 hB, m_sR22 hB, m_rd23 hB, m_N23 hB, m_R23 hB, m_sR23 hB, m_rd24 hB, m_N24 hB, m_R24 hB, m_sR24 hB, m_rd25 hB, m_N25 hB, m_R25 hB, m_sR25 hB, m_rd27 hB, m_N27 hB, m_R27 hB, m_sR27 hB, m_rd28 hB, m_N28 hB, m_R28 hB, m_sR28 hB, m_rd29 hB, m_N29 hB, m_R29 hB, m_sR29 hB, m_rd30 hB, m_N30 hB, m_R30 hB, m_sR30 hB, m_I0, m_sI0, m_I1, m_sI1, m_I5, m_sI5, m_I10, m_sI10, m_I19, m_sI19, m_I26, m_sI26, m_I31, m_sI31, lt_v, bz0, bz1, true_and, vin, hc] at hs
      exact hs
    · rw [stp_eq F k false (g_2 (g_2 F 6 k (F 6 k + 1)) 15 k 0) rfl hl]
      rw [hl] at h
      exact h
  · have hne : ¬ F 7 k = -1 := by rw [e]; exact nI_m1 (by omega)
    rw [if_neg hne]
    have e2 : lfB F k = ofA F t (F 6 k + 1) := by
      unfold lfB
      rw [e, nIc (by omega)]
      simp [nI_m1 (show t < 2 ^ 31 by omega)]
    have e3 : ofA (g_2 F 6 k (F 6 k + 1)) t (g_2 F 6 k (F 6 k + 1) 6 k) = ofA F t (F 6 k + 1) := by simp [ofA, g_2]
    rw [e]
    cases hq : ofA F t (F 6 k + 1) with
    | true =>
      refine x9_isFor0 hB ht (by omega) (fun q => ?_) ?_
      · rw [fo_ofA, e3, hq] at q
        exact absurd q (by decide)
      rw [if_pos rfl]
      simp only [m_ok hB, m_rd2 hB, m_N2 hB, m_R2 hB, m_sR2 hB, m_rd3 hB, m_N3 hB, m_R3 hB, m_sR3 hB, m_rd4 hB, m_N4 hB, m_R4 hB, m_sR4 hB, m_rd6 hB, m_N6 hB, m_R6 hB, m_sR6 hB, m_rd7 hB, m_N7 hB, m_R7 hB, m_sR7 hB, m_rd8 hB, m_N8 hB, m_R8 hB, m_sR8 hB, m_rd9 hB, m_N9 hB, m_R9 hB, m_sR9 hB, m_rd11 hB, m_N11 hB, m_R11 hB, m_sR11 hB, m_rd12 hB, m_N12 hB, m_R12 hB, m_sR12 hB, m_rd13 hB, m_N13 hB, m_R13 hB, m_sR13 hB, m_rd14 hB, m_N14 hB, m_R14 hB, m_sR14 hB, m_rd15 hB, m_N15 hB, m_R15 hB, m_sR15 hB, m_rd16 hB, m_N16 hB, m_R16 hB, m_sR16 hB, m_rd17 hB, m_N17 hB, m_R17 hB, m_sR17 hB, m_rd18 hB, m_N18 hB, m_R18 hB, m_sR18 hB, m_rd20 hB, m_N20 hB, m_R20 hB, m_sR20 hB, m_rd21 hB, m_N21 hB, m_R21 hB, m_sR21 hB, m_rd22 hB, m_N22 hB, m_R22 hB, m_sR22 hB, m_rd23 hB, m_N23 hB, m_R23 hB, m_sR23 hB, m_rd24 hB, m_N24 hB, m_R24 hB, m_sR24 hB, m_rd25 hB, m_N25 hB, m_R25 hB, m_sR25 hB, m_rd27 hB, m_N27 hB, m_R27 hB, m_sR27 hB, m_rd28 hB, m_N28 hB, m_R28 hB, m_sR28 hB, m_rd29 hB, m_N29 hB, m_R29 hB, m_sR29 hB, m_rd30 hB, m_N30 hB, m_R30 hB, m_sR30 hB, m_I0, m_sI0, m_I1, m_sI1, m_I5, m_sI5, m_I10, m_sI10, m_I19, m_sI19, m_I26, m_sI26, m_I31, m_sI31, lt_v, bz0, bz1, true_and, vin, hc, nar1]
      rw [if_neg (show ¬ g_2 (g_2 F 6 k (F 6 k + 1)) 15 k 1 15 k = 0 by simp [g_2])]
      refine x9_goesOut hB (by omega) ?_
      have hl : lfB F k = true := e2.trans hq
      have hs := season_w hB (w := w + 1) (f := f) (D := D) (by omega) h8b (fun S => wp_X9_season_L9 m Q f S (w + 1) (nI k + 1)) ?_
      · simp only [m_ok hB, m_rd2 hB, m_N2 hB, m_R2 hB, m_sR2 hB, m_rd3 hB, m_N3 hB, m_R3 hB, m_sR3 hB, m_rd4 hB, m_N4 hB, m_R4 hB, m_sR4 hB, m_rd6 hB, m_N6 hB, m_R6 hB, m_sR6 hB, m_rd7 hB, m_N7 hB, m_R7 hB, m_sR7 hB, m_rd8 hB, m_N8 hB, m_R8 hB, m_sR8 hB, m_rd9 hB, m_N9 hB, m_R9 hB, m_sR9 hB, m_rd11 hB, m_N11 hB, m_R11 hB, m_sR11 hB, m_rd12 hB, m_N12 hB, m_R12 hB, m_sR12 hB, m_rd13 hB, m_N13 hB, m_R13 hB, m_sR13 hB, m_rd14 hB, m_N14 hB, m_R14 hB, m_sR14 hB, m_rd15 hB, m_N15 hB, m_R15 hB, m_sR15 hB, m_rd16 hB, m_N16 hB, m_R16 hB, m_sR16 hB, m_rd17 hB, m_N17 hB, m_R17 hB, m_sR17 hB, m_rd18 hB, m_N18 hB, m_R18 hB, m_sR18 hB, m_rd20 hB, m_N20 hB, m_R20 hB, m_sR20 hB, m_rd21 hB, m_N21 hB, m_R21 hB, m_sR21 hB, m_rd22 hB, m_N22 hB, m_R22 hB, m_sR22 hB, m_rd23 hB, m_N23 hB, m_R23 hB, m_sR23 hB, m_rd24 hB, m_N24 hB, m_R24 hB, m_sR24 hB, m_rd25 hB, m_N25 hB, m_R25 hB, m_sR25 hB, m_rd27 hB, m_N27 hB, m_R27 hB, m_sR27 hB, m_rd28 hB, m_N28 hB, m_R28 hB, m_sR28 hB, m_rd29 hB, m_N29 hB, m_R29 hB, m_sR29 hB, m_rd30 hB, m_N30 hB, m_R30 hB, m_sR30 hB, m_I0, m_sI0, m_I1, m_sI1, m_I5, m_sI5, m_I10, m_sI10, m_I19, m_sI19, m_I26, m_sI26, m_I31, m_sI31, lt_v, bz0, bz1, true_and, vin, hc] at hs ⊢
        exact hs
      · rw [stp_eq F k true (gOut (g_2 (g_2 F 6 k (F 6 k + 1)) 15 k 1) k) rfl hl]
        rw [hl] at h
        exact h
    | false =>
      refine x9_isFor1 hB ht (by omega) ((fo_ofA _ _ _).mpr (e3.trans hq)) ?_
      rw [if_neg (by decide)]
      have hl : lfB F k = false := e2.trans hq
      simp only [m_ok hB, m_rd2 hB, m_N2 hB, m_R2 hB, m_sR2 hB, m_rd3 hB, m_N3 hB, m_R3 hB, m_sR3 hB, m_rd4 hB, m_N4 hB, m_R4 hB, m_sR4 hB, m_rd6 hB, m_N6 hB, m_R6 hB, m_sR6 hB, m_rd7 hB, m_N7 hB, m_R7 hB, m_sR7 hB, m_rd8 hB, m_N8 hB, m_R8 hB, m_sR8 hB, m_rd9 hB, m_N9 hB, m_R9 hB, m_sR9 hB, m_rd11 hB, m_N11 hB, m_R11 hB, m_sR11 hB, m_rd12 hB, m_N12 hB, m_R12 hB, m_sR12 hB, m_rd13 hB, m_N13 hB, m_R13 hB, m_sR13 hB, m_rd14 hB, m_N14 hB, m_R14 hB, m_sR14 hB, m_rd15 hB, m_N15 hB, m_R15 hB, m_sR15 hB, m_rd16 hB, m_N16 hB, m_R16 hB, m_sR16 hB, m_rd17 hB, m_N17 hB, m_R17 hB, m_sR17 hB, m_rd18 hB, m_N18 hB, m_R18 hB, m_sR18 hB, m_rd20 hB, m_N20 hB, m_R20 hB, m_sR20 hB, m_rd21 hB, m_N21 hB, m_R21 hB, m_sR21 hB, m_rd22 hB, m_N22 hB, m_R22 hB, m_sR22 hB, m_rd23 hB, m_N23 hB, m_R23 hB, m_sR23 hB, m_rd24 hB, m_N24 hB, m_R24 hB, m_sR24 hB, m_rd25 hB, m_N25 hB, m_R25 hB, m_sR25 hB, m_rd27 hB, m_N27 hB, m_R27 hB, m_sR27 hB, m_rd28 hB, m_N28 hB, m_R28 hB, m_sR28 hB, m_rd29 hB, m_N29 hB, m_R29 hB, m_sR29 hB, m_rd30 hB, m_N30 hB, m_R30 hB, m_sR30 hB, m_I0, m_sI0, m_I1, m_sI1, m_I5, m_sI5, m_I10, m_sI10, m_I19, m_sI19, m_I26, m_sI26, m_I31, m_sI31, lt_v, bz0, bz1, true_and, vin, hc, nar0]
      rw [if_pos (show g_2 (g_2 F 6 k (F 6 k + 1)) 15 k 0 15 k = 0 by simp [g_2])]
      have hs := season_w hB (w := w) (f := f) (D := D) (by omega) h8a (fun S => wp_X9_season_L9 m Q f S w (nI k + 1)) ?_
      · simp only [m_ok hB, m_rd2 hB, m_N2 hB, m_R2 hB, m_sR2 hB, m_rd3 hB, m_N3 hB, m_R3 hB, m_sR3 hB, m_rd4 hB, m_N4 hB, m_R4 hB, m_sR4 hB, m_rd6 hB, m_N6 hB, m_R6 hB, m_sR6 hB, m_rd7 hB, m_N7 hB, m_R7 hB, m_sR7 hB, m_rd8 hB, m_N8 hB, m_R8 hB, m_sR8 hB, m_rd9 hB, m_N9 hB, m_R9 hB, m_sR9 hB, m_rd11 hB, m_N11 hB, m_R11 hB, m_sR11 hB, m_rd12 hB, m_N12 hB, m_R12 hB, m_sR12 hB, m_rd13 hB, m_N13 hB, m_R13 hB, m_sR13 hB, m_rd14 hB, m_N14 hB, m_R14 hB, m_sR14 hB, m_rd15 hB, m_N15 hB, m_R15 hB, m_sR15 hB, m_rd16 hB, m_N16 hB, m_R16 hB, m_sR16 hB, m_rd17 hB, m_N17 hB, m_R17 hB, m_sR17 hB, m_rd18 hB, m_N18 hB, m_R18 hB, m_sR18 hB, m_rd20 hB, m_N20 hB, m_R20 hB, m_sR20 hB, m_rd21 hB, m_N21 hB, m_R21 hB, m_sR21 hB, m_rd22 hB, m_N22 hB, m_R22 hB, m_sR22 hB, m_rd23 hB, m_N23 hB, m_R23 hB, m_sR23 hB, m_rd24 hB, m_N24 hB, m_R24 hB, m_sR24 hB, m_rd25 hB, m_N25 hB, m_R25 hB, m_sR25 hB, m_rd27 hB, m_N27 hB, m_R27 hB, m_sR27 hB, m_rd28 hB, m_N28 hB, m_R28 hB, m_sR28 hB, m_rd29 hB, m_N29 hB, m_R29 hB, m_sR29 hB, m_rd30 hB, m_N30 hB, m_R30 hB, m_sR30 hB, m_I0, m_sI0, m_I1, m_sI1, m_I5, m_sI5, m_I10, m_sI10, m_I19, m_sI19, m_I26, m_sI26, m_I31, m_sI31, lt_v, bz0, bz1, true_and, vin, hc] at hs
        exact hs
      · rw [stp_eq F k false (g_2 (g_2 F 6 k (F 6 k + 1)) 15 k 0) rfl hl]
        rw [hl] at h
        exact h
/-- the first step of a season, for the children below k -/
def s1 (F : Nat → Nat → Int32) : Nat → Nat → Nat → Int32
  | 0 => F
  | k + 1 => stp (s1 F k) k
theorem s1_at (F : Nat → Nat → Int32) : ∀ (k j i : Nat), s1 F k j i = if i < k then stp F i j i else F j i
  | 0, j, i => by rw [if_neg (by omega)]; rfl
  | k + 1, j, i => by
    have h2 : s1 F k 2 = F 2 := by
      funext i
      rw [s1_at F k 2 i]
      split <;> simp [stp]
    have h3 : s1 F k 3 = F 3 := by
      funext i
      rw [s1_at F k 3 i]
      split <;> simp [stp]
    show stp (s1 F k) k j i = _
    by_cases hi : i = k
    · subst hi
      rw [if_pos (by omega)]
      have hh : ∀ j, s1 F i j i = F j i := fun j => by rw [s1_at F i j i, if_neg (by omega)]
      unfold stp lfB wfB ofA
      rw [h2, h3]
      simp only [hh]
    · have e : stp (s1 F k) k j i = s1 F k j i := by simp [stp, hi]
      rw [e, s1_at F k j i]
      by_cases h : i < k
      · rw [if_pos h, if_pos (by omega)]
      · rw [if_neg h, if_neg (by omega)]
theorem s1_lf (F : Nat → Nat → Int32) (k : Nat) : lfB (s1 F k) k = lfB F k := by
  have h2 : s1 F k 2 = F 2 := by
    funext i
    rw [s1_at F k 2 i]
    split <;> simp [stp]
  have h3 : s1 F k 3 = F 3 := by
    funext i
    rw [s1_at F k 3 i]
    split <;> simp [stp]
  have hh : ∀ j, s1 F k j k = F j k := fun j => by rw [s1_at F k j k, if_neg (by omega)]
  unfold lfB ofA
  rw [h2, h3]
  simp only [hh]
theorem x9_season_1 (hB : BM B m ad tg) {n : Nat} (hn : D 5 = nI n) (h24 : n ≤ 24) (h7 : ∀ i, i < n → inR (F 7 i) 6) (h8 : ∀ i, i < n → inR (F 8 i) 6) (h : ∃ n28, wp_X9_season_L118 m (nI (ct (lfB F) n)) Q n28 (mS B m tg D (s1 F n)) 0) : ∀ (fuel k : Nat), k ≤ n → n < k + fuel → wp_X9_season_L9 m Q fuel (mS B m tg D (s1 F k)) (nI (ct (lfB F) k)) (nI k) := by
  intro fuel
  induction fuel with
  | zero => intro k h1 h2; omega
  | succ f ih =>
    intro k h1 h2
    by_cases hk : n ≤ k
    · have e : k = n := by omega
      subst e
      unfold wp_X9_season_L9
      simp only [m_ok hB, m_rd2 hB, m_N2 hB, m_R2 hB, m_sR2 hB, m_rd3 hB, m_N3 hB, m_R3 hB, m_sR3 hB, m_rd4 hB, m_N4 hB, m_R4 hB, m_sR4 hB, m_rd6 hB, m_N6 hB, m_R6 hB, m_sR6 hB, m_rd7 hB, m_N7 hB, m_R7 hB, m_sR7 hB, m_rd8 hB, m_N8 hB, m_R8 hB, m_sR8 hB, m_rd9 hB, m_N9 hB, m_R9 hB, m_sR9 hB, m_rd11 hB, m_N11 hB, m_R11 hB, m_sR11 hB, m_rd12 hB, m_N12 hB, m_R12 hB, m_sR12 hB, m_rd13 hB, m_N13 hB, m_R13 hB, m_sR13 hB, m_rd14 hB, m_N14 hB, m_R14 hB, m_sR14 hB, m_rd15 hB, m_N15 hB, m_R15 hB, m_sR15 hB, m_rd16 hB, m_N16 hB, m_R16 hB, m_sR16 hB, m_rd17 hB, m_N17 hB, m_R17 hB, m_sR17 hB, m_rd18 hB, m_N18 hB, m_R18 hB, m_sR18 hB, m_rd20 hB, m_N20 hB, m_R20 hB, m_sR20 hB, m_rd21 hB, m_N21 hB, m_R21 hB, m_sR21 hB, m_rd22 hB, m_N22 hB, m_R22 hB, m_sR22 hB, m_rd23 hB, m_N23 hB, m_R23 hB, m_sR23 hB, m_rd24 hB, m_N24 hB, m_R24 hB, m_sR24 hB, m_rd25 hB, m_N25 hB, m_R25 hB, m_sR25 hB, m_rd27 hB, m_N27 hB, m_R27 hB, m_sR27 hB, m_rd28 hB, m_N28 hB, m_R28 hB, m_sR28 hB, m_rd29 hB, m_N29 hB, m_R29 hB, m_sR29 hB, m_rd30 hB, m_N30 hB, m_R30 hB, m_sR30 hB, m_I0, m_sI0, m_I1, m_sI1, m_I5, m_sI5, m_I10, m_sI10, m_I19, m_sI19, m_I26, m_sI26, m_I31, m_sI31, lt_v, bz0, bz1, true_and]
      rw [hn, if_pos (nI_le (Nat.le_refl _) (by omega))]
      exact h
    · have hs := ih (k + 1) (by omega) (by omega)
      have hh : ∀ j, s1 F k j k = F j k := fun j => by rw [s1_at F k j k, if_neg (by omega)]
      refine x9_season_step hB hn h24 (by omega) (by rw [hh]; exact h7 k (by omega)) (by rw [hh]; exact h8 k (by omega)) ?_
      rw [s1_lf]
      have e : (if lfB F k = true then nI (ct (lfB F) k) + 1 else nI (ct (lfB F) k)) = nI (ct (lfB F) (k + 1)) := by
        cases hq : lfB F k
        · rw [if_neg (by decide)]
          simp [ct, hq]
        · rw [if_pos rfl, nI_1]
          simp [ct, hq]
      rw [e, nI_1]
      exact hs
/-! the second step: the troops fill up -/
def lf1 (F : Nat → Nat → Int32) (n : Nat) (t : Int32) : Nat → Nat → Int32 := match fiW F t n with
  | none => F
  | some f => cIn F n f t
def itr (F : Nat → Nat → Int32) (n : Nat) (t : Int32) : Nat → Nat → Nat → Int32
  | 0 => F
  | k + 1 => itr (lf1 F n t) n t k
theorem itr_none {F : Nat → Nat → Int32} {n : Nat} {t : Int32} (h : fiW F t n = none) : ∀ k, itr F n t k = F
  | 0 => rfl
  | k + 1 => by
    show itr (lf1 F n t) n t k = F
    have e : lf1 F n t = F := by simp [lf1, h]
    rw [e]
    exact itr_none h k
/-- where the children are -/
def PL (F : Nat → Nat → Int32) (n N : Nat) : Prop := ∀ i, i < n → inR (F 7 i) N ∧ inR (F 8 i) N ∧ (F 8 i = -1 ∨ F 7 i = -1 ∧ F 11 i = -1)
theorem PL_cIn {F : Nat → Nat → Int32} {n N f t : Nat} (h : PL F n N) (ht : t < N) : PL (cIn F n f (nI t)) n N := by
  intro i hi
  obtain ⟨h1, h2, h3⟩ := h i hi
  by_cases e : i = f
  · subst e
    exact ⟨Or.inr ⟨t, ht, by simp [cIn]⟩, Or.inl (by simp [cIn]), Or.inl (by simp [cIn])⟩
  · simp only [cIn, if_neg e]
    exact ⟨h1, h2, h3⟩
theorem PL_lf1 {F : Nat → Nat → Int32} {n N t : Nat} (h : PL F n N) (ht : t < N) : PL (lf1 F n (nI t)) n N := by
  unfold lf1
  split
  · exact h
  · exact PL_cIn h ht
theorem lf1_4 (F : Nat → Nat → Int32) (n : Nat) (t : Int32) : lf1 F n t 4 = F 4 := by
  unfold lf1
  cases fiW F t n with
  | none => rfl
  | some f =>
    funext i
    simp [cIn]
theorem PL_itr {n N t : Nat} (ht : t < N) : ∀ (k : Nat) (F : Nat → Nat → Int32), PL F n N → PL (itr F n (nI t) k) n N
  | 0, _, h => h
  | k + 1, _, h => PL_itr ht k _ (PL_lf1 h ht)
theorem itr_4 (n : Nat) (t : Int32) : ∀ (k : Nat) (F : Nat → Nat → Int32), itr F n t k 4 = F 4
  | 0, _ => rfl
  | k + 1, F => by
    show itr (lf1 F n t) n t k 4 = F 4
    rw [itr_4 n t k, lf1_4]
theorem ct_fb (p : Nat → Bool) : ∀ n, ct p n = fb_ct p n
  | 0 => rfl
  | n + 1 => by rw [ct, fb_ct, ct_fb p n]
theorem inT_cIn {F : Nat → Nat → Int32} {n f t : Nat} (hf : f < n) (h : ¬ F 7 f = nI t) : inT (cIn F n f (nI t)) n (nI t) = inT F n (nI t) + 1 := by
  unfold inT
  rw [ct_fb, ct_fb]
  have h1 := fb_ct_upd (fun c => decide (F 7 c = nI t)) true hf
  have e : (fun c => decide (cIn F n f (nI t) 7 c = nI t)) = (fun k => if k = f then true else decide (F 7 k = nI t)) := by
    funext c
    by_cases hc : c = f
    · simp [cIn, hc]
    · simp [cIn, hc]
  rw [e]
  simp only [h, decide_false] at h1
  simpa using h1
theorem x9_fill (hB : BM B m ad tg) {n N t r : Nat} {w : Int32} (hn : D 5 = nI n) (h24 : n ≤ 24) (ht : t < N) (hN : N ≤ 6) (hr : r < 100) (K : Hp → Int32 → Prop) : ∀ (r' : Nat) (F : Nat → Nat → Int32), F 4 t = nI r → r - inT F n (nI t) = r' → PL F n N → K (mS B m tg D (itr F n (nI t) r')) (nI (t + 1)) → ∃ fuel, wp_X9_season_L126 m w (nI t) K Q fuel (mS B m tg D F) := by
  intro r'
  induction r' with
  | zero =>
    intro F h4 h1 h2 h
    refine ⟨1, ?_⟩
    unfold wp_X9_season_L126
    refine ⟨m_ok hB, x9_inTroop hB hn h24 ?_⟩
    simp only [m_ok hB, m_rd2 hB, m_N2 hB, m_R2 hB, m_sR2 hB, m_rd3 hB, m_N3 hB, m_R3 hB, m_sR3 hB, m_rd4 hB, m_N4 hB, m_R4 hB, m_sR4 hB, m_rd6 hB, m_N6 hB, m_R6 hB, m_sR6 hB, m_rd7 hB, m_N7 hB, m_R7 hB, m_sR7 hB, m_rd8 hB, m_N8 hB, m_R8 hB, m_sR8 hB, m_rd9 hB, m_N9 hB, m_R9 hB, m_sR9 hB, m_rd11 hB, m_N11 hB, m_R11 hB, m_sR11 hB, m_rd12 hB, m_N12 hB, m_R12 hB, m_sR12 hB, m_rd13 hB, m_N13 hB, m_R13 hB, m_sR13 hB, m_rd14 hB, m_N14 hB, m_R14 hB, m_sR14 hB, m_rd15 hB, m_N15 hB, m_R15 hB, m_sR15 hB, m_rd16 hB, m_N16 hB, m_R16 hB, m_sR16 hB, m_rd17 hB, m_N17 hB, m_R17 hB, m_sR17 hB, m_rd18 hB, m_N18 hB, m_R18 hB, m_sR18 hB, m_rd20 hB, m_N20 hB, m_R20 hB, m_sR20 hB, m_rd21 hB, m_N21 hB, m_R21 hB, m_sR21 hB, m_rd22 hB, m_N22 hB, m_R22 hB, m_sR22 hB, m_rd23 hB, m_N23 hB, m_R23 hB, m_sR23 hB, m_rd24 hB, m_N24 hB, m_R24 hB, m_sR24 hB, m_rd25 hB, m_N25 hB, m_R25 hB, m_sR25 hB, m_rd27 hB, m_N27 hB, m_R27 hB, m_sR27 hB, m_rd28 hB, m_N28 hB, m_R28 hB, m_sR28 hB, m_rd29 hB, m_N29 hB, m_R29 hB, m_sR29 hB, m_rd30 hB, m_N30 hB, m_R30 hB, m_sR30 hB, m_I0, m_sI0, m_I1, m_sI1, m_I5, m_sI5, m_I10, m_sI10, m_I19, m_sI19, m_I26, m_sI26, m_I31, m_sI31, lt_v, bz0, bz1, true_and]
    refine ⟨vp_in_nI (by omega) (by omega), ?_⟩
    have hb := inT_le F n (nI t)
    rw [nIc (by omega), h4, if_pos (nI_le (by omega) (by omega)), nI_1]
    exact h
  | succ q ih =>
    intro F h4 h1 h2 h
    have hb := inT_le F n (nI t)
    cases hf : fiW F (nI t) n with
    | none =>
      refine ⟨1, ?_⟩
      unfold wp_X9_season_L126
      refine ⟨m_ok hB, x9_inTroop hB hn h24 ?_⟩
      simp only [m_ok hB, m_rd2 hB, m_N2 hB, m_R2 hB, m_sR2 hB, m_rd3 hB, m_N3 hB, m_R3 hB, m_sR3 hB, m_rd4 hB, m_N4 hB, m_R4 hB, m_sR4 hB, m_rd6 hB, m_N6 hB, m_R6 hB, m_sR6 hB, m_rd7 hB, m_N7 hB, m_R7 hB, m_sR7 hB, m_rd8 hB, m_N8 hB, m_R8 hB, m_sR8 hB, m_rd9 hB, m_N9 hB, m_R9 hB, m_sR9 hB, m_rd11 hB, m_N11 hB, m_R11 hB, m_sR11 hB, m_rd12 hB, m_N12 hB, m_R12 hB, m_sR12 hB, m_rd13 hB, m_N13 hB, m_R13 hB, m_sR13 hB, m_rd14 hB, m_N14 hB, m_R14 hB, m_sR14 hB, m_rd15 hB, m_N15 hB, m_R15 hB, m_sR15 hB, m_rd16 hB, m_N16 hB, m_R16 hB, m_sR16 hB, m_rd17 hB, m_N17 hB, m_R17 hB, m_sR17 hB, m_rd18 hB, m_N18 hB, m_R18 hB, m_sR18 hB, m_rd20 hB, m_N20 hB, m_R20 hB, m_sR20 hB, m_rd21 hB, m_N21 hB, m_R21 hB, m_sR21 hB, m_rd22 hB, m_N22 hB, m_R22 hB, m_sR22 hB, m_rd23 hB, m_N23 hB, m_R23 hB, m_sR23 hB, m_rd24 hB, m_N24 hB, m_R24 hB, m_sR24 hB, m_rd25 hB, m_N25 hB, m_R25 hB, m_sR25 hB, m_rd27 hB, m_N27 hB, m_R27 hB, m_sR27 hB, m_rd28 hB, m_N28 hB, m_R28 hB, m_sR28 hB, m_rd29 hB, m_N29 hB, m_R29 hB, m_sR29 hB, m_rd30 hB, m_N30 hB, m_R30 hB, m_sR30 hB, m_I0, m_sI0, m_I1, m_sI1, m_I5, m_sI5, m_I10, m_sI10, m_I19, m_sI19, m_I26, m_sI26, m_I31, m_sI31, lt_v, bz0, bz1, true_and]
      refine ⟨vp_in_nI (by omega) (by omega), ?_⟩
      rw [nIc (by omega), h4, if_neg (nI_ge (by omega) (by omega))]
      refine x9_firstWaiting hB hn h24 ?_
      rw [hf, if_pos (show oI none = -1 from rfl), nI_1]
      rw [itr_none hf] at h
      exact h
    | some f =>
      have hff := fiW_lt F (nI t) n f hf
      have h7 : ¬ F 7 f = nI t := by
        rcases (h2 f hff.1).2.2 with e | e
        · rw [hff.2] at e
          exact absurd e (nI_m1 (by omega))
        · rw [e.1]
          exact fun q => nI_m1 (show t < 2 ^ 31 by omega) q.symm
      have e1 : lf1 F n (nI t) = cIn F n f (nI t) := by simp [lf1, hf]
      obtain ⟨fu, hfu⟩ := ih (lf1 F n (nI t)) (by rw [lf1_4]; exact h4) (by rw [e1, inT_cIn hff.1 h7]; omega) (PL_lf1 h2 ht) h
      refine ⟨fu + 1, ?_⟩
      unfold wp_X9_season_L126
      refine ⟨m_ok hB, x9_inTroop hB hn h24 ?_⟩
      simp only [m_ok hB, m_rd2 hB, m_N2 hB, m_R2 hB, m_sR2 hB, m_rd3 hB, m_N3 hB, m_R3 hB, m_sR3 hB, m_rd4 hB, m_N4 hB, m_R4 hB, m_sR4 hB, m_rd6 hB, m_N6 hB, m_R6 hB, m_sR6 hB, m_rd7 hB, m_N7 hB, m_R7 hB, m_sR7 hB, m_rd8 hB, m_N8 hB, m_R8 hB, m_sR8 hB, m_rd9 hB, m_N9 hB, m_R9 hB, m_sR9 hB, m_rd11 hB, m_N11 hB, m_R11 hB, m_sR11 hB, m_rd12 hB, m_N12 hB, m_R12 hB, m_sR12 hB, m_rd13 hB, m_N13 hB, m_R13 hB, m_sR13 hB, m_rd14 hB, m_N14 hB, m_R14 hB, m_sR14 hB, m_rd15 hB, m_N15 hB, m_R15 hB, m_sR15 hB, m_rd16 hB, m_N16 hB, m_R16 hB, m_sR16 hB, m_rd17 hB, m_N17 hB, m_R17 hB, m_sR17 hB, m_rd18 hB, m_N18 hB, m_R18 hB, m_sR18 hB, m_rd20 hB, m_N20 hB, m_R20 hB, m_sR20 hB, m_rd21 hB, m_N21 hB, m_R21 hB, m_sR21 hB, m_rd22 hB, m_N22 hB, m_R22 hB, m_sR22 hB, m_rd23 hB, m_N23 hB, m_R23 hB, m_sR23 hB, m_rd24 hB, m_N24 hB, m_R24 hB, m_sR24 hB, m_rd25 hB, m_N25 hB, m_R25 hB, m_sR25 hB, m_rd27 hB, m_N27 hB, m_R27 hB, m_sR27 hB, m_rd28 hB, m_N28 hB, m_R28 hB, m_sR28 hB, m_rd29 hB, m_N29 hB, m_R29 hB, m_sR29 hB, m_rd30 hB, m_N30 hB, m_R30 hB, m_sR30 hB, m_I0, m_sI0, m_I1, m_sI1, m_I5, m_sI5, m_I10, m_sI10, m_I19, m_sI19, m_I26, m_sI26, m_I31, m_sI31, lt_v, bz0, bz1, true_and]
      refine ⟨vp_in_nI (by omega) (by omega), ?_⟩
      rw [nIc (by omega), h4, if_neg (nI_ge (by omega) (by omega))]
      refine x9_firstWaiting hB hn h24 ?_
      rw [hf, if_neg (show ¬ oI (some f) = -1 from nI_m1 (by omega))]
      refine ⟨m_ok hB, x9_firstWaiting hB hn h24 ?_⟩
      rw [hf]
      refine ⟨m_ok hB, x9_comesIn hB hn h24 hff.1 ?_⟩
      rw [← e1]
      exact hfu
def filT (F : Nat → Nat → Int32) (n t : Nat) : Nat → Nat → Int32 := itr F n (nI t) ((F 4 t).toNatClampNeg - inT F n (nI t))
def filA (F : Nat → Nat → Int32) (n : Nat) : Nat → Nat → Nat → Int32
  | 0 => F
  | t + 1 => filT (filA F n t) n t
theorem filA_4 (F : Nat → Nat → Int32) (n : Nat) : ∀ k, filA F n k 4 = F 4
  | 0 => rfl
  | k + 1 => by
    show itr _ _ _ _ 4 = F 4
    rw [itr_4, filA_4 F n k]
theorem PL_filA {F : Nat → Nat → Int32} {n N : Nat} (h : PL F n N) : ∀ k, k ≤ N → PL (filA F n k) n N
  | 0, _ => h
  | k + 1, hk => PL_itr (by omega) _ _ (PL_filA h k (by omega))
/-- rooms of the troops -/
def RM (F : Nat → Nat → Int32) (N : Nat) : Prop := ∀ t, t < N → ∃ r : Nat, r < 100 ∧ F 4 t = nI r
theorem x9_season_2 (hB : BM B m ad tg) {n N : Nat} {w : Int32} (hn : D 5 = nI n) (h24 : n ≤ 24) (hN : D 1 = nI N) (h6 : N ≤ 6) (hP : PL F n N) (hR : RM F N) (h : ∃ n11, wp_X9_season_L170 m w Q n11 (mS B m tg D (filA F n N)) 0) : ∀ (fuel k : Nat), k ≤ N → N < k + fuel → wp_X9_season_L118 m w Q fuel (mS B m tg D (filA F n k)) (nI k) := by
  intro fuel
  induction fuel with
  | zero => intro k h1 h2; omega
  | succ f ih =>
    intro k h1 h2
    unfold wp_X9_season_L118
    simp only [m_ok hB, m_rd2 hB, m_N2 hB, m_R2 hB, m_sR2 hB, m_rd3 hB, m_N3 hB, m_R3 hB, m_sR3 hB, m_rd4 hB, m_N4 hB, m_R4 hB, m_sR4 hB, m_rd6 hB, m_N6 hB, m_R6 hB, m_sR6 hB, m_rd7 hB, m_N7 hB, m_R7 hB, m_sR7 hB, m_rd8 hB, m_N8 hB, m_R8 hB, m_sR8 hB, m_rd9 hB, m_N9 hB, m_R9 hB, m_sR9 hB, m_rd11 hB, m_N11 hB, m_R11 hB, m_sR11 hB, m_rd12 hB, m_N12 hB, m_R12 hB, m_sR12 hB, m_rd13 hB, m_N13 hB, m_R13 hB, m_sR13 hB, m_rd14 hB, m_N14 hB, m_R14 hB, m_sR14 hB, m_rd15 hB, m_N15 hB, m_R15 hB, m_sR15 hB, m_rd16 hB, m_N16 hB, m_R16 hB, m_sR16 hB, m_rd17 hB, m_N17 hB, m_R17 hB, m_sR17 hB, m_rd18 hB, m_N18 hB, m_R18 hB, m_sR18 hB, m_rd20 hB, m_N20 hB, m_R20 hB, m_sR20 hB, m_rd21 hB, m_N21 hB, m_R21 hB, m_sR21 hB, m_rd22 hB, m_N22 hB, m_R22 hB, m_sR22 hB, m_rd23 hB, m_N23 hB, m_R23 hB, m_sR23 hB, m_rd24 hB, m_N24 hB, m_R24 hB, m_sR24 hB, m_rd25 hB, m_N25 hB, m_R25 hB, m_sR25 hB, m_rd27 hB, m_N27 hB, m_R27 hB, m_sR27 hB, m_rd28 hB, m_N28 hB, m_R28 hB, m_sR28 hB, m_rd29 hB, m_N29 hB, m_R29 hB, m_sR29 hB, m_rd30 hB, m_N30 hB, m_R30 hB, m_sR30 hB, m_I0, m_sI0, m_I1, m_sI1, m_I5, m_sI5, m_I10, m_sI10, m_I19, m_sI19, m_I26, m_sI26, m_I31, m_sI31, lt_v, bz0, bz1, true_and]
    rw [hN]
    by_cases hk : N ≤ k
    · have e : k = N := by omega
      subst e
      rw [if_pos (nI_le (Nat.le_refl _) (by omega))]
      exact h
    · rw [if_neg (nI_ge (by omega) (by omega))]
      obtain ⟨r, hr, er⟩ := hR k (by omega)
      refine x9_fill hB hn h24 (N := N) (by omega) h6 hr _ _ (filA F n k) (by rw [filA_4]; exact er) rfl (PL_filA hP k (by omega)) ?_
      have hs := ih (k + 1) (by omega) (by omega)
      show wp_X9_season_L118 m w Q f (mS B m tg D (itr (filA F n k) n (nI k) _)) _
      have e2 : filA F n (k + 1) = itr (filA F n k) n (nI k) (r - inT (filA F n k) n (nI k)) := by
        show itr _ _ _ _ = _
        rw [filA_4, er, nIc (by omega)]
      rw [← e2]
      exact hs
/-! the third step: those who left join again -/
def loF (F : Nat → Nat → Int32) (c : Nat) : Nat → Option Nat
  | 0 => none
  | k + 1 => match loF F c k with
    | some t => some t
    | none => if ofA F k (F 6 c) then none else some k
theorem loF_lt (F : Nat → Nat → Int32) (c : Nat) : ∀ (k t : Nat), loF F c k = some t → t < k ∧ ofA F t (F 6 c) = false
  | 0, t, h => by simp [loF] at h
  | k + 1, t, h => by
    unfold loF at h
    cases hq : loF F c k with
    | some s =>
      rw [hq] at h
      simp at h
      subst h
      have := loF_lt F c k s hq
      exact ⟨by omega, this.2⟩
    | none =>
      rw [hq] at h
      cases ho : ofA F k (F 6 c)
      · rw [ho] at h
        simp at h
        subst h
        exact ⟨by omega, ho⟩
      · rw [ho] at h
        simp at h
def jnD (D : Nat → Int32) (F : Nat → Nat → Int32) (n t : Nat) : Nat → Int32 := if nI (inT F n (nI t)) < F 4 t then D else upD D 10 (D 10 + 1)
def jnF (D : Nat → Int32) (F : Nat → Nat → Int32) (n c t : Nat) : Nat → Nat → Int32 := if nI (inT F n (nI t)) < F 4 t then cIn F n c (nI t) else joW D F c t
theorem x9_joins (hB : BM B m ad tg) {n c t : Nat} (hn : D 5 = nI n) (h24 : n ≤ 24) (hc : c < n) (ht : t < 6) (h : ∀ r, Q r (mS B m tg (jnD D F n t) (jnF D F n c t))) : wp_X9_joins (mS B m tg D F) m (nI c) (nI t) Q := by
  by_cases hr : nI (inT F n (nI t)) < F 4 t
  · refine x9_joins0 hB hn h24 hc ht hr ?_
    simp only [jnD, jnF, if_pos hr] at h
    exact h 0
  · refine x9_joins1 hB hn h24 hc ht hr ?_
    simp only [jnD, jnF, if_neg hr] at h
    exact h _
theorem nI_dec (k : Nat) : nI (k + 1) + -1 = nI k := by
  rw [← nI_pred k]
  exact (Int32.sub_eq_add_neg _ _).symm
theorem x9_lowest_L (hB : BM B m ad tg) {n c : Nat} {Q : Hp → Prop} (hn : D 5 = nI n) (h24 : n ≤ 24) (hc : c < n) : ∀ (k : Nat) (w : Option Nat), k ≤ 6 → (∀ t, w = some t → t < 6) → (match (match loF F c k with | some t => some t | none => w) with | none => Q (mS B m tg D F) | some t => Q (mS B m tg (jnD D F n t) (jnF D F n c t))) → wp_X9_joinsLowest_L9 m (nI c) Q (k + 1) (mS B m tg D F) (oI w) (nI k - 1) := by
  intro k
  induction k with
  | zero =>
    intro w h6 hw h
    unfold wp_X9_joinsLowest_L9
    rw [if_pos (by decide)]
    cases w with
    | none =>
      rw [if_pos (show oI none = -1 from rfl)]
      exact h
    | some t =>
      have ht := hw t rfl
      rw [if_neg (show ¬ oI (some t) = -1 from nI_m1 (by omega))]
      exact ⟨m_ok hB, x9_joins hB hn h24 hc ht (fun r => h)⟩
  | succ k ih =>
    intro w h6 hw h
    rw [nI_pred]
    unfold wp_X9_joinsLowest_L9
    rw [if_neg (show ¬ nI k < 0 from nI_pos (by omega))]
    refine ⟨m_ok hB, ?_⟩
    unfold loF at h
    cases ho : ofA F k (F 6 c) with
    | true =>
      refine x9_isFor0 hB (by omega) (by omega) (fun q => ?_) ?_
      · rw [fo_ofA, ho] at q
        exact absurd q (by decide)
      · rw [if_pos rfl]
        have hs := ih w (by omega) hw ?_
        · rw [show nI k + -1 = nI k - 1 from (Int32.sub_eq_add_neg _ _).symm]
          exact hs
        · rw [ho] at h
          cases hl : loF F c k <;> rw [hl] at h <;> exact h
    | false =>
      refine x9_isFor1 hB (by omega) (by omega) ((fo_ofA F k c).mpr ho) ?_
      rw [if_neg (by decide)]
      have hs := ih (some k) (by omega) (fun t ht => by cases ht; omega) ?_
      · rw [show nI k + -1 = nI k - 1 from (Int32.sub_eq_add_neg _ _).symm]
        exact hs
      · rw [ho] at h
        cases hl : loF F c k <;> rw [hl] at h <;> exact h
/-- child c joins the lowest troop for it, of N -/
def lwD (D : Nat → Int32) (F : Nat → Nat → Int32) (n N c : Nat) : Nat → Int32 := match loF F c N with
  | none => D
  | some t => jnD D F n t
def lwF (D : Nat → Int32) (F : Nat → Nat → Int32) (n N c : Nat) : Nat → Nat → Int32 := match loF F c N with
  | none => F
  | some t => jnF D F n c t
theorem x9_lowest (hB : BM B m ad tg) {n N c : Nat} {Q : Hp → Prop} (hn : D 5 = nI n) (h24 : n ≤ 24) (hN : D 1 = nI N) (h6 : N ≤ 6) (hc : c < n) (h : Q (mS B m tg (lwD D F n N c) (lwF D F n N c))) : wp_X9_joinsLowest (mS B m tg D F) m (nI c) Q := by
  unfold wp_X9_joinsLowest
  refine ⟨m_ok hB, ?_⟩
  simp only [m_ok hB, m_rd2 hB, m_N2 hB, m_R2 hB, m_sR2 hB, m_rd3 hB, m_N3 hB, m_R3 hB, m_sR3 hB, m_rd4 hB, m_N4 hB, m_R4 hB, m_sR4 hB, m_rd6 hB, m_N6 hB, m_R6 hB, m_sR6 hB, m_rd7 hB, m_N7 hB, m_R7 hB, m_sR7 hB, m_rd8 hB, m_N8 hB, m_R8 hB, m_sR8 hB, m_rd9 hB, m_N9 hB, m_R9 hB, m_sR9 hB, m_rd11 hB, m_N11 hB, m_R11 hB, m_sR11 hB, m_rd12 hB, m_N12 hB, m_R12 hB, m_sR12 hB, m_rd13 hB, m_N13 hB, m_R13 hB, m_sR13 hB, m_rd14 hB, m_N14 hB, m_R14 hB, m_sR14 hB, m_rd15 hB, m_N15 hB, m_R15 hB, m_sR15 hB, m_rd16 hB, m_N16 hB, m_R16 hB, m_sR16 hB, m_rd17 hB, m_N17 hB, m_R17 hB, m_sR17 hB, m_rd18 hB, m_N18 hB, m_R18 hB, m_sR18 hB, m_rd20 hB, m_N20 hB, m_R20 hB, m_sR20 hB, m_rd21 hB, m_N21 hB, m_R21 hB, m_sR21 hB, m_rd22 hB, m_N22 hB, m_R22 hB, m_sR22 hB, m_rd23 hB, m_N23 hB, m_R23 hB, m_sR23 hB, m_rd24 hB, m_N24 hB, m_R24 hB, m_sR24 hB, m_rd25 hB, m_N25 hB, m_R25 hB, m_sR25 hB, m_rd27 hB, m_N27 hB, m_R27 hB, m_sR27 hB, m_rd28 hB, m_N28 hB, m_R28 hB, m_sR28 hB, m_rd29 hB, m_N29 hB, m_R29 hB, m_sR29 hB, m_rd30 hB, m_N30 hB, m_R30 hB, m_sR30 hB, m_I0, m_sI0, m_I1, m_sI1, m_I5, m_sI5, m_I10, m_sI10, m_I19, m_sI19, m_I26, m_sI26, m_I31, m_sI31, lt_v, bz0, bz1, true_and]
  rw [hN]
  refine ⟨N + 1, x9_lowest_L hB hn h24 hc N none h6 (fun t ht => by cases ht) ?_⟩
  unfold lwD lwF at h
  cases hl : loF F c N <;> rw [hl] at h <;> exact h
def sJD (n N : Nat) (D : Nat → Int32) (F : Nat → Nat → Int32) : Nat → (Nat → Int32) × (Nat → Nat → Int32)
  | 0 => (D, F)
  | k + 1 => if (sJD n N D F k).2 15 k = 0 then sJD n N D F k else (lwD (sJD n N D F k).1 (sJD n N D F k).2 n N k, lwF (sJD n N D F k).1 (sJD n N D F k).2 n N k)
theorem jnD_ne (D : Nat → Int32) (F : Nat → Nat → Int32) (n t j : Nat) (h : j ≠ 10) : jnD D F n t j = D j := by
  unfold jnD
  split
  · rfl
  · simp [upD, h]
theorem lwD_ne (D : Nat → Int32) (F : Nat → Nat → Int32) (n N c j : Nat) (h : j ≠ 10) : lwD D F n N c j = D j := by
  unfold lwD
  cases loF F c N with
  | none => rfl
  | some t => exact jnD_ne _ _ _ _ _ h
theorem sJD_ne (n N : Nat) (D : Nat → Int32) (F : Nat → Nat → Int32) (j : Nat) (h : j ≠ 10) : ∀ k, (sJD n N D F k).1 j = D j
  | 0 => rfl
  | k + 1 => by
    unfold sJD
    split
    · exact sJD_ne n N D F j h k
    · rw [show (lwD (sJD n N D F k).1 (sJD n N D F k).2 n N k, lwF (sJD n N D F k).1 (sJD n N D F k).2 n N k).1 j = _ from lwD_ne _ _ _ _ _ _ h]
      exact sJD_ne n N D F j h k
theorem x9_season_3 (hB : BM B m ad tg) {n N : Nat} {w : Int32} (hn : D 5 = nI n) (h24 : n ≤ 24) (hN : D 1 = nI N) (h6 : N ≤ 6) (h : Q w (mS B m tg ((sJD n N D F n).1) ((sJD n N D F n).2))) : ∀ (fuel k : Nat), k ≤ n → n < k + fuel → wp_X9_season_L170 m w Q fuel (mS B m tg ((sJD n N D F k).1) ((sJD n N D F k).2)) (nI k) := by
  intro fuel
  induction fuel with
  | zero => intro k h1 h2; omega
  | succ f ih =>
    intro k h1 h2
    unfold wp_X9_season_L170
    simp only [m_ok hB, m_rd2 hB, m_N2 hB, m_R2 hB, m_sR2 hB, m_rd3 hB, m_N3 hB, m_R3 hB, m_sR3 hB, m_rd4 hB, m_N4 hB, m_R4 hB, m_sR4 hB, m_rd6 hB, m_N6 hB, m_R6 hB, m_sR6 hB, m_rd7 hB, m_N7 hB, m_R7 hB, m_sR7 hB, m_rd8 hB, m_N8 hB, m_R8 hB, m_sR8 hB, m_rd9 hB, m_N9 hB, m_R9 hB, m_sR9 hB, m_rd11 hB, m_N11 hB, m_R11 hB, m_sR11 hB, m_rd12 hB, m_N12 hB, m_R12 hB, m_sR12 hB, m_rd13 hB, m_N13 hB, m_R13 hB, m_sR13 hB, m_rd14 hB, m_N14 hB, m_R14 hB, m_sR14 hB, m_rd15 hB, m_N15 hB, m_R15 hB, m_sR15 hB, m_rd16 hB, m_N16 hB, m_R16 hB, m_sR16 hB, m_rd17 hB, m_N17 hB, m_R17 hB, m_sR17 hB, m_rd18 hB, m_N18 hB, m_R18 hB, m_sR18 hB, m_rd20 hB, m_N20 hB, m_R20 hB, m_sR20 hB, m_rd21 hB, m_N21 hB, m_R21 hB, m_sR21 hB, m_rd22 hB, m_N22 hB, m_R22 hB, m_sR22 hB, m_rd23 hB, m_N23 hB, m_R23 hB, m_sR23 hB, m_rd24 hB, m_N24 hB, m_R24 hB, m_sR24 hB, m_rd25 hB, m_N25 hB, m_R25 hB, m_sR25 hB, m_rd27 hB, m_N27 hB, m_R27 hB, m_sR27 hB, m_rd28 hB, m_N28 hB, m_R28 hB, m_sR28 hB, m_rd29 hB, m_N29 hB, m_R29 hB, m_sR29 hB, m_rd30 hB, m_N30 hB, m_R30 hB, m_sR30 hB, m_I0, m_sI0, m_I1, m_sI1, m_I5, m_sI5, m_I10, m_sI10, m_I19, m_sI19, m_I26, m_sI26, m_I31, m_sI31, lt_v, bz0, bz1, true_and]
    rw [sJD_ne n N D F 5 (by omega) k, hn]
    by_cases hk : n ≤ k
    · have e : k = n := by omega
      subst e
      rw [if_pos (nI_le (Nat.le_refl _) (by omega))]
      exact h
    · rw [if_neg (nI_ge (by omega) (by omega))]
      refine ⟨vp_in_nI (by omega) (by omega), ?_⟩
      rw [nIc (by omega)]
      have hs := ih (k + 1) (by omega) (by omega)
      unfold sJD at hs
      by_cases hz : (sJD n N D F k).2 15 k = 0
      · rw [if_pos hz] at hs ⊢
        rw [nI_1]
        exact hs
      · rw [if_neg hz] at hs ⊢
        refine x9_lowest hB (n := n) (N := N) (by rw [sJD_ne n N D F 5 (by omega) k]; exact hn) h24 (by rw [sJD_ne n N D F 1 (by omega) k]; exact hN) h6 (by omega) ?_
        rw [nI_1]
        exact hs
theorem s1_row (F : Nat → Nat → Int32) (k j : Nat) (h : j ≠ 6 ∧ j ≠ 7 ∧ j ≠ 8 ∧ j ≠ 11 ∧ j ≠ 15) : s1 F k j = F j := by
  funext i
  rw [s1_at]
  split
  · simp [stp, h]
  · rfl
theorem PL_s1 {F : Nat → Nat → Int32} {n N : Nat} (h : PL F n N) (k : Nat) : PL (s1 F k) n N := by
  intro i hi
  obtain ⟨h1, h2, h3⟩ := h i hi
  rw [s1_at, s1_at, s1_at]
  by_cases hk : i < k
  · rw [if_pos hk, if_pos hk, if_pos hk]
    simp only [stp, if_true, show ¬ (7 : Nat) = 6 by decide, show ¬ (8 : Nat) = 6 by decide, show ¬ (8 : Nat) = 7 by decide, show ¬ (8 : Nat) = 11 by decide, show ¬ (11 : Nat) = 6 by decide, show ¬ (11 : Nat) = 7 by decide, if_false]
    refine ⟨?_, ?_, ?_⟩
    · cases lfB F i
      · exact h1
      · exact Or.inl rfl
    · cases wfB F i
      · exact h2
      · exact Or.inl rfl
    · rcases h3 with e | e
      · exact Or.inl (by simp [e])
      · exact Or.inr (by simp [e])
  · rw [if_neg hk, if_neg hk, if_neg hk]
    exact ⟨h1, h2, h3⟩
/-- what a season leaves -/
def seaF (D : Nat → Int32) (F : Nat → Nat → Int32) (n N : Nat) : Nat → Nat → Int32 := (sJD n N D (filA (s1 F n) n N) n).2
def seaD (D : Nat → Int32) (F : Nat → Nat → Int32) (n N : Nat) : Nat → Int32 := (sJD n N D (filA (s1 F n) n N) n).1
theorem x9_season (hB : BM B m ad tg) {n N : Nat} (hn : D 5 = nI n) (h24 : n ≤ 24) (hN : D 1 = nI N) (h6 : N ≤ 6) (hP : PL F n N) (hR : RM F N) (h : Q (nI (ct (lfB F) n)) (mS B m tg (seaD (upD D 31 0) F n N) (seaF (upD D 31 0) F n N))) : wp_X9_season (mS B m tg D F) m Q := by
  unfold wp_X9_season
  refine ⟨m_ok hB, ?_⟩
  simp only [m_ok hB, m_rd2 hB, m_N2 hB, m_R2 hB, m_sR2 hB, m_rd3 hB, m_N3 hB, m_R3 hB, m_sR3 hB, m_rd4 hB, m_N4 hB, m_R4 hB, m_sR4 hB, m_rd6 hB, m_N6 hB, m_R6 hB, m_sR6 hB, m_rd7 hB, m_N7 hB, m_R7 hB, m_sR7 hB, m_rd8 hB, m_N8 hB, m_R8 hB, m_sR8 hB, m_rd9 hB, m_N9 hB, m_R9 hB, m_sR9 hB, m_rd11 hB, m_N11 hB, m_R11 hB, m_sR11 hB, m_rd12 hB, m_N12 hB, m_R12 hB, m_sR12 hB, m_rd13 hB, m_N13 hB, m_R13 hB, m_sR13 hB, m_rd14 hB, m_N14 hB, m_R14 hB, m_sR14 hB, m_rd15 hB, m_N15 hB, m_R15 hB, m_sR15 hB, m_rd16 hB, m_N16 hB, m_R16 hB, m_sR16 hB, m_rd17 hB, m_N17 hB, m_R17 hB, m_sR17 hB, m_rd18 hB, m_N18 hB, m_R18 hB, m_sR18 hB, m_rd20 hB, m_N20 hB, m_R20 hB, m_sR20 hB, m_rd21 hB, m_N21 hB, m_R21 hB, m_sR21 hB, m_rd22 hB, m_N22 hB, m_R22 hB, m_sR22 hB, m_rd23 hB, m_N23 hB, m_R23 hB, m_sR23 hB, m_rd24 hB, m_N24 hB, m_R24 hB, m_sR24 hB, m_rd25 hB, m_N25 hB, m_R25 hB, m_sR25 hB, m_rd27 hB, m_N27 hB, m_R27 hB, m_sR27 hB, m_rd28 hB, m_N28 hB, m_R28 hB, m_sR28 hB, m_rd29 hB, m_N29 hB, m_R29 hB, m_sR29 hB, m_rd30 hB, m_N30 hB, m_R30 hB, m_sR30 hB, m_I0, m_sI0, m_I1, m_sI1, m_I5, m_sI5, m_I10, m_sI10, m_I19, m_sI19, m_I26, m_sI26, m_I31, m_sI31, lt_v, bz0, bz1, true_and]
  have hi : ∀ {x : Int32}, inR x N → inR x 6 := fun h => h.elim Or.inl (fun ⟨t, ht, e⟩ => Or.inr ⟨t, by omega, e⟩)
  refine ⟨n + 1, ?_⟩
  have := x9_season_1 (F := F) (D := upD D 31 0) (Q := Q) hB (n := n) hn h24 (fun i hi' => hi (hP i hi').1) (fun i hi' => hi (hP i hi').2.1) ?_ (n + 1) 0 (by omega) (by omega)
  · exact this
  · refine ⟨N + 1, ?_⟩
    have := x9_season_2 (F := s1 F n) (D := upD D 31 0) (Q := Q) (w := nI (ct (lfB F) n)) hB (n := n) (N := N) hn h24 hN h6 (PL_s1 hP n) (by intro t ht; rw [s1_row F n 4 (by decide)]; exact hR t ht) ?_ (N + 1) 0 (by omega) (by omega)
    · exact this
    · refine ⟨n + 1, ?_⟩
      exact x9_season_3 (F := filA (s1 F n) n N) (D := upD D 31 0) (Q := Q) hB (n := n) (N := N) hn h24 hN h6 h (n + 1) 0 (by omega) (by omega)
end MSEASON
