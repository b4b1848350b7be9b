/-! THE REFERENCE: begin, boxes, pay, owed, today, ofTroop, event, staff, why, lacks -/
section MREST
variable {B : Hp} {m : Nat} {ad tg : Nat → Nat} {D : Nat → Int32} {F : Nat → Nat → Int32} {Q : Int32 → Hp → Prop} {S : Hp}
theorem cix {c b : Nat} : (8 : Int32) * nI c + nI b = nI (8 * c + b) := by
  rw [show (8 : Int32) = nI 8 from rfl, nI_mul, nI_add]
theorem rng {k N : Nat} (hk : k ≤ N) (hN : N < 2 ^ 31) : ¬ (nI k < 0 ∨ nI N < nI k) := by
  rw [i_lt, i_lt, nI_toInt (by omega), nI_toInt (by omega), show (0 : Int32).toInt = 0 from rfl]
  omega
theorem x9_begin1a (hB : BM B m ad tg) {a b : Int32} {n : Nat} (hn : D 5 = nI n) (h24 : n ≤ 24) (hv : a < 0 ∨ nI n ≤ a) (h : Q 0 (mS B m tg (upD D 31 1) F)) : wp_X9_begin (mS B m tg D F) m a b Q := by
  unfold wp_X9_begin
  refine ⟨m_ok hB, x9_isChild0 hB hn h24 hv ?_⟩
  rw [if_pos rfl]
  refine ⟨m_ok hB, x9_asks0 hB ?_⟩
  rw [if_pos rfl]
  exact h
theorem x9_begin1b (hB : BM B m ad tg) {b : Int32} {n i : Nat} (hn : D 5 = nI n) (h24 : n ≤ 24) (hi : i < n) (hv : b < 0 ∨ 7 < b) (h : Q 0 (mS B m tg (upD D 31 1) F)) : wp_X9_begin (mS B m tg D F) m (nI i) b Q := by
  unfold wp_X9_begin
  refine ⟨m_ok hB, x9_isChild1 hB hn h24 hi ?_⟩
  rw [if_neg (by decide)]
  refine x9_isBadge0 hv ?_
  rw [if_pos rfl]
  refine ⟨m_ok hB, x9_asks0 hB ?_⟩
  rw [if_pos rfl]
  exact h
theorem x9_begin2 (hB : BM B m ad tg) {n i b : Nat} (hn : D 5 = nI n) (h24 : n ≤ 24) (hi : i < n) (hb : b < 8) (hw : F 23 b = 0 ∨ ¬ F 17 (8 * i + b) = -1) (h : Q 0 (mS B m tg (upD (upD D 31 0) 31 2) F)) : wp_X9_begin (mS B m tg D F) m (nI i) (nI b) Q := by
  unfold wp_X9_begin
  refine ⟨m_ok hB, x9_isChild1 hB hn h24 hi ?_⟩
  rw [if_neg (by decide)]
  refine x9_isBadge1 (rng (N := 7) (by omega) (by omega)) ?_
  rw [if_neg (by decide)]
  refine ⟨m_ok hB, x9_asks1 hB ?_⟩
  rw [if_neg (by decide)]
  simp only [m_ok hB, m_rd2 hB, m_N2 hB, m_R2 hB, m_sR2 hB, m_rd3 hB, m_N3 hB, m_R3 hB, m_sR3 hB, m_rd4 hB, m_N4 hB, m_R4 hB, m_sR4 hB, m_rd6 hB, m_N6 hB, m_R6 hB, m_sR6 hB, m_rd7 hB, m_N7 hB, m_R7 hB, m_sR7 hB, m_rd8 hB, m_N8 hB, m_R8 hB, m_sR8 hB, m_rd9 hB, m_N9 hB, m_R9 hB, m_sR9 hB, m_rd11 hB, m_N11 hB, m_R11 hB, m_sR11 hB, m_rd12 hB, m_N12 hB, m_R12 hB, m_sR12 hB, m_rd13 hB, m_N13 hB, m_R13 hB, m_sR13 hB, m_rd14 hB, m_N14 hB, m_R14 hB, m_sR14 hB, m_rd15 hB, m_N15 hB, m_R15 hB, m_sR15 hB, m_rd16 hB, m_N16 hB, m_R16 hB, m_sR16 hB, m_rd17 hB, m_N17 hB, m_R17 hB, m_sR17 hB, m_rd18 hB, m_N18 hB, m_R18 hB, m_sR18 hB, m_rd20 hB, m_N20 hB, m_R20 hB, m_sR20 hB, m_rd21 hB, m_N21 hB, m_R21 hB, m_sR21 hB, m_rd22 hB, m_N22 hB, m_R22 hB, m_sR22 hB, m_rd23 hB, m_N23 hB, m_R23 hB, m_sR23 hB, m_rd24 hB, m_N24 hB, m_R24 hB, m_sR24 hB, m_rd25 hB, m_N25 hB, m_R25 hB, m_sR25 hB, m_rd27 hB, m_N27 hB, m_R27 hB, m_sR27 hB, m_rd28 hB, m_N28 hB, m_R28 hB, m_sR28 hB, m_rd29 hB, m_N29 hB, m_R29 hB, m_sR29 hB, m_rd30 hB, m_N30 hB, m_R30 hB, m_sR30 hB, m_I0, m_sI0, m_I1, m_sI1, m_I5, m_sI5, m_I10, m_sI10, m_I19, m_sI19, m_I26, m_sI26, m_I31, m_sI31, lt_v, bz0, bz1, true_and]
  refine ⟨vp_in_nI hb (by omega), ?_⟩
  rw [nIc (by omega), cix]
  by_cases h1 : F 23 b = 0
  · rw [if_pos h1]
    exact x9_fails hB h
  · rw [if_neg h1]
    refine ⟨vp_in_nI (by omega) (by omega), ?_⟩
    rw [nIc (by omega), if_neg (hw.resolve_left h1)]
    exact x9_fails hB h
def begF (D : Nat → Int32) (F : Nat → Nat → Int32) (i b e : Nat) : Nat → Nat → Int32 := g_2 (g_2 F 17 (8 * i + b) (D 0)) 18 (8 * i + b) (nI e)
theorem x9_begin0 (hB : BM B m ad tg) {n i b e : Nat} (hn : D 5 = nI n) (h24 : n ≤ 24) (hi : i < n) (hb : b < 8) (hw : F 23 b = nI (e + 1)) (he : e < 3) (hw2 : F 17 (8 * i + b) = -1) (h : Q (nI e) (mS B m tg (upD D 31 0) (begF D F i b e))) : wp_X9_begin (mS B m tg D F) m (nI i) (nI b) Q := by
  unfold wp_X9_begin
  refine ⟨m_ok hB, x9_isChild1 hB hn h24 hi ?_⟩
  rw [if_neg (by decide)]
  refine x9_isBadge1 (rng (N := 7) (by omega) (by omega)) ?_
  rw [if_neg (by decide)]
  refine ⟨m_ok hB, x9_asks1 hB ?_⟩
  rw [if_neg (by decide)]
  simp only [m_ok hB, m_rd2 hB, m_N2 hB, m_R2 hB, m_sR2 hB, m_rd3 hB, m_N3 hB, m_R3 hB, m_sR3 hB, m_rd4 hB, m_N4 hB, m_R4 hB, m_sR4 hB, m_rd6 hB, m_N6 hB, m_R6 hB, m_sR6 hB, m_rd7 hB, m_N7 hB, m_R7 hB, m_sR7 hB, m_rd8 hB, m_N8 hB, m_R8 hB, m_sR8 hB, m_rd9 hB, m_N9 hB, m_R9 hB, m_sR9 hB, m_rd11 hB, m_N11 hB, m_R11 hB, m_sR11 hB, m_rd12 hB, m_N12 hB, m_R12 hB, m_sR12 hB, m_rd13 hB, m_N13 hB, m_R13 hB, m_sR13 hB, m_rd14 hB, m_N14 hB, m_R14 hB, m_sR14 hB, m_rd15 hB, m_N15 hB, m_R15 hB, m_sR15 hB, m_rd16 hB, m_N16 hB, m_R16 hB, m_sR16 hB, m_rd17 hB, m_N17 hB, m_R17 hB, m_sR17 hB, m_rd18 hB, m_N18 hB, m_R18 hB, m_sR18 hB, m_rd20 hB, m_N20 hB, m_R20 hB, m_sR20 hB, m_rd21 hB, m_N21 hB, m_R21 hB, m_sR21 hB, m_rd22 hB, m_N22 hB, m_R22 hB, m_sR22 hB, m_rd23 hB, m_N23 hB, m_R23 hB, m_sR23 hB, m_rd24 hB, m_N24 hB, m_R24 hB, m_sR24 hB, m_rd25 hB, m_N25 hB, m_R25 hB, m_sR25 hB, m_rd27 hB, m_N27 hB, m_R27 hB, m_sR27 hB, m_rd28 hB, m_N28 hB, m_R28 hB, m_sR28 hB, m_rd29 hB, m_N29 hB, m_R29 hB, m_sR29 hB, m_rd30 hB, m_N30 hB, m_R30 hB, m_sR30 hB, m_I0, m_sI0, m_I1, m_sI1, m_I5, m_sI5, m_I10, m_sI10, m_I19, m_sI19, m_I26, m_sI26, m_I31, m_sI31, lt_v, bz0, bz1, true_and]
  refine ⟨vp_in_nI hb (by omega), ?_⟩
  rw [nIc (by omega), cix, hw, if_neg (nI_ne0 (by omega) (by omega))]
  refine ⟨vp_in_nI (by omega) (by omega), ?_⟩
  rw [nIc (by omega), if_pos hw2]
  refine ⟨vp_in_nI (by omega) (by omega), vp_in_nI (by omega) (by omega), vp_in_nI (by omega) (by omega), vp_in_nI hb (by omega), ?_⟩
  simp only [g2_, show ¬ (23 : Nat) = 17 by decide, show ¬ (23 : Nat) = 18 by decide, false_and, if_false, hw, nI_pred]
  exact h
theorem x9_boxes1 (hB : BM B m ad tg) {a b : Int32} {n : Nat} (hn : D 5 = nI n) (h24 : n ≤ 24) (hv : a < 0 ∨ nI n ≤ a) (h : Q 0 (mS B m tg (upD D 31 1) F)) : wp_X9_boxes (mS B m tg D F) m a b Q := by
  unfold wp_X9_boxes
  refine ⟨m_ok hB, x9_isChild0 hB hn h24 hv ⟨m_ok hB, x9_asks0 hB ?_⟩⟩
  rw [if_pos rfl]
  exact h
theorem x9_boxes2 (hB : BM B m ad tg) {b : Int32} {n i : Nat} (hn : D 5 = nI n) (h24 : n ≤ 24) (hi : i < n) (hv : b < 1 ∨ 99 < b) (h : Q 0 (mS B m tg (upD (upD D 31 0) 31 2) F)) : wp_X9_boxes (mS B m tg D F) m (nI i) b Q := by
  unfold wp_X9_boxes
  refine ⟨m_ok hB, x9_isChild1 hB hn h24 hi ⟨m_ok hB, x9_asks1 hB ?_⟩⟩
  rw [if_neg (by decide)]
  refine x9_in0 hv ?_
  rw [if_pos rfl]
  exact ⟨m_ok hB, x9_fails hB h⟩
/-- the child may take these boxes -/
def bxO (F : Nat → Nat → Int32) (i : Nat) (b : Int32) : Prop := ¬ F 7 i = -1 ∧ (F 12 i ≤ 0 ∨ F 13 i = F 7 i) ∧ F 14 i + b ≤ 9999
theorem x9_boxes3 (hB : BM B m ad tg) {b : Int32} {n i : Nat} (hn : D 5 = nI n) (h24 : n ≤ 24) (hi : i < n) (hv : ¬ (b < 1 ∨ 99 < b)) (hw : ¬ bxO F i b) (h : Q 0 (mS B m tg (upD (upD D 31 0) 31 3) F)) : wp_X9_boxes (mS B m tg D F) m (nI i) b Q := by
  unfold wp_X9_boxes
  refine ⟨m_ok hB, x9_isChild1 hB hn h24 hi ⟨m_ok hB, x9_asks1 hB ?_⟩⟩
  rw [if_neg (by decide)]
  refine x9_in1 (fun q => hv (Or.inl q)) (fun q => hv (Or.inr q)) ?_
  rw [if_neg (by decide)]
  have hc : (nI i).toNatClampNeg = i := nIc (by omega)
  have vin : vp_in (nI i) 24 = True := eq_true (vp_in_nI (by omega) (by omega))
  simp only [m_ok hB, m_rd2 hB, m_N2 hB, m_R2 hB, m_sR2 hB, m_rd3 hB, m_N3 hB, m_R3 hB, m_sR3 hB, m_rd4 hB, m_N4 hB, m_R4 hB, m_sR4 hB, m_rd6 hB, m_N6 hB, m_R6 hB, m_sR6 hB, m_rd7 hB, m_N7 hB, m_R7 hB, m_sR7 hB, m_rd8 hB, m_N8 hB, m_R8 hB, m_sR8 hB, m_rd9 hB, m_N9 hB, m_R9 hB, m_sR9 hB, m_rd11 hB, m_N11 hB, m_R11 hB, m_sR11 hB, m_rd12 hB, m_N12 hB, m_R12 hB, m_sR12 hB, m_rd13 hB, m_N13 hB, m_R13 hB, m_sR13 hB, m_rd14 hB, m_N14 hB, m_R14 hB, m_sR14 hB, m_rd15 hB, m_N15 hB, m_R15 hB, m_sR15 hB, m_rd16 hB, m_N16 hB, m_R16 hB, m_sR16 hB, m_rd17 hB, m_N17 hB, m_R17 hB, m_sR17 hB, m_rd18 hB, m_N18 hB, m_R18 hB, m_sR18 hB, m_rd20 hB, m_N20 hB, m_R20 hB, m_sR20 hB, m_rd21 hB, m_N21 hB, m_R21 hB, m_sR21 hB, m_rd22 hB, m_N22 hB, m_R22 hB, m_sR22 hB, m_rd23 hB, m_N23 hB, m_R23 hB, m_sR23 hB, m_rd24 hB, m_N24 hB, m_R24 hB, m_sR24 hB, m_rd25 hB, m_N25 hB, m_R25 hB, m_sR25 hB, m_rd27 hB, m_N27 hB, m_R27 hB, m_sR27 hB, m_rd28 hB, m_N28 hB, m_R28 hB, m_sR28 hB, m_rd29 hB, m_N29 hB, m_R29 hB, m_sR29 hB, m_rd30 hB, m_N30 hB, m_R30 hB, m_sR30 hB, m_I0, m_sI0, m_I1, m_sI1, m_I5, m_sI5, m_I10, m_sI10, m_I19, m_sI19, m_I26, m_sI26, m_I31, m_sI31, lt_v, bz0, bz1, true_and, hc, vin]
  by_cases h7 : F 7 i = -1
  · simp only [if_pos h7]
    by_cases h12 : F 12 i ≤ 0
    · rw [if_pos h12]
      exact x9_fails hB h
    · rw [if_neg h12]
      by_cases h13 : F 13 i = -1
      · rw [h7, if_pos h13]
        exact x9_fails hB h
      · rw [h7, if_neg h13]
        exact x9_fails hB h
  · simp only [if_neg h7]
    by_cases h14 : F 14 i + b ≤ 9999
    · have h12 : ¬ F 12 i ≤ 0 := fun q => hw ⟨h7, Or.inl q, h14⟩
      have h13 : ¬ F 13 i = F 7 i := fun q => hw ⟨h7, Or.inr q, h14⟩
      rw [if_neg h12, if_neg h13]
      exact x9_fails hB h
    · simp only [if_neg h14]
      by_cases h12 : F 12 i ≤ 0
      · rw [if_pos h12]
        exact x9_fails hB h
      · rw [if_neg h12]
        by_cases h13 : F 13 i = F 7 i
        · rw [if_pos h13]
          exact x9_fails hB h
        · rw [if_neg h13]
          exact x9_fails hB h
def boxF (F : Nat → Nat → Int32) (i : Nat) (b : Int32) : Nat → Nat → Int32 := g_2 (g_2 (g_2 F 13 i (F 7 i)) 14 i (F 14 i + b)) 12 i (F 12 i + 4 * b)
theorem x9_boxes0 (hB : BM B m ad tg) {b : Int32} {n i : Nat} (hn : D 5 = nI n) (h24 : n ≤ 24) (hi : i < n) (hv : ¬ (b < 1 ∨ 99 < b)) (hw : bxO F i b) (h : Q (F 12 i + 4 * b) (mS B m tg (upD D 31 0) (boxF F i b))) : wp_X9_boxes (mS B m tg D F) m (nI i) b Q := by
  unfold wp_X9_boxes
  refine ⟨m_ok hB, x9_isChild1 hB hn h24 hi ⟨m_ok hB, x9_asks1 hB ?_⟩⟩
  rw [if_neg (by decide)]
  refine x9_in1 (fun q => hv (Or.inl q)) (fun q => hv (Or.inr q)) ?_
  rw [if_neg (by decide)]
  have hc : (nI i).toNatClampNeg = i := nIc (by omega)
  have vin : vp_in (nI i) 24 = True := eq_true (vp_in_nI (by omega) (by omega))
  simp only [m_ok hB, m_rd2 hB, m_N2 hB, m_R2 hB, m_sR2 hB, m_rd3 hB, m_N3 hB, m_R3 hB, m_sR3 hB, m_rd4 hB, m_N4 hB, m_R4 hB, m_sR4 hB, m_rd6 hB, m_N6 hB, m_R6 hB, m_sR6 hB, m_rd7 hB, m_N7 hB, m_R7 hB, m_sR7 hB, m_rd8 hB, m_N8 hB, m_R8 hB, m_sR8 hB, m_rd9 hB, m_N9 hB, m_R9 hB, m_sR9 hB, m_rd11 hB, m_N11 hB, m_R11 hB, m_sR11 hB, m_rd12 hB, m_N12 hB, m_R12 hB, m_sR12 hB, m_rd13 hB, m_N13 hB, m_R13 hB, m_sR13 hB, m_rd14 hB, m_N14 hB, m_R14 hB, m_sR14 hB, m_rd15 hB, m_N15 hB, m_R15 hB, m_sR15 hB, m_rd16 hB, m_N16 hB, m_R16 hB, m_sR16 hB, m_rd17 hB, m_N17 hB, m_R17 hB, m_sR17 hB, m_rd18 hB, m_N18 hB, m_R18 hB, m_sR18 hB, m_rd20 hB, m_N20 hB, m_R20 hB, m_sR20 hB, m_rd21 hB, m_N21 hB, m_R21 hB, m_sR21 hB, m_rd22 hB, m_N22 hB, m_R22 hB, m_sR22 hB, m_rd23 hB, m_N23 hB, m_R23 hB, m_sR23 hB, m_rd24 hB, m_N24 hB, m_R24 hB, m_sR24 hB, m_rd25 hB, m_N25 hB, m_R25 hB, m_sR25 hB, m_rd27 hB, m_N27 hB, m_R27 hB, m_sR27 hB, m_rd28 hB, m_N28 hB, m_R28 hB, m_sR28 hB, m_rd29 hB, m_N29 hB, m_R29 hB, m_sR29 hB, m_rd30 hB, m_N30 hB, m_R30 hB, m_sR30 hB, m_I0, m_sI0, m_I1, m_sI1, m_I5, m_sI5, m_I10, m_sI10, m_I19, m_sI19, m_I26, m_sI26, m_I31, m_sI31, lt_v, bz0, bz1, true_and, hc, vin]
  obtain ⟨h7, h13, h14⟩ := hw
  simp only [if_neg h7, if_pos h14]
  have e : Q (g_2 (g_2 (g_2 F 13 i (F 7 i)) 14 i (g_2 F 13 i (F 7 i) 14 i + b)) 12 i (g_2 (g_2 F 13 i (F 7 i)) 14 i (g_2 F 13 i (F 7 i) 14 i + b) 12 i + 4 * b) 12 i) (mS B m tg (upD D 31 0) (g_2 (g_2 (g_2 F 13 i (F 7 i)) 14 i (g_2 F 13 i (F 7 i) 14 i + b)) 12 i (g_2 (g_2 F 13 i (F 7 i)) 14 i (g_2 F 13 i (F 7 i) 14 i + b) 12 i + 4 * b))) := by
    simp only [g2_, show ¬ (14 : Nat) = 13 by decide, show ¬ (12 : Nat) = 13 by decide, show ¬ (12 : Nat) = 14 by decide, false_and, if_false, and_self, if_true]
    exact h
  by_cases h12 : F 12 i ≤ 0
  · rw [if_pos h12]
    exact e
  · rw [if_neg h12, if_pos (h13.resolve_left h12)]
    exact e
theorem x9_pay1 (hB : BM B m ad tg) {a b : Int32} {n : Nat} (hn : D 5 = nI n) (h24 : n ≤ 24) (hv : a < 0 ∨ nI n ≤ a) (h : Q 0 (mS B m tg (upD D 31 1) F)) : wp_X9_pay (mS B m tg D F) m a b Q := by
  unfold wp_X9_pay
  refine ⟨m_ok hB, x9_isChild0 hB hn h24 hv ⟨m_ok hB, x9_asks0 hB ?_⟩⟩
  rw [if_pos rfl]
  exact h
theorem x9_pay2 (hB : BM B m ad tg) {b : Int32} {n i : Nat} (hn : D 5 = nI n) (h24 : n ≤ 24) (hi : i < n) (hv : b < 1 ∨ 396 < b) (h : Q 0 (mS B m tg (upD (upD D 31 0) 31 2) F)) : wp_X9_pay (mS B m tg D F) m (nI i) b Q := by
  unfold wp_X9_pay
  refine ⟨m_ok hB, x9_isChild1 hB hn h24 hi ⟨m_ok hB, x9_asks1 hB ?_⟩⟩
  rw [if_neg (by decide)]
  refine x9_in0 hv ?_
  rw [if_pos rfl]
  exact ⟨m_ok hB, x9_fails hB h⟩
theorem x9_pay3 (hB : BM B m ad tg) {b : Int32} {n i : Nat} (hn : D 5 = nI n) (h24 : n ≤ 24) (hi : i < n) (hv : ¬ (b < 1 ∨ 396 < b)) (hw : ¬ b ≤ F 12 i) (h : Q 0 (mS B m tg (upD (upD D 31 0) 31 3) F)) : wp_X9_pay (mS B m tg D F) m (nI i) b Q := by
  unfold wp_X9_pay
  refine ⟨m_ok hB, x9_isChild1 hB hn h24 hi ⟨m_ok hB, x9_asks1 hB ?_⟩⟩
  rw [if_neg (by decide)]
  refine x9_in1 (fun q => hv (Or.inl q)) (fun q => hv (Or.inr q)) ?_
  rw [if_neg (by decide)]
  simp only [m_ok hB, m_rd2 hB, m_N2 hB, m_R2 hB, m_sR2 hB, m_rd3 hB, m_N3 hB, m_R3 hB, m_sR3 hB, m_rd4 hB, m_N4 hB, m_R4 hB, m_sR4 hB, m_rd6 hB, m_N6 hB, m_R6 hB, m_sR6 hB, m_rd7 hB, m_N7 hB, m_R7 hB, m_sR7 hB, m_rd8 hB, m_N8 hB, m_R8 hB, m_sR8 hB, m_rd9 hB, m_N9 hB, m_R9 hB, m_sR9 hB, m_rd11 hB, m_N11 hB, m_R11 hB, m_sR11 hB, m_rd12 hB, m_N12 hB, m_R12 hB, m_sR12 hB, m_rd13 hB, m_N13 hB, m_R13 hB, m_sR13 hB, m_rd14 hB, m_N14 hB, m_R14 hB, m_sR14 hB, m_rd15 hB, m_N15 hB, m_R15 hB, m_sR15 hB, m_rd16 hB, m_N16 hB, m_R16 hB, m_sR16 hB, m_rd17 hB, m_N17 hB, m_R17 hB, m_sR17 hB, m_rd18 hB, m_N18 hB, m_R18 hB, m_sR18 hB, m_rd20 hB, m_N20 hB, m_R20 hB, m_sR20 hB, m_rd21 hB, m_N21 hB, m_R21 hB, m_sR21 hB, m_rd22 hB, m_N22 hB, m_R22 hB, m_sR22 hB, m_rd23 hB, m_N23 hB, m_R23 hB, m_sR23 hB, m_rd24 hB, m_N24 hB, m_R24 hB, m_sR24 hB, m_rd25 hB, m_N25 hB, m_R25 hB, m_sR25 hB, m_rd27 hB, m_N27 hB, m_R27 hB, m_sR27 hB, m_rd28 hB, m_N28 hB, m_R28 hB, m_sR28 hB, m_rd29 hB, m_N29 hB, m_R29 hB, m_sR29 hB, m_rd30 hB, m_N30 hB, m_R30 hB, m_sR30 hB, m_I0, m_sI0, m_I1, m_sI1, m_I5, m_sI5, m_I10, m_sI10, m_I19, m_sI19, m_I26, m_sI26, m_I31, m_sI31, lt_v, bz0, bz1, true_and]
  refine ⟨vp_in_nI (by omega) (by omega), ?_⟩
  rw [nIc (by omega), if_neg hw]
  exact x9_fails hB h
theorem x9_pay0 (hB : BM B m ad tg) {b : Int32} {n i : Nat} (hn : D 5 = nI n) (h24 : n ≤ 24) (hi : i < n) (hv : ¬ (b < 1 ∨ 396 < b)) (hw : b ≤ F 12 i) (h : Q (F 12 i - b) (mS B m tg (upD D 31 0) (g_2 F 12 i (F 12 i - b)))) : wp_X9_pay (mS B m tg D F) m (nI i) b Q := by
  unfold wp_X9_pay
  refine ⟨m_ok hB, x9_isChild1 hB hn h24 hi ⟨m_ok hB, x9_asks1 hB ?_⟩⟩
  rw [if_neg (by decide)]
  refine x9_in1 (fun q => hv (Or.inl q)) (fun q => hv (Or.inr q)) ?_
  rw [if_neg (by decide)]
  simp only [m_ok hB, m_rd2 hB, m_N2 hB, m_R2 hB, m_sR2 hB, m_rd3 hB, m_N3 hB, m_R3 hB, m_sR3 hB, m_rd4 hB, m_N4 hB, m_R4 hB, m_sR4 hB, m_rd6 hB, m_N6 hB, m_R6 hB, m_sR6 hB, m_rd7 hB, m_N7 hB, m_R7 hB, m_sR7 hB, m_rd8 hB, m_N8 hB, m_R8 hB, m_sR8 hB, m_rd9 hB, m_N9 hB, m_R9 hB, m_sR9 hB, m_rd11 hB, m_N11 hB, m_R11 hB, m_sR11 hB, m_rd12 hB, m_N12 hB, m_R12 hB, m_sR12 hB, m_rd13 hB, m_N13 hB, m_R13 hB, m_sR13 hB, m_rd14 hB, m_N14 hB, m_R14 hB, m_sR14 hB, m_rd15 hB, m_N15 hB, m_R15 hB, m_sR15 hB, m_rd16 hB, m_N16 hB, m_R16 hB, m_sR16 hB, m_rd17 hB, m_N17 hB, m_R17 hB, m_sR17 hB, m_rd18 hB, m_N18 hB, m_R18 hB, m_sR18 hB, m_rd20 hB, m_N20 hB, m_R20 hB, m_sR20 hB, m_rd21 hB, m_N21 hB, m_R21 hB, m_sR21 hB, m_rd22 hB, m_N22 hB, m_R22 hB, m_sR22 hB, m_rd23 hB, m_N23 hB, m_R23 hB, m_sR23 hB, m_rd24 hB, m_N24 hB, m_R24 hB, m_sR24 hB, m_rd25 hB, m_N25 hB, m_R25 hB, m_sR25 hB, m_rd27 hB, m_N27 hB, m_R27 hB, m_sR27 hB, m_rd28 hB, m_N28 hB, m_R28 hB, m_sR28 hB, m_rd29 hB, m_N29 hB, m_R29 hB, m_sR29 hB, m_rd30 hB, m_N30 hB, m_R30 hB, m_sR30 hB, m_I0, m_sI0, m_I1, m_sI1, m_I5, m_sI5, m_I10, m_sI10, m_I19, m_sI19, m_I26, m_sI26, m_I31, m_sI31, lt_v, bz0, bz1, true_and]
  refine ⟨vp_in_nI (by omega) (by omega), ?_⟩
  rw [nIc (by omega), if_pos hw]
  refine ⟨vp_in_nI (by omega) (by omega), vp_in_nI (by omega) (by omega), vp_in_nI (by omega) (by omega), ?_⟩
  rw [g_2s]
  exact h
/-- coins owed to troop t -/
def owS (F : Nat → Nat → Int32) (t : Int32) : Nat → Int32
  | 0 => 0
  | k + 1 => if F 12 k ≤ 0 then owS F t k else if F 13 k = t then owS F t k + F 12 k else owS F t k
theorem nI_addz (x : Int32) : x + 0 = x := Int32.add_zero x
theorem x9_owed_L (hB : BM B m ad tg) {n : Nat} {t : Int32} (hn : D 5 = nI n) (h24 : n ≤ 24) : ∀ (fuel k : Nat), k ≤ n → n < k + fuel → Q (owS F t n) (mS B m tg D F) → wp_X9_owed_L18 m t Q fuel (mS B m tg D F) (owS F t k) (nI k) := by
  intro fuel
  induction fuel with
  | zero => intro k h1 h2; omega
  | succ f ih =>
    intro k h1 h2 h
    unfold wp_X9_owed_L18
    simp only [m_ok hB, m_rd2 hB, m_N2 hB, m_R2 hB, m_sR2 hB, m_rd3 hB, m_N3 hB, m_R3 hB, m_sR3 hB, m_rd4 hB, m_N4 hB, m_R4 hB, m_sR4 hB, m_rd6 hB, m_N6 hB, m_R6 hB, m_sR6 hB, m_rd7 hB, m_N7 hB, m_R7 hB, m_sR7 hB, m_rd8 hB, m_N8 hB, m_R8 hB, m_sR8 hB, m_rd9 hB, m_N9 hB, m_R9 hB, m_sR9 hB, m_rd11 hB, m_N11 hB, m_R11 hB, m_sR11 hB, m_rd12 hB, m_N12 hB, m_R12 hB, m_sR12 hB, m_rd13 hB, m_N13 hB, m_R13 hB, m_sR13 hB, m_rd14 hB, m_N14 hB, m_R14 hB, m_sR14 hB, m_rd15 hB, m_N15 hB, m_R15 hB, m_sR15 hB, m_rd16 hB, m_N16 hB, m_R16 hB, m_sR16 hB, m_rd17 hB, m_N17 hB, m_R17 hB, m_sR17 hB, m_rd18 hB, m_N18 hB, m_R18 hB, m_sR18 hB, m_rd20 hB, m_N20 hB, m_R20 hB, m_sR20 hB, m_rd21 hB, m_N21 hB, m_R21 hB, m_sR21 hB, m_rd22 hB, m_N22 hB, m_R22 hB, m_sR22 hB, m_rd23 hB, m_N23 hB, m_R23 hB, m_sR23 hB, m_rd24 hB, m_N24 hB, m_R24 hB, m_sR24 hB, m_rd25 hB, m_N25 hB, m_R25 hB, m_sR25 hB, m_rd27 hB, m_N27 hB, m_R27 hB, m_sR27 hB, m_rd28 hB, m_N28 hB, m_R28 hB, m_sR28 hB, m_rd29 hB, m_N29 hB, m_R29 hB, m_sR29 hB, m_rd30 hB, m_N30 hB, m_R30 hB, m_sR30 hB, m_I0, m_sI0, m_I1, m_sI1, m_I5, m_sI5, m_I10, m_sI10, m_I19, m_sI19, m_I26, m_sI26, m_I31, m_sI31, lt_v, bz0, bz1, true_and]
    rw [hn]
    by_cases hk : n ≤ k
    · have e : k = n := by omega
      subst e
      rw [if_pos (nI_le (Nat.le_refl _) (by omega))]
      exact h
    · rw [if_neg (nI_ge (by omega) (by omega))]
      refine ⟨vp_in_nI (by omega) (by omega), ?_⟩
      rw [nIc (by omega)]
      simp only [nI_1, nI_addz]
      have hs := ih (k + 1) (by omega) (by omega) h
      unfold owS at hs
      by_cases c : F 12 k ≤ 0
      · rw [if_pos c] at hs ⊢
        exact hs
      · rw [if_neg c] at hs ⊢
        refine ⟨vp_in_nI (by omega) (by omega), ?_⟩
        by_cases c2 : F 13 k = t
        · rw [if_pos c2] at hs ⊢
          exact ⟨vp_in_nI (by omega) (by omega), hs⟩
        · rw [if_neg c2] at hs ⊢
          exact hs
theorem x9_owed1 (hB : BM B m ad tg) {a : Int32} {nt : Nat} (hn : D 1 = nI nt) (h6 : nt ≤ 6) (hv : a < 0 ∨ nI nt ≤ a) (h : Q 0 (mS B m tg (upD D 31 1) F)) : wp_X9_owed (mS B m tg D F) m a Q := by
  unfold wp_X9_owed
  refine ⟨m_ok hB, x9_isTroop0 hB hn h6 hv ⟨m_ok hB, x9_asks0 hB ?_⟩⟩
  rw [if_pos rfl]
  exact h
theorem x9_owed0 (hB : BM B m ad tg) {n nt i : Nat} (hn : D 5 = nI n) (h24 : n ≤ 24) (hnt : D 1 = nI nt) (h6 : nt ≤ 6) (hi : i < nt) (h : Q (owS F (nI i) n) (mS B m tg (upD D 31 0) F)) : wp_X9_owed (mS B m tg D F) m (nI i) Q := by
  unfold wp_X9_owed
  refine ⟨m_ok hB, x9_isTroop1 hB hnt h6 hi ⟨m_ok hB, x9_asks1 hB ?_⟩⟩
  rw [if_neg (by decide)]
  exact ⟨n + 1, x9_owed_L hB (n := n) (t := nI i) (D := upD D 31 0) hn h24 (n + 1) 0 (by omega) (by omega) h⟩
theorem x9_today (hB : BM B m ad tg) (h : Q (D 0) (mS B m tg (upD D 31 0) F)) : wp_X9_today (mS B m tg D F) m Q := by
  unfold wp_X9_today
  simp only [m_ok hB, m_rd2 hB, m_N2 hB, m_R2 hB, m_sR2 hB, m_rd3 hB, m_N3 hB, m_R3 hB, m_sR3 hB, m_rd4 hB, m_N4 hB, m_R4 hB, m_sR4 hB, m_rd6 hB, m_N6 hB, m_R6 hB, m_sR6 hB, m_rd7 hB, m_N7 hB, m_R7 hB, m_sR7 hB, m_rd8 hB, m_N8 hB, m_R8 hB, m_sR8 hB, m_rd9 hB, m_N9 hB, m_R9 hB, m_sR9 hB, m_rd11 hB, m_N11 hB, m_R11 hB, m_sR11 hB, m_rd12 hB, m_N12 hB, m_R12 hB, m_sR12 hB, m_rd13 hB, m_N13 hB, m_R13 hB, m_sR13 hB, m_rd14 hB, m_N14 hB, m_R14 hB, m_sR14 hB, m_rd15 hB, m_N15 hB, m_R15 hB, m_sR15 hB, m_rd16 hB, m_N16 hB, m_R16 hB, m_sR16 hB, m_rd17 hB, m_N17 hB, m_R17 hB, m_sR17 hB, m_rd18 hB, m_N18 hB, m_R18 hB, m_sR18 hB, m_rd20 hB, m_N20 hB, m_R20 hB, m_sR20 hB, m_rd21 hB, m_N21 hB, m_R21 hB, m_sR21 hB, m_rd22 hB, m_N22 hB, m_R22 hB, m_sR22 hB, m_rd23 hB, m_N23 hB, m_R23 hB, m_sR23 hB, m_rd24 hB, m_N24 hB, m_R24 hB, m_sR24 hB, m_rd25 hB, m_N25 hB, m_R25 hB, m_sR25 hB, m_rd27 hB, m_N27 hB, m_R27 hB, m_sR27 hB, m_rd28 hB, m_N28 hB, m_R28 hB, m_sR28 hB, m_rd29 hB, m_N29 hB, m_R29 hB, m_sR29 hB, m_rd30 hB, m_N30 hB, m_R30 hB, m_sR30 hB, m_I0, m_sI0, m_I1, m_sI1, m_I5, m_sI5, m_I10, m_sI10, m_I19, m_sI19, m_I26, m_sI26, m_I31, m_sI31, lt_v, bz0, bz1, true_and]
  exact h
theorem x9_ofTroop1 (hB : BM B m ad tg) {a b : Int32} {nt : Nat} (hn : D 1 = nI nt) (h6 : nt ≤ 6) (hv : a < 0 ∨ nI nt ≤ a) (h : Q 0 (mS B m tg (upD D 31 1) F)) : wp_X9_ofTroop (mS B m tg D F) m a b Q := by
  unfold wp_X9_ofTroop
  refine ⟨m_ok hB, x9_isTroop0 hB hn h6 hv ⟨m_ok hB, x9_asks0 hB ?_⟩⟩
  rw [if_pos rfl]
  exact h
theorem x9_ofTroop0 (hB : BM B m ad tg) {b : Int32} {n nt i : Nat} (hn : D 5 = nI n) (h24 : n ≤ 24) (hnt : D 1 = nI nt) (h6 : nt ≤ 6) (hi : i < nt) (h : Q (nI (if b = 0 then inT F n (nI i) else waT F n (nI i))) (mS B m tg (upD D 31 0) F)) : wp_X9_ofTroop (mS B m tg D F) m (nI i) b Q := by
  unfold wp_X9_ofTroop
  refine ⟨m_ok hB, x9_isTroop1 hB hnt h6 hi ⟨m_ok hB, x9_asks1 hB ?_⟩⟩
  rw [if_neg (by decide)]
  by_cases hb : b = 0
  · rw [if_pos hb] at h ⊢
    exact ⟨m_ok hB, x9_inTroop hB (n := n) hn h24 h⟩
  · rw [if_neg hb] at h ⊢
    exact ⟨m_ok hB, x9_waiting hB (n := n) hn h24 h⟩
/-! events -/
theorem x9_event1a (hB : BM B m ad tg) {a b c d e f : Int32} {nt : Nat} (hn : D 1 = nI nt) (h6 : nt ≤ 6) (hv : a < 0 ∨ nI nt ≤ a) (h : Q 0 (mS B m tg (upD D 31 1) F)) : wp_X9_event (mS B m tg D F) m a b c d e f Q := by
  unfold wp_X9_event
  refine ⟨m_ok hB, x9_isTroop0 hB hn h6 hv ?_⟩
  rw [if_pos rfl]
  refine ⟨m_ok hB, x9_asks0 hB ?_⟩
  rw [if_pos rfl]
  exact h
theorem x9_event1b (hB : BM B m ad tg) {b c d e f : Int32} {nt i : Nat} (hn : D 1 = nI nt) (h6 : nt ≤ 6) (hi : i < nt) (hv : b < 0 ∨ 2 < b) (h : Q 0 (mS B m tg (upD D 31 1) F)) : wp_X9_event (mS B m tg D F) m (nI i) b c d e f Q := by
  unfold wp_X9_event
  refine ⟨m_ok hB, x9_isTroop1 hB hn h6 hi ?_⟩
  rw [if_neg (by decide)]
  refine x9_isLand0 hv ?_
  rw [if_pos rfl]
  refine ⟨m_ok hB, x9_asks0 hB ?_⟩
  rw [if_pos rfl]
  exact h
def evV (D : Nat → Int32) (c d e f : Int32) : Prop := ¬ (c < 0 ∨ 3 < c) ∧ ¬ (d < D 0 ∨ 9999 < d) ∧ ¬ (e < 0 ∨ 23 < e) ∧ ¬ (f < 1 ∨ 24 - e < f)
theorem x9_event2 (hB : BM B m ad tg) {b c d e f : Int32} {nt i : Nat} (hn : D 1 = nI nt) (h6 : nt ≤ 6) (hi : i < nt) (hv : ¬ (b < 0 ∨ 2 < b)) (hw : ¬ evV D c d e f) (h : Q 0 (mS B m tg (upD (upD D 31 0) 31 2) F)) : wp_X9_event (mS B m tg D F) m (nI i) b c d e f Q := by
  unfold wp_X9_event
  refine ⟨m_ok hB, x9_isTroop1 hB hn h6 hi ?_⟩
  rw [if_neg (by decide)]
  refine x9_isLand1 hv ?_
  rw [if_neg (by decide)]
  refine ⟨m_ok hB, x9_asks1 hB ?_⟩
  rw [if_neg (by decide)]
  by_cases h1 : c < 0 ∨ 3 < c
  · refine x9_in0 h1 ?_
    rw [if_pos rfl]
    exact ⟨m_ok hB, x9_fails hB h⟩
  refine x9_in1 (fun q => h1 (Or.inl q)) (fun q => h1 (Or.inr q)) ?_
  rw [if_neg (by decide)]
  simp only [m_ok hB, m_rd2 hB, m_N2 hB, m_R2 hB, m_sR2 hB, m_rd3 hB, m_N3 hB, m_R3 hB, m_sR3 hB, m_rd4 hB, m_N4 hB, m_R4 hB, m_sR4 hB, m_rd6 hB, m_N6 hB, m_R6 hB, m_sR6 hB, m_rd7 hB, m_N7 hB, m_R7 hB, m_sR7 hB, m_rd8 hB, m_N8 hB, m_R8 hB, m_sR8 hB, m_rd9 hB, m_N9 hB, m_R9 hB, m_sR9 hB, m_rd11 hB, m_N11 hB, m_R11 hB, m_sR11 hB, m_rd12 hB, m_N12 hB, m_R12 hB, m_sR12 hB, m_rd13 hB, m_N13 hB, m_R13 hB, m_sR13 hB, m_rd14 hB, m_N14 hB, m_R14 hB, m_sR14 hB, m_rd15 hB, m_N15 hB, m_R15 hB, m_sR15 hB, m_rd16 hB, m_N16 hB, m_R16 hB, m_sR16 hB, m_rd17 hB, m_N17 hB, m_R17 hB, m_sR17 hB, m_rd18 hB, m_N18 hB, m_R18 hB, m_sR18 hB, m_rd20 hB, m_N20 hB, m_R20 hB, m_sR20 hB, m_rd21 hB, m_N21 hB, m_R21 hB, m_sR21 hB, m_rd22 hB, m_N22 hB, m_R22 hB, m_sR22 hB, m_rd23 hB, m_N23 hB, m_R23 hB, m_sR23 hB, m_rd24 hB, m_N24 hB, m_R24 hB, m_sR24 hB, m_rd25 hB, m_N25 hB, m_R25 hB, m_sR25 hB, m_rd27 hB, m_N27 hB, m_R27 hB, m_sR27 hB, m_rd28 hB, m_N28 hB, m_R28 hB, m_sR28 hB, m_rd29 hB, m_N29 hB, m_R29 hB, m_sR29 hB, m_rd30 hB, m_N30 hB, m_R30 hB, m_sR30 hB, m_I0, m_sI0, m_I1, m_sI1, m_I5, m_sI5, m_I10, m_sI10, m_I19, m_sI19, m_I26, m_sI26, m_I31, m_sI31, lt_v, bz0, bz1, true_and]
  by_cases h2 : d < D 0 ∨ 9999 < d
  · refine x9_in0 h2 ?_
    rw [if_pos rfl]
    exact ⟨m_ok hB, x9_fails hB h⟩
  refine x9_in1 (fun q => h2 (Or.inl q)) (fun q => h2 (Or.inr q)) ?_
  rw [if_neg (by decide)]
  by_cases h3 : e < 0 ∨ 23 < e
  · refine x9_in0 h3 ?_
    rw [if_pos rfl]
    exact ⟨m_ok hB, x9_fails hB h⟩
  refine x9_in1 (fun q => h3 (Or.inl q)) (fun q => h3 (Or.inr q)) ?_
  rw [if_neg (by decide)]
  have h4 : f < 1 ∨ 24 - e < f := by
    by_cases q : f < 1 ∨ 24 - e < f
    · exact q
    · exact absurd ⟨h1, h2, h3, q⟩ hw
  refine x9_in0 h4 ?_
  rw [if_pos rfl]
  exact ⟨m_ok hB, x9_fails hB h⟩
theorem x9_event3 (hB : BM B m ad tg) {b c d e f : Int32} {nt i : Nat} (hn : D 1 = nI nt) (h6 : nt ≤ 6) (hi : i < nt) (hv : ¬ (b < 0 ∨ 2 < b)) (hw : evV D c d e f) (h20 : D 26 = 20) (h : Q 0 (mS B m tg (upD (upD D 31 0) 31 3) F)) : wp_X9_event (mS B m tg D F) m (nI i) b c d e f Q := by
  obtain ⟨h1, h2, h3, h4⟩ := hw
  unfold wp_X9_event
  refine ⟨m_ok hB, x9_isTroop1 hB hn h6 hi ?_⟩
  rw [if_neg (by decide)]
  refine x9_isLand1 hv ?_
  rw [if_neg (by decide)]
  refine ⟨m_ok hB, x9_asks1 hB ?_⟩
  rw [if_neg (by decide)]
  refine x9_in1 (fun q => h1 (Or.inl q)) (fun q => h1 (Or.inr q)) ?_
  rw [if_neg (by decide)]
  simp only [m_ok hB, m_rd2 hB, m_N2 hB, m_R2 hB, m_sR2 hB, m_rd3 hB, m_N3 hB, m_R3 hB, m_sR3 hB, m_rd4 hB, m_N4 hB, m_R4 hB, m_sR4 hB, m_rd6 hB, m_N6 hB, m_R6 hB, m_sR6 hB, m_rd7 hB, m_N7 hB, m_R7 hB, m_sR7 hB, m_rd8 hB, m_N8 hB, m_R8 hB, m_sR8 hB, m_rd9 hB, m_N9 hB, m_R9 hB, m_sR9 hB, m_rd11 hB, m_N11 hB, m_R11 hB, m_sR11 hB, m_rd12 hB, m_N12 hB, m_R12 hB, m_sR12 hB, m_rd13 hB, m_N13 hB, m_R13 hB, m_sR13 hB, m_rd14 hB, m_N14 hB, m_R14 hB, m_sR14 hB, m_rd15 hB, m_N15 hB, m_R15 hB, m_sR15 hB, m_rd16 hB, m_N16 hB, m_R16 hB, m_sR16 hB, m_rd17 hB, m_N17 hB, m_R17 hB, m_sR17 hB, m_rd18 hB, m_N18 hB, m_R18 hB, m_sR18 hB, m_rd20 hB, m_N20 hB, m_R20 hB, m_sR20 hB, m_rd21 hB, m_N21 hB, m_R21 hB, m_sR21 hB, m_rd22 hB, m_N22 hB, m_R22 hB, m_sR22 hB, m_rd23 hB, m_N23 hB, m_R23 hB, m_sR23 hB, m_rd24 hB, m_N24 hB, m_R24 hB, m_sR24 hB, m_rd25 hB, m_N25 hB, m_R25 hB, m_sR25 hB, m_rd27 hB, m_N27 hB, m_R27 hB, m_sR27 hB, m_rd28 hB, m_N28 hB, m_R28 hB, m_sR28 hB, m_rd29 hB, m_N29 hB, m_R29 hB, m_sR29 hB, m_rd30 hB, m_N30 hB, m_R30 hB, m_sR30 hB, m_I0, m_sI0, m_I1, m_sI1, m_I5, m_sI5, m_I10, m_sI10, m_I19, m_sI19, m_I26, m_sI26, m_I31, m_sI31, lt_v, bz0, bz1, true_and]
  refine x9_in1 (fun q => h2 (Or.inl q)) (fun q => h2 (Or.inr q)) ?_
  rw [if_neg (by decide)]
  refine x9_in1 (fun q => h3 (Or.inl q)) (fun q => h3 (Or.inr q)) ?_
  rw [if_neg (by decide)]
  refine x9_in1 (fun q => h4 (Or.inl q)) (fun q => h4 (Or.inr q)) ?_
  rw [if_neg (by decide)]
  simp only [m_ok hB, m_rd2 hB, m_N2 hB, m_R2 hB, m_sR2 hB, m_rd3 hB, m_N3 hB, m_R3 hB, m_sR3 hB, m_rd4 hB, m_N4 hB, m_R4 hB, m_sR4 hB, m_rd6 hB, m_N6 hB, m_R6 hB, m_sR6 hB, m_rd7 hB, m_N7 hB, m_R7 hB, m_sR7 hB, m_rd8 hB, m_N8 hB, m_R8 hB, m_sR8 hB, m_rd9 hB, m_N9 hB, m_R9 hB, m_sR9 hB, m_rd11 hB, m_N11 hB, m_R11 hB, m_sR11 hB, m_rd12 hB, m_N12 hB, m_R12 hB, m_sR12 hB, m_rd13 hB, m_N13 hB, m_R13 hB, m_sR13 hB, m_rd14 hB, m_N14 hB, m_R14 hB, m_sR14 hB, m_rd15 hB, m_N15 hB, m_R15 hB, m_sR15 hB, m_rd16 hB, m_N16 hB, m_R16 hB, m_sR16 hB, m_rd17 hB, m_N17 hB, m_R17 hB, m_sR17 hB, m_rd18 hB, m_N18 hB, m_R18 hB, m_sR18 hB, m_rd20 hB, m_N20 hB, m_R20 hB, m_sR20 hB, m_rd21 hB, m_N21 hB, m_R21 hB, m_sR21 hB, m_rd22 hB, m_N22 hB, m_R22 hB, m_sR22 hB, m_rd23 hB, m_N23 hB, m_R23 hB, m_sR23 hB, m_rd24 hB, m_N24 hB, m_R24 hB, m_sR24 hB, m_rd25 hB, m_N25 hB, m_R25 hB, m_sR25 hB, m_rd27 hB, m_N27 hB, m_R27 hB, m_sR27 hB, m_rd28 hB, m_N28 hB, m_R28 hB, m_sR28 hB, m_rd29 hB, m_N29 hB, m_R29 hB, m_sR29 hB, m_rd30 hB, m_N30 hB, m_R30 hB, m_sR30 hB, m_I0, m_sI0, m_I1, m_sI1, m_I5, m_sI5, m_I10, m_sI10, m_I19, m_sI19, m_I26, m_sI26, m_I31, m_sI31, lt_v, bz0, bz1, true_and]
  rw [if_pos (show upD D 31 0 26 = 20 from h20)]
  exact x9_fails hB h
def evnF (F : Nat → Nat → Int32) (k : Nat) (a b c d e f : Int32) : Nat → Nat → Int32 := g_2 (g_2 (g_2 (g_2 (g_2 (g_2 F 27 (6 * k) a) 27 (6 * k + 1) b) 27 (6 * k + 2) c) 27 (6 * k + 3) d) 27 (6 * k + 4) e) 27 (6 * k + 5) f
theorem six {k : Nat} : (6 : Int32) * nI k = nI (6 * k) := nI_mul 6 k
theorem x9_event0 (hB : BM B m ad tg) {b c d e f : Int32} {nt i k : Nat} (hn : D 1 = nI nt) (h6 : nt ≤ 6) (hi : i < nt) (hv : ¬ (b < 0 ∨ 2 < b)) (hw : evV D c d e f) (hk : D 26 = nI k) (h20 : k < 20) (h : Q (nI k) (mS B m tg (upD (upD D 31 0) 26 (nI (k + 1))) (evnF F k (nI i) b c d e f))) : wp_X9_event (mS B m tg D F) m (nI i) b c d e f Q := by
  obtain ⟨h1, h2, h3, h4⟩ := hw
  unfold wp_X9_event
  refine ⟨m_ok hB, x9_isTroop1 hB hn h6 hi ?_⟩
  rw [if_neg (by decide)]
  refine x9_isLand1 hv ?_
  rw [if_neg (by decide)]
  refine ⟨m_ok hB, x9_asks1 hB ?_⟩
  rw [if_neg (by decide)]
  refine x9_in1 (fun q => h1 (Or.inl q)) (fun q => h1 (Or.inr q)) ?_
  rw [if_neg (by decide)]
  simp only [m_ok hB, m_rd2 hB, m_N2 hB, m_R2 hB, m_sR2 hB, m_rd3 hB, m_N3 hB, m_R3 hB, m_sR3 hB, m_rd4 hB, m_N4 hB, m_R4 hB, m_sR4 hB, m_rd6 hB, m_N6 hB, m_R6 hB, m_sR6 hB, m_rd7 hB, m_N7 hB, m_R7 hB, m_sR7 hB, m_rd8 hB, m_N8 hB, m_R8 hB, m_sR8 hB, m_rd9 hB, m_N9 hB, m_R9 hB, m_sR9 hB, m_rd11 hB, m_N11 hB, m_R11 hB, m_sR11 hB, m_rd12 hB, m_N12 hB, m_R12 hB, m_sR12 hB, m_rd13 hB, m_N13 hB, m_R13 hB, m_sR13 hB, m_rd14 hB, m_N14 hB, m_R14 hB, m_sR14 hB, m_rd15 hB, m_N15 hB, m_R15 hB, m_sR15 hB, m_rd16 hB, m_N16 hB, m_R16 hB, m_sR16 hB, m_rd17 hB, m_N17 hB, m_R17 hB, m_sR17 hB, m_rd18 hB, m_N18 hB, m_R18 hB, m_sR18 hB, m_rd20 hB, m_N20 hB, m_R20 hB, m_sR20 hB, m_rd21 hB, m_N21 hB, m_R21 hB, m_sR21 hB, m_rd22 hB, m_N22 hB, m_R22 hB, m_sR22 hB, m_rd23 hB, m_N23 hB, m_R23 hB, m_sR23 hB, m_rd24 hB, m_N24 hB, m_R24 hB, m_sR24 hB, m_rd25 hB, m_N25 hB, m_R25 hB, m_sR25 hB, m_rd27 hB, m_N27 hB, m_R27 hB, m_sR27 hB, m_rd28 hB, m_N28 hB, m_R28 hB, m_sR28 hB, m_rd29 hB, m_N29 hB, m_R29 hB, m_sR29 hB, m_rd30 hB, m_N30 hB, m_R30 hB, m_sR30 hB, m_I0, m_sI0, m_I1, m_sI1, m_I5, m_sI5, m_I10, m_sI10, m_I19, m_sI19, m_I26, m_sI26, m_I31, m_sI31, lt_v, bz0, bz1, true_and]
  refine x9_in1 (fun q => h2 (Or.inl q)) (fun q => h2 (Or.inr q)) ?_
  rw [if_neg (by decide)]
  refine x9_in1 (fun q => h3 (Or.inl q)) (fun q => h3 (Or.inr q)) ?_
  rw [if_neg (by decide)]
  refine x9_in1 (fun q => h4 (Or.inl q)) (fun q => h4 (Or.inr q)) ?_
  rw [if_neg (by decide)]
  simp only [m_ok hB, m_rd2 hB, m_N2 hB, m_R2 hB, m_sR2 hB, m_rd3 hB, m_N3 hB, m_R3 hB, m_sR3 hB, m_rd4 hB, m_N4 hB, m_R4 hB, m_sR4 hB, m_rd6 hB, m_N6 hB, m_R6 hB, m_sR6 hB, m_rd7 hB, m_N7 hB, m_R7 hB, m_sR7 hB, m_rd8 hB, m_N8 hB, m_R8 hB, m_sR8 hB, m_rd9 hB, m_N9 hB, m_R9 hB, m_sR9 hB, m_rd11 hB, m_N11 hB, m_R11 hB, m_sR11 hB, m_rd12 hB, m_N12 hB, m_R12 hB, m_sR12 hB, m_rd13 hB, m_N13 hB, m_R13 hB, m_sR13 hB, m_rd14 hB, m_N14 hB, m_R14 hB, m_sR14 hB, m_rd15 hB, m_N15 hB, m_R15 hB, m_sR15 hB, m_rd16 hB, m_N16 hB, m_R16 hB, m_sR16 hB, m_rd17 hB, m_N17 hB, m_R17 hB, m_sR17 hB, m_rd18 hB, m_N18 hB, m_R18 hB, m_sR18 hB, m_rd20 hB, m_N20 hB, m_R20 hB, m_sR20 hB, m_rd21 hB, m_N21 hB, m_R21 hB, m_sR21 hB, m_rd22 hB, m_N22 hB, m_R22 hB, m_sR22 hB, m_rd23 hB, m_N23 hB, m_R23 hB, m_sR23 hB, m_rd24 hB, m_N24 hB, m_R24 hB, m_sR24 hB, m_rd25 hB, m_N25 hB, m_R25 hB, m_sR25 hB, m_rd27 hB, m_N27 hB, m_R27 hB, m_sR27 hB, m_rd28 hB, m_N28 hB, m_R28 hB, m_sR28 hB, m_rd29 hB, m_N29 hB, m_R29 hB, m_sR29 hB, m_rd30 hB, m_N30 hB, m_R30 hB, m_sR30 hB, m_I0, m_sI0, m_I1, m_sI1, m_I5, m_sI5, m_I10, m_sI10, m_I19, m_sI19, m_I26, m_sI26, m_I31, m_sI31, lt_v, bz0, bz1, true_and]
  rw [show upD D 31 0 26 = nI k from hk, if_neg (show ¬ nI k = 20 from nI_ne (b := 20) (by omega) (by omega) (by omega)), six]
  rw [nI_k _ 1, nI_k _ 2, nI_k _ 3, nI_k _ 4, nI_k _ 5]
  refine ⟨vp_in_nI (by omega) (by omega), vp_in_nI (by omega) (by omega), vp_in_nI (by omega) (by omega), vp_in_nI (by omega) (by omega), vp_in_nI (by omega) (by omega), vp_in_nI (by omega) (by omega), ?_⟩
  rw [nIc (show 6 * k < 2 ^ 31 by omega), nIc (show 6 * k + 1 < 2 ^ 31 by omega), nIc (show 6 * k + 2 < 2 ^ 31 by omega), nIc (show 6 * k + 3 < 2 ^ 31 by omega), nIc (show 6 * k + 4 < 2 ^ 31 by omega), nIc (show 6 * k + 5 < 2 ^ 31 by omega), nI_k _ 1]
  rw [show upD (upD D 31 0) 26 (nI (k + 1)) 26 - 1 = nI k from nI_pred k]
  exact h
/-- two events meet -/
def meB (F : Nat → Nat → Int32) (a b : Nat) : Bool := decide (F 27 (6 * a + 3) = F 27 (6 * b + 3)) && !decide (F 27 (6 * b + 4) + F 27 (6 * b + 5) ≤ F 27 (6 * a + 4)) && !decide (F 27 (6 * a + 4) + F 27 (6 * a + 5) ≤ F 27 (6 * b + 4))
theorem x9_meet (hB : BM B m ad tg) {a b : Nat} (ha : a < 20) (hb : b < 20) (h : Q (bI (meB F a b)) (mS B m tg D F)) : wp_X9_meet (mS B m tg D F) m (nI a) (nI b) Q := by
  unfold wp_X9_meet
  simp only [m_ok hB, m_rd2 hB, m_N2 hB, m_R2 hB, m_sR2 hB, m_rd3 hB, m_N3 hB, m_R3 hB, m_sR3 hB, m_rd4 hB, m_N4 hB, m_R4 hB, m_sR4 hB, m_rd6 hB, m_N6 hB, m_R6 hB, m_sR6 hB, m_rd7 hB, m_N7 hB, m_R7 hB, m_sR7 hB, m_rd8 hB, m_N8 hB, m_R8 hB, m_sR8 hB, m_rd9 hB, m_N9 hB, m_R9 hB, m_sR9 hB, m_rd11 hB, m_N11 hB, m_R11 hB, m_sR11 hB, m_rd12 hB, m_N12 hB, m_R12 hB, m_sR12 hB, m_rd13 hB, m_N13 hB, m_R13 hB, m_sR13 hB, m_rd14 hB, m_N14 hB, m_R14 hB, m_sR14 hB, m_rd15 hB, m_N15 hB, m_R15 hB, m_sR15 hB, m_rd16 hB, m_N16 hB, m_R16 hB, m_sR16 hB, m_rd17 hB, m_N17 hB, m_R17 hB, m_sR17 hB, m_rd18 hB, m_N18 hB, m_R18 hB, m_sR18 hB, m_rd20 hB, m_N20 hB, m_R20 hB, m_sR20 hB, m_rd21 hB, m_N21 hB, m_R21 hB, m_sR21 hB, m_rd22 hB, m_N22 hB, m_R22 hB, m_sR22 hB, m_rd23 hB, m_N23 hB, m_R23 hB, m_sR23 hB, m_rd24 hB, m_N24 hB, m_R24 hB, m_sR24 hB, m_rd25 hB, m_N25 hB, m_R25 hB, m_sR25 hB, m_rd27 hB, m_N27 hB, m_R27 hB, m_sR27 hB, m_rd28 hB, m_N28 hB, m_R28 hB, m_sR28 hB, m_rd29 hB, m_N29 hB, m_R29 hB, m_sR29 hB, m_rd30 hB, m_N30 hB, m_R30 hB, m_sR30 hB, m_I0, m_sI0, m_I1, m_sI1, m_I5, m_sI5, m_I10, m_sI10, m_I19, m_sI19, m_I26, m_sI26, m_I31, m_sI31, lt_v, bz0, bz1, true_and]
  rw [six, six]
  rw [nI_k (6 * a) 3, nI_k (6 * b) 3, nI_k (6 * a) 4, nI_k (6 * b) 4, nI_k (6 * a) 5, nI_k (6 * b) 5]
  refine ⟨vp_in_nI (by omega) (by omega), vp_in_nI (by omega) (by omega), ?_⟩
  rw [nIc (show 6 * a + 3 < 2 ^ 31 by omega), nIc (show 6 * b + 3 < 2 ^ 31 by omega), nIc (show 6 * a + 4 < 2 ^ 31 by omega), nIc (show 6 * b + 4 < 2 ^ 31 by omega), nIc (show 6 * a + 5 < 2 ^ 31 by omega), nIc (show 6 * b + 5 < 2 ^ 31 by omega)]
  unfold meB at h
  by_cases h1 : F 27 (6 * a + 3) = F 27 (6 * b + 3)
  · rw [if_pos h1]
    refine ⟨vp_in_nI (by omega) (by omega), vp_in_nI (by omega) (by omega), vp_in_nI (by omega) (by omega), ?_⟩
    by_cases h2 : F 27 (6 * b + 4) + F 27 (6 * b + 5) ≤ F 27 (6 * a + 4)
    · rw [if_pos h2]
      simpa [h1, h2, bI] using h
    · rw [if_neg h2]
      refine ⟨vp_in_nI (by omega) (by omega), vp_in_nI (by omega) (by omega), vp_in_nI (by omega) (by omega), ?_⟩
      by_cases h3 : F 27 (6 * a + 4) + F 27 (6 * a + 5) ≤ F 27 (6 * b + 4)
      · rw [if_pos h3]
        simpa [h1, h2, h3, bI] using h
      · rw [if_neg h3]
        simpa [h1, h2, h3, bI] using h
  · rw [if_neg h1]
    simpa [h1, bI] using h
/-- some k below n -/
def anB (p : Nat → Bool) : Nat → Bool
  | 0 => false
  | k + 1 => anB p k || p k
theorem anB_true (p : Nat → Bool) : ∀ n, anB p n = true ↔ ∃ k, k < n ∧ p k = true
  | 0 => by simp [anB]
  | n + 1 => by
    simp only [anB, Bool.or_eq_true, anB_true p n]
    constructor
    · rintro (⟨k, h1, h2⟩ | h)
      · exact ⟨k, by omega, h2⟩
      · exact ⟨n, by omega, h⟩
    · rintro ⟨k, h1, h2⟩
      by_cases e : k = n
      · subst e
        exact Or.inr h2
      · exact Or.inl ⟨k, by omega, h2⟩
theorem anB_cong {p q : Nat → Bool} : ∀ {n : Nat}, (∀ k, k < n → p k = q k) → anB p n = anB q n
  | 0, _ => rfl
  | n + 1, h => by
    simp only [anB]
    rw [anB_cong (fun k hk => h k (by omega)), h n (by omega)]
/-- the leaders told for event e, as a number -/
def sN (F : Nat → Nat → Int32) (e : Nat) : Nat := (F 28 e).toNatClampNeg
def SN (F : Nat → Nat → Int32) (n : Nat) : Prop := ∀ e, e < n → F 28 e = nI (sN F e) ∧ sN F e < 256
def bsB (F : Nat → Nat → Int32) (l e : Nat) (k : Nat) : Bool := !decide (k = e) && (sN F k).testBit l && meB F k e
def clr (s l : Nat) : Nat := if s.testBit l then s - 2 ^ l else s
def setb (s l : Nat) : Nat := s ||| 2 ^ l
theorem clr_ok : ∀ s, s < 256 → ∀ l, l < 8 → nI s &&& (((1 : Int32) <<< (nI l &&& 31)) ^^^ (-1 : Int32)) = nI (clr s l) ∧ clr s l < 256 := by decide +kernel
theorem setb_ok : ∀ s, s < 256 → ∀ l, l < 8 → nI s ||| ((1 : Int32) <<< (nI l &&& 31)) = nI (setb s l) ∧ setb s l < 256 := by decide +kernel
theorem bit_iff {s k : Nat} (hs : s < 2 ^ 31) (hk : k < 32) : ((nI s >>> (nI k &&& 31)) &&& 1 = (1 : Int32)) ↔ s.testBit k = true := by
  rw [bit_nI hs hk]
  unfold bN
  cases s.testBit k <;> decide
theorem bI1 (b : Bool) : bI b = 1 ↔ b = true := by cases b <;> decide
theorem x9_staff_end (hB : BM B m ad tg) {e l s : Nat} {is : Int32} (he : e < 20) (hl : l < 8) (hF : F 28 e = nI s) (hs : s < 256) (h : Q (nI (pop (if is = 0 then clr s l else setb s l) 16)) (mS B m tg D (g_2 F 28 e (nI (if is = 0 then clr s l else setb s l))))) :
    (if is = 0 then (rd (mS B m tg D F) 11 (g_P (mS B m tg D F) 928 m) (fun a8 => vp_in (nI e) (g_N (mS B m tg D F) a8) ∧ (rd (mS B m tg D F) 11 (g_P (mS B m tg D F) 928 m) (fun a12 => vp_in (nI e) (g_N (mS B m tg D F) a12) ∧ (lt (s_R (mS B m tg D F) a12 (nI e).toNatClampNeg ((g_R (mS B m tg D F) a8 (nI e).toNatClampNeg) &&& (((1 : Int32) <<< (nI l &&& 31)) ^^^ (-1 : Int32)))) (fun S16 => okA S16 9 m ∧ (rd S16 11 (g_P S16 928 m) (fun a18 => vp_in (nI e) (g_N S16 a18) ∧ (wp_X9_ones S16 (g_R S16 a18 (nI e).toNatClampNeg) (fun r23 S22 => Q r23 S22)))))))))) else (rd (mS B m tg D F) 11 (g_P (mS B m tg D F) 928 m) (fun a24 => vp_in (nI e) (g_N (mS B m tg D F) a24) ∧ (rd (mS B m tg D F) 11 (g_P (mS B m tg D F) 928 m) (fun a28 => vp_in (nI e) (g_N (mS B m tg D F) a28) ∧ (lt (s_R (mS B m tg D F) a28 (nI e).toNatClampNeg ((g_R (mS B m tg D F) a24 (nI e).toNatClampNeg) ||| ((1 : Int32) <<< (nI l &&& 31)))) (fun S32 => okA S32 9 m ∧ (rd S32 11 (g_P S32 928 m) (fun a34 => vp_in (nI e) (g_N S32 a34) ∧ (wp_X9_ones S32 (g_R S32 a34 (nI e).toNatClampNeg) (fun r39 S38 => Q r39 S38))))))))))) := by
  have hc : (nI e).toNatClampNeg = e := nIc (by omega)
  have vin : vp_in (nI e) 20 = True := eq_true (vp_in_nI (by omega) (by omega))
  obtain ⟨c1, c2⟩ := clr_ok s hs l hl
  obtain ⟨d1, d2⟩ := setb_ok s hs l hl
  by_cases hi : is = 0
  · rw [if_pos hi] at h
    rw [if_pos hi]
    simp only [m_ok hB, m_rd2 hB, m_N2 hB, m_R2 hB, m_sR2 hB, m_rd3 hB, m_N3 hB, m_R3 hB, m_sR3 hB, m_rd4 hB, m_N4 hB, m_R4 hB, m_sR4 hB, m_rd6 hB, m_N6 hB, m_R6 hB, m_sR6 hB, m_rd7 hB, m_N7 hB, m_R7 hB, m_sR7 hB, m_rd8 hB, m_N8 hB, m_R8 hB, m_sR8 hB, m_rd9 hB, m_N9 hB, m_R9 hB, m_sR9 hB, m_rd11 hB, m_N11 hB, m_R11 hB, m_sR11 hB, m_rd12 hB, m_N12 hB, m_R12 hB, m_sR12 hB, m_rd13 hB, m_N13 hB, m_R13 hB, m_sR13 hB, m_rd14 hB, m_N14 hB, m_R14 hB, m_sR14 hB, m_rd15 hB, m_N15 hB, m_R15 hB, m_sR15 hB, m_rd16 hB, m_N16 hB, m_R16 hB, m_sR16 hB, m_rd17 hB, m_N17 hB, m_R17 hB, m_sR17 hB, m_rd18 hB, m_N18 hB, m_R18 hB, m_sR18 hB, m_rd20 hB, m_N20 hB, m_R20 hB, m_sR20 hB, m_rd21 hB, m_N21 hB, m_R21 hB, m_sR21 hB, m_rd22 hB, m_N22 hB, m_R22 hB, m_sR22 hB, m_rd23 hB, m_N23 hB, m_R23 hB, m_sR23 hB, m_rd24 hB, m_N24 hB, m_R24 hB, m_sR24 hB, m_rd25 hB, m_N25 hB, m_R25 hB, m_sR25 hB, m_rd27 hB, m_N27 hB, m_R27 hB, m_sR27 hB, m_rd28 hB, m_N28 hB, m_R28 hB, m_sR28 hB, m_rd29 hB, m_N29 hB, m_R29 hB, m_sR29 hB, m_rd30 hB, m_N30 hB, m_R30 hB, m_sR30 hB, m_I0, m_sI0, m_I1, m_sI1, m_I5, m_sI5, m_I10, m_sI10, m_I19, m_sI19, m_I26, m_sI26, m_I31, m_sI31, lt_v, bz0, bz1, true_and, hc, vin, hF, c1, g_2s]
    exact x9_ones (by omega) h
  · rw [if_neg hi] at h
    rw [if_neg hi]
    simp only [m_ok hB, m_rd2 hB, m_N2 hB, m_R2 hB, m_sR2 hB, m_rd3 hB, m_N3 hB, m_R3 hB, m_sR3 hB, m_rd4 hB, m_N4 hB, m_R4 hB, m_sR4 hB, m_rd6 hB, m_N6 hB, m_R6 hB, m_sR6 hB, m_rd7 hB, m_N7 hB, m_R7 hB, m_sR7 hB, m_rd8 hB, m_N8 hB, m_R8 hB, m_sR8 hB, m_rd9 hB, m_N9 hB, m_R9 hB, m_sR9 hB, m_rd11 hB, m_N11 hB, m_R11 hB, m_sR11 hB, m_rd12 hB, m_N12 hB, m_R12 hB, m_sR12 hB, m_rd13 hB, m_N13 hB, m_R13 hB, m_sR13 hB, m_rd14 hB, m_N14 hB, m_R14 hB, m_sR14 hB, m_rd15 hB, m_N15 hB, m_R15 hB, m_sR15 hB, m_rd16 hB, m_N16 hB, m_R16 hB, m_sR16 hB, m_rd17 hB, m_N17 hB, m_R17 hB, m_sR17 hB, m_rd18 hB, m_N18 hB, m_R18 hB, m_sR18 hB, m_rd20 hB, m_N20 hB, m_R20 hB, m_sR20 hB, m_rd21 hB, m_N21 hB, m_R21 hB, m_sR21 hB, m_rd22 hB, m_N22 hB, m_R22 hB, m_sR22 hB, m_rd23 hB, m_N23 hB, m_R23 hB, m_sR23 hB, m_rd24 hB, m_N24 hB, m_R24 hB, m_sR24 hB, m_rd25 hB, m_N25 hB, m_R25 hB, m_sR25 hB, m_rd27 hB, m_N27 hB, m_R27 hB, m_sR27 hB, m_rd28 hB, m_N28 hB, m_R28 hB, m_sR28 hB, m_rd29 hB, m_N29 hB, m_R29 hB, m_sR29 hB, m_rd30 hB, m_N30 hB, m_R30 hB, m_sR30 hB, m_I0, m_sI0, m_I1, m_sI1, m_I5, m_sI5, m_I10, m_sI10, m_I19, m_sI19, m_I26, m_sI26, m_I31, m_sI31, lt_v, bz0, bz1, true_and, hc, vin, hF, d1, g_2s]
    exact x9_ones (by omega) h
theorem x9_staff_L (hB : BM B m ad tg) {n e l : Nat} {is : Int32} (hn : D 26 = nI n) (h20 : n ≤ 20) (he : e < n) (hl : l < 8) (hS : SN F n)
    (h2 : ¬ is = 0 → anB (bsB F l e) n = true → Q 0 (mS B m tg (upD D 31 2) F))
    (h0 : is = 0 ∨ anB (bsB F l e) n = false → Q (nI (pop (if is = 0 then clr (sN F e) l else setb (sN F e) l) 16)) (mS B m tg D (g_2 F 28 e (nI (if is = 0 then clr (sN F e) l else setb (sN F e) l))))) :
    ∀ (fuel k : Nat), k ≤ n → n < k + fuel → wp_X9_staff_L36 m (nI e) (nI l) is Q fuel (mS B m tg D F) (bI (anB (bsB F l e) k)) (nI k) := by
  intro fuel
  induction fuel with
  | zero => intro k h1 h2; omega
  | succ f ih =>
    intro k h1 h3
    unfold wp_X9_staff_L36
    refine ⟨m_ok hB, ?_⟩
    rw [m_I26, hn]
    by_cases hk : n ≤ k
    · have ek : k = n := by omega
      subst ek
      rw [if_pos (nI_le (Nat.le_refl _) (by omega))]
      have hend := fun hq => x9_staff_end (Q := Q) (D := D) hB (is := is) (show e < 20 by omega) hl (hS e he).1 (hS e he).2 (h0 hq)
      by_cases hi : is = 0
      · have hq := hend (Or.inl hi)
        rw [if_pos hi] at hq
        rw [if_pos hi, if_pos hi]
        exact hq
      · rw [if_neg hi]
        cases hb : anB (bsB F l e) k with
        | true =>
          rw [if_neg (show ¬ bI true = 0 by decide)]
          exact x9_fails hB (h2 hi hb)
        | false =>
          rw [if_pos (show bI false = 0 from rfl)]
          exact hend (Or.inr hb)
    · rw [if_neg (nI_ge (by omega) (by omega)), nI_1]
      have hs := ih (k + 1) (by omega) (by omega)
      unfold anB at hs
      cases hb : anB (bsB F l e) k with
      | true =>
        rw [hb] at hs
        rw [if_neg (show ¬ bI true = 0 by decide)]
        exact hs
      | false =>
        rw [hb] at hs
        rw [if_pos (show bI false = 0 from rfl)]
        by_cases hke : k = e
        · rw [if_pos (by rw [hke])]
          have : bsB F l e k = false := by simp [bsB, hke]
          rw [this] at hs
          exact hs
        · rw [if_neg (nI_ne (by omega) (by omega) hke)]
          simp only [m_ok hB, m_rd2 hB, m_N2 hB, m_R2 hB, m_sR2 hB, m_rd3 hB, m_N3 hB, m_R3 hB, m_sR3 hB, m_rd4 hB, m_N4 hB, m_R4 hB, m_sR4 hB, m_rd6 hB, m_N6 hB, m_R6 hB, m_sR6 hB, m_rd7 hB, m_N7 hB, m_R7 hB, m_sR7 hB, m_rd8 hB, m_N8 hB, m_R8 hB, m_sR8 hB, m_rd9 hB, m_N9 hB, m_R9 hB, m_sR9 hB, m_rd11 hB, m_N11 hB, m_R11 hB, m_sR11 hB, m_rd12 hB, m_N12 hB, m_R12 hB, m_sR12 hB, m_rd13 hB, m_N13 hB, m_R13 hB, m_sR13 hB, m_rd14 hB, m_N14 hB, m_R14 hB, m_sR14 hB, m_rd15 hB, m_N15 hB, m_R15 hB, m_sR15 hB, m_rd16 hB, m_N16 hB, m_R16 hB, m_sR16 hB, m_rd17 hB, m_N17 hB, m_R17 hB, m_sR17 hB, m_rd18 hB, m_N18 hB, m_R18 hB, m_sR18 hB, m_rd20 hB, m_N20 hB, m_R20 hB, m_sR20 hB, m_rd21 hB, m_N21 hB, m_R21 hB, m_sR21 hB, m_rd22 hB, m_N22 hB, m_R22 hB, m_sR22 hB, m_rd23 hB, m_N23 hB, m_R23 hB, m_sR23 hB, m_rd24 hB, m_N24 hB, m_R24 hB, m_sR24 hB, m_rd25 hB, m_N25 hB, m_R25 hB, m_sR25 hB, m_rd27 hB, m_N27 hB, m_R27 hB, m_sR27 hB, m_rd28 hB, m_N28 hB, m_R28 hB, m_sR28 hB, m_rd29 hB, m_N29 hB, m_R29 hB, m_sR29 hB, m_rd30 hB, m_N30 hB, m_R30 hB, m_sR30 hB, m_I0, m_sI0, m_I1, m_sI1, m_I5, m_sI5, m_I10, m_sI10, m_I19, m_sI19, m_I26, m_sI26, m_I31, m_sI31, lt_v, bz0, bz1, true_and]
          refine ⟨vp_in_nI (by omega) (by omega), ?_⟩
          obtain ⟨s1, s2⟩ := hS k (by omega)
          rw [nIc (by omega), s1]
          cases ht : (sN F k).testBit l with
          | true =>
            rw [if_pos ((bit_iff (by omega) (by omega)).mpr ht)]
            refine x9_meet hB (by omega) (by omega) ?_
            have eb : bsB F l e k = meB F k e := by simp [bsB, hke, ht]
            rw [eb] at hs
            cases hm : meB F k e with
            | true =>
              rw [hm] at hs
              rw [if_neg (show ¬ bI true = 0 by decide)]
              exact hs
            | false =>
              rw [hm] at hs
              rw [if_pos (show bI false = 0 from rfl)]
              exact hs
          | false =>
            rw [if_neg (fun q => by rw [bit_iff (by omega) (by omega), ht] at q; exact absurd q (by decide))]
            have eb : bsB F l e k = false := by simp [bsB, ht]
            rw [eb] at hs
            exact hs
theorem x9_staff1a (hB : BM B m ad tg) {a b c : Int32} {n : Nat} (hn : D 26 = nI n) (h20 : n ≤ 20) (hv : a < 0 ∨ nI n ≤ a) (h : Q 0 (mS B m tg (upD D 31 1) F)) : wp_X9_staff (mS B m tg D F) m a b c Q := by
  unfold wp_X9_staff
  refine ⟨m_ok hB, x9_isEvent0 hB hn h20 hv ?_⟩
  rw [if_pos rfl]
  refine ⟨m_ok hB, x9_asks0 hB ?_⟩
  rw [if_pos rfl]
  exact h
theorem x9_staff1b (hB : BM B m ad tg) {b c : Int32} {n e k : Nat} (hn : D 26 = nI n) (h20 : n ≤ 20) (he : e < n) (hk : D 19 = nI k) (h8 : k ≤ 8) (hv : b < 0 ∨ nI k ≤ b) (h : Q 0 (mS B m tg (upD D 31 1) F)) : wp_X9_staff (mS B m tg D F) m (nI e) b c Q := by
  unfold wp_X9_staff
  refine ⟨m_ok hB, x9_isEvent1 hB hn h20 he ?_⟩
  rw [if_neg (by decide)]
  refine ⟨m_ok hB, x9_isLeader0 hB hk h8 hv ?_⟩
  rw [if_pos rfl]
  refine ⟨m_ok hB, x9_asks0 hB ?_⟩
  rw [if_pos rfl]
  exact h
theorem x9_staff (hB : BM B m ad tg) {c : Int32} {n e k l : Nat} (hn : D 26 = nI n) (h20 : n ≤ 20) (he : e < n) (hk : D 19 = nI k) (h8 : k ≤ 8) (hl : l < k) (hS : SN F n)
    (h2 : ¬ c = 0 → anB (bsB F l e) n = true → Q 0 (mS B m tg (upD (upD D 31 0) 31 2) F))
    (h0 : c = 0 ∨ anB (bsB F l e) n = false → Q (nI (pop (if c = 0 then clr (sN F e) l else setb (sN F e) l) 16)) (mS B m tg (upD D 31 0) (g_2 F 28 e (nI (if c = 0 then clr (sN F e) l else setb (sN F e) l))))) : wp_X9_staff (mS B m tg D F) m (nI e) (nI l) c Q := by
  unfold wp_X9_staff
  refine ⟨m_ok hB, x9_isEvent1 hB hn h20 he ?_⟩
  rw [if_neg (by decide)]
  refine ⟨m_ok hB, x9_isLeader1 hB hk h8 hl ?_⟩
  rw [if_neg (by decide)]
  refine ⟨m_ok hB, x9_asks1 hB ?_⟩
  rw [if_neg (by decide)]
  exact ⟨n + 1, x9_staff_L hB (D := upD D 31 0) (n := n) hn h20 he (by omega) hS h2 h0 (n + 1) 0 (by omega) (by omega)⟩
end MREST
