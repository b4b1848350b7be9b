/-! THE REFERENCE: child, join, leave, patrol, duty, pass -/
section MCHILD
variable {B : Hp} {m : Nat} {ad tg : Nat → Nat} {D : Nat → Int32} {F : Nat → Nat → Int32} {Q : Int32 → Hp → Prop} {S : Hp}
theorem x9_child1 (hB : BM B m ad tg) {a : Int32} (hv : a < 5 ∨ 17 < a) (h : Q 0 (mS B m tg (upD D 31 1) F)) : wp_X9_child (mS B m tg D F) m a Q := by
  unfold wp_X9_child
  refine x9_in0 hv ⟨m_ok hB, x9_asks0 hB ?_⟩
  rw [if_pos rfl]
  exact h
theorem nI_ne {a b : Nat} (ha : a < 2 ^ 31) (hb : b < 2 ^ 31) (h : a ≠ b) : ¬ nI a = nI b := fun q => h ((nI_eq ha hb).mp q)
theorem x9_child2 (hB : BM B m ad tg) {a : Int32} (hv : ¬ (a < 5 ∨ 17 < a)) (hn : D 5 = 24) (h : Q 0 (mS B m tg (upD (upD D 31 0) 31 2) F)) : wp_X9_child (mS B m tg D F) m a Q := by
  unfold wp_X9_child
  refine x9_in1 (fun q => hv (Or.inl q)) (fun q => hv (Or.inr q)) ⟨m_ok hB, x9_asks1 hB ?_⟩
  rw [if_neg (by decide)]
  simp only [m_ok hB, m_rd2 hB, m_N2 hB, m_R2 hB, m_sR2 hB, m_rd3 hB, m_N3 hB, m_R3 hB, m_sR3 hB, m_rd4 hB, m_N4 hB, m_R4 hB, m_sR4 hB, m_rd6 hB, m_N6 hB, m_R6 hB, m_sR6 hB, m_rd7 hB, m_N7 hB, m_R7 hB, m_sR7 hB, m_rd8 hB, m_N8 hB, m_R8 hB, m_sR8 hB, m_rd9 hB, m_N9 hB, m_R9 hB, m_sR9 hB, m_rd11 hB, m_N11 hB, m_R11 hB, m_sR11 hB, m_rd12 hB, m_N12 hB, m_R12 hB, m_sR12 hB, m_rd13 hB, m_N13 hB, m_R13 hB, m_sR13 hB, m_rd14 hB, m_N14 hB, m_R14 hB, m_sR14 hB, m_rd15 hB, m_N15 hB, m_R15 hB, m_sR15 hB, m_rd16 hB, m_N16 hB, m_R16 hB, m_sR16 hB, m_rd17 hB, m_N17 hB, m_R17 hB, m_sR17 hB, m_rd18 hB, m_N18 hB, m_R18 hB, m_sR18 hB, m_rd20 hB, m_N20 hB, m_R20 hB, m_sR20 hB, m_rd21 hB, m_N21 hB, m_R21 hB, m_sR21 hB, m_rd22 hB, m_N22 hB, m_R22 hB, m_sR22 hB, m_rd23 hB, m_N23 hB, m_R23 hB, m_sR23 hB, m_rd24 hB, m_N24 hB, m_R24 hB, m_sR24 hB, m_rd25 hB, m_N25 hB, m_R25 hB, m_sR25 hB, m_rd27 hB, m_N27 hB, m_R27 hB, m_sR27 hB, m_rd28 hB, m_N28 hB, m_R28 hB, m_sR28 hB, m_rd29 hB, m_N29 hB, m_R29 hB, m_sR29 hB, m_rd30 hB, m_N30 hB, m_R30 hB, m_sR30 hB, m_I0, m_sI0, m_I1, m_sI1, m_I5, m_sI5, m_I10, m_sI10, m_I19, m_sI19, m_I26, m_sI26, m_I31, m_sI31, lt_v, bz0, bz1, true_and]
  rw [if_pos (show upD D 31 0 5 = 24 from hn)]
  exact x9_fails hB h
def chN (F : Nat → Nat → Int32) (n : Nat) (a : Int32) : Nat → Nat → Int32 := g_2 (g_2 (g_2 (g_2 F 6 n a) 7 n (-1)) 8 n (-1)) 11 n (-1)
theorem x9_child0 (hB : BM B m ad tg) {a : Int32} {n : Nat} (hv : ¬ (a < 5 ∨ 17 < a)) (hn : D 5 = nI n) (h24 : n < 24) (h : Q (nI n) (mS B m tg (upD (upD D 31 0) 5 (nI (n + 1))) (chN F n a))) : wp_X9_child (mS B m tg D F) m a Q := by
  unfold wp_X9_child
  refine x9_in1 (fun q => hv (Or.inl q)) (fun q => hv (Or.inr q)) ⟨m_ok hB, x9_asks1 hB ?_⟩
  rw [if_neg (by decide)]
  simp only [m_ok hB, m_rd2 hB, m_N2 hB, m_R2 hB, m_sR2 hB, m_rd3 hB, m_N3 hB, m_R3 hB, m_sR3 hB, m_rd4 hB, m_N4 hB, m_R4 hB, m_sR4 hB, m_rd6 hB, m_N6 hB, m_R6 hB, m_sR6 hB, m_rd7 hB, m_N7 hB, m_R7 hB, m_sR7 hB, m_rd8 hB, m_N8 hB, m_R8 hB, m_sR8 hB, m_rd9 hB, m_N9 hB, m_R9 hB, m_sR9 hB, m_rd11 hB, m_N11 hB, m_R11 hB, m_sR11 hB, m_rd12 hB, m_N12 hB, m_R12 hB, m_sR12 hB, m_rd13 hB, m_N13 hB, m_R13 hB, m_sR13 hB, m_rd14 hB, m_N14 hB, m_R14 hB, m_sR14 hB, m_rd15 hB, m_N15 hB, m_R15 hB, m_sR15 hB, m_rd16 hB, m_N16 hB, m_R16 hB, m_sR16 hB, m_rd17 hB, m_N17 hB, m_R17 hB, m_sR17 hB, m_rd18 hB, m_N18 hB, m_R18 hB, m_sR18 hB, m_rd20 hB, m_N20 hB, m_R20 hB, m_sR20 hB, m_rd21 hB, m_N21 hB, m_R21 hB, m_sR21 hB, m_rd22 hB, m_N22 hB, m_R22 hB, m_sR22 hB, m_rd23 hB, m_N23 hB, m_R23 hB, m_sR23 hB, m_rd24 hB, m_N24 hB, m_R24 hB, m_sR24 hB, m_rd25 hB, m_N25 hB, m_R25 hB, m_sR25 hB, m_rd27 hB, m_N27 hB, m_R27 hB, m_sR27 hB, m_rd28 hB, m_N28 hB, m_R28 hB, m_sR28 hB, m_rd29 hB, m_N29 hB, m_R29 hB, m_sR29 hB, m_rd30 hB, m_N30 hB, m_R30 hB, m_sR30 hB, m_I0, m_sI0, m_I1, m_sI1, m_I5, m_sI5, m_I10, m_sI10, m_I19, m_sI19, m_I26, m_sI26, m_I31, m_sI31, lt_v, bz0, bz1, true_and]
  rw [show upD D 31 0 5 = nI n from hn, if_neg (show ¬ nI n = 24 from nI_ne (b := 24) (by omega) (by omega) (by omega))]
  refine ⟨vp_in_nI h24 (by omega), vp_in_nI h24 (by omega), vp_in_nI h24 (by omega), vp_in_nI h24 (by omega), ?_⟩
  rw [nIc (by omega), nI_1]
  rw [show upD (upD D 31 0) 5 (nI (n + 1)) 5 - 1 = nI n from nI_pred n]
  exact h
theorem x9_join1a (hB : BM B m ad tg) {a b : Int32} {n : Nat} (hn : D 5 = nI n) (h24 : n ≤ 24) (hv : a < 0 ∨ nI n ≤ a) (h : Q 0 (mS B m tg (upD D 31 1) F)) : wp_X9_join (mS B m tg D F) m a b Q := by
  unfold wp_X9_join
  refine ⟨m_ok hB, x9_isChild0 hB hn h24 hv ?_⟩
  rw [if_pos rfl]
  refine ⟨m_ok hB, x9_asks0 hB ?_⟩
  rw [if_pos rfl]
  exact h
theorem x9_join1b (hB : BM B m ad tg) {b : Int32} {n t i : Nat} (hn : D 5 = nI n) (h24 : n ≤ 24) (hi : i < n) (ht : D 1 = nI t) (h6 : t ≤ 6) (hv : b < 0 ∨ nI t ≤ b) (h : Q 0 (mS B m tg (upD D 31 1) F)) : wp_X9_join (mS B m tg D F) m (nI i) b Q := by
  unfold wp_X9_join
  refine ⟨m_ok hB, x9_isChild1 hB hn h24 hi ?_⟩
  rw [if_neg (by decide)]
  refine ⟨m_ok hB, x9_isTroop0 hB ht h6 hv ?_⟩
  rw [if_pos rfl]
  refine ⟨m_ok hB, x9_asks0 hB ?_⟩
  rw [if_pos rfl]
  exact h
theorem x9_join2 (hB : BM B m ad tg) {n t i j : Nat} (hn : D 5 = nI n) (h24 : n ≤ 24) (hi : i < n) (ht : D 1 = nI t) (h6 : t ≤ 6) (hj : j < t) (hv : ¬ (F 7 i = -1 ∧ F 8 i = -1 ∧ fo F j i)) (h : Q 0 (mS B m tg (upD (upD D 31 0) 31 2) F)) : wp_X9_join (mS B m tg D F) m (nI i) (nI j) Q := by
  unfold wp_X9_join
  refine ⟨m_ok hB, x9_isChild1 hB hn h24 hi ?_⟩
  rw [if_neg (by decide)]
  refine ⟨m_ok hB, x9_isTroop1 hB ht h6 hj ?_⟩
  rw [if_neg (by decide)]
  refine ⟨m_ok hB, x9_asks1 hB ?_⟩
  rw [if_neg (by decide)]
  simp only [m_ok hB, m_rd2 hB, m_N2 hB, m_R2 hB, m_sR2 hB, m_rd3 hB, m_N3 hB, m_R3 hB, m_sR3 hB, m_rd4 hB, m_N4 hB, m_R4 hB, m_sR4 hB, m_rd6 hB, m_N6 hB, m_R6 hB, m_sR6 hB, m_rd7 hB, m_N7 hB, m_R7 hB, m_sR7 hB, m_rd8 hB, m_N8 hB, m_R8 hB, m_sR8 hB, m_rd9 hB, m_N9 hB, m_R9 hB, m_sR9 hB, m_rd11 hB, m_N11 hB, m_R11 hB, m_sR11 hB, m_rd12 hB, m_N12 hB, m_R12 hB, m_sR12 hB, m_rd13 hB, m_N13 hB, m_R13 hB, m_sR13 hB, m_rd14 hB, m_N14 hB, m_R14 hB, m_sR14 hB, m_rd15 hB, m_N15 hB, m_R15 hB, m_sR15 hB, m_rd16 hB, m_N16 hB, m_R16 hB, m_sR16 hB, m_rd17 hB, m_N17 hB, m_R17 hB, m_sR17 hB, m_rd18 hB, m_N18 hB, m_R18 hB, m_sR18 hB, m_rd20 hB, m_N20 hB, m_R20 hB, m_sR20 hB, m_rd21 hB, m_N21 hB, m_R21 hB, m_sR21 hB, m_rd22 hB, m_N22 hB, m_R22 hB, m_sR22 hB, m_rd23 hB, m_N23 hB, m_R23 hB, m_sR23 hB, m_rd24 hB, m_N24 hB, m_R24 hB, m_sR24 hB, m_rd25 hB, m_N25 hB, m_R25 hB, m_sR25 hB, m_rd27 hB, m_N27 hB, m_R27 hB, m_sR27 hB, m_rd28 hB, m_N28 hB, m_R28 hB, m_sR28 hB, m_rd29 hB, m_N29 hB, m_R29 hB, m_sR29 hB, m_rd30 hB, m_N30 hB, m_R30 hB, m_sR30 hB, m_I0, m_sI0, m_I1, m_sI1, m_I5, m_sI5, m_I10, m_sI10, m_I19, m_sI19, m_I26, m_sI26, m_I31, m_sI31, lt_v, bz0, bz1, true_and]
  refine ⟨vp_in_nI (by omega) (by omega), ?_⟩
  rw [nIc (by omega)]
  by_cases h7 : F 7 i = -1
  · rw [if_pos h7]
    refine ⟨vp_in_nI (by omega) (by omega), ?_⟩
    by_cases h8 : F 8 i = -1
    · rw [if_pos h8]
      refine x9_isFor0 hB (by omega) (by omega) (fun q => hv ⟨h7, h8, q⟩) ?_
      rw [if_pos rfl]
      exact ⟨m_ok hB, x9_fails hB h⟩
    · rw [if_neg h8]
      exact x9_fails hB h
  · rw [if_neg h7]
    exact x9_fails hB h
theorem x9_joinT (hB : BM B m ad tg) {n t i j : Nat} (hn : D 5 = nI n) (h24 : n ≤ 24) (hi : i < n) (ht : D 1 = nI t) (h6 : t ≤ 6) (hj : j < t) (h7 : F 7 i = -1) (h8 : F 8 i = -1) (h9 : fo F j i) (h : wp_X9_joins (mS B m tg (upD D 31 0) F) m (nI i) (nI j) Q) : wp_X9_join (mS B m tg D F) m (nI i) (nI j) Q := by
  unfold wp_X9_join
  refine ⟨m_ok hB, x9_isChild1 hB hn h24 hi ?_⟩
  rw [if_neg (by decide)]
  refine ⟨m_ok hB, x9_isTroop1 hB ht h6 hj ?_⟩
  rw [if_neg (by decide)]
  refine ⟨m_ok hB, x9_asks1 hB ?_⟩
  rw [if_neg (by decide)]
  simp only [m_ok hB, m_rd2 hB, m_N2 hB, m_R2 hB, m_sR2 hB, m_rd3 hB, m_N3 hB, m_R3 hB, m_sR3 hB, m_rd4 hB, m_N4 hB, m_R4 hB, m_sR4 hB, m_rd6 hB, m_N6 hB, m_R6 hB, m_sR6 hB, m_rd7 hB, m_N7 hB, m_R7 hB, m_sR7 hB, m_rd8 hB, m_N8 hB, m_R8 hB, m_sR8 hB, m_rd9 hB, m_N9 hB, m_R9 hB, m_sR9 hB, m_rd11 hB, m_N11 hB, m_R11 hB, m_sR11 hB, m_rd12 hB, m_N12 hB, m_R12 hB, m_sR12 hB, m_rd13 hB, m_N13 hB, m_R13 hB, m_sR13 hB, m_rd14 hB, m_N14 hB, m_R14 hB, m_sR14 hB, m_rd15 hB, m_N15 hB, m_R15 hB, m_sR15 hB, m_rd16 hB, m_N16 hB, m_R16 hB, m_sR16 hB, m_rd17 hB, m_N17 hB, m_R17 hB, m_sR17 hB, m_rd18 hB, m_N18 hB, m_R18 hB, m_sR18 hB, m_rd20 hB, m_N20 hB, m_R20 hB, m_sR20 hB, m_rd21 hB, m_N21 hB, m_R21 hB, m_sR21 hB, m_rd22 hB, m_N22 hB, m_R22 hB, m_sR22 hB, m_rd23 hB, m_N23 hB, m_R23 hB, m_sR23 hB, m_rd24 hB, m_N24 hB, m_R24 hB, m_sR24 hB, m_rd25 hB, m_N25 hB, m_R25 hB, m_sR25 hB, m_rd27 hB, m_N27 hB, m_R27 hB, m_sR27 hB, m_rd28 hB, m_N28 hB, m_R28 hB, m_sR28 hB, m_rd29 hB, m_N29 hB, m_R29 hB, m_sR29 hB, m_rd30 hB, m_N30 hB, m_R30 hB, m_sR30 hB, m_I0, m_sI0, m_I1, m_sI1, m_I5, m_sI5, m_I10, m_sI10, m_I19, m_sI19, m_I26, m_sI26, m_I31, m_sI31, lt_v, bz0, bz1, true_and]
  refine ⟨vp_in_nI (by omega) (by omega), ?_⟩
  rw [nIc (by omega), if_pos h7]
  refine ⟨vp_in_nI (by omega) (by omega), ?_⟩
  rw [if_pos h8]
  refine x9_isFor1 hB (by omega) (by omega) h9 ?_
  rw [if_neg (by decide)]
  exact ⟨m_ok hB, h⟩
theorem x9_leave1 (hB : BM B m ad tg) {a : Int32} {n : Nat} (hn : D 5 = nI n) (h24 : n ≤ 24) (hv : a < 0 ∨ nI n ≤ a) (h : Q 0 (mS B m tg (upD D 31 1) F)) : wp_X9_leave (mS B m tg D F) m a Q := by
  unfold wp_X9_leave
  refine ⟨m_ok hB, x9_isChild0 hB hn h24 hv ⟨m_ok hB, x9_asks0 hB ?_⟩⟩
  rw [if_pos rfl]
  exact h
theorem x9_leave2 (hB : BM B m ad tg) {n i : Nat} (hn : D 5 = nI n) (h24 : n ≤ 24) (hi : i < n) (h7 : F 7 i = -1) (h8 : F 8 i = -1) (h : Q 0 (mS B m tg (upD (upD D 31 0) 31 2) F)) : wp_X9_leave (mS B m tg D F) m (nI i) Q := by
  unfold wp_X9_leave
  refine ⟨m_ok hB, x9_isChild1 hB hn h24 hi ⟨m_ok hB, x9_asks1 hB ?_⟩⟩
  rw [if_neg (by decide)]
  simp only [m_ok hB, m_rd2 hB, m_N2 hB, m_R2 hB, m_sR2 hB, m_rd3 hB, m_N3 hB, m_R3 hB, m_sR3 hB, m_rd4 hB, m_N4 hB, m_R4 hB, m_sR4 hB, m_rd6 hB, m_N6 hB, m_R6 hB, m_sR6 hB, m_rd7 hB, m_N7 hB, m_R7 hB, m_sR7 hB, m_rd8 hB, m_N8 hB, m_R8 hB, m_sR8 hB, m_rd9 hB, m_N9 hB, m_R9 hB, m_sR9 hB, m_rd11 hB, m_N11 hB, m_R11 hB, m_sR11 hB, m_rd12 hB, m_N12 hB, m_R12 hB, m_sR12 hB, m_rd13 hB, m_N13 hB, m_R13 hB, m_sR13 hB, m_rd14 hB, m_N14 hB, m_R14 hB, m_sR14 hB, m_rd15 hB, m_N15 hB, m_R15 hB, m_sR15 hB, m_rd16 hB, m_N16 hB, m_R16 hB, m_sR16 hB, m_rd17 hB, m_N17 hB, m_R17 hB, m_sR17 hB, m_rd18 hB, m_N18 hB, m_R18 hB, m_sR18 hB, m_rd20 hB, m_N20 hB, m_R20 hB, m_sR20 hB, m_rd21 hB, m_N21 hB, m_R21 hB, m_sR21 hB, m_rd22 hB, m_N22 hB, m_R22 hB, m_sR22 hB, m_rd23 hB, m_N23 hB, m_R23 hB, m_sR23 hB, m_rd24 hB, m_N24 hB, m_R24 hB, m_sR24 hB, m_rd25 hB, m_N25 hB, m_R25 hB, m_sR25 hB, m_rd27 hB, m_N27 hB, m_R27 hB, m_sR27 hB, m_rd28 hB, m_N28 hB, m_R28 hB, m_sR28 hB, m_rd29 hB, m_N29 hB, m_R29 hB, m_sR29 hB, m_rd30 hB, m_N30 hB, m_R30 hB, m_sR30 hB, m_I0, m_sI0, m_I1, m_sI1, m_I5, m_sI5, m_I10, m_sI10, m_I19, m_sI19, m_I26, m_sI26, m_I31, m_sI31, lt_v, bz0, bz1, true_and]
  refine ⟨vp_in_nI (by omega) (by omega), ?_⟩
  rw [nIc (by omega), if_pos h7]
  refine ⟨vp_in_nI (by omega) (by omega), ?_⟩
  rw [if_pos h8]
  exact x9_fails hB h
/-- child i waits no longer -/
def wOut (F : Nat → Nat → Int32) (i : Nat) : Nat → Nat → Int32 := gOut (g_2 F 8 i (-1)) i
theorem x9_leave3 (hB : BM B m ad tg) {n i : Nat} (hn : D 5 = nI n) (h24 : n ≤ 24) (hi : i < n) (h7 : F 7 i = -1) (h8 : ¬ F 8 i = -1) (h : Q (-1) (mS B m tg (upD D 31 0) (wOut F i))) : wp_X9_leave (mS B m tg D F) m (nI i) Q := by
  unfold wp_X9_leave
  refine ⟨m_ok hB, x9_isChild1 hB hn h24 hi ⟨m_ok hB, x9_asks1 hB ?_⟩⟩
  rw [if_neg (by decide)]
  simp only [m_ok hB, m_rd2 hB, m_N2 hB, m_R2 hB, m_sR2 hB, m_rd3 hB, m_N3 hB, m_R3 hB, m_sR3 hB, m_rd4 hB, m_N4 hB, m_R4 hB, m_sR4 hB, m_rd6 hB, m_N6 hB, m_R6 hB, m_sR6 hB, m_rd7 hB, m_N7 hB, m_R7 hB, m_sR7 hB, m_rd8 hB, m_N8 hB, m_R8 hB, m_sR8 hB, m_rd9 hB, m_N9 hB, m_R9 hB, m_sR9 hB, m_rd11 hB, m_N11 hB, m_R11 hB, m_sR11 hB, m_rd12 hB, m_N12 hB, m_R12 hB, m_sR12 hB, m_rd13 hB, m_N13 hB, m_R13 hB, m_sR13 hB, m_rd14 hB, m_N14 hB, m_R14 hB, m_sR14 hB, m_rd15 hB, m_N15 hB, m_R15 hB, m_sR15 hB, m_rd16 hB, m_N16 hB, m_R16 hB, m_sR16 hB, m_rd17 hB, m_N17 hB, m_R17 hB, m_sR17 hB, m_rd18 hB, m_N18 hB, m_R18 hB, m_sR18 hB, m_rd20 hB, m_N20 hB, m_R20 hB, m_sR20 hB, m_rd21 hB, m_N21 hB, m_R21 hB, m_sR21 hB, m_rd22 hB, m_N22 hB, m_R22 hB, m_sR22 hB, m_rd23 hB, m_N23 hB, m_R23 hB, m_sR23 hB, m_rd24 hB, m_N24 hB, m_R24 hB, m_sR24 hB, m_rd25 hB, m_N25 hB, m_R25 hB, m_sR25 hB, m_rd27 hB, m_N27 hB, m_R27 hB, m_sR27 hB, m_rd28 hB, m_N28 hB, m_R28 hB, m_sR28 hB, m_rd29 hB, m_N29 hB, m_R29 hB, m_sR29 hB, m_rd30 hB, m_N30 hB, m_R30 hB, m_sR30 hB, m_I0, m_sI0, m_I1, m_sI1, m_I5, m_sI5, m_I10, m_sI10, m_I19, m_sI19, m_I26, m_sI26, m_I31, m_sI31, lt_v, bz0, bz1, true_and]
  refine ⟨vp_in_nI (by omega) (by omega), ?_⟩
  rw [nIc (by omega), if_pos h7]
  refine ⟨vp_in_nI (by omega) (by omega), ?_⟩
  rw [if_neg h8]
  refine ⟨vp_in_nI (by omega) (by omega), x9_goesOut hB (by omega) ?_⟩
  rw [if_pos h7]
  exact h
theorem x9_leave4 (hB : BM B m ad tg) {n i : Nat} (hn : D 5 = nI n) (h24 : n ≤ 24) (hi : i < n) (h7 : ¬ F 7 i = -1) (h9 : fiW (wOut F i) (F 7 i) n = none) (h : Q (-1) (mS B m tg (upD D 31 0) (wOut F i))) : wp_X9_leave (mS B m tg D F) m (nI i) Q := by
  unfold wp_X9_leave
  refine ⟨m_ok hB, x9_isChild1 hB hn h24 hi ⟨m_ok hB, x9_asks1 hB ?_⟩⟩
  rw [if_neg (by decide)]
  simp only [m_ok hB, m_rd2 hB, m_N2 hB, m_R2 hB, m_sR2 hB, m_rd3 hB, m_N3 hB, m_R3 hB, m_sR3 hB, m_rd4 hB, m_N4 hB, m_R4 hB, m_sR4 hB, m_rd6 hB, m_N6 hB, m_R6 hB, m_sR6 hB, m_rd7 hB, m_N7 hB, m_R7 hB, m_sR7 hB, m_rd8 hB, m_N8 hB, m_R8 hB, m_sR8 hB, m_rd9 hB, m_N9 hB, m_R9 hB, m_sR9 hB, m_rd11 hB, m_N11 hB, m_R11 hB, m_sR11 hB, m_rd12 hB, m_N12 hB, m_R12 hB, m_sR12 hB, m_rd13 hB, m_N13 hB, m_R13 hB, m_sR13 hB, m_rd14 hB, m_N14 hB, m_R14 hB, m_sR14 hB, m_rd15 hB, m_N15 hB, m_R15 hB, m_sR15 hB, m_rd16 hB, m_N16 hB, m_R16 hB, m_sR16 hB, m_rd17 hB, m_N17 hB, m_R17 hB, m_sR17 hB, m_rd18 hB, m_N18 hB, m_R18 hB, m_sR18 hB, m_rd20 hB, m_N20 hB, m_R20 hB, m_sR20 hB, m_rd21 hB, m_N21 hB, m_R21 hB, m_sR21 hB, m_rd22 hB, m_N22 hB, m_R22 hB, m_sR22 hB, m_rd23 hB, m_N23 hB, m_R23 hB, m_sR23 hB, m_rd24 hB, m_N24 hB, m_R24 hB, m_sR24 hB, m_rd25 hB, m_N25 hB, m_R25 hB, m_sR25 hB, m_rd27 hB, m_N27 hB, m_R27 hB, m_sR27 hB, m_rd28 hB, m_N28 hB, m_R28 hB, m_sR28 hB, m_rd29 hB, m_N29 hB, m_R29 hB, m_sR29 hB, m_rd30 hB, m_N30 hB, m_R30 hB, m_sR30 hB, m_I0, m_sI0, m_I1, m_sI1, m_I5, m_sI5, m_I10, m_sI10, m_I19, m_sI19, m_I26, m_sI26, m_I31, m_sI31, lt_v, bz0, bz1, true_and]
  refine ⟨vp_in_nI (by omega) (by omega), ?_⟩
  rw [nIc (by omega), if_neg h7]
  refine ⟨vp_in_nI (by omega) (by omega), x9_goesOut hB (by omega) ?_⟩
  rw [if_neg h7]
  refine ⟨m_ok hB, x9_firstWaiting hB (n := n) hn h24 ?_⟩
  rw [show gOut (g_2 F 8 i (-1)) i = wOut F i from rfl, h9, if_pos (show oI none = -1 from rfl)]
  exact h
theorem x9_leave5 (hB : BM B m ad tg) {n i f : Nat} (hn : D 5 = nI n) (h24 : n ≤ 24) (hi : i < n) (h7 : ¬ F 7 i = -1) (h9 : fiW (wOut F i) (F 7 i) n = some f) (h : Q (nI f) (mS B m tg (upD D 31 0) (cIn (wOut F i) n f (F 7 i)))) : wp_X9_leave (mS B m tg D F) m (nI i) Q := by
  unfold wp_X9_leave
  refine ⟨m_ok hB, x9_isChild1 hB hn h24 hi ⟨m_ok hB, x9_asks1 hB ?_⟩⟩
  rw [if_neg (by decide)]
  simp only [m_ok hB, m_rd2 hB, m_N2 hB, m_R2 hB, m_sR2 hB, m_rd3 hB, m_N3 hB, m_R3 hB, m_sR3 hB, m_rd4 hB, m_N4 hB, m_R4 hB, m_sR4 hB, m_rd6 hB, m_N6 hB, m_R6 hB, m_sR6 hB, m_rd7 hB, m_N7 hB, m_R7 hB, m_sR7 hB, m_rd8 hB, m_N8 hB, m_R8 hB, m_sR8 hB, m_rd9 hB, m_N9 hB, m_R9 hB, m_sR9 hB, m_rd11 hB, m_N11 hB, m_R11 hB, m_sR11 hB, m_rd12 hB, m_N12 hB, m_R12 hB, m_sR12 hB, m_rd13 hB, m_N13 hB, m_R13 hB, m_sR13 hB, m_rd14 hB, m_N14 hB, m_R14 hB, m_sR14 hB, m_rd15 hB, m_N15 hB, m_R15 hB, m_sR15 hB, m_rd16 hB, m_N16 hB, m_R16 hB, m_sR16 hB, m_rd17 hB, m_N17 hB, m_R17 hB, m_sR17 hB, m_rd18 hB, m_N18 hB, m_R18 hB, m_sR18 hB, m_rd20 hB, m_N20 hB, m_R20 hB, m_sR20 hB, m_rd21 hB, m_N21 hB, m_R21 hB, m_sR21 hB, m_rd22 hB, m_N22 hB, m_R22 hB, m_sR22 hB, m_rd23 hB, m_N23 hB, m_R23 hB, m_sR23 hB, m_rd24 hB, m_N24 hB, m_R24 hB, m_sR24 hB, m_rd25 hB, m_N25 hB, m_R25 hB, m_sR25 hB, m_rd27 hB, m_N27 hB, m_R27 hB, m_sR27 hB, m_rd28 hB, m_N28 hB, m_R28 hB, m_sR28 hB, m_rd29 hB, m_N29 hB, m_R29 hB, m_sR29 hB, m_rd30 hB, m_N30 hB, m_R30 hB, m_sR30 hB, m_I0, m_sI0, m_I1, m_sI1, m_I5, m_sI5, m_I10, m_sI10, m_I19, m_sI19, m_I26, m_sI26, m_I31, m_sI31, lt_v, bz0, bz1, true_and]
  refine ⟨vp_in_nI (by omega) (by omega), ?_⟩
  rw [nIc (by omega), if_neg h7]
  refine ⟨vp_in_nI (by omega) (by omega), x9_goesOut hB (by omega) ?_⟩
  rw [if_neg h7]
  refine ⟨m_ok hB, x9_firstWaiting hB (n := n) hn h24 ?_⟩
  have hf := (fiW_lt _ _ _ _ h9).1
  rw [show gOut (g_2 F 8 i (-1)) i = wOut F i from rfl, h9, if_neg (show ¬ oI (some f) = -1 from nI_m1 (by omega))]
  exact ⟨m_ok hB, x9_comesIn hB (n := n) hn h24 hf h⟩
theorem x9_patrol1 (hB : BM B m ad tg) {a b : Int32} {n : Nat} (hn : D 5 = nI n) (h24 : n ≤ 24) (hv : a < 0 ∨ nI n ≤ a) (h : Q 0 (mS B m tg (upD D 31 1) F)) : wp_X9_patrol (mS B m tg D F) m a b Q := by
  unfold wp_X9_patrol
  refine ⟨m_ok hB, x9_isChild0 hB hn h24 hv ⟨m_ok hB, x9_asks0 hB ?_⟩⟩
  rw [if_pos rfl]
  exact h
theorem x9_patrol2 (hB : BM B m ad tg) {b : Int32} {n i : Nat} (hn : D 5 = nI n) (h24 : n ≤ 24) (hi : i < n) (hv : b < 0 ∨ 3 < b) (h : Q 0 (mS B m tg (upD (upD D 31 0) 31 2) F)) : wp_X9_patrol (mS B m tg D F) m (nI i) b Q := by
  unfold wp_X9_patrol
  refine ⟨m_ok hB, x9_isChild1 hB hn h24 hi ⟨m_ok hB, x9_asks1 hB ?_⟩⟩
  rw [if_neg (by decide)]
  refine x9_in0 hv ?_
  rw [if_pos rfl]
  exact ⟨m_ok hB, x9_fails hB h⟩
theorem x9_patrol3 (hB : BM B m ad tg) {b : Int32} {n i : Nat} (hn : D 5 = nI n) (h24 : n ≤ 24) (hi : i < n) (hv : ¬ (b < 0 ∨ 3 < b)) (h7 : F 7 i = -1) (h : Q 0 (mS B m tg (upD (upD D 31 0) 31 3) F)) : wp_X9_patrol (mS B m tg D F) m (nI i) b Q := by
  unfold wp_X9_patrol
  refine ⟨m_ok hB, x9_isChild1 hB hn h24 hi ⟨m_ok hB, x9_asks1 hB ?_⟩⟩
  rw [if_neg (by decide)]
  refine x9_in1 (fun q => hv (Or.inl q)) (fun q => hv (Or.inr q)) ?_
  rw [if_neg (by decide)]
  simp only [m_ok hB, m_rd2 hB, m_N2 hB, m_R2 hB, m_sR2 hB, m_rd3 hB, m_N3 hB, m_R3 hB, m_sR3 hB, m_rd4 hB, m_N4 hB, m_R4 hB, m_sR4 hB, m_rd6 hB, m_N6 hB, m_R6 hB, m_sR6 hB, m_rd7 hB, m_N7 hB, m_R7 hB, m_sR7 hB, m_rd8 hB, m_N8 hB, m_R8 hB, m_sR8 hB, m_rd9 hB, m_N9 hB, m_R9 hB, m_sR9 hB, m_rd11 hB, m_N11 hB, m_R11 hB, m_sR11 hB, m_rd12 hB, m_N12 hB, m_R12 hB, m_sR12 hB, m_rd13 hB, m_N13 hB, m_R13 hB, m_sR13 hB, m_rd14 hB, m_N14 hB, m_R14 hB, m_sR14 hB, m_rd15 hB, m_N15 hB, m_R15 hB, m_sR15 hB, m_rd16 hB, m_N16 hB, m_R16 hB, m_sR16 hB, m_rd17 hB, m_N17 hB, m_R17 hB, m_sR17 hB, m_rd18 hB, m_N18 hB, m_R18 hB, m_sR18 hB, m_rd20 hB, m_N20 hB, m_R20 hB, m_sR20 hB, m_rd21 hB, m_N21 hB, m_R21 hB, m_sR21 hB, m_rd22 hB, m_N22 hB, m_R22 hB, m_sR22 hB, m_rd23 hB, m_N23 hB, m_R23 hB, m_sR23 hB, m_rd24 hB, m_N24 hB, m_R24 hB, m_sR24 hB, m_rd25 hB, m_N25 hB, m_R25 hB, m_sR25 hB, m_rd27 hB, m_N27 hB, m_R27 hB, m_sR27 hB, m_rd28 hB, m_N28 hB, m_R28 hB, m_sR28 hB, m_rd29 hB, m_N29 hB, m_R29 hB, m_sR29 hB, m_rd30 hB, m_N30 hB, m_R30 hB, m_sR30 hB, m_I0, m_sI0, m_I1, m_sI1, m_I5, m_sI5, m_I10, m_sI10, m_I19, m_sI19, m_I26, m_sI26, m_I31, m_sI31, lt_v, bz0, bz1, true_and]
  refine ⟨vp_in_nI (by omega) (by omega), ?_⟩
  rw [nIc (by omega), if_pos h7]
  exact x9_fails hB h
theorem x9_patrol0 (hB : BM B m ad tg) {b : Int32} {n i : Nat} (hn : D 5 = nI n) (h24 : n ≤ 24) (hi : i < n) (hv : ¬ (b < 0 ∨ 3 < b)) (h7 : ¬ F 7 i = -1) (h : Q (F 11 i) (mS B m tg (upD D 31 0) (g_2 F 11 i b))) : wp_X9_patrol (mS B m tg D F) m (nI i) b Q := by
  unfold wp_X9_patrol
  refine ⟨m_ok hB, x9_isChild1 hB hn h24 hi ⟨m_ok hB, x9_asks1 hB ?_⟩⟩
  rw [if_neg (by decide)]
  refine x9_in1 (fun q => hv (Or.inl q)) (fun q => hv (Or.inr q)) ?_
  rw [if_neg (by decide)]
  simp only [m_ok hB, m_rd2 hB, m_N2 hB, m_R2 hB, m_sR2 hB, m_rd3 hB, m_N3 hB, m_R3 hB, m_sR3 hB, m_rd4 hB, m_N4 hB, m_R4 hB, m_sR4 hB, m_rd6 hB, m_N6 hB, m_R6 hB, m_sR6 hB, m_rd7 hB, m_N7 hB, m_R7 hB, m_sR7 hB, m_rd8 hB, m_N8 hB, m_R8 hB, m_sR8 hB, m_rd9 hB, m_N9 hB, m_R9 hB, m_sR9 hB, m_rd11 hB, m_N11 hB, m_R11 hB, m_sR11 hB, m_rd12 hB, m_N12 hB, m_R12 hB, m_sR12 hB, m_rd13 hB, m_N13 hB, m_R13 hB, m_sR13 hB, m_rd14 hB, m_N14 hB, m_R14 hB, m_sR14 hB, m_rd15 hB, m_N15 hB, m_R15 hB, m_sR15 hB, m_rd16 hB, m_N16 hB, m_R16 hB, m_sR16 hB, m_rd17 hB, m_N17 hB, m_R17 hB, m_sR17 hB, m_rd18 hB, m_N18 hB, m_R18 hB, m_sR18 hB, m_rd20 hB, m_N20 hB, m_R20 hB, m_sR20 hB, m_rd21 hB, m_N21 hB, m_R21 hB, m_sR21 hB, m_rd22 hB, m_N22 hB, m_R22 hB, m_sR22 hB, m_rd23 hB, m_N23 hB, m_R23 hB, m_sR23 hB, m_rd24 hB, m_N24 hB, m_R24 hB, m_sR24 hB, m_rd25 hB, m_N25 hB, m_R25 hB, m_sR25 hB, m_rd27 hB, m_N27 hB, m_R27 hB, m_sR27 hB, m_rd28 hB, m_N28 hB, m_R28 hB, m_sR28 hB, m_rd29 hB, m_N29 hB, m_R29 hB, m_sR29 hB, m_rd30 hB, m_N30 hB, m_R30 hB, m_sR30 hB, m_I0, m_sI0, m_I1, m_sI1, m_I5, m_sI5, m_I10, m_sI10, m_I19, m_sI19, m_I26, m_sI26, m_I31, m_sI31, lt_v, bz0, bz1, true_and]
  refine ⟨vp_in_nI (by omega) (by omega), ?_⟩
  rw [nIc (by omega), if_neg h7]
  exact ⟨vp_in_nI (by omega) (by omega), vp_in_nI (by omega) (by omega), h⟩
theorem x9_pass1 (hB : BM B m ad tg) {a : Int32} (hv : a < 1 ∨ 400 < a) (h : Q 0 (mS B m tg (upD D 31 1) F)) : wp_X9_pass (mS B m tg D F) m a Q := by
  unfold wp_X9_pass
  refine x9_in0 hv ⟨m_ok hB, x9_asks0 hB ?_⟩
  rw [if_pos rfl]
  exact h
theorem x9_pass2 (hB : BM B m ad tg) {a : Int32} (hv : ¬ (a < 1 ∨ 400 < a)) (hd : ¬ D 0 + a ≤ 9999) (h : Q 0 (mS B m tg (upD (upD D 31 0) 31 2) F)) : wp_X9_pass (mS B m tg D F) m a Q := by
  unfold wp_X9_pass
  refine x9_in1 (fun q => hv (Or.inl q)) (fun q => hv (Or.inr q)) ⟨m_ok hB, x9_asks1 hB ?_⟩
  rw [if_neg (by decide)]
  simp only [m_ok hB, m_rd2 hB, m_N2 hB, m_R2 hB, m_sR2 hB, m_rd3 hB, m_N3 hB, m_R3 hB, m_sR3 hB, m_rd4 hB, m_N4 hB, m_R4 hB, m_sR4 hB, m_rd6 hB, m_N6 hB, m_R6 hB, m_sR6 hB, m_rd7 hB, m_N7 hB, m_R7 hB, m_sR7 hB, m_rd8 hB, m_N8 hB, m_R8 hB, m_sR8 hB, m_rd9 hB, m_N9 hB, m_R9 hB, m_sR9 hB, m_rd11 hB, m_N11 hB, m_R11 hB, m_sR11 hB, m_rd12 hB, m_N12 hB, m_R12 hB, m_sR12 hB, m_rd13 hB, m_N13 hB, m_R13 hB, m_sR13 hB, m_rd14 hB, m_N14 hB, m_R14 hB, m_sR14 hB, m_rd15 hB, m_N15 hB, m_R15 hB, m_sR15 hB, m_rd16 hB, m_N16 hB, m_R16 hB, m_sR16 hB, m_rd17 hB, m_N17 hB, m_R17 hB, m_sR17 hB, m_rd18 hB, m_N18 hB, m_R18 hB, m_sR18 hB, m_rd20 hB, m_N20 hB, m_R20 hB, m_sR20 hB, m_rd21 hB, m_N21 hB, m_R21 hB, m_sR21 hB, m_rd22 hB, m_N22 hB, m_R22 hB, m_sR22 hB, m_rd23 hB, m_N23 hB, m_R23 hB, m_sR23 hB, m_rd24 hB, m_N24 hB, m_R24 hB, m_sR24 hB, m_rd25 hB, m_N25 hB, m_R25 hB, m_sR25 hB, m_rd27 hB, m_N27 hB, m_R27 hB, m_sR27 hB, m_rd28 hB, m_N28 hB, m_R28 hB, m_sR28 hB, m_rd29 hB, m_N29 hB, m_R29 hB, m_sR29 hB, m_rd30 hB, m_N30 hB, m_R30 hB, m_sR30 hB, m_I0, m_sI0, m_I1, m_sI1, m_I5, m_sI5, m_I10, m_sI10, m_I19, m_sI19, m_I26, m_sI26, m_I31, m_sI31, lt_v, bz0, bz1, true_and]
  rw [if_neg (show ¬ upD D 31 0 0 + a ≤ 9999 from hd)]
  exact x9_fails hB h
theorem x9_pass0 (hB : BM B m ad tg) {a : Int32} (hv : ¬ (a < 1 ∨ 400 < a)) (hd : D 0 + a ≤ 9999) (h : Q (D 0 + a) (mS B m tg (upD (upD D 31 0) 0 (D 0 + a)) F)) : wp_X9_pass (mS B m tg D F) m a Q := by
  unfold wp_X9_pass
  refine x9_in1 (fun q => hv (Or.inl q)) (fun q => hv (Or.inr q)) ⟨m_ok hB, x9_asks1 hB ?_⟩
  rw [if_neg (by decide)]
  simp only [m_ok hB, m_rd2 hB, m_N2 hB, m_R2 hB, m_sR2 hB, m_rd3 hB, m_N3 hB, m_R3 hB, m_sR3 hB, m_rd4 hB, m_N4 hB, m_R4 hB, m_sR4 hB, m_rd6 hB, m_N6 hB, m_R6 hB, m_sR6 hB, m_rd7 hB, m_N7 hB, m_R7 hB, m_sR7 hB, m_rd8 hB, m_N8 hB, m_R8 hB, m_sR8 hB, m_rd9 hB, m_N9 hB, m_R9 hB, m_sR9 hB, m_rd11 hB, m_N11 hB, m_R11 hB, m_sR11 hB, m_rd12 hB, m_N12 hB, m_R12 hB, m_sR12 hB, m_rd13 hB, m_N13 hB, m_R13 hB, m_sR13 hB, m_rd14 hB, m_N14 hB, m_R14 hB, m_sR14 hB, m_rd15 hB, m_N15 hB, m_R15 hB, m_sR15 hB, m_rd16 hB, m_N16 hB, m_R16 hB, m_sR16 hB, m_rd17 hB, m_N17 hB, m_R17 hB, m_sR17 hB, m_rd18 hB, m_N18 hB, m_R18 hB, m_sR18 hB, m_rd20 hB, m_N20 hB, m_R20 hB, m_sR20 hB, m_rd21 hB, m_N21 hB, m_R21 hB, m_sR21 hB, m_rd22 hB, m_N22 hB, m_R22 hB, m_sR22 hB, m_rd23 hB, m_N23 hB, m_R23 hB, m_sR23 hB, m_rd24 hB, m_N24 hB, m_R24 hB, m_sR24 hB, m_rd25 hB, m_N25 hB, m_R25 hB, m_sR25 hB, m_rd27 hB, m_N27 hB, m_R27 hB, m_sR27 hB, m_rd28 hB, m_N28 hB, m_R28 hB, m_sR28 hB, m_rd29 hB, m_N29 hB, m_R29 hB, m_sR29 hB, m_rd30 hB, m_N30 hB, m_R30 hB, m_sR30 hB, m_I0, m_sI0, m_I1, m_sI1, m_I5, m_sI5, m_I10, m_sI10, m_I19, m_sI19, m_I26, m_sI26, m_I31, m_sI31, lt_v, bz0, bz1, true_and]
  rw [if_pos (show upD D 31 0 0 + a ≤ 9999 from hd)]
  exact h
/-! duty -/
def fiP (F : Nat → Nat → Int32) (n : Nat) (t : Int32) : Nat → Nat := ct (fun p => decide (0 < inP F n t (nI p)))
theorem nI_le0 {k : Nat} (hk : k < 2 ^ 31) : nI k ≤ 0 ↔ k = 0 := by
  rw [i_le, nI_toInt hk, show (0 : Int32).toInt = 0 from rfl]; omega
/-- the patrol on duty, of those from p on: left is how many to pass -/
def duP (F : Nat → Nat → Int32) (n : Nat) (t : Int32) (l : Nat) : Nat → Int32
  | 0 => -1
  | p + 1 => if 0 < inP F n t (nI p) ∧ fiP F n t p = l then nI p else duP F n t l p
theorem nI_sub0 (x : Int32) : x - 0 = x := by
  apply Int32.toBitVec_inj.mp; simp
theorem x9_isDay1 {a : Int32} (h1 : ¬ (a < 0 ∨ 9999 < a)) (h : Q 1 S) : wp_X9_isDay S a Q := by
  unfold wp_X9_isDay
  exact x9_in1 (fun q => h1 (Or.inl q)) (fun q => h1 (Or.inr q)) (bz1i h)
theorem x9_isDay0 {a : Int32} (h1 : a < 0 ∨ 9999 < a) (h : Q 0 S) : wp_X9_isDay S a Q := by
  unfold wp_X9_isDay
  exact x9_in0 h1 (bz0i h)
theorem x9_duty_L81 (hB : BM B m ad tg) {n l : Nat} {t b w : Int32} (hn : D 5 = nI n) (h24 : n ≤ 24) (hl : l < 8) : ∀ (fuel p : Nat) (w4 : Int32), p ≤ 4 → 4 < p + fuel → w4.toInt = (l : Int) - fiP F n t p → Q (duP F n t l 4) (mS B m tg D F) → wp_X9_duty_L81 m t b w Q fuel (mS B m tg D F) w4 (duP F n t l p) (nI p) := by
  intro fuel
  induction fuel with
  | zero => intro p w4 h1 h2; omega
  | succ f ih =>
    intro p w4 h1 h2 h3 h
    unfold wp_X9_duty_L81
    by_cases hp : p = 4
    · subst hp
      rw [if_pos (by decide)]
      exact h
    · rw [if_neg (show ¬ (4 : Int32) ≤ nI p from nI_ge (b := 4) (by omega) (by omega))]
      refine ⟨m_ok hB, x9_inPatrol hB hn h24 ?_⟩
      have hb := inP_le F n t (nI p)
      have hfp := ct_le (fun p => decide (0 < inP F n t (nI p))) p
      have hf0 : fiP F n t p ≤ p := hfp
      by_cases hz : inP F n t (nI p) = 0
      · rw [if_pos ((nI_le0 (by omega)).mpr hz)]
        have e1 : duP F n t l (p + 1) = duP F n t l p := by
          rw [duP, if_neg (by omega)]
        have e2 : fiP F n t (p + 1) = fiP F n t p := by
          simp [fiP, ct, hz]
        rw [nI_sub0, nI_1, ← e1]
        exact ih (p + 1) w4 (by omega) (by omega) (by rw [e2]; exact h3) h
      · rw [if_neg (fun q => hz ((nI_le0 (by omega)).mp q))]
        have e2 : fiP F n t (p + 1) = fiP F n t p + 1 := by
          simp only [fiP, ct]
          rw [if_pos (by simp; omega)]
        have e3 : (w4 - 1).toInt = (l : Int) - fiP F n t (p + 1) := by
          have h1 : (1 : Int32).toInt = 1 := by decide
          rw [fb_subI (by rw [h1, h3]; omega) (by rw [h1, h3]; omega), h3, h1, e2]
          omega
        by_cases hq : w4 = 0
        · rw [if_pos hq]
          have hq2 : fiP F n t p = l := by
            rw [hq, show (0 : Int32).toInt = 0 from rfl] at h3; omega
          have e1 : duP F n t l (p + 1) = nI p := by
            rw [duP, if_pos ⟨by omega, hq2⟩]
          rw [nI_1, ← e1]
          exact ih (p + 1) _ (by omega) (by omega) e3 h
        · rw [if_neg hq]
          have hq2 : ¬ fiP F n t p = l := by
            intro q
            refine hq ?_
            rw [i_eq, h3, q, show (0 : Int32).toInt = 0 from rfl]; omega
          have e1 : duP F n t l (p + 1) = duP F n t l p := by
            rw [duP, if_neg (fun q => hq2 q.2)]
          rw [nI_1, ← e1]
          exact ih (p + 1) _ (by omega) (by omega) e3 h
theorem x9_duty_L32 (hB : BM B m ad tg) {n d : Nat} {t : Int32} (hn : D 5 = nI n) (h24 : n ≤ 24) (hd : d < 10000) (h : Q (if fiP F n t 4 = 0 then -1 else duP F n t (d % fiP F n t 4) 4) (mS B m tg D F)) : ∀ (fuel p : Nat), p ≤ 4 → 4 < p + fuel → wp_X9_duty_L32 m t (nI d) Q fuel (mS B m tg D F) (nI (fiP F n t p)) (nI p) := by
  intro fuel
  induction fuel with
  | zero => intro p h1 h2; omega
  | succ f ih =>
    intro p h1 h2
    unfold wp_X9_duty_L32
    have hfp := ct_le (fun p => decide (0 < inP F n t (nI p))) p
    have hf0 : fiP F n t p ≤ p := hfp
    by_cases hp : p = 4
    · subst hp
      rw [if_pos (by decide)]
      by_cases hz : fiP F n t 4 = 0
      · rw [if_pos (by rw [hz]; rfl)]
        refine ⟨5, ?_⟩
        refine x9_duty_L81 (l := 0) (t := t) (b := nI d) (w := nI (fiP F n t 4)) hB hn h24 (by omega) 5 0 0 (by omega) (by omega) rfl (Q := Q) ?_
        · rw [if_pos hz] at h
          have e : ∀ p, p ≤ 4 → duP F n t 0 p = -1 := by
            intro p
            induction p with
            | zero => intro _; rfl
            | succ q ihq =>
              intro hq
              rw [duP, if_neg (fun w => ?_), ihq (by omega)]
              have : fb_ct (fun p => decide (0 < inP F n t (nI p))) 4 = 0 := hz
              have := fb_ct_zero.mp this q (by omega)
              simp at this
              omega
          rw [e 4 (by omega)]
          exact h
      · have hz2 : ¬ nI (fiP F n t 4) = 0 := nI_ne (b := 0) (by omega) (by omega) hz
        rw [if_neg hz2]
        refine ⟨hz2, 5, ?_⟩
        rw [if_neg hz] at h
        rw [pk_rem (by omega) (by omega) (by omega)]
        have hm := Nat.mod_lt d (show 0 < fiP F n t 4 by omega)
        exact x9_duty_L81 (l := d % fiP F n t 4) (t := t) (b := nI d) (w := nI (fiP F n t 4)) hB hn h24 (by omega) 5 0 _ (by omega) (by omega) (by rw [nI_toInt (by omega)]; simp [fiP, ct]) (Q := Q) h
    · rw [if_neg (show ¬ (4 : Int32) ≤ nI p from nI_ge (b := 4) (by omega) (by omega))]
      refine ⟨m_ok hB, x9_inPatrol hB hn h24 ?_⟩
      have hb := inP_le F n t (nI p)
      have hs := ih (p + 1) (by omega) (by omega)
      by_cases hz : inP F n t (nI p) = 0
      · rw [if_pos ((nI_le0 (by omega)).mpr hz)]
        rw [nI_add0, nI_1]
        have e2 : fiP F n t (p + 1) = fiP F n t p := by
          simp [fiP, ct, hz]
        rw [e2] at hs
        exact hs
      · rw [if_neg (fun q => hz ((nI_le0 (by omega)).mp q))]
        rw [nI_1, nI_1]
        have e2 : fiP F n t (p + 1) = fiP F n t p + 1 := by
          simp only [fiP, ct]
          rw [if_pos (by simp; omega)]
        rw [e2] at hs
        exact hs
theorem x9_duty1 (hB : BM B m ad tg) {a b : Int32} {nt : Nat} (hn : D 1 = nI nt) (h6 : nt ≤ 6) (hv : a < 0 ∨ nI nt ≤ a) (h : Q 0 (mS B m tg (upD D 31 1) F)) : wp_X9_duty (mS B m tg D F) m a b Q := by
  unfold wp_X9_duty
  refine ⟨m_ok hB, x9_isTroop0 hB hn h6 hv ⟨m_ok hB, x9_asks0 hB ?_⟩⟩
  rw [if_pos rfl]
  exact h
theorem x9_duty2 (hB : BM B m ad tg) {b : Int32} {nt i : Nat} (hn : D 1 = nI nt) (h6 : nt ≤ 6) (hi : i < nt) (hv : b < 0 ∨ 9999 < b) (h : Q 0 (mS B m tg (upD (upD D 31 0) 31 2) F)) : wp_X9_duty (mS B m tg D F) m (nI i) b Q := by
  unfold wp_X9_duty
  refine ⟨m_ok hB, x9_isTroop1 hB hn h6 hi ⟨m_ok hB, x9_asks1 hB ?_⟩⟩
  rw [if_neg (by decide)]
  refine x9_isDay0 hv ?_
  rw [if_pos rfl]
  exact ⟨m_ok hB, x9_fails hB h⟩
theorem day_nat {b : Int32} (hv : ¬ (b < 0 ∨ 9999 < b)) : ∃ d : Nat, d < 10000 ∧ b = nI d := by
  rcases ix_or b (n := 999) (by omega) with ⟨j, hj, e⟩ | _
  · exact ⟨j, by omega, e⟩
  · rcases nI_int b with h | ⟨j, hj, e⟩
    · exact absurd (Or.inl h) hv
    · refine ⟨j, ?_, e⟩
      rcases Nat.lt_or_ge j 10000 with q | q
      · exact q
      · refine absurd (Or.inr ?_) hv
        rw [i_lt, e, nI_toInt hj, show (9999 : Int32).toInt = 9999 from rfl]
        omega
theorem x9_duty0 (hB : BM B m ad tg) {d nt i n : Nat} (hn : D 5 = nI n) (h24 : n ≤ 24) (hnt : D 1 = nI nt) (h6 : nt ≤ 6) (hi : i < nt) (hd : d < 10000) (h : Q (if fiP F n (nI i) 4 = 0 then -1 else duP F n (nI i) (d % fiP F n (nI i) 4) 4) (mS B m tg (upD D 31 0) F)) : wp_X9_duty (mS B m tg D F) m (nI i) (nI d) Q := by
  unfold wp_X9_duty
  refine ⟨m_ok hB, x9_isTroop1 hB hnt h6 hi ⟨m_ok hB, x9_asks1 hB ?_⟩⟩
  rw [if_neg (by decide)]
  refine x9_isDay1 ?_ ?_
  · rw [i_lt, i_lt, nI_toInt (by omega), show (9999 : Int32).toInt = 9999 from rfl, show (0 : Int32).toInt = 0 from rfl]
    omega
  · rw [if_neg (by decide)]
    exact ⟨5, by simpa only [fiP, ct, nI_0] using x9_duty_L32 (D := upD D 31 0) hB (n := n) (t := nI i) hn h24 hd h 5 0 (by omega) (by omega)⟩
end MCHILD
