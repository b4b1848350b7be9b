/-! THE REFERENCE: prove, ofChild, earned, holds, lacks, why -/
section MMORE
variable {B : Hp} {m : Nat} {ad tg : Nat → Nat} {D : Nat → Int32} {F : Nat → Nat → Int32} {Q : Int32 → Hp → Prop} {S : Hp}
theorem x9_prove_L (hB : BM B m ad tg) {c k l d : Nat} (hd : D 0 = nI d) (hd2 : d < 10000) (hc : c < 24) (hk : k < 16) (hl : l < 8) (h22 : isIx (F 22 l) 65536) (hP : PRc F c) (hC : CoV F c)
    (h2 : ¬ (anB (fun a => veB F l a (D 0)) 3 = true ∧ (F 22 l).toNatClampNeg.testBit k = true ∧ F 16 (16 * c + k) = -1) → Q 0 (mS B m tg (upD D 31 2) F))
    (h0 : anB (fun a => veB F l a (D 0)) 3 = true → (F 22 l).toNatClampNeg.testBit k = true → F 16 (16 * c + k) = -1 → Q (nI (eaN (g_2 F 16 (16 * c + k) (D 0)) c d 8)) (mS B m tg D (daF (g_2 F 16 (16 * c + k) (D 0)) c 8))) :
    ∀ (fuel i : Nat), i ≤ 3 → 3 < i + fuel → wp_X9_prove_L46 m (nI c) (nI k) (nI l) Q fuel (mS B m tg D F) (bI (anB (fun a => veB F l a (D 0)) i)) (nI i) := by
  intro fuel
  induction fuel with
  | zero => intro i h1 h2; omega
  | succ u ih =>
    intro i h1 h3
    unfold wp_X9_prove_L46
    by_cases hi : i = 3
    · subst hi
      rw [if_pos (by decide)]
      cases hv : anB (fun a => veB F l a (D 0)) 3 with
      | false =>
        rw [if_pos (show bI false = 0 from rfl)]
        exact ⟨m_ok hB, x9_fails hB (h2 (fun q => by rw [hv] at q; exact absurd q.1 (by decide)))⟩
      | true =>
        rw [if_neg (show ¬ bI true = 0 by decide)]
        simp only [m_ok hB, m_rd2 hB, m_N2 hB, m_R2 hB, m_sR2 hB, m_rd3 hB, m_N3 hB, m_R3 hB, m_sR3 hB, m_rd4 hB, m_N4 hB, m_R4 hB, m_sR4 hB, m_rd6 hB, m_N6 hB, m_R6 hB, m_sR6 hB, m_rd7 hB, m_N7 hB, m_R7 hB, m_sR7 hB, m_rd8 hB, m_N8 hB, m_R8 hB, m_sR8 hB, m_rd9 hB, m_N9 hB, m_R9 hB, m_sR9 hB, m_rd11 hB, m_N11 hB, m_R11 hB, m_sR11 hB, m_rd12 hB, m_N12 hB, m_R12 hB, m_sR12 hB, m_rd13 hB, m_N13 hB, m_R13 hB, m_sR13 hB, m_rd14 hB, m_N14 hB, m_R14 hB, m_sR14 hB, m_rd15 hB, m_N15 hB, m_R15 hB, m_sR15 hB, m_rd16 hB, m_N16 hB, m_R16 hB, m_sR16 hB, m_rd17 hB, m_N17 hB, m_R17 hB, m_sR17 hB, m_rd18 hB, m_N18 hB, m_R18 hB, m_sR18 hB, m_rd20 hB, m_N20 hB, m_R20 hB, m_sR20 hB, m_rd21 hB, m_N21 hB, m_R21 hB, m_sR21 hB, m_rd22 hB, m_N22 hB, m_R22 hB, m_sR22 hB, m_rd23 hB, m_N23 hB, m_R23 hB, m_sR23 hB, m_rd24 hB, m_N24 hB, m_R24 hB, m_sR24 hB, m_rd25 hB, m_N25 hB, m_R25 hB, m_sR25 hB, m_rd27 hB, m_N27 hB, m_R27 hB, m_sR27 hB, m_rd28 hB, m_N28 hB, m_R28 hB, m_sR28 hB, m_rd29 hB, m_N29 hB, m_R29 hB, m_sR29 hB, m_rd30 hB, m_N30 hB, m_R30 hB, m_sR30 hB, m_I0, m_sI0, m_I1, m_sI1, m_I5, m_sI5, m_I10, m_sI10, m_I19, m_sI19, m_I26, m_sI26, m_I31, m_sI31, lt_v, bz0, bz1, true_and]
        refine ⟨vp_in_nI (by omega) (by omega), ?_⟩
        rw [nIc (show l < 2 ^ 31 by omega)]
        cases hb : (F 22 l).toNatClampNeg.testBit k with
        | false =>
          have e : ((F 22 l >>> (nI k &&& 31)) &&& 1 : Int32) = 0 := by
            obtain ⟨e1, e2⟩ := ixe h22 (by decide)
            rw [e1, bit_nI (by omega) (by omega)]
            unfold bN
            rw [hb]
            decide
          rw [if_pos e]
          exact x9_fails hB (h2 (fun q => by rw [hb] at q; exact absurd q.2.1 (by decide)))
        | true =>
          have e : ¬ ((F 22 l >>> (nI k &&& 31)) &&& 1 : Int32) = 0 := by
            obtain ⟨e1, e2⟩ := ixe h22 (by decide)
            rw [e1, bit_nI (by omega) (by omega)]
            unfold bN
            rw [hb]
            decide
          rw [if_neg e, pix16]
          refine ⟨vp_in_nI (by omega) (by omega), ?_⟩
          rw [nIc (show 16 * c + k < 2 ^ 31 by omega)]
          by_cases h16 : F 16 (16 * c + k) = -1
          · rw [if_pos h16]
            refine ⟨vp_in_nI (by omega) (by omega), ?_⟩
            refine x9_earnedBy hB hd hd2 hc ?_ hC (h0 hv hb h16)
            intro j hj
            by_cases hjk : j = k
            · subst hjk
              exact Or.inr (by rw [g_2s]; exact ⟨d, hd2, hd⟩)
            · have e3 : g_2 F 16 (16 * c + k) (D 0) 16 (16 * c + j) = F 16 (16 * c + j) := g_2n _ _ (by omega)
              rw [e3]
              exact hP j hj
          · rw [if_neg h16]
            exact x9_fails hB (h2 (fun q => h16 q.2.2))
    · rw [if_neg (show ¬ (3 : Int32) ≤ nI i from nI_ge (b := 3) (by omega) (by omega)), nI_1]
      have hs := ih (i + 1) (by omega) (by omega)
      unfold anB at hs
      cases hv : anB (fun a => veB F l a (D 0)) i with
      | true =>
        rw [hv] at hs
        rw [if_neg (show ¬ bI true = 0 by decide)]
        exact hs
      | false =>
        rw [hv] at hs
        rw [if_pos (show bI false = 0 from rfl)]
        refine ⟨m_ok hB, ?_⟩
        rw [m_I0]
        refine x9_isVetted hB hl (by omega) ?_
        cases hw : veB F l i (D 0) with
        | true =>
          rw [hw] at hs
          rw [if_neg (show ¬ bI true = 0 by decide)]
          exact hs
        | false =>
          rw [hw] at hs
          rw [if_pos (show bI false = 0 from rfl)]
          exact hs
theorem x9_prove1a (hB : BM B m ad tg) {a b c : Int32} {n : Nat} (hn : D 5 = nI n) (h24 : n ≤ 24) (hv : a < 0 ∨ nI n ≤ a) (h : Q 0 (mS B m tg (upD D 31 1) F)) : wp_X9_prove (mS B m tg D F) m a b c Q := by
  unfold wp_X9_prove
  refine ⟨m_ok hB, x9_isChild0 hB hn h24 hv ?_⟩
  rw [if_pos rfl]
  refine ⟨m_ok hB, x9_asks0 hB ?_⟩
  rw [if_pos rfl]
  exact h
theorem x9_prove1b (hB : BM B m ad tg) {b c : Int32} {n i : Nat} (hn : D 5 = nI n) (h24 : n ≤ 24) (hi : i < n) (hv : b < 0 ∨ 15 < b) (h : Q 0 (mS B m tg (upD D 31 1) F)) : wp_X9_prove (mS B m tg D F) m (nI i) b c Q := by
  unfold wp_X9_prove
  refine ⟨m_ok hB, x9_isChild1 hB hn h24 hi ?_⟩
  rw [if_neg (by decide)]
  refine x9_in0 hv ?_
  rw [if_pos rfl]
  refine ⟨m_ok hB, x9_asks0 hB ?_⟩
  rw [if_pos rfl]
  exact h
theorem x9_prove1c (hB : BM B m ad tg) {b c : Int32} {n i k : Nat} (hn : D 5 = nI n) (h24 : n ≤ 24) (hi : i < n) (hb : ¬ (b < 0 ∨ 15 < b)) (hk : D 19 = nI k) (h8 : k ≤ 8) (hv : c < 0 ∨ nI k ≤ c) (h : Q 0 (mS B m tg (upD D 31 1) F)) : wp_X9_prove (mS B m tg D F) m (nI i) b c Q := by
  unfold wp_X9_prove
  refine ⟨m_ok hB, x9_isChild1 hB hn h24 hi ?_⟩
  rw [if_neg (by decide)]
  refine x9_in1 (fun q => hb (Or.inl q)) (fun q => hb (Or.inr q)) ?_
  rw [if_neg (by decide)]
  refine ⟨m_ok hB, x9_isLeader0 hB hk h8 hv ?_⟩
  rw [if_pos rfl]
  refine ⟨m_ok hB, x9_asks0 hB ?_⟩
  rw [if_pos rfl]
  exact h
theorem x9_prove (hB : BM B m ad tg) {n c k l nl d : Nat} (hn : D 5 = nI n) (h24 : n ≤ 24) (hc : c < n) (hk : k < 16) (hnl : D 19 = nI nl) (h8 : nl ≤ 8) (hl : l < nl) (hd : D 0 = nI d) (hd2 : d < 10000) (h22 : isIx (F 22 l) 65536) (hP : PRc F c) (hC : CoV F c)
    (h2 : ¬ (anB (fun a => veB F l a (D 0)) 3 = true ∧ (F 22 l).toNatClampNeg.testBit k = true ∧ F 16 (16 * c + k) = -1) → Q 0 (mS B m tg (upD (upD D 31 0) 31 2) F))
    (h0 : anB (fun a => veB F l a (D 0)) 3 = true → (F 22 l).toNatClampNeg.testBit k = true → F 16 (16 * c + k) = -1 → Q (nI (eaN (g_2 F 16 (16 * c + k) (D 0)) c d 8)) (mS B m tg (upD D 31 0) (daF (g_2 F 16 (16 * c + k) (D 0)) c 8))) : wp_X9_prove (mS B m tg D F) m (nI c) (nI k) (nI l) Q := by
  unfold wp_X9_prove
  refine ⟨m_ok hB, x9_isChild1 hB hn h24 hc ?_⟩
  rw [if_neg (by decide)]
  have hr := rng (k := k) (N := 15) (by omega) (by omega)
  refine x9_in1 (fun q => hr (Or.inl q)) (fun q => hr (Or.inr q)) ?_
  rw [if_neg (by decide)]
  refine ⟨m_ok hB, x9_isLeader1 hB hnl h8 hl ?_⟩
  rw [if_neg (by decide)]
  refine ⟨m_ok hB, x9_asks1 hB ?_⟩
  rw [if_neg (by decide)]
  exact ⟨4, x9_prove_L (D := upD D 31 0) hB hd hd2 (by omega) hk (by omega) h22 hP hC h2 h0 4 0 (by omega) (by omega)⟩
theorem x9_ofChild1 (hB : BM B m ad tg) {a b : Int32} {n : Nat} (hn : D 5 = nI n) (h24 : n ≤ 24) (hv : a < 0 ∨ nI n ≤ a) (h : Q 0 (mS B m tg (upD D 31 1) F)) : wp_X9_ofChild (mS B m tg D F) m a b Q := by
  unfold wp_X9_ofChild
  refine ⟨m_ok hB, x9_isChild0 hB hn h24 hv ⟨m_ok hB, x9_asks0 hB ?_⟩⟩
  rw [if_pos rfl]
  exact h
theorem x9_ofChild (hB : BM B m ad tg) {b : Int32} {n c d : Nat} (hn : D 5 = nI n) (h24 : n ≤ 24) (hc : c < n) (hd : D 0 = nI d) (hd2 : d < 10000) (hP : PRc F c) (hC : CoV F c)
    (h0 : b = 0 → Q (F 6 c) (mS B m tg (upD D 31 0) F)) (h1 : b = 1 → Q (F 7 c) (mS B m tg (upD D 31 0) F)) (h2 : b = 2 → Q (F 8 c) (mS B m tg (upD D 31 0) F)) (h3 : b = 3 → Q (F 11 c) (mS B m tg (upD D 31 0) F)) (h4 : b = 4 → Q (nI (eaN F c d 8)) (mS B m tg (upD D 31 0) (daF F c 8))) (h5 : b = 5 → Q (F 12 c) (mS B m tg (upD D 31 0) F)) (h6 : ¬ b = 0 → ¬ b = 1 → ¬ b = 2 → ¬ b = 3 → ¬ b = 4 → ¬ b = 5 → Q 0 (mS B m tg (upD (upD D 31 0) 31 2) F)) : wp_X9_ofChild (mS B m tg D F) m (nI c) b Q := by
  unfold wp_X9_ofChild
  refine ⟨m_ok hB, x9_isChild1 hB hn h24 hc ⟨m_ok hB, x9_asks1 hB ?_⟩⟩
  rw [if_neg (by decide)]
  have vin : vp_in (nI c) 24 = True := eq_true (vp_in_nI (by omega) (by omega))
  have hcc : (nI c).toNatClampNeg = c := nIc (by omega)
  simp only [m_ok hB, m_rd2 hB, m_N2 hB, m_R2 hB, m_sR2 hB, m_rd3 hB, m_N3 hB, m_R3 hB, m_sR3 hB, m_rd4 hB, m_N4 hB, m_R4 hB, m_sR4 hB, m_rd6 hB, m_N6 hB, m_R6 hB, m_sR6 hB, m_rd7 hB, m_N7 hB, m_R7 hB, m_sR7 hB, m_rd8 hB, m_N8 hB, m_R8 hB, m_sR8 hB, m_rd9 hB, m_N9 hB, m_R9 hB, m_sR9 hB, m_rd11 hB, m_N11 hB, m_R11 hB, m_sR11 hB, m_rd12 hB, m_N12 hB, m_R12 hB, m_sR12 hB, m_rd13 hB, m_N13 hB, m_R13 hB, m_sR13 hB, m_rd14 hB, m_N14 hB, m_R14 hB, m_sR14 hB, m_rd15 hB, m_N15 hB, m_R15 hB, m_sR15 hB, m_rd16 hB, m_N16 hB, m_R16 hB, m_sR16 hB, m_rd17 hB, m_N17 hB, m_R17 hB, m_sR17 hB, m_rd18 hB, m_N18 hB, m_R18 hB, m_sR18 hB, m_rd20 hB, m_N20 hB, m_R20 hB, m_sR20 hB, m_rd21 hB, m_N21 hB, m_R21 hB, m_sR21 hB, m_rd22 hB, m_N22 hB, m_R22 hB, m_sR22 hB, m_rd23 hB, m_N23 hB, m_R23 hB, m_sR23 hB, m_rd24 hB, m_N24 hB, m_R24 hB, m_sR24 hB, m_rd25 hB, m_N25 hB, m_R25 hB, m_sR25 hB, m_rd27 hB, m_N27 hB, m_R27 hB, m_sR27 hB, m_rd28 hB, m_N28 hB, m_R28 hB, m_sR28 hB, m_rd29 hB, m_N29 hB, m_R29 hB, m_sR29 hB, m_rd30 hB, m_N30 hB, m_R30 hB, m_sR30 hB, m_I0, m_sI0, m_I1, m_sI1, m_I5, m_sI5, m_I10, m_sI10, m_I19, m_sI19, m_I26, m_sI26, m_I31, m_sI31, lt_v, bz0, bz1, true_and, vin, hcc]
  by_cases q0 : b = 0
  · rw [if_pos q0]; exact h0 q0
  rw [if_neg q0]
  by_cases q1 : b = 1
  · rw [if_pos q1]; exact h1 q1
  rw [if_neg q1]
  by_cases q2 : b = 2
  · rw [if_pos q2]; exact h2 q2
  rw [if_neg q2]
  by_cases q3 : b = 3
  · rw [if_pos q3]; exact h3 q3
  rw [if_neg q3]
  by_cases q4 : b = 4
  · rw [if_pos q4]
    exact x9_earnedBy (D := upD D 31 0) hB hd hd2 (by omega) hP hC (h4 q4)
  rw [if_neg q4]
  by_cases q5 : b = 5
  · rw [if_pos q5]; exact h5 q5
  rw [if_neg q5]
  exact x9_fails hB (h6 q0 q1 q2 q3 q4 q5)
theorem x9_earned1a (hB : BM B m ad tg) {a b : Int32} {n : Nat} (hn : D 5 = nI n) (h24 : n ≤ 24) (hv : a < 0 ∨ nI n ≤ a) (h : Q 0 (mS B m tg (upD D 31 1) F)) : wp_X9_earned (mS B m tg D F) m a b Q := by
  unfold wp_X9_earned
  refine ⟨m_ok hB, x9_isChild0 hB hn h24 hv ?_⟩
  rw [if_pos rfl]
  refine ⟨m_ok hB, x9_asks0 hB ?_⟩
  rw [if_pos rfl]
  exact h
theorem x9_earned1b (hB : BM B m ad tg) {b : Int32} {n i : Nat} (hn : D 5 = nI n) (h24 : n ≤ 24) (hi : i < n) (hv : b < 0 ∨ 7 < b) (h : Q 0 (mS B m tg (upD D 31 1) F)) : wp_X9_earned (mS B m tg D F) m (nI i) b Q := by
  unfold wp_X9_earned
  refine ⟨m_ok hB, x9_isChild1 hB hn h24 hi ?_⟩
  rw [if_neg (by decide)]
  refine x9_isBadge0 hv ?_
  rw [if_pos rfl]
  refine ⟨m_ok hB, x9_asks0 hB ?_⟩
  rw [if_pos rfl]
  exact h
theorem x9_earned (hB : BM B m ad tg) {n c b d : Nat} (hn : D 5 = nI n) (h24 : n ≤ 24) (hc : c < n) (hb : b < 8) (hd : D 0 = nI d) (hd2 : d < 10000) (hP : PRc F c) (hC : CoV F c) (h : Q (if dyT F c 8 b ≤ d then nI (dyT F c 8 b) else -1) (mS B m tg (upD D 31 0) (daF F c 8))) : wp_X9_earned (mS B m tg D F) m (nI c) (nI b) Q := by
  unfold wp_X9_earned
  refine ⟨m_ok hB, x9_isChild1 hB hn h24 hc ?_⟩
  rw [if_neg (by decide)]
  refine x9_isBadge1 (rng (N := 7) (by omega) (by omega)) ?_
  rw [if_neg (by decide)]
  refine ⟨m_ok hB, x9_asks1 hB ?_⟩
  rw [if_neg (by decide)]
  refine ⟨m_ok hB, x9_days (D := upD D 31 0) hB (by omega) hP hC ?_⟩
  have hcc : (nI b).toNatClampNeg = b := nIc (by omega)
  have vin : vp_in (nI b) 8 = True := eq_true (vp_in_nI (by omega) (by omega))
  simp only [m_ok hB, m_rd2 hB, m_N2 hB, m_R2 hB, m_sR2 hB, m_rd3 hB, m_N3 hB, m_R3 hB, m_sR3 hB, m_rd4 hB, m_N4 hB, m_R4 hB, m_sR4 hB, m_rd6 hB, m_N6 hB, m_R6 hB, m_sR6 hB, m_rd7 hB, m_N7 hB, m_R7 hB, m_sR7 hB, m_rd8 hB, m_N8 hB, m_R8 hB, m_sR8 hB, m_rd9 hB, m_N9 hB, m_R9 hB, m_sR9 hB, m_rd11 hB, m_N11 hB, m_R11 hB, m_sR11 hB, m_rd12 hB, m_N12 hB, m_R12 hB, m_sR12 hB, m_rd13 hB, m_N13 hB, m_R13 hB, m_sR13 hB, m_rd14 hB, m_N14 hB, m_R14 hB, m_sR14 hB, m_rd15 hB, m_N15 hB, m_R15 hB, m_sR15 hB, m_rd16 hB, m_N16 hB, m_R16 hB, m_sR16 hB, m_rd17 hB, m_N17 hB, m_R17 hB, m_sR17 hB, m_rd18 hB, m_N18 hB, m_R18 hB, m_sR18 hB, m_rd20 hB, m_N20 hB, m_R20 hB, m_sR20 hB, m_rd21 hB, m_N21 hB, m_R21 hB, m_sR21 hB, m_rd22 hB, m_N22 hB, m_R22 hB, m_sR22 hB, m_rd23 hB, m_N23 hB, m_R23 hB, m_sR23 hB, m_rd24 hB, m_N24 hB, m_R24 hB, m_sR24 hB, m_rd25 hB, m_N25 hB, m_R25 hB, m_sR25 hB, m_rd27 hB, m_N27 hB, m_R27 hB, m_sR27 hB, m_rd28 hB, m_N28 hB, m_R28 hB, m_sR28 hB, m_rd29 hB, m_N29 hB, m_R29 hB, m_sR29 hB, m_rd30 hB, m_N30 hB, m_R30 hB, m_sR30 hB, m_I0, m_sI0, m_I1, m_sI1, m_I5, m_sI5, m_I10, m_sI10, m_I19, m_sI19, m_I26, m_sI26, m_I31, m_sI31, lt_v, bz0, bz1, true_and, hcc, vin]
  have hT := dyT_le F c 8 b
  rw [show upD D 31 0 0 = nI d from hd, show daF F c 8 25 b = nI (dyT F c 8 b) by simp [daF, hb]]
  by_cases q : dyT F c 8 b ≤ d
  · rw [if_neg (show ¬ nI d < nI (dyT F c 8 b) by rw [i_lt, nI_toInt (by omega), nI_toInt (by omega)]; omega)]
    rw [if_pos q] at h
    exact h
  · rw [if_pos (show nI d < nI (dyT F c 8 b) by rw [i_lt, nI_toInt (by omega), nI_toInt (by omega)]; omega)]
    rw [if_neg q] at h
    exact h
theorem x9_holds1a (hB : BM B m ad tg) {a b : Int32} {n : Nat} (hn : D 5 = nI n) (h24 : n ≤ 24) (hv : a < 0 ∨ nI n ≤ a) (h : Q 0 (mS B m tg (upD D 31 1) F)) : wp_X9_holds (mS B m tg D F) m a b Q := by
  unfold wp_X9_holds
  refine ⟨m_ok hB, x9_isChild0 hB hn h24 hv ?_⟩
  rw [if_pos rfl]
  refine ⟨m_ok hB, x9_asks0 hB ?_⟩
  rw [if_pos rfl]
  exact bz0i h
theorem x9_holds1b (hB : BM B m ad tg) {b : Int32} {n i : Nat} (hn : D 5 = nI n) (h24 : n ≤ 24) (hi : i < n) (hv : b < 0 ∨ 7 < b) (h : Q 0 (mS B m tg (upD D 31 1) F)) : wp_X9_holds (mS B m tg D F) m (nI i) b Q := by
  unfold wp_X9_holds
  refine ⟨m_ok hB, x9_isChild1 hB hn h24 hi ?_⟩
  rw [if_neg (by decide)]
  refine x9_isBadge0 hv ?_
  rw [if_pos rfl]
  refine ⟨m_ok hB, x9_asks0 hB ?_⟩
  rw [if_pos rfl]
  exact bz0i h
theorem eAt_eq {F : Nat → Nat → Int32} {c b : Nat} (h : isIx (F 18 (8 * c + b)) 3) : (18 : Int32) * nI b + 6 * F 18 (8 * c + b) = nI (eAt F c b) := by
  obtain ⟨j, hj, e⟩ := h
  unfold eAt
  rw [e, eix, nIc (by omega)]
/-- badge b of child c is held on day d -/
def hoB (F : Nat → Nat → Int32) (c b d : Nat) : Bool := decide (dyT F c 8 b ≤ d) && (decide (F 24 (eAt F c b + 5) = 0) || !decide (nI (dyT F c 8 b) + F 24 (eAt F c b + 5) ≤ nI d))
theorem x9_holds (hB : BM B m ad tg) {n c b d : Nat} (hn : D 5 = nI n) (h24 : n ≤ 24) (hc : c < n) (hb : b < 8) (hd : D 0 = nI d) (hd2 : d < 10000) (hP : PRc F c) (hC : CoV F c) (h : Q (bI (hoB F c b d)) (mS B m tg (upD D 31 0) (daF F c 8))) : wp_X9_holds (mS B m tg D F) m (nI c) (nI b) Q := by
  unfold wp_X9_holds
  refine ⟨m_ok hB, x9_isChild1 hB hn h24 hc ?_⟩
  rw [if_neg (by decide)]
  refine x9_isBadge1 (rng (N := 7) (by omega) (by omega)) ?_
  rw [if_neg (by decide)]
  refine ⟨m_ok hB, x9_asks1 hB ?_⟩
  rw [if_neg (by decide)]
  refine ⟨m_ok hB, x9_days (D := upD D 31 0) hB (by omega) hP hC ?_⟩
  have hcc : (nI b).toNatClampNeg = b := nIc (by omega)
  have vin : vp_in (nI b) 8 = True := eq_true (vp_in_nI (by omega) (by omega))
  simp only [m_ok hB, m_rd2 hB, m_N2 hB, m_R2 hB, m_sR2 hB, m_rd3 hB, m_N3 hB, m_R3 hB, m_sR3 hB, m_rd4 hB, m_N4 hB, m_R4 hB, m_sR4 hB, m_rd6 hB, m_N6 hB, m_R6 hB, m_sR6 hB, m_rd7 hB, m_N7 hB, m_R7 hB, m_sR7 hB, m_rd8 hB, m_N8 hB, m_R8 hB, m_sR8 hB, m_rd9 hB, m_N9 hB, m_R9 hB, m_sR9 hB, m_rd11 hB, m_N11 hB, m_R11 hB, m_sR11 hB, m_rd12 hB, m_N12 hB, m_R12 hB, m_sR12 hB, m_rd13 hB, m_N13 hB, m_R13 hB, m_sR13 hB, m_rd14 hB, m_N14 hB, m_R14 hB, m_sR14 hB, m_rd15 hB, m_N15 hB, m_R15 hB, m_sR15 hB, m_rd16 hB, m_N16 hB, m_R16 hB, m_sR16 hB, m_rd17 hB, m_N17 hB, m_R17 hB, m_sR17 hB, m_rd18 hB, m_N18 hB, m_R18 hB, m_sR18 hB, m_rd20 hB, m_N20 hB, m_R20 hB, m_sR20 hB, m_rd21 hB, m_N21 hB, m_R21 hB, m_sR21 hB, m_rd22 hB, m_N22 hB, m_R22 hB, m_sR22 hB, m_rd23 hB, m_N23 hB, m_R23 hB, m_sR23 hB, m_rd24 hB, m_N24 hB, m_R24 hB, m_sR24 hB, m_rd25 hB, m_N25 hB, m_R25 hB, m_sR25 hB, m_rd27 hB, m_N27 hB, m_R27 hB, m_sR27 hB, m_rd28 hB, m_N28 hB, m_R28 hB, m_sR28 hB, m_rd29 hB, m_N29 hB, m_R29 hB, m_sR29 hB, m_rd30 hB, m_N30 hB, m_R30 hB, m_sR30 hB, m_I0, m_sI0, m_I1, m_sI1, m_I5, m_sI5, m_I10, m_sI10, m_I19, m_sI19, m_I26, m_sI26, m_I31, m_sI31, lt_v, bz0, bz1, true_and, hcc, vin]
  have hT := dyT_le F c 8 b
  obtain ⟨e1, e2⟩ := ixe (hC b hb).1 (by decide)
  have ha : eAt F c b + 5 < 144 := by
    unfold eAt
    omega
  rw [cix, show upD D 31 0 0 = nI d from hd, show daF F c 8 25 b = nI (dyT F c 8 b) by simp [daF, hb], daF_ne F c 8 18 (by decide), daF_ne F c 8 24 (by decide)]
  refine ⟨vp_in_nI (by omega) (by omega), ?_⟩
  rw [nIc (show 8 * c + b < 2 ^ 31 by omega)]
  have e3 : (18 : Int32) * nI b + 6 * F 18 (8 * c + b) + 5 = nI (eAt F c b + 5) := by
    rw [eAt_eq (hC b hb).1]
    exact nI_k _ 5
  rw [e3]
  refine ⟨vp_in_nI (by omega) (by omega), ?_⟩
  rw [nIc (show eAt F c b + 5 < 2 ^ 31 by omega)]
  unfold hoB at h
  by_cases q : dyT F c 8 b ≤ d
  · rw [if_neg (show ¬ nI d < nI (dyT F c 8 b) by rw [i_lt, nI_toInt (by omega), nI_toInt (by omega)]; omega)]
    by_cases q2 : F 24 (eAt F c b + 5) = 0
    · rw [if_pos q2]
      simpa [q, q2, bI] using h
    · rw [if_neg q2]
      by_cases q3 : nI (dyT F c 8 b) + F 24 (eAt F c b + 5) ≤ nI d
      · rw [if_pos q3]
        simpa [q, q2, q3, bI] using h
      · rw [if_neg q3]
        simpa [q, q2, q3, bI] using h
  · rw [if_pos (show nI d < nI (dyT F c 8 b) by rw [i_lt, nI_toInt (by omega), nI_toInt (by omega)]; omega)]
    simpa [q, bI] using h
theorem x9_lacks1a (hB : BM B m ad tg) {a b : Int32} {n : Nat} (hn : D 5 = nI n) (h24 : n ≤ 24) (hv : a < 0 ∨ nI n ≤ a) (h : Q 0 (mS B m tg (upD D 31 1) F)) : wp_X9_lacks (mS B m tg D F) m a b Q := by
  unfold wp_X9_lacks
  refine ⟨m_ok hB, x9_isChild0 hB hn h24 hv ?_⟩
  rw [if_pos rfl]
  refine ⟨m_ok hB, x9_asks0 hB ?_⟩
  rw [if_pos rfl]
  exact h
theorem x9_lacks1b (hB : BM B m ad tg) {b : Int32} {n i : Nat} (hn : D 5 = nI n) (h24 : n ≤ 24) (hi : i < n) (hv : b < 0 ∨ 7 < b) (h : Q 0 (mS B m tg (upD D 31 1) F)) : wp_X9_lacks (mS B m tg D F) m (nI i) b Q := by
  unfold wp_X9_lacks
  refine ⟨m_ok hB, x9_isChild1 hB hn h24 hi ?_⟩
  rw [if_neg (by decide)]
  refine x9_isBadge0 hv ?_
  rw [if_pos rfl]
  refine ⟨m_ok hB, x9_asks0 hB ?_⟩
  rw [if_pos rfl]
  exact h
theorem x9_lacks2 (hB : BM B m ad tg) {n i b : Nat} (hn : D 5 = nI n) (h24 : n ≤ 24) (hi : i < n) (hb : b < 8) (hw : F 17 (8 * i + b) = -1) (h : Q 0 (mS B m tg (upD (upD D 31 0) 31 2) F)) : wp_X9_lacks (mS B m tg D F) m (nI i) (nI b) Q := by
  unfold wp_X9_lacks
  refine ⟨m_ok hB, x9_isChild1 hB hn h24 hi ?_⟩
  rw [if_neg (by decide)]
  refine x9_isBadge1 (rng (N := 7) (by omega) (by omega)) ?_
  rw [if_neg (by decide)]
  refine ⟨m_ok hB, x9_asks1 hB ?_⟩
  rw [if_neg (by decide)]
  simp only [m_ok hB, m_rd2 hB, m_N2 hB, m_R2 hB, m_sR2 hB, m_rd3 hB, m_N3 hB, m_R3 hB, m_sR3 hB, m_rd4 hB, m_N4 hB, m_R4 hB, m_sR4 hB, m_rd6 hB, m_N6 hB, m_R6 hB, m_sR6 hB, m_rd7 hB, m_N7 hB, m_R7 hB, m_sR7 hB, m_rd8 hB, m_N8 hB, m_R8 hB, m_sR8 hB, m_rd9 hB, m_N9 hB, m_R9 hB, m_sR9 hB, m_rd11 hB, m_N11 hB, m_R11 hB, m_sR11 hB, m_rd12 hB, m_N12 hB, m_R12 hB, m_sR12 hB, m_rd13 hB, m_N13 hB, m_R13 hB, m_sR13 hB, m_rd14 hB, m_N14 hB, m_R14 hB, m_sR14 hB, m_rd15 hB, m_N15 hB, m_R15 hB, m_sR15 hB, m_rd16 hB, m_N16 hB, m_R16 hB, m_sR16 hB, m_rd17 hB, m_N17 hB, m_R17 hB, m_sR17 hB, m_rd18 hB, m_N18 hB, m_R18 hB, m_sR18 hB, m_rd20 hB, m_N20 hB, m_R20 hB, m_sR20 hB, m_rd21 hB, m_N21 hB, m_R21 hB, m_sR21 hB, m_rd22 hB, m_N22 hB, m_R22 hB, m_sR22 hB, m_rd23 hB, m_N23 hB, m_R23 hB, m_sR23 hB, m_rd24 hB, m_N24 hB, m_R24 hB, m_sR24 hB, m_rd25 hB, m_N25 hB, m_R25 hB, m_sR25 hB, m_rd27 hB, m_N27 hB, m_R27 hB, m_sR27 hB, m_rd28 hB, m_N28 hB, m_R28 hB, m_sR28 hB, m_rd29 hB, m_N29 hB, m_R29 hB, m_sR29 hB, m_rd30 hB, m_N30 hB, m_R30 hB, m_sR30 hB, m_I0, m_sI0, m_I1, m_sI1, m_I5, m_sI5, m_I10, m_sI10, m_I19, m_sI19, m_I26, m_sI26, m_I31, m_sI31, lt_v, bz0, bz1, true_and]
  rw [cix]
  refine ⟨vp_in_nI (by omega) (by omega), ?_⟩
  rw [nIc (by omega), if_pos hw]
  exact x9_fails hB h
/-- the skills of a set that a child lacks -/
def lkN (F : Nat → Nat → Int32) (c s : Nat) : Nat → Nat
  | 0 => 0
  | k + 1 => if s.testBit k = true ∧ F 16 (16 * c + k) = -1 then lkN F c s k ||| 2 ^ k else lkN F c s k
theorem lkN_lt (F : Nat → Nat → Int32) (c s : Nat) : ∀ k, lkN F c s k < 2 ^ k
  | 0 => by
    show 0 < 1
    omega
  | k + 1 => by
    have h := lkN_lt F c s k
    have h2 : 2 ^ k < 2 ^ (k + 1) := Nat.pow_lt_pow_right (by decide) (by omega)
    unfold lkN
    split
    · exact Nat.or_lt_two_pow (by omega) h2
    · omega
theorem sh1 : ∀ k, k < 31 → (1 : Int32) <<< (nI k &&& 31) = nI (2 ^ k) := by decide +kernel
theorem x9_lacks_L (hB : BM B m ad tg) {c b s : Nat} (hc : c < 24) (hs : s < 65536) (h : Q (nI (lkN F c s 16)) (mS B m tg D F)) : ∀ (fuel k : Nat), k ≤ 16 → 16 < k + fuel → wp_X9_lacks_L81 m (nI c) (nI b) (nI s) Q fuel (mS B m tg D F) (nI (lkN F c s k)) (nI k) := by
  intro fuel
  induction fuel with
  | zero => intro i h1 h2; omega
  | succ u ih =>
    intro k h1 h2
    unfold wp_X9_lacks_L81
    by_cases hi : k = 16
    · subst hi
      rw [if_pos (by decide)]
      exact h
    · rw [if_neg (show ¬ (16 : Int32) ≤ nI k from nI_ge (b := 16) (by omega) (by omega)), nI_1]
      have hs' := ih (k + 1) (by omega) (by omega)
      unfold lkN at hs'
      have eo : ∀ x : Nat, nI x ||| (0 : Int32) = nI x := fun x => by
        rw [show (0 : Int32) = nI 0 from rfl, fa_or, Nat.or_zero]
      cases hb : s.testBit k with
      | false =>
        rw [if_neg (fun q => by rw [bit_iff (by omega) (by omega), hb] at q; exact absurd q (by decide))]
        rw [hb, if_neg (fun q => absurd q.1 (by decide))] at hs'
        show wp_X9_lacks_L81 _ _ _ _ _ _ _ _ _
        rw [eo]
        exact hs'
      | true =>
        rw [if_pos ((bit_iff (by omega) (by omega)).mpr hb)]
        simp only [m_ok hB, m_rd2 hB, m_N2 hB, m_R2 hB, m_sR2 hB, m_rd3 hB, m_N3 hB, m_R3 hB, m_sR3 hB, m_rd4 hB, m_N4 hB, m_R4 hB, m_sR4 hB, m_rd6 hB, m_N6 hB, m_R6 hB, m_sR6 hB, m_rd7 hB, m_N7 hB, m_R7 hB, m_sR7 hB, m_rd8 hB, m_N8 hB, m_R8 hB, m_sR8 hB, m_rd9 hB, m_N9 hB, m_R9 hB, m_sR9 hB, m_rd11 hB, m_N11 hB, m_R11 hB, m_sR11 hB, m_rd12 hB, m_N12 hB, m_R12 hB, m_sR12 hB, m_rd13 hB, m_N13 hB, m_R13 hB, m_sR13 hB, m_rd14 hB, m_N14 hB, m_R14 hB, m_sR14 hB, m_rd15 hB, m_N15 hB, m_R15 hB, m_sR15 hB, m_rd16 hB, m_N16 hB, m_R16 hB, m_sR16 hB, m_rd17 hB, m_N17 hB, m_R17 hB, m_sR17 hB, m_rd18 hB, m_N18 hB, m_R18 hB, m_sR18 hB, m_rd20 hB, m_N20 hB, m_R20 hB, m_sR20 hB, m_rd21 hB, m_N21 hB, m_R21 hB, m_sR21 hB, m_rd22 hB, m_N22 hB, m_R22 hB, m_sR22 hB, m_rd23 hB, m_N23 hB, m_R23 hB, m_sR23 hB, m_rd24 hB, m_N24 hB, m_R24 hB, m_sR24 hB, m_rd25 hB, m_N25 hB, m_R25 hB, m_sR25 hB, m_rd27 hB, m_N27 hB, m_R27 hB, m_sR27 hB, m_rd28 hB, m_N28 hB, m_R28 hB, m_sR28 hB, m_rd29 hB, m_N29 hB, m_R29 hB, m_sR29 hB, m_rd30 hB, m_N30 hB, m_R30 hB, m_sR30 hB, m_I0, m_sI0, m_I1, m_sI1, m_I5, m_sI5, m_I10, m_sI10, m_I19, m_sI19, m_I26, m_sI26, m_I31, m_sI31, lt_v, bz0, bz1, true_and]
        rw [pix16]
        refine ⟨vp_in_nI (by omega) (by omega), ?_⟩
        rw [nIc (by omega)]
        by_cases q : F 16 (16 * c + k) = -1
        · rw [if_pos q]
          rw [hb, if_pos ⟨rfl, q⟩] at hs'
          rw [sh1 k (by omega), fa_or]
          exact hs'
        · rw [if_neg q]
          rw [hb, if_neg (fun w => q w.2)] at hs'
          rw [eo]
          exact hs'
theorem x9_lacks0 (hB : BM B m ad tg) {n i b : Nat} (hn : D 5 = nI n) (h24 : n ≤ 24) (hi : i < n) (hb : b < 8) (hw : ¬ F 17 (8 * i + b) = -1) (hC : CoV F i) (h : Q (nI (lkN F i (F 24 (eAt F i b)).toNatClampNeg 16)) (mS B m tg (upD D 31 0) F)) : wp_X9_lacks (mS B m tg D F) m (nI i) (nI b) Q := by
  unfold wp_X9_lacks
  refine ⟨m_ok hB, x9_isChild1 hB hn h24 hi ?_⟩
  rw [if_neg (by decide)]
  refine x9_isBadge1 (rng (N := 7) (by omega) (by omega)) ?_
  rw [if_neg (by decide)]
  refine ⟨m_ok hB, x9_asks1 hB ?_⟩
  rw [if_neg (by decide)]
  simp only [m_ok hB, m_rd2 hB, m_N2 hB, m_R2 hB, m_sR2 hB, m_rd3 hB, m_N3 hB, m_R3 hB, m_sR3 hB, m_rd4 hB, m_N4 hB, m_R4 hB, m_sR4 hB, m_rd6 hB, m_N6 hB, m_R6 hB, m_sR6 hB, m_rd7 hB, m_N7 hB, m_R7 hB, m_sR7 hB, m_rd8 hB, m_N8 hB, m_R8 hB, m_sR8 hB, m_rd9 hB, m_N9 hB, m_R9 hB, m_sR9 hB, m_rd11 hB, m_N11 hB, m_R11 hB, m_sR11 hB, m_rd12 hB, m_N12 hB, m_R12 hB, m_sR12 hB, m_rd13 hB, m_N13 hB, m_R13 hB, m_sR13 hB, m_rd14 hB, m_N14 hB, m_R14 hB, m_sR14 hB, m_rd15 hB, m_N15 hB, m_R15 hB, m_sR15 hB, m_rd16 hB, m_N16 hB, m_R16 hB, m_sR16 hB, m_rd17 hB, m_N17 hB, m_R17 hB, m_sR17 hB, m_rd18 hB, m_N18 hB, m_R18 hB, m_sR18 hB, m_rd20 hB, m_N20 hB, m_R20 hB, m_sR20 hB, m_rd21 hB, m_N21 hB, m_R21 hB, m_sR21 hB, m_rd22 hB, m_N22 hB, m_R22 hB, m_sR22 hB, m_rd23 hB, m_N23 hB, m_R23 hB, m_sR23 hB, m_rd24 hB, m_N24 hB, m_R24 hB, m_sR24 hB, m_rd25 hB, m_N25 hB, m_R25 hB, m_sR25 hB, m_rd27 hB, m_N27 hB, m_R27 hB, m_sR27 hB, m_rd28 hB, m_N28 hB, m_R28 hB, m_sR28 hB, m_rd29 hB, m_N29 hB, m_R29 hB, m_sR29 hB, m_rd30 hB, m_N30 hB, m_R30 hB, m_sR30 hB, m_I0, m_sI0, m_I1, m_sI1, m_I5, m_sI5, m_I10, m_sI10, m_I19, m_sI19, m_I26, m_sI26, m_I31, m_sI31, lt_v, bz0, bz1, true_and]
  rw [cix]
  refine ⟨vp_in_nI (by omega) (by omega), ?_⟩
  rw [nIc (by omega), if_neg hw]
  obtain ⟨e1, e2⟩ := ixe (hC b hb).1 (by decide)
  have ha : eAt F i b + 5 < 144 := by
    unfold eAt
    omega
  have e3 : (18 : Int32) * nI b + 6 * F 18 (8 * i + b) = nI (eAt F i b) := eAt_eq (hC b hb).1
  rw [e3]
  refine ⟨vp_in_nI (by omega) (by omega), vp_in_nI (by omega) (by omega), ?_⟩
  rw [nIc (show eAt F i b < 2 ^ 31 by omega)]
  obtain ⟨-, v1, -⟩ := (hC b hb).2.resolve_left hw
  obtain ⟨e4, e5⟩ := ixe v1 (by decide)
  rw [e4]
  exact ⟨17, x9_lacks_L (D := upD D 31 0) hB (by omega) e5 h 17 0 (by omega) (by omega)⟩
/-! why -/
def rtN (k : Nat) : Nat := if k = 0 then 8 else if k = 1 then 4 else if k = 2 then 3 else 6
theorem x9_ratio {k : Nat} (hk : k < 4) (h : Q (nI (rtN k)) S) : wp_X9_ratio S (nI k) Q := by
  unfold wp_X9_ratio
  unfold rtN at h
  rcases (show k = 0 ∨ k = 1 ∨ k = 2 ∨ k = 3 by omega) with rfl | rfl | rfl | rfl
  · rw [if_pos (by decide)]; exact h
  · rw [if_neg (by decide), if_pos (by decide)]; exact h
  · rw [if_neg (by decide), if_neg (by decide), if_pos (by decide)]; exact h
  · rw [if_neg (by decide), if_neg (by decide), if_neg (by decide)]; exact h
def evN (F : Nat → Nat → Int32) (e j : Nat) : Nat := (F 27 (6 * e + j)).toNatClampNeg
def unB (F : Nat → Nat → Int32) (e s l : Nat) : Bool := s.testBit l && !veB F l (evN F e 1) (F 27 (6 * e + 3))
def peB (F : Nat → Nat → Int32) (e s l : Nat) : Bool := s.testBit l && !decide (F 21 (3 * l + evN F e 2 - 1) < F 27 (6 * e + 3))
/-- how event e is by the leaders s -/
def rsT (F : Nat → Nat → Int32) (n nl e s : Nat) : Int32 := if anB (unB F e s) nl then 2 else if (decide (evN F e 2 = 0) || anB (peB F e s) nl) = false then 3 else if inT F n (F 27 (6 * e)) = 1 ∧ pop s 16 = 1 then 4 else 0
def rsn (F : Nat → Nat → Int32) (n nl e s : Nat) : Int32 := if inT F n (F 27 (6 * e)) = 0 then 0 else if pop s 16 * rtN (evN F e 2) < inT F n (F 27 (6 * e)) then 1 else rsT F n nl e s
/-- an event's numbers -/
def EvV (F : Nat → Nat → Int32) (e : Nat) : Prop := isIx (F 27 (6 * e + 1)) 3 ∧ isIx (F 27 (6 * e + 2)) 4
theorem x9_reason_L (hB : BM B m ad tg) {n nl e s : Nat} (hnl : D 19 = nI nl) (h8 : nl ≤ 8) (he : e < 20) (hV : EvV F e) (hs : s < 2 ^ 31) (hn : n ≤ 24) (h : Q (rsT F n nl e s) (mS B m tg D F)) : ∀ (fuel l : Nat), l ≤ nl → nl < l + fuel → anB (unB F e s) l = false → wp_X9_reason_L66 m (nI e) (nI s) (nI (6 * e)) (nI (inT F n (F 27 (6 * e)))) (nI (evN F e 2)) Q fuel (mS B m tg D F) (bI (decide (evN F e 2 = 0) || anB (peB F e s) l)) (nI l) := by
  obtain ⟨v1, v2⟩ := hV
  obtain ⟨e1, f1⟩ := ixe v1 (by decide)
  obtain ⟨e2, f2⟩ := ixe v2 (by decide)
  have f2' : evN F e 2 < 4 := f2
  have f1' : evN F e 1 < 3 := f1
  have hK := inT_le F n (F 27 (6 * e))
  intro fuel
  induction fuel with
  | zero => intro i h1 h2; omega
  | succ u ih =>
    intro l h1 h2 hu
    unfold wp_X9_reason_L66
    refine ⟨m_ok hB, ?_⟩
    rw [m_I19, hnl]
    by_cases hl : nl ≤ l
    · have el : l = nl := by omega
      subst el
      rw [if_pos (nI_le (Nat.le_refl _) (by omega))]
      unfold rsT at h
      rw [if_neg (by rw [hu]; decide)] at h
      cases hb : (decide (evN F e 2 = 0) || anB (peB F e s) l) with
      | false =>
        rw [if_pos (show bI false = 0 from rfl)]
        rw [if_pos hb] at h
        exact h
      | true =>
        rw [if_neg (show ¬ bI true = 0 by decide)]
        rw [if_neg (by rw [hb]; decide)] at h
        have hp := pop_le s 16
        by_cases q : inT F n (F 27 (6 * e)) = 1
        · rw [if_pos (by rw [q]; rfl)]
          refine x9_ones hs ?_
          by_cases q2 : pop s 16 = 1
          · rw [if_pos (by rw [q2]; rfl)]
            rw [if_pos ⟨q, q2⟩] at h
            exact h
          · rw [if_neg (show ¬ nI (pop s 16) = 1 from nI_ne (b := 1) (by omega) (by omega) q2)]
            rw [if_neg (fun w => q2 w.2)] at h
            exact h
        · rw [if_neg (show ¬ nI (inT F n (F 27 (6 * e))) = 1 from nI_ne (b := 1) (by omega) (by omega) q)]
          rw [if_neg (fun w => q w.1)] at h
          exact h
    · rw [if_neg (nI_ge (by omega) (by omega)), show nI l + 1 = nI (l + 1) from nI_add l 1]
      have hs' := fun hq => ih (l + 1) (by omega) (by omega) hq
      cases hb : s.testBit l with
      | false =>
        rw [if_neg (fun q => by rw [bit_iff (by omega) (by omega), hb] at q; exact absurd q (by decide))]
        have e3 : unB F e s l = false := by simp [unB, hb]
        have e4 : peB F e s l = false := by simp [peB, hb]
        have hs2 := hs' (by rw [anB, hu, e3]; rfl)
        rw [anB, e4, Bool.or_false] at hs2
        cases hq : (decide (evN F e 2 = 0) || anB (peB F e s) l) with
        | true =>
          rw [hq] at hs2
          rw [if_neg (show ¬ bI true = 0 by decide)]
          exact hs2
        | false =>
          rw [hq] at hs2
          rw [if_pos (show bI false = 0 from rfl)]
          exact hs2
      | true =>
        rw [if_pos ((bit_iff (by omega) (by omega)).mpr hb)]
        simp only [m_ok hB, m_rd2 hB, m_N2 hB, m_R2 hB, m_sR2 hB, m_rd3 hB, m_N3 hB, m_R3 hB, m_sR3 hB, m_rd4 hB, m_N4 hB, m_R4 hB, m_sR4 hB, m_rd6 hB, m_N6 hB, m_R6 hB, m_sR6 hB, m_rd7 hB, m_N7 hB, m_R7 hB, m_sR7 hB, m_rd8 hB, m_N8 hB, m_R8 hB, m_sR8 hB, m_rd9 hB, m_N9 hB, m_R9 hB, m_sR9 hB, m_rd11 hB, m_N11 hB, m_R11 hB, m_sR11 hB, m_rd12 hB, m_N12 hB, m_R12 hB, m_sR12 hB, m_rd13 hB, m_N13 hB, m_R13 hB, m_sR13 hB, m_rd14 hB, m_N14 hB, m_R14 hB, m_sR14 hB, m_rd15 hB, m_N15 hB, m_R15 hB, m_sR15 hB, m_rd16 hB, m_N16 hB, m_R16 hB, m_sR16 hB, m_rd17 hB, m_N17 hB, m_R17 hB, m_sR17 hB, m_rd18 hB, m_N18 hB, m_R18 hB, m_sR18 hB, m_rd20 hB, m_N20 hB, m_R20 hB, m_sR20 hB, m_rd21 hB, m_N21 hB, m_R21 hB, m_sR21 hB, m_rd22 hB, m_N22 hB, m_R22 hB, m_sR22 hB, m_rd23 hB, m_N23 hB, m_R23 hB, m_sR23 hB, m_rd24 hB, m_N24 hB, m_R24 hB, m_sR24 hB, m_rd25 hB, m_N25 hB, m_R25 hB, m_sR25 hB, m_rd27 hB, m_N27 hB, m_R27 hB, m_sR27 hB, m_rd28 hB, m_N28 hB, m_R28 hB, m_sR28 hB, m_rd29 hB, m_N29 hB, m_R29 hB, m_sR29 hB, m_rd30 hB, m_N30 hB, m_R30 hB, m_sR30 hB, m_I0, m_sI0, m_I1, m_sI1, m_I5, m_sI5, m_I10, m_sI10, m_I19, m_sI19, m_I26, m_sI26, m_I31, m_sI31, lt_v, bz0, bz1, true_and]
        rw [nI_k _ 1, nI_k _ 3]
        refine ⟨vp_in_nI (by omega) (by omega), vp_in_nI (by omega) (by omega), ?_⟩
        rw [nIc (show 6 * e + 1 < 2 ^ 31 by omega), nIc (show 6 * e + 3 < 2 ^ 31 by omega), e1]
        refine x9_isVetted hB (by omega) f1 ?_
        have e3 : unB F e s l = !veB F l (F 27 (6 * e + 1)).toNatClampNeg (F 27 (6 * e + 3)) := by
          simp [unB, hb, evN]
        cases hv : veB F l (F 27 (6 * e + 1)).toNatClampNeg (F 27 (6 * e + 3)) with
        | false =>
          rw [if_pos (show bI false = 0 from rfl)]
          rw [hv] at e3
          unfold rsT at h
          rw [if_pos ((anB_true _ _).mpr ⟨l, by omega, e3⟩)] at h
          exact h
        | true =>
          rw [if_neg (show ¬ bI true = 0 by decide)]
          rw [hv] at e3
          have hs2 := hs' (by rw [anB, hu, e3]; rfl)
          rw [anB, ← Bool.or_assoc] at hs2
          cases hq : (decide (evN F e 2 = 0) || anB (peB F e s) l) with
          | true =>
            rw [hq, Bool.true_or] at hs2
            rw [if_neg (show ¬ bI true = 0 by decide)]
            exact hs2
          | false =>
            rw [hq, Bool.false_or] at hs2
            rw [if_pos (show bI false = 0 from rfl)]
            have hk0 : ¬ evN F e 2 = 0 := by
              intro w
              rw [w] at hq
              simp at hq
            have e5 : (3 : Int32) * nI l + nI (evN F e 2) - 1 = nI (3 * l + evN F e 2 - 1) := by
              have := pix (l := l) (k := evN F e 2 - 1)
              rw [show evN F e 2 - 1 + 1 = evN F e 2 by omega] at this
              rw [this]
              congr 1
              omega
            simp only [m_ok hB, m_rd2 hB, m_N2 hB, m_R2 hB, m_sR2 hB, m_rd3 hB, m_N3 hB, m_R3 hB, m_sR3 hB, m_rd4 hB, m_N4 hB, m_R4 hB, m_sR4 hB, m_rd6 hB, m_N6 hB, m_R6 hB, m_sR6 hB, m_rd7 hB, m_N7 hB, m_R7 hB, m_sR7 hB, m_rd8 hB, m_N8 hB, m_R8 hB, m_sR8 hB, m_rd9 hB, m_N9 hB, m_R9 hB, m_sR9 hB, m_rd11 hB, m_N11 hB, m_R11 hB, m_sR11 hB, m_rd12 hB, m_N12 hB, m_R12 hB, m_sR12 hB, m_rd13 hB, m_N13 hB, m_R13 hB, m_sR13 hB, m_rd14 hB, m_N14 hB, m_R14 hB, m_sR14 hB, m_rd15 hB, m_N15 hB, m_R15 hB, m_sR15 hB, m_rd16 hB, m_N16 hB, m_R16 hB, m_sR16 hB, m_rd17 hB, m_N17 hB, m_R17 hB, m_sR17 hB, m_rd18 hB, m_N18 hB, m_R18 hB, m_sR18 hB, m_rd20 hB, m_N20 hB, m_R20 hB, m_sR20 hB, m_rd21 hB, m_N21 hB, m_R21 hB, m_sR21 hB, m_rd22 hB, m_N22 hB, m_R22 hB, m_sR22 hB, m_rd23 hB, m_N23 hB, m_R23 hB, m_sR23 hB, m_rd24 hB, m_N24 hB, m_R24 hB, m_sR24 hB, m_rd25 hB, m_N25 hB, m_R25 hB, m_sR25 hB, m_rd27 hB, m_N27 hB, m_R27 hB, m_sR27 hB, m_rd28 hB, m_N28 hB, m_R28 hB, m_sR28 hB, m_rd29 hB, m_N29 hB, m_R29 hB, m_sR29 hB, m_rd30 hB, m_N30 hB, m_R30 hB, m_sR30 hB, m_I0, m_sI0, m_I1, m_sI1, m_I5, m_sI5, m_I10, m_sI10, m_I19, m_sI19, m_I26, m_sI26, m_I31, m_sI31, lt_v, bz0, bz1, true_and]
            rw [e5]
            refine ⟨vp_in_nI (by omega) (by omega), vp_in_nI (by omega) (by omega), ?_⟩
            rw [nIc (show 3 * l + evN F e 2 - 1 < 2 ^ 31 by omega)]
            by_cases w : F 21 (3 * l + evN F e 2 - 1) < F 27 (6 * e + 3)
            · rw [if_pos w]
              have e6 : peB F e s l = false := by simp [peB, hb, w]
              rw [e6] at hs2
              exact hs2
            · rw [if_neg w]
              have e6 : peB F e s l = true := by simp [peB, hb, w]
              rw [e6] at hs2
              exact hs2
theorem x9_reason (hB : BM B m ad tg) {n nl e s : Nat} (hn : D 5 = nI n) (h24 : n ≤ 24) (hnl : D 19 = nI nl) (h8 : nl ≤ 8) (he : e < 20) (hV : EvV F e) (hs : s < 2 ^ 31) (h : Q (rsn F n nl e s) (mS B m tg D F)) : wp_X9_reason (mS B m tg D F) m (nI e) (nI s) Q := by
  have f2 : evN F e 2 < 4 := (ixe hV.2 (by decide)).2
  have e2 : F 27 (6 * e + 2) = nI (evN F e 2) := (ixe hV.2 (by decide)).1
  have hK := inT_le F n (F 27 (6 * e))
  have hp := pop_le s 16
  unfold wp_X9_reason
  simp only [m_ok hB, m_rd2 hB, m_N2 hB, m_R2 hB, m_sR2 hB, m_rd3 hB, m_N3 hB, m_R3 hB, m_sR3 hB, m_rd4 hB, m_N4 hB, m_R4 hB, m_sR4 hB, m_rd6 hB, m_N6 hB, m_R6 hB, m_sR6 hB, m_rd7 hB, m_N7 hB, m_R7 hB, m_sR7 hB, m_rd8 hB, m_N8 hB, m_R8 hB, m_sR8 hB, m_rd9 hB, m_N9 hB, m_R9 hB, m_sR9 hB, m_rd11 hB, m_N11 hB, m_R11 hB, m_sR11 hB, m_rd12 hB, m_N12 hB, m_R12 hB, m_sR12 hB, m_rd13 hB, m_N13 hB, m_R13 hB, m_sR13 hB, m_rd14 hB, m_N14 hB, m_R14 hB, m_sR14 hB, m_rd15 hB, m_N15 hB, m_R15 hB, m_sR15 hB, m_rd16 hB, m_N16 hB, m_R16 hB, m_sR16 hB, m_rd17 hB, m_N17 hB, m_R17 hB, m_sR17 hB, m_rd18 hB, m_N18 hB, m_R18 hB, m_sR18 hB, m_rd20 hB, m_N20 hB, m_R20 hB, m_sR20 hB, m_rd21 hB, m_N21 hB, m_R21 hB, m_sR21 hB, m_rd22 hB, m_N22 hB, m_R22 hB, m_sR22 hB, m_rd23 hB, m_N23 hB, m_R23 hB, m_sR23 hB, m_rd24 hB, m_N24 hB, m_R24 hB, m_sR24 hB, m_rd25 hB, m_N25 hB, m_R25 hB, m_sR25 hB, m_rd27 hB, m_N27 hB, m_R27 hB, m_sR27 hB, m_rd28 hB, m_N28 hB, m_R28 hB, m_sR28 hB, m_rd29 hB, m_N29 hB, m_R29 hB, m_sR29 hB, m_rd30 hB, m_N30 hB, m_R30 hB, m_sR30 hB, m_I0, m_sI0, m_I1, m_sI1, m_I5, m_sI5, m_I10, m_sI10, m_I19, m_sI19, m_I26, m_sI26, m_I31, m_sI31, lt_v, bz0, bz1, true_and]
  rw [six]
  refine ⟨vp_in_nI (by omega) (by omega), ?_⟩
  rw [nIc (show 6 * e < 2 ^ 31 by omega)]
  refine x9_inTroop hB hn h24 ?_
  simp only [m_ok hB, m_rd2 hB, m_N2 hB, m_R2 hB, m_sR2 hB, m_rd3 hB, m_N3 hB, m_R3 hB, m_sR3 hB, m_rd4 hB, m_N4 hB, m_R4 hB, m_sR4 hB, m_rd6 hB, m_N6 hB, m_R6 hB, m_sR6 hB, m_rd7 hB, m_N7 hB, m_R7 hB, m_sR7 hB, m_rd8 hB, m_N8 hB, m_R8 hB, m_sR8 hB, m_rd9 hB, m_N9 hB, m_R9 hB, m_sR9 hB, m_rd11 hB, m_N11 hB, m_R11 hB, m_sR11 hB, m_rd12 hB, m_N12 hB, m_R12 hB, m_sR12 hB, m_rd13 hB, m_N13 hB, m_R13 hB, m_sR13 hB, m_rd14 hB, m_N14 hB, m_R14 hB, m_sR14 hB, m_rd15 hB, m_N15 hB, m_R15 hB, m_sR15 hB, m_rd16 hB, m_N16 hB, m_R16 hB, m_sR16 hB, m_rd17 hB, m_N17 hB, m_R17 hB, m_sR17 hB, m_rd18 hB, m_N18 hB, m_R18 hB, m_sR18 hB, m_rd20 hB, m_N20 hB, m_R20 hB, m_sR20 hB, m_rd21 hB, m_N21 hB, m_R21 hB, m_sR21 hB, m_rd22 hB, m_N22 hB, m_R22 hB, m_sR22 hB, m_rd23 hB, m_N23 hB, m_R23 hB, m_sR23 hB, m_rd24 hB, m_N24 hB, m_R24 hB, m_sR24 hB, m_rd25 hB, m_N25 hB, m_R25 hB, m_sR25 hB, m_rd27 hB, m_N27 hB, m_R27 hB, m_sR27 hB, m_rd28 hB, m_N28 hB, m_R28 hB, m_sR28 hB, m_rd29 hB, m_N29 hB, m_R29 hB, m_sR29 hB, m_rd30 hB, m_N30 hB, m_R30 hB, m_sR30 hB, m_I0, m_sI0, m_I1, m_sI1, m_I5, m_sI5, m_I10, m_sI10, m_I19, m_sI19, m_I26, m_sI26, m_I31, m_sI31, lt_v, bz0, bz1, true_and]
  rw [nI_k _ 2]
  refine ⟨vp_in_nI (by omega) (by omega), ?_⟩
  rw [nIc (show 6 * e + 2 < 2 ^ 31 by omega), e2]
  unfold rsn at h
  by_cases q : inT F n (F 27 (6 * e)) = 0
  · rw [if_pos (by rw [q]; rfl)]
    rw [if_pos q] at h
    exact h
  · rw [if_neg (nI_ne0 (by omega) (by omega))]
    rw [if_neg q] at h
    refine x9_ones hs (x9_ratio f2 ?_)
    rw [nI_mul]
    have hr : rtN (evN F e 2) ≤ 8 := by
      unfold rtN
      split
      · omega
      · split
        · omega
        · split <;> omega
    have hb : pop s 16 * rtN (evN F e 2) ≤ 16 * 8 := Nat.mul_le_mul hp hr
    by_cases q2 : pop s 16 * rtN (evN F e 2) < inT F n (F 27 (6 * e))
    · rw [if_neg (nI_ge q2 (by omega))]
      rw [if_pos q2] at h
      exact h
    · rw [if_pos (nI_le (by omega) (by omega))]
      rw [if_neg q2] at h
      have hL := x9_reason_L hB hnl h8 he hV hs h24 h (nl + 1) 0 (by omega) (by omega) rfl
      by_cases q3 : evN F e 2 = 0
      · rw [if_pos (by rw [q3]; rfl)]
        rw [show (decide (evN F e 2 = 0) || anB (peB F e s) 0) = true by simp [q3]] at hL
        exact ⟨nl + 1, hL⟩
      · rw [if_neg (nI_ne0 (by omega) (by omega))]
        rw [show (decide (evN F e 2 = 0) || anB (peB F e s) 0) = false by simp [q3, anB]] at hL
        exact ⟨nl + 1, hL⟩
theorem x9_why1 (hB : BM B m ad tg) {a : Int32} {n : Nat} (hn : D 26 = nI n) (h20 : n ≤ 20) (hv : a < 0 ∨ nI n ≤ a) (h : Q 0 (mS B m tg (upD D 31 1) F)) : wp_X9_why (mS B m tg D F) m a Q := by
  unfold wp_X9_why
  refine ⟨m_ok hB, x9_isEvent0 hB hn h20 hv ⟨m_ok hB, x9_asks0 hB ?_⟩⟩
  rw [if_pos rfl]
  exact h
theorem x9_why0 (hB : BM B m ad tg) {n nl ne e : Nat} (hn : D 5 = nI n) (h24 : n ≤ 24) (hnl : D 19 = nI nl) (h8 : nl ≤ 8) (hne : D 26 = nI ne) (h20 : ne ≤ 20) (he : e < ne) (hV : EvV F e) (hS : SN F ne) (h : Q (rsn F n nl e (sN F e)) (mS B m tg (upD D 31 0) F)) : wp_X9_why (mS B m tg D F) m (nI e) Q := by
  unfold wp_X9_why
  refine ⟨m_ok hB, x9_isEvent1 hB hne h20 he ⟨m_ok hB, x9_asks1 hB ?_⟩⟩
  rw [if_neg (by decide)]
  simp only [m_ok hB, m_rd2 hB, m_N2 hB, m_R2 hB, m_sR2 hB, m_rd3 hB, m_N3 hB, m_R3 hB, m_sR3 hB, m_rd4 hB, m_N4 hB, m_R4 hB, m_sR4 hB, m_rd6 hB, m_N6 hB, m_R6 hB, m_sR6 hB, m_rd7 hB, m_N7 hB, m_R7 hB, m_sR7 hB, m_rd8 hB, m_N8 hB, m_R8 hB, m_sR8 hB, m_rd9 hB, m_N9 hB, m_R9 hB, m_sR9 hB, m_rd11 hB, m_N11 hB, m_R11 hB, m_sR11 hB, m_rd12 hB, m_N12 hB, m_R12 hB, m_sR12 hB, m_rd13 hB, m_N13 hB, m_R13 hB, m_sR13 hB, m_rd14 hB, m_N14 hB, m_R14 hB, m_sR14 hB, m_rd15 hB, m_N15 hB, m_R15 hB, m_sR15 hB, m_rd16 hB, m_N16 hB, m_R16 hB, m_sR16 hB, m_rd17 hB, m_N17 hB, m_R17 hB, m_sR17 hB, m_rd18 hB, m_N18 hB, m_R18 hB, m_sR18 hB, m_rd20 hB, m_N20 hB, m_R20 hB, m_sR20 hB, m_rd21 hB, m_N21 hB, m_R21 hB, m_sR21 hB, m_rd22 hB, m_N22 hB, m_R22 hB, m_sR22 hB, m_rd23 hB, m_N23 hB, m_R23 hB, m_sR23 hB, m_rd24 hB, m_N24 hB, m_R24 hB, m_sR24 hB, m_rd25 hB, m_N25 hB, m_R25 hB, m_sR25 hB, m_rd27 hB, m_N27 hB, m_R27 hB, m_sR27 hB, m_rd28 hB, m_N28 hB, m_R28 hB, m_sR28 hB, m_rd29 hB, m_N29 hB, m_R29 hB, m_sR29 hB, m_rd30 hB, m_N30 hB, m_R30 hB, m_sR30 hB, m_I0, m_sI0, m_I1, m_sI1, m_I5, m_sI5, m_I10, m_sI10, m_I19, m_sI19, m_I26, m_sI26, m_I31, m_sI31, lt_v, bz0, bz1, true_and]
  refine ⟨vp_in_nI (by omega) (by omega), ?_⟩
  obtain ⟨s1, s2⟩ := hS e he
  rw [nIc (by omega), s1]
  exact x9_reason hB (D := upD D 31 0) (n := n) (nl := nl) hn h24 hnl h8 (by omega) hV (by omega) h
end MMORE
