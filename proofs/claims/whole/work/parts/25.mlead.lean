/-! numbers -/
theorem nI_mul (a b : Nat) : nI a * nI b = nI (a * b) := (Int32.ofNat_mul a b).symm
theorem bsh : ∀ k, k < 32 → ((nI k &&& 31).toBitVec.smod 32).toNat = k := by decide +kernel
theorem shr_nI {a d : Nat} {D : Int32} (hD : (D.toBitVec.smod 32).toNat = d) (h : a < 2 ^ 31) : nI a >>> D = nI (a / 2 ^ d) := by
  have hd : a / 2 ^ d ≤ a := Nat.div_le_self _ _
  apply Int32.toInt_inj.mp
  have e : (nI a >>> D).toInt = (nI a).toInt >>> d := by
    rw [← hD]
    exact BitVec.toInt_sshiftRight ..
  rw [e, Int.shiftRight_eq_div_pow, nI_toInt (by omega), nI_toInt (by omega)]
  rfl
def bN (s k : Nat) : Nat := if s.testBit k then 1 else 0
theorem bN_le (s k : Nat) : bN s k ≤ 1 := by unfold bN; split <;> omega
theorem bit_nI {s k : Nat} (hs : s < 2 ^ 31) (hk : k < 32) : (nI s >>> (nI k &&& 31)) &&& 1 = nI (bN s k) := by
  rw [shr_nI (bsh k hk) hs]
  have e : nI (s / 2 ^ k) &&& nI (2 ^ 1 - 1) = nI (s / 2 ^ k % 2 ^ 1) := fa_mask _ 1
  have e1 : nI (2 ^ 1 - 1) = (1 : Int32) := rfl
  rw [e1] at e
  rw [e]
  unfold bN
  rw [Nat.testBit_eq_decide_div_mod_eq]
  have := Nat.mod_lt (s / 2 ^ k) (show 0 < 2 by decide)
  by_cases h : s / 2 ^ k % 2 = 1
  · simp [h]
  · have h0 : s / 2 ^ k % 2 = 0 := by omega
    simp [h0]
def pop (s : Nat) : Nat → Nat := ct (fun k => s.testBit k)
theorem pop_succ (s k : Nat) : pop s (k + 1) = pop s k + bN s k := rfl
theorem pop_le (s n : Nat) : pop s n ≤ n := ct_le _ n
def bI (b : Bool) : Int32 := if b then 1 else 0
theorem bI0 (b : Bool) : bI b = 0 ↔ b = false := by cases b <;> decide
theorem sk_nat {b : Int32} (hv : ¬ (b < 0 ∨ 65535 < b)) : ∃ d : Nat, d < 65536 ∧ b = nI d := by
  rcases nI_int b with h | ⟨j, hj, e⟩
  · exact absurd (Or.inl h) hv
  · refine ⟨j, ?_, e⟩
    rcases Nat.lt_or_ge j 65536 with q | q
    · exact q
    · refine absurd (Or.inr ?_) hv
      rw [i_lt, e, nI_toInt hj, show (65535 : Int32).toInt = 65535 from rfl]
      omega
theorem in_nat {b : Int32} {N : Nat} (hN : N < 2 ^ 31) (hv : ¬ (b < 0 ∨ nI N < b)) : ∃ d : Nat, d ≤ N ∧ b = nI d := by
  rcases nI_int b with h | ⟨j, hj, e⟩
  · exact absurd (Or.inl h) hv
  · refine ⟨j, ?_, e⟩
    rcases Nat.lt_or_ge N j with q | q
    · refine absurd (Or.inr ?_) hv
      rw [i_lt, e, nI_toInt hj, nI_toInt hN]
      omega
    · exact q
/-! THE REFERENCE: leaders, editions, begin, boxes -/
section MLEAD
variable {B : Hp} {m : Nat} {ad tg : Nat → Nat} {D : Nat → Int32} {F : Nat → Nat → Int32} {Q : Int32 → Hp → Prop} {S : Hp}
theorem x9_leader1 (hB : BM B m ad tg) (hn : D 19 = 8) (h : Q 0 (mS B m tg (upD D 31 1) F)) : wp_X9_leader (mS B m tg D F) m Q := by
  unfold wp_X9_leader
  simp only [m_ok hB, m_rd2 hB, m_N2 hB, m_R2 hB, m_sR2 hB, m_rd3 hB, m_N3 hB, m_R3 hB, m_sR3 hB, m_rd4 hB, m_N4 hB, m_R4 hB, m_sR4 hB, m_rd6 hB, m_N6 hB, m_R6 hB, m_sR6 hB, m_rd7 hB, m_N7 hB, m_R7 hB, m_sR7 hB, m_rd8 hB, m_N8 hB, m_R8 hB, m_sR8 hB, m_rd9 hB, m_N9 hB, m_R9 hB, m_sR9 hB, m_rd11 hB, m_N11 hB, m_R11 hB, m_sR11 hB, m_rd12 hB, m_N12 hB, m_R12 hB, m_sR12 hB, m_rd13 hB, m_N13 hB, m_R13 hB, m_sR13 hB, m_rd14 hB, m_N14 hB, m_R14 hB, m_sR14 hB, m_rd15 hB, m_N15 hB, m_R15 hB, m_sR15 hB, m_rd16 hB, m_N16 hB, m_R16 hB, m_sR16 hB, m_rd17 hB, m_N17 hB, m_R17 hB, m_sR17 hB, m_rd18 hB, m_N18 hB, m_R18 hB, m_sR18 hB, m_rd20 hB, m_N20 hB, m_R20 hB, m_sR20 hB, m_rd21 hB, m_N21 hB, m_R21 hB, m_sR21 hB, m_rd22 hB, m_N22 hB, m_R22 hB, m_sR22 hB, m_rd23 hB, m_N23 hB, m_R23 hB, m_sR23 hB, m_rd24 hB, m_N24 hB, m_R24 hB, m_sR24 hB, m_rd25 hB, m_N25 hB, m_R25 hB, m_sR25 hB, m_rd27 hB, m_N27 hB, m_R27 hB, m_sR27 hB, m_rd28 hB, m_N28 hB, m_R28 hB, m_sR28 hB, m_rd29 hB, m_N29 hB, m_R29 hB, m_sR29 hB, m_rd30 hB, m_N30 hB, m_R30 hB, m_sR30 hB, m_I0, m_sI0, m_I1, m_sI1, m_I5, m_sI5, m_I10, m_sI10, m_I19, m_sI19, m_I26, m_sI26, m_I31, m_sI31, lt_v, bz0, bz1, true_and]
  rw [hn, if_pos (by decide)]
  refine x9_asks0 hB ?_
  rw [if_pos rfl]
  exact h
theorem x9_leader0 (hB : BM B m ad tg) {n : Nat} (hn : D 19 = nI n) (h8 : n < 8) (h : Q (nI n) (mS B m tg (upD (upD D 31 0) 19 (nI (n + 1))) F)) : wp_X9_leader (mS B m tg D F) m Q := by
  unfold wp_X9_leader
  simp only [m_ok hB, m_rd2 hB, m_N2 hB, m_R2 hB, m_sR2 hB, m_rd3 hB, m_N3 hB, m_R3 hB, m_sR3 hB, m_rd4 hB, m_N4 hB, m_R4 hB, m_sR4 hB, m_rd6 hB, m_N6 hB, m_R6 hB, m_sR6 hB, m_rd7 hB, m_N7 hB, m_R7 hB, m_sR7 hB, m_rd8 hB, m_N8 hB, m_R8 hB, m_sR8 hB, m_rd9 hB, m_N9 hB, m_R9 hB, m_sR9 hB, m_rd11 hB, m_N11 hB, m_R11 hB, m_sR11 hB, m_rd12 hB, m_N12 hB, m_R12 hB, m_sR12 hB, m_rd13 hB, m_N13 hB, m_R13 hB, m_sR13 hB, m_rd14 hB, m_N14 hB, m_R14 hB, m_sR14 hB, m_rd15 hB, m_N15 hB, m_R15 hB, m_sR15 hB, m_rd16 hB, m_N16 hB, m_R16 hB, m_sR16 hB, m_rd17 hB, m_N17 hB, m_R17 hB, m_sR17 hB, m_rd18 hB, m_N18 hB, m_R18 hB, m_sR18 hB, m_rd20 hB, m_N20 hB, m_R20 hB, m_sR20 hB, m_rd21 hB, m_N21 hB, m_R21 hB, m_sR21 hB, m_rd22 hB, m_N22 hB, m_R22 hB, m_sR22 hB, m_rd23 hB, m_N23 hB, m_R23 hB, m_sR23 hB, m_rd24 hB, m_N24 hB, m_R24 hB, m_sR24 hB, m_rd25 hB, m_N25 hB, m_R25 hB, m_sR25 hB, m_rd27 hB, m_N27 hB, m_R27 hB, m_sR27 hB, m_rd28 hB, m_N28 hB, m_R28 hB, m_sR28 hB, m_rd29 hB, m_N29 hB, m_R29 hB, m_sR29 hB, m_rd30 hB, m_N30 hB, m_R30 hB, m_sR30 hB, m_I0, m_sI0, m_I1, m_sI1, m_I5, m_sI5, m_I10, m_sI10, m_I19, m_sI19, m_I26, m_sI26, m_I31, m_sI31, lt_v, bz0, bz1, true_and]
  rw [hn, if_neg (show ¬ (8 : Int32) ≤ nI n from nI_ge (b := 8) (by omega) (by omega))]
  refine x9_asks1 hB ?_
  rw [if_neg (by decide)]
  simp only [m_ok hB, m_rd2 hB, m_N2 hB, m_R2 hB, m_sR2 hB, m_rd3 hB, m_N3 hB, m_R3 hB, m_sR3 hB, m_rd4 hB, m_N4 hB, m_R4 hB, m_sR4 hB, m_rd6 hB, m_N6 hB, m_R6 hB, m_sR6 hB, m_rd7 hB, m_N7 hB, m_R7 hB, m_sR7 hB, m_rd8 hB, m_N8 hB, m_R8 hB, m_sR8 hB, m_rd9 hB, m_N9 hB, m_R9 hB, m_sR9 hB, m_rd11 hB, m_N11 hB, m_R11 hB, m_sR11 hB, m_rd12 hB, m_N12 hB, m_R12 hB, m_sR12 hB, m_rd13 hB, m_N13 hB, m_R13 hB, m_sR13 hB, m_rd14 hB, m_N14 hB, m_R14 hB, m_sR14 hB, m_rd15 hB, m_N15 hB, m_R15 hB, m_sR15 hB, m_rd16 hB, m_N16 hB, m_R16 hB, m_sR16 hB, m_rd17 hB, m_N17 hB, m_R17 hB, m_sR17 hB, m_rd18 hB, m_N18 hB, m_R18 hB, m_sR18 hB, m_rd20 hB, m_N20 hB, m_R20 hB, m_sR20 hB, m_rd21 hB, m_N21 hB, m_R21 hB, m_sR21 hB, m_rd22 hB, m_N22 hB, m_R22 hB, m_sR22 hB, m_rd23 hB, m_N23 hB, m_R23 hB, m_sR23 hB, m_rd24 hB, m_N24 hB, m_R24 hB, m_sR24 hB, m_rd25 hB, m_N25 hB, m_R25 hB, m_sR25 hB, m_rd27 hB, m_N27 hB, m_R27 hB, m_sR27 hB, m_rd28 hB, m_N28 hB, m_R28 hB, m_sR28 hB, m_rd29 hB, m_N29 hB, m_R29 hB, m_sR29 hB, m_rd30 hB, m_N30 hB, m_R30 hB, m_sR30 hB, m_I0, m_sI0, m_I1, m_sI1, m_I5, m_sI5, m_I10, m_sI10, m_I19, m_sI19, m_I26, m_sI26, m_I31, m_sI31, lt_v, bz0, bz1, true_and]
  rw [show upD D 31 0 19 = nI n from hn, nI_1, show upD (upD D 31 0) 19 (nI (n + 1)) 19 - 1 = nI n from nI_pred n]
  exact h
theorem x9_isLand1 {a : Int32} (h1 : ¬ (a < 0 ∨ 2 < a)) (h : Q 1 S) : wp_X9_isLand S a Q := by
  unfold wp_X9_isLand
  exact x9_in1 (fun q => h1 (Or.inl q)) (fun q => h1 (Or.inr q)) (bz1i h)
theorem x9_isLand0 {a : Int32} (h1 : a < 0 ∨ 2 < a) (h : Q 0 S) : wp_X9_isLand S a Q := by
  unfold wp_X9_isLand
  exact x9_in0 h1 (bz0i h)
theorem x9_isSkills1 {a : Int32} (h1 : ¬ (a < 0 ∨ 65535 < a)) (h : Q 1 S) : wp_X9_isSkills S a Q := by
  unfold wp_X9_isSkills
  exact x9_in1 (fun q => h1 (Or.inl q)) (fun q => h1 (Or.inr q)) (bz1i h)
theorem x9_isSkills0 {a : Int32} (h1 : a < 0 ∨ 65535 < a) (h : Q 0 S) : wp_X9_isSkills S a Q := by
  unfold wp_X9_isSkills
  exact x9_in0 h1 (bz0i h)
theorem x9_isBadge1 {a : Int32} (h1 : ¬ (a < 0 ∨ 7 < a)) (h : Q 1 S) : wp_X9_isBadge S a Q := by
  unfold wp_X9_isBadge
  exact x9_in1 (fun q => h1 (Or.inl q)) (fun q => h1 (Or.inr q)) (bz1i h)
theorem x9_isBadge0 {a : Int32} (h1 : a < 0 ∨ 7 < a) (h : Q 0 S) : wp_X9_isBadge S a Q := by
  unfold wp_X9_isBadge
  exact x9_in0 h1 (bz0i h)
theorem x9_vet1a (hB : BM B m ad tg) {Q : Hp → Prop} {a b c d : Int32} {n : Nat} (hn : D 19 = nI n) (h8 : n ≤ 8) (hv : a < 0 ∨ nI n ≤ a) (h : Q (mS B m tg (upD D 31 1) F)) : wp_X9_vet (mS B m tg D F) m a b c d Q := by
  unfold wp_X9_vet
  refine ⟨m_ok hB, x9_isLeader0 hB hn h8 hv ?_⟩
  rw [if_pos rfl]
  refine ⟨m_ok hB, x9_asks0 hB ?_⟩
  rw [if_pos rfl]
  exact h
theorem x9_vet1b (hB : BM B m ad tg) {Q : Hp → Prop} {b c d : Int32} {n l : Nat} (hn : D 19 = nI n) (h8 : n ≤ 8) (hl : l < n) (hv : b < 0 ∨ 2 < b) (h : Q (mS B m tg (upD D 31 1) F)) : wp_X9_vet (mS B m tg D F) m (nI l) b c d Q := by
  unfold wp_X9_vet
  refine ⟨m_ok hB, x9_isLeader1 hB hn h8 hl ?_⟩
  rw [if_neg (by decide)]
  refine x9_isLand0 hv ?_
  rw [if_pos rfl]
  refine ⟨m_ok hB, x9_asks0 hB ?_⟩
  rw [if_pos rfl]
  exact h
theorem x9_vet2 (hB : BM B m ad tg) {Q : Hp → Prop} {b c d : Int32} {n l : Nat} (hn : D 19 = nI n) (h8 : n ≤ 8) (hl : l < n) (hv : ¬ (b < 0 ∨ 2 < b)) (hw : (c < 0 ∨ 9999 < c) ∨ (d < c ∨ 9999 < d)) (h : Q (mS B m tg (upD (upD D 31 0) 31 2) F)) : wp_X9_vet (mS B m tg D F) m (nI l) b c d Q := by
  unfold wp_X9_vet
  refine ⟨m_ok hB, x9_isLeader1 hB hn h8 hl ?_⟩
  rw [if_neg (by decide)]
  refine x9_isLand1 hv ?_
  rw [if_neg (by decide)]
  refine ⟨m_ok hB, x9_asks1 hB ?_⟩
  rw [if_neg (by decide)]
  by_cases h1 : c < 0 ∨ 9999 < c
  · refine x9_isDay0 h1 ?_
    rw [if_pos rfl]
    simp only [m_ok hB, m_rd2 hB, m_N2 hB, m_R2 hB, m_sR2 hB, m_rd3 hB, m_N3 hB, m_R3 hB, m_sR3 hB, m_rd4 hB, m_N4 hB, m_R4 hB, m_sR4 hB, m_rd6 hB, m_N6 hB, m_R6 hB, m_sR6 hB, m_rd7 hB, m_N7 hB, m_R7 hB, m_sR7 hB, m_rd8 hB, m_N8 hB, m_R8 hB, m_sR8 hB, m_rd9 hB, m_N9 hB, m_R9 hB, m_sR9 hB, m_rd11 hB, m_N11 hB, m_R11 hB, m_sR11 hB, m_rd12 hB, m_N12 hB, m_R12 hB, m_sR12 hB, m_rd13 hB, m_N13 hB, m_R13 hB, m_sR13 hB, m_rd14 hB, m_N14 hB, m_R14 hB, m_sR14 hB, m_rd15 hB, m_N15 hB, m_R15 hB, m_sR15 hB, m_rd16 hB, m_N16 hB, m_R16 hB, m_sR16 hB, m_rd17 hB, m_N17 hB, m_R17 hB, m_sR17 hB, m_rd18 hB, m_N18 hB, m_R18 hB, m_sR18 hB, m_rd20 hB, m_N20 hB, m_R20 hB, m_sR20 hB, m_rd21 hB, m_N21 hB, m_R21 hB, m_sR21 hB, m_rd22 hB, m_N22 hB, m_R22 hB, m_sR22 hB, m_rd23 hB, m_N23 hB, m_R23 hB, m_sR23 hB, m_rd24 hB, m_N24 hB, m_R24 hB, m_sR24 hB, m_rd25 hB, m_N25 hB, m_R25 hB, m_sR25 hB, m_rd27 hB, m_N27 hB, m_R27 hB, m_sR27 hB, m_rd28 hB, m_N28 hB, m_R28 hB, m_sR28 hB, m_rd29 hB, m_N29 hB, m_R29 hB, m_sR29 hB, m_rd30 hB, m_N30 hB, m_R30 hB, m_sR30 hB, m_I0, m_sI0, m_I1, m_sI1, m_I5, m_sI5, m_I10, m_sI10, m_I19, m_sI19, m_I26, m_sI26, m_I31, m_sI31, lt_v, bz0, bz1, true_and]
    exact h
  · refine x9_isDay1 h1 ?_
    rw [if_neg (by decide)]
    refine x9_in0 (hw.resolve_left h1) ?_
    rw [if_pos rfl]
    simp only [m_ok hB, m_rd2 hB, m_N2 hB, m_R2 hB, m_sR2 hB, m_rd3 hB, m_N3 hB, m_R3 hB, m_sR3 hB, m_rd4 hB, m_N4 hB, m_R4 hB, m_sR4 hB, m_rd6 hB, m_N6 hB, m_R6 hB, m_sR6 hB, m_rd7 hB, m_N7 hB, m_R7 hB, m_sR7 hB, m_rd8 hB, m_N8 hB, m_R8 hB, m_sR8 hB, m_rd9 hB, m_N9 hB, m_R9 hB, m_sR9 hB, m_rd11 hB, m_N11 hB, m_R11 hB, m_sR11 hB, m_rd12 hB, m_N12 hB, m_R12 hB, m_sR12 hB, m_rd13 hB, m_N13 hB, m_R13 hB, m_sR13 hB, m_rd14 hB, m_N14 hB, m_R14 hB, m_sR14 hB, m_rd15 hB, m_N15 hB, m_R15 hB, m_sR15 hB, m_rd16 hB, m_N16 hB, m_R16 hB, m_sR16 hB, m_rd17 hB, m_N17 hB, m_R17 hB, m_sR17 hB, m_rd18 hB, m_N18 hB, m_R18 hB, m_sR18 hB, m_rd20 hB, m_N20 hB, m_R20 hB, m_sR20 hB, m_rd21 hB, m_N21 hB, m_R21 hB, m_sR21 hB, m_rd22 hB, m_N22 hB, m_R22 hB, m_sR22 hB, m_rd23 hB, m_N23 hB, m_R23 hB, m_sR23 hB, m_rd24 hB, m_N24 hB, m_R24 hB, m_sR24 hB, m_rd25 hB, m_N25 hB, m_R25 hB, m_sR25 hB, m_rd27 hB, m_N27 hB, m_R27 hB, m_sR27 hB, m_rd28 hB, m_N28 hB, m_R28 hB, m_sR28 hB, m_rd29 hB, m_N29 hB, m_R29 hB, m_sR29 hB, m_rd30 hB, m_N30 hB, m_R30 hB, m_sR30 hB, m_I0, m_sI0, m_I1, m_sI1, m_I5, m_sI5, m_I10, m_sI10, m_I19, m_sI19, m_I26, m_sI26, m_I31, m_sI31, lt_v, bz0, bz1, true_and]
    exact h
theorem vix {l k : Nat} : (6 : Int32) * nI l + (2 : Int32) * nI k = nI (6 * l + 2 * k) := by
  rw [show (6 : Int32) = nI 6 from rfl, show (2 : Int32) = nI 2 from rfl, nI_mul, nI_mul, nI_add]
def vetF (F : Nat → Nat → Int32) (l k : Nat) (c d : Int32) : Nat → Nat → Int32 := g_2 (g_2 F 20 (6 * l + 2 * k) c) 20 (6 * l + 2 * k + 1) d
theorem x9_vet0 (hB : BM B m ad tg) {Q : Hp → Prop} {c d : Int32} {n l k : Nat} (hn : D 19 = nI n) (h8 : n ≤ 8) (hl : l < n) (hk : k < 3) (h1 : ¬ (c < 0 ∨ 9999 < c)) (h2 : ¬ (d < c ∨ 9999 < d)) (h : Q (mS B m tg (upD D 31 0) (vetF F l k c d))) : wp_X9_vet (mS B m tg D F) m (nI l) (nI k) c d Q := by
  unfold wp_X9_vet
  refine ⟨m_ok hB, x9_isLeader1 hB hn h8 hl ?_⟩
  rw [if_neg (by decide)]
  refine x9_isLand1 ?_ ?_
  · rw [i_lt, i_lt, nI_toInt (by omega), show (2 : Int32).toInt = 2 from rfl, show (0 : Int32).toInt = 0 from rfl]
    omega
  rw [if_neg (by decide)]
  refine ⟨m_ok hB, x9_asks1 hB ?_⟩
  rw [if_neg (by decide)]
  refine x9_isDay1 h1 ?_
  rw [if_neg (by decide)]
  refine x9_in1 (fun q => h2 (Or.inl q)) (fun q => h2 (Or.inr q)) ?_
  rw [if_neg (by decide)]
  simp only [m_ok hB, m_rd2 hB, m_N2 hB, m_R2 hB, m_sR2 hB, m_rd3 hB, m_N3 hB, m_R3 hB, m_sR3 hB, m_rd4 hB, m_N4 hB, m_R4 hB, m_sR4 hB, m_rd6 hB, m_N6 hB, m_R6 hB, m_sR6 hB, m_rd7 hB, m_N7 hB, m_R7 hB, m_sR7 hB, m_rd8 hB, m_N8 hB, m_R8 hB, m_sR8 hB, m_rd9 hB, m_N9 hB, m_R9 hB, m_sR9 hB, m_rd11 hB, m_N11 hB, m_R11 hB, m_sR11 hB, m_rd12 hB, m_N12 hB, m_R12 hB, m_sR12 hB, m_rd13 hB, m_N13 hB, m_R13 hB, m_sR13 hB, m_rd14 hB, m_N14 hB, m_R14 hB, m_sR14 hB, m_rd15 hB, m_N15 hB, m_R15 hB, m_sR15 hB, m_rd16 hB, m_N16 hB, m_R16 hB, m_sR16 hB, m_rd17 hB, m_N17 hB, m_R17 hB, m_sR17 hB, m_rd18 hB, m_N18 hB, m_R18 hB, m_sR18 hB, m_rd20 hB, m_N20 hB, m_R20 hB, m_sR20 hB, m_rd21 hB, m_N21 hB, m_R21 hB, m_sR21 hB, m_rd22 hB, m_N22 hB, m_R22 hB, m_sR22 hB, m_rd23 hB, m_N23 hB, m_R23 hB, m_sR23 hB, m_rd24 hB, m_N24 hB, m_R24 hB, m_sR24 hB, m_rd25 hB, m_N25 hB, m_R25 hB, m_sR25 hB, m_rd27 hB, m_N27 hB, m_R27 hB, m_sR27 hB, m_rd28 hB, m_N28 hB, m_R28 hB, m_sR28 hB, m_rd29 hB, m_N29 hB, m_R29 hB, m_sR29 hB, m_rd30 hB, m_N30 hB, m_R30 hB, m_sR30 hB, m_I0, m_sI0, m_I1, m_sI1, m_I5, m_sI5, m_I10, m_sI10, m_I19, m_sI19, m_I26, m_sI26, m_I31, m_sI31, lt_v, bz0, bz1, true_and]
  rw [vix, nI_1]
  refine ⟨vp_in_nI (by omega) (by omega), vp_in_nI (by omega) (by omega), ?_⟩
  rw [nIc (by omega), nIc (by omega)]
  exact h
/-- leader l is vetted for land k on a day -/
def veB (F : Nat → Nat → Int32) (l k : Nat) (d : Int32) : Bool := !decide (d < F 20 (6 * l + 2 * k)) && !decide (F 20 (6 * l + 2 * k + 1) < d)
theorem x9_isVetted (hB : BM B m ad tg) {d : Int32} {l k : Nat} (hl : l < 8) (hk : k < 3) (h : Q (bI (veB F l k d)) (mS B m tg D F)) : wp_X9_isVetted (mS B m tg D F) m (nI l) (nI k) d Q := by
  unfold wp_X9_isVetted
  simp only [m_ok hB, m_rd2 hB, m_N2 hB, m_R2 hB, m_sR2 hB, m_rd3 hB, m_N3 hB, m_R3 hB, m_sR3 hB, m_rd4 hB, m_N4 hB, m_R4 hB, m_sR4 hB, m_rd6 hB, m_N6 hB, m_R6 hB, m_sR6 hB, m_rd7 hB, m_N7 hB, m_R7 hB, m_sR7 hB, m_rd8 hB, m_N8 hB, m_R8 hB, m_sR8 hB, m_rd9 hB, m_N9 hB, m_R9 hB, m_sR9 hB, m_rd11 hB, m_N11 hB, m_R11 hB, m_sR11 hB, m_rd12 hB, m_N12 hB, m_R12 hB, m_sR12 hB, m_rd13 hB, m_N13 hB, m_R13 hB, m_sR13 hB, m_rd14 hB, m_N14 hB, m_R14 hB, m_sR14 hB, m_rd15 hB, m_N15 hB, m_R15 hB, m_sR15 hB, m_rd16 hB, m_N16 hB, m_R16 hB, m_sR16 hB, m_rd17 hB, m_N17 hB, m_R17 hB, m_sR17 hB, m_rd18 hB, m_N18 hB, m_R18 hB, m_sR18 hB, m_rd20 hB, m_N20 hB, m_R20 hB, m_sR20 hB, m_rd21 hB, m_N21 hB, m_R21 hB, m_sR21 hB, m_rd22 hB, m_N22 hB, m_R22 hB, m_sR22 hB, m_rd23 hB, m_N23 hB, m_R23 hB, m_sR23 hB, m_rd24 hB, m_N24 hB, m_R24 hB, m_sR24 hB, m_rd25 hB, m_N25 hB, m_R25 hB, m_sR25 hB, m_rd27 hB, m_N27 hB, m_R27 hB, m_sR27 hB, m_rd28 hB, m_N28 hB, m_R28 hB, m_sR28 hB, m_rd29 hB, m_N29 hB, m_R29 hB, m_sR29 hB, m_rd30 hB, m_N30 hB, m_R30 hB, m_sR30 hB, m_I0, m_sI0, m_I1, m_sI1, m_I5, m_sI5, m_I10, m_sI10, m_I19, m_sI19, m_I26, m_sI26, m_I31, m_sI31, lt_v, bz0, bz1, true_and]
  rw [vix, nI_1]
  refine ⟨vp_in_nI (by omega) (by omega), vp_in_nI (by omega) (by omega), ?_⟩
  rw [nIc (by omega), nIc (by omega)]
  unfold veB at h
  by_cases h1 : d < F 20 (6 * l + 2 * k)
  · refine x9_in0 (Or.inl h1) (bz0i ?_)
    simpa [h1, bI] using h
  · by_cases h2 : F 20 (6 * l + 2 * k + 1) < d
    · refine x9_in0 (Or.inr h2) (bz0i ?_)
      simpa [h1, h2, bI] using h
    · refine x9_in1 h1 h2 (bz1i ?_)
      simpa [h1, h2, bI] using h
theorem x9_permit1 (hB : BM B m ad tg) {a b c : Int32} {n : Nat} (hn : D 19 = nI n) (h8 : n ≤ 8) (hv : a < 0 ∨ nI n ≤ a) (h : Q 0 (mS B m tg (upD D 31 1) F)) : wp_X9_permit (mS B m tg D F) m a b c Q := by
  unfold wp_X9_permit
  refine ⟨m_ok hB, x9_isLeader0 hB hn h8 hv ⟨m_ok hB, x9_asks0 hB ?_⟩⟩
  rw [if_pos rfl]
  exact h
theorem x9_permit2 (hB : BM B m ad tg) {b c : Int32} {n l : Nat} (hn : D 19 = nI n) (h8 : n ≤ 8) (hl : l < n) (hw : (b < 1 ∨ 3 < b) ∨ (c < -1 ∨ 9999 < c)) (h : Q 0 (mS B m tg (upD (upD D 31 0) 31 2) F)) : wp_X9_permit (mS B m tg D F) m (nI l) b c Q := by
  unfold wp_X9_permit
  refine ⟨m_ok hB, x9_isLeader1 hB hn h8 hl ⟨m_ok hB, x9_asks1 hB ?_⟩⟩
  rw [if_neg (by decide)]
  by_cases h1 : b < 1 ∨ 3 < b
  · refine x9_in0 h1 ?_
    rw [if_pos rfl]
    exact ⟨m_ok hB, x9_fails hB h⟩
  · refine x9_in1 (fun q => h1 (Or.inl q)) (fun q => h1 (Or.inr q)) ?_
    rw [if_neg (by decide)]
    refine x9_in0 (hw.resolve_left h1) ?_
    rw [if_pos rfl]
    exact ⟨m_ok hB, x9_fails hB h⟩
theorem pix {l k : Nat} : (3 : Int32) * nI l + nI (k + 1) - 1 = nI (3 * l + k) := by
  rw [show (3 : Int32) = nI 3 from rfl, nI_mul, nI_add, ← Nat.add_assoc, nI_pred]
theorem x9_permit0 (hB : BM B m ad tg) {c : Int32} {n l k : Nat} (hn : D 19 = nI n) (h8 : n ≤ 8) (hl : l < n) (hk : k < 3) (h2 : ¬ (c < -1 ∨ 9999 < c)) (h : Q (F 21 (3 * l + k)) (mS B m tg (upD D 31 0) (g_2 F 21 (3 * l + k) c))) : wp_X9_permit (mS B m tg D F) m (nI l) (nI (k + 1)) c Q := by
  unfold wp_X9_permit
  refine ⟨m_ok hB, x9_isLeader1 hB hn h8 hl ⟨m_ok hB, x9_asks1 hB ?_⟩⟩
  rw [if_neg (by decide)]
  refine x9_in1 ?_ ?_ ?_
  · rw [i_lt, nI_toInt (by omega), show (1 : Int32).toInt = 1 from rfl]
    omega
  · rw [i_lt, nI_toInt (by omega), show (3 : Int32).toInt = 3 from rfl]
    omega
  rw [if_neg (by decide)]
  refine x9_in1 (fun q => h2 (Or.inl q)) (fun q => h2 (Or.inr q)) ?_
  rw [if_neg (by decide)]
  simp only [m_ok hB, m_rd2 hB, m_N2 hB, m_R2 hB, m_sR2 hB, m_rd3 hB, m_N3 hB, m_R3 hB, m_sR3 hB, m_rd4 hB, m_N4 hB, m_R4 hB, m_sR4 hB, m_rd6 hB, m_N6 hB, m_R6 hB, m_sR6 hB, m_rd7 hB, m_N7 hB, m_R7 hB, m_sR7 hB, m_rd8 hB, m_N8 hB, m_R8 hB, m_sR8 hB, m_rd9 hB, m_N9 hB, m_R9 hB, m_sR9 hB, m_rd11 hB, m_N11 hB, m_R11 hB, m_sR11 hB, m_rd12 hB, m_N12 hB, m_R12 hB, m_sR12 hB, m_rd13 hB, m_N13 hB, m_R13 hB, m_sR13 hB, m_rd14 hB, m_N14 hB, m_R14 hB, m_sR14 hB, m_rd15 hB, m_N15 hB, m_R15 hB, m_sR15 hB, m_rd16 hB, m_N16 hB, m_R16 hB, m_sR16 hB, m_rd17 hB, m_N17 hB, m_R17 hB, m_sR17 hB, m_rd18 hB, m_N18 hB, m_R18 hB, m_sR18 hB, m_rd20 hB, m_N20 hB, m_R20 hB, m_sR20 hB, m_rd21 hB, m_N21 hB, m_R21 hB, m_sR21 hB, m_rd22 hB, m_N22 hB, m_R22 hB, m_sR22 hB, m_rd23 hB, m_N23 hB, m_R23 hB, m_sR23 hB, m_rd24 hB, m_N24 hB, m_R24 hB, m_sR24 hB, m_rd25 hB, m_N25 hB, m_R25 hB, m_sR25 hB, m_rd27 hB, m_N27 hB, m_R27 hB, m_sR27 hB, m_rd28 hB, m_N28 hB, m_R28 hB, m_sR28 hB, m_rd29 hB, m_N29 hB, m_R29 hB, m_sR29 hB, m_rd30 hB, m_N30 hB, m_R30 hB, m_sR30 hB, m_I0, m_sI0, m_I1, m_sI1, m_I5, m_sI5, m_I10, m_sI10, m_I19, m_sI19, m_I26, m_sI26, m_I31, m_sI31, lt_v, bz0, bz1, true_and]
  rw [pix]
  refine ⟨vp_in_nI (by omega) (by omega), vp_in_nI (by omega) (by omega), ?_⟩
  rw [nIc (by omega)]
  exact h
theorem x9_teach1 (hB : BM B m ad tg) {a b : Int32} {n : Nat} (hn : D 19 = nI n) (h8 : n ≤ 8) (hv : a < 0 ∨ nI n ≤ a) (h : Q 0 (mS B m tg (upD D 31 1) F)) : wp_X9_teach (mS B m tg D F) m a b Q := by
  unfold wp_X9_teach
  refine ⟨m_ok hB, x9_isLeader0 hB hn h8 hv ⟨m_ok hB, x9_asks0 hB ?_⟩⟩
  rw [if_pos rfl]
  exact h
theorem x9_teach2 (hB : BM B m ad tg) {b : Int32} {n l : Nat} (hn : D 19 = nI n) (h8 : n ≤ 8) (hl : l < n) (hw : b < 0 ∨ 65535 < b) (h : Q 0 (mS B m tg (upD (upD D 31 0) 31 2) F)) : wp_X9_teach (mS B m tg D F) m (nI l) b Q := by
  unfold wp_X9_teach
  refine ⟨m_ok hB, x9_isLeader1 hB hn h8 hl ⟨m_ok hB, x9_asks1 hB ?_⟩⟩
  rw [if_neg (by decide)]
  refine x9_isSkills0 hw ?_
  rw [if_pos rfl]
  exact ⟨m_ok hB, x9_fails hB h⟩
theorem x9_teach0 (hB : BM B m ad tg) {b : Int32} {n l : Nat} (hn : D 19 = nI n) (h8 : n ≤ 8) (hl : l < n) (hw : ¬ (b < 0 ∨ 65535 < b)) (h : Q (F 22 l) (mS B m tg (upD D 31 0) (g_2 F 22 l b))) : wp_X9_teach (mS B m tg D F) m (nI l) b Q := by
  unfold wp_X9_teach
  refine ⟨m_ok hB, x9_isLeader1 hB hn h8 hl ⟨m_ok hB, x9_asks1 hB ?_⟩⟩
  rw [if_neg (by decide)]
  refine x9_isSkills1 hw ?_
  rw [if_neg (by decide)]
  simp only [m_ok hB, m_rd2 hB, m_N2 hB, m_R2 hB, m_sR2 hB, m_rd3 hB, m_N3 hB, m_R3 hB, m_sR3 hB, m_rd4 hB, m_N4 hB, m_R4 hB, m_sR4 hB, m_rd6 hB, m_N6 hB, m_R6 hB, m_sR6 hB, m_rd7 hB, m_N7 hB, m_R7 hB, m_sR7 hB, m_rd8 hB, m_N8 hB, m_R8 hB, m_sR8 hB, m_rd9 hB, m_N9 hB, m_R9 hB, m_sR9 hB, m_rd11 hB, m_N11 hB, m_R11 hB, m_sR11 hB, m_rd12 hB, m_N12 hB, m_R12 hB, m_sR12 hB, m_rd13 hB, m_N13 hB, m_R13 hB, m_sR13 hB, m_rd14 hB, m_N14 hB, m_R14 hB, m_sR14 hB, m_rd15 hB, m_N15 hB, m_R15 hB, m_sR15 hB, m_rd16 hB, m_N16 hB, m_R16 hB, m_sR16 hB, m_rd17 hB, m_N17 hB, m_R17 hB, m_sR17 hB, m_rd18 hB, m_N18 hB, m_R18 hB, m_sR18 hB, m_rd20 hB, m_N20 hB, m_R20 hB, m_sR20 hB, m_rd21 hB, m_N21 hB, m_R21 hB, m_sR21 hB, m_rd22 hB, m_N22 hB, m_R22 hB, m_sR22 hB, m_rd23 hB, m_N23 hB, m_R23 hB, m_sR23 hB, m_rd24 hB, m_N24 hB, m_R24 hB, m_sR24 hB, m_rd25 hB, m_N25 hB, m_R25 hB, m_sR25 hB, m_rd27 hB, m_N27 hB, m_R27 hB, m_sR27 hB, m_rd28 hB, m_N28 hB, m_R28 hB, m_sR28 hB, m_rd29 hB, m_N29 hB, m_R29 hB, m_sR29 hB, m_rd30 hB, m_N30 hB, m_R30 hB, m_sR30 hB, m_I0, m_sI0, m_I1, m_sI1, m_I5, m_sI5, m_I10, m_sI10, m_I19, m_sI19, m_I26, m_sI26, m_I31, m_sI31, lt_v, bz0, bz1, true_and]
  refine ⟨vp_in_nI (by omega) (by omega), vp_in_nI (by omega) (by omega), ?_⟩
  rw [nIc (by omega)]
  exact h
theorem x9_ones_L {s : Nat} (hs : s < 2 ^ 31) : ∀ (fuel k : Nat), k ≤ 16 → 16 < k + fuel → Q (nI (pop s 16)) S → wp_X9_ones_L4 (nI s) Q fuel S (nI (pop s k)) (nI k) := by
  intro fuel
  induction fuel with
  | zero => intro k h1 h2; omega
  | succ f ih =>
    intro k h1 h2 h
    unfold wp_X9_ones_L4
    by_cases hk : k = 16
    · subst hk
      rw [if_pos (by decide)]
      exact h
    · rw [if_neg (show ¬ (16 : Int32) ≤ nI k from nI_ge (b := 16) (by omega) (by omega))]
      show wp_X9_ones_L4 _ _ _ _ _ _
      rw [bit_nI hs (by omega), nI_add, nI_1, ← pop_succ]
      exact ih (k + 1) (by omega) (by omega) h
theorem x9_ones {s : Nat} (hs : s < 2 ^ 31) (h : Q (nI (pop s 16)) S) : wp_X9_ones S (nI s) Q := by
  unfold wp_X9_ones
  exact ⟨17, x9_ones_L hs 17 0 (by omega) (by omega) h⟩
/-! editions -/
theorem x9_edition1 (hB : BM B m ad tg) {b m1 c y p g l : Int32} (hv : b < 0 ∨ 7 < b) (h : Q 0 (mS B m tg (upD D 31 1) F)) : wp_X9_edition (mS B m tg D F) m b m1 c y p g l Q := by
  unfold wp_X9_edition
  refine x9_isBadge0 hv ⟨m_ok hB, x9_asks0 hB ?_⟩
  rw [if_pos rfl]
  exact h
/-- an edition's numbers are in their ranges -/
def edV (b m1 c y p g l : Int32) : Prop := ¬ (m1 < 0 ∨ 65535 < m1) ∧ ¬ (c < 0 ∨ 65535 < c) ∧ m1 &&& c = 0 ∧ ¬ (y < 0 ∨ nI (pop c.toNatClampNeg 16) < y) ∧ ¬ (p < -1 ∨ b - 1 < p) ∧ (p = -1 ∨ ¬ (g < 0 ∨ 400 < g)) ∧ ¬ (l < 0 ∨ 4000 < l)
theorem x9_edition2 (hB : BM B m ad tg) {b m1 c y p g l : Int32} (hv : ¬ (b < 0 ∨ 7 < b)) (hw : ¬ edV b m1 c y p g l) (h : Q 0 (mS B m tg (upD (upD D 31 0) 31 2) F)) : wp_X9_edition (mS B m tg D F) m b m1 c y p g l Q := by
  unfold wp_X9_edition
  refine x9_isBadge1 hv ⟨m_ok hB, x9_asks1 hB ?_⟩
  rw [if_neg (by decide)]
  by_cases h1 : m1 < 0 ∨ 65535 < m1
  · refine x9_isSkills0 h1 ?_
    rw [if_pos rfl]
    exact ⟨m_ok hB, x9_fails hB h⟩
  refine x9_isSkills1 h1 ?_
  rw [if_neg (by decide)]
  by_cases h2 : c < 0 ∨ 65535 < c
  · refine x9_isSkills0 h2 ?_
    rw [if_pos rfl]
    exact ⟨m_ok hB, x9_fails hB h⟩
  refine x9_isSkills1 h2 ?_
  rw [if_neg (by decide)]
  by_cases h3' : ¬ m1 &&& c = 0
  · rw [if_neg h3']
    exact ⟨m_ok hB, x9_fails hB h⟩
  have h3 : m1 &&& c = 0 := Decidable.not_not.mp h3'
  rw [if_pos h3]
  obtain ⟨s, hs, e⟩ := sk_nat h2
  rw [e]
  refine x9_ones (by omega) ?_
  have ec : nI (pop c.toNatClampNeg 16) = nI (pop s 16) := by rw [e, nIc (by omega)]
  by_cases h4 : y < 0 ∨ nI (pop s 16) < y
  · refine x9_in0 h4 ?_
    rw [if_pos rfl]
    exact ⟨m_ok hB, x9_fails hB h⟩
  refine x9_in1 (fun q => h4 (Or.inl q)) (fun q => h4 (Or.inr q)) ?_
  rw [if_neg (by decide)]
  by_cases h5 : p < -1 ∨ b - 1 < p
  · refine x9_in0 h5 ?_
    rw [if_pos rfl]
    exact ⟨m_ok hB, x9_fails hB h⟩
  refine x9_in1 (fun q => h5 (Or.inl q)) (fun q => h5 (Or.inr q)) ?_
  rw [if_neg (by decide)]
  by_cases h6 : p = -1
  · rw [if_pos h6]
    have h7 : l < 0 ∨ 4000 < l := by
      by_cases q : l < 0 ∨ 4000 < l
      · exact q
      · exact absurd ⟨h1, h2, h3, by rw [ec]; exact h4, h5, Or.inl h6, q⟩ hw
    refine x9_in0 h7 ?_
    rw [if_pos rfl]
    exact ⟨m_ok hB, x9_fails hB h⟩
  rw [if_neg h6]
  by_cases h7 : g < 0 ∨ 400 < g
  · refine x9_in0 h7 ?_
    rw [if_pos rfl]
    exact ⟨m_ok hB, x9_fails hB h⟩
  refine x9_in1 (fun q => h7 (Or.inl q)) (fun q => h7 (Or.inr q)) ?_
  rw [if_neg (by decide)]
  have h8 : l < 0 ∨ 4000 < l := by
    by_cases q : l < 0 ∨ 4000 < l
    · exact q
    · exact absurd ⟨h1, h2, h3, by rw [ec]; exact h4, h5, Or.inr h7, q⟩ hw
  refine x9_in0 h8 ?_
  rw [if_pos rfl]
  exact ⟨m_ok hB, x9_fails hB h⟩
def ediF (F : Nat → Nat → Int32) (b e : Nat) (m1 c y p g l : Int32) : Nat → Nat → Int32 := g_2 (g_2 (g_2 (g_2 (g_2 (g_2 (g_2 F 24 (18 * b + 6 * e) m1) 24 (18 * b + 6 * e + 1) c) 24 (18 * b + 6 * e + 2) y) 24 (18 * b + 6 * e + 3) p) 24 (18 * b + 6 * e + 4) g) 24 (18 * b + 6 * e + 5) l) 23 b (nI (e + 1))
theorem eix {b e : Nat} : (18 : Int32) * nI b + (6 : Int32) * nI e = nI (18 * b + 6 * e) := by
  rw [show (18 : Int32) = nI 18 from rfl, show (6 : Int32) = nI 6 from rfl, nI_mul, nI_mul, nI_add]
theorem nI_k (a k : Nat) : nI a + (OfNat.ofNat k : Int32) = nI (a + k) := nI_add a k
theorem x9_edition3 (hB : BM B m ad tg) {m1 c y p g l : Int32} {b : Nat} (hb : b < 8) (hw : edV (nI b) m1 c y p g l) (h3' : F 23 b = 3) (h : Q 0 (mS B m tg (upD (upD D 31 0) 31 3) F)) : wp_X9_edition (mS B m tg D F) m (nI b) m1 c y p g l Q := by
  obtain ⟨h1, h2, h3, h4, h5, h6, h7⟩ := hw
  unfold wp_X9_edition
  refine x9_isBadge1 ?_ ⟨m_ok hB, x9_asks1 hB ?_⟩
  · rw [i_lt, i_lt, nI_toInt (by omega), show (7 : Int32).toInt = 7 from rfl, show (0 : Int32).toInt = 0 from rfl]
    omega
  rw [if_neg (by decide)]
  refine x9_isSkills1 h1 ?_
  rw [if_neg (by decide)]
  refine x9_isSkills1 h2 ?_
  rw [if_neg (by decide), if_pos h3]
  obtain ⟨s, hs, e⟩ := sk_nat h2
  rw [e]
  refine x9_ones (by omega) ?_
  rw [e, nIc (by omega)] at h4
  refine x9_in1 (fun q => h4 (Or.inl q)) (fun q => h4 (Or.inr q)) ?_
  rw [if_neg (by decide)]
  refine x9_in1 (fun q => h5 (Or.inl q)) (fun q => h5 (Or.inr q)) ?_
  rw [if_neg (by decide)]
  by_cases hp : p = -1
  · rw [if_pos hp]
    refine x9_in1 (fun q => h7 (Or.inl q)) (fun q => h7 (Or.inr q)) ?_
    rw [if_neg (by decide)]
    simp only [m_ok hB, m_rd2 hB, m_N2 hB, m_R2 hB, m_sR2 hB, m_rd3 hB, m_N3 hB, m_R3 hB, m_sR3 hB, m_rd4 hB, m_N4 hB, m_R4 hB, m_sR4 hB, m_rd6 hB, m_N6 hB, m_R6 hB, m_sR6 hB, m_rd7 hB, m_N7 hB, m_R7 hB, m_sR7 hB, m_rd8 hB, m_N8 hB, m_R8 hB, m_sR8 hB, m_rd9 hB, m_N9 hB, m_R9 hB, m_sR9 hB, m_rd11 hB, m_N11 hB, m_R11 hB, m_sR11 hB, m_rd12 hB, m_N12 hB, m_R12 hB, m_sR12 hB, m_rd13 hB, m_N13 hB, m_R13 hB, m_sR13 hB, m_rd14 hB, m_N14 hB, m_R14 hB, m_sR14 hB, m_rd15 hB, m_N15 hB, m_R15 hB, m_sR15 hB, m_rd16 hB, m_N16 hB, m_R16 hB, m_sR16 hB, m_rd17 hB, m_N17 hB, m_R17 hB, m_sR17 hB, m_rd18 hB, m_N18 hB, m_R18 hB, m_sR18 hB, m_rd20 hB, m_N20 hB, m_R20 hB, m_sR20 hB, m_rd21 hB, m_N21 hB, m_R21 hB, m_sR21 hB, m_rd22 hB, m_N22 hB, m_R22 hB, m_sR22 hB, m_rd23 hB, m_N23 hB, m_R23 hB, m_sR23 hB, m_rd24 hB, m_N24 hB, m_R24 hB, m_sR24 hB, m_rd25 hB, m_N25 hB, m_R25 hB, m_sR25 hB, m_rd27 hB, m_N27 hB, m_R27 hB, m_sR27 hB, m_rd28 hB, m_N28 hB, m_R28 hB, m_sR28 hB, m_rd29 hB, m_N29 hB, m_R29 hB, m_sR29 hB, m_rd30 hB, m_N30 hB, m_R30 hB, m_sR30 hB, m_I0, m_sI0, m_I1, m_sI1, m_I5, m_sI5, m_I10, m_sI10, m_I19, m_sI19, m_I26, m_sI26, m_I31, m_sI31, lt_v, bz0, bz1, true_and]
    refine ⟨vp_in_nI hb (by omega), ?_⟩
    rw [nIc (by omega), if_pos h3']
    exact x9_fails hB h
  · rw [if_neg hp]
    have h6 := h6.resolve_left hp
    refine x9_in1 (fun q => h6 (Or.inl q)) (fun q => h6 (Or.inr q)) ?_
    rw [if_neg (by decide)]
    refine x9_in1 (fun q => h7 (Or.inl q)) (fun q => h7 (Or.inr q)) ?_
    rw [if_neg (by decide)]
    simp only [m_ok hB, m_rd2 hB, m_N2 hB, m_R2 hB, m_sR2 hB, m_rd3 hB, m_N3 hB, m_R3 hB, m_sR3 hB, m_rd4 hB, m_N4 hB, m_R4 hB, m_sR4 hB, m_rd6 hB, m_N6 hB, m_R6 hB, m_sR6 hB, m_rd7 hB, m_N7 hB, m_R7 hB, m_sR7 hB, m_rd8 hB, m_N8 hB, m_R8 hB, m_sR8 hB, m_rd9 hB, m_N9 hB, m_R9 hB, m_sR9 hB, m_rd11 hB, m_N11 hB, m_R11 hB, m_sR11 hB, m_rd12 hB, m_N12 hB, m_R12 hB, m_sR12 hB, m_rd13 hB, m_N13 hB, m_R13 hB, m_sR13 hB, m_rd14 hB, m_N14 hB, m_R14 hB, m_sR14 hB, m_rd15 hB, m_N15 hB, m_R15 hB, m_sR15 hB, m_rd16 hB, m_N16 hB, m_R16 hB, m_sR16 hB, m_rd17 hB, m_N17 hB, m_R17 hB, m_sR17 hB, m_rd18 hB, m_N18 hB, m_R18 hB, m_sR18 hB, m_rd20 hB, m_N20 hB, m_R20 hB, m_sR20 hB, m_rd21 hB, m_N21 hB, m_R21 hB, m_sR21 hB, m_rd22 hB, m_N22 hB, m_R22 hB, m_sR22 hB, m_rd23 hB, m_N23 hB, m_R23 hB, m_sR23 hB, m_rd24 hB, m_N24 hB, m_R24 hB, m_sR24 hB, m_rd25 hB, m_N25 hB, m_R25 hB, m_sR25 hB, m_rd27 hB, m_N27 hB, m_R27 hB, m_sR27 hB, m_rd28 hB, m_N28 hB, m_R28 hB, m_sR28 hB, m_rd29 hB, m_N29 hB, m_R29 hB, m_sR29 hB, m_rd30 hB, m_N30 hB, m_R30 hB, m_sR30 hB, m_I0, m_sI0, m_I1, m_sI1, m_I5, m_sI5, m_I10, m_sI10, m_I19, m_sI19, m_I26, m_sI26, m_I31, m_sI31, lt_v, bz0, bz1, true_and]
    refine ⟨vp_in_nI hb (by omega), ?_⟩
    rw [nIc (by omega), if_pos h3']
    exact x9_fails hB h
theorem x9_edition0 (hB : BM B m ad tg) {m1 c y p g l : Int32} {b e : Nat} (hb : b < 8) (hw : edV (nI b) m1 c y p g l) (he : F 23 b = nI e) (h3' : e < 3) (h : Q (nI e) (mS B m tg (upD D 31 0) (ediF F b e m1 c y p g l))) : wp_X9_edition (mS B m tg D F) m (nI b) m1 c y p g l Q := by
  obtain ⟨h1, h2, h3, h4, h5, h6, h7⟩ := hw
  unfold wp_X9_edition
  refine x9_isBadge1 ?_ ⟨m_ok hB, x9_asks1 hB ?_⟩
  · rw [i_lt, i_lt, nI_toInt (by omega), show (7 : Int32).toInt = 7 from rfl, show (0 : Int32).toInt = 0 from rfl]
    omega
  rw [if_neg (by decide)]
  refine x9_isSkills1 h1 ?_
  rw [if_neg (by decide)]
  refine x9_isSkills1 h2 ?_
  rw [if_neg (by decide), if_pos h3]
  obtain ⟨s, hs, ec⟩ := sk_nat h2
  rw [ec] at h ⊢
  refine x9_ones (by omega) ?_
  rw [ec, nIc (by omega)] at h4
  refine x9_in1 (fun q => h4 (Or.inl q)) (fun q => h4 (Or.inr q)) ?_
  rw [if_neg (by decide)]
  refine x9_in1 (fun q => h5 (Or.inl q)) (fun q => h5 (Or.inr q)) ?_
  rw [if_neg (by decide)]
  have c1 : (nI b).toNatClampNeg = b := nIc (by omega)
  have c2 : ∀ j, j < 6 → (nI (18 * b + 6 * e + j)).toNatClampNeg = 18 * b + 6 * e + j := fun j hj => nIc (by omega)
  have c3 : ¬ nI e = 3 := nI_ne (b := 3) (by omega) (by omega) (by omega)
  by_cases hp : p = -1
  · rw [if_pos hp]
    refine x9_in1 (fun q => h7 (Or.inl q)) (fun q => h7 (Or.inr q)) ?_
    rw [if_neg (by decide)]
    simp only [m_ok hB, m_rd2 hB, m_N2 hB, m_R2 hB, m_sR2 hB, m_rd3 hB, m_N3 hB, m_R3 hB, m_sR3 hB, m_rd4 hB, m_N4 hB, m_R4 hB, m_sR4 hB, m_rd6 hB, m_N6 hB, m_R6 hB, m_sR6 hB, m_rd7 hB, m_N7 hB, m_R7 hB, m_sR7 hB, m_rd8 hB, m_N8 hB, m_R8 hB, m_sR8 hB, m_rd9 hB, m_N9 hB, m_R9 hB, m_sR9 hB, m_rd11 hB, m_N11 hB, m_R11 hB, m_sR11 hB, m_rd12 hB, m_N12 hB, m_R12 hB, m_sR12 hB, m_rd13 hB, m_N13 hB, m_R13 hB, m_sR13 hB, m_rd14 hB, m_N14 hB, m_R14 hB, m_sR14 hB, m_rd15 hB, m_N15 hB, m_R15 hB, m_sR15 hB, m_rd16 hB, m_N16 hB, m_R16 hB, m_sR16 hB, m_rd17 hB, m_N17 hB, m_R17 hB, m_sR17 hB, m_rd18 hB, m_N18 hB, m_R18 hB, m_sR18 hB, m_rd20 hB, m_N20 hB, m_R20 hB, m_sR20 hB, m_rd21 hB, m_N21 hB, m_R21 hB, m_sR21 hB, m_rd22 hB, m_N22 hB, m_R22 hB, m_sR22 hB, m_rd23 hB, m_N23 hB, m_R23 hB, m_sR23 hB, m_rd24 hB, m_N24 hB, m_R24 hB, m_sR24 hB, m_rd25 hB, m_N25 hB, m_R25 hB, m_sR25 hB, m_rd27 hB, m_N27 hB, m_R27 hB, m_sR27 hB, m_rd28 hB, m_N28 hB, m_R28 hB, m_sR28 hB, m_rd29 hB, m_N29 hB, m_R29 hB, m_sR29 hB, m_rd30 hB, m_N30 hB, m_R30 hB, m_sR30 hB, m_I0, m_sI0, m_I1, m_sI1, m_I5, m_sI5, m_I10, m_sI10, m_I19, m_sI19, m_I26, m_sI26, m_I31, m_sI31, lt_v, bz0, bz1, true_and, c1]
    rw [he, if_neg c3, eix]
    refine ⟨vp_in_nI hb (by omega), vp_in_nI hb (by omega), vp_in_nI (by omega) (by omega), ?_⟩
    rw [nI_k _ 1, nI_k _ 2, nI_k _ 3, nI_k _ 4, nI_k _ 5]
    refine ⟨vp_in_nI (by omega) (by omega), vp_in_nI (by omega) (by omega), vp_in_nI (by omega) (by omega), vp_in_nI (by omega) (by omega), vp_in_nI (by omega) (by omega), vp_in_nI hb (by omega), vp_in_nI hb (by omega), vp_in_nI hb (by omega), ?_⟩
    rw [nIc (show 18 * b + 6 * e < 2 ^ 31 by omega), c2 1 (by omega), c2 2 (by omega), c2 3 (by omega), c2 4 (by omega), c2 5 (by omega)]
    simp only [g2_, show ¬ (23 : Nat) = 24 by decide, false_and, if_false, and_self, if_true, he]
    rw [nI_k _ 1, nI_pred]
    exact h
  · rw [if_neg hp]
    have h6 := h6.resolve_left hp
    refine x9_in1 (fun q => h6 (Or.inl q)) (fun q => h6 (Or.inr q)) ?_
    rw [if_neg (by decide)]
    refine x9_in1 (fun q => h7 (Or.inl q)) (fun q => h7 (Or.inr q)) ?_
    rw [if_neg (by decide)]
    simp only [m_ok hB, m_rd2 hB, m_N2 hB, m_R2 hB, m_sR2 hB, m_rd3 hB, m_N3 hB, m_R3 hB, m_sR3 hB, m_rd4 hB, m_N4 hB, m_R4 hB, m_sR4 hB, m_rd6 hB, m_N6 hB, m_R6 hB, m_sR6 hB, m_rd7 hB, m_N7 hB, m_R7 hB, m_sR7 hB, m_rd8 hB, m_N8 hB, m_R8 hB, m_sR8 hB, m_rd9 hB, m_N9 hB, m_R9 hB, m_sR9 hB, m_rd11 hB, m_N11 hB, m_R11 hB, m_sR11 hB, m_rd12 hB, m_N12 hB, m_R12 hB, m_sR12 hB, m_rd13 hB, m_N13 hB, m_R13 hB, m_sR13 hB, m_rd14 hB, m_N14 hB, m_R14 hB, m_sR14 hB, m_rd15 hB, m_N15 hB, m_R15 hB, m_sR15 hB, m_rd16 hB, m_N16 hB, m_R16 hB, m_sR16 hB, m_rd17 hB, m_N17 hB, m_R17 hB, m_sR17 hB, m_rd18 hB, m_N18 hB, m_R18 hB, m_sR18 hB, m_rd20 hB, m_N20 hB, m_R20 hB, m_sR20 hB, m_rd21 hB, m_N21 hB, m_R21 hB, m_sR21 hB, m_rd22 hB, m_N22 hB, m_R22 hB, m_sR22 hB, m_rd23 hB, m_N23 hB, m_R23 hB, m_sR23 hB, m_rd24 hB, m_N24 hB, m_R24 hB, m_sR24 hB, m_rd25 hB, m_N25 hB, m_R25 hB, m_sR25 hB, m_rd27 hB, m_N27 hB, m_R27 hB, m_sR27 hB, m_rd28 hB, m_N28 hB, m_R28 hB, m_sR28 hB, m_rd29 hB, m_N29 hB, m_R29 hB, m_sR29 hB, m_rd30 hB, m_N30 hB, m_R30 hB, m_sR30 hB, m_I0, m_sI0, m_I1, m_sI1, m_I5, m_sI5, m_I10, m_sI10, m_I19, m_sI19, m_I26, m_sI26, m_I31, m_sI31, lt_v, bz0, bz1, true_and, c1]
    rw [he, if_neg c3, eix]
    refine ⟨vp_in_nI hb (by omega), vp_in_nI hb (by omega), vp_in_nI (by omega) (by omega), ?_⟩
    rw [nI_k _ 1, nI_k _ 2, nI_k _ 3, nI_k _ 4, nI_k _ 5]
    refine ⟨vp_in_nI (by omega) (by omega), vp_in_nI (by omega) (by omega), vp_in_nI (by omega) (by omega), vp_in_nI (by omega) (by omega), vp_in_nI (by omega) (by omega), vp_in_nI hb (by omega), vp_in_nI hb (by omega), vp_in_nI hb (by omega), ?_⟩
    rw [nIc (show 18 * b + 6 * e < 2 ^ 31 by omega), c2 1 (by omega), c2 2 (by omega), c2 3 (by omega), c2 4 (by omega), c2 5 (by omega)]
    simp only [g2_, show ¬ (23 : Nat) = 24 by decide, false_and, if_false, and_self, if_true, he]
    rw [nI_k _ 1, nI_pred]
    exact h
end MLEAD
