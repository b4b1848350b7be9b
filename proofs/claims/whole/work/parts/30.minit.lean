/-! THE REFERENCE: its constructor -/
section MINIT
variable {B : Hp} {m : Nat} {ad tg : Nat → Nat} {D : Nat → Int32} {F : Nat → Nat → Int32} {Q : Hp → Prop}
/-- while the arrays are made: those of ks stand -/
def MI (S : Hp) (m : Nat) (ks : List Nat) (ad : Nat → Nat) : Prop :=
  okA S 9 m ∧ (∀ n, 900 ≤ n → g_I S n m = 0) ∧ (∀ j ∈ ks, g_P S (900 + j) m = some (ad j) ∧ okA S (kM j) (ad j) ∧ g_N S (ad j) = lM j ∧ ∀ i, g_R S (ad j) i = 0) ∧ ∀ j ∈ ks, ∀ k ∈ ks, ad j = ad k → j = k
theorem mi_step {S : Hp} {ks : List Nat} {κ N n j : Nat} {K : Hp → Prop} (h : MI S m ks ad) (hκ : kM j = κ) (hN : lM j = N) (hn : 900 + j = n) (hj : j ∉ ks) (hK : ∀ S' ad', MI S' m (j :: ks) ad' → K S') : ∀ a, a ∉ g_L S → lt (n_A κ S a N) (fun S2 => okA S2 9 m ∧ lt (s_P S2 n m (some a)) K) := by
  obtain ⟨h1, h2, h3, h4⟩ := h
  intro a ha
  have hne : ∀ κ b, okA S κ b → b ≠ a := fun κ b hb e => ha (e ▸ hb.1)
  have hk : ∀ κ' b, okA S κ' b → okA (n_A κ S a N) κ' b := fun κ' b hb => ⟨List.mem_append.mpr (Or.inl hb.1), by
    show va_up (g_K S) a κ b = κ'
    rw [va_up_ne _ _ (hne _ _ hb)]
    exact hb.2⟩
  refine ⟨hk 9 m h1, hK _ (va_up ad j a) ?_⟩
  refine ⟨hk 9 m h1, h2, fun k hk' => ?_, fun k hk1 l hl1 => ?_⟩
  · by_cases e : k = j
    · subst e
      rw [va_up_self]
      refine ⟨?_, ?_, ?_, ?_⟩
      · rw [hn]
        exact g_2s _ _ _ _
      · rw [hκ]
        exact ⟨List.mem_append.mpr (Or.inr (List.mem_singleton.mpr rfl)), va_up_self _ _ _⟩
      · rw [hN]
        exact va_up_self _ _ _
      · intro i
        show (if a = a then fun _ => (0 : Int32) else g_R S a) i = 0
        rw [if_pos rfl]
    · rw [va_up_ne _ _ e]
      obtain ⟨p1, p2, p3, p4⟩ := h3 k ((List.mem_cons.mp hk').resolve_left e)
      refine ⟨?_, hk _ _ p2, ?_, ?_⟩
      · rw [← p1]
        exact g_2n _ _ (fun q => e (by omega))
      · rw [← p3]
        exact va_up_ne _ _ (hne _ _ p2)
      · intro i
        rw [← p4 i]
        show (if ad k = a then fun _ => (0 : Int32) else g_R S (ad k)) i = _
        rw [if_neg (hne _ _ p2)]
  · intro e
    by_cases e1 : k = j
    · by_cases e2 : l = j
      · rw [e1, e2]
      · subst e1
        rw [va_up_self, va_up_ne _ _ e2] at e
        exact absurd e.symm (hne _ _ (h3 l ((List.mem_cons.mp hl1).resolve_left e2)).2.1)
    · by_cases e2 : l = j
      · subst e2
        rw [va_up_ne _ _ e1, va_up_self] at e
        exact absurd e (hne _ _ (h3 k ((List.mem_cons.mp hk1).resolve_left e1)).2.1)
      · rw [va_up_ne _ _ e1, va_up_ne _ _ e2] at e
        exact h4 k ((List.mem_cons.mp hk1).resolve_left e1) l ((List.mem_cons.mp hl1).resolve_left e2) e
def tgF (ks : List Nat) (ad : Nat → Nat) (a : Nat) : Nat := match ks with
  | [] => 0
  | k :: l => if ad k = a then k else tgF l ad a
theorem tgF_in (ad : Nat → Nat) (a : Nat) : ∀ ks, tgF ks ad a ≠ 0 → tgF ks ad a ∈ ks ∧ a = ad (tgF ks ad a)
  | [], h => absurd rfl h
  | k :: l, h => by
    unfold tgF at h ⊢
    by_cases e : ad k = a
    · rw [if_pos e]
      exact ⟨List.mem_cons_self, e.symm⟩
    · rw [if_neg e] at h ⊢
      obtain ⟨h1, h2⟩ := tgF_in ad a l h
      exact ⟨List.mem_cons_of_mem _ h1, h2⟩
theorem tgF_at (ad : Nat → Nat) : ∀ ks, (∀ j ∈ ks, ∀ k ∈ ks, ad j = ad k → j = k) → ∀ j ∈ ks, tgF ks ad (ad j) = j
  | [], _, j, hj => nomatch hj
  | k :: l, h, j, hj => by
    unfold tgF
    by_cases e : ad k = ad j
    · rw [if_pos e]
      exact h k List.mem_cons_self j hj e
    · rw [if_neg e]
      refine tgF_at ad l (fun a ha b hb => h a (List.mem_cons_of_mem _ ha) b (List.mem_cons_of_mem _ hb)) j ?_
      rcases List.mem_cons.mp hj with q | q
      · exact absurd (by rw [q]) e
      · exact q
theorem mi_end {S : Hp} {ks : List Nat} (h : MI S m ks ad) (hks : ∀ j, j ∈ arrs ↔ j ∈ ks) : ∃ tg, BM S m ad tg ∧ S = mS S m tg (fun _ => 0) (fun _ _ => 0) := by
  obtain ⟨h1, h2, h3, h4⟩ := h
  refine ⟨tgF ks ad, ⟨h1, fun j hj => ?_, fun a ha => (tgF_in ad a ks ha).2⟩, ?_⟩
  · obtain ⟨p1, p2, p3, -⟩ := h3 j ((hks j).mp hj)
    exact ⟨p1, p2, p3, tgF_at ad ks h4 j ((hks j).mp hj)⟩
  · have e1 : g_I S = fun n a => if a = m ∧ 900 ≤ n then (0 : Int32) else g_I S n a := by
      funext n a
      by_cases e : a = m ∧ 900 ≤ n
      · rw [if_pos e, e.1]
        exact h2 n e.2
      · rw [if_neg e]
    have e2 : g_R S = fun a i => if tgF ks ad a = 0 then g_R S a i else 0 := by
      funext a i
      by_cases e : tgF ks ad a = 0
      · rw [if_pos e]
      · rw [if_neg e]
        obtain ⟨q1, q2⟩ := tgF_in ad a ks e
        rw [q2]
        have := (h3 _ q1).2.2.2 i
        rw [← q2] at this ⊢
        exact this
    show S = (g_L S, g_K S, (fun n a => if a = m ∧ 900 ≤ n then (0 : Int32) else g_I S n a), g_P S, g_N S, (fun a i => if tgF ks ad a = 0 then g_R S a i else 0), g_O S, g_T S)
    rw [← e1, ← e2]
    rfl
/-- row j filled below k -/
def fil (F : Nat → Nat → Int32) (j : Nat) (v : Nat → Int32) (k : Nat) : Nat → Nat → Int32 := fun a i => if a = j ∧ i < k then v i else F a i
theorem fil_0 (F : Nat → Nat → Int32) (j : Nat) (v : Nat → Int32) : fil F j v 0 = F := by
  funext a i
  simp [fil]
theorem fil_s (F : Nat → Nat → Int32) (j : Nat) (v : Nat → Int32) (k : Nat) : g_2 (fil F j v k) j k (v k) = fil F j v (k + 1) := by
  funext a i
  by_cases ha : a = j
  · by_cases hi : i = k
    · subst hi
      simp [g_2, fil, ha]
    · have e : (i < k + 1) = (i < k) := propext (by omega)
      simp [g_2, fil, ha, hi, e]
  · simp [g_2, fil, ha]
def a01 (i : Nat) : Int32 := if i % 2 = 0 then 1 else 0
theorem x9_init_283 (hB : BM B m ad tg) (h : Q (mS B m tg D (fil F 21 (fun _ => -1) 24))) : ∀ (fuel k : Nat), k ≤ 24 → 24 < k + fuel → wp_X9_init_L283 m Q fuel (mS B m tg D (fil F 21 (fun _ => -1) k)) (nI k) := by
  intro fuel
  induction fuel with
  | zero => intro i h1 h2; omega
  | succ u ih =>
    intro k h1 h2
    unfold wp_X9_init_L283
    by_cases hk : k = 24
    · subst hk
      rw [if_pos (by decide)]
      exact h
    · rw [if_neg (show ¬ (24 : Int32) ≤ nI k from nI_ge (b := 24) (by omega) (by omega)), nI_1]
      simp only [m_ok hB, m_rd2 hB, m_N2 hB, m_R2 hB, m_sR2 hB, m_rd3 hB, m_N3 hB, m_R3 hB, m_sR3 hB, m_rd4 hB, m_N4 hB, m_R4 hB, m_sR4 hB, m_rd6 hB, m_N6 hB, m_R6 hB, m_sR6 hB, m_rd7 hB, m_N7 hB, m_R7 hB, m_sR7 hB, m_rd8 hB, m_N8 hB, m_R8 hB, m_sR8 hB, m_rd9 hB, m_N9 hB, m_R9 hB, m_sR9 hB, m_rd11 hB, m_N11 hB, m_R11 hB, m_sR11 hB, m_rd12 hB, m_N12 hB, m_R12 hB, m_sR12 hB, m_rd13 hB, m_N13 hB, m_R13 hB, m_sR13 hB, m_rd14 hB, m_N14 hB, m_R14 hB, m_sR14 hB, m_rd15 hB, m_N15 hB, m_R15 hB, m_sR15 hB, m_rd16 hB, m_N16 hB, m_R16 hB, m_sR16 hB, m_rd17 hB, m_N17 hB, m_R17 hB, m_sR17 hB, m_rd18 hB, m_N18 hB, m_R18 hB, m_sR18 hB, m_rd20 hB, m_N20 hB, m_R20 hB, m_sR20 hB, m_rd21 hB, m_N21 hB, m_R21 hB, m_sR21 hB, m_rd22 hB, m_N22 hB, m_R22 hB, m_sR22 hB, m_rd23 hB, m_N23 hB, m_R23 hB, m_sR23 hB, m_rd24 hB, m_N24 hB, m_R24 hB, m_sR24 hB, m_rd25 hB, m_N25 hB, m_R25 hB, m_sR25 hB, m_rd27 hB, m_N27 hB, m_R27 hB, m_sR27 hB, m_rd28 hB, m_N28 hB, m_R28 hB, m_sR28 hB, m_rd29 hB, m_N29 hB, m_R29 hB, m_sR29 hB, m_rd30 hB, m_N30 hB, m_R30 hB, m_sR30 hB, m_I0, m_sI0, m_I1, m_sI1, m_I5, m_sI5, m_I10, m_sI10, m_I19, m_sI19, m_I26, m_sI26, m_I31, m_sI31, lt_v, bz0, bz1, true_and]
      refine ⟨vp_in_nI (by omega) (by omega), ?_⟩
      rw [nIc (by omega), fil_s F 21 (fun _ => -1) k]
      exact ih (k + 1) (by omega) (by omega)
theorem x9_init_252 (hB : BM B m ad tg) (h : Q (mS B m tg D (fil (fil F 20 a01 48) 21 (fun _ => -1) 24))) : ∀ (fuel k : Nat), k ≤ 48 → 48 < k + fuel → wp_X9_init_L252 m Q fuel (mS B m tg D (fil F 20 a01 k)) (nI k) := by
  intro fuel
  induction fuel with
  | zero => intro i h1 h2; omega
  | succ u ih =>
    intro k h1 h2
    unfold wp_X9_init_L252
    by_cases hk : k = 48
    · subst hk
      rw [if_pos (by decide)]
      have := x9_init_283 (D := D) hB h 25 0 (by omega) (by omega)
      rw [fil_0] at this
      exact ⟨25, this⟩
    · rw [if_neg (show ¬ (48 : Int32) ≤ nI k from nI_ge (b := 48) (by omega) (by omega)), nI_1]
      simp only [m_ok hB, m_rd2 hB, m_N2 hB, m_R2 hB, m_sR2 hB, m_rd3 hB, m_N3 hB, m_R3 hB, m_sR3 hB, m_rd4 hB, m_N4 hB, m_R4 hB, m_sR4 hB, m_rd6 hB, m_N6 hB, m_R6 hB, m_sR6 hB, m_rd7 hB, m_N7 hB, m_R7 hB, m_sR7 hB, m_rd8 hB, m_N8 hB, m_R8 hB, m_sR8 hB, m_rd9 hB, m_N9 hB, m_R9 hB, m_sR9 hB, m_rd11 hB, m_N11 hB, m_R11 hB, m_sR11 hB, m_rd12 hB, m_N12 hB, m_R12 hB, m_sR12 hB, m_rd13 hB, m_N13 hB, m_R13 hB, m_sR13 hB, m_rd14 hB, m_N14 hB, m_R14 hB, m_sR14 hB, m_rd15 hB, m_N15 hB, m_R15 hB, m_sR15 hB, m_rd16 hB, m_N16 hB, m_R16 hB, m_sR16 hB, m_rd17 hB, m_N17 hB, m_R17 hB, m_sR17 hB, m_rd18 hB, m_N18 hB, m_R18 hB, m_sR18 hB, m_rd20 hB, m_N20 hB, m_R20 hB, m_sR20 hB, m_rd21 hB, m_N21 hB, m_R21 hB, m_sR21 hB, m_rd22 hB, m_N22 hB, m_R22 hB, m_sR22 hB, m_rd23 hB, m_N23 hB, m_R23 hB, m_sR23 hB, m_rd24 hB, m_N24 hB, m_R24 hB, m_sR24 hB, m_rd25 hB, m_N25 hB, m_R25 hB, m_sR25 hB, m_rd27 hB, m_N27 hB, m_R27 hB, m_sR27 hB, m_rd28 hB, m_N28 hB, m_R28 hB, m_sR28 hB, m_rd29 hB, m_N29 hB, m_R29 hB, m_sR29 hB, m_rd30 hB, m_N30 hB, m_R30 hB, m_sR30 hB, m_I0, m_sI0, m_I1, m_sI1, m_I5, m_sI5, m_I10, m_sI10, m_I19, m_sI19, m_I26, m_sI26, m_I31, m_sI31, lt_v, bz0, bz1, true_and]
      have hr : nI k - nI k / 2 * 2 = nI (k % 2) := pk_rem (d := 2) (by omega) (by omega) (by omega)
      rw [hr]
      have hm := Nat.mod_lt k (show 0 < 2 by omega)
      have hs := ih (k + 1) (by omega) (by omega)
      rw [← fil_s F 20 a01 k] at hs
      unfold a01 at hs
      by_cases hz : k % 2 = 0
      · rw [if_pos (by rw [hz]; rfl)]
        refine ⟨vp_in_nI (by omega) (by omega), ?_⟩
        rw [nIc (by omega)]
        rw [if_pos hz] at hs
        exact hs
      · rw [if_neg (nI_ne0 (by omega) (by omega))]
        refine ⟨vp_in_nI (by omega) (by omega), ?_⟩
        rw [nIc (by omega)]
        rw [if_neg hz] at hs
        exact hs
theorem x9_init_230 (hB : BM B m ad tg) (h : Q (mS B m tg D (fil (fil (fil F 17 (fun _ => -1) 192) 20 a01 48) 21 (fun _ => -1) 24))) : ∀ (fuel k : Nat), k ≤ 192 → 192 < k + fuel → wp_X9_init_L230 m Q fuel (mS B m tg D (fil F 17 (fun _ => -1) k)) (nI k) := by
  intro fuel
  induction fuel with
  | zero => intro i h1 h2; omega
  | succ u ih =>
    intro k h1 h2
    unfold wp_X9_init_L230
    by_cases hk : k = 192
    · subst hk
      rw [if_pos (by decide)]
      have := x9_init_252 (D := D) hB h 49 0 (by omega) (by omega)
      rw [fil_0] at this
      exact ⟨49, this⟩
    · rw [if_neg (show ¬ (192 : Int32) ≤ nI k from nI_ge (b := 192) (by omega) (by omega)), nI_1]
      simp only [m_ok hB, m_rd2 hB, m_N2 hB, m_R2 hB, m_sR2 hB, m_rd3 hB, m_N3 hB, m_R3 hB, m_sR3 hB, m_rd4 hB, m_N4 hB, m_R4 hB, m_sR4 hB, m_rd6 hB, m_N6 hB, m_R6 hB, m_sR6 hB, m_rd7 hB, m_N7 hB, m_R7 hB, m_sR7 hB, m_rd8 hB, m_N8 hB, m_R8 hB, m_sR8 hB, m_rd9 hB, m_N9 hB, m_R9 hB, m_sR9 hB, m_rd11 hB, m_N11 hB, m_R11 hB, m_sR11 hB, m_rd12 hB, m_N12 hB, m_R12 hB, m_sR12 hB, m_rd13 hB, m_N13 hB, m_R13 hB, m_sR13 hB, m_rd14 hB, m_N14 hB, m_R14 hB, m_sR14 hB, m_rd15 hB, m_N15 hB, m_R15 hB, m_sR15 hB, m_rd16 hB, m_N16 hB, m_R16 hB, m_sR16 hB, m_rd17 hB, m_N17 hB, m_R17 hB, m_sR17 hB, m_rd18 hB, m_N18 hB, m_R18 hB, m_sR18 hB, m_rd20 hB, m_N20 hB, m_R20 hB, m_sR20 hB, m_rd21 hB, m_N21 hB, m_R21 hB, m_sR21 hB, m_rd22 hB, m_N22 hB, m_R22 hB, m_sR22 hB, m_rd23 hB, m_N23 hB, m_R23 hB, m_sR23 hB, m_rd24 hB, m_N24 hB, m_R24 hB, m_sR24 hB, m_rd25 hB, m_N25 hB, m_R25 hB, m_sR25 hB, m_rd27 hB, m_N27 hB, m_R27 hB, m_sR27 hB, m_rd28 hB, m_N28 hB, m_R28 hB, m_sR28 hB, m_rd29 hB, m_N29 hB, m_R29 hB, m_sR29 hB, m_rd30 hB, m_N30 hB, m_R30 hB, m_sR30 hB, m_I0, m_sI0, m_I1, m_sI1, m_I5, m_sI5, m_I10, m_sI10, m_I19, m_sI19, m_I26, m_sI26, m_I31, m_sI31, lt_v, bz0, bz1, true_and]
      refine ⟨vp_in_nI (by omega) (by omega), ?_⟩
      rw [nIc (by omega), fil_s F 17 (fun _ => -1) k]
      exact ih (k + 1) (by omega) (by omega)
theorem x9_init_208 (hB : BM B m ad tg) (h : Q (mS B m tg D (fil (fil (fil (fil F 16 (fun _ => -1) 384) 17 (fun _ => -1) 192) 20 a01 48) 21 (fun _ => -1) 24))) : ∀ (fuel k : Nat), k ≤ 384 → 384 < k + fuel → wp_X9_init_L208 m Q fuel (mS B m tg D (fil F 16 (fun _ => -1) k)) (nI k) := by
  intro fuel
  induction fuel with
  | zero => intro i h1 h2; omega
  | succ u ih =>
    intro k h1 h2
    unfold wp_X9_init_L208
    by_cases hk : k = 384
    · subst hk
      rw [if_pos (by decide)]
      have := x9_init_230 (D := D) hB h 193 0 (by omega) (by omega)
      rw [fil_0] at this
      exact ⟨193, this⟩
    · rw [if_neg (show ¬ (384 : Int32) ≤ nI k from nI_ge (b := 384) (by omega) (by omega)), nI_1]
      simp only [m_ok hB, m_rd2 hB, m_N2 hB, m_R2 hB, m_sR2 hB, m_rd3 hB, m_N3 hB, m_R3 hB, m_sR3 hB, m_rd4 hB, m_N4 hB, m_R4 hB, m_sR4 hB, m_rd6 hB, m_N6 hB, m_R6 hB, m_sR6 hB, m_rd7 hB, m_N7 hB, m_R7 hB, m_sR7 hB, m_rd8 hB, m_N8 hB, m_R8 hB, m_sR8 hB, m_rd9 hB, m_N9 hB, m_R9 hB, m_sR9 hB, m_rd11 hB, m_N11 hB, m_R11 hB, m_sR11 hB, m_rd12 hB, m_N12 hB, m_R12 hB, m_sR12 hB, m_rd13 hB, m_N13 hB, m_R13 hB, m_sR13 hB, m_rd14 hB, m_N14 hB, m_R14 hB, m_sR14 hB, m_rd15 hB, m_N15 hB, m_R15 hB, m_sR15 hB, m_rd16 hB, m_N16 hB, m_R16 hB, m_sR16 hB, m_rd17 hB, m_N17 hB, m_R17 hB, m_sR17 hB, m_rd18 hB, m_N18 hB, m_R18 hB, m_sR18 hB, m_rd20 hB, m_N20 hB, m_R20 hB, m_sR20 hB, m_rd21 hB, m_N21 hB, m_R21 hB, m_sR21 hB, m_rd22 hB, m_N22 hB, m_R22 hB, m_sR22 hB, m_rd23 hB, m_N23 hB, m_R23 hB, m_sR23 hB, m_rd24 hB, m_N24 hB, m_R24 hB, m_sR24 hB, m_rd25 hB, m_N25 hB, m_R25 hB, m_sR25 hB, m_rd27 hB, m_N27 hB, m_R27 hB, m_sR27 hB, m_rd28 hB, m_N28 hB, m_R28 hB, m_sR28 hB, m_rd29 hB, m_N29 hB, m_R29 hB, m_sR29 hB, m_rd30 hB, m_N30 hB, m_R30 hB, m_sR30 hB, m_I0, m_sI0, m_I1, m_sI1, m_I5, m_sI5, m_I10, m_sI10, m_I19, m_sI19, m_I26, m_sI26, m_I31, m_sI31, lt_v, bz0, bz1, true_and]
      refine ⟨vp_in_nI (by omega) (by omega), ?_⟩
      rw [nIc (by omega), fil_s F 16 (fun _ => -1) k]
      exact ih (k + 1) (by omega) (by omega)
/-- the rows of a new movement -/
def F00 : Nat → Nat → Int32 := fil (fil (fil (fil (fun _ _ => 0) 16 (fun _ => -1) 384) 17 (fun _ => -1) 192) 20 a01 48) 21 (fun _ => -1) 24
theorem x9_init {S : Hp} (h1 : okA S 9 m) (h2 : ∀ n, 900 ≤ n → g_I S n m = 0) (h : ∀ B ad tg, BM B m ad tg → Q (mS B m tg (fun _ => 0) F00)) : wp_X9_init S m Q := by
  have h0 : MI S m [] (fun _ => 0) := ⟨h1, h2, fun j hj => (nomatch hj), fun j hj => (nomatch hj)⟩
  unfold wp_X9_init
  refine mi_step (j := 2) h0 rfl rfl rfl (by decide) (fun S ad h0 => ?_)
  refine mi_step (j := 3) h0 rfl rfl rfl (by decide) (fun S ad h0 => ?_)
  refine mi_step (j := 4) h0 rfl rfl rfl (by decide) (fun S ad h0 => ?_)
  refine mi_step (j := 6) h0 rfl rfl rfl (by decide) (fun S ad h0 => ?_)
  refine mi_step (j := 7) h0 rfl rfl rfl (by decide) (fun S ad h0 => ?_)
  refine mi_step (j := 8) h0 rfl rfl rfl (by decide) (fun S ad h0 => ?_)
  refine mi_step (j := 9) h0 rfl rfl rfl (by decide) (fun S ad h0 => ?_)
  refine mi_step (j := 11) h0 rfl rfl rfl (by decide) (fun S ad h0 => ?_)
  refine mi_step (j := 12) h0 rfl rfl rfl (by decide) (fun S ad h0 => ?_)
  refine mi_step (j := 13) h0 rfl rfl rfl (by decide) (fun S ad h0 => ?_)
  refine mi_step (j := 14) h0 rfl rfl rfl (by decide) (fun S ad h0 => ?_)
  refine mi_step (j := 15) h0 rfl rfl rfl (by decide) (fun S ad h0 => ?_)
  refine mi_step (j := 16) h0 rfl rfl rfl (by decide) (fun S ad h0 => ?_)
  refine mi_step (j := 17) h0 rfl rfl rfl (by decide) (fun S ad h0 => ?_)
  refine mi_step (j := 18) h0 rfl rfl rfl (by decide) (fun S ad h0 => ?_)
  refine mi_step (j := 20) h0 rfl rfl rfl (by decide) (fun S ad h0 => ?_)
  refine mi_step (j := 21) h0 rfl rfl rfl (by decide) (fun S ad h0 => ?_)
  refine mi_step (j := 22) h0 rfl rfl rfl (by decide) (fun S ad h0 => ?_)
  refine mi_step (j := 23) h0 rfl rfl rfl (by decide) (fun S ad h0 => ?_)
  refine mi_step (j := 24) h0 rfl rfl rfl (by decide) (fun S ad h0 => ?_)
  refine mi_step (j := 25) h0 rfl rfl rfl (by decide) (fun S ad h0 => ?_)
  refine mi_step (j := 27) h0 rfl rfl rfl (by decide) (fun S ad h0 => ?_)
  refine mi_step (j := 28) h0 rfl rfl rfl (by decide) (fun S ad h0 => ?_)
  refine mi_step (j := 29) h0 rfl rfl rfl (by decide) (fun S ad h0 => ?_)
  refine mi_step (j := 30) h0 rfl rfl rfl (by decide) (fun S ad h0 => ?_)
  obtain ⟨tg, hB, e⟩ := mi_end h0 (fun j => ⟨fun hj => (by revert j; decide), fun hj => (by revert j; decide)⟩)
  have := x9_init_208 (D := fun _ => 0) (F := fun _ _ => 0) hB (h _ _ _ hB) 385 0 (by omega) (by omega)
  rw [fil_0, ← e] at this
  exact ⟨385, this⟩
end MINIT
