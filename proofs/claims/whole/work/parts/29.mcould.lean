/-! THE REFERENCE: couldStaff -/
section MCOULD
variable {B : Hp} {m : Nat} {ad tg : Nat → Nat} {D : Nat → Int32} {F : Nat → Nat → Int32} {Q : Int32 → Hp → Prop} {S : Hp}
/-- the same but for rows 29, 30 -/
def sm2 (F G : Nat → Nat → Int32) : Prop := ∀ j, j ≠ 29 → j ≠ 30 → G j = F j
theorem sm2_g (F G : Nat → Nat → Int32) {i : Nat} {v : Int32} (h : sm2 F G) : sm2 F (g_2 G 30 i v) := fun j h1 h2 => by
  rw [← h j h1 h2]
  funext a
  exact g_2n _ _ (fun q => h2 q.1)
theorem sm2_g2 (F G : Nat → Nat → Int32) {i : Nat} {v : Int32} (h : sm2 F G) : sm2 F (g_2 G 29 i v) := fun j h1 h2 => by
  rw [← h j h1 h2]
  funext a
  exact g_2n _ _ (fun q => h1 q.1)
theorem rsn_sm {F G : Nat → Nat → Int32} (h : sm2 F G) (n nl e s : Nat) : rsn G n nl e s = rsn F n nl e s := by
  have h7 : G 7 = F 7 := h 7 (by decide) (by decide)
  have h20 : G 20 = F 20 := h 20 (by decide) (by decide)
  have h21 : G 21 = F 21 := h 21 (by decide) (by decide)
  have h27 : G 27 = F 27 := h 27 (by decide) (by decide)
  have u : unB G e s = unB F e s := by
    funext l
    unfold unB veB evN
    rw [h27, h20]
  have p : peB G e s = peB F e s := by
    funext l
    unfold peB evN
    rw [h27, h21]
  unfold rsn rsT inT evN
  rw [u, p, h7, h27]
theorem EvV_sm {F G : Nat → Nat → Int32} (h : sm2 F G) {e : Nat} (hV : EvV F e) : EvV G e := by
  have h27 : G 27 = F 27 := h 27 (by decide) (by decide)
  unfold EvV
  rw [h27]
  exact hV
/-- the leaders of s from l on are given to teams, by the digits of T -/
def gvS (mm s : Nat) : Nat → Nat → Nat → (Nat → Nat) → Nat → Nat
  | 0, _, _, tab => tab
  | f + 1, l, T, tab => if s.testBit l then gvS mm s f (l + 1) (T / (mm + 1)) (fun k => if k = T % (mm + 1) then tab k ||| 2 ^ l else tab k) else gvS mm s f (l + 1) T tab
/-- whether all teams do -/
def alB (p : Nat → Bool) : Nat → Bool
  | 0 => true
  | k + 1 => alB p k && p k
theorem alB_true (p : Nat → Bool) : ∀ n, alB p n = true ↔ ∀ k, k < n → p k = true
  | 0 => by simp [alB]
  | n + 1 => by
    simp only [alB, Bool.and_eq_true, alB_true p n]
    constructor
    · rintro ⟨h1, h2⟩ k hk
      by_cases e : k = n
      · subst e; exact h2
      · exact h1 k (by omega)
    · intro h
      exact ⟨fun k hk => h k (by omega), h n (by omega)⟩
theorem x9_law_L86 (hB : BM B m ad tg) {n nl mm t s r : Nat} {go gv : Nat → Nat} {G : Nat → Nat → Int32} {w : Int32} (hn : D 5 = nI n) (h24 : n ≤ 24) (hnl : D 19 = nI nl) (h8 : nl ≤ 8) (hm : mm ≤ 3) (hS : sm2 F G) (hg : ∀ k, k < mm → G 29 k = nI (go k) ∧ go k < 20 ∧ EvV F (go k)) (hv : ∀ k, k < mm → G 30 k = nI (gv k) ∧ gv k < 2 ^ 31) (h : Q (bI (alB (fun k => decide (rsn F n nl (go k) (gv k) = 0)) mm)) (mS B m tg D G)) : ∀ (fuel k : Nat), k ≤ mm → mm < k + fuel → wp_X9_areLawful_L86 m (nI t) (nI mm) (nI s) w Q fuel (mS B m tg D G) (bI (alB (fun k => decide (rsn F n nl (go k) (gv k) = 0)) k)) (nI k) := by
  have hz : ∀ k, k ≤ mm → alB (fun k => decide (rsn F n nl (go k) (gv k) = 0)) k = false → alB (fun k => decide (rsn F n nl (go k) (gv k) = 0)) mm = false := by
    intro k hk hf
    cases hq : alB (fun k => decide (rsn F n nl (go k) (gv k) = 0)) mm with
    | false => rfl
    | true =>
      have h1 := (alB_true _ _).mp hq
      have h2 : alB (fun k => decide (rsn F n nl (go k) (gv k) = 0)) k = true := (alB_true _ _).mpr (fun i hi => h1 i (by omega))
      rw [hf] at h2
      exact absurd h2 (by decide)
  have hbz : ∀ (b : Bool) (P : Prop), P → bz (bI b) P := fun b P hp => by
    cases b
    · exact bz0i hp
    · exact bz1i hp
  intro fuel
  induction fuel with
  | zero => intro i h1 h2; omega
  | succ u ih =>
    intro k h1 h2
    unfold wp_X9_areLawful_L86
    by_cases hk : mm ≤ k
    · have ek : k = mm := by omega
      subst ek
      rw [if_pos (nI_le (Nat.le_refl _) (by omega))]
      exact hbz _ _ h
    · rw [if_neg (nI_ge (by omega) (by omega))]
      have hs := ih (k + 1) (by omega) (by omega)
      rw [alB] at hs
      cases hq : alB (fun k => decide (rsn F n nl (go k) (gv k) = 0)) k with
      | false =>
        rw [if_pos (show bI false = 0 from rfl)]
        rw [hz k h1 hq] at h
        exact bz0i h
      | true =>
        rw [hq, Bool.true_and] at hs
        rw [if_neg (show ¬ bI true = 0 by decide)]
        simp only [m_ok hB, m_rd2 hB, m_N2 hB, m_R2 hB, m_sR2 hB, m_rd3 hB, m_N3 hB, m_R3 hB, m_sR3 hB, m_rd4 hB, m_N4 hB, m_R4 hB, m_sR4 hB, m_rd6 hB, m_N6 hB, m_R6 hB, m_sR6 hB, m_rd7 hB, m_N7 hB, m_R7 hB, m_sR7 hB, m_rd8 hB, m_N8 hB, m_R8 hB, m_sR8 hB, m_rd9 hB, m_N9 hB, m_R9 hB, m_sR9 hB, m_rd11 hB, m_N11 hB, m_R11 hB, m_sR11 hB, m_rd12 hB, m_N12 hB, m_R12 hB, m_sR12 hB, m_rd13 hB, m_N13 hB, m_R13 hB, m_sR13 hB, m_rd14 hB, m_N14 hB, m_R14 hB, m_sR14 hB, m_rd15 hB, m_N15 hB, m_R15 hB, m_sR15 hB, m_rd16 hB, m_N16 hB, m_R16 hB, m_sR16 hB, m_rd17 hB, m_N17 hB, m_R17 hB, m_sR17 hB, m_rd18 hB, m_N18 hB, m_R18 hB, m_sR18 hB, m_rd20 hB, m_N20 hB, m_R20 hB, m_sR20 hB, m_rd21 hB, m_N21 hB, m_R21 hB, m_sR21 hB, m_rd22 hB, m_N22 hB, m_R22 hB, m_sR22 hB, m_rd23 hB, m_N23 hB, m_R23 hB, m_sR23 hB, m_rd24 hB, m_N24 hB, m_R24 hB, m_sR24 hB, m_rd25 hB, m_N25 hB, m_R25 hB, m_sR25 hB, m_rd27 hB, m_N27 hB, m_R27 hB, m_sR27 hB, m_rd28 hB, m_N28 hB, m_R28 hB, m_sR28 hB, m_rd29 hB, m_N29 hB, m_R29 hB, m_sR29 hB, m_rd30 hB, m_N30 hB, m_R30 hB, m_sR30 hB, m_I0, m_sI0, m_I1, m_sI1, m_I5, m_sI5, m_I10, m_sI10, m_I19, m_sI19, m_I26, m_sI26, m_I31, m_sI31, lt_v, bz0, bz1, true_and]
        refine ⟨vp_in_nI (by omega) (by omega), vp_in_nI (by omega) (by omega), ?_⟩
        obtain ⟨g1, g2, g3⟩ := hg k (by omega)
        obtain ⟨v1, v2⟩ := hv k (by omega)
        rw [nIc (show k < 2 ^ 31 by omega), g1, v1, nI_1]
        refine x9_reason hB hn h24 hnl h8 g2 (EvV_sm hS g3) v2 ?_
        rw [rsn_sm hS]
        by_cases q : rsn F n nl (go k) (gv k) = 0
        · rw [if_pos q]
          rw [show decide (rsn F n nl (go k) (gv k) = 0) = true by simp [q]] at hs
          exact hs
        · rw [if_neg q]
          rw [show decide (rsn F n nl (go k) (gv k) = 0) = false by simp [q]] at hs
          exact hs
def lawB (F : Nat → Nat → Int32) (n nl mm s : Nat) (go : Nat → Nat) (T : Nat) : Bool := alB (fun k => decide (rsn F n nl (go k) (gvS mm s nl 0 T (fun _ => 0) k) = 0)) mm
theorem gvS_lt (mm s : Nat) : ∀ (f l T : Nat) (tab : Nat → Nat), l + f ≤ 31 → (∀ k, tab k < 2 ^ 31) → ∀ k, gvS mm s f l T tab k < 2 ^ 31
  | 0, _, _, _, _, h, k => h k
  | f + 1, l, T, tab, hl, h, k => by
    unfold gvS
    split
    · refine gvS_lt mm s f (l + 1) _ _ (by omega) (fun j => ?_) k
      show (if _ then _ else _) < _
      split
      · exact Nat.or_lt_two_pow (h j) (Nat.pow_lt_pow_right (by decide) (by omega))
      · exact h j
    · exact gvS_lt mm s f (l + 1) _ _ (by omega) h k
theorem x9_law_L29 (hB : BM B m ad tg) {n nl mm t s : Nat} {go : Nat → Nat} (hn : D 5 = nI n) (h24 : n ≤ 24) (hnl : D 19 = nI nl) (h8 : nl ≤ 8) (hm : mm ≤ 3) (hs31 : s < 2 ^ 31) (hV : ∀ k, k < mm → go k < 20 ∧ EvV F (go k)) : ∀ (f l T : Nat) (G : Nat → Nat → Int32) (tab : Nat → Nat), l + f = nl → T < 2 ^ 31 → sm2 F G → (∀ k, k < mm → G 29 k = nI (go k)) → (∀ k, k < 4 → G 30 k = nI (tab k)) → (∀ k, tab k < 2 ^ 31) → (∀ G', sm2 F G' → (∀ k, k < mm → G' 29 k = nI (go k)) → Q (bI (alB (fun k => decide (rsn F n nl (go k) (gvS mm s f l T tab k) = 0)) mm)) (mS B m tg D G')) → wp_X9_areLawful_L29 m (nI t) (nI mm) (nI s) Q (f + 1) (mS B m tg D G) (nI T) (nI l) := by
  intro f
  induction f with
  | zero =>
    intro l T G tab hl hT hS hg ht htab h
    unfold wp_X9_areLawful_L29
    simp only [m_ok hB, m_rd2 hB, m_N2 hB, m_R2 hB, m_sR2 hB, m_rd3 hB, m_N3 hB, m_R3 hB, m_sR3 hB, m_rd4 hB, m_N4 hB, m_R4 hB, m_sR4 hB, m_rd6 hB, m_N6 hB, m_R6 hB, m_sR6 hB, m_rd7 hB, m_N7 hB, m_R7 hB, m_sR7 hB, m_rd8 hB, m_N8 hB, m_R8 hB, m_sR8 hB, m_rd9 hB, m_N9 hB, m_R9 hB, m_sR9 hB, m_rd11 hB, m_N11 hB, m_R11 hB, m_sR11 hB, m_rd12 hB, m_N12 hB, m_R12 hB, m_sR12 hB, m_rd13 hB, m_N13 hB, m_R13 hB, m_sR13 hB, m_rd14 hB, m_N14 hB, m_R14 hB, m_sR14 hB, m_rd15 hB, m_N15 hB, m_R15 hB, m_sR15 hB, m_rd16 hB, m_N16 hB, m_R16 hB, m_sR16 hB, m_rd17 hB, m_N17 hB, m_R17 hB, m_sR17 hB, m_rd18 hB, m_N18 hB, m_R18 hB, m_sR18 hB, m_rd20 hB, m_N20 hB, m_R20 hB, m_sR20 hB, m_rd21 hB, m_N21 hB, m_R21 hB, m_sR21 hB, m_rd22 hB, m_N22 hB, m_R22 hB, m_sR22 hB, m_rd23 hB, m_N23 hB, m_R23 hB, m_sR23 hB, m_rd24 hB, m_N24 hB, m_R24 hB, m_sR24 hB, m_rd25 hB, m_N25 hB, m_R25 hB, m_sR25 hB, m_rd27 hB, m_N27 hB, m_R27 hB, m_sR27 hB, m_rd28 hB, m_N28 hB, m_R28 hB, m_sR28 hB, m_rd29 hB, m_N29 hB, m_R29 hB, m_sR29 hB, m_rd30 hB, m_N30 hB, m_R30 hB, m_sR30 hB, m_I0, m_sI0, m_I1, m_sI1, m_I5, m_sI5, m_I10, m_sI10, m_I19, m_sI19, m_I26, m_sI26, m_I31, m_sI31, lt_v, bz0, bz1, true_and]
    rw [hnl, if_pos (nI_le (by omega) (by omega))]
    refine ⟨mm + 1, x9_law_L86 hB hn h24 hnl h8 hm hS (go := go) (gv := tab) (r := 0) (fun k hk => ⟨hg k hk, hV k hk⟩) (fun k hk => ⟨ht k (by omega), htab k⟩) (h G hS hg) (mm + 1) 0 (by omega) (by omega)⟩
  | succ f ih =>
    intro l T G tab hl hT hS hg ht htab h
    unfold wp_X9_areLawful_L29
    simp only [m_ok hB, m_rd2 hB, m_N2 hB, m_R2 hB, m_sR2 hB, m_rd3 hB, m_N3 hB, m_R3 hB, m_sR3 hB, m_rd4 hB, m_N4 hB, m_R4 hB, m_sR4 hB, m_rd6 hB, m_N6 hB, m_R6 hB, m_sR6 hB, m_rd7 hB, m_N7 hB, m_R7 hB, m_sR7 hB, m_rd8 hB, m_N8 hB, m_R8 hB, m_sR8 hB, m_rd9 hB, m_N9 hB, m_R9 hB, m_sR9 hB, m_rd11 hB, m_N11 hB, m_R11 hB, m_sR11 hB, m_rd12 hB, m_N12 hB, m_R12 hB, m_sR12 hB, m_rd13 hB, m_N13 hB, m_R13 hB, m_sR13 hB, m_rd14 hB, m_N14 hB, m_R14 hB, m_sR14 hB, m_rd15 hB, m_N15 hB, m_R15 hB, m_sR15 hB, m_rd16 hB, m_N16 hB, m_R16 hB, m_sR16 hB, m_rd17 hB, m_N17 hB, m_R17 hB, m_sR17 hB, m_rd18 hB, m_N18 hB, m_R18 hB, m_sR18 hB, m_rd20 hB, m_N20 hB, m_R20 hB, m_sR20 hB, m_rd21 hB, m_N21 hB, m_R21 hB, m_sR21 hB, m_rd22 hB, m_N22 hB, m_R22 hB, m_sR22 hB, m_rd23 hB, m_N23 hB, m_R23 hB, m_sR23 hB, m_rd24 hB, m_N24 hB, m_R24 hB, m_sR24 hB, m_rd25 hB, m_N25 hB, m_R25 hB, m_sR25 hB, m_rd27 hB, m_N27 hB, m_R27 hB, m_sR27 hB, m_rd28 hB, m_N28 hB, m_R28 hB, m_sR28 hB, m_rd29 hB, m_N29 hB, m_R29 hB, m_sR29 hB, m_rd30 hB, m_N30 hB, m_R30 hB, m_sR30 hB, m_I0, m_sI0, m_I1, m_sI1, m_I5, m_sI5, m_I10, m_sI10, m_I19, m_sI19, m_I26, m_sI26, m_I31, m_sI31, lt_v, bz0, bz1, true_and]
    rw [hnl, if_neg (nI_ge (by omega) (by omega))]
    unfold gvS at h
    rw [show nI l + 1 = nI (l + 1) from nI_add l 1]
    cases hb : s.testBit l with
    | false =>
      rw [if_neg (fun q => by rw [bit_iff hs31 (by omega), hb] at q; exact absurd q (by decide))]
      simp only [hb] at h
      exact ih (l + 1) T G tab (by omega) hT hS hg ht htab h
    | true =>
      rw [if_pos ((bit_iff hs31 (by omega)).mpr hb)]
      simp only [hb, if_true] at h
      rw [show nI mm + 1 = nI (mm + 1) from nI_add mm 1, pk_rem hT (by omega) (by omega), pk_div hT (by omega) (by omega), sh1 l (by omega)]
      have hmod := Nat.mod_lt T (show 0 < mm + 1 by omega)
      have hd : T / (mm + 1) ≤ T := Nat.div_le_self _ _
      refine ⟨nI_ne0 (by omega) (by omega), vp_in_nI (by omega) (by omega), vp_in_nI (by omega) (by omega), nI_ne0 (by omega) (by omega), ?_⟩
      rw [nIc (show T % (mm + 1) < 2 ^ 31 by omega), ht _ (show T % (mm + 1) < 4 by omega), fa_or]
      refine ih (l + 1) (T / (mm + 1)) _ (fun k => if k = T % (mm + 1) then tab k ||| 2 ^ l else tab k) (by omega) (by omega) (sm2_g F G hS) (fun k hk => ?_) (fun k hk => ?_) (fun k => ?_) h
      · rw [← hg k hk]
        exact g_2n _ _ (fun q => absurd q.1 (by decide))
      · by_cases e : k = T % (mm + 1)
        · subst e
          rw [g_2s]
          simp
        · rw [if_neg e, ← ht k hk]
          exact g_2n _ _ (fun q => e q.2)
      · show (if _ then _ else _) < _
        split
        · exact Nat.or_lt_two_pow (htab k) (Nat.pow_lt_pow_right (by decide) (by omega))
        · exact htab k
theorem x9_law_L3 (hB : BM B m ad tg) {n nl mm s T : Nat} {go : Nat → Nat} (hn : D 5 = nI n) (h24 : n ≤ 24) (hnl : D 19 = nI nl) (h8 : nl ≤ 8) (hm : mm ≤ 3) (hs31 : s < 2 ^ 31) (hT : T < 2 ^ 31) (hV : ∀ k, k < mm → go k < 20 ∧ EvV F (go k)) (h : ∀ G', sm2 F G' → (∀ k, k < mm → G' 29 k = nI (go k)) → Q (bI (lawB F n nl mm s go T)) (mS B m tg D G')) : ∀ (fuel i : Nat) (G : Nat → Nat → Int32), i ≤ 4 → 4 < i + fuel → sm2 F G → (∀ k, k < mm → G 29 k = nI (go k)) → (∀ k, k < i → G 30 k = 0) → wp_X9_areLawful_L3 m (nI T) (nI mm) (nI s) Q fuel (mS B m tg D G) (nI i) := by
  intro fuel
  induction fuel with
  | zero => intro i G h1 h2; omega
  | succ u ih =>
    intro i G h1 h2 hS hg h30
    unfold wp_X9_areLawful_L3
    by_cases hi : i = 4
    · subst hi
      rw [if_pos (by decide)]
      exact ⟨nl + 1, x9_law_L29 hB hn h24 hnl h8 hm hs31 hV nl 0 T G (fun _ => 0) (by omega) hT hS hg (fun k hk => h30 k hk) (fun k => by decide) h⟩
    · rw [if_neg (show ¬ (4 : Int32) ≤ nI i from nI_ge (b := 4) (by omega) (by omega)), nI_1]
      simp only [m_ok hB, m_rd2 hB, m_N2 hB, m_R2 hB, m_sR2 hB, m_rd3 hB, m_N3 hB, m_R3 hB, m_sR3 hB, m_rd4 hB, m_N4 hB, m_R4 hB, m_sR4 hB, m_rd6 hB, m_N6 hB, m_R6 hB, m_sR6 hB, m_rd7 hB, m_N7 hB, m_R7 hB, m_sR7 hB, m_rd8 hB, m_N8 hB, m_R8 hB, m_sR8 hB, m_rd9 hB, m_N9 hB, m_R9 hB, m_sR9 hB, m_rd11 hB, m_N11 hB, m_R11 hB, m_sR11 hB, m_rd12 hB, m_N12 hB, m_R12 hB, m_sR12 hB, m_rd13 hB, m_N13 hB, m_R13 hB, m_sR13 hB, m_rd14 hB, m_N14 hB, m_R14 hB, m_sR14 hB, m_rd15 hB, m_N15 hB, m_R15 hB, m_sR15 hB, m_rd16 hB, m_N16 hB, m_R16 hB, m_sR16 hB, m_rd17 hB, m_N17 hB, m_R17 hB, m_sR17 hB, m_rd18 hB, m_N18 hB, m_R18 hB, m_sR18 hB, m_rd20 hB, m_N20 hB, m_R20 hB, m_sR20 hB, m_rd21 hB, m_N21 hB, m_R21 hB, m_sR21 hB, m_rd22 hB, m_N22 hB, m_R22 hB, m_sR22 hB, m_rd23 hB, m_N23 hB, m_R23 hB, m_sR23 hB, m_rd24 hB, m_N24 hB, m_R24 hB, m_sR24 hB, m_rd25 hB, m_N25 hB, m_R25 hB, m_sR25 hB, m_rd27 hB, m_N27 hB, m_R27 hB, m_sR27 hB, m_rd28 hB, m_N28 hB, m_R28 hB, m_sR28 hB, m_rd29 hB, m_N29 hB, m_R29 hB, m_sR29 hB, m_rd30 hB, m_N30 hB, m_R30 hB, m_sR30 hB, m_I0, m_sI0, m_I1, m_sI1, m_I5, m_sI5, m_I10, m_sI10, m_I19, m_sI19, m_I26, m_sI26, m_I31, m_sI31, lt_v, bz0, bz1, true_and]
      refine ⟨vp_in_nI (by omega) (by omega), ?_⟩
      rw [nIc (by omega)]
      refine ih (i + 1) _ (by omega) (by omega) (sm2_g F G hS) (fun k hk => ?_) (fun k hk => ?_)
      · rw [← hg k hk]
        exact g_2n _ _ (fun q => absurd q.1 (by decide))
      · by_cases e : k = i
        · subst e
          exact g_2s _ _ _ _
        · rw [← h30 k (by omega)]
          exact g_2n _ _ (fun q => e q.2)
theorem x9_areLawful (hB : BM B m ad tg) {n nl mm s T : Nat} {go : Nat → Nat} {G : Nat → Nat → Int32} (hn : D 5 = nI n) (h24 : n ≤ 24) (hnl : D 19 = nI nl) (h8 : nl ≤ 8) (hm : mm ≤ 3) (hs31 : s < 2 ^ 31) (hT : T < 2 ^ 31) (hV : ∀ k, k < mm → go k < 20 ∧ EvV F (go k)) (hS : sm2 F G) (hg : ∀ k, k < mm → G 29 k = nI (go k)) (h : ∀ G', sm2 F G' → (∀ k, k < mm → G' 29 k = nI (go k)) → Q (bI (lawB F n nl mm s go T)) (mS B m tg D G')) : wp_X9_areLawful (mS B m tg D G) m (nI T) (nI mm) (nI s) Q := by
  unfold wp_X9_areLawful
  exact ⟨5, x9_law_L3 hB hn h24 hnl h8 hm hs31 hT hV h 5 0 G (by omega) (by omega) hS hg (fun k hk => by omega)⟩
theorem x9_could_L263 (hB : BM B m ad tg) {n nl mm s all : Nat} {a b : Int32} {go : Nat → Nat} (hn : D 5 = nI n) (h24 : n ≤ 24) (hnl : D 19 = nI nl) (h8 : nl ≤ 8) (hm : mm ≤ 3) (hs31 : s < 2 ^ 31) (hall : all < 2 ^ 31) (hV : ∀ k, k < mm → go k < 20 ∧ EvV F (go k)) (h : ∀ G', sm2 F G' → Q (bI (decide (mm = 0) || anB (lawB F n nl mm s go) all)) (mS B m tg D G')) : ∀ (fuel T : Nat) (G : Nat → Nat → Int32), T ≤ all → all < T + fuel → sm2 F G → (∀ k, k < mm → G 29 k = nI (go k)) → wp_X9_couldStaff_L263 m a b (nI s) (nI mm) (nI all) Q fuel (mS B m tg D G) (bI (decide (mm = 0) || anB (lawB F n nl mm s go) T)) (nI T) := by
  intro fuel
  induction fuel with
  | zero => intro i G h1 h2; omega
  | succ u ih =>
    intro T G h1 h2 hS hg
    unfold wp_X9_couldStaff_L263
    by_cases hk : all ≤ T
    · have ek : T = all := by omega
      subst ek
      rw [if_pos (nI_le (Nat.le_refl _) (by omega))]
      have := h G hS
      cases hq : (decide (mm = 0) || anB (lawB F n nl mm s go) T) with
      | false => rw [hq] at this; exact bz0i this
      | true => rw [hq] at this; exact bz1i this
    · rw [if_neg (nI_ge (by omega) (by omega))]
      cases hq : (decide (mm = 0) || anB (lawB F n nl mm s go) T) with
      | true =>
        rw [if_neg (show ¬ bI true = 0 by decide)]
        have e : (decide (mm = 0) || anB (lawB F n nl mm s go) all) = true := by
          rcases Bool.or_eq_true _ _ |>.mp hq with q | q
          · rw [q]; rfl
          · obtain ⟨k, k1, k2⟩ := (anB_true _ _).mp q
            rw [(anB_true _ _).mpr ⟨k, by omega, k2⟩, Bool.or_true]
        have := h G hS
        rw [e] at this
        exact bz1i this
      | false =>
        rw [if_pos (show bI false = 0 from rfl)]
        refine ⟨m_ok hB, x9_areLawful hB hn h24 hnl h8 hm hs31 (by omega) hV hS hg (fun G' hS' hg' => ?_)⟩
        have hs := ih (T + 1) G' (by omega) (by omega) hS' hg'
        rw [anB, ← Bool.or_assoc, hq, Bool.false_or] at hs
        rw [nI_1]
        exact hs
theorem x9_could_L210 (hB : BM B m ad tg) {n nl mm s : Nat} {a b : Int32} {go : Nat → Nat} {G : Nat → Nat → Int32} (hn : D 5 = nI n) (h24 : n ≤ 24) (hnl : D 19 = nI nl) (h8 : nl ≤ 8) (hm : mm ≤ 3) (hs31 : s < 2 ^ 31) (hV : ∀ k, k < mm → go k < 20 ∧ EvV F (go k)) (hS : sm2 F G) (hg : ∀ k, k < mm → G 29 k = nI (go k)) (h : ∀ G', sm2 F G' → Q (bI (decide (mm = 0) || anB (lawB F n nl mm s go) ((mm + 1) ^ pop s nl))) (mS B m tg D G')) : ∀ (fuel l : Nat), l ≤ nl → nl < l + fuel → wp_X9_couldStaff_L210 m a b (nI s) (nI mm) Q fuel (mS B m tg D G) (nI ((mm + 1) ^ pop s l)) (nI l) := by
  have hpw : ∀ l, l ≤ 8 → (mm + 1) ^ pop s l ≤ 65536 := fun l hl => by
    have h1 : (mm + 1) ^ pop s l ≤ 4 ^ pop s l := Nat.pow_le_pow_left (by omega) _
    have h2 : 4 ^ pop s l ≤ 4 ^ 8 := Nat.pow_le_pow_right (by decide) (Nat.le_trans (pop_le s l) hl)
    have h3 : (4 : Nat) ^ 8 = 65536 := by decide
    omega
  intro fuel
  induction fuel with
  | zero => intro i h1 h2; omega
  | succ u ih =>
    intro l h1 h2
    have hb8 := hpw l (by omega)
    unfold wp_X9_couldStaff_L210
    refine ⟨m_ok hB, ?_⟩
    rw [m_I19, hnl]
    by_cases hk : nl ≤ l
    · have ek : l = nl := by omega
      subst ek
      rw [if_pos (nI_le (Nat.le_refl _) (by omega))]
      have hL := x9_could_L263 (a := a) (b := b) hB hn h24 hnl h8 hm hs31 (show (mm + 1) ^ pop s l < 2 ^ 31 by omega) hV h ((mm + 1) ^ pop s l + 1) 0 G (by omega) (by omega) hS hg
      by_cases q : mm = 0
      · rw [if_pos (by rw [q]; rfl)]
        rw [show (decide (mm = 0) || anB (lawB F n l mm s go) 0) = true by simp [q]] at hL
        exact ⟨_, hL⟩
      · rw [if_neg (nI_ne0 (by omega) (by omega))]
        rw [show (decide (mm = 0) || anB (lawB F n l mm s go) 0) = false by simp [q, anB]] at hL
        exact ⟨_, hL⟩
    · rw [if_neg (nI_ge (by omega) (by omega)), show nI l + 1 = nI (l + 1) from nI_add l 1]
      have hs := ih (l + 1) (by omega) (by omega)
      rw [pop_succ] at hs
      cases hb : s.testBit l with
      | true =>
        rw [if_pos ((bit_iff hs31 (by omega)).mpr hb)]
        rw [show bN s l = 1 by simp [bN, hb], Nat.pow_succ] at hs
        show wp_X9_couldStaff_L210 _ _ _ _ _ _ _ _ _ _
        rw [show nI mm + 1 = nI (mm + 1) from nI_add mm 1, nI_mul]
        exact hs
      | false =>
        rw [if_neg (fun q => by rw [bit_iff hs31 (by omega), hb] at q; exact absurd q (by decide))]
        rw [show bN s l = 0 by simp [bN, hb], Nat.add_zero] at hs
        show wp_X9_couldStaff_L210 _ _ _ _ _ _ _ _ _ _
        rw [show (1 : Int32) = nI 1 from rfl, nI_mul, Nat.mul_one]
        exact hs
/-- event e goes on in an hour -/
def goB (F : Nat → Nat → Int32) (a h : Int32) (e : Nat) : Bool := decide (F 27 (6 * e + 3) = a) && (!decide (h < F 27 (6 * e + 4)) && !decide (F 27 (6 * e + 4) + F 27 (6 * e + 5) - 1 < h))
def goL (p : Nat → Bool) : Nat → List Nat
  | 0 => []
  | e + 1 => if p e then goL p e ++ [e] else goL p e
theorem goL_len (p : Nat → Bool) : ∀ e, (goL p e).length ≤ e
  | 0 => Nat.le_refl _
  | e + 1 => by
    have := goL_len p e
    unfold goL
    split
    · rw [List.length_append, List.length_singleton]; omega
    · omega
theorem goL_mem (p : Nat → Bool) : ∀ e x, x ∈ goL p e → x < e ∧ p x = true
  | 0, x, h => by simp [goL] at h
  | e + 1, x, h => by
    unfold goL at h
    split at h
    · rcases List.mem_append.mp h with q | q
      · have := goL_mem p e x q
        exact ⟨by omega, this.2⟩
      · rw [List.mem_singleton] at q
        subst q
        exact ⟨by omega, by assumption⟩
    · have := goL_mem p e x h
      exact ⟨by omega, this.2⟩
theorem g2_self (G : Nat → Nat → Int32) (j i : Nat) : g_2 G j i (G j i) = G := by
  funext a b
  by_cases h : a = j ∧ b = i
  · obtain ⟨rfl, rfl⟩ := h
    exact g_2s _ _ _ _
  · exact g_2n _ _ h
theorem x9_going_keep (hB : BM B m ad tg) {c : Nat} {K : Hp → Int32 → Prop} (hc : c ≤ 20) (h : K (mS B m tg D F) (nI c)) :
    (if (4 : Int32) ≤ nI c then (if (4 : Int32) ≤ nI c then (rd (mS B m tg D F) 11 (g_P (mS B m tg D F) 929 m) (fun a77 => vp_in (3 : Int32) (g_N (mS B m tg D F) a77) ∧ (rd (mS B m tg D F) 11 (g_P (mS B m tg D F) 929 m) (fun a81 => vp_in (3 : Int32) (g_N (mS B m tg D F) a81) ∧ (lt (s_R (mS B m tg D F) a81 (3 : Int32).toNatClampNeg (g_R (mS B m tg D F) a77 (3 : Int32).toNatClampNeg)) (fun S85 => lt (nI c + (0 : Int32)) (fun y86 => K S85 y86))))))) else (rd (mS B m tg D F) 11 (g_P (mS B m tg D F) 929 m) (fun a87 => vp_in (nI c) (g_N (mS B m tg D F) a87) ∧ (rd (mS B m tg D F) 11 (g_P (mS B m tg D F) 929 m) (fun a91 => vp_in (3 : Int32) (g_N (mS B m tg D F) a91) ∧ (lt (s_R (mS B m tg D F) a91 (3 : Int32).toNatClampNeg (g_R (mS B m tg D F) a87 (nI c).toNatClampNeg)) (fun S95 => lt (nI c + (0 : Int32)) (fun y96 => K S95 y96)))))))) else (if (4 : Int32) ≤ nI c then (rd (mS B m tg D F) 11 (g_P (mS B m tg D F) 929 m) (fun a97 => vp_in (3 : Int32) (g_N (mS B m tg D F) a97) ∧ (rd (mS B m tg D F) 11 (g_P (mS B m tg D F) 929 m) (fun a101 => vp_in (nI c) (g_N (mS B m tg D F) a101) ∧ (lt (s_R (mS B m tg D F) a101 (nI c).toNatClampNeg (g_R (mS B m tg D F) a97 (3 : Int32).toNatClampNeg)) (fun S105 => lt (nI c + (0 : Int32)) (fun y106 => K S105 y106))))))) else (rd (mS B m tg D F) 11 (g_P (mS B m tg D F) 929 m) (fun a107 => vp_in (nI c) (g_N (mS B m tg D F) a107) ∧ (rd (mS B m tg D F) 11 (g_P (mS B m tg D F) 929 m) (fun a111 => vp_in (nI c) (g_N (mS B m tg D F) a111) ∧ (lt (s_R (mS B m tg D F) a111 (nI c).toNatClampNeg (g_R (mS B m tg D F) a107 (nI c).toNatClampNeg)) (fun S115 => lt (nI c + (0 : Int32)) (fun y116 => K S115 y116))))))))) := by
  have h3 : vp_in (3 : Int32) 4 := vp_in_nI (n := 3) (by omega) (by omega)
  by_cases q : 4 ≤ c
  · rw [if_pos (show (4 : Int32) ≤ nI c from nI_le (a := 4) q (by omega)), if_pos (show (4 : Int32) ≤ nI c from nI_le (a := 4) q (by omega))]
    simp only [m_ok hB, m_rd2 hB, m_N2 hB, m_R2 hB, m_sR2 hB, m_rd3 hB, m_N3 hB, m_R3 hB, m_sR3 hB, m_rd4 hB, m_N4 hB, m_R4 hB, m_sR4 hB, m_rd6 hB, m_N6 hB, m_R6 hB, m_sR6 hB, m_rd7 hB, m_N7 hB, m_R7 hB, m_sR7 hB, m_rd8 hB, m_N8 hB, m_R8 hB, m_sR8 hB, m_rd9 hB, m_N9 hB, m_R9 hB, m_sR9 hB, m_rd11 hB, m_N11 hB, m_R11 hB, m_sR11 hB, m_rd12 hB, m_N12 hB, m_R12 hB, m_sR12 hB, m_rd13 hB, m_N13 hB, m_R13 hB, m_sR13 hB, m_rd14 hB, m_N14 hB, m_R14 hB, m_sR14 hB, m_rd15 hB, m_N15 hB, m_R15 hB, m_sR15 hB, m_rd16 hB, m_N16 hB, m_R16 hB, m_sR16 hB, m_rd17 hB, m_N17 hB, m_R17 hB, m_sR17 hB, m_rd18 hB, m_N18 hB, m_R18 hB, m_sR18 hB, m_rd20 hB, m_N20 hB, m_R20 hB, m_sR20 hB, m_rd21 hB, m_N21 hB, m_R21 hB, m_sR21 hB, m_rd22 hB, m_N22 hB, m_R22 hB, m_sR22 hB, m_rd23 hB, m_N23 hB, m_R23 hB, m_sR23 hB, m_rd24 hB, m_N24 hB, m_R24 hB, m_sR24 hB, m_rd25 hB, m_N25 hB, m_R25 hB, m_sR25 hB, m_rd27 hB, m_N27 hB, m_R27 hB, m_sR27 hB, m_rd28 hB, m_N28 hB, m_R28 hB, m_sR28 hB, m_rd29 hB, m_N29 hB, m_R29 hB, m_sR29 hB, m_rd30 hB, m_N30 hB, m_R30 hB, m_sR30 hB, m_I0, m_sI0, m_I1, m_sI1, m_I5, m_sI5, m_I10, m_sI10, m_I19, m_sI19, m_I26, m_sI26, m_I31, m_sI31, lt_v, bz0, bz1, true_and]
    refine ⟨h3, h3, ?_⟩
    rw [g2_self, nI_addz]
    exact h
  · rw [if_neg (show ¬ (4 : Int32) ≤ nI c from nI_ge (b := 4) (by omega) (by omega)), if_neg (show ¬ (4 : Int32) ≤ nI c from nI_ge (b := 4) (by omega) (by omega))]
    simp only [m_ok hB, m_rd2 hB, m_N2 hB, m_R2 hB, m_sR2 hB, m_rd3 hB, m_N3 hB, m_R3 hB, m_sR3 hB, m_rd4 hB, m_N4 hB, m_R4 hB, m_sR4 hB, m_rd6 hB, m_N6 hB, m_R6 hB, m_sR6 hB, m_rd7 hB, m_N7 hB, m_R7 hB, m_sR7 hB, m_rd8 hB, m_N8 hB, m_R8 hB, m_sR8 hB, m_rd9 hB, m_N9 hB, m_R9 hB, m_sR9 hB, m_rd11 hB, m_N11 hB, m_R11 hB, m_sR11 hB, m_rd12 hB, m_N12 hB, m_R12 hB, m_sR12 hB, m_rd13 hB, m_N13 hB, m_R13 hB, m_sR13 hB, m_rd14 hB, m_N14 hB, m_R14 hB, m_sR14 hB, m_rd15 hB, m_N15 hB, m_R15 hB, m_sR15 hB, m_rd16 hB, m_N16 hB, m_R16 hB, m_sR16 hB, m_rd17 hB, m_N17 hB, m_R17 hB, m_sR17 hB, m_rd18 hB, m_N18 hB, m_R18 hB, m_sR18 hB, m_rd20 hB, m_N20 hB, m_R20 hB, m_sR20 hB, m_rd21 hB, m_N21 hB, m_R21 hB, m_sR21 hB, m_rd22 hB, m_N22 hB, m_R22 hB, m_sR22 hB, m_rd23 hB, m_N23 hB, m_R23 hB, m_sR23 hB, m_rd24 hB, m_N24 hB, m_R24 hB, m_sR24 hB, m_rd25 hB, m_N25 hB, m_R25 hB, m_sR25 hB, m_rd27 hB, m_N27 hB, m_R27 hB, m_sR27 hB, m_rd28 hB, m_N28 hB, m_R28 hB, m_sR28 hB, m_rd29 hB, m_N29 hB, m_R29 hB, m_sR29 hB, m_rd30 hB, m_N30 hB, m_R30 hB, m_sR30 hB, m_I0, m_sI0, m_I1, m_sI1, m_I5, m_sI5, m_I10, m_sI10, m_I19, m_sI19, m_I26, m_sI26, m_I31, m_sI31, lt_v, bz0, bz1, true_and]
    refine ⟨vp_in_nI (by omega) (by omega), vp_in_nI (by omega) (by omega), ?_⟩
    rw [g2_self, nI_addz]
    exact h
/-- row 29 holds the first three events that go on -/
def gr29 (G : Nat → Nat → Int32) (L : List Nat) : Prop := ∀ k x, k < 3 → L[k]? = some x → G 29 k = nI x
theorem x9_could_L53 (hB : BM B m ad tg) {ne : Nat} {a hh them : Int32} (hne : D 26 = nI ne) (h20 : ne ≤ 20) 
    (h2 : 3 < (goL (goB F a hh) ne).length → ∀ G', sm2 F G' → Q 0 (mS B m tg (upD D 31 2) G'))
    (h0 : (goL (goB F a hh) ne).length ≤ 3 → ∀ G, sm2 F G → gr29 G (goL (goB F a hh) ne) → ∃ n15, wp_X9_couldStaff_L210 m a hh them (nI (goL (goB F a hh) ne).length) Q n15 (mS B m tg D G) 1 0) :
    ∀ (fuel e : Nat) (G : Nat → Nat → Int32), e ≤ ne → ne < e + fuel → sm2 F G → gr29 G (goL (goB F a hh) e) → wp_X9_couldStaff_L53 m a hh them Q fuel (mS B m tg D G) (nI (goL (goB F a hh) e).length) (nI e) := by
  intro fuel
  induction fuel with
  | zero => intro i G h1 h2; omega
  | succ u ih =>
    intro e G h1 h3 hS hG
    have hlen := goL_len (goB F a hh) e
    unfold wp_X9_couldStaff_L53
    refine ⟨m_ok hB, ?_⟩
    rw [m_I26, hne]
    by_cases hk : ne ≤ e
    · have ek : e = ne := by omega
      subst ek
      rw [if_pos (nI_le (Nat.le_refl _) (by omega))]
      by_cases q : (goL (goB F a hh) e).length ≤ 3
      · rw [if_pos (show nI (goL (goB F a hh) e).length ≤ 3 from nI_le (b := 3) q (by omega))]
        exact h0 q G hS hG
      · rw [if_neg (show ¬ nI (goL (goB F a hh) e).length ≤ 3 from nI_ge (a := 3) (by omega) (by omega))]
        simp only [m_ok hB, m_rd2 hB, m_N2 hB, m_R2 hB, m_sR2 hB, m_rd3 hB, m_N3 hB, m_R3 hB, m_sR3 hB, m_rd4 hB, m_N4 hB, m_R4 hB, m_sR4 hB, m_rd6 hB, m_N6 hB, m_R6 hB, m_sR6 hB, m_rd7 hB, m_N7 hB, m_R7 hB, m_sR7 hB, m_rd8 hB, m_N8 hB, m_R8 hB, m_sR8 hB, m_rd9 hB, m_N9 hB, m_R9 hB, m_sR9 hB, m_rd11 hB, m_N11 hB, m_R11 hB, m_sR11 hB, m_rd12 hB, m_N12 hB, m_R12 hB, m_sR12 hB, m_rd13 hB, m_N13 hB, m_R13 hB, m_sR13 hB, m_rd14 hB, m_N14 hB, m_R14 hB, m_sR14 hB, m_rd15 hB, m_N15 hB, m_R15 hB, m_sR15 hB, m_rd16 hB, m_N16 hB, m_R16 hB, m_sR16 hB, m_rd17 hB, m_N17 hB, m_R17 hB, m_sR17 hB, m_rd18 hB, m_N18 hB, m_R18 hB, m_sR18 hB, m_rd20 hB, m_N20 hB, m_R20 hB, m_sR20 hB, m_rd21 hB, m_N21 hB, m_R21 hB, m_sR21 hB, m_rd22 hB, m_N22 hB, m_R22 hB, m_sR22 hB, m_rd23 hB, m_N23 hB, m_R23 hB, m_sR23 hB, m_rd24 hB, m_N24 hB, m_R24 hB, m_sR24 hB, m_rd25 hB, m_N25 hB, m_R25 hB, m_sR25 hB, m_rd27 hB, m_N27 hB, m_R27 hB, m_sR27 hB, m_rd28 hB, m_N28 hB, m_R28 hB, m_sR28 hB, m_rd29 hB, m_N29 hB, m_R29 hB, m_sR29 hB, m_rd30 hB, m_N30 hB, m_R30 hB, m_sR30 hB, m_I0, m_sI0, m_I1, m_sI1, m_I5, m_sI5, m_I10, m_sI10, m_I19, m_sI19, m_I26, m_sI26, m_I31, m_sI31, lt_v, bz0, bz1, true_and]
        exact h2 (by omega) G hS
    · rw [if_neg (nI_ge (by omega) (by omega)), show nI e + 1 = nI (e + 1) from nI_add e 1]
      have g27 : G 27 = F 27 := hS 27 (by decide) (by decide)
      have keep : goB F a hh e = false → ∃ fu, fu = u ∧ wp_X9_couldStaff_L53 m a hh them Q fu (mS B m tg D G) (nI (goL (goB F a hh) e).length) (nI (e + 1)) := by
        intro q
        have e1 : goL (goB F a hh) (e + 1) = goL (goB F a hh) e := by
          rw [goL, q]; rfl
        have := ih (e + 1) G (by omega) (by omega) hS (by rw [e1]; exact hG)
        rw [e1] at this
        exact ⟨u, rfl, this⟩
      show lt _ _
      rw [lt_v, six, m_rd27 hB, m_N27 hB, m_R27 hB, nI_k _ 3, nI_k _ 4, nI_k _ 5]
      refine ⟨vp_in_nI (by omega) (by omega), ?_⟩
      rw [nIc (show 6 * e + 3 < 2 ^ 31 by omega), nIc (show 6 * e + 4 < 2 ^ 31 by omega), nIc (show 6 * e + 5 < 2 ^ 31 by omega)]
      by_cases q1 : G 27 (6 * e + 3) = a
      · rw [if_pos q1]
        simp only [m_rd27 hB, m_N27 hB, m_R27 hB]
        refine ⟨vp_in_nI (by omega) (by omega), vp_in_nI (by omega) (by omega), vp_in_nI (by omega) (by omega), ?_⟩
        by_cases q2 : hh < G 27 (6 * e + 4) ∨ G 27 (6 * e + 4) + G 27 (6 * e + 5) - 1 < hh
        · have hf : goB F a hh e = false := by
            unfold goB
            rw [← g27]
            rcases q2 with q | q <;> simp [q]
          obtain ⟨fu, rfl, hkp⟩ := keep hf
          refine x9_in0 q2 ?_
          rw [if_pos rfl]
          exact ⟨m_ok hB, x9_going_keep (F := G) hB (by omega) (K := fun S y => wp_X9_couldStaff_L53 m a hh them Q fu S y (nI (e + 1))) hkp⟩
        · have hf : goB F a hh e = true := by
            unfold goB
            rw [← g27]
            simp only [not_or] at q2
            simp [q1, q2.1, q2.2]
          refine x9_in1 (fun q => q2 (Or.inl q)) (fun q => q2 (Or.inr q)) ?_
          rw [if_neg (by decide)]
          have e1 : goL (goB F a hh) (e + 1) = goL (goB F a hh) e ++ [e] := by
            rw [goL, hf]; rfl
          have e2 : (goL (goB F a hh) (e + 1)).length = (goL (goB F a hh) e).length + 1 := by
            rw [e1, List.length_append]; rfl
          refine ⟨m_ok hB, ?_⟩
          by_cases q4 : 4 ≤ (goL (goB F a hh) e).length
          · rw [if_pos (show (4 : Int32) ≤ nI (goL (goB F a hh) e).length from nI_le (a := 4) q4 (by omega))]
            simp only [m_ok hB, m_rd2 hB, m_N2 hB, m_R2 hB, m_sR2 hB, m_rd3 hB, m_N3 hB, m_R3 hB, m_sR3 hB, m_rd4 hB, m_N4 hB, m_R4 hB, m_sR4 hB, m_rd6 hB, m_N6 hB, m_R6 hB, m_sR6 hB, m_rd7 hB, m_N7 hB, m_R7 hB, m_sR7 hB, m_rd8 hB, m_N8 hB, m_R8 hB, m_sR8 hB, m_rd9 hB, m_N9 hB, m_R9 hB, m_sR9 hB, m_rd11 hB, m_N11 hB, m_R11 hB, m_sR11 hB, m_rd12 hB, m_N12 hB, m_R12 hB, m_sR12 hB, m_rd13 hB, m_N13 hB, m_R13 hB, m_sR13 hB, m_rd14 hB, m_N14 hB, m_R14 hB, m_sR14 hB, m_rd15 hB, m_N15 hB, m_R15 hB, m_sR15 hB, m_rd16 hB, m_N16 hB, m_R16 hB, m_sR16 hB, m_rd17 hB, m_N17 hB, m_R17 hB, m_sR17 hB, m_rd18 hB, m_N18 hB, m_R18 hB, m_sR18 hB, m_rd20 hB, m_N20 hB, m_R20 hB, m_sR20 hB, m_rd21 hB, m_N21 hB, m_R21 hB, m_sR21 hB, m_rd22 hB, m_N22 hB, m_R22 hB, m_sR22 hB, m_rd23 hB, m_N23 hB, m_R23 hB, m_sR23 hB, m_rd24 hB, m_N24 hB, m_R24 hB, m_sR24 hB, m_rd25 hB, m_N25 hB, m_R25 hB, m_sR25 hB, m_rd27 hB, m_N27 hB, m_R27 hB, m_sR27 hB, m_rd28 hB, m_N28 hB, m_R28 hB, m_sR28 hB, m_rd29 hB, m_N29 hB, m_R29 hB, m_sR29 hB, m_rd30 hB, m_N30 hB, m_R30 hB, m_sR30 hB, m_I0, m_sI0, m_I1, m_sI1, m_I5, m_sI5, m_I10, m_sI10, m_I19, m_sI19, m_I26, m_sI26, m_I31, m_sI31, lt_v, bz0, bz1, true_and]
            refine ⟨vp_in_nI (n := 3) (by omega) (by omega), ?_⟩
            rw [nI_1, ← e2]
            refine ih (e + 1) _ (by omega) (by omega) (sm2_g2 F G hS) (fun k x k1 k2 => ?_)
            rw [e1, List.getElem?_append_left (by omega)] at k2
            rw [show g_2 G 29 (3 : Int32).toNatClampNeg (nI e) 29 k = G 29 k from g_2n _ _ (fun q => by have := q.2; rw [show (3 : Int32).toNatClampNeg = 3 from rfl] at this; omega)]
            exact hG k x k1 k2
          · rw [if_neg (show ¬ (4 : Int32) ≤ nI (goL (goB F a hh) e).length from nI_ge (b := 4) (by omega) (by omega))]
            simp only [m_ok hB, m_rd2 hB, m_N2 hB, m_R2 hB, m_sR2 hB, m_rd3 hB, m_N3 hB, m_R3 hB, m_sR3 hB, m_rd4 hB, m_N4 hB, m_R4 hB, m_sR4 hB, m_rd6 hB, m_N6 hB, m_R6 hB, m_sR6 hB, m_rd7 hB, m_N7 hB, m_R7 hB, m_sR7 hB, m_rd8 hB, m_N8 hB, m_R8 hB, m_sR8 hB, m_rd9 hB, m_N9 hB, m_R9 hB, m_sR9 hB, m_rd11 hB, m_N11 hB, m_R11 hB, m_sR11 hB, m_rd12 hB, m_N12 hB, m_R12 hB, m_sR12 hB, m_rd13 hB, m_N13 hB, m_R13 hB, m_sR13 hB, m_rd14 hB, m_N14 hB, m_R14 hB, m_sR14 hB, m_rd15 hB, m_N15 hB, m_R15 hB, m_sR15 hB, m_rd16 hB, m_N16 hB, m_R16 hB, m_sR16 hB, m_rd17 hB, m_N17 hB, m_R17 hB, m_sR17 hB, m_rd18 hB, m_N18 hB, m_R18 hB, m_sR18 hB, m_rd20 hB, m_N20 hB, m_R20 hB, m_sR20 hB, m_rd21 hB, m_N21 hB, m_R21 hB, m_sR21 hB, m_rd22 hB, m_N22 hB, m_R22 hB, m_sR22 hB, m_rd23 hB, m_N23 hB, m_R23 hB, m_sR23 hB, m_rd24 hB, m_N24 hB, m_R24 hB, m_sR24 hB, m_rd25 hB, m_N25 hB, m_R25 hB, m_sR25 hB, m_rd27 hB, m_N27 hB, m_R27 hB, m_sR27 hB, m_rd28 hB, m_N28 hB, m_R28 hB, m_sR28 hB, m_rd29 hB, m_N29 hB, m_R29 hB, m_sR29 hB, m_rd30 hB, m_N30 hB, m_R30 hB, m_sR30 hB, m_I0, m_sI0, m_I1, m_sI1, m_I5, m_sI5, m_I10, m_sI10, m_I19, m_sI19, m_I26, m_sI26, m_I31, m_sI31, lt_v, bz0, bz1, true_and]
            refine ⟨vp_in_nI (by omega) (by omega), ?_⟩
            rw [nI_1, ← e2, nIc (show (goL (goB F a hh) e).length < 2 ^ 31 by omega)]
            refine ih (e + 1) _ (by omega) (by omega) (sm2_g2 F G hS) (fun k x k1 k2 => ?_)
            rw [e1] at k2
            by_cases ek : k = (goL (goB F a hh) e).length
            · subst ek
              rw [List.getElem?_append_right (Nat.le_refl _)] at k2
              rw [g_2s]
              simp at k2
              rw [k2]
            · have hkl : k < (goL (goB F a hh) e).length := by
                have := (List.getElem?_eq_some_iff.mp k2).1
                rw [List.length_append, List.length_singleton] at this
                omega
              rw [List.getElem?_append_left hkl] at k2
              rw [show g_2 G 29 (goL (goB F a hh) e).length (nI e) 29 k = G 29 k from g_2n _ _ (fun q => ek q.2)]
              exact hG k x k1 k2
      · have hf : goB F a hh e = false := by
          unfold goB
          rw [← g27]
          simp [q1]
        obtain ⟨fu, rfl, hkp⟩ := keep hf
        rw [if_neg q1]
        exact x9_going_keep (F := G) hB (by omega) (K := fun S y => wp_X9_couldStaff_L53 m a hh them Q fu S y (nI (e + 1))) hkp
theorem x9_could1 (hB : BM B m ad tg) {a hh them : Int32} {nl : Nat} (hnl : D 19 = nI nl) (h8 : nl ≤ 8) (hv : (a < 0 ∨ 9999 < a) ∨ (hh < 0 ∨ 23 < hh) ∨ (them < 0 ∨ nI (2 ^ nl - 1) < them)) (h : Q 0 (mS B m tg (upD D 31 1) F)) : wp_X9_couldStaff (mS B m tg D F) m a hh them Q := by
  unfold wp_X9_couldStaff
  have hx : (1 : Int32) <<< (nI nl &&& 31) - 1 = nI (2 ^ nl - 1) := by
    rw [sh1 nl (by omega)]
    have : 2 ^ nl = (2 ^ nl - 1) + 1 := by have := Nat.two_pow_pos nl; omega
    rw [this, nI_pred]
    simp
  by_cases h1 : a < 0 ∨ 9999 < a
  · refine x9_isDay0 h1 ?_
    rw [if_pos rfl]
    refine ⟨m_ok hB, x9_asks0 hB ?_⟩
    rw [if_pos rfl]
    exact bz0i h
  refine x9_isDay1 h1 ?_
  rw [if_neg (by decide)]
  by_cases h2 : hh < 0 ∨ 23 < hh
  · refine x9_in0 h2 ?_
    rw [if_pos rfl]
    refine ⟨m_ok hB, x9_asks0 hB ?_⟩
    rw [if_pos rfl]
    exact bz0i h
  refine x9_in1 (fun q => h2 (Or.inl q)) (fun q => h2 (Or.inr q)) ?_
  rw [if_neg (by decide)]
  refine ⟨m_ok hB, ?_⟩
  rw [m_I19, hnl, hx]
  refine x9_in0 ((hv.resolve_left h1).resolve_left h2) ?_
  rw [if_pos rfl]
  refine ⟨m_ok hB, x9_asks0 hB ?_⟩
  rw [if_pos rfl]
  exact bz0i h
/-- the events that go on -/
def goS (F : Nat → Nat → Int32) (a h : Int32) (ne : Nat) : List Nat := goL (goB F a h) ne
theorem x9_could (hB : BM B m ad tg) {a hh : Int32} {n nl ne s : Nat} (hn : D 5 = nI n) (h24 : n ≤ 24) (hnl : D 19 = nI nl) (h8 : nl ≤ 8) (hne : D 26 = nI ne) (h20 : ne ≤ 20) (hV : ∀ e, e < ne → EvV F e) (h1 : ¬ (a < 0 ∨ 9999 < a)) (h2 : ¬ (hh < 0 ∨ 23 < hh)) (hs : s ≤ 2 ^ nl - 1)
    (hb : 3 < (goS F a hh ne).length → ∀ G', sm2 F G' → Q 0 (mS B m tg (upD (upD D 31 0) 31 2) G'))
    (h0 : (goS F a hh ne).length ≤ 3 → ∀ G', sm2 F G' → Q (bI (decide ((goS F a hh ne).length = 0) || anB (lawB F n nl (goS F a hh ne).length s (fun k => (goS F a hh ne).getD k 0)) (((goS F a hh ne).length + 1) ^ pop s nl))) (mS B m tg (upD D 31 0) G')) : wp_X9_couldStaff (mS B m tg D F) m a hh (nI s) Q := by
  unfold wp_X9_couldStaff
  have h28 : 2 ^ nl ≤ 2 ^ 8 := Nat.pow_le_pow_right (by decide) h8
  have h256 : (2 : Nat) ^ 8 = 256 := by decide
  have hx : (1 : Int32) <<< (nI nl &&& 31) - 1 = nI (2 ^ nl - 1) := by
    rw [sh1 nl (by omega)]
    have : 2 ^ nl = (2 ^ nl - 1) + 1 := by have := Nat.two_pow_pos nl; omega
    rw [this, nI_pred]
    simp
  refine x9_isDay1 h1 ?_
  rw [if_neg (by decide)]
  refine x9_in1 (fun q => h2 (Or.inl q)) (fun q => h2 (Or.inr q)) ?_
  rw [if_neg (by decide)]
  refine ⟨m_ok hB, ?_⟩
  rw [m_I19, hnl, hx]
  have hr := rng hs (by omega)
  refine x9_in1 (fun q => hr (Or.inl q)) (fun q => hr (Or.inr q)) ?_
  rw [if_neg (by decide)]
  refine ⟨m_ok hB, x9_asks1 hB ?_⟩
  rw [if_neg (by decide)]
  refine ⟨ne + 1, x9_could_L53 (D := upD D 31 0) (ne := ne) hB hne h20 hb ?_ (ne + 1) 0 F (by omega) (by omega) (fun j _ _ => rfl) (fun k x k1 k2 => by simp [goL] at k2)⟩
  intro hl G hS hG
  refine ⟨nl + 1, x9_could_L210 (D := upD D 31 0) (go := fun k => (goS F a hh ne).getD k 0) hB hn h24 hnl h8 hl (by omega) (fun k hk => ?_) hS (fun k hk => hG k _ (by omega) (by show (goL (goB F a hh) ne)[k]? = some ((goL (goB F a hh) ne).getD k 0); rw [List.getD_eq_getElem?_getD, List.getElem?_eq_getElem hk]; rfl)) (h0 hl) (nl + 1) 0 (by omega) (by omega)⟩
  have hm := goL_mem (goB F a hh) ne ((goS F a hh ne).getD k 0) (by
    show (goL (goB F a hh) ne).getD k 0 ∈ _
    rw [List.getD_eq_getElem?_getD, List.getElem?_eq_getElem hk]
    exact List.getElem_mem _)
  exact ⟨by omega, hV _ hm.1⟩
end MCOULD
