/-! THE REFERENCE: badges -/
section MBADGE
variable {B : Hp} {m : Nat} {ad tg : Nat → Nat} {D : Nat → Int32} {F : Nat → Nat → Int32} {Q : Int32 → Hp → Prop} {S : Hp}
theorem ixe {x : Int32} {N : Nat} (h : isIx x N) (hN : N < 2 ^ 31) : x = nI x.toNatClampNeg ∧ x.toNatClampNeg < N := by
  obtain ⟨j, hj, rfl⟩ := h
  rw [nIc (by omega)]
  exact ⟨rfl, hj⟩
theorem bit_ix {x : Int32} {N k : Nat} (h : isIx x N) (hN : N < 2 ^ 31) (hk : k < 32) : ((x >>> (nI k &&& 31)) &&& 1 = (1 : Int32)) ↔ x.toNatClampNeg.testBit k = true := by
  obtain ⟨e, h2⟩ := ixe h hN
  have := bit_iff (s := x.toNatClampNeg) (k := k) (by omega) hk
  rw [← e] at this
  exact this
/-- the day of a proof, 100000 without -/
def pd (F : Nat → Nat → Int32) (c k : Nat) : Nat := if F 16 (16 * c + k) = -1 then 100000 else (F 16 (16 * c + k)).toNatClampNeg
def PRc (F : Nat → Nat → Int32) (c : Nat) : Prop := ∀ k, k < 16 → F 16 (16 * c + k) = -1 ∨ isIx (F 16 (16 * c + k)) 10000
theorem pd_le {F : Nat → Nat → Int32} {c k : Nat} (h : PRc F c) (hk : k < 16) : pd F c k ≤ 100000 := by
  unfold pd
  rcases h k hk with e | e
  · simp [e]
  · have := (ixe e (by decide)).2
    split <;> omega
theorem pix16 {c k : Nat} : (16 : Int32) * nI c + nI k = nI (16 * c + k) := by
  rw [show (16 : Int32) = nI 16 from rfl, nI_mul, nI_add]
theorem x9_provenOn (hB : BM B m ad tg) {c k : Nat} (hc : c < 24) (hk : k < 16) (hP : PRc F c) (h : Q (nI (pd F c k)) (mS B m tg D F)) : wp_X9_provenOn (mS B m tg D F) m (nI c) (nI k) Q := by
  unfold wp_X9_provenOn
  simp only [m_ok hB, m_rd2 hB, m_N2 hB, m_R2 hB, m_sR2 hB, m_rd3 hB, m_N3 hB, m_R3 hB, m_sR3 hB, m_rd4 hB, m_N4 hB, m_R4 hB, m_sR4 hB, m_rd6 hB, m_N6 hB, m_R6 hB, m_sR6 hB, m_rd7 hB, m_N7 hB, m_R7 hB, m_sR7 hB, m_rd8 hB, m_N8 hB, m_R8 hB, m_sR8 hB, m_rd9 hB, m_N9 hB, m_R9 hB, m_sR9 hB, m_rd11 hB, m_N11 hB, m_R11 hB, m_sR11 hB, m_rd12 hB, m_N12 hB, m_R12 hB, m_sR12 hB, m_rd13 hB, m_N13 hB, m_R13 hB, m_sR13 hB, m_rd14 hB, m_N14 hB, m_R14 hB, m_sR14 hB, m_rd15 hB, m_N15 hB, m_R15 hB, m_sR15 hB, m_rd16 hB, m_N16 hB, m_R16 hB, m_sR16 hB, m_rd17 hB, m_N17 hB, m_R17 hB, m_sR17 hB, m_rd18 hB, m_N18 hB, m_R18 hB, m_sR18 hB, m_rd20 hB, m_N20 hB, m_R20 hB, m_sR20 hB, m_rd21 hB, m_N21 hB, m_R21 hB, m_sR21 hB, m_rd22 hB, m_N22 hB, m_R22 hB, m_sR22 hB, m_rd23 hB, m_N23 hB, m_R23 hB, m_sR23 hB, m_rd24 hB, m_N24 hB, m_R24 hB, m_sR24 hB, m_rd25 hB, m_N25 hB, m_R25 hB, m_sR25 hB, m_rd27 hB, m_N27 hB, m_R27 hB, m_sR27 hB, m_rd28 hB, m_N28 hB, m_R28 hB, m_sR28 hB, m_rd29 hB, m_N29 hB, m_R29 hB, m_sR29 hB, m_rd30 hB, m_N30 hB, m_R30 hB, m_sR30 hB, m_I0, m_sI0, m_I1, m_sI1, m_I5, m_sI5, m_I10, m_sI10, m_I19, m_sI19, m_I26, m_sI26, m_I31, m_sI31, lt_v, bz0, bz1, true_and]
  rw [pix16]
  refine ⟨vp_in_nI (by omega) (by omega), ?_⟩
  rw [nIc (by omega)]
  unfold pd at h
  by_cases e : F 16 (16 * c + k) = -1
  · rw [if_pos e] at h ⊢
    exact h
  · rw [if_neg e] at h ⊢
    rw [← (ixe ((hP k hk).resolve_left e) (by decide)).1] at h
    exact h
/-- how many of a set were proven by day t -/
def cnD (p : Nat → Nat) (s t : Nat) : Nat → Nat := ct (fun i => s.testBit i && decide (p i ≤ t))
def dst (p : Nat → Nat) (s n f k : Nat) : Nat := if s.testBit k = true ∧ n ≤ cnD p s (p k) 16 ∧ p k < f then p k else f
def dmT (p : Nat → Nat) (s n : Nat) : Nat → Nat
  | 0 => if n = 0 then 0 else 100000
  | k + 1 => if n = 0 then dmT p s n k else dst p s n (dmT p s n k) k
theorem dmT_le (p : Nat → Nat) (s n : Nat) : ∀ k, dmT p s n k ≤ 100000
  | 0 => by
    unfold dmT
    split <;> omega
  | k + 1 => by
    have := dmT_le p s n k
    unfold dmT dst
    split
    · exact this
    · split <;> omega
theorem cnD_le (p : Nat → Nat) (s t n : Nat) : cnD p s t n ≤ n := ct_le _ n
theorem x9_dom_L41 (hB : BM B m ad tg) {c k s n f : Nat} {K : Hp → Int32 → Int32 → Prop} (hc : c < 24) (hk : k < 16) (hP : PRc F c) (hs : s < 2 ^ 31) (hn : n < 2 ^ 31) (hf : f ≤ 100000) (h : K (mS B m tg D F) (nI (dst (pd F c) s n f k)) (nI (k + 1))) : ∀ (fuel i : Nat), i ≤ 16 → 16 < i + fuel → wp_X9_dayOfMany_L41 m (nI c) (nI s) (nI n) (nI f) (nI k) (nI (pd F c k)) K Q fuel (mS B m tg D F) (nI (cnD (pd F c) s (pd F c k) i)) (nI i) := by
  intro fuel
  induction fuel with
  | zero => intro i h1 h2; omega
  | succ u ih =>
    intro i h1 h2
    have hpk := pd_le hP hk
    unfold wp_X9_dayOfMany_L41
    by_cases hi : i = 16
    · subst hi
      rw [if_pos (by decide), nI_1]
      have hcn := cnD_le (pd F c) s (pd F c k) 16
      unfold dst at h
      cases hb : s.testBit k with
      | true =>
        rw [if_pos ((bit_iff hs (by omega)).mpr hb)]
        rw [hb] at h
        by_cases h3 : n ≤ cnD (pd F c) s (pd F c k) 16
        · rw [if_neg (show ¬ nI (cnD (pd F c) s (pd F c k) 16) < nI n by rw [i_lt, nI_toInt (by omega), nI_toInt hn]; omega)]
          by_cases h4 : pd F c k < f
          · rw [if_neg (nI_ge h4 (by omega))]
            rw [if_pos ⟨rfl, h3, h4⟩] at h
            exact h
          · rw [if_pos (nI_le (by omega) (by omega))]
            rw [if_neg (fun q => h4 q.2.2)] at h
            exact h
        · rw [if_pos (show nI (cnD (pd F c) s (pd F c k) 16) < nI n by rw [i_lt, nI_toInt (by omega), nI_toInt hn]; omega)]
          rw [if_neg (fun q => h3 q.2.1)] at h
          exact h
      | false =>
        rw [if_neg (fun q => by rw [bit_iff hs (by omega), hb] at q; exact absurd q (by decide))]
        rw [hb, if_neg (fun q => absurd q.1 (by decide))] at h
        exact h
    · rw [if_neg (show ¬ (16 : Int32) ≤ nI i from nI_ge (b := 16) (by omega) (by omega))]
      have hs' := ih (i + 1) (by omega) (by omega)
      have e : cnD (pd F c) s (pd F c k) (i + 1) = cnD (pd F c) s (pd F c k) i + (if (s.testBit i && decide (pd F c i ≤ pd F c k)) = true then 1 else 0) := rfl
      cases hb : s.testBit i with
      | true =>
        rw [if_pos ((bit_iff hs (by omega)).mpr hb)]
        refine ⟨m_ok hB, x9_provenOn hB hc (by omega) hP ?_⟩
        have hpi := pd_le hP (show i < 16 by omega)
        by_cases h3 : pd F c i ≤ pd F c k
        · rw [if_neg (show ¬ nI (pd F c k) < nI (pd F c i) by rw [i_lt, nI_toInt (by omega), nI_toInt (by omega)]; omega)]
          rw [e, hb] at hs'
          simp only [h3, decide_true, Bool.and_self, if_true] at hs'
          show wp_X9_dayOfMany_L41 _ _ _ _ _ _ _ _ _ _ _ _ _
          rw [nI_1, nI_1]
          exact hs'
        · rw [if_pos (show nI (pd F c k) < nI (pd F c i) by rw [i_lt, nI_toInt (by omega), nI_toInt (by omega)]; omega)]
          rw [e, hb] at hs'
          simp only [h3, decide_false, Bool.and_false] at hs'
          show wp_X9_dayOfMany_L41 _ _ _ _ _ _ _ _ _ _ _ _ _
          rw [nI_addz, nI_1]
          exact hs'
      | false =>
        rw [if_neg (fun q => by rw [bit_iff hs (by omega), hb] at q; exact absurd q (by decide))]
        rw [e, hb] at hs'
        simp only [Bool.false_and] at hs'
        show wp_X9_dayOfMany_L41 _ _ _ _ _ _ _ _ _ _ _ _ _
        rw [nI_addz, nI_1]
        exact hs'
theorem dmT_0 (p : Nat → Nat) (s : Nat) : ∀ k, dmT p s 0 k = 0
  | 0 => rfl
  | k + 1 => by
    unfold dmT
    rw [if_pos rfl]
    exact dmT_0 p s k
theorem x9_dom_L15 (hB : BM B m ad tg) {c s n : Nat} (hc : c < 24) (hP : PRc F c) (hs : s < 2 ^ 31) (hn : n < 2 ^ 31) (h : Q (nI (dmT (pd F c) s n 16)) (mS B m tg D F)) : ∀ (fuel k : Nat), k ≤ 16 → 16 < k + fuel → wp_X9_dayOfMany_L15 m (nI c) (nI s) (nI n) Q fuel (mS B m tg D F) (nI (dmT (pd F c) s n k)) (nI k) := by
  intro fuel
  induction fuel with
  | zero => intro i h1 h2; omega
  | succ u ih =>
    intro k h1 h2
    unfold wp_X9_dayOfMany_L15
    by_cases hi : k = 16
    · subst hi
      rw [if_pos (by decide)]
      exact h
    · rw [if_neg (show ¬ (16 : Int32) ≤ nI k from nI_ge (b := 16) (by omega) (by omega))]
      by_cases hz : n = 0
      · subst hz
        rw [if_pos (by decide)]
        rw [dmT_0] at h ⊢
        exact h
      · rw [if_neg (fun q => hz ((nI_le0 hn).mp q))]
        refine ⟨m_ok hB, x9_provenOn hB hc (by omega) hP ?_⟩
        refine ⟨17, x9_dom_L41 hB hc (by omega) hP hs hn (dmT_le _ _ _ _) ?_ 17 0 (by omega) (by omega)⟩
        have hs' := ih (k + 1) (by omega) (by omega)
        have e : dmT (pd F c) s n (k + 1) = dst (pd F c) s n (dmT (pd F c) s n k) k := by
          show (if n = 0 then _ else _) = _
          rw [if_neg hz]
        rw [e] at hs'
        exact hs'
theorem x9_dom (hB : BM B m ad tg) {c s n : Nat} (hc : c < 24) (hP : PRc F c) (hs : s < 2 ^ 31) (hn : n < 2 ^ 31) (h : Q (nI (dmT (pd F c) s n 16)) (mS B m tg D F)) : wp_X9_dayOfMany (mS B m tg D F) m (nI c) (nI s) (nI n) Q := by
  unfold wp_X9_dayOfMany
  have hL := x9_dom_L15 hB hc hP hs hn h 17 0 (by omega) (by omega)
  unfold dmT at hL
  by_cases hz : n = 0
  · subst hz
    rw [if_pos nI_0]
    exact ⟨17, hL⟩
  · rw [if_neg (nI_ne0 (by omega) hn)]
    rw [if_neg hz] at hL
    exact ⟨17, hL⟩
theorem x9_later {a b : Nat} (ha : a < 2 ^ 31) (hb : b < 2 ^ 31) (h : Q (nI (max a b)) S) : wp_X9_later S (nI a) (nI b) Q := by
  unfold wp_X9_later
  by_cases c : a ≤ b
  · rw [if_pos (nI_le c (by omega))]
    rw [Nat.max_eq_right c] at h
    exact h
  · rw [if_neg (nI_ge (by omega) (by omega))]
    rw [Nat.max_eq_left (by omega)] at h
    exact h
/-- the latest proof of a set -/
def mxN (p : Nat → Nat) (s d : Nat) : Nat → Nat
  | 0 => d
  | k + 1 => if s.testBit k then max (mxN p s d k) (p k) else mxN p s d k
theorem mxN_le {p : Nat → Nat} {s d : Nat} (hd : d ≤ 100000) : ∀ k, (∀ i, i < k → p i ≤ 100000) → mxN p s d k ≤ 100000
  | 0, _ => hd
  | k + 1, h => by
    have := mxN_le (s := s) hd k (fun i hi => h i (by omega))
    have := h k (by omega)
    unfold mxN
    split <;> omega
def eAt (F : Nat → Nat → Int32) (c b : Nat) : Nat := 18 * b + 6 * (F 18 (8 * c + b)).toNatClampNeg
/-- the day of badge b of child c, by the days T of those with lower numbers -/
def dayv (F : Nat → Nat → Int32) (c b : Nat) (T : Nat → Nat) : Nat :=
  if F 17 (8 * c + b) = -1 then 100000
  else min 100000 (if F 24 (eAt F c b + 3) = -1 then max (mxN (pd F c) (F 24 (eAt F c b)).toNatClampNeg (F 17 (8 * c + b)).toNatClampNeg 16) (dmT (pd F c) (F 24 (eAt F c b + 1)).toNatClampNeg (F 24 (eAt F c b + 2)).toNatClampNeg 16)
    else max (max (mxN (pd F c) (F 24 (eAt F c b)).toNatClampNeg (F 17 (8 * c + b)).toNatClampNeg 16) (dmT (pd F c) (F 24 (eAt F c b + 1)).toNatClampNeg (F 24 (eAt F c b + 2)).toNatClampNeg 16)) (T (F 24 (eAt F c b + 3)).toNatClampNeg + (F 24 (eAt F c b + 4)).toNatClampNeg))
def dyT (F : Nat → Nat → Int32) (c : Nat) : Nat → Nat → Nat
  | 0 => fun _ => 100000
  | k + 1 => fun b => if b = k then dayv F c k (dyT F c k) else dyT F c k b
/-- an edition, of badge b, whose numbers lie at a -/
def EV (F : Nat → Nat → Int32) (b a : Nat) : Prop := isIx (F 24 a) 65536 ∧ isIx (F 24 (a + 1)) 65536 ∧ isIx (F 24 (a + 2)) 17 ∧ (F 24 (a + 3) = -1 ∨ isIx (F 24 (a + 3)) b ∧ isIx (F 24 (a + 4)) 401) ∧ isIx (F 24 (a + 5)) 4001 ∧ (F 24 a).toNatClampNeg &&& (F 24 (a + 1)).toNatClampNeg = 0
def CoV (F : Nat → Nat → Int32) (c : Nat) : Prop := ∀ b, b < 8 → isIx (F 18 (8 * c + b)) 3 ∧ (F 17 (8 * c + b) = -1 ∨ isIx (F 17 (8 * c + b)) 10000 ∧ EV F b (eAt F c b))
theorem dayv_le (F : Nat → Nat → Int32) (c b : Nat) (T : Nat → Nat) : dayv F c b T ≤ 100000 := by
  unfold dayv
  split <;> omega
theorem dyT_le (F : Nat → Nat → Int32) (c : Nat) : ∀ k b, dyT F c k b ≤ 100000
  | 0, b => Nat.le_refl _
  | k + 1, b => by
    show (if b = k then _ else _) ≤ _
    split
    · exact dayv_le _ _ _ _
    · exact dyT_le F c k b
/-- the days found of badges below k -/
def daF (F : Nat → Nat → Int32) (c k : Nat) : Nat → Nat → Int32 := fun j i => if j = 25 ∧ i < k then nI (dyT F c k i) else F j i
theorem daF_ne (F : Nat → Nat → Int32) (c k j : Nat) (h : j ≠ 25) : daF F c k j = F j := by
  funext i
  simp [daF, h]
theorem dyT_ge (F : Nat → Nat → Int32) (c : Nat) : ∀ k b, k ≤ b → dyT F c (k + 1) b = if b = k then dayv F c k (dyT F c k) else dyT F c k b := fun _ _ _ => rfl
theorem daF_succ (F : Nat → Nat → Int32) (c k : Nat) (G : Nat → Nat → Int32) (hG : G = daF F c k ∨ G = g_2 (daF F c k) 25 k 100000) : g_2 G 25 k (nI (dayv F c k (dyT F c k))) = daF F c (k + 1) := by
  funext j i
  by_cases hj : j = 25
  · subst hj
    by_cases hi : i = k
    · subst hi
      simp [g_2, daF, dyT]
    · have e1 : g_2 G 25 k (nI (dayv F c k (dyT F c k))) 25 i = daF F c k 25 i := by
        rcases hG with e | e <;> rw [e] <;> simp [g_2, hi]
      rw [e1]
      by_cases h2 : i < k
      · have h3 : i < k + 1 := by omega
        simp [daF, h2, h3, dyT, hi]
      · have h3 : ¬ i < k + 1 := by omega
        simp [daF, h2, h3]
  · rcases hG with e | e <;> rw [e] <;> simp [g_2, daF, hj]
theorem x9_days_end (hB : BM B m ad tg) {c b on : Nat} {K : Hp → Int32 → Prop} {G : Nat → Nat → Int32} (hb : b < 8) (hon : on < 2 ^ 31) (h : K (mS B m tg D (g_2 G 25 b (nI (min 100000 on)))) (nI b + 1)) :
    (if (100000 : Int32) ≤ nI on then (rd (mS B m tg D G) 11 (g_P (mS B m tg D G) 925 m) (fun a47 => vp_in (nI b) (g_N (mS B m tg D G) a47) ∧ (lt (s_R (mS B m tg D G) a47 (nI b).toNatClampNeg (100000 : Int32)) (fun S51 => K S51 (nI b + (1 : Int32)))))) else (rd (mS B m tg D G) 11 (g_P (mS B m tg D G) 925 m) (fun a52 => vp_in (nI b) (g_N (mS B m tg D G) a52) ∧ (lt (s_R (mS B m tg D G) a52 (nI b).toNatClampNeg (nI on)) (fun S56 => K S56 (nI b + (1 : Int32))))))) := by
  simp only [m_ok hB, m_rd2 hB, m_N2 hB, m_R2 hB, m_sR2 hB, m_rd3 hB, m_N3 hB, m_R3 hB, m_sR3 hB, m_rd4 hB, m_N4 hB, m_R4 hB, m_sR4 hB, m_rd6 hB, m_N6 hB, m_R6 hB, m_sR6 hB, m_rd7 hB, m_N7 hB, m_R7 hB, m_sR7 hB, m_rd8 hB, m_N8 hB, m_R8 hB, m_sR8 hB, m_rd9 hB, m_N9 hB, m_R9 hB, m_sR9 hB, m_rd11 hB, m_N11 hB, m_R11 hB, m_sR11 hB, m_rd12 hB, m_N12 hB, m_R12 hB, m_sR12 hB, m_rd13 hB, m_N13 hB, m_R13 hB, m_sR13 hB, m_rd14 hB, m_N14 hB, m_R14 hB, m_sR14 hB, m_rd15 hB, m_N15 hB, m_R15 hB, m_sR15 hB, m_rd16 hB, m_N16 hB, m_R16 hB, m_sR16 hB, m_rd17 hB, m_N17 hB, m_R17 hB, m_sR17 hB, m_rd18 hB, m_N18 hB, m_R18 hB, m_sR18 hB, m_rd20 hB, m_N20 hB, m_R20 hB, m_sR20 hB, m_rd21 hB, m_N21 hB, m_R21 hB, m_sR21 hB, m_rd22 hB, m_N22 hB, m_R22 hB, m_sR22 hB, m_rd23 hB, m_N23 hB, m_R23 hB, m_sR23 hB, m_rd24 hB, m_N24 hB, m_R24 hB, m_sR24 hB, m_rd25 hB, m_N25 hB, m_R25 hB, m_sR25 hB, m_rd27 hB, m_N27 hB, m_R27 hB, m_sR27 hB, m_rd28 hB, m_N28 hB, m_R28 hB, m_sR28 hB, m_rd29 hB, m_N29 hB, m_R29 hB, m_sR29 hB, m_rd30 hB, m_N30 hB, m_R30 hB, m_sR30 hB, m_I0, m_sI0, m_I1, m_sI1, m_I5, m_sI5, m_I10, m_sI10, m_I19, m_sI19, m_I26, m_sI26, m_I31, m_sI31, lt_v, bz0, bz1, true_and]
  have hc : (nI b).toNatClampNeg = b := nIc (by omega)
  rw [hc]
  by_cases q : 100000 ≤ on
  · rw [if_pos (show (100000 : Int32) ≤ nI on from nI_le (a := 100000) q hon)]
    rw [Nat.min_eq_left q] at h
    exact ⟨vp_in_nI hb (by omega), h⟩
  · rw [if_neg (show ¬ (100000 : Int32) ≤ nI on from nI_ge (b := 100000) (by omega) (by omega))]
    rw [Nat.min_eq_right (by omega)] at h
    exact ⟨vp_in_nI hb (by omega), h⟩
theorem x9_days_L58 (hB : BM B m ad tg) {c b : Nat} {K : Hp → Int32 → Prop} {Q : Hp → Prop} {G : Nat → Nat → Int32} (hc : c < 24) (hb : b < 8) (hP : PRc F c) (hC : CoV F c) (h17 : ¬ F 17 (8 * c + b) = -1) (hG : G = g_2 (daF F c b) 25 b 100000) (h : K (mS B m tg D (daF F c (b + 1))) (nI b + 1)) : ∀ (fuel k : Nat), k ≤ 16 → 16 < k + fuel → wp_X9_findsDays_L58 m (nI c) (nI b) (nI (eAt F c b)) K Q fuel (mS B m tg D G) (nI (mxN (pd F c) (F 24 (eAt F c b)).toNatClampNeg (F 17 (8 * c + b)).toNatClampNeg k)) (nI k) := by
  obtain ⟨c1, c2⟩ := hC b hb
  obtain ⟨c3, v1, v2, v3, v4, v5, v6⟩ := c2.resolve_left h17
  have hG2 : ∀ j, j ≠ 25 → G j = F j := fun j hj => by
    funext i
    rw [hG]
    simp [g_2, daF, hj]
  have g24 : G 24 = F 24 := hG2 24 (by decide)
  have g16 : pd G c = pd F c := by
    funext k
    unfold pd
    rw [hG2 16 (by decide)]
  have hPG : PRc G c := by
    intro k hk
    rw [hG2 16 (by decide)]
    exact hP k hk
  have ha : eAt F c b + 5 < 144 := by
    have := (ixe c1 (by decide)).2
    unfold eAt
    omega
  obtain ⟨e1, f1⟩ := ixe v1 (by decide)
  obtain ⟨e2, f2⟩ := ixe v2 (by decide)
  obtain ⟨e3, f3⟩ := ixe v3 (by decide)
  obtain ⟨e4, f4⟩ := ixe c3 (by decide)
  have hm : ∀ k, k ≤ 16 → mxN (pd F c) (F 24 (eAt F c b)).toNatClampNeg (F 17 (8 * c + b)).toNatClampNeg k ≤ 100000 := fun k hk => mxN_le (by omega) k (fun i hi => pd_le hP (by omega))
  intro fuel
  induction fuel with
  | zero => intro i h1 h2; omega
  | succ u ih =>
    intro k h1 h2
    unfold wp_X9_findsDays_L58
    by_cases hi : k = 16
    · subst hi
      rw [if_pos (by decide)]
      simp only [m_ok hB, m_rd2 hB, m_N2 hB, m_R2 hB, m_sR2 hB, m_rd3 hB, m_N3 hB, m_R3 hB, m_sR3 hB, m_rd4 hB, m_N4 hB, m_R4 hB, m_sR4 hB, m_rd6 hB, m_N6 hB, m_R6 hB, m_sR6 hB, m_rd7 hB, m_N7 hB, m_R7 hB, m_sR7 hB, m_rd8 hB, m_N8 hB, m_R8 hB, m_sR8 hB, m_rd9 hB, m_N9 hB, m_R9 hB, m_sR9 hB, m_rd11 hB, m_N11 hB, m_R11 hB, m_sR11 hB, m_rd12 hB, m_N12 hB, m_R12 hB, m_sR12 hB, m_rd13 hB, m_N13 hB, m_R13 hB, m_sR13 hB, m_rd14 hB, m_N14 hB, m_R14 hB, m_sR14 hB, m_rd15 hB, m_N15 hB, m_R15 hB, m_sR15 hB, m_rd16 hB, m_N16 hB, m_R16 hB, m_sR16 hB, m_rd17 hB, m_N17 hB, m_R17 hB, m_sR17 hB, m_rd18 hB, m_N18 hB, m_R18 hB, m_sR18 hB, m_rd20 hB, m_N20 hB, m_R20 hB, m_sR20 hB, m_rd21 hB, m_N21 hB, m_R21 hB, m_sR21 hB, m_rd22 hB, m_N22 hB, m_R22 hB, m_sR22 hB, m_rd23 hB, m_N23 hB, m_R23 hB, m_sR23 hB, m_rd24 hB, m_N24 hB, m_R24 hB, m_sR24 hB, m_rd25 hB, m_N25 hB, m_R25 hB, m_sR25 hB, m_rd27 hB, m_N27 hB, m_R27 hB, m_sR27 hB, m_rd28 hB, m_N28 hB, m_R28 hB, m_sR28 hB, m_rd29 hB, m_N29 hB, m_R29 hB, m_sR29 hB, m_rd30 hB, m_N30 hB, m_R30 hB, m_sR30 hB, m_I0, m_sI0, m_I1, m_sI1, m_I5, m_sI5, m_I10, m_sI10, m_I19, m_sI19, m_I26, m_sI26, m_I31, m_sI31, lt_v, bz0, bz1, true_and]
      rw [nI_k _ 1, nI_k _ 2, nI_k _ 3]
      refine ⟨vp_in_nI (by omega) (by omega), vp_in_nI (by omega) (by omega), ?_⟩
      rw [nIc (show eAt F c b + 1 < 2 ^ 31 by omega), nIc (show eAt F c b + 2 < 2 ^ 31 by omega), nIc (show eAt F c b + 3 < 2 ^ 31 by omega), g24, e2, e3]
      refine x9_dom hB hc hPG (by omega) (by omega) ?_
      rw [g16]
      have hd := dmT_le (pd F c) (F 24 (eAt F c b + 1)).toNatClampNeg (F 24 (eAt F c b + 2)).toNatClampNeg 16
      have hm16 := hm 16 (by omega)
      refine x9_later (by omega) (by omega) ?_
      simp only [m_ok hB, m_rd2 hB, m_N2 hB, m_R2 hB, m_sR2 hB, m_rd3 hB, m_N3 hB, m_R3 hB, m_sR3 hB, m_rd4 hB, m_N4 hB, m_R4 hB, m_sR4 hB, m_rd6 hB, m_N6 hB, m_R6 hB, m_sR6 hB, m_rd7 hB, m_N7 hB, m_R7 hB, m_sR7 hB, m_rd8 hB, m_N8 hB, m_R8 hB, m_sR8 hB, m_rd9 hB, m_N9 hB, m_R9 hB, m_sR9 hB, m_rd11 hB, m_N11 hB, m_R11 hB, m_sR11 hB, m_rd12 hB, m_N12 hB, m_R12 hB, m_sR12 hB, m_rd13 hB, m_N13 hB, m_R13 hB, m_sR13 hB, m_rd14 hB, m_N14 hB, m_R14 hB, m_sR14 hB, m_rd15 hB, m_N15 hB, m_R15 hB, m_sR15 hB, m_rd16 hB, m_N16 hB, m_R16 hB, m_sR16 hB, m_rd17 hB, m_N17 hB, m_R17 hB, m_sR17 hB, m_rd18 hB, m_N18 hB, m_R18 hB, m_sR18 hB, m_rd20 hB, m_N20 hB, m_R20 hB, m_sR20 hB, m_rd21 hB, m_N21 hB, m_R21 hB, m_sR21 hB, m_rd22 hB, m_N22 hB, m_R22 hB, m_sR22 hB, m_rd23 hB, m_N23 hB, m_R23 hB, m_sR23 hB, m_rd24 hB, m_N24 hB, m_R24 hB, m_sR24 hB, m_rd25 hB, m_N25 hB, m_R25 hB, m_sR25 hB, m_rd27 hB, m_N27 hB, m_R27 hB, m_sR27 hB, m_rd28 hB, m_N28 hB, m_R28 hB, m_sR28 hB, m_rd29 hB, m_N29 hB, m_R29 hB, m_sR29 hB, m_rd30 hB, m_N30 hB, m_R30 hB, m_sR30 hB, m_I0, m_sI0, m_I1, m_sI1, m_I5, m_sI5, m_I10, m_sI10, m_I19, m_sI19, m_I26, m_sI26, m_I31, m_sI31, lt_v, bz0, bz1, true_and]
      refine ⟨vp_in_nI (by omega) (by omega), ?_⟩
      rw [g24]
      by_cases hp : F 24 (eAt F c b + 3) = -1
      · rw [if_pos hp]
        have hs := x9_days_end (D := D) hB (c := c) (K := K) (G := G) hb (show max (mxN (pd F c) (F 24 (eAt F c b)).toNatClampNeg (F 17 (8 * c + b)).toNatClampNeg 16) (dmT (pd F c) (F 24 (eAt F c b + 1)).toNatClampNeg (F 24 (eAt F c b + 2)).toNatClampNeg 16) < 2 ^ 31 by omega) ?_
        · simp only [m_ok hB, m_rd2 hB, m_N2 hB, m_R2 hB, m_sR2 hB, m_rd3 hB, m_N3 hB, m_R3 hB, m_sR3 hB, m_rd4 hB, m_N4 hB, m_R4 hB, m_sR4 hB, m_rd6 hB, m_N6 hB, m_R6 hB, m_sR6 hB, m_rd7 hB, m_N7 hB, m_R7 hB, m_sR7 hB, m_rd8 hB, m_N8 hB, m_R8 hB, m_sR8 hB, m_rd9 hB, m_N9 hB, m_R9 hB, m_sR9 hB, m_rd11 hB, m_N11 hB, m_R11 hB, m_sR11 hB, m_rd12 hB, m_N12 hB, m_R12 hB, m_sR12 hB, m_rd13 hB, m_N13 hB, m_R13 hB, m_sR13 hB, m_rd14 hB, m_N14 hB, m_R14 hB, m_sR14 hB, m_rd15 hB, m_N15 hB, m_R15 hB, m_sR15 hB, m_rd16 hB, m_N16 hB, m_R16 hB, m_sR16 hB, m_rd17 hB, m_N17 hB, m_R17 hB, m_sR17 hB, m_rd18 hB, m_N18 hB, m_R18 hB, m_sR18 hB, m_rd20 hB, m_N20 hB, m_R20 hB, m_sR20 hB, m_rd21 hB, m_N21 hB, m_R21 hB, m_sR21 hB, m_rd22 hB, m_N22 hB, m_R22 hB, m_sR22 hB, m_rd23 hB, m_N23 hB, m_R23 hB, m_sR23 hB, m_rd24 hB, m_N24 hB, m_R24 hB, m_sR24 hB, m_rd25 hB, m_N25 hB, m_R25 hB, m_sR25 hB, m_rd27 hB, m_N27 hB, m_R27 hB, m_sR27 hB, m_rd28 hB, m_N28 hB, m_R28 hB, m_sR28 hB, m_rd29 hB, m_N29 hB, m_R29 hB, m_sR29 hB, m_rd30 hB, m_N30 hB, m_R30 hB, m_sR30 hB, m_I0, m_sI0, m_I1, m_sI1, m_I5, m_sI5, m_I10, m_sI10, m_I19, m_sI19, m_I26, m_sI26, m_I31, m_sI31, lt_v, bz0, bz1, true_and] at hs
          exact hs
        · have e : min 100000 (max (mxN (pd F c) (F 24 (eAt F c b)).toNatClampNeg (F 17 (8 * c + b)).toNatClampNeg 16) (dmT (pd F c) (F 24 (eAt F c b + 1)).toNatClampNeg (F 24 (eAt F c b + 2)).toNatClampNeg 16)) = dayv F c b (dyT F c b) := by
            unfold dayv
            rw [if_neg h17, if_pos hp]
          rw [e, daF_succ F c b G (Or.inr hG)]
          exact h
      · rw [if_neg hp]
        obtain ⟨w1, w2⟩ := v4.resolve_left hp
        obtain ⟨e5, f5⟩ := ixe w1 (by omega)
        obtain ⟨e6, f6⟩ := ixe w2 (by decide)
        rw [nI_k _ 4, e5]
        refine ⟨vp_in_nI (by omega) (by omega), vp_in_nI (by omega) (by omega), ?_⟩
        rw [nIc (show (F 24 (eAt F c b + 3)).toNatClampNeg < 2 ^ 31 by omega), nIc (show eAt F c b + 4 < 2 ^ 31 by omega), e6]
        have e7 : G 25 (F 24 (eAt F c b + 3)).toNatClampNeg = nI (dyT F c b (F 24 (eAt F c b + 3)).toNatClampNeg) := by
          rw [hG]
          have : ¬ (F 24 (eAt F c b + 3)).toNatClampNeg = b := by omega
          simp [g_2, this, daF, f5]
        have hT := dyT_le F c b (F 24 (eAt F c b + 3)).toNatClampNeg
        rw [e7, nI_add]
        refine x9_later (by omega) (by omega) ?_
        refine ⟨m_ok hB, ?_⟩
        have hs := x9_days_end (D := D) hB (c := c) (K := K) (G := G) hb (show max (max (mxN (pd F c) (F 24 (eAt F c b)).toNatClampNeg (F 17 (8 * c + b)).toNatClampNeg 16) (dmT (pd F c) (F 24 (eAt F c b + 1)).toNatClampNeg (F 24 (eAt F c b + 2)).toNatClampNeg 16)) (dyT F c b (F 24 (eAt F c b + 3)).toNatClampNeg + (F 24 (eAt F c b + 4)).toNatClampNeg) < 2 ^ 31 by omega) ?_
        · exact hs
        · have e : min 100000 (max (max (mxN (pd F c) (F 24 (eAt F c b)).toNatClampNeg (F 17 (8 * c + b)).toNatClampNeg 16) (dmT (pd F c) (F 24 (eAt F c b + 1)).toNatClampNeg (F 24 (eAt F c b + 2)).toNatClampNeg 16)) (dyT F c b (F 24 (eAt F c b + 3)).toNatClampNeg + (F 24 (eAt F c b + 4)).toNatClampNeg)) = dayv F c b (dyT F c b) := by
            unfold dayv
            rw [if_neg h17, if_neg hp]
          rw [e, daF_succ F c b G (Or.inr hG)]
          exact h
    · rw [if_neg (show ¬ (16 : Int32) ≤ nI k from nI_ge (b := 16) (by omega) (by omega))]
      simp only [m_ok hB, m_rd2 hB, m_N2 hB, m_R2 hB, m_sR2 hB, m_rd3 hB, m_N3 hB, m_R3 hB, m_sR3 hB, m_rd4 hB, m_N4 hB, m_R4 hB, m_sR4 hB, m_rd6 hB, m_N6 hB, m_R6 hB, m_sR6 hB, m_rd7 hB, m_N7 hB, m_R7 hB, m_sR7 hB, m_rd8 hB, m_N8 hB, m_R8 hB, m_sR8 hB, m_rd9 hB, m_N9 hB, m_R9 hB, m_sR9 hB, m_rd11 hB, m_N11 hB, m_R11 hB, m_sR11 hB, m_rd12 hB, m_N12 hB, m_R12 hB, m_sR12 hB, m_rd13 hB, m_N13 hB, m_R13 hB, m_sR13 hB, m_rd14 hB, m_N14 hB, m_R14 hB, m_sR14 hB, m_rd15 hB, m_N15 hB, m_R15 hB, m_sR15 hB, m_rd16 hB, m_N16 hB, m_R16 hB, m_sR16 hB, m_rd17 hB, m_N17 hB, m_R17 hB, m_sR17 hB, m_rd18 hB, m_N18 hB, m_R18 hB, m_sR18 hB, m_rd20 hB, m_N20 hB, m_R20 hB, m_sR20 hB, m_rd21 hB, m_N21 hB, m_R21 hB, m_sR21 hB, m_rd22 hB, m_N22 hB, m_R22 hB, m_sR22 hB, m_rd23 hB, m_N23 hB, m_R23 hB, m_sR23 hB, m_rd24 hB, m_N24 hB, m_R24 hB, m_sR24 hB, m_rd25 hB, m_N25 hB, m_R25 hB, m_sR25 hB, m_rd27 hB, m_N27 hB, m_R27 hB, m_sR27 hB, m_rd28 hB, m_N28 hB, m_R28 hB, m_sR28 hB, m_rd29 hB, m_N29 hB, m_R29 hB, m_sR29 hB, m_rd30 hB, m_N30 hB, m_R30 hB, m_sR30 hB, m_I0, m_sI0, m_I1, m_sI1, m_I5, m_sI5, m_I10, m_sI10, m_I19, m_sI19, m_I26, m_sI26, m_I31, m_sI31, lt_v, bz0, bz1, true_and]
      refine ⟨vp_in_nI (by omega) (by omega), ?_⟩
      rw [nIc (show eAt F c b < 2 ^ 31 by omega), g24]
      have hs := ih (k + 1) (by omega) (by omega)
      unfold mxN at hs
      have hpk := pd_le hP (show k < 16 by omega)
      have hmk := hm k (by omega)
      cases hb' : (F 24 (eAt F c b)).toNatClampNeg.testBit k with
      | true =>
        rw [if_pos ((bit_ix v1 (by decide) (by omega)).mpr hb')]
        refine x9_provenOn hB hc (by omega) hPG ?_
        rw [g16]
        refine x9_later (by omega) (by omega) ?_
        rw [hb', if_pos rfl] at hs
        rw [nI_1]
        exact hs
      | false =>
        rw [if_neg (fun q => by rw [bit_ix v1 (by decide) (by omega), hb'] at q; exact absurd q (by decide))]
        rw [hb', if_neg (by decide)] at hs
        rw [nI_1]
        exact hs
theorem x9_days_L2 (hB : BM B m ad tg) {c : Nat} {Q : Hp → Prop} (hc : c < 24) (hP : PRc F c) (hC : CoV F c) (h : Q (mS B m tg D (daF F c 8))) : ∀ (fuel b : Nat), b ≤ 8 → 8 < b + fuel → wp_X9_findsDays_L2 m (nI c) Q fuel (mS B m tg D (daF F c b)) (nI b) := by
  intro fuel
  induction fuel with
  | zero => intro i h1 h2; omega
  | succ u ih =>
    intro b h1 h2
    unfold wp_X9_findsDays_L2
    by_cases hi : b = 8
    · subst hi
      rw [if_pos (by decide)]
      exact h
    · rw [if_neg (show ¬ (8 : Int32) ≤ nI b from nI_ge (b := 8) (by omega) (by omega))]
      simp only [m_ok hB, m_rd2 hB, m_N2 hB, m_R2 hB, m_sR2 hB, m_rd3 hB, m_N3 hB, m_R3 hB, m_sR3 hB, m_rd4 hB, m_N4 hB, m_R4 hB, m_sR4 hB, m_rd6 hB, m_N6 hB, m_R6 hB, m_sR6 hB, m_rd7 hB, m_N7 hB, m_R7 hB, m_sR7 hB, m_rd8 hB, m_N8 hB, m_R8 hB, m_sR8 hB, m_rd9 hB, m_N9 hB, m_R9 hB, m_sR9 hB, m_rd11 hB, m_N11 hB, m_R11 hB, m_sR11 hB, m_rd12 hB, m_N12 hB, m_R12 hB, m_sR12 hB, m_rd13 hB, m_N13 hB, m_R13 hB, m_sR13 hB, m_rd14 hB, m_N14 hB, m_R14 hB, m_sR14 hB, m_rd15 hB, m_N15 hB, m_R15 hB, m_sR15 hB, m_rd16 hB, m_N16 hB, m_R16 hB, m_sR16 hB, m_rd17 hB, m_N17 hB, m_R17 hB, m_sR17 hB, m_rd18 hB, m_N18 hB, m_R18 hB, m_sR18 hB, m_rd20 hB, m_N20 hB, m_R20 hB, m_sR20 hB, m_rd21 hB, m_N21 hB, m_R21 hB, m_sR21 hB, m_rd22 hB, m_N22 hB, m_R22 hB, m_sR22 hB, m_rd23 hB, m_N23 hB, m_R23 hB, m_sR23 hB, m_rd24 hB, m_N24 hB, m_R24 hB, m_sR24 hB, m_rd25 hB, m_N25 hB, m_R25 hB, m_sR25 hB, m_rd27 hB, m_N27 hB, m_R27 hB, m_sR27 hB, m_rd28 hB, m_N28 hB, m_R28 hB, m_sR28 hB, m_rd29 hB, m_N29 hB, m_R29 hB, m_sR29 hB, m_rd30 hB, m_N30 hB, m_R30 hB, m_sR30 hB, m_I0, m_sI0, m_I1, m_sI1, m_I5, m_sI5, m_I10, m_sI10, m_I19, m_sI19, m_I26, m_sI26, m_I31, m_sI31, lt_v, bz0, bz1, true_and]
      rw [cix]
      have hs := ih (b + 1) (by omega) (by omega)
      refine ⟨vp_in_nI (by omega) (by omega), vp_in_nI (by omega) (by omega), vp_in_nI (by omega) (by omega), ?_⟩
      rw [nIc (show 8 * c + b < 2 ^ 31 by omega), nIc (show b < 2 ^ 31 by omega), daF_ne F c b 17 (by decide), daF_ne F c b 18 (by decide)]
      by_cases h17 : F 17 (8 * c + b) = -1
      · rw [if_pos h17, nI_1]
        have e := daF_succ F c b _ (Or.inl rfl)
        have e2 : dayv F c b (dyT F c b) = 100000 := by
          unfold dayv
          rw [if_pos h17]
        rw [e2] at e
        rw [show g_2 (daF F c b) 25 b 100000 = daF F c (b + 1) from e]
        exact hs
      · rw [if_neg h17]
        obtain ⟨c1, c2⟩ := hC b (by omega)
        obtain ⟨c3, -⟩ := c2.resolve_left h17
        obtain ⟨e1, -⟩ := ixe c1 (by decide)
        obtain ⟨e2, -⟩ := ixe c3 (by decide)
        rw [e1, eix]
        refine ⟨17, ?_⟩
        have hq := x9_days_L58 (Q := Q) (D := D) (K := wp_X9_findsDays_L2 m (nI c) Q u) hB hc (show b < 8 by omega) hP hC h17 rfl (by rw [nI_1]; exact hs) 17 0 (by omega) (by omega)
        rw [e2]
        exact hq
theorem x9_days (hB : BM B m ad tg) {c : Nat} {Q : Hp → Prop} (hc : c < 24) (hP : PRc F c) (hC : CoV F c) (h : Q (mS B m tg D (daF F c 8))) : wp_X9_findsDays (mS B m tg D F) m (nI c) Q := by
  unfold wp_X9_findsDays
  have e : daF F c 0 = F := by
    funext j i
    simp [daF]
  have := x9_days_L2 (D := D) hB hc hP hC h 9 0 (by omega) (by omega)
  rw [e] at this
  exact ⟨9, this⟩
/-- badges earned by day t -/
def eaN (F : Nat → Nat → Int32) (c t : Nat) : Nat → Nat := ct (fun b => decide (dyT F c 8 b ≤ t))
theorem x9_earnedBy_L (hB : BM B m ad tg) {c d : Nat} (hd : D 0 = nI d) (hd2 : d < 10000) (h : Q (nI (eaN F c d 8)) (mS B m tg D (daF F c 8))) : ∀ (fuel k : Nat), k ≤ 8 → 8 < k + fuel → wp_X9_earnedBy_L9 m (nI c) Q fuel (mS B m tg D (daF F c 8)) (nI (eaN F c d k)) (nI k) := by
  intro fuel
  induction fuel with
  | zero => intro i h1 h2; omega
  | succ u ih =>
    intro k h1 h2
    unfold wp_X9_earnedBy_L9
    by_cases hi : k = 8
    · subst hi
      rw [if_pos (by decide)]
      exact h
    · rw [if_neg (show ¬ (8 : Int32) ≤ nI k from nI_ge (b := 8) (by omega) (by omega))]
      simp only [m_ok hB, m_rd2 hB, m_N2 hB, m_R2 hB, m_sR2 hB, m_rd3 hB, m_N3 hB, m_R3 hB, m_sR3 hB, m_rd4 hB, m_N4 hB, m_R4 hB, m_sR4 hB, m_rd6 hB, m_N6 hB, m_R6 hB, m_sR6 hB, m_rd7 hB, m_N7 hB, m_R7 hB, m_sR7 hB, m_rd8 hB, m_N8 hB, m_R8 hB, m_sR8 hB, m_rd9 hB, m_N9 hB, m_R9 hB, m_sR9 hB, m_rd11 hB, m_N11 hB, m_R11 hB, m_sR11 hB, m_rd12 hB, m_N12 hB, m_R12 hB, m_sR12 hB, m_rd13 hB, m_N13 hB, m_R13 hB, m_sR13 hB, m_rd14 hB, m_N14 hB, m_R14 hB, m_sR14 hB, m_rd15 hB, m_N15 hB, m_R15 hB, m_sR15 hB, m_rd16 hB, m_N16 hB, m_R16 hB, m_sR16 hB, m_rd17 hB, m_N17 hB, m_R17 hB, m_sR17 hB, m_rd18 hB, m_N18 hB, m_R18 hB, m_sR18 hB, m_rd20 hB, m_N20 hB, m_R20 hB, m_sR20 hB, m_rd21 hB, m_N21 hB, m_R21 hB, m_sR21 hB, m_rd22 hB, m_N22 hB, m_R22 hB, m_sR22 hB, m_rd23 hB, m_N23 hB, m_R23 hB, m_sR23 hB, m_rd24 hB, m_N24 hB, m_R24 hB, m_sR24 hB, m_rd25 hB, m_N25 hB, m_R25 hB, m_sR25 hB, m_rd27 hB, m_N27 hB, m_R27 hB, m_sR27 hB, m_rd28 hB, m_N28 hB, m_R28 hB, m_sR28 hB, m_rd29 hB, m_N29 hB, m_R29 hB, m_sR29 hB, m_rd30 hB, m_N30 hB, m_R30 hB, m_sR30 hB, m_I0, m_sI0, m_I1, m_sI1, m_I5, m_sI5, m_I10, m_sI10, m_I19, m_sI19, m_I26, m_sI26, m_I31, m_sI31, lt_v, bz0, bz1, true_and]
      refine ⟨vp_in_nI (by omega) (by omega), ?_⟩
      have hs := ih (k + 1) (by omega) (by omega)
      have hT := dyT_le F c 8 k
      rw [nIc (by omega), hd, show daF F c 8 25 k = nI (dyT F c 8 k) by simp [daF, show k < 8 by omega]]
      by_cases q : dyT F c 8 k ≤ d
      · rw [if_neg (show ¬ nI d < nI (dyT F c 8 k) by rw [i_lt, nI_toInt (by omega), nI_toInt (by omega)]; omega), nI_1, nI_1]
        simpa [eaN, ct, q] using hs
      · rw [if_pos (show nI d < nI (dyT F c 8 k) by rw [i_lt, nI_toInt (by omega), nI_toInt (by omega)]; omega), nI_1, nI_addz]
        simpa [eaN, ct, q] using hs
theorem x9_earnedBy (hB : BM B m ad tg) {c d : Nat} (hd : D 0 = nI d) (hd2 : d < 10000) (hc : c < 24) (hP : PRc F c) (hC : CoV F c) (h : Q (nI (eaN F c d 8)) (mS B m tg D (daF F c 8))) : wp_X9_earnedBy (mS B m tg D F) m (nI c) Q := by
  unfold wp_X9_earnedBy
  exact ⟨m_ok hB, x9_days hB hc hP hC ⟨9, x9_earnedBy_L hB hd hd2 h 9 0 (by omega) (by omega)⟩⟩
end MBADGE
