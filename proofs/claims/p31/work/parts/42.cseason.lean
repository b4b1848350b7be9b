/-! THE CLASS: a season -/
section CSEASON
variable {S : Hp} {x : Nat} {A : Nat → Nat → Nat} {n nT nL nE : Nat} {D : Nat → Int32} {F : Nat → Nat → Int32} {Q : Int32 → Hp → Prop} {EQ : String → Hp → Prop}
/-- the rows of the reference that the class's heap speaks of -/
def usd : List Nat := [2, 3, 4, 6, 7, 8, 9, 11, 12, 13, 14, 16, 17, 18, 20, 21, 22, 23, 24, 27, 28]
theorem cs_cg {F' : Nat → Nat → Int32} (h : CS S x A n nT nL nE D F) (e : ∀ j, j ∈ usd → F' j = F j) : CS S x A n nT nL nE D F' := by
  obtain ⟨h0, h1, h2, h3, h4, h5, h6, h7, h8, h9, h10⟩ := h
  have e23 : cntF n nT nL nE F' = cntF n nT nL nE F := by
    funext q
    unfold cntF edn
    rw [e 23 (by decide)]
  refine ⟨h0, by rw [e23]; exact h1, h2, P_3_cA (A := A) (F := F) rfl (e 2 (by decide)) (e 3 (by decide)) (e 4 (by decide)) h3, P_4_cA (A := A) (F := F) rfl (e 6 (by decide)) (e 7 (by decide)) (e 8 (by decide)) (e 9 (by decide)) (e 11 (by decide)) (e 12 (by decide)) (e 13 (by decide)) (e 14 (by decide)) h4, P_5_cA (A := A) (F := F) rfl rfl (e 16 (by decide)) h5, P_6_cA (A := A) (F := F) rfl rfl rfl rfl (e 16 (by decide)) (e 17 (by decide)) (e 18 (by decide)) (e 24 (by decide)) h6, P_7_cA (A := A) (F := F) rfl rfl (e 20 (by decide)) (e 21 (by decide)) (e 22 (by decide)) h7, P_8_cA (A := A) (F := F) rfl (e 27 (by decide)) (e 28 (by decide)) h8, P_9_cA (A := A) (F := F) rfl (e 23 (by decide)) (e 24 (by decide)) h9, h10⟩
theorem cs_D {D' : Nat → Int32} (h : CS S x A n nT nL nE D F) (e0 : D' 0 = D 0) (e10 : D' 10 = D 10) : CS S x A n nT nL nE D' F := ⟨⟨h.1.1, h.1.2.1, h.1.2.2.1.trans e0.symm, h.1.2.2.2.trans e10.symm⟩, h.2⟩
theorem lk_size {m la d c : Nat} {el : Nat → Nat} {K : Int32 → Hp → Prop} (hx : okA S 8 x) (hp : g_P S m x = some la) (hl : LK S la d c el) (hK : K (nI c) S) : okA S 8 x ∧ rd S 10 (g_P S m x) (fun a => wp_Jx4a65c_size_8abf5 S a K) := by
  refine ⟨hx, ?_⟩
  rw [hp, rdS]
  exact ⟨hl.1, c_size hl hK⟩
theorem lk_get {m la d c i κ : Nat} {el : Nat → Nat} {K : Option Nat → Hp → Prop} (hx : okA S 8 x) (hp : g_P S m x = some la) (hl : LK S la d c el) (hi : i < c) (hk : okA S κ (el i)) (hK : K (some (el i)) S) : okA S 8 x ∧ rd S 10 (g_P S m x) (fun a => wp_Jx4a65c_get_915e3 S a (nI i) (fun r S' => (∀ a, r = some a → okA S' κ a) ∧ K r S')) := by
  refine ⟨hx, ?_⟩
  rw [hp, rdS]
  exact ⟨hl.1, c_get hl hi ⟨fun a e => by cases e; exact hk, hK⟩⟩
/-- one turn of a loop over a list -/
theorem lk_turn {m la d c i κ : Nat} {el : Nat → Nat} {Q : Int32 → Hp → Prop} {K : Option Nat → Hp → Prop} (hx : okA S 8 x) (hp : g_P S m x = some la) (hl : LK S la d c el) (hc : c < 2 ^ 31) (hi : i ≤ c) (hk : ∀ j, j < c → okA S κ (el j)) (h0 : i = c → Q (nI i) S) (h1 : i < c → K (some (el i)) S) : okA S 8 x ∧ rd S 10 (g_P S m x) (fun a2 => wp_Jx4a65c_size_8abf5 S a2 (fun r6 S5 => if r6 ≤ nI i then Q r6 S5 else (okA S5 8 x ∧ (rd S5 10 (g_P S5 m x) (fun a8 => wp_Jx4a65c_get_915e3 S5 a8 (nI i) (fun r12 S11 => (∀ a, r12 = some a → okA S11 κ a) ∧ K r12 S11)))))) := by
  refine lk_size hx hp hl ?_
  show if nI c ≤ nI i then _ else _
  by_cases e : c ≤ i
  · rw [if_pos (nI_le e (by omega))]
    have : i = c := by omega
    subst this
    exact h0 rfl
  · rw [if_neg (nI_ge (by omega) hc)]
    exact lk_get hx hp hl (by omega) (hk i (by omega)) (h1 (by omega))
theorem cs_turnT {i : Nat} {Q : Int32 → Hp → Prop} {K : Option Nat → Hp → Prop} (h : CS S x A n nT nL nE D F) (h6 : nT ≤ 6) (hi : i ≤ nT) (h0 : i = nT → Q (nI i) S) (h1 : i < nT → K (some (A 7 i)) S) : okA S 8 x ∧ rd S 10 (g_P S 800 x) (fun a2 => wp_Jx4a65c_size_8abf5 S a2 (fun r6 S5 => if r6 ≤ nI i then Q r6 S5 else (okA S5 8 x ∧ (rd S5 10 (g_P S5 800 x) (fun a8 => wp_Jx4a65c_get_915e3 S5 a8 (nI i) (fun r12 S11 => (∀ a, r12 = some a → okA S11 7 a) ∧ K r12 S11)))))) :=
  lk_turn (el := A 7) h.1.1 h.1.2.1.1 (cs_L h (show 0 < 12 by decide)) (by show nT < _; omega) hi (fun j hj => (h.2.2.2.1 j hj).1) h0 h1
/-! sets -/
def bs (p : Nat → Bool) : Nat → Nat
  | 0 => 0
  | k + 1 => if p k then bs p k ||| 2 ^ k else bs p k
theorem bs_bit (p : Nat → Bool) : ∀ k i, (bs p k).testBit i = (decide (i < k) && p i)
  | 0, i => by simp [bs]
  | k + 1, i => by
    unfold bs
    by_cases e : i = k
    · subst e
      cases hp : p i with
      | true =>
        rw [if_pos rfl, fb_bit_set]
        simp
      | false =>
        rw [if_neg (by decide), bs_bit p i i]
        simp
    · have e2 : decide (i < k + 1) = decide (i < k) := by
        by_cases q : i < k
        · simp [q, show i < k + 1 by omega]
        · simp [q, show ¬ i < k + 1 by omega]
      cases hp : p k with
      | true =>
        rw [if_pos rfl, fb_bit_set, bs_bit p k i, e2]
        simp [e]
      | false =>
        rw [if_neg (by decide), bs_bit p k i, e2]
theorem bs_lt (p : Nat → Bool) (k : Nat) : bs p k < 2 ^ k := by
  induction k with
  | zero => exact Nat.one_pos
  | succ k ih =>
    have h2 : 2 ^ k < 2 ^ (k + 1) := Nat.pow_lt_pow_right (by decide) (by omega)
    unfold bs
    split
    · exact Nat.or_lt_two_pow (Nat.lt_trans ih h2) h2
    · exact Nat.lt_trans ih h2
theorem bs_or (p q : Nat → Bool) (k : Nat) : bs p k ||| bs q k = bs (fun i => p i || q i) k := by
  apply Nat.eq_of_testBit_eq
  intro i
  rw [Nat.testBit_or, bs_bit, bs_bit, bs_bit]
  cases decide (i < k) <;> rfl
theorem bs_cg {p q : Nat → Bool} {k : Nat} (h : ∀ i, i < k → p i = q i) : bs p k = bs q k := by
  apply Nat.eq_of_testBit_eq
  intro i
  rw [bs_bit, bs_bit]
  by_cases hi : i < k
  · rw [h i hi]
  · simp [hi]
theorem bs_pop {p : Nat → Bool} {k N : Nat} (h : k ≤ N) : pop (bs p k) N = ct p k := by
  have e : N = k + (N - k) := by omega
  unfold pop
  have hz : fb_ct (fun j => (bs p k).testBit (k + j)) (N - k) = 0 := fb_ct_zero.mpr (fun i hi => by
    rw [bs_bit, decide_eq_false (show ¬ k + i < k by omega)]
    rfl)
  rw [ct_fb, ct_fb, e, fb_ct_split, hz, Nat.add_zero]
  exact fb_ct_cong (fun i hi => by rw [bs_bit]; simp [hi])
theorem bs_lt24 {p : Nat → Bool} {k : Nat} (h : k ≤ 24) : bs p k < 16777216 := Nat.lt_of_lt_of_le (bs_lt p k) (Nat.pow_le_pow_right (by decide) h)
/-! all are a year older -/
def agF (F : Nat → Nat → Int32) (k : Nat) : Nat → Nat → Int32 := fun j i => if j = 6 ∧ i < k then F 6 i + 1 else F j i
theorem agF_s (F : Nat → Nat → Int32) (k : Nat) : g_2 (agF F k) 6 k (agF F k 6 k + 1) = agF F (k + 1) := by
  funext j i
  unfold g_2 agF
  by_cases h : j = 6 ∧ i = k
  · obtain ⟨rfl, rfl⟩ := h
    simp
  · rw [if_neg h]
    by_cases h2 : j = 6 ∧ i < k
    · rw [if_pos h2, if_pos ⟨h2.1, by omega⟩]
    · rw [if_neg h2, if_neg (fun w => by omega)]
/-! those who leave -/
def u7 (F : Nat → Nat → Int32) (i : Nat) : Nat := (F 7 i).toNatClampNeg
def u8 (F : Nat → Nat → Int32) (i : Nat) : Nat := (F 8 i).toNatClampNeg
def gnB (F : Nat → Nat → Int32) (t k i : Nat) : Bool := lfB F i && (decide (u7 F i < t) || decide (u7 F i = t) && decide (i < k)) || wfB F i && (decide (u8 F i < t) || decide (u8 F i = t) && decide (i < k))
def soF (F : Nat → Nat → Int32) (n t k : Nat) : Nat → Nat → Int32 := fun j i => if i < n then (if j = 6 then F 6 i + 1 else if gnB F t k i = true ∧ (j = 7 ∨ j = 8 ∨ j = 11) then -1 else F j i) else F j i
theorem soF_0 (F : Nat → Nat → Int32) (n : Nat) : soF F n 0 0 = agF F n := by
  funext j i
  have e : gnB F 0 0 i = false := by simp [gnB]
  unfold soF agF
  rw [e]
  by_cases hi : i < n
  · rw [if_pos hi]
    by_cases hj : j = 6
    · subst hj
      rw [if_pos rfl, if_pos ⟨rfl, hi⟩]
    · rw [if_neg hj, if_neg (fun w => absurd w.1 (by decide)), if_neg (fun w => hj w.1)]
  · rw [if_neg hi, if_neg (fun w => hi w.2)]
theorem gnB_t (F : Nat → Nat → Int32) {n t i : Nat} (hi : i < n) : gnB F t n i = gnB F (t + 1) 0 i := by
  unfold gnB
  have e : ∀ u : Nat, (decide (u < t) || decide (u = t) && decide (i < n)) = (decide (u < t + 1) || decide (u = t + 1) && decide (i < 0)) := fun u => by
    by_cases h1 : u < t
    · simp [h1, show u < t + 1 by omega]
    · by_cases h2 : u = t
      · simp [h2, hi]
      · simp [h1, h2, show ¬ u < t + 1 by omega]
  rw [e, e]
theorem soF_t (F : Nat → Nat → Int32) (n t : Nat) : soF F n t n = soF F n (t + 1) 0 := by
  funext j i
  unfold soF
  by_cases hi : i < n
  · rw [if_pos hi, if_pos hi, gnB_t F hi]
  · rw [if_neg hi, if_neg hi]
theorem gnB_k (F : Nat → Nat → Int32) {t k i : Nat} (hi : i ≠ k) : gnB F t (k + 1) i = gnB F t k i := by
  unfold gnB
  have e : decide (i < k + 1) = decide (i < k) := by
    by_cases q : i < k
    · simp [q, show i < k + 1 by omega]
    · simp [q, show ¬ i < k + 1 by omega]
  rw [e]
theorem gnB_k0 (F : Nat → Nat → Int32) (t k : Nat) : gnB F t k k = (lfB F k && decide (u7 F k < t) || wfB F k && decide (u8 F k < t)) := by
  simp [gnB]
theorem gnB_k1 (F : Nat → Nat → Int32) (t k : Nat) : gnB F t (k + 1) k = (lfB F k && decide (u7 F k ≤ t) || wfB F k && decide (u8 F k ≤ t)) := by
  unfold gnB
  have e : ∀ u : Nat, (decide (u < t) || decide (u = t) && decide (k < k + 1)) = decide (u ≤ t) := fun u => by
    by_cases h1 : u < t
    · simp [h1, show u ≤ t by omega]
    · by_cases h2 : u = t
      · simp [h2]
      · simp [h1, h2, show ¬ u ≤ t by omega]
  rw [e, e]
theorem soF_same {F : Nat → Nat → Int32} {n t k : Nat} (h : gnB F t (k + 1) k = gnB F t k k) : soF F n t (k + 1) = soF F n t k := by
  funext j i
  unfold soF
  by_cases e : i = k
  · subst e
    rw [h]
  · rw [gnB_k F e]
theorem soF_out {F : Nat → Nat → Int32} {n t k : Nat} (hk : k < n) (h : gnB F t (k + 1) k = true) : soF F n t (k + 1) = wOut (soF F n t k) k := by
  funext j i
  by_cases e : i = k
  · subst e
    by_cases h6 : j = 6
    · subst h6
      simp [soF, wOut, gOut, g_2, hk]
    · by_cases h7 : j = 7 ∨ j = 8 ∨ j = 11
      · unfold soF
        rw [if_pos hk, if_neg h6, if_pos ⟨h, h7⟩]
        unfold wOut gOut g_2
        rcases h7 with rfl | rfl | rfl <;> simp
      · unfold soF
        rw [if_pos hk, if_neg h6, if_neg (fun w => h7 w.2)]
        have h77 : j ≠ 7 := fun w => h7 (Or.inl w)
        have h78 : j ≠ 8 := fun w => h7 (Or.inr (Or.inl w))
        have h711 : j ≠ 11 := fun w => h7 (Or.inr (Or.inr w))
        simp [wOut, gOut, g_2, hk, h6, h77, h78, h711]
  · have e1 : wOut (soF F n t k) k j i = soF F n t k j i := by simp [wOut, gOut, g_2, e]
    rw [e1]
    unfold soF
    rw [gnB_k F e]
theorem lfB_t {F : Nat → Nat → Int32} {n N k t : Nat} (hP : PL F n N) (hk : k < n) (hN : N ≤ 6) (h : lfB F k = true) (hu : u7 F k = t) : F 7 k = nI t ∧ t < N ∧ ofA F t (F 6 k + 1) = true := by
  unfold lfB at h
  unfold u7 at hu
  rw [hu] at h
  simp only [Bool.and_eq_true, Bool.not_eq_true', decide_eq_false_iff_not] at h
  rcases (hP k hk).1 with e | ⟨v, hv, e⟩
  · exact absurd e h.1
  · rw [e, nIc (by omega)] at hu
    subst hu
    exact ⟨e, hv, h.2⟩
theorem wfB_t {F : Nat → Nat → Int32} {n N k t : Nat} (hP : PL F n N) (hk : k < n) (hN : N ≤ 6) (h : wfB F k = true) (hu : u8 F k = t) : F 8 k = nI t ∧ t < N ∧ ofA F t (F 6 k + 1) = true := by
  unfold wfB at h
  unfold u8 at hu
  rw [hu] at h
  simp only [Bool.and_eq_true, Bool.not_eq_true', decide_eq_false_iff_not] at h
  rcases (hP k hk).2.1 with e | ⟨v, hv, e⟩
  · exact absurd e h.1
  · rw [e, nIc (by omega)] at hu
    subst hu
    exact ⟨e, hv, h.2⟩
theorem soF_ofA (F : Nat → Nat → Int32) (n t k s : Nat) (a : Int32) : ofA (soF F n t k) s a = ofA F s a := by
  unfold ofA soF
  by_cases hs : s < n <;> simp [hs]
/-- those of troop t who leave, of the children below k -/
def lvB (F : Nat → Nat → Int32) (t i : Nat) : Bool := lfB F i && decide (u7 F i = t)
theorem c8_sendOutOf {t : Nat} (hP : PL F n nT) (h24 : n ≤ 24) (h6 : nT ≤ 6) (ht : t < nT) (h : CS S x A n nT nL nE D (soF F n t 0)) (hQ : ∀ S', CS S' x A n nT nL nE D (soF F n (t + 1) 0) → Q (nI (bs (lvB F t) n)) S') : wp_X8_sendOutOf S x (some (A 7 t)) Q := by
  have hL : ∀ (fuel k : Nat) (S : Hp), CS S x A n nT nL nE D (soF F n t k) → k ≤ n → n < k + fuel → wp_X8_sendOutOf_L4 x (some (A 7 t)) Q fuel S (nI (bs (lvB F t) k)) (nI k) := by
    intro fuel
    induction fuel with
    | zero => intro k S _ h1 h2; omega
    | succ f ih =>
      intro k S h h1 h2
      unfold wp_X8_sendOutOf_L4
      refine cs_turn (Q := fun _ S => Q _ S) (K := fun r12 S11 => rd S11 1 r12 _) h h24 h1 (fun e => ?_) (fun hk => ?_)
      · subst e
        rw [soF_t] at h
        exact hQ _ h
      · obtain ⟨c0, -, c6, c7, c8, -⟩ := cs_c h hk
        obtain ⟨p0, p1, -⟩ := h.2.2.2.1 t ht
        show rd S 1 (some (A 1 k)) _
        rw [rdS]
        refine ⟨c0, ?_⟩
        rw [rdS]
        refine ⟨p0, c8_isFor h ht ?_⟩
        have e6 : soF F n t k 6 k = F 6 k + 1 := by simp [soF, hk]
        rw [c6, e6, soF_ofA, show nI k + 1 = nI (k + 1) from nI_add k 1]
        have e7 : soF F n t k 7 k = if gnB F t k k = true then -1 else F 7 k := by
          simp [soF, hk]
        have e8 : soF F n t k 8 k = if gnB F t k k = true then -1 else F 8 k := by
          simp [soF, hk]
        have hne : ¬ (-1 : Int32) = nI t := fun w => nI_m1 (show t < 2 ^ 31 by omega) w.symm
        cases ho : ofA F t (F 6 k + 1) with
        | false =>
          rw [if_neg (show ¬ bI (!false) = 0 by decide)]
          have b1 : lvB F t k = false := by
            cases q : lvB F t k with
            | false => rfl
            | true =>
              unfold lvB at q
              simp only [Bool.and_eq_true, decide_eq_true_eq] at q
              rw [(lfB_t hP hk h6 q.1 q.2).2.2] at ho
              exact absurd ho (by decide)
          have b2 : (bs (lvB F t) (k + 1)) = bs (lvB F t) k := by
            rw [show bs (lvB F t) (k + 1) = if lvB F t k then bs (lvB F t) k ||| 2 ^ k else bs (lvB F t) k from rfl, b1]
            rfl
          rw [← b2]
          refine ih (k + 1) S ?_ (by omega) (by omega)
          rw [soF_same]
          · exact h
          · rw [gnB_k1, gnB_k0]
            have q1 : lfB F k = true → ¬ u7 F k = t := fun a b => by
              rw [(lfB_t hP hk h6 a b).2.2] at ho
              exact absurd ho (by decide)
            have q2 : wfB F k = true → ¬ u8 F k = t := fun a b => by
              rw [(wfB_t hP hk h6 a b).2.2] at ho
              exact absurd ho (by decide)
            congr 1
            · cases ql : lfB F k with
              | false => rfl
              | true =>
                have := q1 ql
                have e : decide (u7 F k ≤ t) = decide (u7 F k < t) := decide_eq_decide.mpr (by omega)
                rw [e]
            · cases ql : wfB F k with
              | false => rfl
              | true =>
                have := q2 ql
                have e : decide (u8 F k ≤ t) = decide (u8 F k < t) := decide_eq_decide.mpr (by omega)
                rw [e]
        | true =>
          rw [if_pos (show bI (!true) = 0 from rfl), rdS]
          refine ⟨c0, ?_⟩
          rw [rdS]
          refine ⟨p0, ?_⟩
          rw [c7, p1, e7]
          by_cases hg : gnB F t k k = true
          · have hg1 : gnB F t (k + 1) k = true := by
              rw [gnB_k0] at hg
              rw [gnB_k1]
              simp only [Bool.or_eq_true, Bool.and_eq_true, decide_eq_true_eq] at hg ⊢
              rcases hg with w | w
              · exact Or.inl ⟨w.1, by omega⟩
              · exact Or.inr ⟨w.1, by omega⟩
            rw [if_pos hg, if_neg hne, rdS]
            refine ⟨c0, ?_⟩
            rw [rdS]
            refine ⟨p0, ?_⟩
            rw [c8, p1, e8, if_pos hg, if_neg hne]
            have b1 : lvB F t k = false := by
              cases q : lvB F t k with
              | false => rfl
              | true =>
                unfold lvB at q
                simp only [Bool.and_eq_true, decide_eq_true_eq] at q
                have w := lfB_t hP hk h6 q.1 q.2
                rw [gnB_k0] at hg
                simp only [Bool.or_eq_true, Bool.and_eq_true, decide_eq_true_eq] at hg
                rcases hg with v | v
                · omega
                · have v2 := wfB_t hP hk h6 v.1 rfl
                  rcases (hP k hk).2.2 with z | z
                  · rw [v2.1] at z
                    exact absurd z (nI_m1 (by omega))
                  · rw [w.1] at z
                    exact absurd z.1 (nI_m1 (by omega))
            have b2 : (bs (lvB F t) (k + 1)) = bs (lvB F t) k := by
              rw [show bs (lvB F t) (k + 1) = if lvB F t k then bs (lvB F t) k ||| 2 ^ k else bs (lvB F t) k from rfl, b1]
              rfl
            rw [← b2]
            refine ih (k + 1) S ?_ (by omega) (by omega)
            rw [soF_same (hg1.trans hg.symm)]
            exact h
          · rw [if_neg hg]
            have hg0 : gnB F t k k = false := by
              cases q : gnB F t k k with
              | false => rfl
              | true => exact absurd q hg
            by_cases h7 : F 7 k = nI t
            · rw [if_pos h7, lt_v, rdS]
              have hu : u7 F k = t := by
                unfold u7
                rw [h7, nIc (by omega)]
              have hlf : lfB F k = true := by
                unfold lfB
                rw [show (F 7 k).toNatClampNeg = t from hu, ho, h7]
                simp [nI_m1 (show t < 2 ^ 31 by omega)]
              have b1 : lvB F t k = true := by
                unfold lvB
                rw [hlf, hu]
                simp
              refine ⟨c0, c1_goOut h hk (fun S' h' => ?_)⟩
              have b2 : nI (bs (lvB F t) k) ||| ((1 : Int32) <<< (nI k &&& 31)) = nI (bs (lvB F t) (k + 1)) := by
                rw [show bs (lvB F t) (k + 1) = if lvB F t k then bs (lvB F t) k ||| 2 ^ k else bs (lvB F t) k from rfl, b1, if_pos rfl, sh_1 (by omega), fa_or]
              rw [b2]
              refine ih (k + 1) S' ?_ (by omega) (by omega)
              rw [soF_out hk]
              · exact h'
              · rw [gnB_k1, hlf]
                simp only [Bool.true_and, Bool.or_eq_true, decide_eq_true_eq]
                exact Or.inl (by omega)
            · rw [if_neg h7, rdS]
              refine ⟨c0, ?_⟩
              rw [rdS]
              refine ⟨p0, ?_⟩
              rw [c8, p1, e8, if_neg hg]
              have b1 : lvB F t k = false := by
                cases q : lvB F t k with
                | false => rfl
                | true =>
                  unfold lvB at q
                  simp only [Bool.and_eq_true, decide_eq_true_eq] at q
                  exact absurd (lfB_t hP hk h6 q.1 q.2).1 h7
              have b2 : (bs (lvB F t) (k + 1)) = bs (lvB F t) k := by
                rw [show bs (lvB F t) (k + 1) = if lvB F t k then bs (lvB F t) k ||| 2 ^ k else bs (lvB F t) k from rfl, b1]
                rfl
              by_cases h8 : F 8 k = nI t
              · rw [if_pos h8, rdS]
                have hu : u8 F k = t := by
                  unfold u8
                  rw [h8, nIc (by omega)]
                have hwf : wfB F k = true := by
                  unfold wfB
                  rw [show (F 8 k).toNatClampNeg = t from hu, ho, h8]
                  simp [nI_m1 (show t < 2 ^ 31 by omega)]
                refine ⟨c0, c1_goOut h hk (fun S' h' => ?_)⟩
                rw [← b2]
                refine ih (k + 1) S' ?_ (by omega) (by omega)
                rw [soF_out hk]
                · exact h'
                · rw [gnB_k1, hwf]
                  simp only [Bool.true_and, Bool.or_eq_true, decide_eq_true_eq]
                  exact Or.inr (by omega)
              · rw [if_neg h8, ← b2]
                refine ih (k + 1) S ?_ (by omega) (by omega)
                rw [soF_same]
                · exact h
                · rw [gnB_k1, gnB_k0]
                  congr 1
                  · cases ql : lfB F k with
                    | false => rfl
                    | true =>
                      have : ¬ u7 F k = t := fun w => h7 (lfB_t hP hk h6 ql w).1
                      have e : decide (u7 F k ≤ t) = decide (u7 F k < t) := decide_eq_decide.mpr (by omega)
                      rw [e]
                  · cases ql : wfB F k with
                    | false => rfl
                    | true =>
                      have : ¬ u8 F k = t := fun w => h8 (wfB_t hP hk h6 ql w).1
                      have e : decide (u8 F k ≤ t) = decide (u8 F k < t) := decide_eq_decide.mpr (by omega)
                      rw [e]
  unfold wp_X8_sendOutOf
  exact ⟨n + 1, hL (n + 1) 0 S h (by omega) (by omega)⟩
def lwB (F : Nat → Nat → Int32) (t i : Nat) : Bool := lfB F i && decide (u7 F i < t)
theorem c8_sendOut (hP : PL F n nT) (h24 : n ≤ 24) (h6 : nT ≤ 6) (h : CS S x A n nT nL nE D (soF F n 0 0)) (hQ : ∀ S', CS S' x A n nT nL nE D (soF F n nT 0) → Q (nI (bs (lfB F) n)) S') : wp_X8_sendOutByAge S x Q := by
  have hL : ∀ (fuel t : Nat) (S : Hp), CS S x A n nT nL nE D (soF F n t 0) → t ≤ nT → nT < t + fuel → wp_X8_sendOutByAge_L4 x Q fuel S (nI (bs (lwB F t) n)) (nI t) := by
    intro fuel
    induction fuel with
    | zero => intro k S _ h1 h2; omega
    | succ f ih =>
      intro t S h h1 h2
      unfold wp_X8_sendOutByAge_L4
      refine cs_turnT (Q := fun _ S => Q _ S) (K := fun r12 S11 => okA S11 8 x ∧ wp_X8_sendOutOf S11 x r12 _) h h6 h1 (fun e => ?_) (fun ht => ?_)
      · subst e
        have e : bs (lwB F t) n = bs (lfB F) n := bs_cg (fun i hi => by
          unfold lwB
          cases q : lfB F i with
          | false => rfl
          | true =>
            have := (lfB_t hP hi h6 q rfl).2.1
            simp [this])
        rw [e]
        exact hQ _ h
      · refine ⟨h.1.1, c8_sendOutOf hP h24 h6 ht h (fun S' h' => ?_)⟩
        rw [lt_v, fa_or, bs_or, show nI t + 1 = nI (t + 1) from nI_add t 1]
        have e : bs (fun i => lwB F t i || lvB F t i) n = bs (lwB F (t + 1)) n := bs_cg (fun i hi => by
          unfold lwB lvB
          have e : decide (u7 F i < t + 1) = (decide (u7 F i < t) || decide (u7 F i = t)) := by
            by_cases q : u7 F i < t
            · simp [q, show u7 F i < t + 1 by omega]
            · by_cases q2 : u7 F i = t
              · simp [q2]
              · simp [q, q2, show ¬ u7 F i < t + 1 by omega]
          rw [e]
          cases lfB F i <;> rfl)
        rw [e]
        exact ih (t + 1) S' h' (by omega) (by omega)
  unfold wp_X8_sendOutByAge
  have e0 : bs (lwB F 0) n = 0 := by
    rw [show bs (lwB F 0) n = bs (fun _ => false) n from bs_cg (fun i hi => by simp [lwB])]
    apply Nat.eq_of_testBit_eq
    intro i
    rw [bs_bit]
    simp
  have := hL (nT + 1) 0 S h (by omega) (by omega)
  rw [e0] at this
  exact ⟨nT + 1, this⟩
theorem soF_end (hP : PL F n nT) (h6 : nT ≤ 6) : ∀ j, j ∈ usd → s1 F n j = soF F n nT 0 j := fun j hj => by
  funext i
  have h15 : j ≠ 15 := fun w => by subst w; exact absurd hj (by decide)
  rw [s1_at]
  unfold soF
  by_cases hi : i < n
  · rw [if_pos hi, if_pos hi]
    have eg : gnB F nT 0 i = (lfB F i || wfB F i) := by
      unfold gnB
      congr 1
      · cases q : lfB F i with
        | false => rfl
        | true =>
          have := (lfB_t hP hi h6 q rfl).2.1
          simp [this]
      · cases q : wfB F i with
        | false => rfl
        | true =>
          have := (wfB_t hP hi h6 q rfl).2.1
          simp [this]
    rw [eg]
    have n1 : lfB F i = true → F 8 i = -1 := fun q => by
      rcases (hP i hi).2.2 with w | w
      · exact w
      · have := (lfB_t hP hi h6 q rfl)
        rw [this.1] at w
        exact absurd w.1 (nI_m1 (by omega))
    have n2 : wfB F i = true → F 7 i = -1 ∧ F 11 i = -1 := fun q => by
      rcases (hP i hi).2.2 with w | w
      · have := (wfB_t hP hi h6 q rfl)
        rw [this.1] at w
        exact absurd w (nI_m1 (by omega))
      · exact w
    unfold stp
    rw [if_pos rfl]
    by_cases a6 : j = 6
    · rw [if_pos a6, if_pos a6]
    rw [if_neg a6, if_neg a6]
    by_cases a7 : j = 7
    · subst a7
      rw [if_pos rfl]
      cases q1 : lfB F i <;> cases q2 : wfB F i <;> simp
      exact (n2 q2).1
    rw [if_neg a7]
    by_cases a11 : j = 11
    · subst a11
      rw [if_pos rfl]
      cases q1 : lfB F i <;> cases q2 : wfB F i <;> simp
      exact (n2 q2).2
    rw [if_neg a11]
    by_cases a8 : j = 8
    · subst a8
      rw [if_pos rfl]
      cases q1 : lfB F i <;> cases q2 : wfB F i <;> simp
      exact n1 q1
    rw [if_neg a8, if_neg h15, if_neg (fun w => by rcases w.2 with w | w | w <;> contradiction)]
  · rw [if_neg hi, if_neg hi]
end CSEASON
