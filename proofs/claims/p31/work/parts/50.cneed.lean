/-! THE CLASS: what an event needs; why -/
section CNEED
variable {S : Hp} {x : Nat} {A : Nat → Nat → Nat} {n nT nL nE : Nat} {D : Nat → Int32} {F : Nat → Nat → Int32} {Q : Int32 → Hp → Prop} {EQ : String → Hp → Prop}
theorem c8_perLeader {k : Nat} (hk : k < 4) (hQ : Q (nI (rtN k)) S) : wp_X8_childrenPerLeader S (nI k) Q := by
  unfold wp_X8_childrenPerLeader
  unfold rtN at hQ
  rcases (show k = 0 ∨ k = 1 ∨ k = 2 ∨ k = 3 by omega) with rfl | rfl | rfl | rfl
  · rw [if_neg (by decide), if_neg (by decide), if_neg (by decide)]; exact hQ
  · rw [if_pos (by decide)]; exact hQ
  · rw [if_neg (by decide), if_pos (by decide)]; exact hQ
  · rw [if_neg (by decide), if_neg (by decide), if_pos (by decide)]; exact hQ
theorem rtN_b (k : Nat) : 3 ≤ rtN k ∧ rtN k ≤ 8 := by
  unfold rtN
  split
  · omega
  · split
    · omega
    · split <;> omega
/-- the least number of leaders -/
def lsN (y p : Nat) : Nat := if y = 1 then 2 else fa_first (fun c => decide (y ≤ c * p)) y
theorem lsN_le {y p : Nat} (hy : y ≤ 24) : lsN y p ≤ 24 := by
  unfold lsN
  split
  · omega
  · have := fa_first_le (fun c => decide (y ≤ c * p)) y
    omega
theorem c6_least {y p : Nat} (hy : y ≤ 24) (hp : p ≤ 8) (hQ : Q (nI (lsN y p)) S) : wp_X6_leastLeaders S (nI y) (nI p) Q := by
  unfold wp_X6_leastLeaders
  unfold lsN at hQ
  by_cases h1 : y = 1
  · rw [if_pos h1] at hQ
    rw [if_pos (by rw [h1]; rfl)]
    exact hQ
  · rw [if_neg h1] at hQ
    rw [if_neg (show ¬ nI y = 1 from nI_ne (b := 1) (by omega) (by omega) h1)]
    have hle := fa_first_le (fun c => decide (y ≤ c * p)) y
    have hno := fa_first_no (fun c => decide (y ≤ c * p)) y
    have hyes := fa_first_yes (fun c => decide (y ≤ c * p)) y
    generalize fa_first (fun c => decide (y ≤ c * p)) y = f at *
    have hL : ∀ (fuel c : Nat), c ≤ f → f < c + fuel → wp_X6_leastLeaders_L9 (nI y) (nI p) Q fuel S (nI c) := by
      intro fuel
      induction fuel with
      | zero => intro c w1 w2; omega
      | succ u ih =>
        intro c w1 w2
        unfold wp_X6_leastLeaders_L9
        by_cases e : c = f
        · subst e
          by_cases e2 : c = y
          · subst e2
            rw [if_pos (nI_le (Nat.le_refl _) (by omega))]
            exact hQ
          · rw [if_neg (nI_ge (by omega) (by omega)), pk_mul]
            have := hyes (by omega)
            simp only [decide_eq_true_eq] at this
            have hm : c * p ≤ 24 * 8 := Nat.mul_le_mul (by omega) hp
            rw [if_neg (nI_nlt this (by omega))]
            exact hQ
        · rw [if_neg (nI_ge (by omega) (by omega)), pk_mul]
          have := hno c (by omega)
          simp only [decide_eq_false_iff_not] at this
          rw [if_pos (nI_lt' (by omega) (by omega)), nI_1]
          exact ih (c + 1) (by omega) (by omega)
    exact ⟨f + 1, hL (f + 1) 0 (by omega) (by omega)⟩
/-- a need: children, how many a leader, vetted, permitted, least -/
def ND (S : Hp) (q y p v m : Nat) : Prop := okA S 6 q ∧ g_I S 600 q = nI y ∧ g_I S 601 q = nI p ∧ g_I S 602 q = nI v ∧ g_I S 603 q = nI m ∧ g_I S 604 q = nI (lsN y p)
theorem c6_init {q y p v m : Nat} {Q : Hp → Prop} (h : NB S q 6 (fun _ => 0) (fun _ => none)) (hy : y ≤ 24) (hp : p ≤ 8) (hQ : ∀ S', exB (fun b => b ≠ q) S S' → ND S' q y p v m → Q S') : wp_X6_init S q (nI y) (nI p) (nI v) (nI m) Q := by
  unfold wp_X6_init
  refine st_I h (fun S1 h1 e1 => st_I h1 (fun S2 h2 e2 => st_I h2 (fun S3 h3 e3 => st_I h3 (fun S4 h4 e4 => c6_least hy hp (st_I h4 (fun S5 h5 e5 => ?_))))))
  have id' : ∀ b : Nat, b ≠ q → b ≠ q := fun _ w => w
  refine hQ S5 (xb_t (xb_t (xb_t (xb_t e1 e2 id') e3 id') e4 id') e5 id') ⟨h5.1, ?_, ?_, ?_, ?_, ?_⟩
  · rw [h5.2.1]; simp [va_up]
  · rw [h5.2.1]; simp [va_up]
  · rw [h5.2.1]; simp [va_up]
  · rw [h5.2.1]; simp [va_up]
  · rw [h5.2.1]; simp [va_up]
/-- who is vetted for an event; who has a permit for it -/
def vsB (F : Nat → Nat → Int32) (e l : Nat) : Bool := veB F l (evN F e 1) (F 27 (6 * e + 3))
def psB (F : Nat → Nat → Int32) (e l : Nat) : Bool := decide (evN F e 2 = 0) || !decide (F 21 (3 * l + evN F e 2 - 1) < F 27 (6 * e + 3))
theorem cs_turnl {i : Nat} {Q : Int32 → Hp → Prop} {K : Option Nat → Hp → Prop} (h : CS S x A n nT nL nE D F) (h8 : nL ≤ 8) (hi : i ≤ nL) (h0 : i = nL → Q (nI i) S) (h1 : i < nL → K (some (A 5 i)) S) : okA S 8 x ∧ rd S 10 (g_P S 802 x) (fun a2 => wp_Jx4a65c_size_8abf5 S a2 (fun r6 S5 => if r6 ≤ nI i then Q r6 S5 else (okA S5 8 x ∧ (rd S5 10 (g_P S5 802 x) (fun a8 => wp_Jx4a65c_get_915e3 S5 a8 (nI i) (fun r12 S11 => (∀ a, r12 = some a → okA S11 5 a) ∧ K r12 S11)))))) :=
  lk_turn (el := A 5) h.1.1 h.1.2.1.2.2.1 (cs_L h (show 2 < 12 by decide)) (by show nL < _; omega) hi (fun j hj => (h.2.2.2.2.2.2.2.1.1 j hj).1) h0 h1
theorem c8_needOf {e : Nat} {Q : Option Nat → Hp → Prop} (h : CS S x A n nT nL nE D F) (h24 : n ≤ 24) (h8 : nL ≤ 8) (he : e < nE) (hV : EvV F e) (hd : isIx (F 27 (6 * e + 3)) 10000) (hQ : ∀ S' q, q ∉ g_L S → ex aK S S' → ND S' q (inT F n (F 27 (6 * e))) (rtN (evN F e 2)) (bs (vsB F e) nL) (bs (psB F e) nL) → Q (some q) S') : wp_X8_needOf S x (some (A 4 e)) Q := by
  obtain ⟨v1, v2⟩ := hV
  obtain ⟨g1, f1⟩ := ixe v1 (by decide)
  obtain ⟨g2, f2⟩ := ixe v2 (by decide)
  obtain ⟨g3, f3⟩ := ixe hd (by decide)
  have g1' : F 27 (6 * e + 1) = nI (evN F e 1) := g1
  have g2' : F 27 (6 * e + 2) = nI (evN F e 2) := g2
  have f1' : evN F e 1 < 3 := f1
  have f2' : evN F e 2 < 4 := f2
  obtain ⟨e0, e1, e2, e3, e4, -, -, -⟩ := cs_e h he
  have hL : ∀ (fuel k : Nat), k ≤ nL → nL < k + fuel → wp_X8_needOf_L7 x (some (A 4 e)) Q fuel S (nI (bs (vsB F e) k)) (nI (bs (psB F e) k)) (nI k) := by
    intro fuel
    induction fuel with
    | zero => intro k h1 h2; omega
    | succ f ih =>
      intro k h1 h2
      unfold wp_X8_needOf_L7
      refine cs_turnl (Q := fun _ S => ∀ a7, a7 ∉ g_L S → lt (n_O 6 S a7) _) (K := fun r12 S11 => rd S11 4 (some (A 4 e)) (fun a28 => rd S11 4 (some (A 4 e)) (fun a31 => rd S11 5 r12 _))) h h8 h1 (fun z => ?_) (fun hk => ?_)
      · subst z
        intro q hq
        have x1 : exB (fun _ => True) S (n_O 6 S q) := exB_nO 6 hq
        have nb := nb_new 6 S q
        have hc1 := cs_ex h (ex_nO 6 hq)
        rw [lt_v]
        generalize n_O 6 S q = S1 at *
        obtain ⟨d0, d1, -, d2, -⟩ := cs_e hc1 he
        rw [rdS]
        refine ⟨d0, hc1.1.1, ?_⟩
        rw [d1]
        refine c8_childrenIn hc1 h24 ?_
        rw [rdS]
        refine ⟨d0, ?_⟩
        rw [d2, g2']
        refine c8_perLeader f2' (c6_init nb ?_ (rtN_b _).2 (fun S2 e2 nd => hQ S2 q hq (ex_new hq x1 e2) nd))
        have := inT_le F n (F 27 (6 * e))
        omega
      · have hs := ih (k + 1) (by omega) (by omega)
        have l0 := (cs_l h hk).1
        rw [show nI k + 1 = nI (k + 1) from nI_add k 1]
        rw [rdS]
        refine ⟨e0, ?_⟩
        rw [rdS]
        refine ⟨e0, ?_⟩
        show rd S 5 (some (A 5 k)) _
        rw [rdS]
        refine ⟨l0, ?_⟩
        rw [e2, e4, g1', g3]
        refine c5_isVetted h hk f1' f3 ?_
        have evs : veB F k (evN F e 1) (nI (F 27 (6 * e + 3)).toNatClampNeg) = vsB F e k := by
          unfold vsB
          rw [← g3]
        rw [evs]
        have ep : (decide (evN F e 2 = 0) || !decide (F 21 (3 * k + evN F e 2 - 1) < nI (F 27 (6 * e + 3)).toNatClampNeg)) = psB F e k := by
          unfold psB
          rw [← g3]
        have ev1 : bs (vsB F e) (k + 1) = if vsB F e k then bs (vsB F e) k ||| 2 ^ k else bs (vsB F e) k := rfl
        have ep1 : bs (psB F e) (k + 1) = if psB F e k then bs (psB F e) k ||| 2 ^ k else bs (psB F e) k := rfl
        rw [ev1, ep1] at hs
        have key : ∀ w : Nat, wp_X8_needOf_L7 x (some (A 4 e)) Q f S (nI w) (nI (if psB F e k then bs (psB F e) k ||| 2 ^ k else bs (psB F e) k)) (nI (k + 1)) → (okA S 8 x ∧ (rd S 10 (g_P S 802 x) (fun a40 => wp_Jx4a65c_get_915e3 S a40 (nI k) (fun r44 S43 => (∀ a, r44 = some a → okA S43 5 a) ∧ (rd S43 4 (some (A 4 e)) (fun a46 => rd S43 4 (some (A 4 e)) (fun a49 => rd S43 5 r44 (fun a52 => wp_X5_mayLead S43 a52 (g_I S43 402 a46) (g_I S43 403 a49) (fun r56 S55 => if r56 = 0 then (wp_X8_needOf_L7 x (some (A 4 e)) Q f S55 (nI w) (nI (bs (psB F e) k)) (nI (k + 1))) else (lt (nI (bs (psB F e) k) ||| ((1 : Int32) <<< (nI k &&& 31))) (fun y57 => wp_X8_needOf_L7 x (some (A 4 e)) Q f S55 (nI w) y57 (nI (k + 1))))))))))))) := fun w hs => by
          refine lk_get (el := A 5) h.1.1 h.1.2.1.2.2.1 (cs_L h (show 2 < 12 by decide)) hk l0 ?_
          rw [rdS]
          refine ⟨e0, ?_⟩
          rw [rdS]
          refine ⟨e0, ?_⟩
          rw [rdS]
          refine ⟨l0, ?_⟩
          rw [e3, e4, g2', g3]
          refine c5_mayLead h hk f2' ?_
          rw [ep]
          cases hp : psB F e k with
          | false =>
            rw [hp] at hs
            rw [if_pos (show bI false = 0 from rfl)]
            exact hs
          | true =>
            rw [hp] at hs
            rw [if_neg (show ¬ bI true = 0 by decide), lt_v, sh_1 (by omega), fa_or]
            exact hs
        cases hv : vsB F e k with
        | false =>
          rw [hv] at hs
          rw [if_pos (show bI false = 0 from rfl)]
          exact key _ hs
        | true =>
          rw [hv, if_pos rfl] at hs
          have e9 : nI (bs (vsB F e) k) ||| ((1 : Int32) <<< (nI k &&& 31)) = nI (bs (vsB F e) k ||| 2 ^ k) := by rw [sh_1 (by omega), fa_or]
          rw [if_neg (show ¬ bI true = 0 by decide), lt_v, e9]
          exact key _ hs
  unfold wp_X8_needOf
  exact ⟨nL + 1, hL (nL + 1) 0 (by omega) (by omega)⟩
theorem lt_bit {t m k : Nat} (ht : t < 2 ^ m) (h : t.testBit k = true) : k < m := by
  rcases Nat.lt_or_ge k m with q | q
  · exact q
  · rw [Nat.testBit_lt_two_pow (Nat.lt_of_lt_of_le ht (Nat.pow_le_pow_right (by decide) q))] at h
    exact absurd h (by decide)
theorem bit_of {t : Nat} (h : ¬ t = 0) : ∃ k, t.testBit k = true := by
  by_cases q : ∃ k, t.testBit k = true
  · exact q
  · refine absurd (Nat.eq_of_testBit_eq (fun i => ?_)) h
    rw [Nat.zero_testBit]
    cases w : t.testBit i with
    | false => rfl
    | true => exact absurd ⟨i, w⟩ q
theorem pop_0 {t m : Nat} (h : 0 < pop t m) : ¬ t = 0 := fun e => by
  subst e
  unfold pop at h
  rw [ct_fb] at h
  obtain ⟨k, -, hk⟩ := fb_ct_pos.mp h
  simp at hk
theorem c6_verdict {q e t : Nat} (hN : ND S q (inT F n (F 27 (6 * e))) (rtN (evN F e 2)) (bs (vsB F e) nL) (bs (psB F e) nL)) (h24 : n ≤ 24) (h8 : nL ≤ 8) (ht : t < 2 ^ nL) (hQ : Q (rsn F n nL e t) S) : wp_X6_verdict S q (nI t) Q := by
  obtain ⟨o, i0, i1, i2, i3, -⟩ := hN
  have hy := inT_le F n (F 27 (6 * e))
  obtain ⟨r1, r2⟩ := rtN_b (evN F e 2)
  have ht8 : t < 256 := Nat.lt_of_lt_of_le ht (Nat.pow_le_pow_right (n := 2) (by decide) h8)
  unfold wp_X6_verdict
  refine cJ_bitCount8 ht8 ⟨o, ?_⟩
  have ep : pop t 16 = pop t 8 := pop_hi (n := 8) (m := 16) ht8 (by omega)
  have hpl := pop_le t 8
  unfold rsn at hQ
  rw [ep] at hQ
  rw [i0, i1]
  by_cases h0 : inT F n (F 27 (6 * e)) = 0
  · rw [if_pos h0] at hQ
    rw [if_pos (by rw [h0]; rfl)]
    exact hQ
  rw [if_neg h0] at hQ
  rw [if_neg (nI_ne0 (by omega) (by omega)), pk_mul]
  have hm : pop t 8 * rtN (evN F e 2) ≤ 8 * 8 := Nat.mul_le_mul hpl r2
  by_cases h1 : pop t 8 * rtN (evN F e 2) < inT F n (F 27 (6 * e))
  · rw [if_pos h1] at hQ
    rw [if_neg (nI_ge h1 (by omega))]
    exact hQ
  rw [if_neg h1] at hQ
  rw [if_pos (nI_le (by omega) (by omega)), i2, nd_and (by omega)]
  unfold rsT at hQ
  rw [ep] at hQ
  have hdf : dfN t (bs (vsB F e) nL) < 65536 := bs_lt _ 16
  by_cases hu : anB (unB F e t) nL = true
  · rw [if_pos hu] at hQ
    obtain ⟨k, hk, ek⟩ := (anB_true _ _).mp hu
    unfold unB at ek
    simp only [Bool.and_eq_true, Bool.not_eq_true'] at ek
    have hb : (dfN t (bs (vsB F e) nL)).testBit k = true := by
      unfold dfN
      rw [bs_bit, bs_bit, ek.1, show vsB F e k = false from ek.2, decide_eq_true (show k < 16 by omega)]
      simp
    have hz : ¬ dfN t (bs (vsB F e) nL) = 0 := fun w => by rw [w] at hb; simp at hb
    rw [if_neg (nI_ne0 (by omega) (by omega))]
    exact hQ
  rw [if_neg hu] at hQ
  have hz : dfN t (bs (vsB F e) nL) = 0 := by
    apply Nat.eq_of_testBit_eq
    intro k
    unfold dfN
    rw [bs_bit, bs_bit, Nat.zero_testBit]
    cases w : t.testBit k with
    | false => simp
    | true =>
      have hk := lt_bit ht w
      have : vsB F e k = true := by
        cases v : vsB F e k with
        | true => rfl
        | false => exact absurd ((anB_true _ _).mpr ⟨k, hk, by unfold unB; rw [w, show veB F k (evN F e 1) (F 27 (6 * e + 3)) = false from v]; rfl⟩) hu
      rw [this]
      simp [hk]
  rw [if_pos (by rw [hz]; rfl), i3, fa_and]
  have hpos : 0 < pop t 8 := by
    rcases Nat.eq_zero_or_pos (pop t 8) with w | w
    · rw [w] at h1
      omega
    · exact w
  obtain ⟨k0, hk0⟩ := bit_of (pop_0 hpos)
  have hl0 := lt_bit ht hk0
  have hpb : (decide (evN F e 2 = 0) || anB (peB F e t) nL) = false ↔ t &&& bs (psB F e) nL = 0 := by
    constructor
    · intro w
      simp only [Bool.or_eq_false_iff, decide_eq_false_iff_not] at w
      apply Nat.eq_of_testBit_eq
      intro k
      rw [Nat.testBit_and, bs_bit, Nat.zero_testBit]
      cases v : t.testBit k with
      | false => rfl
      | true =>
        have hk := lt_bit ht v
        cases u : psB F e k with
        | false => simp
        | true =>
          unfold psB at u
          rw [decide_eq_false w.1, Bool.false_or] at u
          rw [(anB_true _ _).mpr ⟨k, hk, by unfold peB; rw [v, u]; rfl⟩] at w
          exact absurd w.2 (by decide)
    · intro w
      cases v : (decide (evN F e 2 = 0) || anB (peB F e t) nL) with
      | false => rfl
      | true =>
        simp only [Bool.or_eq_true, decide_eq_true_eq] at v
        rcases v with v | v
        · have : (t &&& bs (psB F e) nL).testBit k0 = true := by
            rw [Nat.testBit_and, bs_bit, hk0]
            unfold psB
            simp [v, hl0]
          rw [w] at this
          simp at this
        · obtain ⟨k, hk, ek⟩ := (anB_true _ _).mp v
          unfold peB at ek
          simp only [Bool.and_eq_true] at ek
          have : (t &&& bs (psB F e) nL).testBit k = true := by
            rw [Nat.testBit_and, bs_bit, ek.1]
            unfold psB
            rw [ek.2]
            simp [hk]
          rw [w] at this
          simp at this
  by_cases hp : (decide (evN F e 2 = 0) || anB (peB F e t) nL) = false
  · rw [if_pos hp] at hQ
    rw [if_pos (by rw [hpb.mp hp]; rfl)]
    exact hQ
  rw [if_neg hp] at hQ
  have hlt : t &&& bs (psB F e) nL < 256 := Nat.lt_of_le_of_lt Nat.and_le_left ht8
  have hne : ¬ t &&& bs (psB F e) nL = 0 := fun w => hp (hpb.mpr w)
  rw [if_neg (nI_ne0 (by omega) (by omega))]
  by_cases h3 : pop t 8 = 1
  · rw [if_pos (by rw [h3]; rfl)]
    by_cases h4 : inT F n (F 27 (6 * e)) = 1
    · rw [if_pos ⟨h4, h3⟩] at hQ
      rw [if_pos (by rw [h4]; rfl)]
      exact hQ
    · rw [if_neg (fun w => h4 w.1)] at hQ
      rw [if_neg (show ¬ nI _ = (1 : Int32) from nI_ne (b := 1) (by omega) (by omega) h4)]
      exact hQ
  · rw [if_neg (fun w => h3 w.2)] at hQ
    rw [if_neg (show ¬ nI _ = (1 : Int32) from nI_ne (b := 1) (by omega) (by omega) h3)]
    exact hQ
theorem c8_why1 {a : Int32} (h : CS S x A n nT nL nE D F) (hv : a < 0 ∨ nI nE ≤ a) (hE : EQ "java/lang/IndexOutOfBoundsException" S) : wp_X8_why S x a Q EQ := by
  unfold wp_X8_why
  exact ⟨h.1.1, c8_eventAt0 h hv hE⟩
theorem c8_why0 {e : Nat} (h : CS S x A n nT nL nE D F) (h24 : n ≤ 24) (h8 : nL ≤ 8) (h20 : nE ≤ 20) (he : e < nE) (hV : EvV F e) (hd : isIx (F 27 (6 * e + 3)) 10000) (hS : F 28 e = nI (sN F e)) (hs : sN F e < 2 ^ nL) (hQ : ∀ S', CS S' x A n nT nL nE D F → Q (rsn F n nL e (sN F e)) S') : wp_X8_why S x (nI e) Q EQ := by
  unfold wp_X8_why
  refine ⟨h.1.1, c8_eventAt1 h h20 he ⟨h.1.1, c8_needOf h h24 h8 he hV hd (fun S' q hq hx hN => ?_)⟩⟩
  have h' := cs_ex h hx
  obtain ⟨e0, -, -, -, -, -, -, e6⟩ := cs_e h' he
  rw [rdS]
  refine ⟨e0, ?_⟩
  rw [rdS]
  refine ⟨hN.1, ?_⟩
  rw [e6, hS]
  exact c6_verdict hN h24 h8 hs (hQ S' h')
end CNEED
