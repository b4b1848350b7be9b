/-! THE CLASS: asking of children and troops, boxes -/
section CASK
variable {S : Hp} {x : Nat} {A : Nat → Nat → Nat} {n nT nL nE : Nat} {D : Nat → Int32} {F : Nat → Nat → Int32} {Q : Int32 → Hp → Prop} {EQ : String → Hp → Prop}
theorem c8_ofChild1 {a b : Int32} (h : CS S x A n nT nL nE D F) (hv : a < 0 ∨ nI n ≤ a) (hE : EQ "java/lang/IndexOutOfBoundsException" S) : wp_X8_ofChild S x a b Q EQ := by
  unfold wp_X8_ofChild
  exact ⟨h.1.1, c8_childAt0 h hv hE⟩
theorem c8_ofChild {i d : Nat} {b : Int32} (h : CS S x A n nT nL nE D F) (h24 : n ≤ 24) (hi : i < n) (hd : D 0 = nI d) (hd2 : d < 10000) (h0 : b = 0 → Q (F 6 i) S) (h1 : b = 1 → Q (F 7 i) S) (h2 : b = 2 → Q (F 8 i) S) (h3 : b = 3 → Q (F 11 i) S) (h4 : b = 4 → Q (nI (eaN F i d 8)) S) (h5 : b = 5 → Q (F 12 i) S) (h6 : ¬ b = 0 → ¬ b = 1 → ¬ b = 2 → ¬ b = 3 → ¬ b = 4 → ¬ b = 5 → EQ "java/lang/IllegalArgumentException" S) : wp_X8_ofChild S x (nI i) b Q EQ := by
  obtain ⟨c0, c1, c6, c7, c8, c11, c9, c14, c12, c13⟩ := cs_c h hi
  unfold wp_X8_ofChild
  refine ⟨h.1.1, c8_childAt1 h h24 hi ?_⟩
  by_cases q0 : b = 0
  · rw [if_pos q0, rdS]
    refine ⟨c0, ?_⟩
    rw [c6]
    exact h0 q0
  rw [if_neg q0]
  by_cases q1 : b = 1
  · rw [if_pos q1, rdS]
    refine ⟨c0, ?_⟩
    rw [c7]
    exact h1 q1
  rw [if_neg q1]
  by_cases q2 : b = 2
  · rw [if_pos q2, rdS]
    refine ⟨c0, ?_⟩
    rw [c8]
    exact h2 q2
  rw [if_neg q2]
  by_cases q3 : b = 3
  · rw [if_pos q3, rdS]
    refine ⟨c0, ?_⟩
    rw [c11]
    exact h3 q3
  rw [if_neg q3]
  by_cases q4 : b = 4
  · rw [if_pos q4]
    refine ⟨h.1.1, ?_⟩
    rw [rdS]
    refine ⟨c0, ?_⟩
    rw [h.1.2.2.1, hd]
    exact c1_badgesBy h hi hd2 (h4 q4)
  rw [if_neg q4]
  by_cases q5 : b = 5
  · rw [if_pos q5, rdS]
    refine ⟨c0, ?_⟩
    rw [c12]
    exact h5 q5
  rw [if_neg q5]
  exact h6 q0 q1 q2 q3 q4 q5
theorem c8_ofTroop1 {a b : Int32} (h : CS S x A n nT nL nE D F) (hv : a < 0 ∨ nI nT ≤ a) (hE : EQ "java/lang/IndexOutOfBoundsException" S) : wp_X8_ofTroop S x a b Q EQ := by
  unfold wp_X8_ofTroop
  exact ⟨h.1.1, c8_troopAt0 h hv hE⟩
theorem c8_ofTroop0 {j : Nat} {b : Int32} (h : CS S x A n nT nL nE D F) (h24 : n ≤ 24) (h6 : nT ≤ 6) (hj : j < nT) (hQ : Q (nI (if b = 0 then inT F n (nI j) else waT F n (nI j))) S) : wp_X8_ofTroop S x (nI j) b Q EQ := by
  obtain ⟨p0, p1, -⟩ := h.2.2.2.1 j hj
  unfold wp_X8_ofTroop
  refine ⟨h.1.1, c8_troopAt1 h h6 hj ?_⟩
  by_cases q0 : b = 0
  · rw [if_pos q0] at hQ ⊢
    rw [rdS]
    refine ⟨p0, h.1.1, ?_⟩
    rw [p1]
    exact c8_childrenIn h h24 hQ
  · rw [if_neg q0] at hQ ⊢
    rw [rdS]
    refine ⟨p0, h.1.1, ?_⟩
    rw [p1]
    exact c8_waitingFor h h24 hQ
theorem ix8 {b : Int32} (hv : b < 0 ∨ 7 < b) : b < 0 ∨ 8 ≤ b := by
  rcases hv with w | w
  · exact Or.inl w
  · refine Or.inr ?_
    rw [i_lt] at w
    rw [i_le]
    rw [show (7 : Int32).toInt = 7 from rfl] at w
    rw [show (8 : Int32).toInt = 8 from rfl]
    omega
theorem c8_earned1a {a b : Int32} (h : CS S x A n nT nL nE D F) (hv : a < 0 ∨ nI n ≤ a) (hE : EQ "java/lang/IndexOutOfBoundsException" S) : wp_X8_earned S x a b Q EQ := by
  unfold wp_X8_earned
  exact ⟨h.1.1, c8_childAt0 h hv hE⟩
theorem c8_earned1b {i : Nat} {b : Int32} (h : CS S x A n nT nL nE D F) (h24 : n ≤ 24) (hi : i < n) (hv : b < 0 ∨ 7 < b) (hE : EQ "java/lang/IndexOutOfBoundsException" S) : wp_X8_earned S x (nI i) b Q EQ := by
  unfold wp_X8_earned
  exact ⟨h.1.1, c8_childAt1 h h24 hi (cs_ix0 (ix8 hv) hE)⟩
theorem c8_earned {i b d : Nat} (h : CS S x A n nT nL nE D F) (h24 : n ≤ 24) (hi : i < n) (hb : b < 8) (hd : D 0 = nI d) (hd2 : d < 10000) (hQ : Q (if dyT F i 8 b ≤ d then nI (dyT F i 8 b) else -1) S) : wp_X8_earned S x (nI i) (nI b) Q EQ := by
  unfold wp_X8_earned
  refine ⟨h.1.1, c8_childAt1 h h24 hi (cs_ix1 (N := 8) hb (by omega) ?_)⟩
  rw [rdS]
  refine ⟨(cs_c h hi).1, c1_dayEarned (csx_of h i 8) hi hb hb ⟨h.1.1, ?_⟩⟩
  rw [h.1.2.2.1, hd]
  have hc := cvD_le (d := dyT F i 8 b)
  by_cases z : dyT F i 8 b ≤ d
  · have e1 : cvD (dyT F i 8 b) = dyT F i 8 b := by
      unfold cvD
      rw [if_pos (by omega)]
    rw [e1, if_neg (nI_nlt (by omega) (by omega))]
    rw [if_pos z] at hQ
    exact hQ
  · have e1 : d < cvD (dyT F i 8 b) := by
      unfold cvD
      split <;> omega
    rw [if_pos (nI_lt' e1 (by omega))]
    rw [if_neg z] at hQ
    exact hQ
theorem c8_holds1a {a b : Int32} (h : CS S x A n nT nL nE D F) (hv : a < 0 ∨ nI n ≤ a) (hE : EQ "java/lang/IndexOutOfBoundsException" S) : wp_X8_holds S x a b Q EQ := by
  unfold wp_X8_holds
  exact ⟨h.1.1, c8_childAt0 h hv hE⟩
theorem c8_holds1b {i : Nat} {b : Int32} (h : CS S x A n nT nL nE D F) (h24 : n ≤ 24) (hi : i < n) (hv : b < 0 ∨ 7 < b) (hE : EQ "java/lang/IndexOutOfBoundsException" S) : wp_X8_holds S x (nI i) b Q EQ := by
  unfold wp_X8_holds
  exact ⟨h.1.1, c8_childAt1 h h24 hi (cs_ix0 (ix8 hv) hE)⟩
theorem c8_holds {i b d : Nat} (h : CS S x A n nT nL nE D F) (h24 : n ≤ 24) (hi : i < n) (hb : b < 8) (hd : D 0 = nI d) (hd2 : d < 10000) (hC : CoV F i) (hed : ¬ F 17 (8 * i + b) = -1 → (F 18 (8 * i + b)).toNatClampNeg < edn F b) (hQ : Q (bI (hoB F i b d)) S) : wp_X8_holds S x (nI i) (nI b) Q EQ := by
  obtain ⟨a1, a2, a3, a4, a5⟩ := csx_6 (csx_of h i 8) hi
  unfold wp_X8_holds
  refine ⟨h.1.1, c8_childAt1 h h24 hi (cs_ix1 (N := 8) hb (by omega) ?_)⟩
  rw [rdS]
  refine ⟨a1, c1_courseOf (csx_of h i 8) hi hb (fun z => ?_) (fun z => ?_)⟩
  · rw [if_pos rfl]
    have e : hoB F i b d = false := by
      unfold hoB
      rw [dyT_none hb z, decide_eq_false (show ¬ 100000 ≤ d by omega)]
      rfl
    rw [e] at hQ
    exact bz0i hQ
  · rw [if_neg (fun w => by cases w)]
    refine ⟨h.1.1, ?_⟩
    obtain ⟨-, -, w3, w4, -, w6⟩ := (a5 b hb).resolve_left (fun w => z w.1)
    obtain ⟨e0, -, -, -, -, -, e6⟩ := csx_e (csx_of h i 8) hb (hed z)
    obtain ⟨-, v⟩ := hC b hb
    obtain ⟨-, v2, v3, v4, v5, v6, v7⟩ := v.resolve_left z
    obtain ⟨g6, f6⟩ := ixe v6 (by decide)
    rw [rdS]
    refine ⟨w3, ?_⟩
    rw [h.1.2.2.1, hd]
    unfold wp_X2_isHeldOn
    refine ⟨w3, ?_⟩
    rw [w6 hb]
    have hc := cvD_le (d := dyT F i 8 b)
    unfold hoB at hQ
    by_cases y : dyT F i 8 b ≤ d
    · have e1 : cvD (dyT F i 8 b) = dyT F i 8 b := by
        unfold cvD
        rw [if_pos (by omega)]
      rw [e1, if_neg (nI_nlt (by omega) (by omega)), w4, rdS]
      refine ⟨e0, ?_⟩
      rw [e6]
      rw [decide_eq_true y, Bool.true_and] at hQ
      by_cases l0 : F 24 (eAt F i b + 5) = 0
      · rw [if_pos l0]
        rw [decide_eq_true l0, Bool.true_or] at hQ
        refine bz1i ?_
        show if (1 : Int32) = 0 then _ else _
        rw [if_neg (by decide)]
        exact bz1i hQ
      · rw [if_neg l0, rdS]
        refine ⟨e0, ?_⟩
        rw [e6, g6, pk_sub y]
        rw [decide_eq_false l0, Bool.false_or, g6, nI_add] at hQ
        by_cases l1 : (F 24 (eAt F i b + 5)).toNatClampNeg ≤ d - dyT F i 8 b
        · rw [if_pos (nI_le l1 (by omega))]
          rw [decide_eq_true (nI_le (show dyT F i 8 b + (F 24 (eAt F i b + 5)).toNatClampNeg ≤ d by omega) (by omega))] at hQ
          refine bz0i ?_
          show if (0 : Int32) = 0 then _ else _
          rw [if_pos rfl]
          exact bz0i hQ
        · rw [if_neg (nI_ge (by omega) (by omega))]
          rw [decide_eq_false (nI_ge (show d < dyT F i 8 b + (F 24 (eAt F i b + 5)).toNatClampNeg by omega) (by omega))] at hQ
          refine bz1i ?_
          show if (1 : Int32) = 0 then _ else _
          rw [if_neg (by decide)]
          exact bz1i hQ
    · have e1 : d < cvD (dyT F i 8 b) := by
        unfold cvD
        split <;> omega
      rw [if_pos (nI_lt' e1 (by omega))]
      rw [decide_eq_false y, Bool.false_and] at hQ
      refine bz0i ?_
      show if (0 : Int32) = 0 then _ else _
      rw [if_pos rfl]
      exact bz0i hQ
theorem c8_lacks1a {a b : Int32} (h : CS S x A n nT nL nE D F) (hv : a < 0 ∨ nI n ≤ a) (hE : EQ "java/lang/IndexOutOfBoundsException" S) : wp_X8_lacks S x a b Q EQ := by
  unfold wp_X8_lacks
  exact ⟨h.1.1, c8_childAt0 h hv hE⟩
theorem c8_lacks1b {i : Nat} {b : Int32} (h : CS S x A n nT nL nE D F) (h24 : n ≤ 24) (hi : i < n) (hv : b < 0 ∨ 7 < b) (hE : EQ "java/lang/IndexOutOfBoundsException" S) : wp_X8_lacks S x (nI i) b Q EQ := by
  unfold wp_X8_lacks
  exact ⟨h.1.1, c8_childAt1 h h24 hi (cs_ix0 (ix8 hv) hE)⟩
theorem c8_lacks2 {i b : Nat} (h : CS S x A n nT nL nE D F) (h24 : n ≤ 24) (hi : i < n) (hb : b < 8) (hw : F 17 (8 * i + b) = -1) (hE : EQ "java/lang/IllegalStateException" S) : wp_X8_lacks S x (nI i) (nI b) Q EQ := by
  unfold wp_X8_lacks
  refine ⟨h.1.1, c8_childAt1 h h24 hi (cs_ix1 (N := 8) hb (by omega) ?_)⟩
  rw [rdS]
  refine ⟨(cs_c h hi).1, c1_courseOf (csx_of h i 8) hi hb (fun _ => ?_) (fun z => absurd hw z)⟩
  rw [if_pos rfl]
  exact hE
theorem lkN_bs (F : Nat → Nat → Int32) (c s : Nat) : ∀ k, lkN F c s k = bs (fun j => s.testBit j && decide (F 16 (16 * c + j) = -1)) k
  | 0 => rfl
  | k + 1 => by
    unfold lkN bs
    rw [lkN_bs F c s k]
    by_cases q : s.testBit k = true ∧ F 16 (16 * c + k) = -1
    · rw [if_pos q, if_pos (by simp [q.1, q.2])]
    · rw [if_neg q, if_neg (fun w => q (by simpa using w))]
theorem c8_lacks0 {i b : Nat} (h : CS S x A n nT nL nE D F) (h24 : n ≤ 24) (hi : i < n) (hb : b < 8) (hw : ¬ F 17 (8 * i + b) = -1) (hC : CoV F i) (hed : (F 18 (8 * i + b)).toNatClampNeg < edn F b) (hQ : Q (nI (lkN F i (F 24 (eAt F i b)).toNatClampNeg 16)) S) : wp_X8_lacks S x (nI i) (nI b) Q EQ := by
  obtain ⟨a1, a2, a3, a4, a5⟩ := csx_6 (csx_of h i 8) hi
  obtain ⟨c0, -, p, pr, sk, i110, i109, hF, -⟩ := h.2.2.2.2.2.1 i hi
  unfold wp_X8_lacks
  refine ⟨h.1.1, c8_childAt1 h h24 hi (cs_ix1 (N := 8) hb (by omega) ?_)⟩
  rw [rdS]
  refine ⟨a1, c1_courseOf (csx_of h i 8) hi hb (fun z => absurd z hw) (fun z => ?_)⟩
  rw [if_neg (fun w => by cases w), rdS]
  obtain ⟨-, -, w3, w4, -, -⟩ := (a5 b hb).resolve_left (fun w => z w.1)
  obtain ⟨e0, e1, -⟩ := csx_e (csx_of h i 8) hb hed
  obtain ⟨-, v⟩ := hC b hb
  obtain ⟨-, v2, -⟩ := v.resolve_left z
  obtain ⟨g2, f2⟩ := ixe v2 (by decide)
  refine ⟨w3, ?_⟩
  rw [w4, rdS]
  refine ⟨e0, ?_⟩
  rw [rdS]
  refine ⟨a1, ?_⟩
  rw [e1, i109, g2, nd_and f2]
  have e : dfN (F 24 (eAt F i b)).toNatClampNeg pr = lkN F i (F 24 (eAt F i b)).toNatClampNeg 16 := by
    rw [lkN_bs]
    unfold dfN
    refine bs_cg (fun k hk => ?_)
    have := hF.2.2.1 k hk
    congr 1
    cases q : pr.testBit k with
    | true => exact (decide_eq_false (this.mp q)).symm
    | false =>
      refine (decide_eq_true ?_).symm
      by_cases y : F 16 (16 * i + k) = -1
      · exact y
      · rw [this.mpr y] at q
        exact absurd q (by decide)
  rw [e]
  exact hQ
/-! boxes -/
theorem c8_boxes1 {a b : Int32} (h : CS S x A n nT nL nE D F) (hv : a < 0 ∨ nI n ≤ a) (hE : EQ "java/lang/IndexOutOfBoundsException" S) : wp_X8_boxes S x a b Q EQ := by
  unfold wp_X8_boxes
  exact ⟨h.1.1, c8_childAt0 h hv hE⟩
theorem c8_boxes2 {i : Nat} {b : Int32} (h : CS S x A n nT nL nE D F) (h24 : n ≤ 24) (hi : i < n) (hv : b < 1 ∨ 99 < b) (hE : EQ "java/lang/IllegalArgumentException" S) : wp_X8_boxes S x (nI i) b Q EQ := by
  unfold wp_X8_boxes
  exact ⟨h.1.1, c8_childAt1 h h24 hi (cs_rg0 hv hE)⟩
theorem c13_or {S : Hp} {a : Nat} {u v w : Int32} (h : u = 0 ∨ g_I S 108 a = v) (h0 : ¬ u ≤ 0) : g_I S 108 a = v := h.resolve_left (fun e => h0 (by rw [e]; decide))
theorem c8_boxes3 {i : Nat} {b : Int32} (h : CS S x A n nT nL nE D F) (h24 : n ≤ 24) (hi : i < n) (hv : ¬ (b < 1 ∨ 99 < b)) (hw : ¬ bxO F i b) (hE : EQ "java/lang/IllegalStateException" S) : wp_X8_boxes S x (nI i) b Q EQ := by
  obtain ⟨c0, c1, c6, c7, c8, c11, c9, c14, c12, c13⟩ := cs_c h hi
  unfold wp_X8_boxes
  refine ⟨h.1.1, c8_childAt1 h h24 hi (cs_rg1 hv ?_)⟩
  rw [rdS]
  refine ⟨c0, ?_⟩
  rw [c7]
  by_cases h7 : F 7 i = -1
  · rw [if_pos h7]
    exact hE
  rw [if_neg h7, rdS]
  refine ⟨c0, ?_⟩
  rw [c12]
  by_cases h12 : F 12 i ≤ 0
  · rw [if_pos h12, rdS]
    refine ⟨c0, ?_⟩
    rw [c14]
    by_cases h14 : F 14 i + b ≤ 9999
    · exact absurd ⟨h7, Or.inl h12, h14⟩ hw
    · rw [if_neg h14]
      exact hE
  · rw [if_neg h12, rdS]
    refine ⟨c0, ?_⟩
    rw [rdS]
    refine ⟨c0, ?_⟩
    rw [c7, c13_or (w := 0) c13 h12]
    by_cases h13 : F 13 i = F 7 i
    · rw [if_pos h13, rdS]
      refine ⟨c0, ?_⟩
      rw [c14]
      by_cases h14 : F 14 i + b ≤ 9999
      · exact absurd ⟨h7, Or.inr h13, h14⟩ hw
      · rw [if_neg h14]
        exact hE
    · rw [if_neg h13]
      exact hE
/-- the end of a call of boxes -/
def bxT (S : Hp) (a : Nat) (b : Int32) (Q : Int32 → Hp → Prop) : Prop := rd S 1 (some a) (fun a14 => rd S 1 (some a) (fun a17 => lt (s_I S 106 a17 ((g_I S 106 a14) + b)) (fun S20 => rd S20 1 (some a) (fun a21 => rd S20 1 (some a) (fun a24 => lt (s_I S20 107 a24 ((g_I S20 107 a21) + (b * (4 : Int32)))) (fun S27 => rd S27 1 (some a) (fun a28 => rd S27 1 (some a) (fun a31 => lt (s_I S27 108 a31 (g_I S27 102 a28)) (fun S34 => rd S34 1 (some a) (fun a35 => Q (g_I S34 107 a35) S34))))))))))
theorem c8_bxT {i : Nat} {b : Int32} (h : CS S x A n nT nL nE D F) (hi : i < n) (hQ : ∀ S', CS S' x A n nT nL nE D (boxF F i b) → Q (F 12 i + 4 * b) S') : bxT S (A 1 i) b Q := by
  obtain ⟨c0, c1, c6, c7, c8, c11, c9, c14, c12, c13⟩ := cs_c h hi
  unfold bxT
  have e106 : g_I S 106 (A 1 i) + b = F 14 i + b := by rw [c14]
  rw [rdS]
  refine ⟨c0, ?_⟩
  rw [rdS]
  refine ⟨c0, ?_⟩
  rw [lt_v, e106, rdS]
  refine ⟨c0, ?_⟩
  rw [rdS]
  refine ⟨c0, ?_⟩
  have e107 : g_I (s_I S 106 (A 1 i) (F 14 i + b)) 107 (A 1 i) + b * 4 = F 12 i + 4 * b := by
    rw [sI_ne (Or.inl (by decide)), c12, Int32.mul_comm]
  rw [lt_v, e107, rdS]
  refine ⟨c0, ?_⟩
  rw [rdS]
  refine ⟨c0, ?_⟩
  have e102 : g_I (s_I (s_I S 106 (A 1 i) (F 14 i + b)) 107 (A 1 i) (F 12 i + 4 * b)) 102 (A 1 i) = F 7 i := by
    rw [sI_ne (Or.inl (by decide)), sI_ne (Or.inl (by decide)), c7]
  rw [lt_v, e102, rdS]
  refine ⟨c0, ?_⟩
  have f107 : g_I (s_I (s_I (s_I S 106 (A 1 i) (F 14 i + b)) 107 (A 1 i) (F 12 i + 4 * b)) 108 (A 1 i) (F 7 i)) 107 (A 1 i) = F 12 i + 4 * b := by
    rw [sI_ne (Or.inl (by decide)), sI_eq]
  rw [f107]
  refine hQ _ (cs_child h hi (chW_s (chW_s (chW_s (chW_0 S _) (by decide) (by decide)) (by decide) (by decide)) (by decide) (by decide)) (chF_s (chF_s (chF_s (chF_0 F i) (by decide)) (by decide)) (by decide)) ⟨?_, ?_, ?_, ?_, ?_, ?_, ?_, ?_⟩)
  · rw [sI_ne (Or.inl (by decide)), sI_ne (Or.inl (by decide)), sI_ne (Or.inl (by decide)), c6]
    simp [boxF, g_2]
  · rw [sI_ne (Or.inl (by decide)), sI_ne (Or.inl (by decide)), sI_ne (Or.inl (by decide)), c7]
    simp [boxF, g_2]
  · rw [sI_ne (Or.inl (by decide)), sI_ne (Or.inl (by decide)), sI_ne (Or.inl (by decide)), c8]
    simp [boxF, g_2]
  · rw [sI_ne (Or.inl (by decide)), sI_ne (Or.inl (by decide)), sI_ne (Or.inl (by decide)), c11]
    simp [boxF, g_2]
  · rw [sI_ne (Or.inl (by decide)), sI_ne (Or.inl (by decide)), sI_ne (Or.inl (by decide))]
    simpa [boxF, g_2] using c9
  · rw [sI_ne (Or.inl (by decide)), sI_ne (Or.inl (by decide)), sI_eq]
    simp [boxF, g_2]
  · rw [f107]
    simp [boxF, g_2]
  · rw [sI_eq]
    simp [boxF, g_2]
theorem c8_boxes0 {i : Nat} {b : Int32} (h : CS S x A n nT nL nE D F) (h24 : n ≤ 24) (hi : i < n) (hv : ¬ (b < 1 ∨ 99 < b)) (hw : bxO F i b) (hQ : ∀ S', CS S' x A n nT nL nE D (boxF F i b) → Q (F 12 i + 4 * b) S') : wp_X8_boxes S x (nI i) b Q EQ := by
  obtain ⟨c0, c1, c6, c7, c8, c11, c9, c14, c12, c13⟩ := cs_c h hi
  obtain ⟨h7, h13, h14⟩ := hw
  unfold wp_X8_boxes
  refine ⟨h.1.1, c8_childAt1 h h24 hi (cs_rg1 hv ?_)⟩
  rw [rdS]
  refine ⟨c0, ?_⟩
  rw [c7, if_neg h7, rdS]
  refine ⟨c0, ?_⟩
  rw [c12]
  by_cases h12 : F 12 i ≤ 0
  · rw [if_pos h12, rdS]
    refine ⟨c0, ?_⟩
    rw [c14, if_pos h14]
    exact c8_bxT (b := b) (Q := Q) h hi hQ
  · rw [if_neg h12, rdS]
    refine ⟨c0, ?_⟩
    rw [rdS]
    refine ⟨c0, ?_⟩
    rw [c7, c13_or (w := 0) c13 h12, if_pos (h13.resolve_left h12), rdS]
    refine ⟨c0, ?_⟩
    rw [c14, if_pos h14]
    exact c8_bxT (b := b) (Q := Q) h hi hQ
theorem c8_pay1 {a b : Int32} (h : CS S x A n nT nL nE D F) (hv : a < 0 ∨ nI n ≤ a) (hE : EQ "java/lang/IndexOutOfBoundsException" S) : wp_X8_pay S x a b Q EQ := by
  unfold wp_X8_pay
  exact ⟨h.1.1, c8_childAt0 h hv hE⟩
theorem c8_pay2 {i : Nat} {b : Int32} (h : CS S x A n nT nL nE D F) (h24 : n ≤ 24) (hi : i < n) (hv : b < 1 ∨ 396 < b) (hE : EQ "java/lang/IllegalArgumentException" S) : wp_X8_pay S x (nI i) b Q EQ := by
  unfold wp_X8_pay
  exact ⟨h.1.1, c8_childAt1 h h24 hi (cs_rg0 hv hE)⟩
theorem c8_pay3 {i : Nat} {b : Int32} (h : CS S x A n nT nL nE D F) (h24 : n ≤ 24) (hi : i < n) (hv : ¬ (b < 1 ∨ 396 < b)) (hw : ¬ b ≤ F 12 i) (hE : EQ "java/lang/IllegalStateException" S) : wp_X8_pay S x (nI i) b Q EQ := by
  obtain ⟨c0, c1, c6, c7, c8, c11, c9, c14, c12, c13⟩ := cs_c h hi
  unfold wp_X8_pay
  refine ⟨h.1.1, c8_childAt1 h h24 hi (cs_rg1 hv ?_)⟩
  rw [rdS]
  refine ⟨c0, ?_⟩
  rw [c12, if_neg hw]
  exact hE
theorem c8_pay0 {i : Nat} {b : Int32} (h : CS S x A n nT nL nE D F) (h24 : n ≤ 24) (hi : i < n) (hv : ¬ (b < 1 ∨ 396 < b)) (hw : b ≤ F 12 i) (hz : ¬ F 12 i = 0) (hQ : ∀ S', CS S' x A n nT nL nE D (g_2 F 12 i (F 12 i - b)) → Q (F 12 i - b) S') : wp_X8_pay S x (nI i) b Q EQ := by
  obtain ⟨c0, c1, c6, c7, c8, c11, c9, c14, c12, c13⟩ := cs_c h hi
  unfold wp_X8_pay
  refine ⟨h.1.1, c8_childAt1 h h24 hi (cs_rg1 hv ?_)⟩
  rw [rdS]
  refine ⟨c0, ?_⟩
  rw [c12, if_pos hw, rdS]
  refine ⟨c0, ?_⟩
  rw [rdS]
  refine ⟨c0, ?_⟩
  rw [c12, lt_v, rdS]
  refine ⟨c0, ?_⟩
  rw [sI_eq]
  refine hQ _ (cs_child h hi (chW_s (chW_0 S _) (by decide) (by decide)) (chF_s (chF_0 F i) (by decide)) ⟨c6, c7, c8, c11, c9, c14, ?_, ?_⟩)
  · exact sI_eq.trans (g_2s F 12 i _).symm
  · refine Or.inr ?_
    rw [sI_ne (Or.inl (by decide))]
    exact (c13.resolve_left hz).trans (g_2n _ _ (fun w => absurd w.1 (by decide))).symm
theorem c8_owed1 {a : Int32} (h : CS S x A n nT nL nE D F) (hv : a < 0 ∨ nI nT ≤ a) (hE : EQ "java/lang/IndexOutOfBoundsException" S) : wp_X8_owed S x a Q EQ := by
  unfold wp_X8_owed
  exact ⟨h.1.1, c8_troopAt0 h hv hE⟩
theorem c8_owed0 {j : Nat} (h : CS S x A n nT nL nE D F) (h24 : n ≤ 24) (h6 : nT ≤ 6) (hj : j < nT) (hM : ∀ i, i < n → ¬ F 12 i < 0) (hQ : Q (owS F (nI j) n) S) : wp_X8_owed S x (nI j) Q EQ := by
  obtain ⟨p0, p1, -⟩ := h.2.2.2.1 j hj
  have hL : ∀ (fuel k : Nat), k ≤ n → n < k + fuel → wp_X8_owed_L11 x (nI j) (some (A 7 j)) Q EQ fuel S (owS F (nI j) k) (nI k) := by
    intro fuel
    induction fuel with
    | zero => intro k h1 h2; omega
    | succ f ih =>
      intro k h1 h2
      unfold wp_X8_owed_L11
      refine cs_turn (Q := fun _ S => Q _ S) (K := fun r12 S11 => rd S11 1 r12 _) h h24 h1 (fun e => ?_) (fun hk => ?_)
      · subst e
        exact hQ
      · obtain ⟨c0, c1, c6, c7, c8, c11, c9, c14, c12, c13⟩ := cs_c h hk
        show rd S 1 (some (A 1 k)) _
        rw [rdS]
        refine ⟨c0, ?_⟩
        rw [rdS]
        refine ⟨p0, ?_⟩
        rw [p1, show nI k + 1 = nI (k + 1) from nI_add k 1]
        have hs := ih (k + 1) (by omega) (by omega)
        unfold owS at hs
        by_cases h12 : F 12 k ≤ 0
        · rw [if_pos h12] at hs
          have ez : F 12 k = 0 := by
            have := hM k hk
            rw [i_lt] at this
            rw [i_le] at h12
            rw [i_eq]
            rw [show (0 : Int32).toInt = 0 from rfl] at *
            omega
          by_cases q : g_I S 108 (A 1 k) = nI j
          · rw [if_pos q]
            refine lk_get (el := A 1) h.1.1 h.1.2.1.2.1 (cs_L h (show 1 < 12 by decide)) hk c0 ?_
            rw [rdS]
            refine ⟨c0, ?_⟩
            rw [lt_v, c12, ez, nI_addz]
            exact hs
          · rw [if_neg q]
            exact hs
        · rw [if_neg h12] at hs
          rw [c13_or (w := 0) c13 h12]
          by_cases q : F 13 k = nI j
          · rw [if_pos q] at hs ⊢
            refine lk_get (el := A 1) h.1.1 h.1.2.1.2.1 (cs_L h (show 1 < 12 by decide)) hk c0 ?_
            rw [rdS]
            refine ⟨c0, ?_⟩
            rw [lt_v, c12]
            exact hs
          · rw [if_neg q] at hs ⊢
            exact hs
  unfold wp_X8_owed
  exact ⟨h.1.1, c8_troopAt1 h h6 hj ⟨n + 1, hL (n + 1) 0 (by omega) (by omega)⟩⟩
end CASK
