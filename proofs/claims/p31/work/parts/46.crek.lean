/-! THE CLASS: the days of the badges of a child -/
section CREK
variable {S : Hp} {x : Nat} {A : Nat → Nat → Nat} {n nT nL nE : Nat} {D : Nat → Int32} {F : Nat → Nat → Int32} {Q : Int32 → Hp → Prop} {EQ : String → Hp → Prop}
/-- the courses; of child i the days of the badges from k on aren't known -/
def P_6x (S : Hp) (A : Nat → Nat → Nat) (F : Nat → Nat → Int32) (n i k : Nat) : Prop := (∀ i', i' < n → okA S 1 (A 1 i') ∧ g_P S 113 (A 1 i') = some (A 14 i') ∧ okA S 14 (A 14 i') ∧ g_N S (A 14 i') = 8 ∧ ∀ b, b < 8 → (F 17 (8 * i' + b) = -1 ∧ g_O S (A 14 i') b = none) ∨ (¬ F 17 (8 * i' + b) = -1 ∧ g_O S (A 14 i') b = some (A 2 (8 * i' + b)) ∧ okA S 2 (A 2 (8 * i' + b)) ∧ g_P S 200 (A 2 (8 * i' + b)) = some (A 3 (3 * b + (F 18 (8 * i' + b)).toNatClampNeg)) ∧ g_I S 201 (A 2 (8 * i' + b)) = F 17 (8 * i' + b) ∧ ((i' = i → b < k) → g_I S 202 (A 2 (8 * i' + b)) = nI (cvD (dyT F i' 8 b))))) ∧ (∀ i, i < n → ∀ j, j < n → A 14 i = A 14 j → i = j) ∧ ∀ i, i < n → ∀ j, j < n → ∀ b, b < 8 → ∀ c, c < 8 → ¬ F 17 (8 * i + b) = -1 → ¬ F 17 (8 * j + c) = -1 → A 2 (8 * i + b) = A 2 (8 * j + c) → i = j ∧ b = c
def CSx (S : Hp) (x : Nat) (A : Nat → Nat → Nat) (n nT nL nE : Nat) (D : Nat → Int32) (F : Nat → Nat → Int32) (i k : Nat) : Prop :=
  P_0 S x A D ∧ LQ S A 12 (cntF n nT nL nE F) (elF A) ∧ P_2 S A ∧ P_3 S A F nT ∧ P_4 S A F n ∧ P_5 S A F n ∧ P_6x S A F n i k ∧ P_7 S A F nL ∧ P_8 S A F nE ∧ P_9 S A F ∧ P_10 A n nL
theorem csx_of (h : CS S x A n nT nL nE D F) (i k : Nat) : CSx S x A n nT nL nE D F i k := by
  obtain ⟨h0, h1, h2, h3, h4, h5, h6, h7, h8, h9, h10⟩ := h
  refine ⟨h0, h1, h2, h3, h4, h5, ⟨fun i' hi' => ?_, h6.2⟩, h7, h8, h9, h10⟩
  obtain ⟨a1, a2, a3, a4, a5⟩ := h6.1 i' hi'
  refine ⟨a1, a2, a3, a4, fun b hb => ?_⟩
  rcases a5 b hb with w | ⟨w1, w2, w3, w4, w5, w6⟩
  · exact Or.inl w
  · exact Or.inr ⟨w1, w2, w3, w4, w5, fun _ => w6⟩
theorem cs_ofx {i : Nat} (h : CSx S x A n nT nL nE D F i 8) : CS S x A n nT nL nE D F := by
  obtain ⟨h0, h1, h2, h3, h4, h5, h6, h7, h8, h9, h10⟩ := h
  refine ⟨h0, h1, h2, h3, h4, h5, ⟨fun i' hi' => ?_, h6.2⟩, h7, h8, h9, h10⟩
  obtain ⟨a1, a2, a3, a4, a5⟩ := h6.1 i' hi'
  refine ⟨a1, a2, a3, a4, fun b hb => ?_⟩
  rcases a5 b hb with w | ⟨w1, w2, w3, w4, w5, w6⟩
  · exact Or.inl w
  · exact Or.inr ⟨w1, w2, w3, w4, w5, w6 (fun _ => hb)⟩
theorem csx_s {i k : Nat} (h : CSx S x A n nT nL nE D F i k) (hn : F 17 (8 * i + k) = -1) : CSx S x A n nT nL nE D F i (k + 1) := by
  obtain ⟨h0, h1, h2, h3, h4, h5, h6, h7, h8, h9, h10⟩ := h
  refine ⟨h0, h1, h2, h3, h4, h5, ⟨fun i' hi' => ?_, h6.2⟩, h7, h8, h9, h10⟩
  obtain ⟨a1, a2, a3, a4, a5⟩ := h6.1 i' hi'
  refine ⟨a1, a2, a3, a4, fun b hb => ?_⟩
  rcases a5 b hb with w | ⟨w1, w2, w3, w4, w5, w6⟩
  · exact Or.inl w
  · refine Or.inr ⟨w1, w2, w3, w4, w5, fun v => w6 (fun e => ?_)⟩
    have := v e
    subst e
    rcases Nat.lt_or_ge b k with q | q
    · exact q
    · have : b = k := by omega
      subst this
      exact absurd hn w1
theorem dyT_at (F : Nat → Nat → Int32) (c : Nat) {b : Nat} : ∀ k, b < k → dyT F c k b = dayv F c b (dyT F c b)
  | 0, h => by omega
  | k + 1, h => by
    show (if b = k then dayv F c k (dyT F c k) else dyT F c k b) = _
    by_cases e : b = k
    · subst e
      rw [if_pos rfl]
    · rw [if_neg e]
      exact dyT_at F c k (by omega)
theorem dyT_none {c b : Nat} (hb : b < 8) (h : F 17 (8 * c + b) = -1) : dyT F c 8 b = 100000 := by
  rw [dyT_at F c 8 hb]
  unfold dayv
  rw [if_pos h]
theorem pd_b {c : Nat} (hP : PRc F c) : ∀ i, i < 16 → pd F c i < 10000 ∨ pd F c i = 100000 := fun i hi => by
  unfold pd
  rcases hP i hi with e | e
  · rw [if_pos e]
    exact Or.inr rfl
  · obtain ⟨e1, e2⟩ := ixe e (by decide)
    split
    · exact Or.inr rfl
    · exact Or.inl e2
/-- the first two parts of a badge's day -/
def mdy (F : Nat → Nat → Int32) (c b : Nat) : Nat := max (mxN (pd F c) (F 24 (eAt F c b)).toNatClampNeg 0 16) (dmT (pd F c) (F 24 (eAt F c b + 1)).toNatClampNeg (F 24 (eAt F c b + 2)).toNatClampNeg 16)
theorem mdy_b {c b : Nat} (hP : PRc F c) : mdy F c b < 10000 ∨ mdy F c b = 100000 := by
  have h1 := mxN_b (s := (F 24 (eAt F c b)).toNatClampNeg) (d := 0) (by decide) (pd_b hP) 16 (Nat.le_refl _)
  have h2 := dmT_b (s := (F 24 (eAt F c b + 1)).toNatClampNeg) (m := (F 24 (eAt F c b + 2)).toNatClampNeg) (pd_b hP)
  unfold mdy
  omega
theorem dayv_m {c b : Nat} (T : Nat → Nat) (h : ¬ F 17 (8 * c + b) = -1) : dayv F c b T = min 100000 (if F 24 (eAt F c b + 3) = -1 then max (F 17 (8 * c + b)).toNatClampNeg (mdy F c b) else max (max (F 17 (8 * c + b)).toNatClampNeg (mdy F c b)) (T (F 24 (eAt F c b + 3)).toNatClampNeg + (F 24 (eAt F c b + 4)).toNatClampNeg)) := by
  unfold dayv mdy
  rw [if_neg h, mxN_max 16]
  have e : ∀ a b c : Nat, max (max a b) c = max a (max b c) := fun a b c => by omega
  rw [e]
theorem dyT_b {c : Nat} (hP : PRc F c) (hC : CoV F c) : ∀ b, b < 8 → dyT F c 8 b < 10000 + 400 * b ∨ dyT F c 8 b = 100000 := by
  intro b
  induction b using Nat.strongRecOn with
  | _ b ih =>
    intro hb
    by_cases h17 : F 17 (8 * c + b) = -1
    · exact Or.inr (dyT_none hb h17)
    · obtain ⟨-, v⟩ := hC b hb
      obtain ⟨v1, v2, v3, v4, v5, v6, v7⟩ := v.resolve_left h17
      obtain ⟨-, f1⟩ := ixe v1 (by decide)
      rw [dyT_at F c 8 hb, dayv_m _ h17]
      have hm := mdy_b (b := b) hP
      by_cases h3 : F 24 (eAt F c b + 3) = -1
      · rw [if_pos h3]
        omega
      · rw [if_neg h3]
        obtain ⟨v8, v9⟩ := v5.resolve_left h3
        obtain ⟨-, f8⟩ := ixe v8 (by omega)
        obtain ⟨-, f9⟩ := ixe v9 (by omega)
        have := ih _ f8 (by omega)
        rw [dyT_at F c 8 (by omega), ← dyT_at F c b f8] at this
        omega
/-- what the class has of the other badge -/
def bfN (F : Nat → Nat → Int32) (c b : Nat) : Nat := if F 24 (eAt F c b + 3) = -1 then 0 else if cvD (dyT F c 8 (F 24 (eAt F c b + 3)).toNatClampNeg) = 1000000 then 1000000 else cvD (dyT F c 8 (F 24 (eAt F c b + 3)).toNatClampNeg) + (F 24 (eAt F c b + 4)).toNatClampNeg
theorem cvD_le {d : Nat} : cvD d ≤ 1000000 := by
  unfold cvD
  split <;> omega
theorem dv_eq {c b : Nat} (hP : PRc F c) (hC : CoV F c) (hb : b < 8) (h17 : ¬ F 17 (8 * c + b) = -1) : max (max (F 17 (8 * c + b)).toNatClampNeg (bfN F c b)) (cvD (mdy F c b)) = cvD (dyT F c 8 b) ∧ bfN F c b < 1013000 := by
  obtain ⟨-, v⟩ := hC b hb
  obtain ⟨v1, v2, v3, v4, v5, v6, v7⟩ := v.resolve_left h17
  obtain ⟨-, f1⟩ := ixe v1 (by decide)
  have hm := mdy_b (b := b) hP
  rw [dyT_at F c 8 hb, dayv_m _ h17]
  unfold bfN
  by_cases h3 : F 24 (eAt F c b + 3) = -1
  · rw [if_pos h3, if_pos h3]
    unfold cvD
    refine ⟨?_, by omega⟩
    split <;> split <;> omega
  · rw [if_neg h3, if_neg h3]
    obtain ⟨v8, v9⟩ := v5.resolve_left h3
    obtain ⟨-, f8⟩ := ixe v8 (by omega)
    obtain ⟨-, f9⟩ := ixe v9 (by omega)
    have := dyT_b hP hC _ (show (F 24 (eAt F c b + 3)).toNatClampNeg < 8 by omega)
    rw [show dyT F c b (F 24 (eAt F c b + 3)).toNatClampNeg = dyT F c 8 (F 24 (eAt F c b + 3)).toNatClampNeg by rw [dyT_at F c b f8, dyT_at F c 8 (by omega)]]
    generalize dyT F c 8 (F 24 (eAt F c b + 3)).toNatClampNeg = t at *
    unfold cvD
    constructor
    · split <;> split <;> split <;> split <;> omega
    · split <;> split <;> omega
/-! reading -/
theorem csx_6 {i k : Nat} (h : CSx S x A n nT nL nE D F i k) (hi : i < n) : okA S 1 (A 1 i) ∧ g_P S 113 (A 1 i) = some (A 14 i) ∧ okA S 14 (A 14 i) ∧ g_N S (A 14 i) = 8 ∧ ∀ b, b < 8 → (F 17 (8 * i + b) = -1 ∧ g_O S (A 14 i) b = none) ∨ (¬ F 17 (8 * i + b) = -1 ∧ g_O S (A 14 i) b = some (A 2 (8 * i + b)) ∧ okA S 2 (A 2 (8 * i + b)) ∧ g_P S 200 (A 2 (8 * i + b)) = some (A 3 (3 * b + (F 18 (8 * i + b)).toNatClampNeg)) ∧ g_I S 201 (A 2 (8 * i + b)) = F 17 (8 * i + b) ∧ (b < k → g_I S 202 (A 2 (8 * i + b)) = nI (cvD (dyT F i 8 b)))) := by
  obtain ⟨a1, a2, a3, a4, a5⟩ := h.2.2.2.2.2.2.1.1 i hi
  refine ⟨a1, a2, a3, a4, fun b hb => ?_⟩
  rcases a5 b hb with w | ⟨w1, w2, w3, w4, w5, w6⟩
  · exact Or.inl w
  · exact Or.inr ⟨w1, w2, w3, w4, w5, fun v => w6 (fun _ => v)⟩
theorem c1_courseOf {i k b : Nat} {Q : Option Nat → Hp → Prop} (h : CSx S x A n nT nL nE D F i k) (hi : i < n) (hb : b < 8) (h0 : F 17 (8 * i + b) = -1 → Q none S) (h1 : ¬ F 17 (8 * i + b) = -1 → Q (some (A 2 (8 * i + b))) S) : wp_X1_courseOf S (A 1 i) (nI b) Q := by
  obtain ⟨a1, a2, a3, a4, a5⟩ := csx_6 h hi
  unfold wp_X1_courseOf
  rw [if_neg (nI_pos (by omega))]
  refine ⟨a1, ?_⟩
  rw [a2, rdS]
  refine ⟨a3, ?_⟩
  rw [a4, if_neg (show ¬ Int32.ofNat 8 ≤ nI b from nI_ge (b := 8) (by omega) (by omega)), rdS]
  refine ⟨a3, by rw [a4]; exact vp_in_nI hb (by omega), ?_⟩
  rw [nIc (by omega)]
  rcases a5 b hb with w | w
  · rw [w.2]
    exact h0 w.1
  · rw [w.2.1]
    exact h1 w.1
theorem c1_dayEarned {i k b : Nat} (h : CSx S x A n nT nL nE D F i k) (hi : i < n) (hb : b < 8) (hk : b < k) (hQ : Q (nI (cvD (dyT F i 8 b))) S) : wp_X1_dayEarned S (A 1 i) (nI b) Q := by
  obtain ⟨a1, a2, a3, a4, a5⟩ := csx_6 h hi
  unfold wp_X1_dayEarned
  refine ⟨a1, c1_courseOf h hi hb (fun e => ?_) (fun e => ?_)⟩
  · rw [if_pos rfl]
    rw [dyT_none hb e] at hQ
    exact hQ
  · rw [if_neg (fun w => by cases w), rdS]
    obtain ⟨-, -, w3, -, -, w6⟩ := (a5 b hb).resolve_left (fun w => e w.1)
    refine ⟨w3, ?_⟩
    rw [w6 hk]
    exact hQ
/-- the edition of a course -/
theorem csx_e {i k b : Nat} (h : CSx S x A n nT nL nE D F i k) (hb : b < 8) (he : (F 18 (8 * i + b)).toNatClampNeg < edn F b) : okA S 3 (A 3 (3 * b + (F 18 (8 * i + b)).toNatClampNeg)) ∧ g_I S 300 (A 3 (3 * b + (F 18 (8 * i + b)).toNatClampNeg)) = F 24 (eAt F i b) ∧ g_I S 301 (A 3 (3 * b + (F 18 (8 * i + b)).toNatClampNeg)) = F 24 (eAt F i b + 1) ∧ g_I S 302 (A 3 (3 * b + (F 18 (8 * i + b)).toNatClampNeg)) = F 24 (eAt F i b + 2) ∧ g_I S 303 (A 3 (3 * b + (F 18 (8 * i + b)).toNatClampNeg)) = F 24 (eAt F i b + 3) ∧ g_I S 304 (A 3 (3 * b + (F 18 (8 * i + b)).toNatClampNeg)) = F 24 (eAt F i b + 4) ∧ g_I S 305 (A 3 (3 * b + (F 18 (8 * i + b)).toNatClampNeg)) = F 24 (eAt F i b + 5) := h.2.2.2.2.2.2.2.2.2.1 b hb _ he
theorem c1_after {i b : Nat} (h : CSx S x A n nT nL nE D F i b) (hi : i < n) (hb : b < 8) (he : (F 18 (8 * i + b)).toNatClampNeg < edn F b) (hP : PRc F i) (hC : CoV F i) (h17 : ¬ F 17 (8 * i + b) = -1) (hQ : Q (nI (bfN F i b)) S) : wp_X1_dayAfterBefore S (A 1 i) (some (A 3 (3 * b + (F 18 (8 * i + b)).toNatClampNeg))) Q := by
  obtain ⟨e0, e1, e2, e3, e4, e5, e6⟩ := csx_e h hb he
  obtain ⟨-, v⟩ := hC b hb
  obtain ⟨v1, v2, v3, v4, v5, v6, v7⟩ := v.resolve_left h17
  have a1 := (csx_6 h hi).1
  unfold wp_X1_dayAfterBefore
  rw [rdS]
  refine ⟨e0, ?_⟩
  unfold bfN at hQ
  rw [e4]
  by_cases h3 : F 24 (eAt F i b + 3) = -1
  · rw [if_pos h3]
    rw [if_pos h3] at hQ
    exact hQ
  · rw [if_neg h3, rdS]
    rw [if_neg h3] at hQ
    obtain ⟨v8, v9⟩ := v5.resolve_left h3
    obtain ⟨g8, f8⟩ := ixe v8 (by omega)
    obtain ⟨g9, f9⟩ := ixe v9 (by omega)
    refine ⟨e0, a1, ?_⟩
    rw [e4, g8]
    refine c1_dayEarned h hi (by omega) f8 ?_
    have hb2 := cvD_le (d := dyT F i 8 (F 24 (eAt F i b + 3)).toNatClampNeg)
    by_cases q : cvD (dyT F i 8 (F 24 (eAt F i b + 3)).toNatClampNeg) = 1000000
    · rw [if_pos q] at hQ
      rw [q, if_pos (show nI 1000000 = (1000000 : Int32) from rfl)]
      exact hQ
    · rw [if_neg q] at hQ
      rw [if_neg (show ¬ nI _ = (1000000 : Int32) from nI_ne (b := 1000000) (by omega) (by omega) q), rdS]
      refine ⟨e0, ?_⟩
      rw [e5, g9, nI_add]
      exact hQ
theorem po_of {i p pr : Nat} {sk : Nat → Nat} (hP : PRc F i) (h : PF F i p pr sk) : PO (pd F i) sk p := by
  obtain ⟨h1, h2, h3, h4, h5, h6⟩ := h
  have e : ∀ k, ¬ F 16 (16 * i + k) = -1 → pd F i k = (F 16 (16 * i + k)).toNatClampNeg := fun k w => by
    unfold pd
    rw [if_neg w]
  refine ⟨fun j hj => ?_, fun j hj k hk => ?_, fun k hk w => ?_⟩
  · obtain ⟨w1, w2⟩ := h4 j hj
    refine ⟨w1, ?_⟩
    rcases pd_b hP (sk j) w1 with q | q
    · exact q
    · rw [e _ w2] at q
      obtain ⟨-, f⟩ := ixe ((hP _ w1).resolve_left w2) (by decide)
      omega
  · obtain ⟨w1, w2⟩ := h5 j hj k hk
    refine ⟨w1, ?_⟩
    rw [e _ (h4 j hj).2, e _ (h4 k (by omega)).2]
    exact w2
  · refine h6 k hk (fun z => ?_)
    unfold pd at w
    rw [if_pos z] at w
    omega
theorem c1_proven {i b k : Nat} (h : CSx S x A n nT nL nE D F i k) (hi : i < n) (hb : b < 8) (he : (F 18 (8 * i + b)).toNatClampNeg < edn F b) (hP : PRc F i) (hE : EV F b (eAt F i b)) (hQ : Q (nI (cvD (mdy F i b))) S) : wp_X1_dayProven S (A 1 i) (some (A 3 (3 * b + (F 18 (8 * i + b)).toNatClampNeg))) Q := by
  obtain ⟨e0, e1, e2, e3, -⟩ := csx_e h hb he
  obtain ⟨v1, v2, v3, -, -, v7⟩ := hE
  obtain ⟨g1, f1⟩ := ixe v1 (by decide)
  obtain ⟨g2, f2⟩ := ixe v2 (by decide)
  obtain ⟨g3, f3⟩ := ixe v3 (by decide)
  obtain ⟨c0, ⟨r1, r2, o1, o2, N1, N2⟩, p, pr, sk, i110, i109, hF, hrow⟩ := h.2.2.2.2.2.1 i hi
  have hO := po_of hP hF
  have hp16 : p ≤ 16 := hF.1
  unfold mdy at hQ
  generalize hmu : (F 24 (eAt F i b)).toNatClampNeg = mu at *
  generalize hch : (F 24 (eAt F i b + 1)).toNatClampNeg = ch at *
  generalize hy : (F 24 (eAt F i b + 2)).toNatClampNeg = y at *
  obtain ⟨m1, m2⟩ := dp_main (mu := mu) (ch := ch) (y := y) hO
  have hdis : ∀ k, mu.testBit k = true → ch.testBit k = false := fun k w => by
    cases q : ch.testBit k with
    | false => rfl
    | true =>
      have : (mu &&& ch).testBit k = true := by rw [Nat.testBit_and, w, q]; rfl
      rw [v7] at this
      simp at this
  have hday : ∀ j, j < p → F 16 (16 * i + sk j) = nI (pd F i (sk j)) := fun j hj => by
    obtain ⟨w1, w2⟩ := hF.2.2.2.1 j hj
    unfold pd
    rw [if_neg w2]
    exact (ixe ((hP _ w1).resolve_left w2) (by decide)).1
  have hend : (if nI (mjN mu sk p) = 0 then (if nI (y - ccN ch sk p) = 0 then (Q (nI (dyC (pd F i) mu ch y sk p)) S) else (Q (1000000 : Int32) S)) else (Q (1000000 : Int32) S)) := by
    by_cases z : Zt mu ch y sk p
    · obtain ⟨q1, q2⟩ := m1 z
      rw [mjN_zero.mpr z.1, show y - ccN ch sk p = 0 by have := z.2; omega, if_pos nI_0, if_pos nI_0]
      rw [q1] at hQ
      have : cvD (dyC (pd F i) mu ch y sk p) = dyC (pd F i) mu ch y sk p := by
        unfold cvD
        rw [if_pos (by omega)]
      rw [this] at hQ
      exact hQ
    · have q := m2 z
      have : cvD (max (mxN (pd F i) mu 0 16) (dmT (pd F i) ch y 16)) = 1000000 := by
        unfold cvD
        rw [if_neg (by omega)]
      rw [this] at hQ
      have := mjN_lt (mu := mu) (sk := sk) (j := p)
      by_cases a1 : mjN mu sk p = 0
      · rw [a1, if_pos nI_0]
        have a2 : ¬ y - ccN ch sk p = 0 := fun w => z ⟨mjN_zero.mp a1, by omega⟩
        rw [if_neg (nI_ne0 (by omega) (by omega))]
        exact hQ
      · rw [if_neg (nI_ne0 (by omega) (by omega))]
        exact hQ
  have hL : ∀ (fuel j : Nat), j ≤ p → p < j + fuel → wp_X1_dayProven_L16 (A 1 i) (some (A 3 (3 * b + (F 18 (8 * i + b)).toNatClampNeg))) Q fuel S (nI (dyC (pd F i) mu ch y sk j)) (nI (mjN mu sk j)) (nI (y - ccN ch sk j)) (nI j) := by
    intro fuel
    induction fuel with
    | zero => intro j w1 w2; omega
    | succ f ih =>
      intro j w1 w2
      unfold wp_X1_dayProven_L16
      refine ⟨c0, ?_⟩
      rw [i110]
      by_cases ej : j = p
      · subst ej
        rw [if_pos (nI_le (Nat.le_refl _) (by omega))]
        exact hend
      · have hj : j < p := by omega
        rw [if_neg (nI_ge (by omega) (by omega)), r1, rdS]
        refine ⟨o1, ?_⟩
        rw [N1, if_neg (show ¬ Int32.ofNat 16 ≤ nI j from nI_ge (b := 16) (by omega) (by omega)), r2, rdS]
        refine ⟨o2, ?_⟩
        rw [N2, if_neg (show ¬ Int32.ofNat 16 ≤ nI j from nI_ge (b := 16) (by omega) (by omega)), rdS]
        refine ⟨o1, by rw [N1]; exact vp_in_nI (by omega) (by omega), ?_⟩
        have hs := (hF.2.2.2.1 j hj).1
        rw [nIc (by omega), (hrow j hj).1, lt_v, sh_1 (by omega)]
        have hs' := ih (j + 1) (by omega) (by omega)
        rw [show nI j + 1 = nI (j + 1) from nI_add j 1]
        have hbit := mjN_bit (mu := mu) hO hj
        by_cases hm : mu.testBit (sk j) = true
        · rw [if_neg (fun w => by rw [(fa_bit (by omega)).mp w] at hbit; rw [hm] at hbit; exact absurd hbit (by decide)), lt_v, nd_and mjN_lt, mjN_s1, rdS]
          refine ⟨o2, by rw [N2]; exact vp_in_nI (by omega) (by omega), ?_⟩
          rw [lt_v, (hrow j hj).2, hday j hj]
          have u : usB mu ch y sk j = true := by
            unfold usB
            rw [hm]
            rfl
          unfold dyC at hs'
          rw [if_pos u, ccN_s, hdis _ hm, if_neg (by decide), Nat.add_zero] at hs'
          exact hs'
        · have hm0 : mu.testBit (sk j) = false := ts_nt hm
          rw [hm0] at hbit
          rw [if_pos ((fa_bit (by omega)).mpr hbit), rdS]
          refine ⟨e0, ?_⟩
          rw [e2, g2]
          rw [mjN_s0 hm0] at hs'
          unfold dyC at hs'
          by_cases hc : ch.testBit (sk j) = true
          · rw [if_neg (fun w => by rw [(fa_bit (by omega)).mp w] at hc; exact absurd hc (by decide))]
            rw [ccN_s, hc, if_pos rfl] at hs'
            by_cases hz : y - ccN ch sk j = 0
            · have u : usB mu ch y sk j = false := by
                unfold usB
                rw [hm0, hc]
                simp
                omega
              rw [if_pos (by rw [hz]; decide)]
              rw [u, if_neg (by decide), show y - (ccN ch sk j + 1) = y - ccN ch sk j by omega] at hs'
              exact hs'
            · have u : usB mu ch y sk j = true := by
                unfold usB
                rw [hm0, hc]
                simp
                omega
              rw [if_neg (fun w => hz ((nI_le0 (by omega)).mp w)), rdS]
              refine ⟨o2, by rw [N2]; exact vp_in_nI (by omega) (by omega), ?_⟩
              rw [lt_v, (hrow j hj).2, hday j hj, show y - ccN ch sk j = (y - (ccN ch sk j + 1)) + 1 by omega, nI_dec]
              rw [if_pos u] at hs'
              exact hs'
          · have hc0 : ch.testBit (sk j) = false := ts_nt hc
            rw [if_pos ((fa_bit (by omega)).mpr hc0)]
            have u : usB mu ch y sk j = false := by
              unfold usB
              rw [hm0, hc0]
              rfl
            rw [u, if_neg (by decide), ccN_s, hc0, if_neg (by decide), Nat.add_zero] at hs'
            exact hs'
  unfold wp_X1_dayProven
  rw [rdS]
  refine ⟨e0, ?_⟩
  rw [e1, g1, lt_v, rdS]
  refine ⟨e0, ?_⟩
  rw [e3, g3, lt_v]
  refine ⟨p + 1, ?_⟩
  have := hL (p + 1) 0 (by omega) (by omega)
  rw [mjN_0 f1] at this
  exact this
theorem csx_202 {i k : Nat} (h : CSx S x A n nT nL nE D F i k) (hi : i < n) (hk : k < 8) (h17 : ¬ F 17 (8 * i + k) = -1) : CSx (s_I S 202 (A 2 (8 * i + k)) (nI (cvD (dyT F i 8 k)))) x A n nT nL nE D F i (k + 1) := by
  obtain ⟨h0, h1, h2, h3, h4, h5, h6, h7, h8, h9, h10⟩ := h
  refine ⟨h0, h1, h2, h3, h4, h5, ⟨fun i' hi' => ?_, h6.2⟩, h7, h8, h9, h10⟩
  obtain ⟨a1, a2, a3, a4, a5⟩ := h6.1 i' hi'
  refine ⟨a1, a2, a3, a4, fun b hb => ?_⟩
  rcases a5 b hb with w | ⟨w1, w2, w3, w4, w5, w6⟩
  · exact Or.inl w
  · refine Or.inr ⟨w1, w2, w3, w4, w5, fun v => ?_⟩
    by_cases e : A 2 (8 * i' + b) = A 2 (8 * i + k)
    · obtain ⟨q1, q2⟩ := h6.2.2 i' hi' i hi b hb k hk w1 h17 e
      subst q1
      subst q2
      exact sI_eq
    · rw [sI_ne (Or.inr e)]
      refine w6 (fun z => ?_)
      have := v z
      subst z
      rcases Nat.lt_or_ge b k with q | q
      · exact q
      · have : b = k := by omega
        subst this
        exact absurd rfl e
theorem c1_reckon {i : Nat} {Q : Hp → Prop} (h : CSx S x A n nT nL nE D F i 0) (hi : i < n) (he : ∀ b, b < 8 → ¬ F 17 (8 * i + b) = -1 → (F 18 (8 * i + b)).toNatClampNeg < edn F b) (hP : PRc F i) (hC : CoV F i) (hQ : ∀ S', CS S' x A n nT nL nE D F → Q S') : wp_X1_reckonBadges S (A 1 i) Q := by
  have hL : ∀ (fuel b : Nat) (S : Hp), CSx S x A n nT nL nE D F i b → b ≤ 8 → 8 < b + fuel → wp_X1_reckonBadges_L2 (A 1 i) Q fuel S (nI b) := by
    intro fuel
    induction fuel with
    | zero => intro b S _ w1 w2; omega
    | succ f ih =>
      intro b S h w1 w2
      obtain ⟨a1, a2, a3, a4, a5⟩ := csx_6 h hi
      unfold wp_X1_reckonBadges_L2
      refine ⟨a1, ?_⟩
      rw [a2, rdS]
      refine ⟨a3, ?_⟩
      rw [a4]
      by_cases e : b = 8
      · subst e
        rw [if_pos (by decide)]
        exact hQ S (cs_ofx h)
      · rw [if_neg (show ¬ Int32.ofNat 8 ≤ nI b from nI_ge (b := 8) (by omega) (by omega)), rdS]
        refine ⟨a3, by rw [a4]; exact vp_in_nI (by omega) (by omega), ?_⟩
        rw [nIc (by omega), lt_v, show nI b + 1 = nI (b + 1) from nI_add b 1]
        rcases a5 b (by omega) with ⟨w, w0⟩ | ⟨w, q2, q3, q4, q5, -⟩
        · rw [w0, if_pos rfl]
          exact ih (b + 1) S (csx_s h w) (by omega) (by omega)
        · rw [q2, if_neg (fun z => by cases z), rdS]
          obtain ⟨-, v⟩ := hC b (by omega)
          obtain ⟨v1, v2⟩ := v.resolve_left w
          obtain ⟨g1, f1⟩ := ixe v1 (by decide)
          have heb := he b (by omega) w
          obtain ⟨d1, d2⟩ := dv_eq hP hC (show b < 8 by omega) w
          refine ⟨q3, ?_⟩
          rw [q4]
          refine c1_after h hi (by omega) heb hP hC w ?_
          rw [rdS]
          refine ⟨q3, ?_⟩
          rw [rdS]
          refine ⟨q3, a1, ?_⟩
          rw [q4]
          refine c1_proven h hi (by omega) heb hP v2 ?_
          rw [rdS]
          refine ⟨q3, ?_⟩
          rw [lt_v, q5]
          have em : (if (if F 17 (8 * i + b) < nI (bfN F i b) then nI (bfN F i b) else F 17 (8 * i + b)) < nI (cvD (mdy F i b)) then nI (cvD (mdy F i b)) else (if F 17 (8 * i + b) < nI (bfN F i b) then nI (bfN F i b) else F 17 (8 * i + b))) = nI (cvD (dyT F i 8 b)) := by
            have mx : ∀ a c : Nat, a < 2 ^ 31 → c < 2 ^ 31 → (if nI a < nI c then nI c else nI a) = nI (max a c) := fun a c ha hc => by
              by_cases z : a < c
              · rw [if_pos (nI_lt' z hc), show max a c = c by omega]
              · rw [if_neg (nI_nlt (by omega) ha), show max a c = a by omega]
            have hc2 := cvD_le (d := mdy F i b)
            rw [g1, mx _ _ (by omega) (by omega), mx _ _ (by omega) (by omega)]
            rw [d1]
          rw [em]
          exact ih (b + 1) _ (csx_202 h hi (by omega) w) (by omega) (by omega)
  unfold wp_X1_reckonBadges
  exact ⟨9, hL 9 0 S h (by omega) (by omega)⟩
end CREK
