/-! THE DAY OF A BADGE: the order of the proofs against the days of the skills -/
section CDAY
variable {p : Nat → Nat} {sk : Nat → Nat} {N mu ch y : Nat}
/-- skills sk in the order of their days p -/
def PO (p : Nat → Nat) (sk : Nat → Nat) (N : Nat) : Prop := (∀ j, j < N → sk j < 16 ∧ p (sk j) < 10000) ∧ (∀ j, j < N → ∀ k, k < j → sk j ≠ sk k ∧ p (sk k) ≤ p (sk j)) ∧ ∀ k, k < 16 → p k < 100000 → ∃ j, j < N ∧ sk j = k
def inB (sk : Nat → Nat) (j k : Nat) : Bool := anB (fun i => decide (sk i = k)) j
theorem inB_iff {j k : Nat} : inB sk j k = true ↔ ∃ i, i < j ∧ sk i = k := by
  unfold inB
  rw [anB_true]
  constructor
  · rintro ⟨i, h1, h2⟩
    exact ⟨i, h1, of_decide_eq_true h2⟩
  · rintro ⟨i, h1, h2⟩
    exact ⟨i, h1, decide_eq_true h2⟩
theorem inB_s {j k : Nat} : inB sk (j + 1) k = (inB sk j k || decide (sk j = k)) := rfl
def ccN (ch : Nat) (sk : Nat → Nat) : Nat → Nat := ct (fun i => ch.testBit (sk i))
theorem ccN_s {j : Nat} : ccN ch sk (j + 1) = ccN ch sk j + if ch.testBit (sk j) then 1 else 0 := rfl
theorem ccN_mono {a b : Nat} (h : a ≤ b) : ccN ch sk a ≤ ccN ch sk b := by
  unfold ccN
  rw [ct_fb, ct_fb]
  exact fb_ct_mono _ h
theorem po_new (h : PO p sk N) {j : Nat} (hj : j < N) : inB sk j (sk j) = false := by
  cases q : inB sk j (sk j) with
  | false => rfl
  | true =>
    obtain ⟨i, h1, h2⟩ := inB_iff.mp q
    exact absurd h2.symm (h.2.1 j hj i h1).1
theorem cc_cnt (h : PO p sk N) : ∀ j, j ≤ N → ct (fun k => ch.testBit k && inB sk j k) 16 = ccN ch sk j
  | 0, _ => by
    rw [ct_fb]
    exact fb_ct_zero.mpr (fun k _ => by simp [inB, anB])
  | j + 1, hj => by
    have ih := cc_cnt h j (by omega)
    have hs := (h.1 j (by omega)).1
    have hn := po_new h (j := j) (by omega)
    rw [ct_fb] at ih ⊢
    have u := fb_ct_upd (fun k => ch.testBit k && inB sk j k) (ch.testBit (sk j)) hs
    have e : (fun k => ch.testBit k && inB sk (j + 1) k) = fun k => if k = sk j then ch.testBit (sk j) else (ch.testBit k && inB sk j k) := by
      funext k
      rw [inB_s]
      by_cases q : k = sk j
      · subst q
        simp
      · have : ¬ sk j = k := fun w => q w.symm
        simp [q, this]
    rw [e, ccN_s]
    simp only [hn, Bool.and_false] at u
    simp only [Bool.false_eq_true, if_false, Nat.add_zero] at u
    omega
theorem po_T (h : PO p sk N) {T : Nat} (hT : T < 100000) : ∃ jT, jT ≤ N ∧ (∀ i, i < jT → p (sk i) ≤ T) ∧ (∀ i, jT ≤ i → i < N → T < p (sk i)) ∧ (∀ k, k < 16 → (p k ≤ T ↔ inB sk jT k = true)) ∧ ∀ ch, cnD p ch T 16 = ccN ch sk jT := by
  have hle := fa_first_le (fun j => decide (T < p (sk j))) N
  have hno := fa_first_no (fun j => decide (T < p (sk j))) N
  have hyes := fa_first_yes (fun j => decide (T < p (sk j))) N
  generalize fa_first (fun j => decide (T < p (sk j))) N = jT at *
  have g1 : ∀ i, i < jT → p (sk i) ≤ T := fun i hi => by
    have := hno i hi
    simp only [decide_eq_false_iff_not] at this
    omega
  have g2 : ∀ i, jT ≤ i → i < N → T < p (sk i) := fun i hi hN => by
    have w := hyes (by omega)
    simp only [decide_eq_true_eq] at w
    by_cases e : i = jT
    · rw [e]; exact w
    · have := (h.2.1 i hN jT (by omega)).2
      omega
  have g3 : ∀ k, k < 16 → (p k ≤ T ↔ inB sk jT k = true) := fun k hk => by
    rw [inB_iff]
    constructor
    · intro w
      obtain ⟨j, hj, ej⟩ := h.2.2 k hk (by omega)
      refine ⟨j, ?_, ej⟩
      rcases Nat.lt_or_ge j jT with q | q
      · exact q
      · have := g2 j q hj
        rw [ej] at this
        omega
    · rintro ⟨i, hi, ei⟩
      rw [← ei]
      exact g1 i hi
  refine ⟨jT, hle, g1, g2, g3, fun ch => ?_⟩
  rw [← cc_cnt h jT hle]
  unfold cnD
  refine ct_cong (fun k hk => ?_)
  congr 1
  have := g3 k hk
  cases q : inB sk jT k with
  | true => exact decide_eq_true (this.mpr q)
  | false => exact decide_eq_false (fun w => by rw [this.mp w] at q; exact absurd q (by decide))
/-- the proof at i counts -/
def usB (mu ch y : Nat) (sk : Nat → Nat) (i : Nat) : Bool := mu.testBit (sk i) || (ch.testBit (sk i) && decide (ccN ch sk i < y))
def dyC (p : Nat → Nat) (mu ch y : Nat) (sk : Nat → Nat) : Nat → Nat
  | 0 => 0
  | j + 1 => if usB mu ch y sk j then p (sk j) else dyC p mu ch y sk j
def Zt (mu ch y : Nat) (sk : Nat → Nat) (j : Nat) : Prop := (∀ k, k < 16 → mu.testBit k = true → inB sk j k = true) ∧ y ≤ ccN ch sk j
theorem dyC_le {T j : Nat} (h : ∀ i, i < j → p (sk i) ≤ T) : dyC p mu ch y sk j ≤ T := by
  induction j with
  | zero => exact Nat.zero_le _
  | succ j ih =>
    unfold dyC
    split
    · exact h j (by omega)
    · exact ih (fun i hi => h i (by omega))
theorem dyC_same {a b : Nat} (hab : a ≤ b) (h : ∀ i, a ≤ i → i < b → usB mu ch y sk i = false) : dyC p mu ch y sk b = dyC p mu ch y sk a := by
  induction b with
  | zero =>
    have : a = 0 := by omega
    rw [this]
  | succ b ih =>
    by_cases e : a = b + 1
    · rw [e]
    · rw [show dyC p mu ch y sk (b + 1) = if usB mu ch y sk b then p (sk b) else dyC p mu ch y sk b from rfl, h b (by omega) (by omega), if_neg (by decide)]
      exact ih (by omega) (fun i h1 h2 => h i h1 (by omega))
theorem dyC_ge (h : PO p sk N) {i j : Nat} (hi : i < j) (hj : j ≤ N) (hu : usB mu ch y sk i = true) : p (sk i) ≤ dyC p mu ch y sk j := by
  induction j with
  | zero => omega
  | succ j ih =>
    unfold dyC
    by_cases e : i = j
    · subst e
      rw [if_pos hu]
      exact Nat.le_refl _
    · split
      · exact (h.2.1 j (by omega) i (by omega)).2
      · exact ih (by omega) (by omega)
theorem cc_cross {a b : Nat} (h1 : ccN ch sk a < y) (h2 : y ≤ ccN ch sk b) (hab : a ≤ b) : ∃ i, a ≤ i ∧ i < b ∧ ch.testBit (sk i) = true ∧ ccN ch sk i < y := by
  induction b with
  | zero =>
    have : a = 0 := by omega
    subst this
    omega
  | succ b ih =>
    by_cases e : a = b + 1
    · subst e
      omega
    · rcases Nat.lt_or_ge (ccN ch sk b) y with q | q
      · refine ⟨b, by omega, by omega, ?_, q⟩
        rw [ccN_s] at h2
        cases w : ch.testBit (sk b) with
        | true => rfl
        | false =>
          rw [w] at h2
          simp at h2
          omega
      · obtain ⟨i, w1, w2, w3⟩ := ih q (by omega)
        exact ⟨i, w1, by omega, w3⟩
theorem Zt_T (h : PO p sk N) {T jT : Nat} (hj : jT ≤ N) (g1 : ∀ i, i < jT → p (sk i) ≤ T) (g2 : ∀ i, jT ≤ i → i < N → T < p (sk i)) : (Zt mu ch y sk N ∧ dyC p mu ch y sk N ≤ T) ↔ Zt mu ch y sk jT := by
  constructor
  · rintro ⟨⟨z1, z2⟩, hd⟩
    have bad : ∀ i, jT ≤ i → i < N → usB mu ch y sk i = true → False := fun i h1 h2 hu => by
      have := g2 i h1 h2
      have := dyC_ge h h2 (Nat.le_refl N) hu
      omega
    refine ⟨fun k hk hm => ?_, ?_⟩
    · obtain ⟨i, hi, ei⟩ := inB_iff.mp (z1 k hk hm)
      rcases Nat.lt_or_ge i jT with q | q
      · exact inB_iff.mpr ⟨i, q, ei⟩
      · refine (bad i q hi ?_).elim
        unfold usB
        rw [ei, hm]
        rfl
    · rcases Nat.lt_or_ge (ccN ch sk jT) y with q | q
      · obtain ⟨i, w1, w2, w3, w4⟩ := cc_cross q z2 hj
        refine (bad i w1 w2 ?_).elim
        unfold usB
        rw [w3]
        simp [w4]
      · exact q
  · rintro ⟨z1, z2⟩
    refine ⟨⟨fun k hk hm => ?_, ?_⟩, ?_⟩
    · obtain ⟨i, hi, ei⟩ := inB_iff.mp (z1 k hk hm)
      exact inB_iff.mpr ⟨i, by omega, ei⟩
    · have := ccN_mono (ch := ch) (sk := sk) hj
      omega
    · rw [dyC_same hj (fun i h1 h2 => ?_)]
      · exact dyC_le g1
      · unfold usB
        have e1 : mu.testBit (sk i) = false := by
          cases q : mu.testBit (sk i) with
          | false => rfl
          | true =>
            obtain ⟨i', hi', ei'⟩ := inB_iff.mp (z1 (sk i) (h.1 i h2).1 q)
            exact absurd ei'.symm (h.2.1 i h2 i' (by omega)).1
        have e2 : ¬ ccN ch sk i < y := by
          have := ccN_mono (ch := ch) (sk := sk) h1
          omega
        rw [e1]
        simp [e2]
theorem mxN_le_iff {s d T : Nat} : ∀ k, mxN p s d k ≤ T ↔ d ≤ T ∧ ∀ i, i < k → s.testBit i = true → p i ≤ T
  | 0 => by
    unfold mxN
    exact ⟨fun h => ⟨h, fun i hi => by omega⟩, fun h => h.1⟩
  | k + 1 => by
    have ih := mxN_le_iff (s := s) (d := d) (T := T) k
    unfold mxN
    by_cases q : s.testBit k = true
    · rw [if_pos q, Nat.max_le, ih]
      constructor
      · rintro ⟨⟨h1, h2⟩, h3⟩
        refine ⟨h1, fun i hi hs => ?_⟩
        by_cases e : i = k
        · rw [e]; exact h3
        · exact h2 i (by omega) hs
      · rintro ⟨h1, h2⟩
        exact ⟨⟨h1, fun i hi => h2 i (by omega)⟩, h2 k (by omega) q⟩
    · rw [if_neg q, ih]
      constructor
      · rintro ⟨h1, h2⟩
        refine ⟨h1, fun i hi hs => ?_⟩
        by_cases e : i = k
        · rw [e] at hs; exact absurd hs q
        · exact h2 i (by omega) hs
      · rintro ⟨h1, h2⟩
        exact ⟨h1, fun i hi => h2 i (by omega)⟩
theorem dmT_val {s m : Nat} (hm : m ≠ 0) : ∀ k, dmT p s m k = 100000 ∨ ∃ i, i < k ∧ s.testBit i = true ∧ m ≤ cnD p s (p i) 16 ∧ dmT p s m k = p i
  | 0 => by
    unfold dmT
    rw [if_neg hm]
    exact Or.inl rfl
  | k + 1 => by
    unfold dmT
    rw [if_neg hm]
    unfold dst
    split
    · rename_i w
      exact Or.inr ⟨k, by omega, w.1, w.2.1, rfl⟩
    · rcases dmT_val hm k with w | ⟨i, h1, h2, h3, h4⟩
      · exact Or.inl w
      · exact Or.inr ⟨i, by omega, h2, h3, h4⟩
theorem dmT_ub {s m i : Nat} (hm : m ≠ 0) (hs : s.testBit i = true) (hc : m ≤ cnD p s (p i) 16) : ∀ k, i < k → dmT p s m k ≤ p i
  | 0, h => by omega
  | k + 1, h => by
    unfold dmT
    rw [if_neg hm]
    unfold dst
    by_cases e : i = k
    · subst e
      split
      · exact Nat.le_refl _
      · rename_i w
        rcases Nat.lt_or_ge (p i) (dmT p s m i) with q | q
        · exact absurd ⟨hs, hc, q⟩ w
        · exact q
    · have := dmT_ub hm hs hc k (by omega)
      split
      · rename_i w
        have := w.2.2
        omega
      · exact this
theorem cnD_mono {s a b : Nat} (h : a ≤ b) : cnD p s a 16 ≤ cnD p s b 16 := by
  unfold cnD
  rw [ct_fb, ct_fb]
  refine fb_ct_sub (fun k _ w => ?_)
  simp only [Bool.and_eq_true, decide_eq_true_eq] at w ⊢
  exact ⟨w.1, by omega⟩
theorem dmT_le_iff {s m T : Nat} (hT : T < 100000) : dmT p s m 16 ≤ T ↔ m ≤ cnD p s T 16 := by
  by_cases hm : m = 0
  · subst hm
    rw [dmT_0]
    exact ⟨fun _ => Nat.zero_le _, fun _ => Nat.zero_le _⟩
  constructor
  · intro h
    rcases dmT_val (p := p) (s := s) hm 16 with w | ⟨i, h1, h2, h3, h4⟩
    · omega
    · exact Nat.le_trans h3 (cnD_mono (by omega))
  · intro h
    obtain ⟨i, hi, hmax, -⟩ := fb_best (fun j => if (s.testBit j && decide (p j ≤ T)) = true then (p j : Int) else -1) (n := 16) (by decide)
    have hpos : 0 < cnD p s T 16 := by omega
    unfold cnD at hpos
    rw [ct_fb] at hpos
    obtain ⟨k, hk, ek⟩ := fb_ct_pos.mp hpos
    have hk2 := hmax k hk
    simp only [ek, if_true] at hk2
    have hs : (s.testBit i && decide (p i ≤ T)) = true := by
      cases q : (s.testBit i && decide (p i ≤ T)) with
      | true => rfl
      | false =>
        rw [q] at hk2
        simp only [Bool.false_eq_true, if_false] at hk2
        omega
    have hs2 := hs
    simp only [Bool.and_eq_true, decide_eq_true_eq] at hs2
    have hc : m ≤ cnD p s (p i) 16 := by
      refine Nat.le_trans h ?_
      unfold cnD
      rw [ct_fb, ct_fb]
      refine fb_ct_sub (fun j hj w => ?_)
      have v := hmax j hj
      simp only [w, hs, if_true] at v
      simp only [Bool.and_eq_true, decide_eq_true_eq] at w ⊢
      exact ⟨w.1, by omega⟩
    exact Nat.le_trans (dmT_ub hm hs2.1 hc 16 hi) hs2.2
theorem mxN_max {s d : Nat} : ∀ k, mxN p s d k = max d (mxN p s 0 k)
  | 0 => by
    unfold mxN
    omega
  | k + 1 => by
    unfold mxN
    rw [mxN_max k]
    split <;> omega
theorem dp_main (h : PO p sk N) : (Zt mu ch y sk N → max (mxN p mu 0 16) (dmT p ch y 16) = dyC p mu ch y sk N ∧ dyC p mu ch y sk N < 10000) ∧ (¬ Zt mu ch y sk N → 100000 ≤ max (mxN p mu 0 16) (dmT p ch y 16)) := by
  have key : ∀ T, T < 100000 → (max (mxN p mu 0 16) (dmT p ch y 16) ≤ T ↔ (Zt mu ch y sk N ∧ dyC p mu ch y sk N ≤ T)) := fun T hT => by
    obtain ⟨jT, hle, g1, g2, g3, g4⟩ := po_T h hT
    rw [Zt_T h hle g1 g2, Nat.max_le, mxN_le_iff, dmT_le_iff hT, g4 ch]
    unfold Zt
    constructor
    · rintro ⟨⟨-, h1⟩, h2⟩
      exact ⟨fun k hk hm => (g3 k hk).mp (h1 k hk hm), h2⟩
    · rintro ⟨h1, h2⟩
      exact ⟨⟨Nat.zero_le _, fun k hk hm => (g3 k hk).mpr (h1 k hk hm)⟩, h2⟩
  have hd : dyC p mu ch y sk N ≤ 9999 := dyC_le (fun i hi => by have := (h.1 i hi).2; omega)
  refine ⟨fun z => ⟨?_, by omega⟩, fun z => ?_⟩
  · have h1 := (key (dyC p mu ch y sk N) (by omega)).mpr ⟨z, Nat.le_refl _⟩
    have h2 := ((key (max (mxN p mu 0 16) (dmT p ch y 16)) (by omega)).mp (Nat.le_refl _)).2
    omega
  · rcases Nat.lt_or_ge (max (mxN p mu 0 16) (dmT p ch y 16)) 100000 with q | q
    · exact absurd ((key _ q).mp (Nat.le_refl _)).1 z
    · exact q
/-! sets without a bit -/
theorem bt_nI (s : Nat) {i : Nat} (hi : i < 32) : bt (nI s) i = s.testBit i := by
  unfold bt
  rw [show (nI s).toBitVec = BitVec.ofNat 32 s from rfl, BitVec.getLsbD_ofNat]
  simp [hi]
def dfN (s t : Nat) : Nat := bs (fun k => s.testBit k && !t.testBit k) 16
theorem nd_and {s t : Nat} (hs : s < 65536) : nI s &&& (nI t ^^^ (-1 : Int32)) = nI (dfN s t) := by
  refine b_ext (fun i hi => ?_)
  rw [b_and, b_xor, bt_nI _ hi, bt_nI _ hi, bt_nI _ hi, b_m1 i hi]
  unfold dfN
  rw [bs_bit]
  by_cases q : i < 16
  · simp [q]
  · have : s.testBit i = false := Nat.testBit_lt_two_pow (Nat.lt_of_lt_of_le hs (Nat.pow_le_pow_right (n := 2) (by decide) (show 16 ≤ i by omega)))
    simp [q, this]
/-- the skills that are still wanting behind j proofs -/
def mjN (mu : Nat) (sk : Nat → Nat) (j : Nat) : Nat := bs (fun k => mu.testBit k && !inB sk j k) 16
theorem mjN_0 (hm : mu < 65536) : mjN mu sk 0 = mu := by
  apply Nat.eq_of_testBit_eq
  intro i
  unfold mjN
  rw [bs_bit]
  by_cases q : i < 16
  · simp [q, inB, anB]
  · have : mu.testBit i = false := Nat.testBit_lt_two_pow (Nat.lt_of_lt_of_le hm (Nat.pow_le_pow_right (n := 2) (by decide) (show 16 ≤ i by omega)))
    simp [q, this]
theorem mjN_lt {j : Nat} : mjN mu sk j < 65536 := bs_lt _ 16
theorem mjN_bit (h : PO p sk N) {j : Nat} (hj : j < N) : (mjN mu sk j).testBit (sk j) = mu.testBit (sk j) := by
  unfold mjN
  rw [bs_bit, po_new h hj]
  simp [(h.1 j hj).1]
theorem mjN_s1 {j : Nat} : dfN (mjN mu sk j) (2 ^ sk j) = mjN mu sk (j + 1) := by
  apply Nat.eq_of_testBit_eq
  intro i
  unfold dfN mjN
  rw [bs_bit, bs_bit, bs_bit, inB_s, Nat.testBit_two_pow]
  cases decide (i < 16) <;> cases mu.testBit i <;> cases inB sk j i <;> simp
theorem mjN_s0 {j : Nat} (h : mu.testBit (sk j) = false) : mjN mu sk (j + 1) = mjN mu sk j := by
  unfold mjN
  refine bs_cg (fun k hk => ?_)
  rw [inB_s]
  by_cases q : sk j = k
  · rw [← q, h]
    rfl
  · simp [q]
theorem mjN_zero {j : Nat} : mjN mu sk j = 0 ↔ ∀ k, k < 16 → mu.testBit k = true → inB sk j k = true := by
  constructor
  · intro h k hk hm
    have : (mjN mu sk j).testBit k = false := by rw [h]; simp
    unfold mjN at this
    rw [bs_bit, hm] at this
    simpa [hk] using this
  · intro h
    apply Nat.eq_of_testBit_eq
    intro i
    unfold mjN
    rw [bs_bit]
    by_cases q : i < 16
    · cases w : mu.testBit i with
      | false => simp
      | true => simp [h i q w]
    · simp [q]
/-! bounds -/
theorem mxN_b {s d : Nat} (hd : d < 10000) (hp : ∀ i, i < 16 → p i < 10000 ∨ p i = 100000) : ∀ k, k ≤ 16 → mxN p s d k < 10000 ∨ mxN p s d k = 100000
  | 0, _ => Or.inl hd
  | k + 1, hk => by
    have h1 := mxN_b (s := s) hd hp k (by omega)
    have h2 := hp k (by omega)
    unfold mxN
    split
    · omega
    · exact h1
theorem dmT_b {s m : Nat} (hp : ∀ i, i < 16 → p i < 10000 ∨ p i = 100000) : dmT p s m 16 < 10000 ∨ dmT p s m 16 = 100000 := by
  by_cases hm : m = 0
  · subst hm
    rw [dmT_0]
    exact Or.inl (by decide)
  · rcases dmT_val (p := p) (s := s) hm 16 with w | ⟨i, h1, h2, h3, h4⟩
    · exact Or.inr w
    · rw [h4]
      exact hp i h1
end CDAY
