/-! TEAMS: the class's search against all ways to give the leaders away -/
section CTEAM
/-- an event of y children, one leader for p, with vetted v and permitted m, is lawful by team t -/
def okT (y p v m t : Nat) : Prop := y = 0 ∨ (y ≤ pop t 8 * p ∧ (∀ k, t.testBit k = true → v.testBit k = true) ∧ (∃ k, t.testBit k = true ∧ m.testBit k = true) ∧ ¬ (y = 1 ∧ pop t 8 = 1))
def sbT (t u : Nat) : Prop := ∀ k, t.testBit k = true → u.testBit k = true
theorem pop_mono {t u : Nat} (h : sbT t u) : pop t 8 ≤ pop u 8 := by
  unfold pop
  rw [ct_fb, ct_fb]
  exact fb_ct_sub (fun k _ w => h k w)
theorem sb_and {t u v : Nat} (h1 : sbT t u) (h2 : sbT t v) : sbT t (u &&& v) := fun k hk => by
  rw [Nat.testBit_and, h1 k hk, h2 k hk]
  rfl
theorem pop_none {t : Nat} (ht : t < 256) (h : pop t 8 = 0) (k : Nat) : t.testBit k = false := by
  cases q : t.testBit k with
  | false => rfl
  | true =>
    have hk := lt_bit (m := 8) ht q
    unfold pop at h
    rw [ct_fb] at h
    have := fb_ct_zero.mp h k hk
    rw [q] at this
    exact this
theorem lsN_0 (p : Nat) : lsN 0 p = 0 := by
  unfold lsN
  rw [if_neg (by decide)]
  have := fa_first_le (fun c => decide (0 ≤ c * p)) 0
  omega
theorem lsN_1 (p : Nat) : lsN 1 p = 2 := by
  unfold lsN
  rw [if_pos rfl]
theorem lsN_ge {y p : Nat} (hp : 1 ≤ p) : y ≤ lsN y p * p := by
  unfold lsN
  by_cases h1 : y = 1
  · rw [if_pos h1]
    omega
  · rw [if_neg h1]
    have hyes := fa_first_yes (fun c => decide (y ≤ c * p)) y
    have hle := fa_first_le (fun c => decide (y ≤ c * p)) y
    generalize fa_first (fun c => decide (y ≤ c * p)) y = f at *
    by_cases e : f < y
    · have := hyes e
      simpa using this
    · have : f = y := by omega
      subst this
      exact Nat.le_mul_of_pos_right f hp
theorem lsN_pos {y p : Nat} (hy : 1 ≤ y) (hp : 1 ≤ p) : 1 ≤ lsN y p := by
  have := lsN_ge (y := y) hp
  rcases Nat.eq_zero_or_pos (lsN y p) with w | w
  · rw [w] at this
    omega
  · exact w
theorem lsN_min {y p c : Nat} (hy : 1 ≤ y) (h : y ≤ c * p) (h1 : ¬ (y = 1 ∧ c = 1)) : lsN y p ≤ c := by
  unfold lsN
  by_cases e : y = 1
  · rw [if_pos e]
    rcases Nat.lt_or_ge c 2 with q | q
    · rcases (show c = 0 ∨ c = 1 by omega) with w | w
      · subst w
        omega
      · exact absurd ⟨e, w⟩ h1
    · exact q
  · rw [if_neg e]
    have hno := fa_first_no (fun c => decide (y ≤ c * p)) y
    generalize fa_first (fun c => decide (y ≤ c * p)) y = f at *
    rcases Nat.lt_or_ge c f with q | q
    · have := hno c q
      simp at this
      omega
    · exact q
/-- a part of a team with one leader in it, of any number -/
theorem sub_ex {t p0 c : Nat} (hc : 1 ≤ c) : ∀ d t, pop t 8 = c + d → t < 256 → t.testBit p0 = true → ∃ t', sbT t' t ∧ t' < 256 ∧ t'.testBit p0 = true ∧ pop t' 8 = c
  | 0, t, h, ht, hp => ⟨t, fun _ w => w, ht, hp, h⟩
  | d + 1, t, h, ht, hp => by
    have hp8 := lt_bit (m := 8) ht hp
    have hq : ∃ q, q < 8 ∧ q ≠ p0 ∧ t.testBit q = true := by
      by_cases w : ∃ q, q < 8 ∧ q ≠ p0 ∧ t.testBit q = true
      · exact w
      · have u := fb_ct_upd (fun k => t.testBit k) false hp8
        have z : fb_ct (fun k => if k = p0 then false else t.testBit k) 8 = 0 := fb_ct_zero.mpr (fun k hk => by
          by_cases e : k = p0
          · rw [if_pos e]
          · rw [if_neg e]
            cases v : t.testBit k with
            | false => rfl
            | true => exact absurd ⟨k, hk, e, v⟩ w)
        unfold pop at h
        rw [ct_fb] at h
        simp only [hp, if_true] at u
        rw [z, h] at u
        simp at u
        omega
    obtain ⟨q, hq8, hqp, hqt⟩ := hq
    have hb : ∀ k, (bs (fun k => t.testBit k && !decide (k = q)) 8).testBit k = (decide (k < 8) && (t.testBit k && !decide (k = q))) := fun k => bs_bit _ 8 k
    have hpop : pop (bs (fun k => t.testBit k && !decide (k = q)) 8) 8 = c + d := by
      rw [bs_pop (Nat.le_refl 8), ct_fb]
      have u := fb_ct_upd (fun k => t.testBit k) false hq8
      have e : (fun k => t.testBit k && !decide (k = q)) = fun k => if k = q then false else t.testBit k := by
        funext k
        by_cases e : k = q
        · simp [e]
        · simp [e]
      rw [e]
      unfold pop at h
      rw [ct_fb] at h
      simp only [hqt, if_true] at u
      rw [h] at u
      simp only [Bool.false_eq_true, if_false, Nat.add_zero] at u
      omega
    obtain ⟨t', h1, h2, h3, h4⟩ := sub_ex (t := t) (p0 := p0) hc d _ hpop (bs_lt _ 8) (by rw [hb, hp]; simp [hp8, hqp.symm])
    refine ⟨t', fun k hk => ?_, h2, h3, h4⟩
    have := h1 k hk
    rw [hb] at this
    simp only [Bool.and_eq_true] at this
    exact this.2.1
theorem ok_all {y p v m t l : Nat} (hp : 1 ≤ p) (h : okT y p v m t) (hs : sbT t l) : okT y p v m (l &&& v) := by
  rcases h with h | ⟨h1, h2, ⟨k, h3, h4⟩, h5⟩
  · exact Or.inl h
  · have hsub : sbT t (l &&& v) := sb_and hs h2
    have hm := pop_mono hsub
    refine Or.inr ⟨?_, fun k hk => ?_, ⟨k, hsub k h3, h4⟩, fun w => ?_⟩
    · exact Nat.le_trans h1 (Nat.mul_le_mul_right p hm)
    · rw [Nat.testBit_and] at hk
      simp only [Bool.and_eq_true] at hk
      exact hk.2
    · have : pop t 8 = 0 := by
        rcases Nat.eq_zero_or_pos (pop t 8) with q | q
        · exact q
        · exact absurd ⟨w.1, by omega⟩ h5
      rw [this] at h1
      omega
theorem ok_least {y p v m t : Nat} (hp : 1 ≤ p) (ht : t < 256) (h : okT y p v m t) : ∃ t', sbT t' t ∧ t' < 256 ∧ pop t' 8 = lsN y p ∧ okT y p v m t' ∧ sbT t' v := by
  by_cases hy : y = 0
  · subst hy
    have e0 : pop 0 8 = 0 := by decide
    exact ⟨0, fun k hk => by simp at hk, by decide, by rw [lsN_0]; exact e0, Or.inl rfl, fun k hk => by simp at hk⟩
  · obtain ⟨h1, h2, ⟨k, h3, h4⟩, h5⟩ := h.resolve_left hy
    have hl := lsN_min (by omega) h1 h5
    obtain ⟨t', g1, g2, g3, g4⟩ := sub_ex (t := t) (p0 := k) (lsN_pos (show 1 ≤ y by omega) hp) (pop t 8 - lsN y p) t (by omega) ht h3
    refine ⟨t', g1, g2, g4, Or.inr ⟨?_, fun j hj => h2 j (g1 j hj), ⟨k, g3, h4⟩, fun w => ?_⟩, fun j hj => h2 j (g1 j hj)⟩
    · rw [g4]
      exact lsN_ge hp
    · rw [g4, w.1, lsN_1] at w
      exact absurd w.2 (by decide)
/-- the class's search: r events from place on, by the leaders l -/
def csP (Y P V M : Nat → Nat) : Nat → Nat → Nat → Prop
  | 0, _, _ => True
  | r + 1, k, l => okT (Y k) (P k) (V k) (M k) (l &&& V k) ∧ ∃ t, t < 256 ∧ sbT t (l &&& V k) ∧ pop t 8 = lsN (Y k) (P k) ∧ okT (Y k) (P k) (V k) (M k) t ∧ csP Y P V M r (k + 1) (dfN l t)
/-- teams for r events from place on -/
def asP (Y P V M : Nat → Nat) (r k l : Nat) : Prop := ∃ g : Nat → Nat, (∀ j, k ≤ j → j < k + r → sbT (g j) l ∧ g j < 256 ∧ okT (Y j) (P j) (V j) (M j) (g j)) ∧ ∀ i j, k ≤ i → i < j → j < k + r → ∀ b, (g i).testBit b = true → (g j).testBit b = false
theorem df_bit {l t k : Nat} (hl : l < 256) : (dfN l t).testBit k = (l.testBit k && !t.testBit k) := by
  unfold dfN
  rw [bs_bit]
  cases q : l.testBit k with
  | false => simp
  | true =>
    have := lt_bit (m := 8) hl q
    simp [show k < 16 by omega]
theorem df_lt {l t : Nat} (hl : l < 256) : dfN l t < 256 := by
  refine Nat.lt_pow_two_of_testBit (n := 8) _ (fun i hi => ?_)
  rw [df_bit hl]
  rw [Nat.testBit_lt_two_pow (Nat.lt_of_lt_of_le hl (Nat.pow_le_pow_right (n := 2) (by decide) hi))]
  rfl
theorem cs_as {Y P V M : Nat → Nat} (hP : ∀ k, 1 ≤ P k) : ∀ r k l, l < 256 → (csP Y P V M r k l ↔ asP Y P V M r k l)
  | 0, k, l, _ => ⟨fun _ => ⟨fun _ => 0, fun j h1 h2 => by omega, fun i j h1 h2 h3 => by omega⟩, fun _ => trivial⟩
  | r + 1, k, l, hl => by
    have ih := fun t => cs_as (Y := Y) (P := P) (V := V) (M := M) hP r (k + 1) (dfN l t) (df_lt hl)
    constructor
    · rintro ⟨h1, t, ht, hs, hc, ho, hr⟩
      obtain ⟨g, g1, g2⟩ := (ih t).mp hr
      refine ⟨fun j => if j = k then t else g j, fun j w1 w2 => ?_, fun i j w1 w2 w3 b hb => ?_⟩
      · by_cases e : j = k
        · subst e
          simp only [if_true]
          refine ⟨fun i hi => ?_, ht, ho⟩
          have := hs i hi
          rw [Nat.testBit_and] at this
          simp only [Bool.and_eq_true] at this
          exact this.1
        · simp only [e, if_false]
          obtain ⟨a1, a2, a3⟩ := g1 j (by omega) (by omega)
          refine ⟨fun i hi => ?_, a2, a3⟩
          have := a1 i hi
          rw [df_bit hl] at this
          simp only [Bool.and_eq_true] at this
          exact this.1
      · have e2 : ¬ j = k := by omega
        simp only [e2, if_false]
        by_cases e : i = k
        · subst e
          simp only [if_true] at hb
          cases q : (g j).testBit b with
          | false => rfl
          | true =>
            have := (g1 j (by omega) (by omega)).1 b q
            rw [df_bit hl, hb] at this
            simp at this
        · simp only [e, if_false] at hb
          exact g2 i j (by omega) w2 (by omega) b hb
    · rintro ⟨g, g1, g2⟩
      obtain ⟨a1, a2, a3⟩ := g1 k (by omega) (by omega)
      obtain ⟨t', b1, b2, b3, b4, b5⟩ := ok_least (hP k) a2 a3
      refine ⟨ok_all (hP k) a3 a1, t', b2, sb_and (fun i hi => a1 i (b1 i hi)) b5, b3, b4, (ih t').mpr ⟨g, fun j w1 w2 => ?_, fun i j w1 w2 w3 b hb => g2 i j (by omega) w2 (by omega) b hb⟩⟩
      obtain ⟨c1, c2, c3⟩ := g1 j (by omega) (by omega)
      refine ⟨fun i hi => ?_, c2, c3⟩
      rw [df_bit hl, c1 i hi]
      cases q : t'.testBit i with
      | false => rfl
      | true =>
        have := g2 k j (by omega) (by omega) (by omega) i (b1 i q)
        rw [hi] at this
        exact absurd this (by decide)
/-! the reference's ways -/
def crN (s : Nat) : Nat → Nat → Nat
  | 0, _ => 0
  | f + 1, l => (if s.testBit l then 1 else 0) + crN s f (l + 1)
theorem crN_eq (s : Nat) : ∀ f l, crN s f l = fb_ct (fun k => s.testBit (l + k)) f
  | 0, _ => rfl
  | f + 1, l => by
    unfold crN
    rw [crN_eq s f (l + 1), Nat.add_comm f 1, fb_ct_split]
    have e : (fun k => s.testBit (l + 1 + k)) = fun k => s.testBit (l + (1 + k)) := by
      funext k
      rw [Nat.add_assoc]
    rw [e]
    have e2 : fb_ct (fun k => s.testBit (l + k)) 1 = if s.testBit l then 1 else 0 := by
      unfold fb_ct fb_ct
      simp
    rw [e2]
theorem crN_pop (s m : Nat) : crN s m 0 = pop s m := by
  rw [crN_eq]
  unfold pop
  rw [ct_fb]
  exact fb_ct_cong (fun k _ => by rw [Nat.zero_add])
theorem gv_sub {mm s : Nat} : ∀ f l T (tab : Nat → Nat) k b, (gvS mm s f l T tab k).testBit b = true → (tab k).testBit b = true ∨ (l ≤ b ∧ b < l + f ∧ s.testBit b = true)
  | 0, _, _, _, _, _, h => Or.inl h
  | f + 1, l, T, tab, k, b, h => by
    unfold gvS at h
    by_cases q : s.testBit l = true
    · rw [if_pos q] at h
      rcases gv_sub f (l + 1) _ _ k b h with w | ⟨w1, w2, w3⟩
      · by_cases e : k = T % (mm + 1)
        · simp only [e, if_true] at w
          rw [fb_bit_set] at w
          simp only [Bool.or_eq_true, decide_eq_true_eq] at w
          rcases w with w | w
          · exact Or.inl (by rw [e]; exact w)
          · exact Or.inr ⟨by omega, by omega, by rw [w]; exact q⟩
        · simp only [e, if_false] at w
          exact Or.inl w
      · exact Or.inr ⟨by omega, by omega, w3⟩
    · rw [if_neg q] at h
      rcases gv_sub f (l + 1) _ _ k b h with w | ⟨w1, w2, w3⟩
      · exact Or.inl w
      · exact Or.inr ⟨by omega, by omega, w3⟩
theorem gv_dis {mm s : Nat} : ∀ f l T (tab : Nat → Nat), (∀ k b, (tab k).testBit b = true → b < l) → (∀ i j b, i ≠ j → (tab i).testBit b = true → (tab j).testBit b = false) → ∀ i j b, i ≠ j → (gvS mm s f l T tab i).testBit b = true → (gvS mm s f l T tab j).testBit b = false
  | 0, _, _, _, _, hd, i, j, b, hij, h => hd i j b hij h
  | f + 1, l, T, tab, hb, hd, i, j, b, hij, h => by
    unfold gvS at h ⊢
    by_cases q : s.testBit l = true
    · rw [if_pos q] at h ⊢
      refine gv_dis f (l + 1) _ _ (fun k b hk => ?_) (fun i j b hij hi => ?_) i j b hij h
      · by_cases e : k = T % (mm + 1)
        · simp only [e, if_true] at hk
          rw [fb_bit_set] at hk
          simp only [Bool.or_eq_true, decide_eq_true_eq] at hk
          rcases hk with w | w
          · have := hb _ b w
            omega
          · omega
        · simp only [e, if_false] at hk
          have := hb _ b hk
          omega
      · by_cases e : i = T % (mm + 1)
        · have e2 : ¬ j = T % (mm + 1) := fun w => hij (e.trans w.symm)
          simp only [e, if_true] at hi
          simp only [e2, if_false]
          rw [fb_bit_set] at hi
          simp only [Bool.or_eq_true, decide_eq_true_eq] at hi
          rcases hi with w | w
          · exact hd _ j b (fun z => e2 z.symm) w
          · cases v : (tab j).testBit b with
            | false => rfl
            | true =>
              have := hb _ b v
              omega
        · simp only [e, if_false] at hi
          by_cases e2 : j = T % (mm + 1)
          · simp only [e2, if_true]
            rw [fb_bit_set, hd i (T % (mm + 1)) b e hi]
            have := hb _ b hi
            simp
            omega
          · simp only [e2, if_false]
            exact hd i j b hij hi
    · rw [if_neg q] at h ⊢
      exact gv_dis f (l + 1) _ _ (fun k b hk => by have := hb k b hk; omega) hd i j b hij h
theorem gv_all {mm s : Nat} (d : Nat → Nat) (hd : ∀ b, d b ≤ mm) : ∀ f l, ∃ T, T < (mm + 1) ^ crN s f l ∧ ∀ (tab : Nat → Nat) k b, (gvS mm s f l T tab k).testBit b = ((tab k).testBit b || (decide (l ≤ b ∧ b < l + f) && (s.testBit b && decide (d b = k))))
  | 0, l => ⟨0, Nat.pow_pos (by omega), fun tab k b => by
    rw [decide_eq_false (show ¬ (l ≤ b ∧ b < l + 0) by omega)]
    simp [gvS]⟩
  | f + 1, l => by
    obtain ⟨T, hT, h⟩ := gv_all (s := s) d hd f (l + 1)
    by_cases q : s.testBit l = true
    · refine ⟨d l + (mm + 1) * T, ?_, fun tab k b => ?_⟩
      · unfold crN
        rw [if_pos q, Nat.pow_add, Nat.pow_one]
        have h1 := hd l
        have h2 : (mm + 1) * (T + 1) ≤ (mm + 1) * (mm + 1) ^ crN s f (l + 1) := Nat.mul_le_mul_left _ hT
        rw [Nat.mul_add, Nat.mul_one] at h2
        omega
      · have e1 : (d l + (mm + 1) * T) % (mm + 1) = d l := by
          rw [Nat.add_mul_mod_self_left, Nat.mod_eq_of_lt (by have := hd l; omega)]
        have e2 : (d l + (mm + 1) * T) / (mm + 1) = T := by
          rw [Nat.add_mul_div_left _ _ (by omega), Nat.div_eq_of_lt (by have := hd l; omega), Nat.zero_add]
        unfold gvS
        rw [if_pos q, e1, e2, h]
        by_cases e : b = l
        · subst e
          rw [decide_eq_false (show ¬ (b + 1 ≤ b ∧ b < b + 1 + f) by omega), decide_eq_true (show b ≤ b ∧ b < b + (f + 1) by omega), q]
          by_cases ek : k = d b
          · subst ek
            simp only [if_true]
            rw [fb_bit_set]
            simp
          · have : ¬ d b = k := fun w => ek w.symm
            simp [ek, this]
        · have e3 : (if k = d l then tab k ||| 2 ^ l else tab k).testBit b = (tab k).testBit b := by
            split
            · rw [fb_bit_set]
              simp [e]
            · rfl
          rw [e3]
          have e4 : decide (l + 1 ≤ b ∧ b < l + 1 + f) = decide (l ≤ b ∧ b < l + (f + 1)) := decide_eq_decide.mpr (by omega)
          rw [e4]
    · refine ⟨T, ?_, fun tab k b => ?_⟩
      · unfold crN
        rw [if_neg q, Nat.zero_add]
        exact hT
      · unfold gvS
        rw [if_neg q, h]
        by_cases e : b = l
        · subst e
          have : s.testBit b = false := ts_nt q
          simp [this]
        · have e4 : decide (l + 1 ≤ b ∧ b < l + 1 + f) = decide (l ≤ b ∧ b < l + (f + 1)) := decide_eq_decide.mpr (by omega)
          rw [e4]
theorem law_as {Y P V M : Nat → Nat} {F : Nat → Nat → Int32} {n nl mm s : Nat} {go : Nat → Nat} (h8 : nl ≤ 8) (hs : s < 2 ^ nl) (hv : ∀ k, k < mm → ∀ t, t < 2 ^ nl → (rsn F n nl (go k) t = 0 ↔ okT (Y k) (P k) (V k) (M k) t)) : anB (lawB F n nl mm s go) ((mm + 1) ^ pop s nl) = true ↔ asP Y P V M mm 0 s := by
  have hs8 : s < 256 := Nat.lt_of_lt_of_le hs (Nat.pow_le_pow_right (n := 2) (by decide) h8)
  have tl : ∀ t, sbT t s → t < 2 ^ nl := fun t ht => Nat.lt_pow_two_of_testBit _ (fun i hi => by
    cases q : t.testBit i with
    | false => rfl
    | true =>
      have := lt_bit hs (ht i q)
      omega)
  rw [anB_true]
  constructor
  · rintro ⟨T, hT, h⟩
    unfold lawB at h
    rw [alB_true] at h
    refine ⟨fun k => gvS mm s nl 0 T (fun _ => 0) k, fun j h1 h2 => ?_, fun i j h1 h2 h3 b hb => ?_⟩
    · have hsub : sbT (gvS mm s nl 0 T (fun _ => 0) j) s := fun b hb => by
        rcases gv_sub nl 0 T (fun _ => 0) j b hb with w | w
        · simp at w
        · exact w.2.2
      refine ⟨hsub, ?_, ?_⟩
      · exact Nat.lt_of_lt_of_le (tl _ hsub) (Nat.pow_le_pow_right (n := 2) (by decide) h8)
      · have := h j (by omega)
        exact (hv j (by omega) _ (tl _ hsub)).mp (of_decide_eq_true this)
    · exact gv_dis nl 0 T (fun _ => 0) (fun k b hk => by simp at hk) (fun i j b _ hi => by simp at hi) i j b (by omega) hb
  · rintro ⟨g, g1, g2⟩
    obtain ⟨T, hT, h⟩ := gv_all (s := s) (mm := mm) (fun b => fa_first (fun k => (g k).testBit b) mm) (fun b => fa_first_le _ _) nl 0
    refine ⟨T, by rw [crN_pop] at hT; exact hT, ?_⟩
    unfold lawB
    rw [alB_true]
    intro k hk
    obtain ⟨a1, a2, a3⟩ := g1 k (by omega) (by omega)
    have eg : gvS mm s nl 0 T (fun _ => 0) k = g k := by
      apply Nat.eq_of_testBit_eq
      intro b
      rw [h, Nat.zero_testBit, Bool.false_or]
      have hle := fa_first_le (fun k => (g k).testBit b) mm
      have hno := fa_first_no (fun k => (g k).testBit b) mm
      have hyes := fa_first_yes (fun k => (g k).testBit b) mm
      generalize fa_first (fun k => (g k).testBit b) mm = f at *
      cases q : (g k).testBit b with
      | true =>
        have hb := a1 b q
        have hbl := lt_bit hs hb
        have ef : f = k := by
          rcases Nat.lt_trichotomy f k with w | w | w
          · have w2 := hyes (by omega)
            have := g2 f k (by omega) w (by omega) b w2
            rw [q] at this
            exact absurd this (by decide)
          · exact w
          · have := hno k w
            rw [q] at this
            exact absurd this (by decide)
        rw [hb, decide_eq_true (show 0 ≤ b ∧ b < 0 + nl by omega), decide_eq_true ef]
        rfl
      | false =>
        by_cases ef : f = k
        · have := hyes (by omega)
          rw [ef, q] at this
          exact absurd this (by decide)
        · simp [ef]
    rw [eg]
    exact decide_eq_true ((hv k hk _ (tl _ a1)).mpr a3)
end CTEAM
