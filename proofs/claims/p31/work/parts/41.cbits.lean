/-! THE CLASS: bitCount -/
section CBITS
theorem ln_and {u v m n : Nat} (hu : u < 256) (hm : m < 256) : (u + 256 * v) &&& (m + 256 * n) = (u &&& m) + 256 * (v &&& n) := by
  have e1 : u + 256 * v = 2 ^ 8 * v + u := by omega
  have e2 : m + 256 * n = 2 ^ 8 * n + m := by omega
  have h3 : u &&& m < 2 ^ 8 := Nat.and_lt_two_pow u hm
  have e3 : (u &&& m) + 256 * (v &&& n) = 2 ^ 8 * (v &&& n) + (u &&& m) := by omega
  rw [e1, e2, e3]
  apply Nat.eq_of_testBit_eq
  intro i
  rw [Nat.testBit_and, Nat.testBit_two_pow_mul_add _ hu, Nat.testBit_two_pow_mul_add _ hm, Nat.testBit_two_pow_mul_add _ h3]
  split
  · rw [Nat.testBit_and]
  · rw [Nat.testBit_and]
def bc1 (a : Nat) : Nat := a - ((a / 2) &&& 85)
def bc2 (a : Nat) : Nat := (a &&& 51) + ((a / 4) &&& 51)
def bc3 (a : Nat) : Nat := (a + a / 16) &&& 15
theorem bc1_t : ∀ a, a < 256 → ∀ t, t < 2 → (a / 2 + 128 * t) &&& 85 = (a / 2) &&& 85 := by decide +kernel
theorem bc1_le : ∀ a, a < 256 → (a / 2) &&& 85 ≤ a := by decide +kernel
theorem bc1_lt : ∀ a, a < 256 → bc1 a < 256 := by decide +kernel
theorem bc2_t : ∀ a, a < 256 → ∀ t, t < 4 → (a / 4 + 64 * t) &&& 51 = (a / 4) &&& 51 := by decide +kernel
theorem bc2_n : ∀ a, a < 256 → bc2 (bc1 a) < 256 ∧ bc2 (bc1 a) % 16 ≤ 4 ∧ bc2 (bc1 a) / 16 ≤ 4 := by decide +kernel
theorem bc3_t : ∀ a, a < 256 → ∀ t, t < 5 → (bc2 (bc1 a) + bc2 (bc1 a) / 16 + 16 * t) &&& 15 = bc3 (bc2 (bc1 a)) := by decide +kernel
theorem bc3_n : ∀ a, a < 256 → bc3 (bc2 (bc1 a)) = pop a 8 := by decide +kernel
theorem pop_8 (a r : Nat) (ha : a < 256) (n : Nat) : pop (a + 256 * r) (8 + n) = pop a 8 + pop r n := by
  have e1 : a + 256 * r = 2 ^ 8 * r + a := by omega
  have h : ∀ k, (a + 256 * r).testBit k = if k < 8 then a.testBit k else r.testBit (k - 8) := fun k => by
    rw [e1, Nat.testBit_two_pow_mul_add _ ha]
  unfold pop
  rw [ct_fb, ct_fb, ct_fb, fb_ct_split]
  congr 1
  · exact fb_ct_cong (fun k hk => by rw [h k, if_pos hk])
  · exact fb_ct_cong (fun k hk => by
      show (a + 256 * r).testBit (8 + k) = _
      rw [h (8 + k), if_neg (by omega), Nat.add_sub_cancel_left])
theorem bcN (a b c : Nat) (ha : a < 256) (hb : b < 256) (hc : c < 256) (s y1 y2 y3 : Nat) (hs : s = a + 256 * (b + 256 * c)) (h1 : y1 = s - ((s / 2) &&& 1431655765)) (h2 : y2 = (y1 &&& 858993459) + ((y1 / 4) &&& 858993459)) (h3 : y3 = (y2 + y2 / 16) &&& 252645135) : (s / 2) &&& 1431655765 ≤ s ∧ y1 = bc1 a + 256 * (bc1 b + 256 * bc1 c) ∧ y2 = bc2 (bc1 a) + 256 * (bc2 (bc1 b) + 256 * bc2 (bc1 c)) ∧ y3 = pop a 8 + 256 * (pop b 8 + 256 * pop c 8) := by
  have c1 := bc1_le a ha
  have c2 := bc1_le b hb
  have c3 := bc1_le c hc
  have l1 := bc1_lt a ha
  have l2 := bc1_lt b hb
  have l3 := bc1_lt c hc
  obtain ⟨n1, n2, n3⟩ := bc2_n a ha
  obtain ⟨m1, m2, m3⟩ := bc2_n b hb
  obtain ⟨k1, k2, k3⟩ := bc2_n c hc
  have e1 : (s / 2) &&& 1431655765 = ((a / 2) &&& 85) + 256 * (((b / 2) &&& 85) + 256 * ((c / 2) &&& 85)) := by
    have q : s / 2 = (a / 2 + 128 * (b % 2)) + 256 * ((b / 2 + 128 * (c % 2)) + 256 * (c / 2 + 128 * 0 + 256 * 0)) := by omega
    rw [q, show 1431655765 = 85 + 256 * (85 + 256 * (85 + 256 * 85)) from rfl, ln_and (by omega) (by decide), ln_and (by omega) (by decide), ln_and (by omega) (by decide), bc1_t a ha _ (by omega), bc1_t b hb _ (by omega), bc1_t c hc _ (by omega), Nat.zero_and]
    rfl
  have e2 : y1 = bc1 a + 256 * (bc1 b + 256 * bc1 c) := by
    rw [h1, e1, hs]
    unfold bc1
    omega
  have e3 : y2 = bc2 (bc1 a) + 256 * (bc2 (bc1 b) + 256 * bc2 (bc1 c)) := by
    have q : y1 / 4 = (bc1 a / 4 + 64 * (bc1 b % 4)) + 256 * ((bc1 b / 4 + 64 * (bc1 c % 4)) + 256 * (bc1 c / 4 + 64 * 0 + 256 * 0)) := by omega
    have q2 : y1 = bc1 a + 256 * (bc1 b + 256 * (bc1 c + 256 * 0)) := by omega
    rw [h2, q, show (858993459 : Nat) = 51 + 256 * (51 + 256 * (51 + 256 * 51)) from rfl, ln_and (u := bc1 a / 4 + 64 * (bc1 b % 4)) (by omega) (by decide), ln_and (u := bc1 b / 4 + 64 * (bc1 c % 4)) (by omega) (by decide), ln_and (u := bc1 c / 4 + 64 * 0) (by omega) (by decide), bc2_t _ l1 _ (by omega), bc2_t _ l2 _ (by omega), bc2_t _ l3 _ (by omega), Nat.zero_and, q2, ln_and l1 (by decide), ln_and l2 (by decide), ln_and l3 (by decide), Nat.zero_and]
    unfold bc2
    omega
  refine ⟨by rw [e1, hs]; omega, e2, e3, ?_⟩
  have q : y2 + y2 / 16 = (bc2 (bc1 a) + bc2 (bc1 a) / 16 + 16 * (bc2 (bc1 b) % 16)) + 256 * ((bc2 (bc1 b) + bc2 (bc1 b) / 16 + 16 * (bc2 (bc1 c) % 16)) + 256 * (bc2 (bc1 c) + bc2 (bc1 c) / 16 + 16 * 0 + 256 * 0)) := by omega
  rw [h3, q, show (252645135 : Nat) = 15 + 256 * (15 + 256 * (15 + 256 * 15)) from rfl, ln_and (by omega) (by decide), ln_and (by omega) (by decide), ln_and (by omega) (by decide), bc3_t a ha _ (by omega), bc3_t b hb _ (by omega), bc3_t c hc _ (by omega), Nat.zero_and, bc3_n a ha, bc3_n b hb, bc3_n c hc]
  omega
theorem us_k {n : Nat} (hn : n < 2 ^ 32) (k : Nat) (hk : k < 32) : ((nI n).toUInt32 >>> ((nI k).toUInt32 &&& Int32.toUInt32 31)).toInt32 = nI (n / 2 ^ k) := pk_ushrN hn (nI k) k (nf_sl k hk)
theorem us_1 {n : Nat} (hn : n < 2 ^ 32) : ((nI n).toUInt32 >>> ((1 : Int32).toUInt32 &&& Int32.toUInt32 31)).toInt32 = nI (n / 2) := us_k hn 1 (by decide)
theorem us_2 {n : Nat} (hn : n < 2 ^ 32) : ((nI n).toUInt32 >>> ((2 : Int32).toUInt32 &&& Int32.toUInt32 31)).toInt32 = nI (n / 4) := us_k hn 2 (by decide)
theorem us_4 {n : Nat} (hn : n < 2 ^ 32) : ((nI n).toUInt32 >>> ((4 : Int32).toUInt32 &&& Int32.toUInt32 31)).toInt32 = nI (n / 16) := us_k hn 4 (by decide)
theorem us_8 {n : Nat} (hn : n < 2 ^ 32) : ((nI n).toUInt32 >>> ((8 : Int32).toUInt32 &&& Int32.toUInt32 31)).toInt32 = nI (n / 256) := us_k hn 8 (by decide)
theorem us_16 {n : Nat} (hn : n < 2 ^ 32) : ((nI n).toUInt32 >>> ((16 : Int32).toUInt32 &&& Int32.toUInt32 31)).toInt32 = nI (n / 65536) := us_k hn 16 (by decide)
theorem cJ_bitCount {S : Hp} {s : Nat} {Q : Int32 → Hp → Prop} (hs : s < 16777216) (hQ : Q (nI (pop s 24)) S) : wp_J6_bitCount_0f7a4 S (nI s) Q := by
  have ha : s % 256 < 256 := by omega
  have hb : s / 256 % 256 < 256 := by omega
  have hc : s / 65536 < 256 := by omega
  obtain ⟨g0, g1, g2, g3⟩ := bcN (s % 256) (s / 256 % 256) (s / 65536) ha hb hc s _ _ _ (by omega) rfl rfl rfl
  have p1 := pop_le (s % 256) 8
  have p2 := pop_le (s / 256 % 256) 8
  have p3 := pop_le (s / 65536) 8
  have hp : pop s 24 = pop (s % 256) 8 + (pop (s / 256 % 256) 8 + pop (s / 65536) 8) := by
    have e : s = s % 256 + 256 * (s / 256 % 256 + 256 * (s / 65536)) := by omega
    have q := pop_8 (s % 256) (s / 256 % 256 + 256 * (s / 65536)) ha 16
    rw [← e] at q
    have q2 := pop_8 (s / 256 % 256) (s / 65536) hb 8
    rw [q2] at q
    exact q
  unfold wp_J6_bitCount_0f7a4
  rw [lt_v, us_1 (by omega), show (1431655765 : Int32) = nI 1431655765 from rfl, fa_and, pk_sub g0]
  generalize hy1 : s - (s / 2 &&& 1431655765) = y1 at *
  have l1 := bc1_lt _ ha
  have l2 := bc1_lt _ hb
  have l3 := bc1_lt _ hc
  rw [lt_v, us_2 (n := y1) (by omega), show (858993459 : Int32) = nI 858993459 from rfl, fa_and, fa_and, nI_add]
  generalize hy2 : (y1 &&& 858993459) + (y1 / 4 &&& 858993459) = y2 at *
  obtain ⟨n1, -, -⟩ := bc2_n _ ha
  obtain ⟨m1, -, -⟩ := bc2_n _ hb
  obtain ⟨k1, -, -⟩ := bc2_n _ hc
  rw [lt_v, us_4 (n := y2) (by omega), show (252645135 : Int32) = nI 252645135 from rfl, nI_add, fa_and]
  generalize hy3 : y2 + y2 / 16 &&& 252645135 = y3 at *
  rw [lt_v, us_8 (n := y3) (by omega), nI_add]
  rw [lt_v, us_16 (n := y3 + y3 / 256) (by omega), nI_add]
  rw [show (63 : Int32) = nI (2 ^ 6 - 1) from rfl, fa_mask]
  have e : (y3 + y3 / 256 + (y3 + y3 / 256) / 65536) % 2 ^ 6 = pop s 24 := by
    clear g0 g1 g2 hy1 hy2 hy3 l1 l2 l3 n1 m1 k1 ha hb hc hs hQ
    generalize pop (s % 256) 8 = pA at *
    generalize pop (s / 256 % 256) 8 = pB at *
    generalize pop (s / 65536) 8 = pC at *
    have q1 : y3 / 256 = pB + 256 * pC := by omega
    have q2 : (y3 + y3 / 256) / 65536 = pC := by omega
    rw [q2, q1, hp, g3]
    omega
  rw [e]
  exact hQ
theorem pop_hi {s n m : Nat} (hs : s < 2 ^ n) (h : n ≤ m) : pop s m = pop s n := by
  have e : m = n + (m - n) := by omega
  unfold pop
  rw [ct_fb, ct_fb, e, fb_ct_split, fb_ct_zero.mpr (fun k hk => Nat.testBit_lt_two_pow (Nat.lt_of_lt_of_le hs (Nat.pow_le_pow_right (by decide) (Nat.le_add_right n k)))), Nat.add_zero]
theorem cJ_bitCount8 {S : Hp} {s : Nat} {Q : Int32 → Hp → Prop} (hs : s < 256) (hQ : Q (nI (pop s 8)) S) : wp_J6_bitCount_0f7a4 S (nI s) Q :=
  cJ_bitCount (by omega) (by rw [pop_hi (n := 8) hs (by omega)]; exact hQ)
theorem cJ_bitCount16 {S : Hp} {s : Nat} {Q : Int32 → Hp → Prop} (hs : s < 65536) (hQ : Q (nI (pop s 16)) S) : wp_J6_bitCount_0f7a4 S (nI s) Q :=
  cJ_bitCount (by omega) (by rw [pop_hi (n := 16) hs (by omega)]; exact hQ)
/-! sets as ints -/
theorem sh_1 {k : Nat} (hk : k < 31) : (1 : Int32) <<< (nI k &&& 31) = nI (2 ^ k) := sh1 k hk
theorem c8_hasBit {S : Hp} {s k : Nat} {Q : Int32 → Hp → Prop} (hk : k < 31) (hQ : Q (bI (s.testBit k)) S) : wp_X8_hasBit S (nI s) (nI k) Q := by
  unfold wp_X8_hasBit
  rw [sh_1 hk]
  cases hb : s.testBit k with
  | false =>
    rw [if_pos ((fa_bit hk).mpr hb)]
    rw [hb] at hQ
    exact bz0i hQ
  | true =>
    rw [if_neg (fun w => by rw [(fa_bit hk).mp w] at hb; exact absurd hb (by decide))]
    rw [hb] at hQ
    exact bz1i hQ
end CBITS
