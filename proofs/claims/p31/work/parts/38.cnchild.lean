/-! THE CLASS: new children -/
section CNCHILD
variable {S : Hp} {x : Nat} {A : Nat → Nat → Nat} {n nT nL nE : Nat} {D : Nat → Int32} {F : Nat → Nat → Int32} {Q : Int32 → Hp → Prop} {EQ : String → Hp → Prop}
theorem lv_ok (h5 : P_5 S A F n) (h7 : P_7 S A F nL) {r : Nat} (hr : lv11 n nL r) : okA S 11 (A 11 r) := by
  rcases hr with hr | ⟨hr, hr2⟩
  · obtain ⟨-, ⟨-, -, a3, a4, -⟩, -⟩ := h5 (r / 2) (by omega)
    rcases Nat.mod_two_eq_zero_or_one r with e | e
    · have : 2 * (r / 2) = r := by omega
      rw [this] at a3
      exact a3
    · have : 2 * (r / 2) + 1 = r := by omega
      rw [this] at a4
      exact a4
  · obtain ⟨-, -, ⟨b1, b2, b3⟩, -⟩ := h7.1 ((r - 48) / 3) (by omega)
    rcases (show r = 48 + 3 * ((r - 48) / 3) ∨ r = 48 + 3 * ((r - 48) / 3) + 1 ∨ r = 48 + 3 * ((r - 48) / 3) + 2 by omega) with e | e | e
    · rw [← e] at b1; exact b1
    · rw [← e] at b2; exact b2
    · rw [← e] at b3; exact b3
theorem P_7_cB {A' : Nat → Nat → Nat} {F' : Nat → Nat → Int32} (a5 : A' 5 = A 5) (a11 : ∀ r, 48 ≤ r → A' 11 r = A 11 r) (f20 : F' 20 = F 20) (f21 : F' 21 = F 21) (f22 : F' 22 = F 22) (h : P_7 S A F nL) : P_7 S A' F' nL := by
  refine ⟨fun l hl => ?_, fun l hl k hk => ?_⟩
  · have := h.1 l hl
    rw [a5, a11 (48 + 3 * l) (by omega), a11 (48 + 3 * l + 1) (by omega), a11 (48 + 3 * l + 2) (by omega), f20, f21, f22]
    exact this
  · rw [a5]
    exact h.2 l hl k hk
theorem P_5_cB {A' : Nat → Nat → Nat} {F' : Nat → Nat → Int32} (h24 : n ≤ 24) (a1 : A' 1 = A 1) (a11 : ∀ r, r < 48 → A' 11 r = A 11 r) (f16 : F' 16 = F 16) (h : P_5 S A F n) : P_5 S A' F' n := fun i hi => by
  have := h i hi
  unfold PF at this ⊢
  rw [a1, a11 (2 * i) (by omega), a11 (2 * i + 1) (by omega), f16]
  exact this
theorem ex_new {S1 S2 : Hp} {q : Nat} (hq : q ∉ g_L S) (h1 : exB (fun _ => True) S S1) (h2 : exB (fun b => b ≠ q) S1 S2) : ex aK S S2 :=
  exB_mono (P := fun b => b ≠ q) (exB_trans (exB_mono h1 (fun _ _ _ => trivial)) h2) (fun b hb _ w => hq (w ▸ hb))
theorem c8_child1 {a : Int32} (hv : a < 5 ∨ 17 < a) (hE : EQ "java/lang/IllegalArgumentException" S) : wp_X8_child S x a Q EQ := by
  unfold wp_X8_child
  exact cs_rg0 hv hE
theorem c8_child2 {a : Int32} (h : CS S x A n nT nL nE D F) (hv : ¬ (a < 5 ∨ 17 < a)) (h24 : n = 24) (hE : EQ "java/lang/IllegalStateException" S) : wp_X8_child S x a Q EQ := by
  have hl : LK S (A 10 1) (A 15 1) n (A 1) := cs_L h (show 1 < 12 by decide)
  have hp : g_P S 801 x = some (A 10 1) := h.1.2.1.2.1
  unfold wp_X8_child
  refine cs_rg1 hv ⟨h.1.1, ?_⟩
  rw [hp, rdS]
  refine ⟨hl.1, c_size hl (cs_rm0 ?_ hE)⟩
  rw [h24]
  decide
theorem chN_ne {t u : Nat} {a : Int32} (h : u ≠ t) (r : Nat) : chN F t a r u = F r u := by
  simp [chN, g_2, h]
def chA (A : Nat → Nat → Nat) (n d q r1 r2 co : Nat) : Nat → Nat → Nat := g_2 (g_2 (g_2 (g_2 (g_2 A 15 1 d) 1 n q) 11 (2 * n) r1) 11 (2 * n + 1) r2) 14 n co
theorem chA_1 {d q r1 r2 co i : Nat} : chA A n d q r1 r2 co 1 i = if i = n then q else A 1 i := by
  simp [chA, g_2]
theorem chA_14 {d q r1 r2 co i : Nat} : chA A n d q r1 r2 co 14 i = if i = n then co else A 14 i := by
  simp [chA, g_2]
theorem chA_11 {d q r1 r2 co i : Nat} : chA A n d q r1 r2 co 11 i = if i = 2 * n + 1 then r2 else if i = 2 * n then r1 else A 11 i := by
  simp [chA, g_2]
theorem chA_o {d q r1 r2 co k : Nat} (h1 : k ≠ 1) (h2 : k ≠ 11) (h3 : k ≠ 14) (h4 : k ≠ 15) : chA A n d q r1 r2 co k = A k := by
  funext i
  simp [chA, g_2, h1, h2, h3, h4]
theorem chA_15 {d q r1 r2 co : Nat} : chA A n d q r1 r2 co 15 = g_2 A 15 1 d 15 := by
  funext i
  simp [chA, g_2]
theorem c8_child0 {a : Int32} (h : CS S x A n nT nL nE D F) (hv : ¬ (a < 5 ∨ 17 < a)) (h24 : n < 24) (h12 : F 12 n = 0) (h14 : F 14 n = 0) (h16 : ∀ k, k < 16 → F 16 (16 * n + k) = -1) (h17 : ∀ b, b < 8 → F 17 (8 * n + b) = -1) (hQ : ∀ S' A', CS S' x A' (n + 1) nT nL nE D (chN F n a) → Q (nI n) S') : wp_X8_child S x a Q EQ := by
  have hl : LK S (A 10 1) (A 15 1) n (A 1) := cs_L h (show 1 < 12 by decide)
  have hp : g_P S 801 x = some (A 10 1) := h.1.2.1.2.1
  unfold wp_X8_child
  refine cs_rg1 hv ⟨h.1.1, ?_⟩
  rw [hp, rdS]
  refine ⟨hl.1, c_size hl (cs_rm1 (show nI n < 24 from nI_lt' (b := 24) h24 (by omega)) ⟨h.1.1, ?_⟩)⟩
  rw [hp, rdS]
  refine ⟨hl.1, c_size hl ⟨h.1.1, fun q hq => ?_⟩⟩
  have x1 : exB (fun _ => True) S (n_O 1 S q) := exB_nO 1 hq
  rw [lt_v]
  refine c1_init (nb_new 1 S q) (fun S2 r1 r2 co fi fp e2 b2 hfi hfp hnew na1 na2 na3 => ?_)
  have x2 : ex aK S S2 := ex_new hq x1 e2
  obtain ⟨n1, n2, n3, n12⟩ := hnew
  have m1 : r1 ∉ g_L S := fun w => n1 (x1.2 _ w).1
  have m2 : r2 ∉ g_L S := fun w => n2 (x1.2 _ w).1
  have m3 : co ∉ g_L S := fun w => n3 (x1.2 _ w).1
  have hL2 := LQ_ex h.2.1 x2
  show rd S2 10 (g_P S 801 x) _
  rw [hp, rdS]
  refine ⟨(hL2.1 1 (by decide)).1, c_add hL2 (show 1 < 12 by decide) (by show n < 26; omega) (show 1 < 10 by decide) (fun i hi => ex_ok x2 (h.2.2.2.2.1.1 i hi).1) b2.1 (fun S' d hL' he => ?_)⟩
  have hE := ex_trans (ex_nl x2) he
  obtain ⟨r0', r2', r3', r4', r5', r6', r7', r8', r9', r10'⟩ := cs_rest h hE
  have k1 : nl 1 := ⟨by decide, by decide⟩
  have k11 : nl 11 := ⟨by decide, by decide⟩
  have k14 : nl 14 := ⟨by decide, by decide⟩
  have bI : ∀ m, g_I S' m q = fi m := fun m => (ex_I he b2.1 k1 m).trans (b2.2.1 m)
  have bP : ∀ m, g_P S' m q = fp m := fun m => (ex_P he b2.1 k1 m).trans (b2.2.2 m)
  have okq : okA S' 1 q := ex_ok he b2.1
  have ok1 : okA S' 11 r1 := ex_ok he na1.1
  have ok2 : okA S' 11 r2 := ex_ok he na2.1
  have ok3 : okA S' 14 co := ex_ok he na3.1
  have N1 : g_N S' r1 = 16 := (ex_N he na1.1 k11).trans na1.2.1
  have N2 : g_N S' r2 = 16 := (ex_N he na2.1 k11).trans na2.2.1
  have N3 : g_N S' co = 8 := (ex_N he na3.1 k14).trans na3.2.1
  have O3 : g_O S' co = fun _ => none := (ex_O he na3.1 k14).trans na3.2.2.2
  obtain ⟨i100, i101, i102, i103, i104, i106, i107, i109, i110⟩ := hfi
  obtain ⟨p111, p112, p113⟩ := hfp
  refine hQ S' (chA A n d q r1 r2 co) ⟨P_0_cA (A := A) (chA_o (by decide) (by decide) (by decide) (by decide)) (chA_o (by decide) (by decide) (by decide) (by decide)) r0', LQ_cg hL' (chA_o (by decide) (by decide) (by decide) (by decide)) chA_15 ?_ ?_, P_2_cA (A := A) (chA_o (by decide) (by decide) (by decide) (by decide)) (chA_o (by decide) (by decide) (by decide) (by decide)) (chA_o (by decide) (by decide) (by decide) (by decide)) r2', P_3_cA (A := A) (F := F) (chA_o (by decide) (by decide) (by decide) (by decide)) rfl rfl rfl r3', ?_, ?_, ?_, P_7_cB (A := A) (F := F) (chA_o (by decide) (by decide) (by decide) (by decide)) (fun r hr => by rw [chA_11, if_neg (by omega), if_neg (by omega)]) rfl rfl rfl r7', P_8_cA (A := A) (F := F) (chA_o (by decide) (by decide) (by decide) (by decide)) rfl rfl r8', P_9_cA (A := A) (F := F) (chA_o (by decide) (by decide) (by decide) (by decide)) rfl rfl r9', ?_⟩
  · exact cnt_up (fun k hk => by
      match k with
      | 0 => rfl
      | 1 => exact absurd rfl hk
      | 2 => rfl
      | 3 => rfl
      | k + 4 => rfl)
  · exact elF_up (l := 1) (fun i => chA_1) (fun k hk i => by
      match k with
      | 0 => exact congrFun (chA_o (by decide) (by decide) (by decide) (by decide)) i
      | 1 => exact absurd rfl hk
      | 2 => exact congrFun (chA_o (by decide) (by decide) (by decide) (by decide)) i
      | 3 => exact congrFun (chA_o (by decide) (by decide) (by decide) (by decide)) i
      | k + 4 => exact congrFun (chA_o (by decide) (by decide) (by decide) (by decide)) _)
  · refine ⟨fun i hi => ?_, fun i hi j hj e => ?_⟩
    · rw [chA_1]
      by_cases e : i = n
      · subst e
        rw [if_pos rfl]
        refine ⟨okq, (bI _).trans i100, ?_, ?_, ?_, ?_, Or.inl (by simp [chN, g_2]), ?_, ?_, Or.inl (by simpa [chN, g_2] using h12)⟩
        · rw [bI, i101]; simp [chN, g_2]
        · rw [bI, i102]; simp [chN, g_2]
        · rw [bI, i103]; simp [chN, g_2]
        · rw [bI, i104]; simp [chN, g_2]
        · rw [bI, i106]; simpa [chN, g_2] using h14.symm
        · rw [bI, i107]; simpa [chN, g_2] using h12.symm
      · rw [if_neg e]
        simp only [chN_ne e]
        exact r4'.1 i (by omega)
    · rw [chA_1, chA_1] at e
      by_cases e1 : i = n
      · by_cases e2 : j = n
        · rw [e1, e2]
        · rw [if_pos e1, if_neg e2] at e
          exact absurd (e ▸ (h.2.2.2.2.1.1 j (by omega)).1.1) hq
      · by_cases e2 : j = n
        · rw [if_neg e1, if_pos e2] at e
          exact absurd (e ▸ (h.2.2.2.2.1.1 i (by omega)).1.1) hq
        · rw [if_neg e1, if_neg e2] at e
          exact h.2.2.2.2.1.2 i (by omega) j (by omega) e
  · intro i hi
    by_cases e : i = n
    · subst e
      rw [chA_1, chA_11, chA_11, if_pos rfl, if_neg (show ¬ 2 * i = 2 * i + 1 by omega), if_pos rfl, if_pos rfl]
      refine ⟨okq, ⟨(bP _).trans p111, (bP _).trans p112, ok1, ok2, N1, N2⟩, 0, 0, fun _ => 0, (bI _).trans i110, (bI _).trans i109, ⟨by omega, by omega, fun k hk => ?_, fun j hj => by omega, fun j hj => by omega, fun k hk w => ?_⟩, fun j hj => by omega⟩
      · have := h16 k hk
        simp only [Nat.zero_testBit]
        refine ⟨fun w => absurd w (by decide), fun w => ?_⟩
        exact absurd this w
      · exact absurd (h16 k hk) w
    · have := r5' i (by omega)
      rw [chA_1, chA_11, chA_11, if_neg e, if_neg (show ¬ 2 * i = 2 * n + 1 by omega), if_neg (show ¬ 2 * i = 2 * n by omega), if_neg (show ¬ 2 * i + 1 = 2 * n + 1 by omega), if_neg (show ¬ 2 * i + 1 = 2 * n by omega)]
      exact this
  · refine P_6_cg (F := F) rfl rfl rfl rfl ⟨fun i hi => ?_, fun i hi j hj e => ?_, fun i hi j hj b hb c hc w1 w2 e => ?_⟩
    · rw [chA_1, chA_14, chA_o (k := 2) (by decide) (by decide) (by decide) (by decide), chA_o (k := 3) (by decide) (by decide) (by decide) (by decide)]
      by_cases e : i = n
      · subst e
        rw [if_pos rfl, if_pos rfl]
        refine ⟨okq, (bP _).trans p113, ok3, N3, fun b hb => Or.inl ⟨h17 b hb, ?_⟩⟩
        rw [O3]
      · rw [if_neg e, if_neg e]
        exact r6'.1 i (by omega)
    · rw [chA_14, chA_14] at e
      by_cases e1 : i = n
      · by_cases e2 : j = n
        · rw [e1, e2]
        · rw [if_pos e1, if_neg e2] at e
          exact absurd (e ▸ (h.2.2.2.2.2.2.1.1 j (by omega)).2.2.1.1) m3
      · by_cases e2 : j = n
        · rw [if_neg e1, if_pos e2] at e
          exact absurd (e ▸ (h.2.2.2.2.2.2.1.1 i (by omega)).2.2.1.1) m3
        · rw [if_neg e1, if_neg e2] at e
          exact h.2.2.2.2.2.2.1.2.1 i (by omega) j (by omega) e
    · rw [chA_o (k := 2) (by decide) (by decide) (by decide) (by decide)] at e
      have hi' : i < n := by
        rcases Nat.lt_or_ge i n with q1 | q1
        · exact q1
        · exact absurd (by have := h17 b hb; rw [show n = i by omega] at this; exact this) w1
      have hj' : j < n := by
        rcases Nat.lt_or_ge j n with q1 | q1
        · exact q1
        · exact absurd (by have := h17 c hc; rw [show n = j by omega] at this; exact this) w2
      exact h.2.2.2.2.2.2.1.2.2 i hi' j hj' b hb c hc w1 w2 e
  · have lv : ∀ r, lv11 (n + 1) nL r → r ≠ 2 * n + 1 → r ≠ 2 * n → lv11 n nL r := fun r hr w1 w2 => by
      unfold lv11 at *
      omega
    have ng : ∀ r, lv11 n nL r → A 11 r ≠ r1 ∧ A 11 r ≠ r2 := fun r hr => by
      have := (lv_ok h.2.2.2.2.2.1 h.2.2.2.2.2.2.2.1 hr).1
      exact ⟨fun w => m1 (w ▸ this), fun w => m2 (w ▸ this)⟩
    intro r hr s hs e
    rw [chA_11, chA_11] at e
    by_cases a1 : r = 2 * n + 1
    · rw [if_pos a1] at e
      by_cases b1 : s = 2 * n + 1
      · rw [a1, b1]
      · rw [if_neg b1] at e
        by_cases b2 : s = 2 * n
        · rw [if_pos b2] at e
          exact absurd e.symm n12
        · rw [if_neg b2] at e
          exact absurd e.symm (ng s (lv s hs b1 b2)).2
    · rw [if_neg a1] at e
      by_cases a2 : r = 2 * n
      · rw [if_pos a2] at e
        by_cases b1 : s = 2 * n + 1
        · rw [if_pos b1] at e
          exact absurd e n12
        · rw [if_neg b1] at e
          by_cases b2 : s = 2 * n
          · rw [a2, b2]
          · rw [if_neg b2] at e
            exact absurd e.symm (ng s (lv s hs b1 b2)).1
      · rw [if_neg a2] at e
        by_cases b1 : s = 2 * n + 1
        · rw [if_pos b1] at e
          exact absurd e (ng r (lv r hr a1 a2)).2
        · rw [if_neg b1] at e
          by_cases b2 : s = 2 * n
          · rw [if_pos b2] at e
            exact absurd e (ng r (lv r hr a1 a2)).1
          · rw [if_neg b2] at e
            exact h.2.2.2.2.2.2.2.2.2.2 r (lv r hr a1 a2) s (lv s hs b1 b2) e
end CNCHILD
