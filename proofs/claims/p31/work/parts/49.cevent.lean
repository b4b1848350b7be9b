/-! THE CLASS: events -/
section CEVENT
variable {S : Hp} {x : Nat} {A : Nat → Nat → Nat} {n nT nL nE : Nat} {D : Nat → Int32} {F : Nat → Nat → Int32} {Q : Int32 → Hp → Prop} {EQ : String → Hp → Prop}
theorem ix3 {b : Int32} (hv : b < 0 ∨ 2 < b) : b < 0 ∨ 3 ≤ b := by
  rcases hv with w | w
  · exact Or.inl w
  · refine Or.inr ?_
    rw [i_lt] at w
    rw [i_le]
    rw [show (2 : Int32).toInt = 2 from rfl] at w
    rw [show (3 : Int32).toInt = 3 from rfl]
    omega
theorem c8_event1a {a b c d e f : Int32} (h : CS S x A n nT nL nE D F) (hv : a < 0 ∨ nI nT ≤ a) (hE : EQ "java/lang/IndexOutOfBoundsException" S) : wp_X8_event S x a b c d e f Q EQ := by
  unfold wp_X8_event
  exact ⟨h.1.1, c8_troopAt0 h hv hE⟩
theorem c8_event1b {i : Nat} {b c d e f : Int32} (h : CS S x A n nT nL nE D F) (h6 : nT ≤ 6) (hi : i < nT) (hv : b < 0 ∨ 2 < b) (hE : EQ "java/lang/IndexOutOfBoundsException" S) : wp_X8_event S x (nI i) b c d e f Q EQ := by
  unfold wp_X8_event
  exact ⟨h.1.1, c8_troopAt1 h h6 hi (cs_ix0 (ix3 hv) hE)⟩
theorem c8_event2 {i k : Nat} {c d e f : Int32} (h : CS S x A n nT nL nE D F) (h6 : nT ≤ 6) (hi : i < nT) (hk : k < 3) (hw : ¬ evV D c d e f) (hE : EQ "java/lang/IllegalArgumentException" S) : wp_X8_event S x (nI i) (nI k) c d e f Q EQ := by
  unfold wp_X8_event
  refine ⟨h.1.1, c8_troopAt1 h h6 hi (cs_ix1 (N := 3) hk (by omega) ?_)⟩
  by_cases h1 : c < 0 ∨ 3 < c
  · exact cs_rg0 h1 hE
  refine cs_rg1 h1 ⟨h.1.1, ?_⟩
  rw [h.1.2.2.1]
  by_cases h2 : d < D 0 ∨ 9999 < d
  · exact cs_rg0 h2 hE
  refine cs_rg1 h2 ?_
  by_cases h3 : e < 0 ∨ 23 < e
  · exact cs_rg0 h3 hE
  refine cs_rg1 h3 ?_
  by_cases h4 : f < 1 ∨ 24 - e < f
  · exact cs_rg0 h4 hE
  · exact absurd ⟨h1, h2, h3, h4⟩ hw
theorem c8_event3 {i k : Nat} {c d e f : Int32} (h : CS S x A n nT nL nE D F) (h6 : nT ≤ 6) (hi : i < nT) (hk : k < 3) (hw : evV D c d e f) (h20 : nE = 20) (hE : EQ "java/lang/IllegalStateException" S) : wp_X8_event S x (nI i) (nI k) c d e f Q EQ := by
  obtain ⟨h1, h2, h3, h4⟩ := hw
  unfold wp_X8_event
  refine ⟨h.1.1, c8_troopAt1 h h6 hi (cs_ix1 (N := 3) hk (by omega) (cs_rg1 h1 ⟨h.1.1, ?_⟩))⟩
  rw [h.1.2.2.1]
  refine cs_rg1 h2 (cs_rg1 h3 (cs_rg1 h4 ?_))
  refine lk_size h.1.1 h.1.2.1.2.2.2.1 (cs_L h (show 3 < 12 by decide)) (cs_rm0 ?_ hE)
  show ¬ nI nE < 20
  rw [h20]
  decide
theorem c4_init {q : Nat} {a1 a2 a3 a4 a5 a6 : Int32} {Q : Hp → Prop} (h : NB S q 4 (fun _ => 0) (fun _ => none)) (hQ : ∀ S' fi fp, exB (fun b => b ≠ q) S S' → NB S' q 4 fi fp → (fi 400 = a1 ∧ fi 401 = a2 ∧ fi 402 = a3 ∧ fi 403 = a4 ∧ fi 404 = a5 ∧ fi 405 = a5 + a6 ∧ fi 406 = 0) → Q S') : wp_X4_init S q a1 a2 a3 a4 a5 a6 Q := by
  unfold wp_X4_init
  refine st_I h (fun S1 h1 e1 => st_I h1 (fun S2 h2 e2 => st_I h2 (fun S3 h3 e3 => st_I h3 (fun S4 h4 e4 => st_I h4 (fun S5 h5 e5 => st_I h5 (fun S6 h6 e6 => ?_))))))
  have id' : ∀ b : Nat, b ≠ q → b ≠ q := fun _ w => w
  exact hQ S6 _ _ (xb_t (xb_t (xb_t (xb_t (xb_t e1 e2 id') e3 id') e4 id') e5 id') e6 id') h6 (by simp [va_up])
theorem evnF_r {k r : Nat} {a b c d e f : Int32} (h : r ≠ 27) : evnF F k a b c d e f r = F r := by
  funext j
  simp [evnF, g_2, h]
theorem evnF_o {k j : Nat} {a b c d e f : Int32} (h : j < 6 * k ∨ 6 * k + 5 < j) : evnF F k a b c d e f 27 j = F 27 j := by
  have h0 : ¬ j = 6 * k := by omega
  have h1 : ¬ j = 6 * k + 1 := by omega
  have h2 : ¬ j = 6 * k + 2 := by omega
  have h3 : ¬ j = 6 * k + 3 := by omega
  have h4 : ¬ j = 6 * k + 4 := by omega
  have h5 : ¬ j = 6 * k + 5 := by omega
  simp [evnF, g_2, h0, h1, h2, h3, h4, h5]
def evA (A : Nat → Nat → Nat) (k d q : Nat) : Nat → Nat → Nat := g_2 (g_2 A 15 3 d) 4 k q
theorem evA_o {k d q r : Nat} (h1 : r ≠ 4) (h2 : r ≠ 15) : evA A k d q r = A r := by
  funext i
  simp [evA, g_2, h1, h2]
theorem evA_4 {k d q i : Nat} : evA A k d q 4 i = if i = k then q else A 4 i := by
  simp [evA, g_2]
theorem evA_15 {k d q : Nat} : evA A k d q 15 = g_2 A 15 3 d 15 := by
  funext i
  simp [evA, g_2]
theorem c8_event0 {i k : Nat} {c d e f : Int32} (h : CS S x A n nT nL nE D F) (h6 : nT ≤ 6) (hi : i < nT) (hk : k < 3) (hw : evV D c d e f) (h20 : nE < 20) (h28 : F 28 nE = 0) (hQ : ∀ S' A', CS S' x A' n nT nL (nE + 1) D (evnF F nE (nI i) (nI k) c d e f) → Q (nI nE) S') : wp_X8_event S x (nI i) (nI k) c d e f Q EQ := by
  obtain ⟨h1, h2, h3, h4⟩ := hw
  have hl : LK S (A 10 3) (A 15 3) nE (A 4) := cs_L h (show 3 < 12 by decide)
  have hp : g_P S 803 x = some (A 10 3) := h.1.2.1.2.2.2.1
  unfold wp_X8_event
  refine ⟨h.1.1, c8_troopAt1 h h6 hi (cs_ix1 (N := 3) hk (by omega) (cs_rg1 h1 ⟨h.1.1, ?_⟩))⟩
  rw [h.1.2.2.1]
  refine cs_rg1 h2 (cs_rg1 h3 (cs_rg1 h4 ?_))
  refine lk_size h.1.1 hp hl (cs_rm1 (show nI nE < 20 from nI_lt' (b := 20) h20 (by omega)) ⟨h.1.1, fun q hq => ?_⟩)
  have x1 : exB (fun _ => True) S (n_O 4 S q) := exB_nO 4 hq
  have x1' : ex aK S (n_O 4 S q) := ex_nO 4 hq
  have nb := nb_new 4 S q
  have hc1 := cs_ex h x1'
  rw [lt_v]
  generalize n_O 4 S q = S1 at *
  obtain ⟨p0, p1, -⟩ := hc1.2.2.2.1 i hi
  rw [rdS]
  refine ⟨p0, ?_⟩
  rw [p1]
  refine c4_init nb (fun S2 fi fp e2 b2 hfi => ?_)
  have x2 : ex aK S S2 := ex_new hq x1 e2
  have hL2 := LQ_ex h.2.1 x2
  rw [hp, rdS]
  refine ⟨(hL2.1 3 (by decide)).1, c_add hL2 (show 3 < 12 by decide) (by show nE < 26; omega) (show 4 < 10 by decide) (fun j hj => ex_ok x2 (h.2.2.2.2.2.2.2.2.1.1 j hj).1) b2.1 (fun S' d' hL' he => ?_)⟩
  have hE := ex_trans (ex_nl x2) he
  obtain ⟨r0', r2', r3', r4', r5', r6', r7', r8', r9', r10'⟩ := cs_rest h hE
  have k4 : nl 4 := ⟨by decide, by decide⟩
  have bI : ∀ m, g_I S' m q = fi m := fun m => (ex_I he b2.1 k4 m).trans (b2.2.1 m)
  obtain ⟨i0, i1, i2, i3, i4, i5, i6⟩ := hfi
  have o : ∀ r, r ≠ 4 → r ≠ 15 → evA A nE d' q r = A r := fun r h1 h2 => evA_o h1 h2
  have fr : ∀ r, r ≠ 27 → evnF F nE (nI i) (nI k) c d e f r = F r := fun r h => evnF_r h
  have hcs : CS S' x (evA A nE d' q) n nT nL (nE + 1) D (evnF F nE (nI i) (nI k) c d e f) := by
    refine ⟨P_0_cA (A := A) (o 10 (by decide) (by decide)) (o 13 (by decide) (by decide)) r0', LQ_cg hL' (o 10 (by decide) (by decide)) evA_15 ?_ ?_, P_2_cA (A := A) (o 13 (by decide) (by decide)) (o 0 (by decide) (by decide)) (o 10 (by decide) (by decide)) r2', P_3_cA (A := A) (F := F) (o 7 (by decide) (by decide)) (fr 2 (by decide)) (fr 3 (by decide)) (fr 4 (by decide)) r3', P_4_cA (A := A) (F := F) (o 1 (by decide) (by decide)) (fr 6 (by decide)) (fr 7 (by decide)) (fr 8 (by decide)) (fr 9 (by decide)) (fr 11 (by decide)) (fr 12 (by decide)) (fr 13 (by decide)) (fr 14 (by decide)) r4', P_5_cA (A := A) (F := F) (o 1 (by decide) (by decide)) (o 11 (by decide) (by decide)) (fr 16 (by decide)) r5', P_6_cA (A := A) (F := F) (o 1 (by decide) (by decide)) (o 14 (by decide) (by decide)) (o 2 (by decide) (by decide)) (o 3 (by decide) (by decide)) (fr 16 (by decide)) (fr 17 (by decide)) (fr 18 (by decide)) (fr 24 (by decide)) r6', P_7_cA (A := A) (F := F) (o 5 (by decide) (by decide)) (o 11 (by decide) (by decide)) (fr 20 (by decide)) (fr 21 (by decide)) (fr 22 (by decide)) r7', ⟨fun j hj => ?_, fun j hj l hl' z => ?_⟩, P_9_cA (A := A) (F := F) (o 3 (by decide) (by decide)) (fr 23 (by decide)) (fr 24 (by decide)) r9', P_10_cA (A := A) (o 11 (by decide) (by decide)) r10'⟩
    · exact cnt_up (fun r hr => by
        match r with
        | 0 => rfl
        | 1 => rfl
        | 2 => rfl
        | 3 => exact absurd rfl hr
        | r + 4 =>
          show edn _ r = edn _ r
          unfold edn
          rw [fr 23 (by decide)])
    · exact elF_up (l := 3) (fun j => evA_4) (fun r hr j => by
        match r with
        | 0 => exact congrFun (o 7 (by decide) (by decide)) j
        | 1 => exact congrFun (o 1 (by decide) (by decide)) j
        | 2 => exact congrFun (o 5 (by decide) (by decide)) j
        | 3 => exact absurd rfl hr
        | r + 4 => exact congrFun (o 3 (by decide) (by decide)) _)
    · by_cases w : j = nE
      · subst w
        rw [evA_4, if_pos rfl]
        refine ⟨ex_ok he b2.1, ?_, ?_, ?_, ?_, ?_, ?_, ?_⟩
        · rw [bI, i0]; simp [evnF, g_2]
        · rw [bI, i1]; simp [evnF, g_2]
        · rw [bI, i2]; simp [evnF, g_2]
        · rw [bI, i3]; simp [evnF, g_2]
        · rw [bI, i4]; simp [evnF, g_2]
        · rw [bI, i5]; simp [evnF, g_2]
        · rw [bI, i6, fr 28 (by decide), h28]
      · rw [evA_4, if_neg w, evnF_o (by omega), evnF_o (by omega), evnF_o (by omega), evnF_o (by omega), evnF_o (by omega), evnF_o (by omega), fr 28 (by decide)]
        exact r8'.1 j (by omega)
    · rw [evA_4, evA_4] at z
      by_cases e1 : j = nE
      · by_cases e2 : l = nE
        · rw [e1, e2]
        · rw [if_pos e1, if_neg e2] at z
          exact absurd (z ▸ (h.2.2.2.2.2.2.2.2.1.1 l (by omega)).1.1) hq
      · by_cases e2 : l = nE
        · rw [if_neg e1, if_pos e2] at z
          exact absurd (z ▸ (h.2.2.2.2.2.2.2.2.1.1 j (by omega)).1.1) hq
        · rw [if_neg e1, if_neg e2] at z
          exact h.2.2.2.2.2.2.2.2.1.2 j (by omega) l (by omega) z
  refine lk_size (el := evA A nE d' q 4) hcs.1.1 hcs.1.2.1.2.2.2.1 (cs_L hcs (show 3 < 12 by decide)) ?_
  show Q (nI (nE + 1) - 1) S'
  rw [nI_pred]
  exact hQ S' _ hcs
theorem cs_e (h : CS S x A n nT nL nE D F) {e : Nat} (he : e < nE) : okA S 4 (A 4 e) ∧ g_I S 400 (A 4 e) = F 27 (6 * e) ∧ g_I S 401 (A 4 e) = F 27 (6 * e + 1) ∧ g_I S 402 (A 4 e) = F 27 (6 * e + 2) ∧ g_I S 403 (A 4 e) = F 27 (6 * e + 3) ∧ g_I S 404 (A 4 e) = F 27 (6 * e + 4) ∧ g_I S 405 (A 4 e) = F 27 (6 * e + 4) + F 27 (6 * e + 5) ∧ g_I S 406 (A 4 e) = F 28 e := h.2.2.2.2.2.2.2.2.1.1 e he
theorem cs_turnE {i : Nat} {Q : Int32 → Hp → Prop} {K : Option Nat → Hp → Prop} (h : CS S x A n nT nL nE D F) (h20 : nE ≤ 20) (hi : i ≤ nE) (h0 : i = nE → Q (nI i) S) (h1 : i < nE → K (some (A 4 i)) S) : okA S 8 x ∧ rd S 10 (g_P S 803 x) (fun a2 => wp_Jx4a65c_size_8abf5 S a2 (fun r6 S5 => if r6 ≤ nI i then Q r6 S5 else (okA S5 8 x ∧ (rd S5 10 (g_P S5 803 x) (fun a8 => wp_Jx4a65c_get_915e3 S5 a8 (nI i) (fun r12 S11 => (∀ a, r12 = some a → okA S11 4 a) ∧ K r12 S11)))))) :=
  lk_turn (el := A 4) h.1.1 h.1.2.1.2.2.2.1 (cs_L h (show 3 < 12 by decide)) (by show nE < _; omega) hi (fun j hj => (h.2.2.2.2.2.2.2.2.1.1 j hj).1) h0 h1
theorem c4_meets {a b : Nat} (h : CS S x A n nT nL nE D F) (ha : a < nE) (hb : b < nE) (hQ : Q (bI (meB F a b)) S) : wp_X4_meets S (A 4 a) (some (A 4 b)) Q := by
  obtain ⟨e0, -, -, -, e3, e4, e5, -⟩ := cs_e h ha
  obtain ⟨f0, -, -, -, f3, f4, f5, -⟩ := cs_e h hb
  unfold wp_X4_meets
  refine ⟨e0, ?_⟩
  rw [rdS]
  refine ⟨f0, ?_⟩
  rw [e3, f3]
  unfold meB at hQ
  by_cases h1 : F 27 (6 * a + 3) = F 27 (6 * b + 3)
  · rw [if_pos h1, rdS]
    refine ⟨f0, ?_⟩
    rw [f5, e4]
    rw [decide_eq_true h1, Bool.true_and] at hQ
    by_cases h2 : F 27 (6 * b + 4) + F 27 (6 * b + 5) ≤ F 27 (6 * a + 4)
    · rw [if_pos h2]
      rw [decide_eq_true h2] at hQ
      exact bz0i hQ
    · rw [if_neg h2, rdS]
      refine ⟨f0, ?_⟩
      rw [e5, f4]
      rw [decide_eq_false h2] at hQ
      by_cases h3 : F 27 (6 * a + 4) + F 27 (6 * a + 5) ≤ F 27 (6 * b + 4)
      · rw [if_pos h3]
        rw [decide_eq_true h3] at hQ
        exact bz0i hQ
      · rw [if_neg h3]
        rw [decide_eq_false h3] at hQ
        exact bz1i hQ
  · rw [if_neg h1]
    rw [decide_eq_false h1] at hQ
    exact bz0i hQ
theorem c8_elsewhere {e l : Nat} (h : CS S x A n nT nL nE D F) (h20 : nE ≤ 20) (he : e < nE) (hl : l < 8) (hS : SN F nE) (hQ : Q (bI (anB (bsB F l e) nE)) S) : wp_X8_isElsewhere S x (some (A 4 e)) (nI l) Q := by
  have hL : ∀ (fuel k : Nat), k ≤ nE → nE < k + fuel → anB (bsB F l e) k = false → wp_X8_isElsewhere_L2 x (some (A 4 e)) (nI l) Q fuel S (nI k) := by
    intro fuel
    induction fuel with
    | zero => intro k h1 h2; omega
    | succ f ih =>
      intro k h1 h2 h3
      unfold wp_X8_isElsewhere_L2
      refine cs_turnE (Q := fun _ S => bz (0 : Int32) (Q (0 : Int32) S)) (K := fun r12 S11 => if r12 = some (A 4 e) then _ else _) h h20 h1 (fun z => ?_) (fun hk => ?_)
      · subst z
        rw [h3] at hQ
        exact bz0i hQ
      · have hs := ih (k + 1) (by omega) (by omega)
        rw [show nI k + 1 = nI (k + 1) from nI_add k 1]
        obtain ⟨e0, -, -, -, -, -, -, e6⟩ := cs_e h hk
        obtain ⟨g1, g2⟩ := hS k hk
        show if some (A 4 k) = some (A 4 e) then _ else _
        have eb : anB (bsB F l e) (k + 1) = (anB (bsB F l e) k || bsB F l e k) := rfl
        by_cases z : k = e
        · subst z
          rw [if_pos rfl]
          refine hs ?_
          rw [eb, h3]
          simp [bsB]
        · rw [if_neg (fun w => z (h.2.2.2.2.2.2.2.2.1.2 k hk e he (Option.some.inj w))), rdS]
          refine ⟨e0, ?_⟩
          rw [e6, g1]
          refine c8_hasBit (by omega) ?_
          cases hb : (sN F k).testBit l with
          | false =>
            rw [if_pos (show bI false = 0 from rfl)]
            refine hs ?_
            rw [eb, h3]
            simp [bsB, hb]
          | true =>
            rw [if_neg (show ¬ bI true = 0 by decide), rdS]
            refine ⟨e0, c4_meets h hk he ?_⟩
            cases hm : meB F k e with
            | false =>
              rw [if_pos (show bI false = 0 from rfl)]
              refine hs ?_
              rw [eb, h3]
              simp [bsB, hm]
            | true =>
              rw [if_neg (show ¬ bI true = 0 by decide)]
              have e1 : anB (bsB F l e) nE = true := (anB_true _ _).mpr ⟨k, hk, by simp [bsB, hb, hm, z]⟩
              rw [e1] at hQ
              exact bz1i hQ
  unfold wp_X8_isElsewhere
  exact ⟨nE + 1, hL (nE + 1) 0 (by omega) (by omega) rfl⟩
theorem cs_406 {e : Nat} {v : Int32} (h : CS S x A n nT nL nE D F) (he : e < nE) : CS (s_I S 406 (A 4 e) v) x A n nT nL nE D (g_2 F 28 e v) := by
  have hh := h
  obtain ⟨h0, h1, h2, h3, h4, h5, h6, h7, h8, h9, h10⟩ := hh
  refine ⟨h0, h1, h2, h3, h4, h5, P_6_cg (F := F) rfl rfl rfl rfl h6, h7, ⟨fun k hk => ?_, h8.2⟩, h9, h10⟩
  obtain ⟨q0, q1, q2, q3, q4, q5, q6, q7⟩ := h8.1 k hk
  refine ⟨q0, q1, q2, q3, q4, q5, q6, ?_⟩
  by_cases z : k = e
  · subst z
    rw [g_2s]
    exact sI_eq
  · rw [show g_2 F 28 e v 28 k = F 28 k from g_2n _ _ (fun w => z w.2), ← q7]
    exact sI_ne (Or.inr (fun w => z (h8.2 k hk e he w)))
theorem c8_staff1a {a b c : Int32} (h : CS S x A n nT nL nE D F) (hv : a < 0 ∨ nI nE ≤ a) (hE : EQ "java/lang/IndexOutOfBoundsException" S) : wp_X8_staff S x a b c Q EQ := by
  unfold wp_X8_staff
  exact ⟨h.1.1, c8_eventAt0 h hv hE⟩
theorem c8_staff1b {e : Nat} {b c : Int32} (h : CS S x A n nT nL nE D F) (h20 : nE ≤ 20) (he : e < nE) (hv : b < 0 ∨ nI nL ≤ b) (hE : EQ "java/lang/IndexOutOfBoundsException" S) : wp_X8_staff S x (nI e) b c Q EQ := by
  unfold wp_X8_staff
  exact ⟨h.1.1, c8_eventAt1 h h20 he (lk_size h.1.1 h.1.2.1.2.2.1 (cs_L h (show 2 < 12 by decide)) (cs_ix0 hv hE))⟩
theorem c8_staff {e l : Nat} {c : Int32} (h : CS S x A n nT nL nE D F) (h20 : nE ≤ 20) (he : e < nE) (h8 : nL ≤ 8) (hl : l < nL) (hS : SN F nE)
    (h2 : ¬ c = 0 → anB (bsB F l e) nE = true → EQ "java/lang/IllegalStateException" S)
    (h0 : c = 0 ∨ anB (bsB F l e) nE = false → ∀ S', CS S' x A n nT nL nE D (g_2 F 28 e (nI (if c = 0 then clr (sN F e) l else setb (sN F e) l))) → Q (nI (pop (if c = 0 then clr (sN F e) l else setb (sN F e) l) 16)) S') : wp_X8_staff S x (nI e) (nI l) c Q EQ := by
  obtain ⟨e0, -, -, -, -, -, -, e6⟩ := cs_e h he
  obtain ⟨g1, g2⟩ := hS e he
  unfold wp_X8_staff
  refine ⟨h.1.1, c8_eventAt1 h h20 he (lk_size h.1.1 h.1.2.1.2.2.1 (cs_L h (show 2 < 12 by decide)) (cs_ix1 (N := nL) hl (by omega) ?_))⟩
  by_cases hc : c = 0
  · have h0' := h0 (Or.inl hc)
    rw [if_pos hc] at h0'
    rw [if_pos hc, lt_v, if_pos hc, rdS]
    obtain ⟨d1, d2⟩ := clr_ok (sN F e) g2 l (by omega)
    refine ⟨e0, ?_⟩
    rw [rdS]
    refine ⟨e0, ?_⟩
    rw [e6, g1, d1, lt_v, rdS]
    refine ⟨e0, ?_⟩
    rw [sI_eq]
    refine cJ_bitCount8 d2 ?_
    have hq := h0' _ (cs_406 h he)
    rw [pop_hi (n := 8) (m := 16) d2 (by omega)] at hq
    exact hq
  · rw [if_neg hc]
    refine ⟨h.1.1, c8_elsewhere h h20 he (by omega) hS ?_⟩
    cases ha : anB (bsB F l e) nE with
    | true =>
      rw [if_neg (show ¬ bI true = 0 by decide)]
      exact h2 hc ha
    | false =>
      have h0' := h0 (Or.inr ha)
      rw [if_neg hc] at h0'
      rw [if_pos (show bI false = 0 from rfl), lt_v, if_neg hc, rdS]
      obtain ⟨d1, d2⟩ := setb_ok (sN F e) g2 l (by omega)
      refine ⟨e0, ?_⟩
      rw [rdS]
      refine ⟨e0, ?_⟩
      rw [e6, g1, d1, lt_v, rdS]
      refine ⟨e0, ?_⟩
      rw [sI_eq]
      refine cJ_bitCount8 d2 ?_
      have hq := h0' _ (cs_406 h he)
      rw [pop_hi (n := 8) (m := 16) d2 (by omega)] at hq
      exact hq
end CEVENT
