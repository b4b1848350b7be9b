/-! THE CLASS: couldStaff -/
section CCOULD
variable {S : Hp} {x : Nat} {A : Nat → Nat → Nat} {n nT nL nE : Nat} {D : Nat → Int32} {F : Nat → Nat → Int32} {Q : Int32 → Hp → Prop} {EQ : String → Hp → Prop}
theorem end_hour {v w : Nat} {h : Int32} (hv : v < 24) (hw : w < 25) : (nI v + nI w ≤ h) ↔ (nI v + nI w - 1 < h) := by
  rw [nI_add, i_le, i_lt, sub1_toInt (by omega), nI_toInt (by omega)]
  omega
theorem c4_goesOn {e : Nat} {a hh : Int32} (h : CS S x A n nT nL nE D F) (he : e < nE) (h4 : isIx (F 27 (6 * e + 4)) 24) (h5 : isIx (F 27 (6 * e + 5)) 25) (hQ : Q (bI (goB F a hh e)) S) : wp_X4_goesOn S (A 4 e) a hh Q := by
  obtain ⟨e0, -, -, -, e3, e4, e5, -⟩ := cs_e h he
  obtain ⟨v, hv, ev⟩ := h4
  obtain ⟨w, hw, ew⟩ := h5
  unfold wp_X4_goesOn
  refine ⟨e0, ?_⟩
  rw [e3, e4, e5]
  unfold goB at hQ
  by_cases h1 : F 27 (6 * e + 3) = a
  · rw [if_pos h1]
    rw [decide_eq_true h1, Bool.true_and] at hQ
    by_cases h2 : hh < F 27 (6 * e + 4)
    · rw [if_pos h2]
      rw [decide_eq_true h2] at hQ
      exact bz0i hQ
    · rw [if_neg h2]
      rw [decide_eq_false h2] at hQ
      have hi := end_hour (h := hh) hv hw
      rw [← ev, ← ew] at hi
      by_cases h3 : F 27 (6 * e + 4) + F 27 (6 * e + 5) ≤ hh
      · rw [if_pos h3]
        rw [decide_eq_true (hi.mp h3)] at hQ
        exact bz0i hQ
      · rw [if_neg h3]
        rw [decide_eq_false (fun z => h3 (hi.mpr z))] at hQ
        exact bz1i hQ
  · rw [if_neg h1]
    rw [decide_eq_false h1] at hQ
    exact bz0i hQ
theorem c8_eventsIn {a hh : Int32} (h : CS S x A n nT nL nE D F) (h20 : nE ≤ 20) (hV : W_V F nE) (hQ : Q (nI (goS F a hh nE).length) S) : wp_X8_eventsIn S x a hh Q := by
  have hL : ∀ (fuel k : Nat), k ≤ nE → nE < k + fuel → wp_X8_eventsIn_L5 x a hh Q fuel S (nI (goL (goB F a hh) k).length) (nI k) := by
    intro fuel
    induction fuel with
    | zero => intro k h1 h2; omega
    | succ f ih =>
      intro k h1 h2
      unfold wp_X8_eventsIn_L5
      refine cs_turnE (Q := fun _ S => Q _ S) (K := fun r12 S11 => rd S11 4 r12 _) h h20 h1 (fun z => ?_) (fun hk => ?_)
      · subst z
        exact hQ
      · have hs := ih (k + 1) (by omega) (by omega)
        rw [show nI k + 1 = nI (k + 1) from nI_add k 1]
        have e0 := (cs_e h hk).1
        obtain ⟨-, -, v4, v5⟩ := hV k hk
        show rd S 4 (some (A 4 k)) _
        rw [rdS]
        refine ⟨e0, c4_goesOn h hk v4 v5 ?_⟩
        have eg : goL (goB F a hh) (k + 1) = if goB F a hh k then goL (goB F a hh) k ++ [k] else goL (goB F a hh) k := rfl
        rw [eg] at hs
        cases hg : goB F a hh k with
        | false =>
          rw [hg, if_neg (by decide)] at hs
          rw [if_pos (show bI false = 0 from rfl)]
          exact hs
        | true =>
          rw [hg, if_pos rfl, List.length_append, List.length_singleton] at hs
          rw [if_neg (show ¬ bI true = 0 by decide), nI_1]
          exact hs
  unfold wp_X8_eventsIn
  exact ⟨nE + 1, hL (nE + 1) 0 (by omega) (by omega)⟩
/-- the lists, and one more -/
def L13 (S : Hp) (A : Nat → Nat → Nat) (n nT nL nE : Nat) (F : Nat → Nat → Int32) (la d c : Nat) (el : Nat → Nat) : Prop := LQ S (fun κ q => if q = 12 then (if κ = 10 then la else d) else A κ q) 13 (fun q => if q = 12 then c else cntF n nT nL nE F q) (fun q => if q = 12 then el else elF A q)
theorem l13_12 {la d c : Nat} {el : Nat → Nat} (h : L13 S A n nT nL nE F la d c el) : LQ S A 12 (cntF n nT nL nE F) (elF A) := by
  refine ⟨fun q hq => ?_, fun q hq r hr e => ?_, fun q hq r hr e0 e1 e => ?_⟩
  · have := h.1 q (by omega)
    simp only [show ¬ q = 12 by omega, if_false] at this
    exact this
  · refine h.2.1 q (by omega) r (by omega) ?_
    simp only [show ¬ q = 12 by omega, show ¬ r = 12 by omega, if_false]
    exact e
  · refine h.2.2 q (by omega) r (by omega) ?_ ?_ ?_
    · simp only [show ¬ q = 12 by omega, if_false]
      exact e0
    · simp only [show ¬ r = 12 by omega, if_false]
      exact e1
    · simp only [show ¬ q = 12 by omega, show ¬ r = 12 by omega, if_false]
      exact e
theorem l13_l {la d c : Nat} {el : Nat → Nat} (h : L13 S A n nT nL nE F la d c el) : LK S la d c el := by
  have := h.1 12 (by omega)
  simpa using this
theorem l13_add {la d c a : Nat} {el : Nat → Nat} {Q : Int32 → Hp → Prop} (h : L13 S A n nT nL nE F la d c el) (hc : c < 26) (hel : ∀ i, i < c → okA S 6 (el i)) (ha : okA S 6 a) (hQ : ∀ S' d', L13 S' A n nT nL nE F la d' (c + 1) (fun i => if i = c then a else el i) → ex nl S S' → Q 1 S') : wp_Jx4a65c_add_9ea2d S la (some a) Q := by
  have hh := c_add (A := fun κ q => if q = 12 then (if κ = 10 then la else d) else A κ q) (q := 12) (a := a) (ke := 6) (Q := Q) h (by omega) (by simpa using hc) (by decide) (fun i hi => by
    simp only [if_true] at hi ⊢
    exact hel i hi) ha (fun S' d' hL' he => hQ S' d' (LQ_cg2 hL' ?_ ?_ (fun q hq => ?_) (fun q hq i hi => ?_)) he)
  · simpa using hh
  · funext q
    simp [g_2]
  · funext q
    by_cases e : q = 12
    · simp [g_2, e]
    · simp [g_2, e]
  · by_cases e : q = 12
    · subst e
      rw [va_up_self]
      simp
    · rw [va_up_ne _ _ e]
      simp [e]
  · by_cases e : q = 12
    · subst e
      simp [g_2]
    · simp [g_2, e]
theorem l13_ex {S' : Hp} {la d c : Nat} {el : Nat → Nat} (h : L13 S A n nT nL nE F la d c el) (he : ex aK S S') : L13 S' A n nT nL nE F la d c el := LQ_ex h he
theorem nd_ex {S' : Hp} {q y p v m : Nat} (h : ND S q y p v m) (he : ex nl S S') : ND S' q y p v m := by
  obtain ⟨h0, h1⟩ := h
  refine ⟨ex_ok he h0, ?_⟩
  simp only [ex_I he h0 ⟨by decide, by decide⟩]
  exact h1
theorem cs_nl {S' : Hp} {la d c : Nat} {el : Nat → Nat} (h : CS S x A n nT nL nE D F) (he : ex nl S S') (hL : L13 S' A n nT nL nE F la d c el) : CS S' x A n nT nL nE D F := by
  obtain ⟨r0, r2, r3, r4, r5, r6, r7, r8, r9, r10⟩ := cs_rest h he
  exact ⟨r0, l13_12 hL, r2, r3, r4, r5, r6, r7, r8, r9, r10⟩
theorem c8_needsIn {a hh : Int32} {Q : Option Nat → Hp → Prop} (h : CS S x A n nT nL nE D F) (h24 : n ≤ 24) (h8 : nL ≤ 8) (h20 : nE ≤ 20) (hV : W_V F nE) (hQ : ∀ S' la d el, CS S' x A n nT nL nE D F → LK S' la d (goS F a hh nE).length el → (∀ j, j < (goS F a hh nE).length → ND S' (el j) (yN F n (fun k => (goS F a hh nE).getD k 0) j) (pN F (fun k => (goS F a hh nE).getD k 0) j) (vN F nL (fun k => (goS F a hh nE).getD k 0) j) (mN F nL (fun k => (goS F a hh nE).getD k 0) j)) → Q (some la) S') : wp_X8_needsIn S x a hh Q := by
  unfold wp_X8_needsIn
  intro la hla
  have x0 : ex aK S (n_O 10 S la) := ex_nO 10 hla
  have nb := nb_new 10 S la
  have x1 : exB (fun _ => True) S (n_O 10 S la) := exB_nO 10 hla
  rw [lt_v]
  generalize n_O 10 S la = S1 at *
  unfold wp_Jx4a65c_init_da8c8 wp_Jxc12de_init_da8c8 wp_Jxa1e45_init_da8c8
  refine st_I nb (fun S2 n2 e2 => st_P n2 (fun S3 n3 e3 => ?_))
  have e23 : exB (fun b => b ≠ la) S1 S3 := xb_t e2 e3 (fun _ w => w)
  have x3 : ex aK S S3 := ex_new hla x1 e23
  have hc3 := cs_ex h x3
  have hT3 : g_T S3 = g_T S2 := e3.1
  have hL3 : L13 S3 A n nT nL nE F la 0 0 (fun _ => 0) := by
    have hl := hc3.2.1
    have hne : ∀ q, q < 12 → A 10 q ≠ la := fun q hq e => hla (e ▸ (h.2.1.1 q hq).1.1)
    refine ⟨fun q hq => ?_, fun q hq r hr e => ?_, fun q hq r hr c0 c1 e => ?_⟩
    · by_cases e : q = 12
      · subst e
        simp only [if_true]
        refine ⟨n3.1, ?_, Or.inl ⟨rfl, ?_⟩⟩
        · rw [n3.2.1]
          simp [va_up]
          rfl
        · rw [n3.2.2, hT3]
          simp [va_up]
      · simp only [e, if_false]
        exact hl.1 q (by omega)
    · by_cases e1 : q = 12
      · by_cases e2 : r = 12
        · rw [e1, e2]
        · simp only [e1, e2, if_true, if_false] at e
          exact absurd e.symm (hne r (by omega))
      · by_cases e2 : r = 12
        · simp only [e1, e2, if_true, if_false] at e
          exact absurd e (hne q (by omega))
        · simp only [e1, e2, if_false] at e
          exact hl.2.1 q (by omega) r (by omega) e
    · by_cases e1 : q = 12
      · simp only [e1, if_true] at c0
        exact absurd rfl c0
      · by_cases e2 : r = 12
        · simp only [e2, if_true] at c1
          exact absurd rfl c1
        · simp only [e1, e2, if_false] at e c0 c1
          exact hl.2.2 q (by omega) r (by omega) c0 c1 e
  have hlp : ∀ (fuel k : Nat) (S : Hp) (d : Nat) (el : Nat → Nat), k ≤ nE → nE < k + fuel → CS S x A n nT nL nE D F → L13 S A n nT nL nE F la d (goL (goB F a hh) k).length el → (∀ j, j < (goL (goB F a hh) k).length → ND S (el j) (yN F n (fun i => (goL (goB F a hh) k).getD i 0) j) (pN F (fun i => (goL (goB F a hh) k).getD i 0) j) (vN F nL (fun i => (goL (goB F a hh) k).getD i 0) j) (mN F nL (fun i => (goL (goB F a hh) k).getD i 0) j)) → wp_X8_needsIn_L11 x a hh la Q fuel S (nI k) := by
    intro fuel
    induction fuel with
    | zero => intro k S d el h1 h2; omega
    | succ f ih =>
      intro k S d el h1 h2 h hL hN
      unfold wp_X8_needsIn_L11
      refine cs_turnE (Q := fun _ S => Q _ S) (K := fun r12 S11 => rd S11 4 r12 _) h h20 h1 (fun z => ?_) (fun hk => ?_)
      · subst z
        exact hQ S la d el h (l13_l hL) hN
      · have hs := ih (k + 1)
        rw [show nI k + 1 = nI (k + 1) from nI_add k 1]
        have e0 := (cs_e h hk).1
        obtain ⟨v1, v2, v4, v5⟩ := hV k hk
        show rd S 4 (some (A 4 k)) _
        rw [rdS]
        refine ⟨e0, c4_goesOn h hk v4 v5 ?_⟩
        have eg : goL (goB F a hh) (k + 1) = if goB F a hh k then goL (goB F a hh) k ++ [k] else goL (goB F a hh) k := rfl
        rw [eg] at hs
        cases hg : goB F a hh k with
        | false =>
          rw [hg, if_neg (by decide)] at hs
          rw [if_pos (show bI false = 0 from rfl)]
          exact hs S d el (by omega) (by omega) h hL hN
        | true =>
          rw [hg, if_pos rfl] at hs
          rw [if_neg (show ¬ bI true = 0 by decide)]
          refine lk_get (el := A 4) h.1.1 h.1.2.1.2.2.2.1 (cs_L h (show 3 < 12 by decide)) hk e0 ⟨h.1.1, ?_⟩
          refine c8_needOf h h24 h8 hk v1 v2 (fun S5 q hq hx5 hnd => ?_)
          have h5 := cs_ex h hx5
          have hL5 := l13_ex hL hx5
          have hlen := goL_len (goB F a hh) k
          refine ⟨(l13_l hL5).1, l13_add hL5 (by omega) (fun i hi => (nd_ex (hN i hi) (ex_nl hx5)).1) hnd.1 (fun S6 d6 hL6 he6 => ?_)⟩
          refine hs S6 d6 (fun i => if i = (goL (goB F a hh) k).length then q else el i) (by omega) (by omega) (cs_nl h5 he6 hL6) ?_ (fun j hj => ?_)
          · rw [List.length_append, List.length_singleton]
            exact hL6
          · rw [List.length_append, List.length_singleton] at hj
            by_cases ej : j = (goL (goB F a hh) k).length
            · have eget : (goL (goB F a hh) k ++ [k]).getD j 0 = k := by
                rw [ej, List.getD_eq_getElem?_getD, List.getElem?_append_right (Nat.le_refl _), Nat.sub_self]
                rfl
              unfold yN pN vN mN
              simp only [eget]
              rw [if_pos ej]
              exact nd_ex hnd he6
            · have eget : (goL (goB F a hh) k ++ [k]).getD j 0 = (goL (goB F a hh) k).getD j 0 := by
                rw [List.getD_eq_getElem?_getD, List.getElem?_append_left (by omega), List.getD_eq_getElem?_getD]
              unfold yN pN vN mN
              simp only [eget]
              rw [if_neg ej]
              exact nd_ex (nd_ex (hN j (by omega)) (ex_nl hx5)) he6
  exact ⟨nE + 1, by omega, hlp (nE + 1) 0 S3 0 (fun _ => 0) (by omega) (by omega) hc3 hL3 (fun j hj => by simp [goL] at hj)⟩
theorem c8_could1 {a hh them : Int32} (h : CS S x A n nT nL nE D F) (h8 : nL ≤ 8) (hv : (a < 0 ∨ 9999 < a) ∨ (hh < 0 ∨ 23 < hh) ∨ (them < 0 ∨ nI (2 ^ nL - 1) < them)) (hE : EQ "java/lang/IllegalArgumentException" S) : wp_X8_couldStaff S x a hh them Q EQ := by
  unfold wp_X8_couldStaff
  by_cases h1 : a < 0 ∨ 9999 < a
  · exact cs_rg0 h1 hE
  refine cs_rg1 h1 ?_
  by_cases h2 : hh < 0 ∨ 23 < hh
  · exact cs_rg0 h2 hE
  refine cs_rg1 h2 (lk_size h.1.1 h.1.2.1.2.2.1 (cs_L h (show 2 < 12 by decide)) ?_)
  have hpw : 0 < 2 ^ nL := Nat.two_pow_pos _
  have e : ((1 : Int32) <<< (nI nL &&& 31)) - 1 = nI (2 ^ nL - 1) := by
    rw [sh_1 (by omega)]
    exact pk_sub (b := 1) hpw
  show wp_X8_requireRange S them 0 (((1 : Int32) <<< (nI nL &&& 31)) - 1) _ _
  rw [e]
  exact cs_rg0 ((hv.resolve_left h1).resolve_left h2) hE
theorem c8_couldT {a hh : Int32} {s : Nat} (h : CS S x A n nT nL nE D F) (h8 : nL ≤ 8) (h1 : ¬ (a < 0 ∨ 9999 < a)) (h2 : ¬ (hh < 0 ∨ 23 < hh)) (hs : s ≤ 2 ^ nL - 1) (hQ : okA S 8 x ∧ (wp_X8_eventsIn S x a hh (fun r12 S11 => if r12 ≤ (3 : Int32) then (okA S11 8 x ∧ (wp_X8_needsIn S11 x a hh (fun r15 S14 => wp_X8_canShare_4 S14 r15 (0 : Int32) (nI s) (fun r17 S16 => bz r17 (Q r17 S16))))) else (EQ "java/lang/IllegalStateException" S11)))) : wp_X8_couldStaff S x a hh (nI s) Q EQ := by
  unfold wp_X8_couldStaff
  refine cs_rg1 h1 (cs_rg1 h2 (lk_size h.1.1 h.1.2.1.2.2.1 (cs_L h (show 2 < 12 by decide)) ?_))
  have hpw : 0 < 2 ^ nL := Nat.two_pow_pos _
  have hpw2 : 2 ^ nL ≤ 2 ^ 8 := Nat.pow_le_pow_right (by decide) h8
  have e : ((1 : Int32) <<< (nI nL &&& 31)) - 1 = nI (2 ^ nL - 1) := by
    rw [sh_1 (by omega)]
    exact pk_sub (b := 1) hpw
  show wp_X8_requireRange S (nI s) 0 (((1 : Int32) <<< (nI nL &&& 31)) - 1) _ _
  rw [e]
  exact cs_rg1 (rng (N := 2 ^ nL - 1) hs (by omega)) hQ
theorem c8_could2 {a hh : Int32} {s : Nat} (h : CS S x A n nT nL nE D F) (h8 : nL ≤ 8) (h20 : nE ≤ 20) (hV : W_V F nE) (h1 : ¬ (a < 0 ∨ 9999 < a)) (h2 : ¬ (hh < 0 ∨ 23 < hh)) (hs : s ≤ 2 ^ nL - 1) (h3 : 3 < (goS F a hh nE).length) (hE : EQ "java/lang/IllegalStateException" S) : wp_X8_couldStaff S x a hh (nI s) Q EQ := by
  refine c8_couldT h h8 h1 h2 hs ⟨h.1.1, c8_eventsIn h h20 hV ?_⟩
  have := goL_len (goB F a hh) nE
  rw [if_neg (show ¬ nI (goS F a hh nE).length ≤ 3 from nI_ge (a := 3) h3 (by unfold goS; omega))]
  exact hE
theorem c8_could0 {a hh : Int32} {s : Nat} (h : CS S x A n nT nL nE D F) (h24 : n ≤ 24) (h8 : nL ≤ 8) (h20 : nE ≤ 20) (hV : W_V F nE) (h1 : ¬ (a < 0 ∨ 9999 < a)) (h2 : ¬ (hh < 0 ∨ 23 < hh)) (hs : s ≤ 2 ^ nL - 1) (h3 : (goS F a hh nE).length ≤ 3) (hQ : ∀ S', CS S' x A n nT nL nE D F → Q (bI (decide ((goS F a hh nE).length = 0) || anB (lawB F n nL (goS F a hh nE).length s (fun k => (goS F a hh nE).getD k 0)) (((goS F a hh nE).length + 1) ^ pop s nL))) S') : wp_X8_couldStaff S x a hh (nI s) Q EQ := by
  refine c8_couldT h h8 h1 h2 hs ⟨h.1.1, c8_eventsIn h h20 hV ?_⟩
  rw [if_pos (show nI (goS F a hh nE).length ≤ 3 from nI_le (b := 3) h3 (by omega))]
  refine ⟨h.1.1, c8_needsIn h h24 h8 h20 hV (fun S' la d el h' hl hN => ?_)⟩
  have hpw : 0 < 2 ^ nL := Nat.two_pow_pos _
  have hsl : s < 2 ^ nL := by omega
  have hs8 : s < 256 := Nat.lt_of_lt_of_le hsl (Nat.pow_le_pow_right (n := 2) (by decide) h8)
  have hq := hQ S' h'
  have hiff : anB (lawB F n nL (goS F a hh nE).length s (fun k => (goS F a hh nE).getD k 0)) (((goS F a hh nE).length + 1) ^ pop s nL) = true ↔ csP (yN F n (fun k => (goS F a hh nE).getD k 0)) (pN F (fun k => (goS F a hh nE).getD k 0)) (vN F nL (fun k => (goS F a hh nE).getD k 0)) (mN F nL (fun k => (goS F a hh nE).getD k 0)) (goS F a hh nE).length 0 s := by
    rw [cs_as (P := pN F (fun k => (goS F a hh nE).getD k 0)) (fun k => Nat.le_trans (by decide) (rtN_b _).1) _ _ _ hs8]
    exact law_as h8 hsl (fun k hk t ht => rsn_ok h8 ht)
  refine c8_share_4 (place := 0) hl hN h24 h8 h3 hsl (by omega) (by omega) (fun w => ?_) (fun w => ?_)
  · rw [Nat.sub_zero] at w
    rw [hiff.mpr w, Bool.or_true] at hq
    exact bz1i hq
  · rw [Nat.sub_zero] at w
    have e1 : anB (lawB F n nL (goS F a hh nE).length s (fun k => (goS F a hh nE).getD k 0)) (((goS F a hh nE).length + 1) ^ pop s nL) = false := ts_nt (fun z => w (hiff.mp z))
    have e2 : ¬ (goS F a hh nE).length = 0 := fun z => w (by rw [z]; trivial)
    rw [e1, decide_eq_false e2] at hq
    exact bz0i hq
end CCOULD
