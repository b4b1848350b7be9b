/-! THE CLASS: new troops, children -/
section CNEW
variable {S : Hp} {x : Nat} {A : Nat → Nat → Nat} {n nT nL nE : Nat} {D : Nat → Int32} {F : Nat → Nat → Int32} {Q : Int32 → Hp → Prop} {EQ : String → Hp → Prop}
theorem nO_ok (κ : Nat) (S : Hp) (a : Nat) : okA (n_O κ S a) κ a := ⟨List.mem_append.mpr (Or.inr (List.mem_singleton.mpr rfl)), va_up_self _ _ _⟩
theorem nA_ok (κ : Nat) (S : Hp) (a N : Nat) : okA (n_A κ S a N) κ a := ⟨List.mem_append.mpr (Or.inr (List.mem_singleton.mpr rfl)), va_up_self _ _ _⟩
theorem nA_N (κ : Nat) (S : Hp) (a N : Nat) : g_N (n_A κ S a N) a = N := va_up_self _ _ _
theorem nA_R (κ : Nat) (S : Hp) (a N : Nat) : g_R (n_A κ S a N) a = fun _ => 0 := by
  show (if a = a then _ else _) = _
  rw [if_pos rfl]
theorem nA_O (κ : Nat) (S : Hp) (a N : Nat) : g_O (n_A κ S a N) a = fun _ => none := by
  show (if a = a then _ else _) = _
  rw [if_pos rfl]
theorem nO_I (κ : Nat) (S : Hp) (a n : Nat) : g_I (n_O κ S a) n a = 0 := by
  show (if a = a then _ else _) = _
  rw [if_pos rfl]
theorem LQ_cg {A A' : Nat → Nat → Nat} {qn : Nat} {ct ct' : Nat → Nat} {el el' : Nat → Nat → Nat} (h : LQ S A qn ct el) (h10 : A' 10 = A 10) (h15 : A' 15 = A 15) (hc : ct' = ct) (he : el' = el) : LQ S A' qn ct' el' := by
  subst hc
  subst he
  unfold LQ
  rw [h10, h15]
  exact h
/-- all that isn't a list stands, under other names for lists -/
theorem cs_rest {S' : Hp} {d q : Nat} (h : CS S x A n nT nL nE D F) (he : ex nl S S') : P_0 S' x (g_2 A 15 q d) D ∧ P_2 S' (g_2 A 15 q d) ∧ P_3 S' (g_2 A 15 q d) F nT ∧ P_4 S' (g_2 A 15 q d) F n ∧ P_5 S' (g_2 A 15 q d) F n ∧ P_6 S' (g_2 A 15 q d) F n ∧ P_7 S' (g_2 A 15 q d) F nL ∧ P_8 S' (g_2 A 15 q d) F nE ∧ P_9 S' (g_2 A 15 q d) F ∧ P_10 (g_2 A 15 q d) n nL := by
  obtain ⟨h0, h1, h2, h3, h4, h5, h6, h7, h8, h9, h10⟩ := h
  exact ⟨P_0_ex h0 he, P_2_ex h2 he, P_3_ex h3 he, P_4_ex h4 he, P_5_ex h5 he, P_6_ex h6 he, P_7_ex h7 he, P_8_ex h8 he, P_9_ex h9 he, h10⟩
theorem c8_troop1 {a b c : Int32} (hv : a < 5 ∨ 20 < a ∨ b < a ∨ 20 < b ∨ c < 1 ∨ 12 < c) (hE : EQ "java/lang/IllegalArgumentException" S) : wp_X8_troop S x a b c Q EQ := by
  unfold wp_X8_troop
  by_cases h1 : a < 5 ∨ 20 < a
  · exact cs_rg0 h1 hE
  refine cs_rg1 h1 ?_
  by_cases h2 : b < a ∨ 20 < b
  · exact cs_rg0 h2 hE
  refine cs_rg1 h2 ?_
  have h3 : c < 1 ∨ 12 < c := by
    rcases hv with q | q | q | q | q
    · exact absurd (Or.inl q) h1
    · exact absurd (Or.inr q) h1
    · exact absurd (Or.inl q) h2
    · exact absurd (Or.inr q) h2
    · exact q
  exact cs_rg0 h3 hE
theorem c8_troop2 {a b c : Int32} (h : CS S x A n nT nL nE D F) (hv : ¬ (a < 5 ∨ 20 < a ∨ b < a ∨ 20 < b ∨ c < 1 ∨ 12 < c)) (h6 : nT = 6) (hE : EQ "java/lang/IllegalStateException" S) : wp_X8_troop S x a b c Q EQ := by
  simp only [not_or] at hv
  obtain ⟨v1, v2, v3, v4, v5, v6⟩ := hv
  have hl := cs_L h (show 0 < 12 by decide)
  have hp : g_P S 800 x = some (A 10 0) := h.1.2.1.1
  unfold wp_X8_troop
  refine cs_rg1 (fun q => q.elim v1 v2) (cs_rg1 (fun q => q.elim v3 v4) (cs_rg1 (fun q => q.elim v5 v6) ⟨h.1.1, ?_⟩))
  rw [hp, rdS]
  refine ⟨hl.1, c_size hl (cs_rm0 ?_ hE)⟩
  show ¬ nI nT < 6
  rw [h6]
  decide
theorem nI_lt {a b : Nat} (h : a < b) (hb : b < 2 ^ 31) : nI a < nI b := by
  rw [i_lt, nI_toInt (by omega), nI_toInt hb]
  omega
def trF (F : Nat → Nat → Int32) (t : Nat) (a b c : Int32) : Nat → Nat → Int32 := g_2 (g_2 (g_2 F 2 t a) 3 t b) 4 t c
theorem c8_troop0 {a b c : Int32} (h : CS S x A n nT nL nE D F) (hv : ¬ (a < 5 ∨ 20 < a ∨ b < a ∨ 20 < b ∨ c < 1 ∨ 12 < c)) (h6 : nT < 6) (hQ : ∀ S' A', CS S' x A' n (nT + 1) nL nE D (trF F nT a b c) → Q (nI nT) S') : wp_X8_troop S x a b c Q EQ := by
  simp only [not_or] at hv
  obtain ⟨v1, v2, v3, v4, v5, v6⟩ := hv
  have hl := cs_L h (show 0 < 12 by decide)
  have hp : g_P S 800 x = some (A 10 0) := h.1.2.1.1
  unfold wp_X8_troop
  refine cs_rg1 (fun q => q.elim v1 v2) (cs_rg1 (fun q => q.elim v3 v4) (cs_rg1 (fun q => q.elim v5 v6) ⟨h.1.1, ?_⟩))
  rw [hp, rdS]
  refine ⟨hl.1, c_size hl (cs_rm1 (show nI nT < 6 from nI_lt (b := 6) h6 (by omega)) ⟨h.1.1, ?_⟩)⟩
  rw [hp, rdS]
  refine ⟨hl.1, c_size hl ⟨h.1.1, fun q hq => ?_⟩⟩
  have x1 : ex aK S (n_O 7 S q) := ex_nO 7 hq
  have ok := nO_ok 7 S q
  have nq : ∀ {P : Nat → Prop}, q ∈ g_L S → ¬ P (g_K S q) := fun w => absurd w hq
  rw [lt_v]
  unfold wp_X7_init
  refine ⟨ok, ?_⟩
  rw [lt_v]
  refine ⟨ok, ?_⟩
  rw [lt_v]
  refine ⟨ok, ?_⟩
  rw [lt_v]
  refine ⟨ok, ?_⟩
  rw [lt_v]
  have x2 := ex_sI (n := 703) (v := c) (ex_sI (n := 702) (v := b) (ex_sI (n := 701) (v := a) (ex_sI (n := 700) (v := nI nT) x1 nq) nq) nq) nq
  have ok2 : okA (s_I (s_I (s_I (s_I (n_O 7 S q) 700 q (nI nT)) 701 q a) 702 q b) 703 q c) 7 q := ok
  have f0 : g_I (s_I (s_I (s_I (s_I (n_O 7 S q) 700 q (nI nT)) 701 q a) 702 q b) 703 q c) 700 q = nI nT := sI_eq (S := n_O 7 S q) (k := 700)
  have f1 : g_I (s_I (s_I (s_I (s_I (n_O 7 S q) 700 q (nI nT)) 701 q a) 702 q b) 703 q c) 701 q = a := sI_eq (S := s_I (n_O 7 S q) 700 q (nI nT)) (k := 701)
  have f2 : g_I (s_I (s_I (s_I (s_I (n_O 7 S q) 700 q (nI nT)) 701 q a) 702 q b) 703 q c) 702 q = b := sI_eq (S := s_I (s_I (n_O 7 S q) 700 q (nI nT)) 701 q a) (k := 702)
  have f3 : g_I (s_I (s_I (s_I (s_I (n_O 7 S q) 700 q (nI nT)) 701 q a) 702 q b) 703 q c) 703 q = c := sI_eq
  show rd (s_I (s_I (s_I (s_I (n_O 7 S q) 700 q (nI nT)) 701 q a) 702 q b) 703 q c) 10 (g_P S 800 x) _
  generalize s_I (s_I (s_I (s_I (n_O 7 S q) 700 q (nI nT)) 701 q a) 702 q b) 703 q c = S2 at *
  have hL2 := LQ_ex h.2.1 x2
  rw [hp, rdS]
  refine ⟨(hL2.1 0 (by decide)).1, c_add hL2 (show 0 < 12 by decide) (by show nT < 26; omega) (show 7 < 10 by decide) (fun i hi => ex_ok x2 (h.2.2.2.1 i hi).1) ok2 (fun S' d hL' he => ?_)⟩
  have hE := ex_trans (ex_nl x2) he
  obtain ⟨r0, r2, r3, r4, r5, r6, r7, r8, r9, r10⟩ := cs_rest (q := 0) (d := d) h hE
  have k7 : nl 7 := ⟨by decide, by decide⟩
  refine hQ S' (g_2 (g_2 A 15 0 d) 7 nT q) ⟨r0, LQ_cg hL' rfl rfl ?_ ?_, r2, fun t ht => ?_, r4, r5, P_6_cg rfl rfl rfl rfl r6, r7, r8, r9, r10⟩
  · funext k
    match k with
    | 0 => exact (va_up_self _ _ _).symm
    | 1 => rfl
    | 2 => rfl
    | 3 => rfl
    | k + 4 => rfl
  · funext k i
    match k with
    | 0 =>
      show g_2 (g_2 A 15 0 d) 7 nT q 7 i = g_2 (elF A) 0 nT q 0 i
      by_cases e : i = nT
      · subst e
        rw [g_2s]
        exact (g_2s _ _ _ _).symm
      · rw [show g_2 (g_2 A 15 0 d) 7 nT q 7 i = A 7 i from g_2n _ _ (fun w => e w.2)]
        exact (g_2n (elF A) _ (fun w => e w.2)).symm
    | 1 => rfl
    | 2 => rfl
    | 3 => rfl
    | k + 4 => rfl
  · by_cases e : t = nT
    · subst e
      rw [show g_2 (g_2 A 15 0 d) 7 t q 7 t = q from g_2s _ _ _ _]
      refine ⟨ex_ok he ok2, ?_, ?_, ?_, ?_⟩
      · rw [ex_I he ok2 k7]; exact f0
      · rw [ex_I he ok2 k7]; exact f1.trans (g_2s F 2 t a).symm
      · rw [ex_I he ok2 k7]; exact f2.trans (g_2s (g_2 F 2 t a) 3 t b).symm
      · rw [ex_I he ok2 k7]; exact f3.trans (g_2s (g_2 (g_2 F 2 t a) 3 t b) 4 t c).symm
    · rw [show g_2 (g_2 A 15 0 d) 7 nT q 7 t = A 7 t from g_2n _ _ (fun w => e w.2)]
      obtain ⟨p0, p1, p2, p3, p4⟩ := r3 t (by omega)
      refine ⟨p0, p1, ?_, ?_, ?_⟩
      · refine Eq.trans p2 ?_
        exact (g_2n F _ (fun w => e w.2)).symm
      · refine Eq.trans p3 ?_
        exact (g_2n (g_2 F 2 nT a) _ (fun w => e w.2)).symm
      · refine Eq.trans p4 ?_
        exact (g_2n (g_2 (g_2 F 2 nT a) 3 nT b) _ (fun w => e w.2)).symm
end CNEW
