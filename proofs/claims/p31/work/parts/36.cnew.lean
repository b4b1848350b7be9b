/-! THE CLASS: new troops, children -/
section CNEW
variable {S : Hp} {x : Nat} {A : Nat → Nat → Nat} {n nT nL nE : Nat} {D : Nat → Int32} {F : Nat → Nat → Int32} {Q : Int32 → Hp → Prop} {EQ : String → Hp → Prop}
theorem sI_get {S : Hp} {k a m b : Nat} {v : Int32} : g_I (s_I S k a v) m b = if m = k ∧ b = a then v else g_I S m b := by
  by_cases h : m = k ∧ b = a
  · rw [if_pos h]
    obtain ⟨rfl, rfl⟩ := h
    exact sI_eq
  · rw [if_neg h]
    exact g_2n _ _ h
theorem nO_ok (κ : Nat) (S : Hp) (a : Nat) : okA (n_O κ S a) κ a := ⟨List.mem_append.mpr (Or.inr (List.mem_singleton.mpr rfl)), va_up_self _ _ _⟩
theorem nA_ok (κ : Nat) (S : Hp) (a N : Nat) : okA (n_A κ S a N) κ a := ⟨List.mem_append.mpr (Or.inr (List.mem_singleton.mpr rfl)), va_up_self _ _ _⟩
theorem nA_N (κ : Nat) (S : Hp) (a N : Nat) : g_N (n_A κ S a N) a = N := va_up_self _ _ _
theorem nA_R (κ : Nat) (S : Hp) (a N : Nat) : g_R (n_A κ S a N) a = fun _ => 0 := by
  show (if a = a then _ else _) = _
  rw [if_pos rfl]
theorem nA_O (κ : Nat) (S : Hp) (a N : Nat) : g_O (n_A κ S a N) a = fun _ => none := by
  show (if a = a then _ else _) = _
  rw [if_pos rfl]
theorem nO_I (κ : Nat) (S : Hp) (a n : Nat) : g_I (n_O κ S a) n a = 0 := by
  show (if a = a then _ else _) = _
  rw [if_pos rfl]
theorem LQ_cg {A A' : Nat → Nat → Nat} {qn : Nat} {ct ct' : Nat → Nat} {el el' : Nat → Nat → Nat} (h : LQ S A qn ct el) (h10 : A' 10 = A 10) (h15 : A' 15 = A 15) (hc : ct' = ct) (he : el' = el) : LQ S A' qn ct' el' := by
  subst hc
  subst he
  unfold LQ
  rw [h10, h15]
  exact h
section
variable {A' : Nat → Nat → Nat} {F' : Nat → Nat → Int32}
theorem P_0_cA (a10 : A' 10 = A 10) (a13 : A' 13 = A 13) (h : P_0 S x A D) : P_0 S x A' D := by
  unfold P_0 at h ⊢
  simp only [a10, a13]
  exact h
theorem P_2_cA (a13 : A' 13 = A 13) (a0 : A' 0 = A 0) (a10 : A' 10 = A 10) (h : P_2 S A) : P_2 S A' := by
  unfold P_2 at h ⊢
  simp only [a13, a0, a10]
  exact h
theorem P_3_cA (a7 : A' 7 = A 7) (f2 : F' 2 = F 2) (f3 : F' 3 = F 3) (f4 : F' 4 = F 4) (h : P_3 S A F nT) : P_3 S A' F' nT := by
  unfold P_3 at h ⊢
  simp only [a7, f2, f3, f4]
  exact h
theorem P_4_cA (a1 : A' 1 = A 1) (f6 : F' 6 = F 6) (f7 : F' 7 = F 7) (f8 : F' 8 = F 8) (f9 : F' 9 = F 9) (f11 : F' 11 = F 11) (f12 : F' 12 = F 12) (f13 : F' 13 = F 13) (f14 : F' 14 = F 14) (h : P_4 S A F n) : P_4 S A' F' n := by
  unfold P_4 at h ⊢
  simp only [a1, f6, f7, f8, f9, f11, f12, f13, f14]
  exact h
theorem P_5_cA (a1 : A' 1 = A 1) (a11 : A' 11 = A 11) (f16 : F' 16 = F 16) (h : P_5 S A F n) : P_5 S A' F' n := by
  unfold P_5 PF at h ⊢
  simp only [a1, a11, f16]
  exact h
theorem P_7_cA (a5 : A' 5 = A 5) (a11 : A' 11 = A 11) (f20 : F' 20 = F 20) (f21 : F' 21 = F 21) (f22 : F' 22 = F 22) (h : P_7 S A F nL) : P_7 S A' F' nL := by
  unfold P_7 at h ⊢
  simp only [a5, a11, f20, f21, f22]
  exact h
theorem P_8_cA (a4 : A' 4 = A 4) (f27 : F' 27 = F 27) (f28 : F' 28 = F 28) (h : P_8 S A F nE) : P_8 S A' F' nE := by
  unfold P_8 at h ⊢
  simp only [a4, f27, f28]
  exact h
theorem P_9_cA (a3 : A' 3 = A 3) (f23 : F' 23 = F 23) (f24 : F' 24 = F 24) (h : P_9 S A F) : P_9 S A' F' := by
  unfold P_9 edn at h ⊢
  simp only [a3, f23, f24]
  exact h
theorem P_6_cA (a1 : A' 1 = A 1) (a14 : A' 14 = A 14) (a2 : A' 2 = A 2) (a3 : A' 3 = A 3) (f16 : F' 16 = F 16) (f17 : F' 17 = F 17) (f18 : F' 18 = F 18) (f24 : F' 24 = F 24) (h : P_6 S A F n) : P_6 S A' F' n := by
  refine P_6_cg f16 f17 f18 f24 ?_
  unfold P_6 at h ⊢
  simp only [a1, a14, a2, a3]
  exact h
theorem P_10_cA (a11 : A' 11 = A 11) (h : P_10 A n nL) : P_10 A' n nL := by
  unfold P_10 at h ⊢
  rw [a11]
  exact h
end
/-- all that isn't a list stands, under other names for lists -/
theorem cs_rest {S' : Hp} (h : CS S x A n nT nL nE D F) (he : ex nl S S') : P_0 S' x A D ∧ P_2 S' A ∧ P_3 S' A F nT ∧ P_4 S' A F n ∧ P_5 S' A F n ∧ P_6 S' A F n ∧ P_7 S' A F nL ∧ P_8 S' A F nE ∧ P_9 S' A F ∧ P_10 A n nL := by
  obtain ⟨h0, h1, h2, h3, h4, h5, h6, h7, h8, h9, h10⟩ := h
  exact ⟨P_0_ex h0 he, P_2_ex h2 he, P_3_ex h3 he, P_4_ex h4 he, P_5_ex h5 he, P_6_ex h6 he, P_7_ex h7 he, P_8_ex h8 he, P_9_ex h9 he, h10⟩
theorem elF_up {A' : Nat → Nat → Nat} {l N a : Nat} (h : ∀ i, elF A' l i = if i = N then a else elF A l i) (ho : ∀ k, k ≠ l → ∀ i, elF A' k i = elF A k i) : elF A' = g_2 (elF A) l N a := by
  funext k i
  by_cases hk : k = l
  · subst hk
    rw [h i]
    by_cases hi : i = N
    · subst hi
      rw [if_pos rfl, g_2s]
    · rw [if_neg hi]
      exact (g_2n _ _ (fun w => hi w.2)).symm
  · rw [ho k hk i]
    exact (g_2n _ _ (fun w => hk w.1)).symm
theorem cnt_up {f g : Nat → Nat} {l : Nat} (h : ∀ k, k ≠ l → f k = g k) : f = va_up g l (f l) := by
  funext k
  by_cases hk : k = l
  · subst hk
    rw [va_up_self]
  · rw [va_up_ne _ _ hk]
    exact h k hk
theorem c8_troop1 {a b c : Int32} (hv : a < 5 ∨ 20 < a ∨ b < a ∨ 20 < b ∨ c < 1 ∨ 12 < c) (hE : EQ "java/lang/IllegalArgumentException" S) : wp_X8_troop S x a b c Q EQ := by
  unfold wp_X8_troop
  by_cases h1 : a < 5 ∨ 20 < a
  · exact cs_rg0 h1 hE
  refine cs_rg1 h1 ?_
  by_cases h2 : b < a ∨ 20 < b
  · exact cs_rg0 h2 hE
  refine cs_rg1 h2 ?_
  have h3 : c < 1 ∨ 12 < c := by
    rcases hv with q | q | q | q | q
    · exact absurd (Or.inl q) h1
    · exact absurd (Or.inr q) h1
    · exact absurd (Or.inl q) h2
    · exact absurd (Or.inr q) h2
    · exact q
  exact cs_rg0 h3 hE
theorem c8_troop2 {a b c : Int32} (h : CS S x A n nT nL nE D F) (hv : ¬ (a < 5 ∨ 20 < a ∨ b < a ∨ 20 < b ∨ c < 1 ∨ 12 < c)) (h6 : nT = 6) (hE : EQ "java/lang/IllegalStateException" S) : wp_X8_troop S x a b c Q EQ := by
  simp only [not_or] at hv
  obtain ⟨v1, v2, v3, v4, v5, v6⟩ := hv
  have hl := cs_L h (show 0 < 12 by decide)
  have hp : g_P S 800 x = some (A 10 0) := h.1.2.1.1
  unfold wp_X8_troop
  refine cs_rg1 (fun q => q.elim v1 v2) (cs_rg1 (fun q => q.elim v3 v4) (cs_rg1 (fun q => q.elim v5 v6) ⟨h.1.1, ?_⟩))
  rw [hp, rdS]
  refine ⟨hl.1, c_size hl (cs_rm0 ?_ hE)⟩
  show ¬ nI nT < 6
  rw [h6]
  decide
theorem nI_lt' {a b : Nat} (h : a < b) (hb : b < 2 ^ 31) : nI a < nI b := by
  rw [i_lt, nI_toInt (by omega), nI_toInt hb]
  omega
def trF (F : Nat → Nat → Int32) (t : Nat) (a b c : Int32) : Nat → Nat → Int32 := g_2 (g_2 (g_2 F 2 t a) 3 t b) 4 t c
theorem trF_ne {t u : Nat} {a b c : Int32} (h : u ≠ t) (r : Nat) : trF F t a b c r u = F r u := by
  simp [trF, g_2, h]
theorem c8_troop0 {a b c : Int32} (h : CS S x A n nT nL nE D F) (hv : ¬ (a < 5 ∨ 20 < a ∨ b < a ∨ 20 < b ∨ c < 1 ∨ 12 < c)) (h6 : nT < 6) (hQ : ∀ S' A', CS S' x A' n (nT + 1) nL nE D (trF F nT a b c) → Q (nI nT) S') : wp_X8_troop S x a b c Q EQ := by
  simp only [not_or] at hv
  obtain ⟨v1, v2, v3, v4, v5, v6⟩ := hv
  have hl : LK S (A 10 0) (A 15 0) nT (A 7) := cs_L h (show 0 < 12 by decide)
  have hp : g_P S 800 x = some (A 10 0) := h.1.2.1.1
  unfold wp_X8_troop
  refine cs_rg1 (fun q => q.elim v1 v2) (cs_rg1 (fun q => q.elim v3 v4) (cs_rg1 (fun q => q.elim v5 v6) ⟨h.1.1, ?_⟩))
  rw [hp, rdS]
  refine ⟨hl.1, c_size hl (cs_rm1 (show nI nT < 6 from nI_lt' (b := 6) h6 (by omega)) ⟨h.1.1, ?_⟩)⟩
  rw [hp, rdS]
  refine ⟨hl.1, c_size hl ⟨h.1.1, fun q hq => ?_⟩⟩
  have x1 : ex aK S (n_O 7 S q) := ex_nO 7 hq
  have ok := nO_ok 7 S q
  have nq : ∀ {P : Nat → Prop}, q ∈ g_L S → ¬ P (g_K S q) := fun w => absurd w hq
  rw [lt_v]
  unfold wp_X7_init
  refine ⟨ok, ?_⟩
  rw [lt_v]
  refine ⟨ok, ?_⟩
  rw [lt_v]
  refine ⟨ok, ?_⟩
  rw [lt_v]
  refine ⟨ok, ?_⟩
  rw [lt_v]
  have x2 := ex_sI (n := 703) (v := c) (ex_sI (n := 702) (v := b) (ex_sI (n := 701) (v := a) (ex_sI (n := 700) (v := nI nT) x1 nq) nq) nq) nq
  have ok2 : okA (s_I (s_I (s_I (s_I (n_O 7 S q) 700 q (nI nT)) 701 q a) 702 q b) 703 q c) 7 q := ok
  have f0 : g_I (s_I (s_I (s_I (s_I (n_O 7 S q) 700 q (nI nT)) 701 q a) 702 q b) 703 q c) 700 q = nI nT := by simp [sI_get]
  have f1 : g_I (s_I (s_I (s_I (s_I (n_O 7 S q) 700 q (nI nT)) 701 q a) 702 q b) 703 q c) 701 q = a := by simp [sI_get]
  have f2 : g_I (s_I (s_I (s_I (s_I (n_O 7 S q) 700 q (nI nT)) 701 q a) 702 q b) 703 q c) 702 q = b := by simp [sI_get]
  have f3 : g_I (s_I (s_I (s_I (s_I (n_O 7 S q) 700 q (nI nT)) 701 q a) 702 q b) 703 q c) 703 q = c := by simp [sI_get]
  show rd (s_I (s_I (s_I (s_I (n_O 7 S q) 700 q (nI nT)) 701 q a) 702 q b) 703 q c) 10 (g_P S 800 x) _
  generalize s_I (s_I (s_I (s_I (n_O 7 S q) 700 q (nI nT)) 701 q a) 702 q b) 703 q c = S2 at *
  have hL2 := LQ_ex h.2.1 x2
  rw [hp, rdS]
  refine ⟨(hL2.1 0 (by decide)).1, c_add hL2 (show 0 < 12 by decide) (by show nT < 26; omega) (show 7 < 10 by decide) (fun i hi => ex_ok x2 (h.2.2.2.1 i hi).1) ok2 (fun S' d hL' he => ?_)⟩
  have hE := ex_trans (ex_nl x2) he
  obtain ⟨r0, r2, r3, r4, r5, r6, r7, r8, r9, r10⟩ := cs_rest h hE
  have k7 : nl 7 := ⟨by decide, by decide⟩
  refine hQ S' (g_2 (g_2 A 15 0 d) 7 nT q) ⟨P_0_cA (A := A) rfl rfl r0, LQ_cg hL' rfl rfl ?_ ?_, P_2_cA (A := A) rfl rfl rfl r2, fun t ht => ?_, P_4_cA (A := A) (F := F) rfl rfl rfl rfl rfl rfl rfl rfl rfl r4, P_5_cA (A := A) (F := F) rfl rfl rfl r5, P_6_cA (A := A) (F := F) rfl rfl rfl rfl rfl rfl rfl rfl r6, P_7_cA (A := A) (F := F) rfl rfl rfl rfl rfl r7, P_8_cA (A := A) (F := F) rfl rfl rfl r8, P_9_cA (A := A) (F := F) rfl rfl rfl r9, P_10_cA (A := A) rfl r10⟩
  · exact cnt_up (fun k hk => by
      match k with
      | 0 => exact absurd rfl hk
      | 1 => rfl
      | 2 => rfl
      | 3 => rfl
      | k + 4 => rfl)
  · exact elF_up (l := 0) (fun i => by
      show g_2 (g_2 A 15 0 d) 7 nT q 7 i = _
      simp only [g_2, true_and]
      rfl) (fun k hk i => by
      match k with
      | 0 => exact absurd rfl hk
      | 1 => rfl
      | 2 => rfl
      | 3 => rfl
      | k + 4 => rfl)
  · by_cases e : t = nT
    · subst e
      rw [show g_2 (g_2 A 15 0 d) 7 t q 7 t = q from g_2s _ _ _ _]
      refine ⟨ex_ok he ok2, ?_, ?_, ?_, ?_⟩
      · rw [ex_I he ok2 k7]; exact f0
      · rw [ex_I he ok2 k7]; exact f1.trans (g_2s F 2 t a).symm
      · rw [ex_I he ok2 k7]; exact f2.trans (g_2s (g_2 F 2 t a) 3 t b).symm
      · rw [ex_I he ok2 k7]; exact f3.trans (g_2s (g_2 (g_2 F 2 t a) 3 t b) 4 t c).symm
    · rw [show g_2 (g_2 A 15 0 d) 7 nT q 7 t = A 7 t from g_2n _ _ (fun w => e w.2)]
      obtain ⟨p0, p1, p2, p3, p4⟩ := r3 t (by omega)
      refine ⟨p0, p1, ?_, ?_, ?_⟩
      · rw [trF_ne e]; exact p2
      · rw [trF_ne e]; exact p3
      · rw [trF_ne e]; exact p4
end CNEW
