/-! THE CLASS: a new movement -/
section CINIT
variable {S : Hp} {x : Nat}
/-- an empty list -/
def EL (S : Hp) (a : Nat) : Prop := okA S 10 a ∧ g_I S 1002 a = 0 ∧ g_P S 1001 a = some (g_T S)
theorem el_x {S S' : Hp} {P : Nat → Prop} {a : Nat} (h : EL S a) (he : exB P S S') (hP : P a) : EL S' a := by
  obtain ⟨h0, h1, h2⟩ := h
  obtain ⟨a1, a2, a3⟩ := (he.2 a h0.1).2.2 hP
  exact ⟨xb_ok he h0, (a1 _).trans h1, (a2 _).trans (h2.trans (by rw [he.1]))⟩
theorem nb_x {S S' : Hp} {P : Nat → Prop} {q κ : Nat} {fi : Nat → Int32} {fp : Nat → Option Nat} (h : NB S q κ fi fp) (he : exB P S S') (hP : P q) : NB S' q κ fi fp := by
  obtain ⟨h0, h1, h2⟩ := h
  obtain ⟨a1, a2, a3⟩ := (he.2 q h0.1).2.2 hP
  exact ⟨xb_ok he h0, fun n => (a1 n).trans (h1 n), fun n => (a2 n).trans (h2 n)⟩
theorem c10_init {a : Nat} {Q : Hp → Prop} (h : NB S a 10 (fun _ => 0) (fun _ => none)) (hQ : ∀ S', exB (fun b => b ≠ a) S S' → EL S' a → Q S') : wp_Jx4a65c_init_da8c8 S a Q := by
  unfold wp_Jx4a65c_init_da8c8 wp_Jxc12de_init_da8c8 wp_Jxa1e45_init_da8c8
  refine st_I h (fun S2 n2 e2 => st_P n2 (fun S3 n3 e3 => ?_))
  refine hQ S3 (xb_t e2 e3 (fun _ w => w)) ⟨n3.1, ?_, ?_⟩
  · rw [n3.2.1]
    simp [va_up]
  · rw [n3.2.2, e3.1]
    simp [va_up]
/-- a new list -/
theorem st_L {K : Nat → Hp → Prop} (hK : ∀ a S', a ∉ g_L S → exB (fun _ => True) S S' → EL S' a → K a S') : ∀ a, a ∉ g_L S → lt (n_O 10 S a) (fun S2 => wp_Jx4a65c_init_da8c8 S2 a (K a)) := fun a ha => by
  rw [lt_v]
  refine c10_init (nb_new 10 S a) (fun S' e el => hK a S' ha ?_ el)
  exact exB_mono (exB_trans (exB_mono (exB_nO (P := fun _ => True) 10 ha) (fun _ _ _ => trivial)) e) (fun b hb _ w => ha (w ▸ hb))
theorem xb_pt {P : Nat → Prop} {S S' S2 : Hp} (h : exB P S S') (h2 : exB (fun _ => True) S' S2) : exB P S S2 := exB_trans h (exB_mono h2 (fun _ _ _ => trivial))
/-- a movement while it is made: four lists and those of k badges -/
def IV (S : Hp) (x ar k : Nat) (l bd : Nat → Nat) : Prop := NB S x 8 (fun _ => 0) (fun m => if m = 804 then some ar else if m = 803 then some (l 3) else if m = 802 then some (l 2) else if m = 801 then some (l 1) else if m = 800 then some (l 0) else none) ∧ (okA S 13 ar ∧ g_N S ar = 8) ∧ (∀ q, q < 4 + k → EL S (l q)) ∧ (∀ q, q < 4 + k → ∀ r, r < 4 + k → l q = l r → q = r) ∧ ∀ b, b < k → g_O S ar b = some (bd b) ∧ okA S 0 (bd b) ∧ g_P S 0 (bd b) = some (l (4 + b))
def inA (ar : Nat) (l bd : Nat → Nat) : Nat → Nat → Nat := fun κ i => if κ = 10 then l i else if κ = 13 then ar else if κ = 0 then bd i else 0
theorem F00_23 (b : Nat) : F00 23 b = 0 := by simp [F00, fil]
theorem iv_cs {ar : Nat} {l bd : Nat → Nat} {S : Hp} (h : IV S x ar 8 l bd) : CS (s_I (s_I S 805 x 0) 806 x 0) x (inA ar l bd) 0 0 0 0 (fun _ => 0) F00 := by
  obtain ⟨h1, h2, h3, h4, h5⟩ := h
  have e23 : ∀ q, cntF 0 0 0 0 F00 q = 0 := fun q => by
    match q with
    | 0 => rfl
    | 1 => rfl
    | 2 => rfl
    | 3 => rfl
    | q + 4 =>
      show edn F00 q = 0
      unfold edn
      rw [F00_23]
      rfl
  refine ⟨⟨h1.1, ⟨?_, ?_, ?_, ?_, ?_⟩, ?_, ?_⟩, ⟨fun q hq => ?_, fun q hq r hr e => h4 q hq r hr e, fun q hq r hr e0 => absurd (e23 q) e0⟩, ⟨h2, fun b hb => ?_⟩, fun t ht => by omega, ⟨fun i hi => by omega, fun i hi => by omega⟩, fun i hi => by omega, ⟨fun i hi => by omega, fun i hi => by omega, fun i hi => by omega⟩, ⟨fun i hi => by omega, fun i hi => by omega⟩, ⟨fun i hi => by omega, fun i hi => by omega⟩, fun b hb e he => ?_, fun r hr => ?_⟩
  · exact h1.2.2 800
  · exact h1.2.2 801
  · exact h1.2.2 802
  · exact h1.2.2 803
  · exact h1.2.2 804
  · rw [sI_ne (Or.inl (by decide))]
    exact sI_eq
  · exact sI_eq
  · rw [e23]
    obtain ⟨w1, w2, w3⟩ := h3 q hq
    refine ⟨w1, ?_, Or.inl ⟨rfl, w3⟩⟩
    rw [sI_ne (Or.inl (by decide)), sI_ne (Or.inl (by decide))]
    exact w2
  · obtain ⟨w1, w2, w3⟩ := h5 b hb
    exact ⟨w1, w2, w3⟩
  · have := e23 (b + 4)
    have e9 : cntF 0 0 0 0 F00 (b + 4) = edn F00 b := rfl
    rw [e9] at this
    omega
  · rcases hr with w | ⟨w, w2⟩ <;> omega
theorem iv_step {ar k a l' : Nat} {l bd : Nat → Nat} {S S3 : Hp} (h : IV S x ar k l bd) (hk : k < 8) (ha : a ∉ g_L S) (he : exB (fun _ => True) S S3) (hoa : okA S3 0 a) (hp : g_P S3 0 a = some l') (hel : EL S3 l') (hl' : l' ∉ g_L S) : IV (s_O S3 ar k (some a)) x ar (k + 1) (va_up l (4 + k) l') (va_up bd k a) := by
  obtain ⟨h1, h2, h3, h4, h5⟩ := h
  have ve : ∀ q, q < 4 + k → va_up l (4 + k) l' q = l q := fun q hq => va_up_ne _ _ (by omega)
  have hn : ∀ q, q < 4 + k → l q ≠ l' := fun q hq w => hl' (w ▸ (h3 q hq).1.1)
  have o13 : okA S3 13 ar := xb_ok he h2.1
  have N13 : g_N S3 ar = 8 := (xb_N he h2.1 trivial).trans h2.2
  refine ⟨?_, ⟨o13, N13⟩, fun q hq => ?_, fun q hq r hr e => ?_, fun b hb => ?_⟩
  · rw [ve 0 (by omega), ve 1 (by omega), ve 2 (by omega), ve 3 (by omega)]
    have nbx := nb_x h1 he trivial
    exact nbx
  · by_cases e : q = 4 + k
    · subst e
      rw [va_up_self]
      exact hel
    · rw [va_up_ne _ _ e]
      have elx := el_x (h3 q (by omega)) he trivial
      exact elx
  · by_cases e1 : q = 4 + k
    · by_cases e2 : r = 4 + k
      · rw [e1, e2]
      · rw [e1, va_up_self, va_up_ne _ _ e2] at e
        exact absurd e.symm (hn r (by omega))
    · by_cases e2 : r = 4 + k
      · rw [e2, va_up_self, va_up_ne _ _ e1] at e
        exact absurd e (hn q (by omega))
      · rw [va_up_ne _ _ e1, va_up_ne _ _ e2] at e
        exact h4 q (by omega) r (by omega) e
  · by_cases e : b = k
    · subst e
      rw [va_up_self, va_up_self]
      exact ⟨g_2s _ _ _ _, hoa, hp⟩
    · rw [va_up_ne _ _ e, va_up_ne _ _ (show 4 + b ≠ 4 + k by omega)]
      obtain ⟨w1, w2, w3⟩ := h5 b (by omega)
      have o0 : okA S3 0 (bd b) := xb_ok he w2
      refine ⟨?_, o0, ?_⟩
      · refine (g_2n _ _ (fun w => e w.2)).trans ?_
        rw [xb_O he h2.1 trivial]
        exact w1
      · exact (((he.2 _ w2.1).2.2 trivial).2.1 0).trans w3
theorem c8_init_L {ar : Nat} {Q : Hp → Prop} (hQ : ∀ S' A, CS S' x A 0 0 0 0 (fun _ => 0) F00 → Q S') : ∀ (fuel k : Nat) (S : Hp) (l bd : Nat → Nat), k ≤ 8 → 8 < k + fuel → IV S x ar k l bd → wp_X8_init_L59 x Q fuel S (nI k) := by
  intro fuel
  induction fuel with
  | zero => intro k S l bd h1 h2; omega
  | succ f ih =>
    intro k S l bd h1 h2 h
    have hx := h.1.1
    have hp : g_P S 804 x = some ar := h.1.2.2 804
    unfold wp_X8_init_L59
    refine ⟨hx, ?_⟩
    rw [hp, rdS]
    refine ⟨h.2.1.1, ?_⟩
    rw [h.2.1.2]
    by_cases e : k = 8
    · subst e
      rw [if_pos (by decide), lt_v]
      refine ⟨hx, ?_⟩
      rw [lt_v]
      exact hQ _ _ (iv_cs h)
    · rw [if_neg (show ¬ Int32.ofNat 8 ≤ nI k from nI_ge (b := 8) (by omega) (by omega))]
      intro a ha
      have nb := nb_new 0 S a
      have x1 : exB (fun _ => True) S (n_O 0 S a) := exB_nO 0 ha
      rw [lt_v]
      generalize n_O 0 S a = S1 at *
      unfold wp_X0_init
      refine st_L (fun l' S2 hl' e2 el2 => ?_)
      have nb2 := nb_x nb e2 trivial
      refine st_P nb2 (fun S3 n3 e3 => ?_)
      have hla : l' ≠ a := fun w => hl' (w ▸ nb.1.1)
      have hlS : l' ∉ g_L S := fun w => hl' (x1.2 _ w).1
      have he : exB (fun _ => True) S S3 := exB_mono (exB_trans (exB_mono (exB_trans x1 e2) (fun _ _ _ => trivial)) e3) (fun b hb _ w => ha (w ▸ hb))
      show rd S3 13 (some ar) _
      rw [rdS]
      refine ⟨xb_ok he h.2.1.1, ?_, n3.1, ?_⟩
      · rw [xb_N he h.2.1.1 trivial, h.2.1.2]
        exact vp_in_nI (by omega) (by omega)
      · rw [lt_v, nIc (by omega), show nI k + 1 = nI (k + 1) from nI_add k 1]
        refine ih (k + 1) _ _ _ (by omega) (by omega) (iv_step h (by omega) ha he n3.1 ?_ (el_x el2 e3 hla) hlS)
        rw [n3.2.2]
        simp [va_up]
theorem c8_init {Q : Hp → Prop} (h : NB S x 8 (fun _ => 0) (fun _ => none)) (hQ : ∀ S' A, CS S' x A 0 0 0 0 (fun _ => 0) F00 → Q S') : wp_X8_init S x Q := by
  unfold wp_X8_init
  refine st_L (fun a0 T1 n1 e1 l1 => ?_)
  have b1 := nb_x h e1 trivial
  have d1 : a0 ≠ x := fun w => n1 (w ▸ h.1.1)
  refine st_P b1 (fun S1 c1 f1 => ?_)
  have l1' := el_x l1 f1 d1
  refine st_L (fun a1 T2 n2 e2 l2 => ?_)
  have b2 := nb_x c1 e2 trivial
  have d2 : a1 ≠ x := fun w => n2 (w ▸ c1.1.1)
  have d21 : a1 ≠ a0 := fun w => n2 (w ▸ l1'.1.1)
  refine st_P b2 (fun S2 c2 f2 => ?_)
  have l1'' := el_x (el_x l1' e2 trivial) f2 d1
  have l2' := el_x l2 f2 d2
  refine st_L (fun a2 T3 n3 e3 l3 => ?_)
  have b3 := nb_x c2 e3 trivial
  have d3 : a2 ≠ x := fun w => n3 (w ▸ c2.1.1)
  have d31 : a2 ≠ a0 := fun w => n3 (w ▸ l1''.1.1)
  have d32 : a2 ≠ a1 := fun w => n3 (w ▸ l2'.1.1)
  refine st_P b3 (fun S3 c3 f3 => ?_)
  have l1c := el_x (el_x l1'' e3 trivial) f3 d1
  have l2c := el_x (el_x l2' e3 trivial) f3 d2
  have l3c := el_x l3 f3 d3
  refine st_L (fun a3 T4 n4 e4 l4 => ?_)
  have b4 := nb_x c3 e4 trivial
  have d4 : a3 ≠ x := fun w => n4 (w ▸ c3.1.1)
  have d41 : a3 ≠ a0 := fun w => n4 (w ▸ l1c.1.1)
  have d42 : a3 ≠ a1 := fun w => n4 (w ▸ l2c.1.1)
  have d43 : a3 ≠ a2 := fun w => n4 (w ▸ l3c.1.1)
  refine st_P b4 (fun S4 c4 f4 => ?_)
  have l1d := el_x (el_x l1c e4 trivial) f4 d1
  have l2d := el_x (el_x l2c e4 trivial) f4 d2
  have l3d := el_x (el_x l3c e4 trivial) f4 d3
  have l4d := el_x l4 f4 d4
  refine st_At (κ' := 13) (N := 8) c4 (fun ar S5 n5 d5 c5 e5 na5 => ?_)
  refine st_P c5 (fun S6 c6 f6 => ?_)
  have na6 := na_x na5 f6 d5
  have k1 := el_x (el_x l1d e5 trivial) f6 d1
  have k2 := el_x (el_x l2d e5 trivial) f6 d2
  have k3 := el_x (el_x l3d e5 trivial) f6 d3
  have k4 := el_x (el_x l4d e5 trivial) f6 d4
  refine ⟨9, Nat.le_refl _, ?_⟩
  refine c8_init_L (ar := ar) hQ 9 0 S6 (fun q => if q = 0 then a0 else if q = 1 then a1 else if q = 2 then a2 else a3) (fun _ => 0) (by omega) (by omega) ⟨?_, ⟨na6.1, na6.2.1⟩, fun q hq => ?_, fun q hq r hr e => ?_, fun b hb => by omega⟩
  · refine ⟨c6.1, c6.2.1, fun m => ?_⟩
    rw [c6.2.2]
    simp [va_up]
  · rcases (show q = 0 ∨ q = 1 ∨ q = 2 ∨ q = 3 by omega) with rfl | rfl | rfl | rfl
    · exact k1
    · exact k2
    · exact k3
    · exact k4
  · rcases (show q = 0 ∨ q = 1 ∨ q = 2 ∨ q = 3 by omega) with rfl | rfl | rfl | rfl <;> rcases (show r = 0 ∨ r = 1 ∨ r = 2 ∨ r = 3 by omega) with rfl | rfl | rfl | rfl <;> first | rfl | (exfalso; simp only [if_true, if_false, show ¬ (1 : Nat) = 0 by decide, show ¬ (2 : Nat) = 0 by decide, show ¬ (2 : Nat) = 1 by decide, show ¬ (3 : Nat) = 0 by decide, show ¬ (3 : Nat) = 1 by decide, show ¬ (3 : Nat) = 2 by decide] at e; first | exact d21 e | exact d21 e.symm | exact d31 e | exact d31 e.symm | exact d32 e | exact d32 e.symm | exact d41 e | exact d41 e.symm | exact d42 e | exact d42 e.symm | exact d43 e | exact d43 e.symm)
end CINIT
