/-! THE PROPERTY: what a movement holds beside the ranges; calls as steps of its numbers, the same for both movements -/
section GLUE
abbrev Sg : Type := Nat × Nat × Nat × Nat × (Nat → Int32) × (Nat → Nat → Int32)
def RS (S : Hp) (x : Nat) (σ : Sg) : Prop := ∃ A, CS S x A σ.1 σ.2.1 σ.2.2.1 σ.2.2.2.1 σ.2.2.2.2.1 σ.2.2.2.2.2
def X1 (F : Nat → Nat → Int32) (n : Nat) : Prop := ∀ i, i < n → ¬ F 7 i = -1 → ∃ p, p < 4 ∧ F 11 i = nI p
def X3 (F : Nat → Nat → Int32) (n : Nat) : Prop := ∀ t, t < 4 → F 4 t = nI (1 + t % 3) ∧ inT F n (nI t) ≤ 1 + t % 3 ∧ (waT F n (nI t) = 0 ∨ inT F n (nI t) = 1 + t % 3)
def X4 (F : Nat → Nat → Int32) (n : Nat) : Prop := ∀ i, i < n → F 12 i = 0 ∨ ∃ t, t < 4 ∧ F 13 i = nI t
def X5 (F : Nat → Nat → Int32) (nE : Nat) : Prop := ∀ e, e < nE → ∀ k, k < nE → k ≠ e → meB F k e = true → ∀ l, (sN F e).testBit l = true → (sN F k).testBit l = false
def X6 (F : Nat → Nat → Int32) (nL : Nat) : Prop := ∀ l, l < nL → ∀ k, k < 3 → -1 ≤ F 21 (3 * l + k)
def JV (n nL nE d : Nat) (D : Nat → Int32) (F : Nat → Nat → Int32) : Prop := FW n 4 nL nE d D F ∧ X1 F n ∧ X3 F n ∧ X4 F n ∧ X5 F nE ∧ X6 F nL
/-- a call's step: from any heap that holds σ, it answers r and leaves σ' -/
def Do (w a b c e : Int32) (σ : Sg) (r : Int32) (σ' : Sg) : Prop := ∀ (S : Hp) (x : Nat) (Q : Int32 → Hp → Prop), RS S x σ → (∀ S', RS S' x σ' → Q r S') → wp_L_call S x w a b c e Q
def DoE (a1 a2 a3 a4 a5 a6 a7 : Int32) (σ : Sg) (r : Int32) (σ' : Sg) : Prop := ∀ (S : Hp) (x : Nat) (Q : Int32 → Hp → Prop), RS S x σ → (∀ S', RS S' x σ' → Q r S') → wp_L_edition S x a1 a2 a3 a4 a5 a6 a7 Q
def DoV (a1 a2 a3 a4 a5 a6 : Int32) (σ : Sg) (r : Int32) (σ' : Sg) : Prop := ∀ (S : Hp) (x : Nat) (Q : Int32 → Hp → Prop), RS S x σ → (∀ S', RS S' x σ' → Q r S') → wp_L_event S x a1 a2 a3 a4 a5 a6 Q
theorem both_of {w a b c e r : Int32} {σ σ' : Sg} {S1 S2 S : Hp} {x m : Nat} {Q : Int32 → Hp → Hp → Hp → Prop} (hd : Do w a b c e σ r σ') (h1 : RS S1 x σ) (h2 : RS S2 m σ) (hQ : ∀ U1 U2, RS U1 x σ' → RS U2 m σ' → Q r U1 U2 S) : wp_L_both S1 S2 S x m w a b c e Q := by
  unfold wp_L_both
  refine hd S1 x _ h1 (fun U1 r1 => hd S2 m _ h2 (fun U2 r2 => ?_))
  rw [if_pos rfl]
  exact hQ U1 U2 r1 r2
def HE (Q : Int32 → Hp → Prop) : String → Hp → Prop := fun En S1 => (En = "java/lang/IndexOutOfBoundsException" → Q (-2000000001 : Int32) S1) ∧ (En = "java/lang/IllegalArgumentException" → Q (-2000000002 : Int32) S1) ∧ (En = "java/lang/IllegalStateException" → Q (-2000000003 : Int32) S1) ∧ (En = "java/lang/IndexOutOfBoundsException" ∨ En = "java/lang/IllegalArgumentException" ∨ En = "java/lang/IllegalStateException")
theorem he_O {Q : Int32 → Hp → Prop} {S : Hp} (h : Q (-2000000001) S) : HE Q "java/lang/IndexOutOfBoundsException" S := ⟨fun _ => h, fun e => absurd e (by decide), fun e => absurd e (by decide), Or.inl rfl⟩
theorem he_B {Q : Int32 → Hp → Prop} {S : Hp} (h : Q (-2000000002) S) : HE Q "java/lang/IllegalArgumentException" S := ⟨fun e => absurd e (by decide), fun _ => h, fun e => absurd e (by decide), Or.inr (Or.inl rfl)⟩
theorem he_N {Q : Int32 → Hp → Prop} {S : Hp} (h : Q (-2000000003) S) : HE Q "java/lang/IllegalStateException" S := ⟨fun e => absurd e (by decide), fun e => absurd e (by decide), fun _ => h, Or.inr (Or.inr rfl)⟩
variable {S : Hp} {x : Nat} {n nT nL nE d : Nat} {D : Nat → Int32} {F : Nat → Nat → Int32} {Q : Int32 → Hp → Prop} {EQ : String → Hp → Prop}
theorem call_of {w a b c e : Int32} (h : wp_L_does S x w a b c e (fun r S1 => Q r S1) (HE Q)) : wp_L_call S x w a b c e Q := h
theorem ds_0 {a b c e : Int32} (h : okA S 8 x ∧ wp_X8_troop S x a b c (fun r S1 => Q r S1) EQ) : wp_L_does S x 0 a b c e Q EQ := by
  unfold wp_L_does
  rw [if_pos rfl]
  exact h
theorem ds_1 {a b c e : Int32} (h : okA S 8 x ∧ wp_X8_child S x a (fun r S1 => Q r S1) EQ) : wp_L_does S x 1 a b c e Q EQ := by
  unfold wp_L_does
  rw [if_neg (show ¬ (1 : Int32) = 0 by decide)]; rw [if_pos rfl]
  exact h
theorem ds_2 {a b c e : Int32} (h : okA S 8 x ∧ wp_X8_join S x a b (fun r S1 => Q r S1) EQ) : wp_L_does S x 2 a b c e Q EQ := by
  unfold wp_L_does
  rw [if_neg (show ¬ (2 : Int32) = 0 by decide)]; rw [if_neg (show ¬ (2 : Int32) = 1 by decide)]; rw [if_pos rfl]
  exact h
theorem ds_3 {a b c e : Int32} (h : okA S 8 x ∧ wp_X8_leave S x a (fun r S1 => Q r S1) EQ) : wp_L_does S x 3 a b c e Q EQ := by
  unfold wp_L_does
  rw [if_neg (show ¬ (3 : Int32) = 0 by decide)]; rw [if_neg (show ¬ (3 : Int32) = 1 by decide)]; rw [if_neg (show ¬ (3 : Int32) = 2 by decide)]; rw [if_pos rfl]
  exact h
theorem ds_4 {a b c e : Int32} (h : okA S 8 x ∧ wp_X8_patrol S x a b (fun r S1 => Q r S1) EQ) : wp_L_does S x 4 a b c e Q EQ := by
  unfold wp_L_does
  rw [if_neg (show ¬ (4 : Int32) = 0 by decide)]; rw [if_neg (show ¬ (4 : Int32) = 1 by decide)]; rw [if_neg (show ¬ (4 : Int32) = 2 by decide)]; rw [if_neg (show ¬ (4 : Int32) = 3 by decide)]; rw [if_pos rfl]
  exact h
theorem ds_5 {a b c e : Int32} (h : okA S 8 x ∧ wp_X8_duty S x a b (fun r S1 => Q r S1) EQ) : wp_L_does S x 5 a b c e Q EQ := by
  unfold wp_L_does
  rw [if_neg (show ¬ (5 : Int32) = 0 by decide)]; rw [if_neg (show ¬ (5 : Int32) = 1 by decide)]; rw [if_neg (show ¬ (5 : Int32) = 2 by decide)]; rw [if_neg (show ¬ (5 : Int32) = 3 by decide)]; rw [if_neg (show ¬ (5 : Int32) = 4 by decide)]; rw [if_pos rfl]
  exact h
theorem ds_6 {a b c e : Int32} (h : okA S 8 x ∧ wp_X8_pass S x a (fun r S1 => Q r S1) EQ) : wp_L_does S x 6 a b c e Q EQ := by
  unfold wp_L_does
  rw [if_neg (show ¬ (6 : Int32) = 0 by decide)]; rw [if_neg (show ¬ (6 : Int32) = 1 by decide)]; rw [if_neg (show ¬ (6 : Int32) = 2 by decide)]; rw [if_neg (show ¬ (6 : Int32) = 3 by decide)]; rw [if_neg (show ¬ (6 : Int32) = 4 by decide)]; rw [if_neg (show ¬ (6 : Int32) = 5 by decide)]; rw [if_pos rfl]
  exact h
theorem ds_7 {a b c e : Int32} (h : okA S 8 x ∧ wp_X8_season S x (fun r S1 => Q r S1)) : wp_L_does S x 7 a b c e Q EQ := by
  unfold wp_L_does
  rw [if_neg (show ¬ (7 : Int32) = 0 by decide)]; rw [if_neg (show ¬ (7 : Int32) = 1 by decide)]; rw [if_neg (show ¬ (7 : Int32) = 2 by decide)]; rw [if_neg (show ¬ (7 : Int32) = 3 by decide)]; rw [if_neg (show ¬ (7 : Int32) = 4 by decide)]; rw [if_neg (show ¬ (7 : Int32) = 5 by decide)]; rw [if_neg (show ¬ (7 : Int32) = 6 by decide)]; rw [if_pos rfl]
  exact h
theorem ds_8 {a b c e : Int32} (h : okA S 8 x ∧ wp_X8_leader S x (fun r S1 => Q r S1) EQ) : wp_L_does S x 8 a b c e Q EQ := by
  unfold wp_L_does
  rw [if_neg (show ¬ (8 : Int32) = 0 by decide)]; rw [if_neg (show ¬ (8 : Int32) = 1 by decide)]; rw [if_neg (show ¬ (8 : Int32) = 2 by decide)]; rw [if_neg (show ¬ (8 : Int32) = 3 by decide)]; rw [if_neg (show ¬ (8 : Int32) = 4 by decide)]; rw [if_neg (show ¬ (8 : Int32) = 5 by decide)]; rw [if_neg (show ¬ (8 : Int32) = 6 by decide)]; rw [if_neg (show ¬ (8 : Int32) = 7 by decide)]; rw [if_pos rfl]
  exact h
theorem ds_9 {a b c e : Int32} (h : okA S 8 x ∧ wp_X8_vet S x a b c e (fun S1 => Q 0 S1) EQ) : wp_L_does S x 9 a b c e Q EQ := by
  unfold wp_L_does
  rw [if_neg (show ¬ (9 : Int32) = 0 by decide)]; rw [if_neg (show ¬ (9 : Int32) = 1 by decide)]; rw [if_neg (show ¬ (9 : Int32) = 2 by decide)]; rw [if_neg (show ¬ (9 : Int32) = 3 by decide)]; rw [if_neg (show ¬ (9 : Int32) = 4 by decide)]; rw [if_neg (show ¬ (9 : Int32) = 5 by decide)]; rw [if_neg (show ¬ (9 : Int32) = 6 by decide)]; rw [if_neg (show ¬ (9 : Int32) = 7 by decide)]; rw [if_neg (show ¬ (9 : Int32) = 8 by decide)]; rw [if_pos rfl]
  exact h
theorem ds_10 {a b c e : Int32} (h : okA S 8 x ∧ wp_X8_permit S x a b c (fun r S1 => Q r S1) EQ) : wp_L_does S x 10 a b c e Q EQ := by
  unfold wp_L_does
  rw [if_neg (show ¬ (10 : Int32) = 0 by decide)]; rw [if_neg (show ¬ (10 : Int32) = 1 by decide)]; rw [if_neg (show ¬ (10 : Int32) = 2 by decide)]; rw [if_neg (show ¬ (10 : Int32) = 3 by decide)]; rw [if_neg (show ¬ (10 : Int32) = 4 by decide)]; rw [if_neg (show ¬ (10 : Int32) = 5 by decide)]; rw [if_neg (show ¬ (10 : Int32) = 6 by decide)]; rw [if_neg (show ¬ (10 : Int32) = 7 by decide)]; rw [if_neg (show ¬ (10 : Int32) = 8 by decide)]; rw [if_neg (show ¬ (10 : Int32) = 9 by decide)]; rw [if_pos rfl]
  exact h
theorem ds_11 {a b c e : Int32} (h : okA S 8 x ∧ wp_X8_teach S x a b (fun r S1 => Q r S1) EQ) : wp_L_does S x 11 a b c e Q EQ := by
  unfold wp_L_does
  rw [if_neg (show ¬ (11 : Int32) = 0 by decide)]; rw [if_neg (show ¬ (11 : Int32) = 1 by decide)]; rw [if_neg (show ¬ (11 : Int32) = 2 by decide)]; rw [if_neg (show ¬ (11 : Int32) = 3 by decide)]; rw [if_neg (show ¬ (11 : Int32) = 4 by decide)]; rw [if_neg (show ¬ (11 : Int32) = 5 by decide)]; rw [if_neg (show ¬ (11 : Int32) = 6 by decide)]; rw [if_neg (show ¬ (11 : Int32) = 7 by decide)]; rw [if_neg (show ¬ (11 : Int32) = 8 by decide)]; rw [if_neg (show ¬ (11 : Int32) = 9 by decide)]; rw [if_neg (show ¬ (11 : Int32) = 10 by decide)]; rw [if_pos rfl]
  exact h
theorem ds_12 {a b c e : Int32} (h : okA S 8 x ∧ wp_X8_begin S x a b (fun r S1 => Q r S1) EQ) : wp_L_does S x 12 a b c e Q EQ := by
  unfold wp_L_does
  rw [if_neg (show ¬ (12 : Int32) = 0 by decide)]; rw [if_neg (show ¬ (12 : Int32) = 1 by decide)]; rw [if_neg (show ¬ (12 : Int32) = 2 by decide)]; rw [if_neg (show ¬ (12 : Int32) = 3 by decide)]; rw [if_neg (show ¬ (12 : Int32) = 4 by decide)]; rw [if_neg (show ¬ (12 : Int32) = 5 by decide)]; rw [if_neg (show ¬ (12 : Int32) = 6 by decide)]; rw [if_neg (show ¬ (12 : Int32) = 7 by decide)]; rw [if_neg (show ¬ (12 : Int32) = 8 by decide)]; rw [if_neg (show ¬ (12 : Int32) = 9 by decide)]; rw [if_neg (show ¬ (12 : Int32) = 10 by decide)]; rw [if_neg (show ¬ (12 : Int32) = 11 by decide)]; rw [if_pos rfl]
  exact h
theorem ds_13 {a b c e : Int32} (h : okA S 8 x ∧ wp_X8_prove S x a b c (fun r S1 => Q r S1) EQ) : wp_L_does S x 13 a b c e Q EQ := by
  unfold wp_L_does
  rw [if_neg (show ¬ (13 : Int32) = 0 by decide)]; rw [if_neg (show ¬ (13 : Int32) = 1 by decide)]; rw [if_neg (show ¬ (13 : Int32) = 2 by decide)]; rw [if_neg (show ¬ (13 : Int32) = 3 by decide)]; rw [if_neg (show ¬ (13 : Int32) = 4 by decide)]; rw [if_neg (show ¬ (13 : Int32) = 5 by decide)]; rw [if_neg (show ¬ (13 : Int32) = 6 by decide)]; rw [if_neg (show ¬ (13 : Int32) = 7 by decide)]; rw [if_neg (show ¬ (13 : Int32) = 8 by decide)]; rw [if_neg (show ¬ (13 : Int32) = 9 by decide)]; rw [if_neg (show ¬ (13 : Int32) = 10 by decide)]; rw [if_neg (show ¬ (13 : Int32) = 11 by decide)]; rw [if_neg (show ¬ (13 : Int32) = 12 by decide)]; rw [if_pos rfl]
  exact h
theorem ds_14a {a b c e : Int32} (hc : c = 1) (h : okA S 8 x ∧ wp_X8_staff S x a b 1 (fun r S1 => Q r S1) EQ) : wp_L_does S x 14 a b c e Q EQ := by
  unfold wp_L_does
  rw [if_neg (show ¬ (14 : Int32) = 0 by decide)]; rw [if_neg (show ¬ (14 : Int32) = 1 by decide)]; rw [if_neg (show ¬ (14 : Int32) = 2 by decide)]; rw [if_neg (show ¬ (14 : Int32) = 3 by decide)]; rw [if_neg (show ¬ (14 : Int32) = 4 by decide)]; rw [if_neg (show ¬ (14 : Int32) = 5 by decide)]; rw [if_neg (show ¬ (14 : Int32) = 6 by decide)]; rw [if_neg (show ¬ (14 : Int32) = 7 by decide)]; rw [if_neg (show ¬ (14 : Int32) = 8 by decide)]; rw [if_neg (show ¬ (14 : Int32) = 9 by decide)]; rw [if_neg (show ¬ (14 : Int32) = 10 by decide)]; rw [if_neg (show ¬ (14 : Int32) = 11 by decide)]; rw [if_neg (show ¬ (14 : Int32) = 12 by decide)]; rw [if_neg (show ¬ (14 : Int32) = 13 by decide)]; rw [if_pos rfl, if_pos hc]
  exact h
theorem ds_14b {a b c e : Int32} (hc : ¬ c = 1) (h : okA S 8 x ∧ wp_X8_staff S x a b 0 (fun r S1 => Q r S1) EQ) : wp_L_does S x 14 a b c e Q EQ := by
  unfold wp_L_does
  rw [if_neg (show ¬ (14 : Int32) = 0 by decide)]; rw [if_neg (show ¬ (14 : Int32) = 1 by decide)]; rw [if_neg (show ¬ (14 : Int32) = 2 by decide)]; rw [if_neg (show ¬ (14 : Int32) = 3 by decide)]; rw [if_neg (show ¬ (14 : Int32) = 4 by decide)]; rw [if_neg (show ¬ (14 : Int32) = 5 by decide)]; rw [if_neg (show ¬ (14 : Int32) = 6 by decide)]; rw [if_neg (show ¬ (14 : Int32) = 7 by decide)]; rw [if_neg (show ¬ (14 : Int32) = 8 by decide)]; rw [if_neg (show ¬ (14 : Int32) = 9 by decide)]; rw [if_neg (show ¬ (14 : Int32) = 10 by decide)]; rw [if_neg (show ¬ (14 : Int32) = 11 by decide)]; rw [if_neg (show ¬ (14 : Int32) = 12 by decide)]; rw [if_neg (show ¬ (14 : Int32) = 13 by decide)]; rw [if_pos rfl, if_neg hc]
  exact h
theorem ds_15 {a b c e : Int32} (h : okA S 8 x ∧ wp_X8_why S x a (fun r S1 => Q r S1) EQ) : wp_L_does S x 15 a b c e Q EQ := by
  unfold wp_L_does
  rw [if_neg (show ¬ (15 : Int32) = 0 by decide)]; rw [if_neg (show ¬ (15 : Int32) = 1 by decide)]; rw [if_neg (show ¬ (15 : Int32) = 2 by decide)]; rw [if_neg (show ¬ (15 : Int32) = 3 by decide)]; rw [if_neg (show ¬ (15 : Int32) = 4 by decide)]; rw [if_neg (show ¬ (15 : Int32) = 5 by decide)]; rw [if_neg (show ¬ (15 : Int32) = 6 by decide)]; rw [if_neg (show ¬ (15 : Int32) = 7 by decide)]; rw [if_neg (show ¬ (15 : Int32) = 8 by decide)]; rw [if_neg (show ¬ (15 : Int32) = 9 by decide)]; rw [if_neg (show ¬ (15 : Int32) = 10 by decide)]; rw [if_neg (show ¬ (15 : Int32) = 11 by decide)]; rw [if_neg (show ¬ (15 : Int32) = 12 by decide)]; rw [if_neg (show ¬ (15 : Int32) = 13 by decide)]; rw [if_neg (show ¬ (15 : Int32) = 14 by decide)]; rw [if_pos rfl]
  exact h
theorem ds_16 {a b c e : Int32} (h : okA S 8 x ∧ wp_X8_couldStaff S x a b c (fun r S1 => if r = 0 then Q 0 S1 else Q 1 S1) EQ) : wp_L_does S x 16 a b c e Q EQ := by
  unfold wp_L_does
  rw [if_neg (show ¬ (16 : Int32) = 0 by decide)]; rw [if_neg (show ¬ (16 : Int32) = 1 by decide)]; rw [if_neg (show ¬ (16 : Int32) = 2 by decide)]; rw [if_neg (show ¬ (16 : Int32) = 3 by decide)]; rw [if_neg (show ¬ (16 : Int32) = 4 by decide)]; rw [if_neg (show ¬ (16 : Int32) = 5 by decide)]; rw [if_neg (show ¬ (16 : Int32) = 6 by decide)]; rw [if_neg (show ¬ (16 : Int32) = 7 by decide)]; rw [if_neg (show ¬ (16 : Int32) = 8 by decide)]; rw [if_neg (show ¬ (16 : Int32) = 9 by decide)]; rw [if_neg (show ¬ (16 : Int32) = 10 by decide)]; rw [if_neg (show ¬ (16 : Int32) = 11 by decide)]; rw [if_neg (show ¬ (16 : Int32) = 12 by decide)]; rw [if_neg (show ¬ (16 : Int32) = 13 by decide)]; rw [if_neg (show ¬ (16 : Int32) = 14 by decide)]; rw [if_neg (show ¬ (16 : Int32) = 15 by decide)]; rw [if_pos rfl]
  exact h
theorem ds_17 {a b c e : Int32} (h : okA S 8 x ∧ wp_X8_boxes S x a b (fun r S1 => Q r S1) EQ) : wp_L_does S x 17 a b c e Q EQ := by
  unfold wp_L_does
  rw [if_neg (show ¬ (17 : Int32) = 0 by decide)]; rw [if_neg (show ¬ (17 : Int32) = 1 by decide)]; rw [if_neg (show ¬ (17 : Int32) = 2 by decide)]; rw [if_neg (show ¬ (17 : Int32) = 3 by decide)]; rw [if_neg (show ¬ (17 : Int32) = 4 by decide)]; rw [if_neg (show ¬ (17 : Int32) = 5 by decide)]; rw [if_neg (show ¬ (17 : Int32) = 6 by decide)]; rw [if_neg (show ¬ (17 : Int32) = 7 by decide)]; rw [if_neg (show ¬ (17 : Int32) = 8 by decide)]; rw [if_neg (show ¬ (17 : Int32) = 9 by decide)]; rw [if_neg (show ¬ (17 : Int32) = 10 by decide)]; rw [if_neg (show ¬ (17 : Int32) = 11 by decide)]; rw [if_neg (show ¬ (17 : Int32) = 12 by decide)]; rw [if_neg (show ¬ (17 : Int32) = 13 by decide)]; rw [if_neg (show ¬ (17 : Int32) = 14 by decide)]; rw [if_neg (show ¬ (17 : Int32) = 15 by decide)]; rw [if_neg (show ¬ (17 : Int32) = 16 by decide)]; rw [if_pos rfl]
  exact h
theorem ds_18 {a b c e : Int32} (h : okA S 8 x ∧ wp_X8_pay S x a b (fun r S1 => Q r S1) EQ) : wp_L_does S x 18 a b c e Q EQ := by
  unfold wp_L_does
  rw [if_neg (show ¬ (18 : Int32) = 0 by decide)]; rw [if_neg (show ¬ (18 : Int32) = 1 by decide)]; rw [if_neg (show ¬ (18 : Int32) = 2 by decide)]; rw [if_neg (show ¬ (18 : Int32) = 3 by decide)]; rw [if_neg (show ¬ (18 : Int32) = 4 by decide)]; rw [if_neg (show ¬ (18 : Int32) = 5 by decide)]; rw [if_neg (show ¬ (18 : Int32) = 6 by decide)]; rw [if_neg (show ¬ (18 : Int32) = 7 by decide)]; rw [if_neg (show ¬ (18 : Int32) = 8 by decide)]; rw [if_neg (show ¬ (18 : Int32) = 9 by decide)]; rw [if_neg (show ¬ (18 : Int32) = 10 by decide)]; rw [if_neg (show ¬ (18 : Int32) = 11 by decide)]; rw [if_neg (show ¬ (18 : Int32) = 12 by decide)]; rw [if_neg (show ¬ (18 : Int32) = 13 by decide)]; rw [if_neg (show ¬ (18 : Int32) = 14 by decide)]; rw [if_neg (show ¬ (18 : Int32) = 15 by decide)]; rw [if_neg (show ¬ (18 : Int32) = 16 by decide)]; rw [if_neg (show ¬ (18 : Int32) = 17 by decide)]; rw [if_pos rfl]
  exact h
theorem ds_19 {a b c e : Int32} (h : okA S 8 x ∧ wp_X8_owed S x a (fun r S1 => Q r S1) EQ) : wp_L_does S x 19 a b c e Q EQ := by
  unfold wp_L_does
  rw [if_neg (show ¬ (19 : Int32) = 0 by decide)]; rw [if_neg (show ¬ (19 : Int32) = 1 by decide)]; rw [if_neg (show ¬ (19 : Int32) = 2 by decide)]; rw [if_neg (show ¬ (19 : Int32) = 3 by decide)]; rw [if_neg (show ¬ (19 : Int32) = 4 by decide)]; rw [if_neg (show ¬ (19 : Int32) = 5 by decide)]; rw [if_neg (show ¬ (19 : Int32) = 6 by decide)]; rw [if_neg (show ¬ (19 : Int32) = 7 by decide)]; rw [if_neg (show ¬ (19 : Int32) = 8 by decide)]; rw [if_neg (show ¬ (19 : Int32) = 9 by decide)]; rw [if_neg (show ¬ (19 : Int32) = 10 by decide)]; rw [if_neg (show ¬ (19 : Int32) = 11 by decide)]; rw [if_neg (show ¬ (19 : Int32) = 12 by decide)]; rw [if_neg (show ¬ (19 : Int32) = 13 by decide)]; rw [if_neg (show ¬ (19 : Int32) = 14 by decide)]; rw [if_neg (show ¬ (19 : Int32) = 15 by decide)]; rw [if_neg (show ¬ (19 : Int32) = 16 by decide)]; rw [if_neg (show ¬ (19 : Int32) = 17 by decide)]; rw [if_neg (show ¬ (19 : Int32) = 18 by decide)]; rw [if_pos rfl]
  exact h
theorem ds_20 {a b c e : Int32} (h : okA S 8 x ∧ wp_X8_ofChild S x a b (fun r S1 => Q r S1) EQ) : wp_L_does S x 20 a b c e Q EQ := by
  unfold wp_L_does
  rw [if_neg (show ¬ (20 : Int32) = 0 by decide)]; rw [if_neg (show ¬ (20 : Int32) = 1 by decide)]; rw [if_neg (show ¬ (20 : Int32) = 2 by decide)]; rw [if_neg (show ¬ (20 : Int32) = 3 by decide)]; rw [if_neg (show ¬ (20 : Int32) = 4 by decide)]; rw [if_neg (show ¬ (20 : Int32) = 5 by decide)]; rw [if_neg (show ¬ (20 : Int32) = 6 by decide)]; rw [if_neg (show ¬ (20 : Int32) = 7 by decide)]; rw [if_neg (show ¬ (20 : Int32) = 8 by decide)]; rw [if_neg (show ¬ (20 : Int32) = 9 by decide)]; rw [if_neg (show ¬ (20 : Int32) = 10 by decide)]; rw [if_neg (show ¬ (20 : Int32) = 11 by decide)]; rw [if_neg (show ¬ (20 : Int32) = 12 by decide)]; rw [if_neg (show ¬ (20 : Int32) = 13 by decide)]; rw [if_neg (show ¬ (20 : Int32) = 14 by decide)]; rw [if_neg (show ¬ (20 : Int32) = 15 by decide)]; rw [if_neg (show ¬ (20 : Int32) = 16 by decide)]; rw [if_neg (show ¬ (20 : Int32) = 17 by decide)]; rw [if_neg (show ¬ (20 : Int32) = 18 by decide)]; rw [if_neg (show ¬ (20 : Int32) = 19 by decide)]; rw [if_pos rfl]
  exact h
theorem ds_21a {a b c e : Int32} (hc : b = 1) (h : okA S 8 x ∧ wp_X8_ofTroop S x a 1 (fun r S1 => Q r S1) EQ) : wp_L_does S x 21 a b c e Q EQ := by
  unfold wp_L_does
  rw [if_neg (show ¬ (21 : Int32) = 0 by decide)]; rw [if_neg (show ¬ (21 : Int32) = 1 by decide)]; rw [if_neg (show ¬ (21 : Int32) = 2 by decide)]; rw [if_neg (show ¬ (21 : Int32) = 3 by decide)]; rw [if_neg (show ¬ (21 : Int32) = 4 by decide)]; rw [if_neg (show ¬ (21 : Int32) = 5 by decide)]; rw [if_neg (show ¬ (21 : Int32) = 6 by decide)]; rw [if_neg (show ¬ (21 : Int32) = 7 by decide)]; rw [if_neg (show ¬ (21 : Int32) = 8 by decide)]; rw [if_neg (show ¬ (21 : Int32) = 9 by decide)]; rw [if_neg (show ¬ (21 : Int32) = 10 by decide)]; rw [if_neg (show ¬ (21 : Int32) = 11 by decide)]; rw [if_neg (show ¬ (21 : Int32) = 12 by decide)]; rw [if_neg (show ¬ (21 : Int32) = 13 by decide)]; rw [if_neg (show ¬ (21 : Int32) = 14 by decide)]; rw [if_neg (show ¬ (21 : Int32) = 15 by decide)]; rw [if_neg (show ¬ (21 : Int32) = 16 by decide)]; rw [if_neg (show ¬ (21 : Int32) = 17 by decide)]; rw [if_neg (show ¬ (21 : Int32) = 18 by decide)]; rw [if_neg (show ¬ (21 : Int32) = 19 by decide)]; rw [if_neg (show ¬ (21 : Int32) = 20 by decide)]; rw [if_pos rfl, if_pos hc]
  exact h
theorem ds_21b {a b c e : Int32} (hc : ¬ b = 1) (h : okA S 8 x ∧ wp_X8_ofTroop S x a 0 (fun r S1 => Q r S1) EQ) : wp_L_does S x 21 a b c e Q EQ := by
  unfold wp_L_does
  rw [if_neg (show ¬ (21 : Int32) = 0 by decide)]; rw [if_neg (show ¬ (21 : Int32) = 1 by decide)]; rw [if_neg (show ¬ (21 : Int32) = 2 by decide)]; rw [if_neg (show ¬ (21 : Int32) = 3 by decide)]; rw [if_neg (show ¬ (21 : Int32) = 4 by decide)]; rw [if_neg (show ¬ (21 : Int32) = 5 by decide)]; rw [if_neg (show ¬ (21 : Int32) = 6 by decide)]; rw [if_neg (show ¬ (21 : Int32) = 7 by decide)]; rw [if_neg (show ¬ (21 : Int32) = 8 by decide)]; rw [if_neg (show ¬ (21 : Int32) = 9 by decide)]; rw [if_neg (show ¬ (21 : Int32) = 10 by decide)]; rw [if_neg (show ¬ (21 : Int32) = 11 by decide)]; rw [if_neg (show ¬ (21 : Int32) = 12 by decide)]; rw [if_neg (show ¬ (21 : Int32) = 13 by decide)]; rw [if_neg (show ¬ (21 : Int32) = 14 by decide)]; rw [if_neg (show ¬ (21 : Int32) = 15 by decide)]; rw [if_neg (show ¬ (21 : Int32) = 16 by decide)]; rw [if_neg (show ¬ (21 : Int32) = 17 by decide)]; rw [if_neg (show ¬ (21 : Int32) = 18 by decide)]; rw [if_neg (show ¬ (21 : Int32) = 19 by decide)]; rw [if_neg (show ¬ (21 : Int32) = 20 by decide)]; rw [if_pos rfl, if_neg hc]
  exact h
theorem ds_22 {a b c e : Int32} (h : okA S 8 x ∧ wp_X8_earned S x a b (fun r S1 => Q r S1) EQ) : wp_L_does S x 22 a b c e Q EQ := by
  unfold wp_L_does
  rw [if_neg (show ¬ (22 : Int32) = 0 by decide)]; rw [if_neg (show ¬ (22 : Int32) = 1 by decide)]; rw [if_neg (show ¬ (22 : Int32) = 2 by decide)]; rw [if_neg (show ¬ (22 : Int32) = 3 by decide)]; rw [if_neg (show ¬ (22 : Int32) = 4 by decide)]; rw [if_neg (show ¬ (22 : Int32) = 5 by decide)]; rw [if_neg (show ¬ (22 : Int32) = 6 by decide)]; rw [if_neg (show ¬ (22 : Int32) = 7 by decide)]; rw [if_neg (show ¬ (22 : Int32) = 8 by decide)]; rw [if_neg (show ¬ (22 : Int32) = 9 by decide)]; rw [if_neg (show ¬ (22 : Int32) = 10 by decide)]; rw [if_neg (show ¬ (22 : Int32) = 11 by decide)]; rw [if_neg (show ¬ (22 : Int32) = 12 by decide)]; rw [if_neg (show ¬ (22 : Int32) = 13 by decide)]; rw [if_neg (show ¬ (22 : Int32) = 14 by decide)]; rw [if_neg (show ¬ (22 : Int32) = 15 by decide)]; rw [if_neg (show ¬ (22 : Int32) = 16 by decide)]; rw [if_neg (show ¬ (22 : Int32) = 17 by decide)]; rw [if_neg (show ¬ (22 : Int32) = 18 by decide)]; rw [if_neg (show ¬ (22 : Int32) = 19 by decide)]; rw [if_neg (show ¬ (22 : Int32) = 20 by decide)]; rw [if_neg (show ¬ (22 : Int32) = 21 by decide)]; rw [if_pos rfl]
  exact h
theorem ds_23 {a b c e : Int32} (h : okA S 8 x ∧ wp_X8_holds S x a b (fun r S1 => if r = 0 then Q 0 S1 else Q 1 S1) EQ) : wp_L_does S x 23 a b c e Q EQ := by
  unfold wp_L_does
  rw [if_neg (show ¬ (23 : Int32) = 0 by decide)]; rw [if_neg (show ¬ (23 : Int32) = 1 by decide)]; rw [if_neg (show ¬ (23 : Int32) = 2 by decide)]; rw [if_neg (show ¬ (23 : Int32) = 3 by decide)]; rw [if_neg (show ¬ (23 : Int32) = 4 by decide)]; rw [if_neg (show ¬ (23 : Int32) = 5 by decide)]; rw [if_neg (show ¬ (23 : Int32) = 6 by decide)]; rw [if_neg (show ¬ (23 : Int32) = 7 by decide)]; rw [if_neg (show ¬ (23 : Int32) = 8 by decide)]; rw [if_neg (show ¬ (23 : Int32) = 9 by decide)]; rw [if_neg (show ¬ (23 : Int32) = 10 by decide)]; rw [if_neg (show ¬ (23 : Int32) = 11 by decide)]; rw [if_neg (show ¬ (23 : Int32) = 12 by decide)]; rw [if_neg (show ¬ (23 : Int32) = 13 by decide)]; rw [if_neg (show ¬ (23 : Int32) = 14 by decide)]; rw [if_neg (show ¬ (23 : Int32) = 15 by decide)]; rw [if_neg (show ¬ (23 : Int32) = 16 by decide)]; rw [if_neg (show ¬ (23 : Int32) = 17 by decide)]; rw [if_neg (show ¬ (23 : Int32) = 18 by decide)]; rw [if_neg (show ¬ (23 : Int32) = 19 by decide)]; rw [if_neg (show ¬ (23 : Int32) = 20 by decide)]; rw [if_neg (show ¬ (23 : Int32) = 21 by decide)]; rw [if_neg (show ¬ (23 : Int32) = 22 by decide)]; rw [if_pos rfl]
  exact h
theorem ds_24 {a b c e : Int32} (h : okA S 8 x ∧ wp_X8_lacks S x a b (fun r S1 => Q r S1) EQ) : wp_L_does S x 24 a b c e Q EQ := by
  unfold wp_L_does
  rw [if_neg (show ¬ (24 : Int32) = 0 by decide)]; rw [if_neg (show ¬ (24 : Int32) = 1 by decide)]; rw [if_neg (show ¬ (24 : Int32) = 2 by decide)]; rw [if_neg (show ¬ (24 : Int32) = 3 by decide)]; rw [if_neg (show ¬ (24 : Int32) = 4 by decide)]; rw [if_neg (show ¬ (24 : Int32) = 5 by decide)]; rw [if_neg (show ¬ (24 : Int32) = 6 by decide)]; rw [if_neg (show ¬ (24 : Int32) = 7 by decide)]; rw [if_neg (show ¬ (24 : Int32) = 8 by decide)]; rw [if_neg (show ¬ (24 : Int32) = 9 by decide)]; rw [if_neg (show ¬ (24 : Int32) = 10 by decide)]; rw [if_neg (show ¬ (24 : Int32) = 11 by decide)]; rw [if_neg (show ¬ (24 : Int32) = 12 by decide)]; rw [if_neg (show ¬ (24 : Int32) = 13 by decide)]; rw [if_neg (show ¬ (24 : Int32) = 14 by decide)]; rw [if_neg (show ¬ (24 : Int32) = 15 by decide)]; rw [if_neg (show ¬ (24 : Int32) = 16 by decide)]; rw [if_neg (show ¬ (24 : Int32) = 17 by decide)]; rw [if_neg (show ¬ (24 : Int32) = 18 by decide)]; rw [if_neg (show ¬ (24 : Int32) = 19 by decide)]; rw [if_neg (show ¬ (24 : Int32) = 20 by decide)]; rw [if_neg (show ¬ (24 : Int32) = 21 by decide)]; rw [if_neg (show ¬ (24 : Int32) = 22 by decide)]; rw [if_neg (show ¬ (24 : Int32) = 23 by decide)]; skip
  exact h
theorem h46 : 4 ≤ 6 := by decide
theorem iv_N (h : JV n nL nE d D F) : n ≤ 24 ∧ nL ≤ 8 ∧ nE ≤ 20 ∧ d < 10000 ∧ D 0 = nI d := ⟨h.1.1.1.1.1, h.1.1.1.1.2.2.1, h.1.1.1.1.2.2.2.1, h.1.1.1.1.2.2.2.2, h.1.1.1.2.2.2.2.2⟩
/-! reading -/
theorem oc0 {i : Nat} (h : RS S x (n, 4, nL, nE, D, F)) (hI : JV n nL nE d D F) (hi : i < n) (hQ : Q (F 6 i) S) : wp_X8_ofChild S x (nI i) 0 Q EQ := by
  obtain ⟨A, h⟩ := h
  obtain ⟨n24, -, -, d4, gd⟩ := iv_N hI
  exact c8_ofChild h n24 hi gd d4 (fun _ => hQ) (fun e => absurd e (by decide)) (fun e => absurd e (by decide)) (fun e => absurd e (by decide)) (fun e => absurd e (by decide)) (fun e => absurd e (by decide)) (fun e => absurd rfl e)
theorem oc1 {i : Nat} (h : RS S x (n, 4, nL, nE, D, F)) (hI : JV n nL nE d D F) (hi : i < n) (hQ : Q (F 7 i) S) : wp_X8_ofChild S x (nI i) 1 Q EQ := by
  obtain ⟨A, h⟩ := h
  obtain ⟨n24, -, -, d4, gd⟩ := iv_N hI
  exact c8_ofChild h n24 hi gd d4 (fun e => absurd e (by decide)) (fun _ => hQ) (fun e => absurd e (by decide)) (fun e => absurd e (by decide)) (fun e => absurd e (by decide)) (fun e => absurd e (by decide)) (fun _ e => absurd rfl e)
theorem oc2 {i : Nat} (h : RS S x (n, 4, nL, nE, D, F)) (hI : JV n nL nE d D F) (hi : i < n) (hQ : Q (F 8 i) S) : wp_X8_ofChild S x (nI i) 2 Q EQ := by
  obtain ⟨A, h⟩ := h
  obtain ⟨n24, -, -, d4, gd⟩ := iv_N hI
  exact c8_ofChild h n24 hi gd d4 (fun e => absurd e (by decide)) (fun e => absurd e (by decide)) (fun _ => hQ) (fun e => absurd e (by decide)) (fun e => absurd e (by decide)) (fun e => absurd e (by decide)) (fun _ _ e => absurd rfl e)
theorem oc3 {i : Nat} (h : RS S x (n, 4, nL, nE, D, F)) (hI : JV n nL nE d D F) (hi : i < n) (hQ : Q (F 11 i) S) : wp_X8_ofChild S x (nI i) 3 Q EQ := by
  obtain ⟨A, h⟩ := h
  obtain ⟨n24, -, -, d4, gd⟩ := iv_N hI
  exact c8_ofChild h n24 hi gd d4 (fun e => absurd e (by decide)) (fun e => absurd e (by decide)) (fun e => absurd e (by decide)) (fun _ => hQ) (fun e => absurd e (by decide)) (fun e => absurd e (by decide)) (fun _ _ _ e => absurd rfl e)
theorem oc4 {i : Nat} (h : RS S x (n, 4, nL, nE, D, F)) (hI : JV n nL nE d D F) (hi : i < n) (hQ : Q (nI (eaN F i d 8)) S) : wp_X8_ofChild S x (nI i) 4 Q EQ := by
  obtain ⟨A, h⟩ := h
  obtain ⟨n24, -, -, d4, gd⟩ := iv_N hI
  exact c8_ofChild h n24 hi gd d4 (fun e => absurd e (by decide)) (fun e => absurd e (by decide)) (fun e => absurd e (by decide)) (fun e => absurd e (by decide)) (fun _ => hQ) (fun e => absurd e (by decide)) (fun _ _ _ _ e => absurd rfl e)
theorem oc5 {i : Nat} (h : RS S x (n, 4, nL, nE, D, F)) (hI : JV n nL nE d D F) (hi : i < n) (hQ : Q (F 12 i) S) : wp_X8_ofChild S x (nI i) 5 Q EQ := by
  obtain ⟨A, h⟩ := h
  obtain ⟨n24, -, -, d4, gd⟩ := iv_N hI
  exact c8_ofChild h n24 hi gd d4 (fun e => absurd e (by decide)) (fun e => absurd e (by decide)) (fun e => absurd e (by decide)) (fun e => absurd e (by decide)) (fun e => absurd e (by decide)) (fun _ => hQ) (fun _ _ _ _ _ e => absurd rfl e)
theorem ot0 {t : Nat} (h : RS S x (n, 4, nL, nE, D, F)) (hI : JV n nL nE d D F) (ht : t < 4) (hQ : Q (nI (inT F n (nI t))) S) : wp_X8_ofTroop S x (nI t) 0 Q EQ := by
  obtain ⟨A, h⟩ := h
  exact c8_ofTroop0 h (iv_N hI).1 h46 ht (by rw [if_pos rfl]; exact hQ)
theorem ot1 {t : Nat} (h : RS S x (n, 4, nL, nE, D, F)) (hI : JV n nL nE d D F) (ht : t < 4) (hQ : Q (nI (waT F n (nI t))) S) : wp_X8_ofTroop S x (nI t) 1 Q EQ := by
  obtain ⟨A, h⟩ := h
  exact c8_ofTroop0 h (iv_N hI).1 h46 ht (by rw [if_neg (by decide)]; exact hQ)
theorem erd {i b : Nat} (h : RS S x (n, 4, nL, nE, D, F)) (hI : JV n nL nE d D F) (hi : i < n) (hb : b < 8) (hQ : Q (if dyT F i 8 b ≤ d then nI (dyT F i 8 b) else -1) S) : wp_X8_earned S x (nI i) (nI b) Q EQ := by
  obtain ⟨A, h⟩ := h
  obtain ⟨n24, -, -, d4, gd⟩ := iv_N hI
  exact c8_earned h n24 hi hb gd d4 hQ
theorem hld {i b : Nat} (h : RS S x (n, 4, nL, nE, D, F)) (hI : JV n nL nE d D F) (hi : i < n) (hb : b < 8) (hQ : Q (bI (hoB F i b d)) S) : wp_X8_holds S x (nI i) (nI b) Q EQ := by
  obtain ⟨A, h⟩ := h
  obtain ⟨n24, -, -, d4, gd⟩ := iv_N hI
  exact c8_holds h n24 hi hb gd d4 (fw_co hI.1 hi) (fw_ed hI.1 hi b hb) hQ
theorem wm_pos (h : W_M F n) {i : Nat} (hi : i < n) : ¬ F 12 i < 0 := by
  obtain ⟨tk, ow, -, e, h1, h2⟩ := h i hi
  rw [e]
  exact nI_pos (by omega)
theorem owd {t : Nat} (h : RS S x (n, 4, nL, nE, D, F)) (hI : JV n nL nE d D F) (ht : t < 4) (hQ : Q (owS F (nI t) n) S) : wp_X8_owed S x (nI t) Q EQ := by
  obtain ⟨A, h⟩ := h
  exact c8_owed0 h (iv_N hI).1 h46 ht (fun i hi => wm_pos hI.1.1.2.2.2.1 hi) hQ
theorem dut {t e : Nat} (h : RS S x (n, 4, nL, nE, D, F)) (hI : JV n nL nE d D F) (ht : t < 4) (he : e < 10000) (hQ : Q (if fiP F n (nI t) 4 = 0 then -1 else duP F n (nI t) (e % fiP F n (nI t) 4) 4) S) : wp_X8_duty S x (nI t) (nI e) Q EQ := by
  obtain ⟨A, h⟩ := h
  exact c8_duty0 h (iv_N hI).1 h46 ht he hQ
theorem whd {e : Nat} (h : RS S x (n, 4, nL, nE, D, F)) (hI : JV n nL nE d D F) (he : e < nE) (hQ : ∀ S', RS S' x (n, 4, nL, nE, D, F) → Q (rsn F n nL e (sN F e)) S') : wp_X8_why S x (nI e) Q EQ := by
  obtain ⟨A, h⟩ := h
  obtain ⟨n24, l8, e20, d4, gd⟩ := iv_N hI
  obtain ⟨⟨-, -, -, -, -, -, -, -, hWV, hSN, -⟩, hWS, -⟩ := hI.1
  obtain ⟨v1, v3, -⟩ := hWV e he
  exact c8_why0 h n24 l8 e20 he v1 v3 (hSN e he).1 (hWS e he) (fun S' h' => hQ S' ⟨A, h'⟩)
theorem tdd {Q : Int32 → Hp → Prop} (h : RS S x (n, 4, nL, nE, D, F)) (hI : JV n nL nE d D F) (hQ : Q (nI d) S) : wp_X8_today S x Q := by
  obtain ⟨A, h⟩ := h
  exact c8_today h (by show Q (D 0) S; rw [(iv_N hI).2.2.2.2]; exact hQ)
theorem rs_ok {σ : Sg} (h : RS S x σ) : okA S 8 x := by
  obtain ⟨A, h⟩ := h
  exact h.1.1
/-! steps -/
theorem do_child {a b c e : Int32} (hI : JV n nL nE d D F) (ha : ¬ (a < 5 ∨ 17 < a)) : (n = 24 ∧ Do 1 a b c e (n, 4, nL, nE, D, F) (-2000000003) (n, 4, nL, nE, D, F)) ∨ (n < 24 ∧ Do 1 a b c e (n, 4, nL, nE, D, F) (nI n) (n + 1, 4, nL, nE, upD D 5 (nI (n + 1)), chN F n a)) := by
  obtain ⟨n24, l8, e20, d4, gd⟩ := iv_N hI
  by_cases hn : n = 24
  · refine Or.inl ⟨hn, fun S x Q h hQ => call_of (ds_1 ?_)⟩
    have h1 := h
    obtain ⟨A, h⟩ := h
    exact ⟨h.1.1, c8_child2 h ha hn (he_N (hQ S h1))⟩
  · refine Or.inr ⟨by omega, fun S x Q h hQ => call_of (ds_1 ?_)⟩
    obtain ⟨A, h⟩ := h
    obtain ⟨z12, z14, z16, z17⟩ := hI.1.1.2.2.2.2.2.2.2.2.2.2.1 n (Nat.le_refl n) (by omega)
    exact ⟨h.1.1, c8_child0 h ha (show n < 24 by omega) z12 z14 z16 (fun b hb => (z17 b hb).1) (fun S' A' h' => hQ S' ⟨A', cs_D h' rfl rfl⟩)⟩
theorem do_join {i t : Nat} {c e : Int32} (hI : JV n nL nE d D F) (hi : i < n) (ht : t < 4) :
    (¬ (F 7 i = -1 ∧ F 8 i = -1 ∧ fo F t i) ∧ Do 2 (nI i) (nI t) c e (n, 4, nL, nE, D, F) (-2000000003) (n, 4, nL, nE, D, F)) ∨
    (F 7 i = -1 ∧ F 8 i = -1 ∧ inT F n (nI t) < 1 + t % 3 ∧ Do 2 (nI i) (nI t) c e (n, 4, nL, nE, D, F) 0 (n, 4, nL, nE, D, cIn F n i (nI t))) ∨
    (F 7 i = -1 ∧ F 8 i = -1 ∧ ¬ inT F n (nI t) < 1 + t % 3 ∧ Do 2 (nI i) (nI t) c e (n, 4, nL, nE, D, F) (nI (waT (joW D F i t) n (nI t))) (n, 4, nL, nE, upD D 10 (D 10 + 1), joW D F i t)) := by
  obtain ⟨n24, l8, e20, d4, gd⟩ := iv_N hI
  have hr := (hI.2.2.1 t ht).1
  have hle := inT_le F n (nI t)
  have hm : t % 3 < 3 := Nat.mod_lt _ (by decide)
  by_cases hg : F 7 i = -1 ∧ F 8 i = -1 ∧ fo F t i
  · obtain ⟨g7, g8, g9⟩ := hg
    have hc : (nI (inT F n (nI t)) < F 4 t) ↔ inT F n (nI t) < 1 + t % 3 := by
      rw [hr, i_lt, nI_toInt (by omega), nI_toInt (by omega)]
      omega
    by_cases hlt : inT F n (nI t) < 1 + t % 3
    · refine Or.inr (Or.inl ⟨g7, g8, hlt, fun S x Q h hQ => call_of (ds_2 ?_)⟩)
      obtain ⟨A, h⟩ := h
      exact ⟨h.1.1, c8_joinT h n24 hi h46 ht g7 g8 g9 (c8_comeOrWait h n24 hi ht (fun _ S' h' => hQ S' ⟨A, h'⟩) (fun c9 => absurd (hc.mpr hlt) c9))⟩
    · refine Or.inr (Or.inr ⟨g7, g8, hlt, fun S x Q h hQ => call_of (ds_2 ?_)⟩)
      obtain ⟨A, h⟩ := h
      exact ⟨h.1.1, c8_joinT h n24 hi h46 ht g7 g8 g9 (c8_comeOrWait h n24 hi ht (fun c9 => absurd (hc.mp c9) hlt) (fun _ S' h' => hQ S' ⟨A, h'⟩))⟩
  · refine Or.inl ⟨hg, fun S x Q h hQ => call_of (ds_2 ?_)⟩
    have h1 := h
    obtain ⟨A, h⟩ := h
    exact ⟨h.1.1, c8_join2 h n24 hi h46 ht hg (he_N (hQ S h1))⟩
theorem do_leave {i : Nat} {b c e : Int32} (hI : JV n nL nE d D F) (hi : i < n) :
    (F 7 i = -1 ∧ F 8 i = -1 ∧ Do 3 (nI i) b c e (n, 4, nL, nE, D, F) (-2000000003) (n, 4, nL, nE, D, F)) ∨
    (F 7 i = -1 ∧ ¬ F 8 i = -1 ∧ Do 3 (nI i) b c e (n, 4, nL, nE, D, F) (-1) (n, 4, nL, nE, D, wOut F i)) ∨
    (∃ t, t < 4 ∧ F 7 i = nI t ∧ fiW (wOut F i) (nI t) n = none ∧ Do 3 (nI i) b c e (n, 4, nL, nE, D, F) (-1) (n, 4, nL, nE, D, wOut F i)) ∨
    (∃ t f, t < 4 ∧ F 7 i = nI t ∧ fiW (wOut F i) (nI t) n = some f ∧ Do 3 (nI i) b c e (n, 4, nL, nE, D, F) (nI f) (n, 4, nL, nE, D, cIn (wOut F i) n f (nI t))) := by
  obtain ⟨n24, l8, e20, d4, gd⟩ := iv_N hI
  by_cases g7 : F 7 i = -1
  · by_cases g8 : F 8 i = -1
    · refine Or.inl ⟨g7, g8, fun S x Q h hQ => call_of (ds_3 ?_)⟩
      have h1 := h
      obtain ⟨A, h⟩ := h
      exact ⟨h.1.1, c8_leave2 h n24 hi g7 g8 (he_N (hQ S h1))⟩
    · refine Or.inr (Or.inl ⟨g7, g8, fun S x Q h hQ => call_of (ds_3 ?_)⟩)
      obtain ⟨A, h⟩ := h
      exact ⟨h.1.1, c8_leave3 h n24 hi g7 g8 (fun S' h' => hQ S' ⟨A, h'⟩)⟩
  · obtain ⟨t, ht, et⟩ := (hI.1.1.2.1 i hi).1.resolve_left g7
    refine Or.inr (Or.inr ?_)
    cases hf : fiW (wOut F i) (nI t) n with
    | none =>
      refine Or.inl ⟨t, ht, et, hf, fun S x Q h hQ => call_of (ds_3 ?_)⟩
      obtain ⟨A, h⟩ := h
      refine ⟨h.1.1, c8_leave4 h n24 hi g7 (fun _ S' h' => hQ S' ⟨A, h'⟩) (fun f hf2 => ?_)⟩
      have hf3 : fiW (wOut F i) (F 7 i) n = some f := hf2
      rw [et, hf] at hf3
      exact absurd hf3 (by simp)
    | some f =>
      refine Or.inr ⟨t, f, ht, et, hf, fun S x Q h hQ => call_of (ds_3 ?_)⟩
      obtain ⟨A, h⟩ := h
      refine ⟨h.1.1, c8_leave4 h n24 hi g7 (fun hf2 => ?_) (fun g hf2 S' h' => ?_)⟩
      · have hf3 : fiW (wOut F i) (F 7 i) n = none := hf2
        rw [et, hf] at hf3
        exact absurd hf3 (by simp)
      · have hf3 : fiW (wOut F i) (F 7 i) n = some g := hf2
        rw [et, hf] at hf3
        have e1 : f = g := Option.some.inj hf3
        subst e1
        have h2 : CS S' x A n 4 nL nE D (cIn (wOut F i) n f (F 7 i)) := h'
        rw [et] at h2
        exact hQ S' ⟨A, h2⟩
theorem do_patrol {i p : Nat} {c e : Int32} (hI : JV n nL nE d D F) (hi : i < n) (hp : p < 4) :
    (F 7 i = -1 ∧ Do 4 (nI i) (nI p) c e (n, 4, nL, nE, D, F) (-2000000003) (n, 4, nL, nE, D, F)) ∨
    (¬ F 7 i = -1 ∧ Do 4 (nI i) (nI p) c e (n, 4, nL, nE, D, F) (F 11 i) (n, 4, nL, nE, D, g_2 F 11 i (nI p))) := by
  obtain ⟨n24, l8, e20, d4, gd⟩ := iv_N hI
  have hv : ¬ (nI p < 0 ∨ 3 < nI p) := rng (N := 3) (by omega) (by decide)
  by_cases g7 : F 7 i = -1
  · refine Or.inl ⟨g7, fun S x Q h hQ => call_of (ds_4 ?_)⟩
    have h1 := h
    obtain ⟨A, h⟩ := h
    exact ⟨h.1.1, c8_patrol3 h n24 hi hv g7 (he_N (hQ S h1))⟩
  · refine Or.inr ⟨g7, fun S x Q h hQ => call_of (ds_4 ?_)⟩
    obtain ⟨A, h⟩ := h
    exact ⟨h.1.1, c8_patrol0 h n24 hi hv g7 (fun S' h' => hQ S' ⟨A, h'⟩)⟩
theorem do_pass {a b c e : Int32} (hI : JV n nL nE d D F) (ha : ¬ (a < 1 ∨ 400 < a)) :
    (¬ nI d + a ≤ 9999 ∧ Do 6 a b c e (n, 4, nL, nE, D, F) (-2000000003) (n, 4, nL, nE, D, F)) ∨
    (nI d + a ≤ 9999 ∧ Do 6 a b c e (n, 4, nL, nE, D, F) (nI d + a) (n, 4, nL, nE, upD D 0 (nI d + a), F)) := by
  obtain ⟨n24, l8, e20, d4, gd⟩ := iv_N hI
  by_cases hc : nI d + a ≤ 9999
  · refine Or.inr ⟨hc, fun S x Q h hQ => call_of (ds_6 ?_)⟩
    obtain ⟨A, h⟩ := h
    refine ⟨h.1.1, c8_pass0 (D := D) h ha (by rw [gd]; exact hc) (fun S' h' => ?_)⟩
    rw [gd] at h' ⊢
    exact hQ S' ⟨A, h'⟩
  · refine Or.inl ⟨hc, fun S x Q h hQ => call_of (ds_6 ?_)⟩
    have h1 := h
    obtain ⟨A, h⟩ := h
    exact ⟨h.1.1, c8_pass2 (D := D) h ha (by rw [gd]; exact hc) (he_N (hQ S h1))⟩
theorem do_season {a b c e : Int32} (hI : JV n nL nE d D F) : Do 7 a b c e (n, 4, nL, nE, D, F) (nI (ct (lfB F) n)) (n, 4, nL, nE, seaD D F n 4, seaF D F n 4) := fun S x Q h hQ => call_of (ds_7 (by
  obtain ⟨A, h⟩ := h
  exact ⟨h.1.1, c8_season h (iv_N hI).1 h46 hI.1.1.2.1 hI.1.1.2.2.1 (fun S' h' => hQ S' ⟨A, h'⟩)⟩))
theorem do_leader {a b c e : Int32} (hI : JV n nL nE d D F) :
    (nL = 8 ∧ Do 8 a b c e (n, 4, nL, nE, D, F) (-2000000003) (n, 4, nL, nE, D, F)) ∨
    (nL < 8 ∧ Do 8 a b c e (n, 4, nL, nE, D, F) (nI nL) (n, 4, nL + 1, nE, upD D 19 (nI (nL + 1)), F)) := by
  obtain ⟨n24, l8, e20, d4, gd⟩ := iv_N hI
  by_cases h8 : nL = 8
  · refine Or.inl ⟨h8, fun S x Q h hQ => call_of (ds_8 ?_)⟩
    have h1 := h
    obtain ⟨A, h⟩ := h
    exact ⟨h.1.1, c8_leader1 h h8 (he_N (hQ S h1))⟩
  · refine Or.inr ⟨by omega, fun S x Q h hQ => call_of (ds_8 ?_)⟩
    obtain ⟨A, h⟩ := h
    obtain ⟨z1, z2⟩ := hI.1.1.2.2.2.2.2.2.2.2.2.2.2.1 nL (Nat.le_refl nL) (by omega)
    exact ⟨h.1.1, c8_leader0 h n24 (show nL < 8 by omega) z2 z1 (fun S' A' h' => hQ S' ⟨A', cs_D h' rfl rfl⟩)⟩
theorem do_vet {l k : Nat} {a b : Int32} (hI : JV n nL nE d D F) (hl : l < nL) (hk : k < 3) (h1 : ¬ (a < 0 ∨ 9999 < a)) (h2 : ¬ (b < a ∨ 9999 < b)) : Do 9 (nI l) (nI k) a b (n, 4, nL, nE, D, F) 0 (n, 4, nL, nE, D, vetF F l k a b) := fun S x Q h hQ => call_of (ds_9 (by
  obtain ⟨A, h⟩ := h
  obtain ⟨n24, l8, e20, d4, gd⟩ := iv_N hI
  exact ⟨h.1.1, c8_vet0 h n24 l8 hl hk h1 h2 (fun S' h' => hQ S' ⟨A, h'⟩)⟩))
theorem do_permit {l k : Nat} {c e : Int32} (hI : JV n nL nE d D F) (hl : l < nL) (hk : k < 3) (h2 : ¬ (c < -1 ∨ 9999 < c)) : Do 10 (nI l) (nI (k + 1)) c e (n, 4, nL, nE, D, F) (F 21 (3 * l + k)) (n, 4, nL, nE, D, g_2 F 21 (3 * l + k) c) := fun S x Q h hQ => call_of (ds_10 (by
  obtain ⟨A, h⟩ := h
  obtain ⟨n24, l8, e20, d4, gd⟩ := iv_N hI
  exact ⟨h.1.1, c8_permit0 h n24 l8 hl hk h2 (fun S' h' => hQ S' ⟨A, h'⟩)⟩))
theorem do_teach {l : Nat} {b c e : Int32} (hI : JV n nL nE d D F) (hl : l < nL) (h2 : ¬ (b < 0 ∨ 65535 < b)) : Do 11 (nI l) b c e (n, 4, nL, nE, D, F) (F 22 l) (n, 4, nL, nE, D, g_2 F 22 l b) := fun S x Q h hQ => call_of (ds_11 (by
  obtain ⟨A, h⟩ := h
  obtain ⟨n24, l8, e20, d4, gd⟩ := iv_N hI
  exact ⟨h.1.1, c8_teach0 h l8 hl h2 (fun S' h' => hQ S' ⟨A, h'⟩)⟩))
theorem do_begin {i b : Nat} {c e : Int32} (hI : JV n nL nE d D F) (hi : i < n) (hb : b < 8) :
    ((F 23 b = 0 ∨ ¬ F 17 (8 * i + b) = -1) ∧ Do 12 (nI i) (nI b) c e (n, 4, nL, nE, D, F) (-2000000003) (n, 4, nL, nE, D, F)) ∨
    (∃ v, v < 3 ∧ F 23 b = nI (v + 1) ∧ F 17 (8 * i + b) = -1 ∧ Do 12 (nI i) (nI b) c e (n, 4, nL, nE, D, F) (nI v) (n, 4, nL, nE, D, begF D F i b v)) := by
  obtain ⟨n24, l8, e20, d4, gd⟩ := iv_N hI
  have hWE := hI.1.1.2.2.2.2.2.2.1
  by_cases hw : F 23 b = 0 ∨ ¬ F 17 (8 * i + b) = -1
  · refine Or.inl ⟨hw, fun S x Q h hQ => call_of (ds_12 ?_)⟩
    have h1 := h
    obtain ⟨A, h⟩ := h
    exact ⟨h.1.1, c8_begin2 h n24 hi hb (hWE b hb).1 hw (he_N (hQ S h1))⟩
  · have h23 : ¬ F 23 b = 0 := fun w => hw (Or.inl w)
    have h17 : F 17 (8 * i + b) = -1 := by
      by_cases z : F 17 (8 * i + b) = -1
      · exact z
      · exact absurd (Or.inr z) hw
    obtain ⟨v, hv, ee⟩ := (hWE b hb).1
    have he0 : v ≠ 0 := fun z => h23 (by rw [ee, z]; rfl)
    obtain ⟨w, rfl⟩ : ∃ w, v = w + 1 := ⟨v - 1, by omega⟩
    have hW' := fw_begin (b := b) hI.1 hi hb ee (by omega)
    refine Or.inr ⟨w, by omega, ee, h17, fun S x Q h hQ => call_of (ds_12 ?_)⟩
    obtain ⟨A, h⟩ := h
    exact ⟨h.1.1, c8_begin0 (D := D) h n24 hi hb ee (by omega) gd d4 h17 (fw_pr hI.1 hi) (fw_co hW' hi) (fw_ed hI.1 hi) (fun S' A' h' => hQ S' ⟨A', h'⟩)⟩
theorem do_prove {i k l : Nat} {e : Int32} (hI : JV n nL nE d D F) (hi : i < n) (hk : k < 16) (hl : l < nL) :
    (¬ (anB (fun a => veB F l a (D 0)) 3 = true ∧ (F 22 l).toNatClampNeg.testBit k = true ∧ F 16 (16 * i + k) = -1) ∧ Do 13 (nI i) (nI k) (nI l) e (n, 4, nL, nE, D, F) (-2000000003) (n, 4, nL, nE, D, F)) ∨
    (F 16 (16 * i + k) = -1 ∧ Do 13 (nI i) (nI k) (nI l) e (n, 4, nL, nE, D, F) (nI (eaN (g_2 F 16 (16 * i + k) (D 0)) i d 8)) (n, 4, nL, nE, D, g_2 F 16 (16 * i + k) (D 0))) := by
  obtain ⟨n24, l8, e20, d4, gd⟩ := iv_N hI
  have hWL := hI.1.1.2.2.2.2.2.2.2.1
  have hWP := hI.1.1.2.2.2.2.1
  by_cases hw : anB (fun a => veB F l a (D 0)) 3 = true ∧ (F 22 l).toNatClampNeg.testBit k = true ∧ F 16 (16 * i + k) = -1
  · refine Or.inr ⟨hw.2.2, fun S x Q h hQ => call_of (ds_13 ?_)⟩
    obtain ⟨A, h⟩ := h
    exact ⟨h.1.1, c8_prove (D := D) h n24 hi hk l8 hl gd d4 (hWL l hl) (hWP i hi) (fw_co hI.1 hi) (fw_ed hI.1 hi) (fun hno => absurd hw hno) (fun _ _ _ S' h' => hQ S' ⟨A, h'⟩)⟩
  · refine Or.inl ⟨hw, fun S x Q h hQ => call_of (ds_13 ?_)⟩
    have h1 := h
    obtain ⟨A, h⟩ := h
    exact ⟨h.1.1, c8_prove (D := D) h n24 hi hk l8 hl gd d4 (hWL l hl) (hWP i hi) (fw_co hI.1 hi) (fw_ed hI.1 hi) (fun _ => he_N (hQ S h1)) (fun v1 v2 v3 => absurd ⟨v1, v2, v3⟩ hw)⟩
theorem do_proveO {i l : Nat} {b e : Int32} (hI : JV n nL nE d D F) (hb : ¬ (b < 0 ∨ 15 < b)) (hv : n ≤ i ∧ i < 100 ∨ nL ≤ l ∧ l < 100 ∧ i < n) : Do 13 (nI i) b (nI l) e (n, 4, nL, nE, D, F) (-2000000001) (n, 4, nL, nE, D, F) := fun S x Q h hQ => call_of (ds_13 (by
  have h1 := h
  obtain ⟨A, h⟩ := h
  obtain ⟨n24, l8, e20, d4, gd⟩ := iv_N hI
  rcases hv with hv | hv
  · exact ⟨h.1.1, c8_prove1a h (Or.inr (by rw [i_le, nI_toInt (by show n < _; omega), nI_toInt (by omega)]; show (n : Int) ≤ i; omega)) (he_O (hQ S h1))⟩
  · obtain ⟨k, hk, rfl⟩ := isIx_of (M := 15) (N := 16) rfl (by decide) hb
    exact ⟨h.1.1, c8_prove1c h n24 (show i < n by omega) hk (Or.inr (by rw [i_le, nI_toInt (by show nL < _; omega), nI_toInt (by omega)]; show (nL : Int) ≤ l; omega)) (he_O (hQ S h1))⟩))
theorem do_staff {e l : Nat} {c q : Int32} (hI : JV n nL nE d D F) (he : e < nE) (hl : l < nL) :
    (c = 1 ∧ anB (bsB F l e) nE = true ∧ Do 14 (nI e) (nI l) c q (n, 4, nL, nE, D, F) (-2000000003) (n, 4, nL, nE, D, F)) ∨
    (c = 1 ∧ anB (bsB F l e) nE = false ∧ Do 14 (nI e) (nI l) c q (n, 4, nL, nE, D, F) (nI (pop (setb (sN F e) l) 16)) (n, 4, nL, nE, D, g_2 F 28 e (nI (setb (sN F e) l)))) ∨
    (¬ c = 1 ∧ Do 14 (nI e) (nI l) c q (n, 4, nL, nE, D, F) (nI (pop (clr (sN F e) l) 16)) (n, 4, nL, nE, D, g_2 F 28 e (nI (clr (sN F e) l)))) := by
  obtain ⟨n24, l8, e20, d4, gd⟩ := iv_N hI
  have hSN := hI.1.1.2.2.2.2.2.2.2.2.2.1
  by_cases hc : c = 1
  · cases hb : anB (bsB F l e) nE with
    | true =>
      refine Or.inl ⟨hc, rfl, fun S x Q h hQ => call_of (ds_14a hc ?_)⟩
      have h1 := h
      obtain ⟨A, h⟩ := h
      exact ⟨h.1.1, c8_staff h e20 he l8 hl hSN (fun _ _ => he_N (hQ S h1)) (fun w => by rcases w with w | w; exact absurd w (by decide); exact absurd (hb.symm.trans w) (by decide))⟩
    | false =>
      refine Or.inr (Or.inl ⟨hc, rfl, fun S x Q h hQ => call_of (ds_14a hc ?_)⟩)
      obtain ⟨A, h⟩ := h
      refine ⟨h.1.1, c8_staff h e20 he l8 hl hSN (fun _ w => absurd (hb.symm.trans w) (by decide)) (fun _ S' h' => ?_)⟩
      rw [if_neg (by decide)] at h' ⊢
      exact hQ S' ⟨A, h'⟩
  · refine Or.inr (Or.inr ⟨hc, fun S x Q h hQ => call_of (ds_14b hc ?_)⟩)
    obtain ⟨A, h⟩ := h
    refine ⟨h.1.1, c8_staff h e20 he l8 hl hSN (fun w => absurd rfl w) (fun _ S' h' => ?_)⟩
    rw [if_pos rfl] at h' ⊢
    exact hQ S' ⟨A, h'⟩
theorem do_boxes {i : Nat} {b c e : Int32} (hI : JV n nL nE d D F) (hi : i < n) (hb : ¬ (b < 1 ∨ 99 < b)) :
    (¬ bxO F i b ∧ Do 17 (nI i) b c e (n, 4, nL, nE, D, F) (-2000000003) (n, 4, nL, nE, D, F)) ∨
    (bxO F i b ∧ Do 17 (nI i) b c e (n, 4, nL, nE, D, F) (F 12 i + 4 * b) (n, 4, nL, nE, D, boxF F i b)) := by
  obtain ⟨n24, l8, e20, d4, gd⟩ := iv_N hI
  by_cases hw : bxO F i b
  · refine Or.inr ⟨hw, fun S x Q h hQ => call_of (ds_17 ?_)⟩
    obtain ⟨A, h⟩ := h
    exact ⟨h.1.1, c8_boxes0 h n24 hi hb hw (fun S' h' => hQ S' ⟨A, h'⟩)⟩
  · refine Or.inl ⟨hw, fun S x Q h hQ => call_of (ds_17 ?_)⟩
    have h1 := h
    obtain ⟨A, h⟩ := h
    exact ⟨h.1.1, c8_boxes3 h n24 hi hb hw (he_N (hQ S h1))⟩
theorem do_pay {i : Nat} {b c e : Int32} (hI : JV n nL nE d D F) (hi : i < n) (hb : ¬ (b < 1 ∨ 396 < b)) :
    (¬ b ≤ F 12 i ∧ Do 18 (nI i) b c e (n, 4, nL, nE, D, F) (-2000000003) (n, 4, nL, nE, D, F)) ∨
    (b ≤ F 12 i ∧ Do 18 (nI i) b c e (n, 4, nL, nE, D, F) (F 12 i - b) (n, 4, nL, nE, D, g_2 F 12 i (F 12 i - b))) := by
  obtain ⟨n24, l8, e20, d4, gd⟩ := iv_N hI
  by_cases hw : b ≤ F 12 i
  · refine Or.inr ⟨hw, fun S x Q h hQ => call_of (ds_18 ?_)⟩
    obtain ⟨A, h⟩ := h
    have hz : ¬ F 12 i = 0 := fun z => by
      rw [z] at hw
      rw [i_le] at hw
      refine hb (Or.inl ?_)
      rw [i_lt, show (1 : Int32).toInt = 1 from rfl]
      rw [show (0 : Int32).toInt = 0 from rfl] at hw
      omega
    exact ⟨h.1.1, c8_pay0 h n24 hi hb hw hz (fun S' h' => hQ S' ⟨A, h'⟩)⟩
  · refine Or.inl ⟨hw, fun S x Q h hQ => call_of (ds_18 ?_)⟩
    have h1 := h
    obtain ⟨A, h⟩ := h
    exact ⟨h.1.1, c8_pay3 h n24 hi hb hw (he_N (hQ S h1))⟩
theorem do_lacks {i b : Nat} {c e : Int32} (hI : JV n nL nE d D F) (hi : i < n) (hb : b < 8) :
    (F 17 (8 * i + b) = -1 ∧ Do 24 (nI i) (nI b) c e (n, 4, nL, nE, D, F) (-2000000003) (n, 4, nL, nE, D, F)) ∨
    (¬ F 17 (8 * i + b) = -1 ∧ Do 24 (nI i) (nI b) c e (n, 4, nL, nE, D, F) (nI (lkN F i (F 24 (eAt F i b)).toNatClampNeg 16)) (n, 4, nL, nE, D, F)) := by
  obtain ⟨n24, l8, e20, d4, gd⟩ := iv_N hI
  by_cases hw : F 17 (8 * i + b) = -1
  · refine Or.inl ⟨hw, fun S x Q h hQ => call_of (ds_24 ?_)⟩
    have h1 := h
    obtain ⟨A, h⟩ := h
    exact ⟨h.1.1, c8_lacks2 h n24 hi hb hw (he_N (hQ S h1))⟩
  · refine Or.inr ⟨hw, fun S x Q h hQ => call_of (ds_24 ?_)⟩
    have h1 := h
    obtain ⟨A, h⟩ := h
    exact ⟨h.1.1, c8_lacks0 h n24 hi hb hw (fw_co hI.1 hi) (fw_ed hI.1 hi b hb hw) (hQ S h1)⟩
theorem do_edition {b : Nat} {a2 a3 a4 a5 a6 a7 : Int32} (hI : JV n nL nE d D F) (hb : b < 8) (hw : edV (nI b) a2 a3 a4 a5 a6 a7) :
    (F 23 b = 3 ∧ DoE (nI b) a2 a3 a4 a5 a6 a7 (n, 4, nL, nE, D, F) (-2000000003) (n, 4, nL, nE, D, F)) ∨
    (∃ v, v < 3 ∧ F 23 b = nI v ∧ DoE (nI b) a2 a3 a4 a5 a6 a7 (n, 4, nL, nE, D, F) (nI v) (n, 4, nL, nE, D, ediF F b v a2 a3 a4 a5 a6 a7)) := by
  obtain ⟨n24, l8, e20, d4, gd⟩ := iv_N hI
  have hWC := hI.1.1.2.2.2.2.2.1
  have hWE := hI.1.1.2.2.2.2.2.2.1
  obtain ⟨v, hv, ee⟩ := (hWE b hb).1
  by_cases h3 : v = 3
  · subst h3
    refine Or.inl ⟨ee, fun S x Q h hQ => ?_⟩
    have h1 := h
    obtain ⟨A, h⟩ := h
    exact ⟨h.1.1, c8_editionT (EQ := HE Q) h hb hw (c8_edT1 h hb ee (he_N (hQ S h1)))⟩
  · refine Or.inr ⟨v, by omega, ee, fun S x Q h hQ => ?_⟩
    obtain ⟨A, h⟩ := h
    exact ⟨h.1.1, c8_editionT (EQ := HE Q) h hb hw (c8_edT0 h hWC hWE hb ee (by omega) (fun S' A' h' => hQ S' ⟨A', h'⟩))⟩
theorem do_event {t k : Nat} {c dd e f : Int32} (hI : JV n nL nE d D F) (ht : t < 4) (hk : k < 3) :
    (¬ evV D c dd e f ∧ DoV (nI t) (nI k) c dd e f (n, 4, nL, nE, D, F) (-2000000002) (n, 4, nL, nE, D, F)) ∨
    (evV D c dd e f ∧ nE = 20 ∧ DoV (nI t) (nI k) c dd e f (n, 4, nL, nE, D, F) (-2000000003) (n, 4, nL, nE, D, F)) ∨
    (evV D c dd e f ∧ nE < 20 ∧ DoV (nI t) (nI k) c dd e f (n, 4, nL, nE, D, F) (nI nE) (n, 4, nL, nE + 1, upD D 26 (nI (nE + 1)), evnF F nE (nI t) (nI k) c dd e f)) := by
  obtain ⟨n24, l8, e20, d4, gd⟩ := iv_N hI
  have hW2 := hI.1.1.2.2.2.2.2.2.2.2.2.2.2.2
  by_cases hw : evV D c dd e f
  · by_cases h20 : nE = 20
    · refine Or.inr (Or.inl ⟨hw, h20, fun S x Q h hQ => ?_⟩)
      have h1 := h
      obtain ⟨A, h⟩ := h
      exact ⟨h.1.1, c8_event3 (EQ := HE Q) h h46 ht hk hw h20 (he_N (hQ S h1))⟩
    · refine Or.inr (Or.inr ⟨hw, by omega, fun S x Q h hQ => ?_⟩)
      obtain ⟨A, h⟩ := h
      exact ⟨h.1.1, c8_event0 (EQ := HE Q) h h46 ht hk hw (show nE < 20 by omega) (hW2 nE (Nat.le_refl _) (by omega)) (fun S' A' h' => hQ S' ⟨A', cs_D h' rfl rfl⟩)⟩
  · refine Or.inl ⟨hw, fun S x Q h hQ => ?_⟩
    have h1 := h
    obtain ⟨A, h⟩ := h
    exact ⟨h.1.1, c8_event2 (EQ := HE Q) h h46 ht hk hw (he_B (hQ S h1))⟩
/-- teams for all events of an hour, by leaders s -/
def asF (F : Nat → Nat → Int32) (n nL nE : Nat) (a hh : Int32) (s : Nat) : Prop := asP (yN F n (fun k => (goS F a hh nE).getD k 0)) (pN F (fun k => (goS F a hh nE).getD k 0)) (vN F nL (fun k => (goS F a hh nE).getD k 0)) (mN F nL (fun k => (goS F a hh nE).getD k 0)) (goS F a hh nE).length 0 s
theorem asP_mono {Y P V M : Nat → Nat} {r k l l' : Nat} (h : asP Y P V M r k l) (hs : sbT l l') : asP Y P V M r k l' := by
  obtain ⟨g, g1, g2⟩ := h
  exact ⟨g, fun j h1 h2 => ⟨fun i hi => hs i ((g1 j h1 h2).1 i hi), (g1 j h1 h2).2⟩, g2⟩
theorem do_could {s : Nat} {a hh e : Int32} (hI : JV n nL nE d D F) (h1 : ¬ (a < 0 ∨ 9999 < a)) (h2 : ¬ (hh < 0 ∨ 23 < hh)) (hs : s ≤ 2 ^ nL - 1) :
    (3 < (goS F a hh nE).length ∧ Do 16 a hh (nI s) e (n, 4, nL, nE, D, F) (-2000000003) (n, 4, nL, nE, D, F)) ∨
    ((goS F a hh nE).length ≤ 3 ∧ asF F n nL nE a hh s ∧ Do 16 a hh (nI s) e (n, 4, nL, nE, D, F) 1 (n, 4, nL, nE, D, F)) ∨
    ((goS F a hh nE).length ≤ 3 ∧ ¬ asF F n nL nE a hh s ∧ Do 16 a hh (nI s) e (n, 4, nL, nE, D, F) 0 (n, 4, nL, nE, D, F)) := by
  obtain ⟨n24, l8, e20, d4, gd⟩ := iv_N hI
  have hWV := hI.1.1.2.2.2.2.2.2.2.2.1
  have hpw : 0 < 2 ^ nL := Nat.two_pow_pos _
  have hsl : s < 2 ^ nL := by omega
  have hs8 : s < 256 := Nat.lt_of_lt_of_le hsl (Nat.pow_le_pow_right (n := 2) (by decide) l8)
  by_cases h3 : 3 < (goS F a hh nE).length
  · refine Or.inl ⟨h3, fun S x Q h hQ => call_of (ds_16 ?_)⟩
    have h9 := h
    obtain ⟨A, h⟩ := h
    exact ⟨h.1.1, c8_could2 h l8 e20 hWV h1 h2 hs h3 (he_N (hQ S h9))⟩
  · have h3' : (goS F a hh nE).length ≤ 3 := by omega
    have hiff : asF F n nL nE a hh s ↔ csP (yN F n (fun k => (goS F a hh nE).getD k 0)) (pN F (fun k => (goS F a hh nE).getD k 0)) (vN F nL (fun k => (goS F a hh nE).getD k 0)) (mN F nL (fun k => (goS F a hh nE).getD k 0)) (goS F a hh nE).length 0 s := (cs_as (P := pN F (fun k => (goS F a hh nE).getD k 0)) (fun k => Nat.le_trans (by decide) (rtN_b _).1) _ _ _ hs8).symm
    have hgo : ∀ (S : Hp) (x : Nat) (Q : Int32 → Hp → Prop) (A : Nat → Nat → Nat), CS S x A n 4 nL nE D F → (asF F n nL nE a hh s → ∀ S', CS S' x A n 4 nL nE D F → Q 1 S') → (¬ asF F n nL nE a hh s → ∀ S', CS S' x A n 4 nL nE D F → Q 0 S') → wp_X8_couldStaff S x a hh (nI s) (fun r S1 => if r = 0 then Q 0 S1 else Q 1 S1) (HE Q) := by
      intro S x Q A h hq1 hq0
      refine c8_couldT h l8 h1 h2 hs ⟨h.1.1, c8_eventsIn h e20 hWV ?_⟩
      rw [if_pos (show nI (goS F a hh nE).length ≤ 3 from nI_le (b := 3) h3' (by omega))]
      refine ⟨h.1.1, c8_needsIn h n24 l8 e20 hWV (fun S' la dq el h' hl hN => ?_)⟩
      refine c8_share_4 (place := 0) hl hN n24 l8 h3' hsl (by omega) (by omega) (fun w => ?_) (fun w => ?_)
      · rw [Nat.sub_zero] at w
        refine bz1i ?_
        show (if (1 : Int32) = 0 then Q 0 S' else Q 1 S')
        rw [if_neg (by decide)]
        exact hq1 (hiff.mpr w) S' h'
      · rw [Nat.sub_zero] at w
        refine bz0i ?_
        show (if (0 : Int32) = 0 then Q 0 S' else Q 1 S')
        rw [if_pos rfl]
        exact hq0 (fun z => w (hiff.mp z)) S' h'
    by_cases ha : asF F n nL nE a hh s
    · refine Or.inr (Or.inl ⟨h3', ha, fun S x Q h hQ => call_of (ds_16 ?_)⟩)
      obtain ⟨A, h⟩ := h
      exact ⟨h.1.1, hgo S x Q A h (fun _ S' h' => hQ S' ⟨A, h'⟩) (fun w => absurd ha w)⟩
    · refine Or.inr (Or.inr ⟨h3', ha, fun S x Q h hQ => call_of (ds_16 ?_)⟩)
      obtain ⟨A, h⟩ := h
      exact ⟨h.1.1, hgo S x Q A h (fun w => absurd w ha) (fun _ S' h' => hQ S' ⟨A, h'⟩)⟩
/-! what is refused -/
theorem do_O {w a b c e : Int32} {σ : Sg} (h : ∀ (S : Hp) (x : Nat) (Q : Int32 → Hp → Prop), RS S x σ → Q (-2000000001) S → wp_L_does S x w a b c e (fun r S1 => Q r S1) (HE Q)) : Do w a b c e σ (-2000000001) σ := fun S x Q h1 hQ => call_of (h S x Q h1 (hQ S h1))
theorem do_B {w a b c e : Int32} {σ : Sg} (h : ∀ (S : Hp) (x : Nat) (Q : Int32 → Hp → Prop), RS S x σ → Q (-2000000002) S → wp_L_does S x w a b c e (fun r S1 => Q r S1) (HE Q)) : Do w a b c e σ (-2000000002) σ := fun S x Q h1 hQ => call_of (h S x Q h1 (hQ S h1))
/-! numbers of the script -/
def smv (x : Int32) (N : Nat) : Nat := (x.toBitVec.toNat / 2) % N
theorem ush1 (x : Int32) : (x.toUInt32 >>> ((1 : Int32).toUInt32 &&& Int32.toUInt32 31)).toInt32 = nI (x.toBitVec.toNat / 2) := by
  apply Int32.toBitVec_inj.mp
  show x.toBitVec >>> (1 : Nat) = BitVec.ofNat 32 (x.toBitVec.toNat / 2)
  apply BitVec.eq_of_toNat_eq
  rw [BitVec.toNat_ushiftRight, BitVec.toNat_ofNat, Nat.shiftRight_eq_div_pow]
  have := x.toBitVec.isLt
  omega
theorem smv_lt (x : Int32) {N : Nat} (h : 0 < N) : smv x N < N := Nat.mod_lt _ h
theorem some_of {a b : Int32} {N : Nat} (hb : b = nI N) (h0 : 0 < N) (hN : N < 2 ^ 31) (hQ : Q (nI (smv a N)) S) : wp_L_some S a b Q := by
  unfold wp_L_some
  subst hb
  have h1 := a.toBitVec.isLt
  refine ⟨nI_ne (b := 0) hN (by decide) (by omega), ?_⟩
  rw [ush1, pk_rem (by omega) h0 hN]
  exact hQ
end GLUE
