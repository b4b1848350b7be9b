/-! THE CLASS: things while they are made -/
section CNEW2
variable {S : Hp} {x : Nat} {A : Nat → Nat → Nat} {n nT nL nE : Nat} {D : Nat → Int32} {F : Nat → Nat → Int32} {Q : Int32 → Hp → Prop} {EQ : String → Hp → Prop}
theorem xb_ok {P : Nat → Prop} {S S' : Hp} {κ a : Nat} (h : exB P S S') (ha : okA S κ a) : okA S' κ a := ⟨(h.2 a ha.1).1, (h.2 a ha.1).2.1.trans ha.2⟩
theorem xb_N {P : Nat → Prop} {S S' : Hp} {κ a : Nat} (h : exB P S S') (ha : okA S κ a) (hP : P a) : g_N S' a = g_N S a := ((h.2 a ha.1).2.2 hP).2.2.1
theorem xb_R {P : Nat → Prop} {S S' : Hp} {κ a : Nat} (h : exB P S S') (ha : okA S κ a) (hP : P a) : g_R S' a = g_R S a := ((h.2 a ha.1).2.2 hP).2.2.2.1
theorem xb_O {P : Nat → Prop} {S S' : Hp} {κ a : Nat} (h : exB P S S') (ha : okA S κ a) (hP : P a) : g_O S' a = g_O S a := ((h.2 a ha.1).2.2 hP).2.2.2.2
/-- thing q of kind κ, with its int fields and its references -/
def NB (S : Hp) (q κ : Nat) (fi : Nat → Int32) (fp : Nat → Option Nat) : Prop := okA S κ q ∧ (∀ n, g_I S n q = fi n) ∧ ∀ n, g_P S n q = fp n
theorem nb_new (κ : Nat) (S : Hp) (q : Nat) : NB (n_O κ S q) q κ (fun _ => 0) (fun _ => none) := by
  refine ⟨nO_ok κ S q, fun n => nO_I κ S q n, fun n => ?_⟩
  show (if q = q then _ else _) = _
  rw [if_pos rfl]
theorem st_I {q κ m : Nat} {v : Int32} {fi : Nat → Int32} {fp : Nat → Option Nat} {K : Hp → Prop} (h : NB S q κ fi fp) (hK : ∀ S', NB S' q κ (va_up fi m v) fp → exB (fun b => b ≠ q) S S' → K S') : okA S κ q ∧ lt (s_I S m q v) K := by
  refine ⟨h.1, hK _ ⟨h.1, fun k => ?_, h.2.2⟩ (exB_sI (exB_refl _ _) (fun _ w => w rfl))⟩
  by_cases e : k = m
  · subst e
    rw [va_up_self]
    exact sI_eq
  · rw [va_up_ne _ _ e, ← h.2.1 k]
    exact sI_ne (Or.inl e)
theorem st_P {q κ m : Nat} {v : Option Nat} {fi : Nat → Int32} {fp : Nat → Option Nat} {K : Hp → Prop} (h : NB S q κ fi fp) (hK : ∀ S', NB S' q κ fi (va_up fp m v) → exB (fun b => b ≠ q) S S' → K S') : okA S κ q ∧ lt (s_P S m q v) K := by
  refine ⟨h.1, hK _ ⟨h.1, h.2.1, fun k => ?_⟩ (exB_sP (exB_refl _ _) (fun _ w => w rfl))⟩
  by_cases e : k = m
  · subst e
    rw [va_up_self]
    exact g_2s _ _ _ _
  · rw [va_up_ne _ _ e, ← h.2.2 k]
    exact g_2n _ _ (fun w => e w.1)
/-- a new array a, of zeros -/
def NA (S : Hp) (a κ N : Nat) : Prop := okA S κ a ∧ g_N S a = N ∧ (g_R S a = fun _ => 0) ∧ g_O S a = fun _ => none
theorem nb_A {q κ κ' N a : Nat} {fi : Nat → Int32} {fp : Nat → Option Nat} (h : NB S q κ fi fp) (ha : a ∉ g_L S) : a ≠ q ∧ NB (n_A κ' S a N) q κ fi fp ∧ exB (fun _ => True) S (n_A κ' S a N) ∧ NA (n_A κ' S a N) a κ' N := by
  have x1 : exB (fun _ => True) S (n_A κ' S a N) := exB_nA κ' N ha
  exact ⟨fun e => ha (e ▸ h.1.1), ⟨xb_ok x1 h.1, h.2.1, h.2.2⟩, x1, nA_ok κ' S a N, nA_N κ' S a N, nA_R κ' S a N, nA_O κ' S a N⟩
theorem st_A {q κ κ' N : Nat} {fi : Nat → Int32} {fp : Nat → Option Nat} {K : Nat → Hp → Prop} (h : NB S q κ fi fp) (hK : ∀ a S', a ∉ g_L S → a ≠ q → NB S' q κ fi fp → exB (fun _ => True) S S' → NA S' a κ' N → K a S') : ∀ a, a ∉ g_L S → lt (n_A κ' S a N) (K a) := fun a ha => by
  obtain ⟨h1, h2, h3, h4⟩ := nb_A (κ' := κ') (N := N) h ha
  exact hK a _ ha h1 h2 h3 h4
theorem st_At {q κ κ' N : Nat} {fi : Nat → Int32} {fp : Nat → Option Nat} {K : Nat → Hp → Prop} (h : NB S q κ fi fp) (hK : ∀ a S', a ∉ g_L S → a ≠ q → NB S' q κ fi fp → exB (fun _ => True) S S' → NA S' a κ' N → K a S') : ∀ a, a ∉ g_L S → a ≠ g_T S → lt (n_A κ' S a N) (K a) := fun a ha _ => st_A h hK a ha
theorem na_x {S' : Hp} {P : Nat → Prop} {a κ N : Nat} (h : NA S a κ N) (he : exB P S S') (hP : P a) : NA S' a κ N := ⟨xb_ok he h.1, (xb_N he h.1 hP).trans h.2.1, (xb_R he h.1 hP).trans h.2.2.1, (xb_O he h.1 hP).trans h.2.2.2⟩
theorem xb_t {P P' : Nat → Prop} {S S' S2 : Hp} (h : exB P S S') (h2 : exB P' S' S2) (hP : ∀ b, P b → P' b) : exB P S S2 := exB_trans h (exB_mono h2 (fun b _ w => hP b w))
theorem xb_t' {P P' : Nat → Prop} {S S' S2 : Hp} (h : exB P' S S') (h2 : exB P S' S2) (hP : ∀ b, P b → P' b) : exB P S S2 := exB_trans (exB_mono h (fun b _ w => hP b w)) h2
/-- a child is made -/
theorem c1_init {q : Nat} {k a : Int32} {Q : Hp → Prop} (h : NB S q 1 (fun _ => 0) (fun _ => none)) (hQ : ∀ S' r1 r2 co fi fp, exB (fun b => b ≠ q) S S' → NB S' q 1 fi fp → (fi 100 = k ∧ fi 101 = a ∧ fi 102 = -1 ∧ fi 103 = -1 ∧ fi 104 = -1 ∧ fi 106 = 0 ∧ fi 107 = 0 ∧ fi 109 = 0 ∧ fi 110 = 0) → (fp 111 = some r1 ∧ fp 112 = some r2 ∧ fp 113 = some co) → (r1 ∉ g_L S ∧ r2 ∉ g_L S ∧ co ∉ g_L S ∧ r1 ≠ r2) → NA S' r1 11 16 → NA S' r2 11 16 → NA S' co 14 8 → Q S') : wp_X1_init S q k a Q := by
  unfold wp_X1_init
  refine st_I h (fun S1 h1 e1 => st_I h1 (fun S2 h2 e2 => st_I h2 (fun S3 h3 e3 => st_I h3 (fun S4 h4 e4 => st_A h4 (fun r1 S5 n5 d5 h5 e5 a5 => st_P h5 (fun S6 h6 e6 => st_A h6 (fun r2 S7 n7 d7 h7 e7 a7 => st_P h7 (fun S8 h8 e8 => st_At h8 (fun co S9 n9 d9 h9 e9 a9 => st_P h9 (fun S10 h10 e10 => st_I h10 (fun S11 h11 e11 => st_I h11 (fun S12 h12 e12 => ?_))))))))))))
  have id' : ∀ b : Nat, b ≠ q → b ≠ q := fun _ w => w
  have tr : ∀ b : Nat, b ≠ q → True := fun _ _ => trivial
  have f4 : exB (fun b => b ≠ q) S S4 := xb_t (xb_t (xb_t e1 e2 id') e3 id') e4 id'
  have f6 : exB (fun b => b ≠ q) S S6 := xb_t (xb_t f4 e5 tr) e6 id'
  have f8 : exB (fun b => b ≠ q) S S8 := xb_t (xb_t f6 e7 tr) e8 id'
  have f12 : exB (fun b => b ≠ q) S S12 := xb_t (xb_t (xb_t (xb_t f8 e9 tr) e10 id') e11 id') e12 id'
  have g9 : exB (fun b => b ≠ q) S9 S12 := xb_t (xb_t e10 e11 id') e12 id'
  have g7 : exB (fun b => b ≠ q) S7 S12 := exB_trans (xb_t e8 e9 tr) g9
  have g5 : exB (fun b => b ≠ q) S5 S12 := exB_trans (xb_t e6 e7 tr) g7
  have m5 : r1 ∉ g_L S := fun w => n5 (f4.2 r1 w).1
  have m7 : r2 ∉ g_L S := fun w => n7 (f6.2 r2 w).1
  have m9 : co ∉ g_L S := fun w => n9 (f8.2 co w).1
  have m57 : r1 ≠ r2 := fun w => n7 (w ▸ (xb_ok e6 a5.1).1)
  refine hQ S12 r1 r2 co _ _ f12 h12 ?_ ?_ ⟨m5, m7, m9, m57⟩ (na_x a5 g5 d5) (na_x a7 g7 d7) (na_x a9 g9 d9)
  · simp [va_up]
  · simp [va_up]
end CNEW2
