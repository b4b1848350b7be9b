/-! the heap as seven functions of addresses: which there are, their kinds, int fields, reference fields, lengths, int rows, reference rows; and the address of the JDK's empty array -/
abbrev Hp : Type := List Nat × (Nat → Nat) × (Nat → Nat → Int32) × (Nat → Nat → Option Nat) × (Nat → Nat) × (Nat → Nat → Int32) × (Nat → Nat → Option Nat) × Nat
def g_L (S : Hp) : List Nat := S.1
def g_K (S : Hp) : Nat → Nat := S.2.1
def g_I (S : Hp) : Nat → Nat → Int32 := S.2.2.1
def g_P (S : Hp) : Nat → Nat → Option Nat := S.2.2.2.1
def g_N (S : Hp) : Nat → Nat := S.2.2.2.2.1
def g_R (S : Hp) : Nat → Nat → Int32 := S.2.2.2.2.2.1
def g_O (S : Hp) : Nat → Nat → Option Nat := S.2.2.2.2.2.2.1
def g_T (S : Hp) : Nat := S.2.2.2.2.2.2.2
def g_2 {α : Type} (f : Nat → Nat → α) (n a : Nat) (v : α) : Nat → Nat → α := fun m b => if m = n ∧ b = a then v else f m b
def s_I (S : Hp) (n a : Nat) (v : Int32) : Hp := (g_L S, g_K S, g_2 (g_I S) n a v, g_P S, g_N S, g_R S, g_O S, g_T S)
def s_P (S : Hp) (n a : Nat) (v : Option Nat) : Hp := (g_L S, g_K S, g_I S, g_2 (g_P S) n a v, g_N S, g_R S, g_O S, g_T S)
def s_R (S : Hp) (a i : Nat) (v : Int32) : Hp := (g_L S, g_K S, g_I S, g_P S, g_N S, g_2 (g_R S) a i v, g_O S, g_T S)
def s_O (S : Hp) (a i : Nat) (v : Option Nat) : Hp := (g_L S, g_K S, g_I S, g_P S, g_N S, g_R S, g_2 (g_O S) a i v, g_T S)
def s_W (S : Hp) (a : Nat) (r : Nat → Option Nat) : Hp := (g_L S, g_K S, g_I S, g_P S, g_N S, g_R S, (fun b => if b = a then r else g_O S b), g_T S)
def n_O (κ : Nat) (S : Hp) (a : Nat) : Hp := (g_L S ++ [a], va_up (g_K S) a κ, (fun n b => if b = a then 0 else g_I S n b), (fun n b => if b = a then none else g_P S n b), g_N S, g_R S, g_O S, g_T S)
def n_A (κ : Nat) (S : Hp) (a N : Nat) : Hp := (g_L S ++ [a], va_up (g_K S) a κ, g_I S, g_P S, va_up (g_N S) a N, (fun b => if b = a then fun _ => 0 else g_R S b), (fun b => if b = a then fun _ => none else g_O S b), g_T S)
/-- which field of a kind is a reference; how many fields a kind has -/
def fr (κ j : Nat) : Bool := match κ with
  | 0 => true
  | 1 => decide (11 ≤ j)
  | 2 => decide (j = 0)
  | 3 => false
  | 4 => false
  | 5 => decide (j < 3)
  | 6 => false
  | 7 => false
  | 8 => decide (j < 5)
  | 9 => decide (j < 5)
  | _ => decide (j = 1)
def nf (κ : Nat) : Nat := match κ with
  | 0 => 1
  | 1 => 14
  | 2 => 3
  | 3 => 6
  | 4 => 7
  | 5 => 4
  | 6 => 5
  | 7 => 4
  | 8 => 7
  | 9 => 7
  | _ => 3
def fv (S : Hp) (κ a j : Nat) : Value := if fr κ j then va_rf (g_P S (100 * κ + j) a) else .int (g_I S (100 * κ + j) a)
def fs (S : Hp) (κ a : Nat) : List Value := (List.range (nf κ)).map (fv S κ a)
def g_c (cy : Nat → ClassId) (S : Hp) (a : Nat) : va_E :=
  if g_K S a < 11 then .inr (g_K S a, fs S (g_K S a) a)
  else if g_K S a < 13 then .inl (cy (g_K S a), g_N S a, .inl (g_R S a))
  else .inl (cy (g_K S a), g_N S a, .inr (.inr (.inr (.inr (g_O S a)))))
def g_w (cy : Nat → ClassId) (S : Hp) : va_W := va_pl (g_L S) (g_c cy S)
def okA (S : Hp) (κ a : Nat) : Prop := a ∈ g_L S ∧ g_K S a = κ
theorem fs_at (S : Hp) (κ a j : Nat) (h : j < nf κ) : (fs S κ a)[j]? = some (fv S κ a j) := by
  simp [fs, List.getElem?_map, List.getElem?_range h]
theorem fs_len (S : Hp) (κ a : Nat) : (fs S κ a).length = nf κ := by simp [fs]
theorem fs_set {S S' : Hp} {κ a j : Nat} {v : Value} (h : ∀ i, i < nf κ → fv S' κ a i = if i = j then v else fv S κ a i) : (fs S κ a).set j v = fs S' κ a := by
  apply List.ext_getElem?
  intro i
  by_cases hi : i < nf κ
  · rw [fs_at S' κ a i hi, h i hi, List.getElem?_set]
    by_cases e : j = i
    · subst e
      simp [fs_len, hi]
    · rw [if_neg e, if_neg (fun q => e q.symm), fs_at S κ a i hi]
  · rw [List.getElem?_set]
    have h1 : (fs S κ a)[i]? = none := List.getElem?_eq_none (by rw [fs_len]; omega)
    have h2 : (fs S' κ a)[i]? = none := List.getElem?_eq_none (by rw [fs_len]; omega)
    rw [h2]
    by_cases e : j = i
    · subst e
      simp [fs_len, hi]
    · rw [if_neg e, h1]
theorem g_2s {α : Type} (f : Nat → Nat → α) (n a : Nat) (v : α) : g_2 f n a v n a = v := by simp [g_2]
theorem g_2n {α : Type} (f : Nat → Nat → α) {n a m b : Nat} (v : α) (h : ¬ (m = n ∧ b = a)) : g_2 f n a v m b = f m b := by simp [g_2, h]
/-- where a cell of the pool lies, and what it is -/
theorem g_at {X : va_W} {cy : Nat → ClassId} {S : Hp} {κ a : Nat} (h : okA S κ a) : ∃ k : Nat, (X ++ g_w cy S)[k]? = some (a, g_c cy S a) := va_pl_get h.1
theorem g_obj {cy : Nat → ClassId} {S : Hp} {κ a : Nat} (h : okA S κ a) (hκ : κ < 11) : g_c cy S a = .inr (κ, fs S κ a) := by
  obtain ⟨-, h2⟩ := h
  subst h2
  simp [g_c, hκ]
theorem g_row {cy : Nat → ClassId} {S : Hp} {κ a : Nat} (h : okA S κ a) (h1 : 11 ≤ κ) (h2 : κ < 13) : g_c cy S a = .inl (cy κ, g_N S a, .inl (g_R S a)) := by
  obtain ⟨-, e⟩ := h
  subst e
  simp [g_c, show ¬ g_K S a < 11 by omega, h2]
theorem g_ref {cy : Nat → ClassId} {S : Hp} {κ a : Nat} (h : okA S κ a) (h1 : 13 ≤ κ) : g_c cy S a = .inl (cy κ, g_N S a, .inr (.inr (.inr (.inr (g_O S a))))) := by
  obtain ⟨-, e⟩ := h
  subst e
  simp [g_c, show ¬ g_K S a < 11 by omega, show ¬ g_K S a < 13 by omega]
theorem g_set {X : va_W} {cy : Nat → ClassId} {S S' : Hp} {κ a k : Nat} {e : va_E} {A : Nat → Prop} (hD : va_D A (X ++ g_w cy S)) (h : okA S κ a) (hk : (X ++ g_w cy S)[k]? = some (a, g_c cy S a)) (hL : g_L S' = g_L S) (he : g_c cy S' a = e) (ho : ∀ b, b ≠ a → g_c cy S' b = g_c cy S b) : (X ++ g_w cy S).set k (a, e) = X ++ g_w cy S' := by
  unfold g_w at hD hk ⊢
  rw [va_pl_set hD h.1 hk, hL]
  refine congrArg (fun l => X ++ l) (va_pl_congr (fun b => ?_))
  by_cases hb : b = a
  · subst hb
    rw [va_up_self, he]
  · rw [va_up_ne _ _ hb, ho b hb]
theorem g_push {X : va_W} {cy : Nat → ClassId} {S S' : Hp} {a : Nat} {e : va_E} (ha : a ∉ g_L S) (hL : g_L S' = g_L S ++ [a]) (he : g_c cy S' a = e) (ho : ∀ b, b ≠ a → g_c cy S' b = g_c cy S b) : (X ++ g_w cy S) ++ [(a, e)] = X ++ g_w cy S' := by
  unfold g_w
  rw [List.append_assoc, va_pl_push ha, hL]
  refine congrArg (fun l => X ++ l) (va_pl_congr (fun b => ?_))
  by_cases hb : b = a
  · subst hb
    rw [va_up_self, he]
  · rw [va_up_ne _ _ hb, ho b hb]
theorem fv_I {S : Hp} {κ a i j b : Nat} {v : Int32} (hi : i < 100) (hj : j < 100) (hr : fr κ j = false) : fv (s_I S (100 * κ + j) a v) κ b i = if i = j ∧ b = a then .int v else fv S κ b i := by
  by_cases e : i = j ∧ b = a
  · obtain ⟨rfl, rfl⟩ := e
    simp [fv, hr, s_I, g_I, g_2]
  · rw [if_neg e]
    unfold fv
    have h1 : g_P (s_I S (100 * κ + j) a v) (100 * κ + i) b = g_P S (100 * κ + i) b := rfl
    have h2 : g_I (s_I S (100 * κ + j) a v) (100 * κ + i) b = g_I S (100 * κ + i) b := g_2n _ _ (fun q => e ⟨by omega, q.2⟩)
    rw [h1, h2]
theorem fv_P {S : Hp} {κ a i j b : Nat} {v : Option Nat} (hi : i < 100) (hj : j < 100) (hr : fr κ j = true) : fv (s_P S (100 * κ + j) a v) κ b i = if i = j ∧ b = a then va_rf v else fv S κ b i := by
  by_cases e : i = j ∧ b = a
  · obtain ⟨rfl, rfl⟩ := e
    simp [fv, hr, s_P, g_P, g_2]
  · rw [if_neg e]
    unfold fv
    have h1 : g_I (s_P S (100 * κ + j) a v) (100 * κ + i) b = g_I S (100 * κ + i) b := rfl
    have h2 : g_P (s_P S (100 * κ + j) a v) (100 * κ + i) b = g_P S (100 * κ + i) b := g_2n _ _ (fun q => e ⟨by omega, q.2⟩)
    rw [h1, h2]
theorem nf_lt (κ : Nat) : nf κ < 100 := by
  unfold nf
  split <;> decide
theorem gc_ne {cy : Nat → ClassId} {S S' : Hp} {b : Nat} (hK : g_K S' b = g_K S b) (hF : ∀ κ i, κ = g_K S b → i < 100 → fv S' κ b i = fv S κ b i) (hN : g_N S' b = g_N S b) (hR : g_R S' b = g_R S b) (hO : g_O S' b = g_O S b) : g_c cy S' b = g_c cy S b := by
  have h1 : fs S' (g_K S b) b = fs S (g_K S b) b := by
    unfold fs
    refine List.map_congr_left (fun i hi => ?_)
    have := nf_lt (g_K S b)
    exact hF _ i rfl (by have := List.mem_range.mp hi; omega)
  simp [g_c, hK, hN, hR, hO, h1]
theorem set_I {X : va_W} {cy : Nat → ClassId} {S : Hp} {κ a j k : Nat} {v : Int32} {A : Nat → Prop} (hD : va_D A (X ++ g_w cy S)) (h : okA S κ a) (hκ : κ < 11) (hj : j < nf κ) (hr : fr κ j = false) (hk : (X ++ g_w cy S)[k]? = some (a, g_c cy S a)) : (X ++ g_w cy S).set k (a, .inr (κ, (fs S κ a).set j (.int v))) = X ++ g_w cy (s_I S (100 * κ + j) a v) := by
  have hn := nf_lt κ
  refine g_set hD h hk rfl ?_ (fun b hb => gc_ne rfl (fun κ' i hκ' hi => ?_) rfl rfl rfl)
  · rw [g_obj (S := s_I S (100 * κ + j) a v) h hκ, fs_set (S' := s_I S (100 * κ + j) a v) (fun i hi => ?_)]
    rw [fv_I (by omega) (by omega) hr]
    by_cases e : i = j <;> simp [e]
  · unfold fv
    have h1 : g_P (s_I S (100 * κ + j) a v) (100 * κ' + i) b = g_P S (100 * κ' + i) b := rfl
    have h2 : g_I (s_I S (100 * κ + j) a v) (100 * κ' + i) b = g_I S (100 * κ' + i) b := g_2n _ _ (fun q => hb q.2)
    rw [h1, h2]
theorem set_P {X : va_W} {cy : Nat → ClassId} {S : Hp} {κ a j k : Nat} {v : Option Nat} {A : Nat → Prop} (hD : va_D A (X ++ g_w cy S)) (h : okA S κ a) (hκ : κ < 11) (hj : j < nf κ) (hr : fr κ j = true) (hk : (X ++ g_w cy S)[k]? = some (a, g_c cy S a)) : (X ++ g_w cy S).set k (a, .inr (κ, (fs S κ a).set j (va_rf v))) = X ++ g_w cy (s_P S (100 * κ + j) a v) := by
  have hn := nf_lt κ
  refine g_set hD h hk rfl ?_ (fun b hb => gc_ne rfl (fun κ' i hκ' hi => ?_) rfl rfl rfl)
  · rw [g_obj (S := s_P S (100 * κ + j) a v) h hκ, fs_set (S' := s_P S (100 * κ + j) a v) (fun i hi => ?_)]
    rw [fv_P (by omega) (by omega) hr]
    by_cases e : i = j <;> simp [e]
  · unfold fv
    have h1 : g_I (s_P S (100 * κ + j) a v) (100 * κ' + i) b = g_I S (100 * κ' + i) b := rfl
    have h2 : g_P (s_P S (100 * κ + j) a v) (100 * κ' + i) b = g_P S (100 * κ' + i) b := g_2n _ _ (fun q => hb q.2)
    rw [h1, h2]
theorem row_R (S : Hp) (a i : Nat) (v : Int32) : g_R (s_R S a i v) a = upd (g_R S a) i v := by
  funext j
  by_cases e : j = i <;> simp [g_R, s_R, g_2, upd, e]
theorem row_O (S : Hp) (a i : Nat) (v : Option Nat) : g_O (s_O S a i v) a = va_up (g_O S a) i v := by
  funext j
  by_cases e : j = i <;> simp [g_O, s_O, g_2, va_up, e]
theorem set_R {X : va_W} {cy : Nat → ClassId} {S : Hp} {κ a i k : Nat} {v : Int32} {A : Nat → Prop} (hD : va_D A (X ++ g_w cy S)) (h : okA S κ a) (h1 : 11 ≤ κ) (h2 : κ < 13) (hk : (X ++ g_w cy S)[k]? = some (a, g_c cy S a)) : (X ++ g_w cy S).set k (a, .inl (cy κ, g_N S a, .inl (upd (g_R S a) i v))) = X ++ g_w cy (s_R S a i v) := by
  refine g_set hD h hk rfl ?_ (fun b hb => gc_ne rfl (fun κ' i hκ' hi => rfl) rfl ?_ rfl)
  · rw [g_row (S := s_R S a i v) h h1 h2, row_R]; rfl
  · funext j
    exact g_2n _ _ (fun q => hb q.1)
theorem set_O {X : va_W} {cy : Nat → ClassId} {S : Hp} {κ a i k : Nat} {v : Option Nat} {A : Nat → Prop} (hD : va_D A (X ++ g_w cy S)) (h : okA S κ a) (h1 : 13 ≤ κ) (hk : (X ++ g_w cy S)[k]? = some (a, g_c cy S a)) : (X ++ g_w cy S).set k (a, .inl (cy κ, g_N S a, .inr (.inr (.inr (.inr (va_up (g_O S a) i v)))))) = X ++ g_w cy (s_O S a i v) := by
  refine g_set hD h hk rfl ?_ (fun b hb => gc_ne rfl (fun κ' i hκ' hi => rfl) rfl rfl ?_)
  · rw [g_ref (S := s_O S a i v) h h1, row_O]; rfl
  · funext j
    exact g_2n _ _ (fun q => hb q.1)
theorem set_W {X : va_W} {cy : Nat → ClassId} {S : Hp} {κ a k : Nat} {r : Nat → Option Nat} {A : Nat → Prop} (hD : va_D A (X ++ g_w cy S)) (h : okA S κ a) (h1 : 13 ≤ κ) (hk : (X ++ g_w cy S)[k]? = some (a, g_c cy S a)) : (X ++ g_w cy S).set k (a, .inl (cy κ, g_N S a, .inr (.inr (.inr (.inr r))))) = X ++ g_w cy (s_W S a r) := by
  refine g_set hD h hk rfl ?_ (fun b hb => gc_ne rfl (fun κ' i hκ' hi => rfl) rfl rfl ?_)
  · rw [g_ref (S := s_W S a r) h h1]; simp [s_W, g_O, g_N]
  · simp [s_W, g_O, hb]
theorem fv_new (κ κ' : Nat) (S : Hp) (a b i : Nat) (hb : b ≠ a) : fv (n_O κ S a) κ' b i = fv S κ' b i := by
  simp [fv, n_O, g_I, g_P, hb]
theorem push_O {X : va_W} {cy : Nat → ClassId} {S : Hp} {κ a : Nat} (ha : a ∉ g_L S) (hκ : κ < 11) : (X ++ g_w cy S) ++ [(a, .inr (κ, fs (n_O κ S a) κ a))] = X ++ g_w cy (n_O κ S a) := by
  refine g_push ha rfl ?_ (fun b hb => gc_ne ?_ (fun κ' i hκ' hi => fv_new κ κ' S a b i hb) rfl rfl rfl)
  · exact g_obj ⟨by simp [n_O, g_L], by simp [n_O, g_K, va_up]⟩ hκ
  · simp [n_O, g_K, va_up, hb]
theorem push_R {X : va_W} {cy : Nat → ClassId} {S : Hp} {κ a N : Nat} (ha : a ∉ g_L S) (h1 : 11 ≤ κ) (h2 : κ < 13) : (X ++ g_w cy S) ++ [(a, .inl (cy κ, N, .inl (fun _ => 0)))] = X ++ g_w cy (n_A κ S a N) := by
  refine g_push ha rfl ?_ (fun b hb => gc_ne ?_ (fun κ' i hκ' hi => rfl) ?_ ?_ ?_)
  · rw [g_row (S := n_A κ S a N) (κ := κ) ⟨by simp [n_A, g_L], by simp [n_A, g_K, va_up]⟩ h1 h2]
    simp [n_A, g_N, g_R, va_up]
  · simp [n_A, g_K, va_up, hb]
  · simp [n_A, g_N, va_up, hb]
  · simp [n_A, g_R, hb]
  · simp [n_A, g_O, hb]
theorem push_A {X : va_W} {cy : Nat → ClassId} {S : Hp} {κ a N : Nat} (ha : a ∉ g_L S) (h1 : 13 ≤ κ) : (X ++ g_w cy S) ++ [(a, .inl (cy κ, N, .inr (.inr (.inr (.inr (fun _ => none))))))] = X ++ g_w cy (n_A κ S a N) := by
  refine g_push ha rfl ?_ (fun b hb => gc_ne ?_ (fun κ' i hκ' hi => rfl) ?_ ?_ ?_)
  · rw [g_ref (S := n_A κ S a N) (κ := κ) ⟨by simp [n_A, g_L], by simp [n_A, g_K, va_up]⟩ h1]
    simp [n_A, g_N, g_O, va_up]
  · simp [n_A, g_K, va_up, hb]
  · simp [n_A, g_N, va_up, hb]
  · simp [n_A, g_R, hb]
  · simp [n_A, g_O, hb]
