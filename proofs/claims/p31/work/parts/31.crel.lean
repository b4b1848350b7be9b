/-! THE CLASS: what its heap holds, by the reference's numbers D, F. A κ i: where the i-th thing of kind κ lies -/
section CREL
/-- all that stood stands as it was, at the addresses of P; for kinds P -/
def exB (P : Nat → Prop) (S S' : Hp) : Prop := g_T S' = g_T S ∧ ∀ b ∈ g_L S, b ∈ g_L S' ∧ g_K S' b = g_K S b ∧ (P b → (∀ n, g_I S' n b = g_I S n b) ∧ (∀ n, g_P S' n b = g_P S n b) ∧ g_N S' b = g_N S b ∧ g_R S' b = g_R S b ∧ g_O S' b = g_O S b)
def ex (P : Nat → Prop) (S S' : Hp) : Prop := exB (fun b => P (g_K S b)) S S'
theorem exB_mono {P P' : Nat → Prop} {S S' : Hp} (h : exB P S S') (hP : ∀ b ∈ g_L S, P' b → P b) : exB P' S S' := ⟨h.1, fun b hb => ⟨(h.2 b hb).1, (h.2 b hb).2.1, fun q => (h.2 b hb).2.2 (hP b hb q)⟩⟩
def nl (κ : Nat) : Prop := κ ≠ 10 ∧ κ ≠ 15
def aK (_ : Nat) : Prop := True
theorem ex_refl (P : Nat → Prop) (S : Hp) : ex P S S := ⟨rfl, fun b hb => ⟨hb, rfl, fun _ => ⟨fun _ => rfl, fun _ => rfl, rfl, rfl, rfl⟩⟩⟩
theorem ex_trans {P : Nat → Prop} {S S' S2 : Hp} (h : ex P S S') (h2 : ex P S' S2) : ex P S S2 := by
  refine ⟨h2.1.trans h.1, fun b hb => ?_⟩
  obtain ⟨p1, p2, p3⟩ := h.2 b hb
  obtain ⟨q1, q2, q3⟩ := h2.2 b p1
  refine ⟨q1, q2.trans p2, fun hP => ?_⟩
  obtain ⟨a1, a2, a3, a4, a5⟩ := p3 hP
  obtain ⟨b1, b2, b3, b4, b5⟩ := q3 (by show P (g_K S' b); rw [p2]; exact hP)
  exact ⟨fun n => (b1 n).trans (a1 n), fun n => (b2 n).trans (a2 n), b3.trans a3, b4.trans a4, b5.trans a5⟩
theorem ex_nl {S S' : Hp} (h : ex aK S S') : ex nl S S' := ⟨h.1, fun b hb => ⟨(h.2 b hb).1, (h.2 b hb).2.1, fun _ => (h.2 b hb).2.2 trivial⟩⟩
theorem ex_ok {P : Nat → Prop} {S S' : Hp} {κ a : Nat} (h : ex P S S') (ha : okA S κ a) : okA S' κ a := ⟨(h.2 a ha.1).1, (h.2 a ha.1).2.1.trans ha.2⟩
theorem ex_I {P : Nat → Prop} {S S' : Hp} {κ a : Nat} (h : ex P S S') (ha : okA S κ a) (hP : P κ) (n : Nat) : g_I S' n a = g_I S n a := ((h.2 a ha.1).2.2 (by show P (g_K S a); rw [ha.2]; exact hP)).1 n
theorem ex_P {P : Nat → Prop} {S S' : Hp} {κ a : Nat} (h : ex P S S') (ha : okA S κ a) (hP : P κ) (n : Nat) : g_P S' n a = g_P S n a := ((h.2 a ha.1).2.2 (by show P (g_K S a); rw [ha.2]; exact hP)).2.1 n
theorem ex_N {P : Nat → Prop} {S S' : Hp} {κ a : Nat} (h : ex P S S') (ha : okA S κ a) (hP : P κ) : g_N S' a = g_N S a := ((h.2 a ha.1).2.2 (by show P (g_K S a); rw [ha.2]; exact hP)).2.2.1
theorem ex_R {P : Nat → Prop} {S S' : Hp} {κ a : Nat} (h : ex P S S') (ha : okA S κ a) (hP : P κ) : g_R S' a = g_R S a := ((h.2 a ha.1).2.2 (by show P (g_K S a); rw [ha.2]; exact hP)).2.2.2.1
theorem ex_O {P : Nat → Prop} {S S' : Hp} {κ a : Nat} (h : ex P S S') (ha : okA S κ a) (hP : P κ) : g_O S' a = g_O S a := ((h.2 a ha.1).2.2 (by show P (g_K S a); rw [ha.2]; exact hP)).2.2.2.2
theorem exB_nO {P : Nat → Prop} (κ : Nat) {S : Hp} {a : Nat} (ha : a ∉ g_L S) : exB P S (n_O κ S a) := ⟨rfl, fun b hb => by
  have e : b ≠ a := fun q => ha (q ▸ hb)
  refine ⟨List.mem_append.mpr (Or.inl hb), va_up_ne _ _ e, fun _ => ⟨fun n => ?_, fun n => ?_, rfl, rfl, rfl⟩⟩
  · show (if b = a then _ else _) = _
    rw [if_neg e]
  · show (if b = a then _ else _) = _
    rw [if_neg e]⟩
theorem exB_nA {P : Nat → Prop} (κ N : Nat) {S : Hp} {a : Nat} (ha : a ∉ g_L S) : exB P S (n_A κ S a N) := ⟨rfl, fun b hb => by
  have e : b ≠ a := fun q => ha (q ▸ hb)
  refine ⟨List.mem_append.mpr (Or.inl hb), va_up_ne _ _ e, fun _ => ⟨fun n => rfl, fun n => rfl, va_up_ne _ _ e, ?_, ?_⟩⟩
  · show (if b = a then _ else _) = _
    rw [if_neg e]
  · show (if b = a then _ else _) = _
    rw [if_neg e]⟩
/-- a write at an address that is new, or of another kind -/
theorem exB_sI {P : Nat → Prop} {S0 S : Hp} {n a : Nat} {v : Int32} (h : exB P S0 S) (ha : a ∈ g_L S0 → ¬ P a) : exB P S0 (s_I S n a v) := ⟨h.1, fun b hb => by
  obtain ⟨p1, p2, p3⟩ := h.2 b hb
  refine ⟨p1, p2, fun hP => ?_⟩
  have e : b ≠ a := fun q => ha (q ▸ hb) (q ▸ hP)
  obtain ⟨a1, a2, a3, a4, a5⟩ := p3 hP
  exact ⟨fun k => (g_2n _ _ (fun q => e q.2)).trans (a1 k), a2, a3, a4, a5⟩⟩
theorem exB_sP {P : Nat → Prop} {S0 S : Hp} {n a : Nat} {v : Option Nat} (h : exB P S0 S) (ha : a ∈ g_L S0 → ¬ P a) : exB P S0 (s_P S n a v) := ⟨h.1, fun b hb => by
  obtain ⟨p1, p2, p3⟩ := h.2 b hb
  refine ⟨p1, p2, fun hP => ?_⟩
  have e : b ≠ a := fun q => ha (q ▸ hb) (q ▸ hP)
  obtain ⟨a1, a2, a3, a4, a5⟩ := p3 hP
  exact ⟨a1, fun k => (g_2n _ _ (fun q => e q.2)).trans (a2 k), a3, a4, a5⟩⟩
theorem exB_sR {P : Nat → Prop} {S0 S : Hp} {i a : Nat} {v : Int32} (h : exB P S0 S) (ha : a ∈ g_L S0 → ¬ P a) : exB P S0 (s_R S a i v) := ⟨h.1, fun b hb => by
  obtain ⟨p1, p2, p3⟩ := h.2 b hb
  refine ⟨p1, p2, fun hP => ?_⟩
  have e : b ≠ a := fun q => ha (q ▸ hb) (q ▸ hP)
  obtain ⟨a1, a2, a3, a4, a5⟩ := p3 hP
  exact ⟨a1, a2, a3, (funext fun k => g_2n _ _ (fun q => e q.1)).trans a4, a5⟩⟩
theorem exB_sO {P : Nat → Prop} {S0 S : Hp} {i a : Nat} {v : Option Nat} (h : exB P S0 S) (ha : a ∈ g_L S0 → ¬ P a) : exB P S0 (s_O S a i v) := ⟨h.1, fun b hb => by
  obtain ⟨p1, p2, p3⟩ := h.2 b hb
  refine ⟨p1, p2, fun hP => ?_⟩
  have e : b ≠ a := fun q => ha (q ▸ hb) (q ▸ hP)
  obtain ⟨a1, a2, a3, a4, a5⟩ := p3 hP
  exact ⟨a1, a2, a3, a4, (funext fun k => g_2n _ _ (fun q => e q.1)).trans a5⟩⟩
theorem exB_sW {P : Nat → Prop} {S0 S : Hp} {a : Nat} {v : Nat → Option Nat} (h : exB P S0 S) (ha : a ∈ g_L S0 → ¬ P a) : exB P S0 (s_W S a v) := ⟨h.1, fun b hb => by
  obtain ⟨p1, p2, p3⟩ := h.2 b hb
  refine ⟨p1, p2, fun hP => ?_⟩
  have e : b ≠ a := fun q => ha (q ▸ hb) (q ▸ hP)
  obtain ⟨a1, a2, a3, a4, a5⟩ := p3 hP
  refine ⟨a1, a2, a3, a4, Eq.trans ?_ a5⟩
  show (if b = a then _ else _) = _
  rw [if_neg e]⟩
theorem ex_nO {P : Nat → Prop} (κ : Nat) {S : Hp} {a : Nat} (ha : a ∉ g_L S) : ex P S (n_O κ S a) := exB_nO κ ha
theorem ex_nA {P : Nat → Prop} (κ N : Nat) {S : Hp} {a : Nat} (ha : a ∉ g_L S) : ex P S (n_A κ S a N) := exB_nA κ N ha
theorem ex_sI {P : Nat → Prop} {S0 S : Hp} {n a : Nat} {v : Int32} (h : ex P S0 S) (ha : a ∈ g_L S0 → ¬ P (g_K S0 a)) : ex P S0 (s_I S n a v) := exB_sI h ha
theorem ex_sP {P : Nat → Prop} {S0 S : Hp} {n a : Nat} {v : Option Nat} (h : ex P S0 S) (ha : a ∈ g_L S0 → ¬ P (g_K S0 a)) : ex P S0 (s_P S n a v) := exB_sP h ha
theorem ex_sR {P : Nat → Prop} {S0 S : Hp} {i a : Nat} {v : Int32} (h : ex P S0 S) (ha : a ∈ g_L S0 → ¬ P (g_K S0 a)) : ex P S0 (s_R S a i v) := exB_sR h ha
theorem ex_sO {P : Nat → Prop} {S0 S : Hp} {i a : Nat} {v : Option Nat} (h : ex P S0 S) (ha : a ∈ g_L S0 → ¬ P (g_K S0 a)) : ex P S0 (s_O S a i v) := exB_sO h ha
theorem exB_refl (P : Nat → Prop) (S : Hp) : exB P S S := ⟨rfl, fun b hb => ⟨hb, rfl, fun _ => ⟨fun _ => rfl, fun _ => rfl, rfl, rfl, rfl⟩⟩⟩
theorem exB_trans {P : Nat → Prop} {S S' S2 : Hp} (h : exB P S S') (h2 : exB P S' S2) : exB P S S2 := by
  refine ⟨h2.1.trans h.1, fun b hb => ?_⟩
  obtain ⟨p1, p2, p3⟩ := h.2 b hb
  obtain ⟨q1, q2, q3⟩ := h2.2 b p1
  refine ⟨q1, q2.trans p2, fun hP => ?_⟩
  obtain ⟨a1, a2, a3, a4, a5⟩ := p3 hP
  obtain ⟨b1, b2, b3, b4, b5⟩ := q3 hP
  exact ⟨fun n => (b1 n).trans (a1 n), fun n => (b2 n).trans (a2 n), b3.trans a3, b4.trans a4, b5.trans a5⟩
/-! lists -/
def LK (S : Hp) (la d c : Nat) (el : Nat → Nat) : Prop := okA S 10 la ∧ g_I S 1002 la = nI c ∧ (c = 0 ∧ g_P S 1001 la = some (g_T S) ∨ 0 < c ∧ g_P S 1001 la = some d ∧ okA S 15 d ∧ d ≠ g_T S ∧ 10 ≤ g_N S d ∧ g_N S d ≤ 40 ∧ c ≤ g_N S d ∧ ∀ i, i < c → g_O S d i = some (el i))
/-- the lists below qn: where they lie, their arrays, counts, elements -/
def LQ (S : Hp) (A : Nat → Nat → Nat) (qn : Nat) (ct : Nat → Nat) (el : Nat → Nat → Nat) : Prop :=
  (∀ q, q < qn → LK S (A 10 q) (A 15 q) (ct q) (el q)) ∧ (∀ q, q < qn → ∀ r, r < qn → A 10 q = A 10 r → q = r) ∧ ∀ q, q < qn → ∀ r, r < qn → ct q ≠ 0 → ct r ≠ 0 → A 15 q = A 15 r → q = r
theorem LK_ex {S S' : Hp} {la d c : Nat} {el : Nat → Nat} (h : LK S la d c el) (he : ex aK S S') : LK S' la d c el := by
  obtain ⟨h1, h2, h3⟩ := h
  refine ⟨ex_ok he h1, (ex_I he h1 trivial _).trans h2, ?_⟩
  rcases h3 with ⟨e, h3⟩ | ⟨e, h3, h4, h5, h6, h7, h8, h9⟩
  · exact Or.inl ⟨e, by rw [ex_P he h1 trivial, h3, he.1]⟩
  · refine Or.inr ⟨e, (ex_P he h1 trivial _).trans h3, ex_ok he h4, by rw [he.1]; exact h5, ?_⟩
    rw [ex_N he h4 trivial, ex_O he h4 trivial]
    exact ⟨h6, h7, h8, h9⟩
theorem LQ_ex {S S' : Hp} {A : Nat → Nat → Nat} {qn : Nat} {ct : Nat → Nat} {el : Nat → Nat → Nat} (h : LQ S A qn ct el) (he : ex aK S S') : LQ S' A qn ct el := ⟨fun q hq => LK_ex (h.1 q hq) he, h.2⟩
/-! the pieces -/
def P_0 (S : Hp) (x : Nat) (A : Nat → Nat → Nat) (D : Nat → Int32) : Prop := okA S 8 x ∧ (g_P S 800 x = some (A 10 0) ∧ g_P S 801 x = some (A 10 1) ∧ g_P S 802 x = some (A 10 2) ∧ g_P S 803 x = some (A 10 3) ∧ g_P S 804 x = some (A 13 0)) ∧ g_I S 805 x = D 0 ∧ g_I S 806 x = D 10
def P_2 (S : Hp) (A : Nat → Nat → Nat) : Prop := (okA S 13 (A 13 0) ∧ g_N S (A 13 0) = 8) ∧ ∀ b, b < 8 → g_O S (A 13 0) b = some (A 0 b) ∧ okA S 0 (A 0 b) ∧ g_P S 0 (A 0 b) = some (A 10 (4 + b))
def P_3 (S : Hp) (A : Nat → Nat → Nat) (F : Nat → Nat → Int32) (nT : Nat) : Prop := ∀ t, t < nT → okA S 7 (A 7 t) ∧ g_I S 700 (A 7 t) = nI t ∧ g_I S 701 (A 7 t) = F 2 t ∧ g_I S 702 (A 7 t) = F 3 t ∧ g_I S 703 (A 7 t) = F 4 t
def P_4 (S : Hp) (A : Nat → Nat → Nat) (F : Nat → Nat → Int32) (n : Nat) : Prop := (∀ i, i < n → okA S 1 (A 1 i) ∧ g_I S 100 (A 1 i) = nI i ∧ g_I S 101 (A 1 i) = F 6 i ∧ g_I S 102 (A 1 i) = F 7 i ∧ g_I S 103 (A 1 i) = F 8 i ∧ g_I S 104 (A 1 i) = F 11 i ∧ (F 8 i = -1 ∨ g_I S 105 (A 1 i) = F 9 i) ∧ g_I S 106 (A 1 i) = F 14 i ∧ g_I S 107 (A 1 i) = F 12 i ∧ (F 12 i = 0 ∨ g_I S 108 (A 1 i) = F 13 i)) ∧ ∀ i, i < n → ∀ j, j < n → A 1 i = A 1 j → i = j
/-- the proofs of one child: skills sk in their order -/
def PF (F : Nat → Nat → Int32) (i p pr : Nat) (sk : Nat → Nat) : Prop := p ≤ 16 ∧ pr < 65536 ∧ (∀ k, k < 16 → (pr.testBit k = true ↔ ¬ F 16 (16 * i + k) = -1)) ∧ (∀ j, j < p → sk j < 16 ∧ ¬ F 16 (16 * i + sk j) = -1) ∧ (∀ j, j < p → ∀ k, k < j → sk j ≠ sk k ∧ (F 16 (16 * i + sk k)).toNatClampNeg ≤ (F 16 (16 * i + sk j)).toNatClampNeg) ∧ ∀ k, k < 16 → ¬ F 16 (16 * i + k) = -1 → ∃ j, j < p ∧ sk j = k
def P_5 (S : Hp) (A : Nat → Nat → Nat) (F : Nat → Nat → Int32) (n : Nat) : Prop := ∀ i, i < n → okA S 1 (A 1 i) ∧ (g_P S 111 (A 1 i) = some (A 11 (2 * i)) ∧ g_P S 112 (A 1 i) = some (A 11 (2 * i + 1)) ∧ okA S 11 (A 11 (2 * i)) ∧ okA S 11 (A 11 (2 * i + 1)) ∧ g_N S (A 11 (2 * i)) = 16 ∧ g_N S (A 11 (2 * i + 1)) = 16) ∧ ∃ (p pr : Nat) (sk : Nat → Nat), g_I S 110 (A 1 i) = nI p ∧ g_I S 109 (A 1 i) = nI pr ∧ PF F i p pr sk ∧ ∀ j, j < p → g_R S (A 11 (2 * i)) j = nI (sk j) ∧ g_R S (A 11 (2 * i + 1)) j = F 16 (16 * i + sk j)
/-- the class's day for the reference's -/
def cvD (d : Nat) : Nat := if d < 100000 then d else 1000000
def P_6 (S : Hp) (A : Nat → Nat → Nat) (F : Nat → Nat → Int32) (n : Nat) : Prop := (∀ i, i < n → okA S 1 (A 1 i) ∧ g_P S 113 (A 1 i) = some (A 14 i) ∧ okA S 14 (A 14 i) ∧ g_N S (A 14 i) = 8 ∧ ∀ b, b < 8 → (F 17 (8 * i + b) = -1 ∧ g_O S (A 14 i) b = none) ∨ (¬ F 17 (8 * i + b) = -1 ∧ g_O S (A 14 i) b = some (A 2 (8 * i + b)) ∧ okA S 2 (A 2 (8 * i + b)) ∧ g_P S 200 (A 2 (8 * i + b)) = some (A 3 (3 * b + (F 18 (8 * i + b)).toNatClampNeg)) ∧ g_I S 201 (A 2 (8 * i + b)) = F 17 (8 * i + b) ∧ g_I S 202 (A 2 (8 * i + b)) = nI (cvD (dyT F i 8 b)))) ∧ (∀ i, i < n → ∀ j, j < n → A 14 i = A 14 j → i = j) ∧ ∀ i, i < n → ∀ j, j < n → ∀ b, b < 8 → ∀ c, c < 8 → ¬ F 17 (8 * i + b) = -1 → ¬ F 17 (8 * j + c) = -1 → A 2 (8 * i + b) = A 2 (8 * j + c) → i = j ∧ b = c
/-- a span of days, of the class and of the reference -/
def vtE (f t a b : Int32) : Prop := f = a ∧ t = b ∨ f = -1 ∧ t = -1 ∧ a = 1 ∧ b = 0
def P_7 (S : Hp) (A : Nat → Nat → Nat) (F : Nat → Nat → Int32) (nL : Nat) : Prop := (∀ l, l < nL → okA S 5 (A 5 l) ∧ (g_P S 500 (A 5 l) = some (A 11 (48 + 3 * l)) ∧ g_P S 501 (A 5 l) = some (A 11 (48 + 3 * l + 1)) ∧ g_P S 502 (A 5 l) = some (A 11 (48 + 3 * l + 2))) ∧ (okA S 11 (A 11 (48 + 3 * l)) ∧ okA S 11 (A 11 (48 + 3 * l + 1)) ∧ okA S 11 (A 11 (48 + 3 * l + 2))) ∧ (g_N S (A 11 (48 + 3 * l)) = 3 ∧ g_N S (A 11 (48 + 3 * l + 1)) = 3 ∧ g_N S (A 11 (48 + 3 * l + 2)) = 4) ∧ g_I S 503 (A 5 l) = F 22 l ∧ ∀ k, k < 3 → vtE (g_R S (A 11 (48 + 3 * l)) k) (g_R S (A 11 (48 + 3 * l + 1)) k) (F 20 (6 * l + 2 * k)) (F 20 (6 * l + 2 * k + 1)) ∧ g_R S (A 11 (48 + 3 * l + 2)) (k + 1) = F 21 (3 * l + k)) ∧ ∀ l, l < nL → ∀ k, k < nL → A 5 l = A 5 k → l = k
def P_8 (S : Hp) (A : Nat → Nat → Nat) (F : Nat → Nat → Int32) (nE : Nat) : Prop := (∀ e, e < nE → okA S 4 (A 4 e) ∧ g_I S 400 (A 4 e) = F 27 (6 * e) ∧ g_I S 401 (A 4 e) = F 27 (6 * e + 1) ∧ g_I S 402 (A 4 e) = F 27 (6 * e + 2) ∧ g_I S 403 (A 4 e) = F 27 (6 * e + 3) ∧ g_I S 404 (A 4 e) = F 27 (6 * e + 4) ∧ g_I S 405 (A 4 e) = F 27 (6 * e + 4) + F 27 (6 * e + 5) ∧ g_I S 406 (A 4 e) = F 28 e) ∧ ∀ e, e < nE → ∀ k, k < nE → A 4 e = A 4 k → e = k
def edn (F : Nat → Nat → Int32) (b : Nat) : Nat := (F 23 b).toNatClampNeg
def P_9 (S : Hp) (A : Nat → Nat → Nat) (F : Nat → Nat → Int32) : Prop := ∀ b, b < 8 → ∀ e, e < edn F b → okA S 3 (A 3 (3 * b + e)) ∧ g_I S 300 (A 3 (3 * b + e)) = F 24 (18 * b + 6 * e) ∧ g_I S 301 (A 3 (3 * b + e)) = F 24 (18 * b + 6 * e + 1) ∧ g_I S 302 (A 3 (3 * b + e)) = F 24 (18 * b + 6 * e + 2) ∧ g_I S 303 (A 3 (3 * b + e)) = F 24 (18 * b + 6 * e + 3) ∧ g_I S 304 (A 3 (3 * b + e)) = F 24 (18 * b + 6 * e + 4) ∧ g_I S 305 (A 3 (3 * b + e)) = F 24 (18 * b + 6 * e + 5)
/-- the int rows that stand -/
def lv11 (n nL r : Nat) : Prop := r < 2 * n ∨ 48 ≤ r ∧ r < 48 + 3 * nL
def P_10 (A : Nat → Nat → Nat) (n nL : Nat) : Prop := ∀ r, lv11 n nL r → ∀ s, lv11 n nL s → A 11 r = A 11 s → r = s
/-! they stand while what stood stands -/
theorem P_0_ex {S S' : Hp} {x : Nat} {A : Nat → Nat → Nat} {D : Nat → Int32} (h : P_0 S x A D) (he : ex nl S S') : P_0 S' x A D := by
  obtain ⟨h1, h2, h3⟩ := h
  have k : nl 8 := ⟨by decide, by decide⟩
  refine ⟨ex_ok he h1, ?_, ?_⟩
  · simp only [ex_P he h1 k]; exact h2
  · simp only [ex_I he h1 k]; exact h3
theorem P_2_ex {S S' : Hp} {A : Nat → Nat → Nat} (h : P_2 S A) (he : ex nl S S') : P_2 S' A := by
  obtain ⟨⟨h1, h2⟩, h3⟩ := h
  have k : nl 13 := ⟨by decide, by decide⟩
  have k0 : nl 0 := ⟨by decide, by decide⟩
  refine ⟨⟨ex_ok he h1, (ex_N he h1 k).trans h2⟩, fun b hb => ?_⟩
  obtain ⟨p1, p2, p3⟩ := h3 b hb
  exact ⟨by rw [ex_O he h1 k]; exact p1, ex_ok he p2, (ex_P he p2 k0 _).trans p3⟩
theorem P_3_ex {S S' : Hp} {A : Nat → Nat → Nat} {F : Nat → Nat → Int32} {nT : Nat} (h : P_3 S A F nT) (he : ex nl S S') : P_3 S' A F nT := fun t ht => by
  obtain ⟨h1, h2⟩ := h t ht
  refine ⟨ex_ok he h1, ?_⟩
  simp only [ex_I he h1 ⟨by decide, by decide⟩]
  exact h2
theorem P_4_ex {S S' : Hp} {A : Nat → Nat → Nat} {F : Nat → Nat → Int32} {n : Nat} (h : P_4 S A F n) (he : ex nl S S') : P_4 S' A F n := ⟨fun t ht => by
  obtain ⟨h1, h2⟩ := h.1 t ht
  refine ⟨ex_ok he h1, ?_⟩
  simp only [ex_I he h1 ⟨by decide, by decide⟩]
  exact h2, h.2⟩
theorem P_5_ex {S S' : Hp} {A : Nat → Nat → Nat} {F : Nat → Nat → Int32} {n : Nat} (h : P_5 S A F n) (he : ex nl S S') : P_5 S' A F n := fun t ht => by
  obtain ⟨h1, ⟨a1, a2, a3, a4, a5, a6⟩, h2⟩ := h t ht
  have k : nl 1 := ⟨by decide, by decide⟩
  have k11 : nl 11 := ⟨by decide, by decide⟩
  refine ⟨ex_ok he h1, ⟨(ex_P he h1 k _).trans a1, (ex_P he h1 k _).trans a2, ex_ok he a3, ex_ok he a4, (ex_N he a3 k11).trans a5, (ex_N he a4 k11).trans a6⟩, ?_⟩
  simp only [ex_I he h1 k, ex_R he a3 k11, ex_R he a4 k11]
  exact h2
theorem P_6_ex {S S' : Hp} {A : Nat → Nat → Nat} {F : Nat → Nat → Int32} {n : Nat} (h : P_6 S A F n) (he : ex nl S S') : P_6 S' A F n := ⟨fun t ht => by
  obtain ⟨h1, h2, h3, h4, h5⟩ := h.1 t ht
  have k : nl 1 := ⟨by decide, by decide⟩
  have k14 : nl 14 := ⟨by decide, by decide⟩
  refine ⟨ex_ok he h1, (ex_P he h1 k _).trans h2, ex_ok he h3, (ex_N he h3 k14).trans h4, fun b hb => ?_⟩
  rw [ex_O he h3 k14]
  rcases h5 b hb with q | ⟨q1, q2, q3, q4⟩
  · exact Or.inl q
  · have k2 : nl 2 := ⟨by decide, by decide⟩
    refine Or.inr ⟨q1, q2, ex_ok he q3, ?_⟩
    rw [ex_P he q3 k2, ex_I he q3 k2, ex_I he q3 k2]
    exact q4, h.2⟩
theorem P_7_ex {S S' : Hp} {A : Nat → Nat → Nat} {F : Nat → Nat → Int32} {n : Nat} (h : P_7 S A F n) (he : ex nl S S') : P_7 S' A F n := ⟨fun t ht => by
  obtain ⟨h1, ⟨a1, a2, a3⟩, ⟨b1, b2, b3⟩, ⟨c1, c2, c3⟩, h2⟩ := h.1 t ht
  have k : nl 5 := ⟨by decide, by decide⟩
  have k11 : nl 11 := ⟨by decide, by decide⟩
  refine ⟨ex_ok he h1, ⟨(ex_P he h1 k _).trans a1, (ex_P he h1 k _).trans a2, (ex_P he h1 k _).trans a3⟩, ⟨ex_ok he b1, ex_ok he b2, ex_ok he b3⟩, ⟨(ex_N he b1 k11).trans c1, (ex_N he b2 k11).trans c2, (ex_N he b3 k11).trans c3⟩, ?_⟩
  simp only [ex_I he h1 k, ex_R he b1 k11, ex_R he b2 k11, ex_R he b3 k11]
  exact h2, h.2⟩
theorem P_8_ex {S S' : Hp} {A : Nat → Nat → Nat} {F : Nat → Nat → Int32} {n : Nat} (h : P_8 S A F n) (he : ex nl S S') : P_8 S' A F n := ⟨fun t ht => by
  obtain ⟨h1, h2⟩ := h.1 t ht
  refine ⟨ex_ok he h1, ?_⟩
  simp only [ex_I he h1 ⟨by decide, by decide⟩]
  exact h2, h.2⟩
theorem P_9_ex {S S' : Hp} {A : Nat → Nat → Nat} {F : Nat → Nat → Int32} (h : P_9 S A F) (he : ex nl S S') : P_9 S' A F := fun b hb e hee => by
  obtain ⟨h1, h2⟩ := h b hb e hee
  refine ⟨ex_ok he h1, ?_⟩
  simp only [ex_I he h1 ⟨by decide, by decide⟩]
  exact h2
end CREL
