/-! THE CLASS: all of its heap; reading -/
section CREAD
def cntF (n nT nL nE : Nat) (F : Nat → Nat → Int32) (q : Nat) : Nat := match q with
  | 0 => nT
  | 1 => n
  | 2 => nL
  | 3 => nE
  | q + 4 => edn F q
def elF (A : Nat → Nat → Nat) (q i : Nat) : Nat := match q with
  | 0 => A 7 i
  | 1 => A 1 i
  | 2 => A 5 i
  | 3 => A 4 i
  | q + 4 => A 3 (3 * q + i)
def CS (S : Hp) (x : Nat) (A : Nat → Nat → Nat) (n nT nL nE : Nat) (D : Nat → Int32) (F : Nat → Nat → Int32) : Prop :=
  P_0 S x A D ∧ LQ S A 12 (cntF n nT nL nE F) (elF A) ∧ P_2 S A ∧ P_3 S A F nT ∧ P_4 S A F n ∧ P_5 S A F n ∧ P_6 S A F n ∧ P_7 S A F nL ∧ P_8 S A F nE ∧ P_9 S A F ∧ P_10 A n nL
def W_N (D : Nat → Int32) (n nT nL nE d : Nat) : Prop := (n ≤ 24 ∧ nT ≤ 6 ∧ nL ≤ 8 ∧ nE ≤ 20 ∧ d < 10000) ∧ D 1 = nI nT ∧ D 5 = nI n ∧ D 19 = nI nL ∧ D 26 = nI nE ∧ D 0 = nI d
def W_M (F : Nat → Nat → Int32) (n : Nat) : Prop := ∀ i, i < n → ∃ tk ow : Nat, F 14 i = nI tk ∧ F 12 i = nI ow ∧ tk ≤ 9999 ∧ ow ≤ 4 * tk
def W_P (F : Nat → Nat → Int32) (n d : Nat) : Prop := ∀ i, i < n → ∀ k, k < 16 → F 16 (16 * i + k) = -1 ∨ isIx (F 16 (16 * i + k)) (d + 1)
def W_C (F : Nat → Nat → Int32) (n d : Nat) : Prop := ∀ i, i < n → ∀ b, b < 8 → isIx (F 18 (8 * i + b)) 3 ∧ (F 17 (8 * i + b) = -1 ∨ isIx (F 17 (8 * i + b)) (d + 1) ∧ (F 18 (8 * i + b)).toNatClampNeg < edn F b)
def W_E (F : Nat → Nat → Int32) : Prop := ∀ b, b < 8 → isIx (F 23 b) 4 ∧ ∀ e, e < edn F b → EV F b (18 * b + 6 * e)
def W_L (F : Nat → Nat → Int32) (nL : Nat) : Prop := ∀ l, l < nL → isIx (F 22 l) 65536
def W_V (F : Nat → Nat → Int32) (nE : Nat) : Prop := ∀ e, e < nE → EvV F e ∧ isIx (F 27 (6 * e + 3)) 10000 ∧ isIx (F 27 (6 * e + 4)) 24 ∧ isIx (F 27 (6 * e + 5)) 25
def W_0 (F : Nat → Nat → Int32) (n : Nat) : Prop := ∀ i, n ≤ i → i < 24 → F 12 i = 0 ∧ F 14 i = 0 ∧ (∀ k, k < 16 → F 16 (16 * i + k) = -1) ∧ ∀ b, b < 8 → F 17 (8 * i + b) = -1 ∧ isIx (F 18 (8 * i + b)) 3
def W_1 (F : Nat → Nat → Int32) (nL : Nat) : Prop := ∀ l, nL ≤ l → l < 8 → (∀ k, k < 3 → F 20 (6 * l + 2 * k) = 1 ∧ F 20 (6 * l + 2 * k + 1) = 0 ∧ F 21 (3 * l + k) = -1) ∧ F 22 l = 0
def W_2 (F : Nat → Nat → Int32) (nE : Nat) : Prop := ∀ e, nE ≤ e → e < 20 → F 28 e = 0
def CWf (n nT nL nE d : Nat) (D : Nat → Int32) (F : Nat → Nat → Int32) : Prop :=
  W_N D n nT nL nE d ∧ PL F n nT ∧ RM F nT ∧ W_M F n ∧ W_P F n d ∧ W_C F n d ∧ W_E F ∧ W_L F nL ∧ W_V F nE ∧ SN F nE ∧ W_0 F n ∧ W_1 F nL ∧ W_2 F nE
theorem dyT_cg {F G : Nat → Nat → Int32} (h16 : G 16 = F 16) (h17 : G 17 = F 17) (h18 : G 18 = F 18) (h24 : G 24 = F 24) (c : Nat) : dyT G c = dyT F c := by
  have e : ∀ b T, dayv G c b T = dayv F c b T := fun b T => by
    have ep : pd G c = pd F c := by
      funext k
      unfold pd
      rw [h16]
    unfold dayv eAt
    rw [ep, h17, h18, h24]
  funext k
  induction k with
  | zero => rfl
  | succ k ih =>
    funext b
    show (if b = k then dayv G c k (dyT G c k) else dyT G c k b) = (if b = k then dayv F c k (dyT F c k) else dyT F c k b)
    rw [ih, e]
theorem P_6_cg {S : Hp} {A : Nat → Nat → Nat} {F G : Nat → Nat → Int32} {n : Nat} (h16 : G 16 = F 16) (h17 : G 17 = F 17) (h18 : G 18 = F 18) (h24 : G 24 = F 24) (h : P_6 S A F n) : P_6 S A G n := by
  unfold P_6
  simp only [dyT_cg h16 h17 h18 h24, h17, h18]
  exact h
section
variable {S : Hp} {x : Nat} {A : Nat → Nat → Nat} {n nT nL nE : Nat} {D : Nat → Int32} {F : Nat → Nat → Int32}
theorem cs_L {q : Nat} (h : CS S x A n nT nL nE D F) (hq : q < 12) : LK S (A 10 q) (A 15 q) (cntF n nT nL nE F q) (elF A q) := h.2.1.1 q hq
theorem cs_ix1 {i N : Nat} {Q : Hp → Prop} {EQ : String → Hp → Prop} (hi : i < N) (hN : N < 2 ^ 31) (hQ : Q S) : wp_X8_requireIndex S (nI i) (nI N) Q EQ := by
  unfold wp_X8_requireIndex
  rw [if_neg (nI_pos (by omega)), if_pos (show nI i < nI N by rw [i_lt, nI_toInt (by omega), nI_toInt (by omega)]; omega)]
  exact hQ
theorem cs_ix0 {a b : Int32} {Q : Hp → Prop} {EQ : String → Hp → Prop} (hv : a < 0 ∨ b ≤ a) (hE : EQ "java/lang/IndexOutOfBoundsException" S) : wp_X8_requireIndex S a b Q EQ := by
  unfold wp_X8_requireIndex
  by_cases c : a < 0
  · rw [if_pos c]; exact hE
  · rw [if_neg c, if_neg (Int32.not_lt.mpr (hv.resolve_left c))]; exact hE
theorem cs_rg1 {a b c : Int32} {Q : Hp → Prop} {EQ : String → Hp → Prop} (hv : ¬ (a < b ∨ c < a)) (hQ : Q S) : wp_X8_requireRange S a b c Q EQ := by
  unfold wp_X8_requireRange
  rw [if_neg (fun q => hv (Or.inl q)), if_pos (Int32.not_lt.mp (fun q => hv (Or.inr q)))]
  exact hQ
theorem cs_rg0 {a b c : Int32} {Q : Hp → Prop} {EQ : String → Hp → Prop} (hv : a < b ∨ c < a) (hE : EQ "java/lang/IllegalArgumentException" S) : wp_X8_requireRange S a b c Q EQ := by
  unfold wp_X8_requireRange
  by_cases q : a < b
  · rw [if_pos q]; exact hE
  · rw [if_neg q, if_neg (Int32.not_le.mpr (hv.resolve_left q))]; exact hE
theorem cs_rm1 {a b : Int32} {Q : Hp → Prop} {EQ : String → Hp → Prop} (hv : a < b) (hQ : Q S) : wp_X8_requireRoom S a b Q EQ := by
  unfold wp_X8_requireRoom
  rw [if_pos hv]
  exact hQ
theorem cs_rm0 {a b : Int32} {Q : Hp → Prop} {EQ : String → Hp → Prop} (hv : ¬ a < b) (hE : EQ "java/lang/IllegalStateException" S) : wp_X8_requireRoom S a b Q EQ := by
  unfold wp_X8_requireRoom
  rw [if_neg hv]
  exact hE
theorem c8_childAt1 {Q : Option Nat → Hp → Prop} {EQ : String → Hp → Prop} {i : Nat} (h : CS S x A n nT nL nE D F) (h24 : n ≤ 24) (hi : i < n) (hQ : Q (some (A 1 i)) S) : wp_X8_childAt S x (nI i) Q EQ := by
  have hl := cs_L h (show 1 < 12 by decide)
  have hp : g_P S 801 x = some (A 10 1) := h.1.2.1.2.1
  unfold wp_X8_childAt
  refine ⟨h.1.1, ?_⟩
  rw [hp, rdS]
  refine ⟨hl.1, c_size hl (cs_ix1 hi (show n < 2 ^ 31 by omega) ⟨h.1.1, ?_⟩)⟩
  rw [hp, rdS]
  exact ⟨hl.1, c_get hl hi ⟨fun a e => by cases e; exact (h.2.2.2.2.1.1 i hi).1, hQ⟩⟩
theorem c8_childAt0 {Q : Option Nat → Hp → Prop} {EQ : String → Hp → Prop} {a : Int32} (h : CS S x A n nT nL nE D F) (hv : a < 0 ∨ nI n ≤ a) (hE : EQ "java/lang/IndexOutOfBoundsException" S) : wp_X8_childAt S x a Q EQ := by
  have hl := cs_L h (show 1 < 12 by decide)
  have hp : g_P S 801 x = some (A 10 1) := h.1.2.1.2.1
  unfold wp_X8_childAt
  refine ⟨h.1.1, ?_⟩
  rw [hp, rdS]
  exact ⟨hl.1, c_size hl (cs_ix0 hv hE)⟩
theorem c8_troopAt1 {Q : Option Nat → Hp → Prop} {EQ : String → Hp → Prop} {i : Nat} (h : CS S x A n nT nL nE D F) (h24 : nT ≤ 6) (hi : i < nT) (hQ : Q (some (A 7 i)) S) : wp_X8_troopAt S x (nI i) Q EQ := by
  have hl := cs_L h (show 0 < 12 by decide)
  have hp : g_P S 800 x = some (A 10 0) := h.1.2.1.1
  unfold wp_X8_troopAt
  refine ⟨h.1.1, ?_⟩
  rw [hp, rdS]
  refine ⟨hl.1, c_size hl (cs_ix1 hi (show nT < 2 ^ 31 by omega) ⟨h.1.1, ?_⟩)⟩
  rw [hp, rdS]
  exact ⟨hl.1, c_get hl hi ⟨fun a e => by cases e; exact (h.2.2.2.1 i hi).1, hQ⟩⟩
theorem c8_troopAt0 {Q : Option Nat → Hp → Prop} {EQ : String → Hp → Prop} {a : Int32} (h : CS S x A n nT nL nE D F) (hv : a < 0 ∨ nI nT ≤ a) (hE : EQ "java/lang/IndexOutOfBoundsException" S) : wp_X8_troopAt S x a Q EQ := by
  have hl := cs_L h (show 0 < 12 by decide)
  have hp : g_P S 800 x = some (A 10 0) := h.1.2.1.1
  unfold wp_X8_troopAt
  refine ⟨h.1.1, ?_⟩
  rw [hp, rdS]
  exact ⟨hl.1, c_size hl (cs_ix0 hv hE)⟩
theorem c8_leaderAt1 {Q : Option Nat → Hp → Prop} {EQ : String → Hp → Prop} {i : Nat} (h : CS S x A n nT nL nE D F) (h24 : nL ≤ 8) (hi : i < nL) (hQ : Q (some (A 5 i)) S) : wp_X8_leaderAt S x (nI i) Q EQ := by
  have hl := cs_L h (show 2 < 12 by decide)
  have hp : g_P S 802 x = some (A 10 2) := h.1.2.1.2.2.1
  unfold wp_X8_leaderAt
  refine ⟨h.1.1, ?_⟩
  rw [hp, rdS]
  refine ⟨hl.1, c_size hl (cs_ix1 hi (show nL < 2 ^ 31 by omega) ⟨h.1.1, ?_⟩)⟩
  rw [hp, rdS]
  exact ⟨hl.1, c_get hl hi ⟨fun a e => by cases e; exact (h.2.2.2.2.2.2.2.1.1 i hi).1, hQ⟩⟩
theorem c8_leaderAt0 {Q : Option Nat → Hp → Prop} {EQ : String → Hp → Prop} {a : Int32} (h : CS S x A n nT nL nE D F) (hv : a < 0 ∨ nI nL ≤ a) (hE : EQ "java/lang/IndexOutOfBoundsException" S) : wp_X8_leaderAt S x a Q EQ := by
  have hl := cs_L h (show 2 < 12 by decide)
  have hp : g_P S 802 x = some (A 10 2) := h.1.2.1.2.2.1
  unfold wp_X8_leaderAt
  refine ⟨h.1.1, ?_⟩
  rw [hp, rdS]
  exact ⟨hl.1, c_size hl (cs_ix0 hv hE)⟩
theorem c8_eventAt1 {Q : Option Nat → Hp → Prop} {EQ : String → Hp → Prop} {i : Nat} (h : CS S x A n nT nL nE D F) (h24 : nE ≤ 20) (hi : i < nE) (hQ : Q (some (A 4 i)) S) : wp_X8_eventAt S x (nI i) Q EQ := by
  have hl := cs_L h (show 3 < 12 by decide)
  have hp : g_P S 803 x = some (A 10 3) := h.1.2.1.2.2.2.1
  unfold wp_X8_eventAt
  refine ⟨h.1.1, ?_⟩
  rw [hp, rdS]
  refine ⟨hl.1, c_size hl (cs_ix1 hi (show nE < 2 ^ 31 by omega) ⟨h.1.1, ?_⟩)⟩
  rw [hp, rdS]
  exact ⟨hl.1, c_get hl hi ⟨fun a e => by cases e; exact (h.2.2.2.2.2.2.2.2.1.1 i hi).1, hQ⟩⟩
theorem c8_eventAt0 {Q : Option Nat → Hp → Prop} {EQ : String → Hp → Prop} {a : Int32} (h : CS S x A n nT nL nE D F) (hv : a < 0 ∨ nI nE ≤ a) (hE : EQ "java/lang/IndexOutOfBoundsException" S) : wp_X8_eventAt S x a Q EQ := by
  have hl := cs_L h (show 3 < 12 by decide)
  have hp : g_P S 803 x = some (A 10 3) := h.1.2.1.2.2.2.1
  unfold wp_X8_eventAt
  refine ⟨h.1.1, ?_⟩
  rw [hp, rdS]
  exact ⟨hl.1, c_size hl (cs_ix0 hv hE)⟩
/-- one turn of a loop over the children -/
theorem cs_turn {i : Nat} {Q : Int32 → Hp → Prop} {K : Option Nat → Hp → Prop} (h : CS S x A n nT nL nE D F) (h24 : n ≤ 24) (hi : i ≤ n) (h0 : i = n → Q (nI i) S) (h1 : i < n → K (some (A 1 i)) S) : okA S 8 x ∧ rd S 10 (g_P S 801 x) (fun a2 => wp_Jx4a65c_size_8abf5 S a2 (fun r6 S5 => if r6 ≤ nI i then Q r6 S5 else (okA S5 8 x ∧ (rd S5 10 (g_P S5 801 x) (fun a8 => wp_Jx4a65c_get_915e3 S5 a8 (nI i) (fun r12 S11 => (∀ a, r12 = some a → okA S11 1 a) ∧ K r12 S11)))))) := by
  have hl := cs_L h (show 1 < 12 by decide)
  have hp : g_P S 801 x = some (A 10 1) := h.1.2.1.2.1
  refine ⟨h.1.1, ?_⟩
  rw [hp, rdS]
  refine ⟨hl.1, c_size hl ?_⟩
  show if nI n ≤ nI i then _ else _
  by_cases e : n ≤ i
  · rw [if_pos (nI_le e (by omega))]
    have : i = n := by omega
    subst this
    exact h0 rfl
  · rw [if_neg (nI_ge (by omega) (by omega))]
    refine ⟨h.1.1, ?_⟩
    rw [hp, rdS]
    exact ⟨hl.1, c_get hl (by show i < n; omega) ⟨fun a e2 => by cases e2; exact (h.2.2.2.2.1.1 i (by omega)).1, h1 (by omega)⟩⟩
theorem cs_c (h : CS S x A n nT nL nE D F) {i : Nat} (hi : i < n) : okA S 1 (A 1 i) ∧ g_I S 100 (A 1 i) = nI i ∧ g_I S 101 (A 1 i) = F 6 i ∧ g_I S 102 (A 1 i) = F 7 i ∧ g_I S 103 (A 1 i) = F 8 i ∧ g_I S 104 (A 1 i) = F 11 i ∧ (F 8 i = -1 ∨ g_I S 105 (A 1 i) = F 9 i) ∧ g_I S 106 (A 1 i) = F 14 i ∧ g_I S 107 (A 1 i) = F 12 i ∧ (F 12 i = 0 ∨ g_I S 108 (A 1 i) = F 13 i) := h.2.2.2.2.1.1 i hi
theorem c8_childrenIn {t : Int32} {Q : Int32 → Hp → Prop} (h : CS S x A n nT nL nE D F) (h24 : n ≤ 24) (hQ : Q (nI (inT F n t)) S) : wp_X8_childrenIn S x t Q := by
  have hL : ∀ (fuel k : Nat), k ≤ n → n < k + fuel → wp_X8_childrenIn_L4 x t Q fuel S (nI (ct (fun c => decide (F 7 c = t)) k)) (nI k) := by
    intro fuel
    induction fuel with
    | zero => intro k h1 h2; omega
    | succ f ih =>
      intro k h1 h2
      unfold wp_X8_childrenIn_L4
      refine cs_turn (Q := fun _ S => Q _ S) (K := fun r12 S11 => rd S11 1 r12 _) h h24 h1 (fun e => ?_) (fun hk => ?_)
      · subst e
        exact hQ
      · obtain ⟨c0, -, -, c2, -⟩ := cs_c h hk
        show rd S 1 (some (A 1 k)) _
        rw [rdS]
        refine ⟨c0, ?_⟩
        rw [c2, show nI k + 1 = nI (k + 1) from nI_add k 1]
        have hs := ih (k + 1) (by omega) (by omega)
        by_cases c : F 7 k = t
        · rw [if_pos c, nI_1]
          simpa [_root_.id, ct, c] using hs
        · rw [if_neg c]
          simpa [_root_.id, ct, c] using hs
  unfold wp_X8_childrenIn
  exact ⟨n + 1, hL (n + 1) 0 (by omega) (by omega)⟩
end
end CREAD
