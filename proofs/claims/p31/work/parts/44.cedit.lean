/-! THE CLASS: editions -/
section CEDIT
variable {S : Hp} {x : Nat} {A : Nat → Nat → Nat} {n nT nL nE : Nat} {D : Nat → Int32} {F : Nat → Nat → Int32} {Q : Int32 → Hp → Prop} {EQ : String → Hp → Prop}
theorem mxN_cg {p q : Nat → Nat} {s d : Nat} : ∀ k, (∀ i, i < k → p i = q i) → mxN p s d k = mxN q s d k
  | 0, _ => rfl
  | k + 1, h => by
    unfold mxN
    rw [mxN_cg k (fun i hi => h i (by omega)), h k (by omega)]
theorem dmT_cg {p q : Nat → Nat} {s m : Nat} (h : ∀ i, i < 16 → p i = q i) : ∀ k, k ≤ 16 → dmT p s m k = dmT q s m k
  | 0, _ => rfl
  | k + 1, hk => by
    unfold dmT dst
    rw [dmT_cg h k (by omega), h k (by omega)]
    have e : cnD p s (q k) 16 = cnD q s (q k) 16 := ct_cong (fun i hi => by rw [h i hi])
    rw [e]
theorem dyT_loc {G : Nat → Nat → Int32} {c : Nat} (h16 : ∀ k, k < 16 → G 16 (16 * c + k) = F 16 (16 * c + k)) (h17 : ∀ b, b < 8 → G 17 (8 * c + b) = F 17 (8 * c + b)) (h18 : ∀ b, b < 8 → G 18 (8 * c + b) = F 18 (8 * c + b)) (h24 : ∀ b, b < 8 → ¬ F 17 (8 * c + b) = -1 → ∀ r, r < 6 → G 24 (eAt F c b + r) = F 24 (eAt F c b + r)) : ∀ k, k ≤ 8 → dyT G c k = dyT F c k
  | 0, _ => rfl
  | k + 1, hk => by
    have ih := dyT_loc h16 h17 h18 h24 k (by omega)
    have ep : ∀ i, i < 16 → pd G c i = pd F c i := fun i hi => by
      unfold pd
      rw [h16 i hi]
    have ev : ∀ T, dayv G c k T = dayv F c k T := fun T => by
      unfold dayv
      have ea : eAt G c k = eAt F c k := by
        unfold eAt
        rw [h18 k (by omega)]
      rw [ea, h17 k (by omega)]
      by_cases hz : F 17 (8 * c + k) = -1
      · rw [if_pos hz, if_pos hz]
      · rw [if_neg hz, if_neg hz]
        have w := h24 k (by omega) hz
        have w0 : G 24 (eAt F c k) = F 24 (eAt F c k) := w 0 (by omega)
        rw [w0, w 1 (by omega), w 2 (by omega), w 3 (by omega), w 4 (by omega), mxN_cg 16 ep, dmT_cg ep 16 (Nat.le_refl _)]
    funext b
    show (if b = k then dayv G c k (dyT G c k) else dyT G c k b) = (if b = k then dayv F c k (dyT F c k) else dyT F c k b)
    rw [ih, ev]
theorem c8_badgeAt1 {b : Nat} {Q : Option Nat → Hp → Prop} {EQ : String → Hp → Prop} (h : CS S x A n nT nL nE D F) (hb : b < 8) (hQ : Q (some (A 0 b)) S) : wp_X8_badgeAt S x (nI b) Q EQ := by
  obtain ⟨⟨p1, p2⟩, p3⟩ := h.2.2.1
  have hp : g_P S 804 x = some (A 13 0) := h.1.2.1.2.2.2.2
  unfold wp_X8_badgeAt
  refine ⟨h.1.1, ?_⟩
  rw [hp, rdS]
  refine ⟨p1, ?_⟩
  rw [p2]
  refine cs_ix1 (N := 8) hb (by omega) ⟨h.1.1, ?_⟩
  rw [hp, rdS]
  refine ⟨p1, by rw [p2]; exact vp_in_nI hb (by omega), ?_⟩
  rw [nIc (by omega), (p3 b hb).1]
  exact hQ
theorem c8_badgeAt0 {a : Int32} {Q : Option Nat → Hp → Prop} {EQ : String → Hp → Prop} (h : CS S x A n nT nL nE D F) (hv : a < 0 ∨ 7 < a) (hE : EQ "java/lang/IndexOutOfBoundsException" S) : wp_X8_badgeAt S x a Q EQ := by
  obtain ⟨⟨p1, p2⟩, p3⟩ := h.2.2.1
  have hp : g_P S 804 x = some (A 13 0) := h.1.2.1.2.2.2.2
  unfold wp_X8_badgeAt
  refine ⟨h.1.1, ?_⟩
  rw [hp, rdS]
  refine ⟨p1, ?_⟩
  rw [p2]
  refine cs_ix0 ?_ hE
  rcases hv with w | w
  · exact Or.inl w
  · refine Or.inr ?_
    rw [i_lt] at w
    rw [i_le]
    rw [show (7 : Int32).toInt = 7 from rfl] at w
    rw [show (Int32.ofNat 8).toInt = 8 from rfl]
    omega
theorem ediF_o {b e j : Nat} {m1 c y p g l : Int32} (h : j < 18 * b + 6 * e ∨ 18 * b + 6 * e + 5 < j) : ediF F b e m1 c y p g l 24 j = F 24 j := by
  have h0 : ¬ j = 18 * b + 6 * e := by omega
  have h1 : ¬ j = 18 * b + 6 * e + 1 := by omega
  have h2 : ¬ j = 18 * b + 6 * e + 2 := by omega
  have h3 : ¬ j = 18 * b + 6 * e + 3 := by omega
  have h4 : ¬ j = 18 * b + 6 * e + 4 := by omega
  have h5 : ¬ j = 18 * b + 6 * e + 5 := by omega
  simp [ediF, g_2, h0, h1, h2, h3, h4, h5]
theorem ediF_r {b e r : Nat} {m1 c y p g l : Int32} (h3 : r ≠ 23) (h4 : r ≠ 24) : ediF F b e m1 c y p g l r = F r := by
  funext i
  simp [ediF, g_2, h3, h4]
theorem ediF_23 {b e k : Nat} {m1 c y p g l : Int32} : ediF F b e m1 c y p g l 23 k = if k = b then nI (e + 1) else F 23 k := by
  simp [ediF, g_2]
theorem LQ_cg2 {A A' : Nat → Nat → Nat} {qn : Nat} {ct ct' : Nat → Nat} {el el' : Nat → Nat → Nat} (h : LQ S A qn ct el) (h10 : A' 10 = A 10) (h15 : A' 15 = A 15) (hc : ∀ q, q < qn → ct' q = ct q) (he : ∀ q, q < qn → ∀ i, i < ct q → el' q i = el q i) : LQ S A' qn ct' el' := by
  unfold LQ at h ⊢
  rw [h10, h15]
  refine ⟨fun q hq => ?_, h.2.1, fun q hq r hr a b => ?_⟩
  · obtain ⟨p1, p2, p3⟩ := h.1 q hq
    rw [hc q hq]
    refine ⟨p1, p2, ?_⟩
    rcases p3 with w | ⟨w1, w2, w3, w4, w5, w6, w7, w8⟩
    · exact Or.inl w
    · exact Or.inr ⟨w1, w2, w3, w4, w5, w6, w7, fun i hi => by rw [he q hq i hi]; exact w8 i hi⟩
  · rw [hc q hq] at a
    rw [hc r hr] at b
    exact h.2.2 q hq r hr a b
theorem c3_init {q : Nat} {a1 a2 a3 a4 a5 a6 : Int32} {Q : Hp → Prop} (h : NB S q 3 (fun _ => 0) (fun _ => none)) (hQ : ∀ S' fi fp, exB (fun b => b ≠ q) S S' → NB S' q 3 fi fp → (fi 300 = a1 ∧ fi 301 = a2 ∧ fi 302 = a3 ∧ fi 303 = a4 ∧ fi 304 = a5 ∧ fi 305 = a6) → Q S') : wp_X3_init S q a1 a2 a3 a4 a5 a6 Q := by
  unfold wp_X3_init
  refine st_I h (fun S1 h1 e1 => st_I h1 (fun S2 h2 e2 => st_I h2 (fun S3 h3 e3 => st_I h3 (fun S4 h4 e4 => st_I h4 (fun S5 h5 e5 => st_I h5 (fun S6 h6 e6 => ?_))))))
  have id' : ∀ b : Nat, b ≠ q → b ≠ q := fun _ w => w
  exact hQ S6 _ _ (xb_t (xb_t (xb_t (xb_t (xb_t e1 e2 id') e3 id') e4 id') e5 id') e6 id') h6 (by simp [va_up])
/-- the end of a call of edition -/
def edT (S : Hp) (a0 : Nat) (x2 x3 x4 x5 x6 x7 : Int32) (Q : Int32 → Hp → Prop) (EQ : String → Hp → Prop) : Prop :=
  rd S 0 (some a0) (fun a11 => rd S 10 (g_P S 0 a11) (fun a14 => wp_Jx4a65c_size_8abf5 S a14 (fun r18 S17 => wp_X8_requireRoom S17 r18 (3 : Int32) (fun S19 => rd S19 0 (some a0) (fun a20 => (∀ a23, a23 ∉ g_L S19 → lt (n_O 3 S19 a23) (fun S24 => wp_X3_init S24 a23 x2 x3 x4 x5 x6 x7 (fun S25 => rd S25 10 (g_P S19 0 a20) (fun a26 => wp_Jx4a65c_add_9ea2d S25 a26 (some a23) (fun r30 S29 => rd S29 0 (some a0) (fun a31 => rd S29 10 (g_P S29 0 a31) (fun a34 => wp_Jx4a65c_size_8abf5 S29 a34 (fun r38 S37 => Q (r38 - (1 : Int32)) S37)))))))))) EQ)))
def edA (A : Nat → Nat → Nat) (b e d q : Nat) : Nat → Nat → Nat := g_2 (g_2 A 15 (4 + b) d) 3 (3 * b + e) q
theorem edA_o {b e d q k : Nat} (h1 : k ≠ 3) (h2 : k ≠ 15) : edA A b e d q k = A k := by
  funext i
  simp [edA, g_2, h1, h2]
theorem edA_3 {b e d q i : Nat} : edA A b e d q 3 i = if i = 3 * b + e then q else A 3 i := by
  simp [edA, g_2]
theorem edA_15 {b e d q : Nat} : edA A b e d q 15 = g_2 A 15 (4 + b) d 15 := by
  funext i
  simp [edA, g_2]
theorem c8_edT0 {b e : Nat} {x2 x3 x4 x5 x6 x7 : Int32} {d0 : Nat} (h : CS S x A n nT nL nE D F) (hC : W_C F n d0) (hE : W_E F) (hb : b < 8) (he : F 23 b = nI e) (h3 : e < 3) (hQ : ∀ S' A', CS S' x A' n nT nL nE D (ediF F b e x2 x3 x4 x5 x6 x7) → Q (nI e) S') : edT S (A 0 b) x2 x3 x4 x5 x6 x7 Q EQ := by
  obtain ⟨q1, q2, q3⟩ := h.2.2.1.2 b hb
  have eb : edn F b = e := by
    unfold edn
    rw [he, nIc (by omega)]
  have hl : LK S (A 10 (4 + b)) (A 15 (4 + b)) e (fun i => A 3 (3 * b + i)) := by
    have := cs_L h (show b + 4 < 12 by omega)
    rw [Nat.add_comm b 4] at this
    have e1 : cntF n nT nL nE F (4 + b) = e := by
      rw [Nat.add_comm 4 b]
      exact eb
    have e2 : elF A (4 + b) = fun i => A 3 (3 * b + i) := by
      rw [Nat.add_comm 4 b]
      rfl
    rw [e1, e2] at this
    exact this
  unfold edT
  rw [rdS]
  refine ⟨q2, ?_⟩
  rw [q3, rdS]
  refine ⟨hl.1, c_size hl (cs_rm1 (show nI e < 3 from nI_lt' (b := 3) h3 (by omega)) ?_)⟩
  rw [rdS]
  refine ⟨q2, fun q hq => ?_⟩
  have x1 : exB (fun _ => True) S (n_O 3 S q) := exB_nO 3 hq
  rw [lt_v]
  refine c3_init (nb_new 3 S q) (fun S2 fi fp e2 b2 hfi => ?_)
  have x2' : ex aK S S2 := ex_new hq x1 e2
  have hL2 := LQ_ex h.2.1 x2'
  have ct4 : cntF n nT nL nE F (4 + b) = e := by
    rw [Nat.add_comm 4 b]
    exact eb
  have el4 : elF A (4 + b) = fun i => A 3 (3 * b + i) := by
    rw [Nat.add_comm 4 b]
    rfl
  rw [q3, rdS]
  refine ⟨(hL2.1 (4 + b) (by omega)).1, c_add hL2 (show 4 + b < 12 by omega) (by rw [ct4]; omega) (show 3 < 10 by decide) (fun i hi => ?_) b2.1 (fun S' d hL' he' => ?_)⟩
  · rw [ct4] at hi
    rw [el4]
    exact ex_ok x2' (h.2.2.2.2.2.2.2.2.2.1 b hb i (by rw [eb]; exact hi)).1
  have hE' := ex_trans (ex_nl x2') he'
  obtain ⟨r0', r2', r3', r4', r5', r6', r7', r8', r9', r10'⟩ := cs_rest h hE'
  have k3 : nl 3 := ⟨by decide, by decide⟩
  have bI : ∀ m, g_I S' m q = fi m := fun m => (ex_I he' b2.1 k3 m).trans (b2.2.1 m)
  obtain ⟨i0, i1, i2, i3, i4, i5⟩ := hfi
  have e3' : ∀ k, k < 8 → edn F k ≤ 3 := fun k hk => by
    obtain ⟨w, hw, ew⟩ := (hE k hk).1
    unfold edn
    rw [ew, nIc (by omega)]
    omega
  have o : ∀ k, k ≠ 3 → k ≠ 15 → edA A b e d q k = A k := fun k h1 h2 => edA_o h1 h2
  have f : ∀ r, r ≠ 23 → r ≠ 24 → ediF F b e x2 x3 x4 x5 x6 x7 r = F r := fun r h1 h2 => ediF_r h1 h2
  have en : ∀ k, edn (ediF F b e x2 x3 x4 x5 x6 x7) k = if k = b then e + 1 else edn F k := fun k => by
    unfold edn
    rw [ediF_23]
    by_cases w : k = b
    · rw [if_pos w, if_pos w, nIc (by omega)]
    · rw [if_neg w, if_neg w]
  have hcs : CS S' x (edA A b e d q) n nT nL nE D (ediF F b e x2 x3 x4 x5 x6 x7) := by
    refine ⟨P_0_cA (A := A) (o 10 (by decide) (by decide)) (o 13 (by decide) (by decide)) r0', LQ_cg2 hL' (o 10 (by decide) (by decide)) edA_15 (fun k hk => ?_) (fun k hk i hi => ?_), P_2_cA (A := A) (o 13 (by decide) (by decide)) (o 0 (by decide) (by decide)) (o 10 (by decide) (by decide)) r2', P_3_cA (A := A) (F := F) (o 7 (by decide) (by decide)) (f 2 (by decide) (by decide)) (f 3 (by decide) (by decide)) (f 4 (by decide) (by decide)) r3', P_4_cA (A := A) (F := F) (o 1 (by decide) (by decide)) (f 6 (by decide) (by decide)) (f 7 (by decide) (by decide)) (f 8 (by decide) (by decide)) (f 9 (by decide) (by decide)) (f 11 (by decide) (by decide)) (f 12 (by decide) (by decide)) (f 13 (by decide) (by decide)) (f 14 (by decide) (by decide)) r4', P_5_cA (A := A) (F := F) (o 1 (by decide) (by decide)) (o 11 (by decide) (by decide)) (f 16 (by decide) (by decide)) r5', ⟨fun i hi => ?_, ?_⟩, P_7_cA (A := A) (F := F) (o 5 (by decide) (by decide)) (o 11 (by decide) (by decide)) (f 20 (by decide) (by decide)) (f 21 (by decide) (by decide)) (f 22 (by decide) (by decide)) r7', P_8_cA (A := A) (F := F) (o 4 (by decide) (by decide)) (f 27 (by decide) (by decide)) (f 28 (by decide) (by decide)) r8', fun b' hb' e' he'' => ?_, P_10_cA (A := A) (o 11 (by decide) (by decide)) r10'⟩
    · by_cases w : k = 4 + b
      · subst w
        rw [va_up_self, ct4, Nat.add_comm 4 b]
        show edn _ b = e + 1
        rw [en, if_pos rfl]
      · rw [va_up_ne _ _ w]
        match k with
        | 0 => rfl
        | 1 => rfl
        | 2 => rfl
        | 3 => rfl
        | k + 4 =>
          show edn _ k = edn _ k
          rw [en, if_neg (by omega)]
    · by_cases w : k = 4 + b
      · subst w
        rw [ct4]
        have e9 : elF (edA A b e d q) (4 + b) i = if i = e then q else A 3 (3 * b + i) := by
          rw [Nat.add_comm 4 b]
          show edA A b e d q 3 (3 * b + i) = _
          rw [edA_3]
          by_cases w : i = e
          · rw [if_pos w, if_pos (by omega)]
          · rw [if_neg w, if_neg (by omega)]
        rw [e9]
        by_cases w : i = e
        · subst w
          rw [if_pos rfl, g_2s]
        · rw [if_neg w, g_2n _ _ (fun v => w v.2), el4]
      · rw [va_up_ne _ _ w] at hi
        rw [g_2n _ _ (fun v => w v.1)]
        match k with
        | 0 => exact congrFun (o 7 (by decide) (by decide)) i
        | 1 => exact congrFun (o 1 (by decide) (by decide)) i
        | 2 => exact congrFun (o 5 (by decide) (by decide)) i
        | 3 => exact congrFun (o 4 (by decide) (by decide)) i
        | k + 4 =>
          have hi' : i < edn F k := hi
          have := e3' k (by omega)
          show edA A b e d q 3 (3 * k + i) = A 3 (3 * k + i)
          rw [edA_3, if_neg (by omega)]
    · obtain ⟨a1, a2, a3, a4, a5⟩ := r6'.1 i hi
      rw [o 1 (by decide) (by decide), o 14 (by decide) (by decide), o 2 (by decide) (by decide), f 17 (by decide) (by decide), f 18 (by decide) (by decide)]
      refine ⟨a1, a2, a3, a4, fun b' hb' => ?_⟩
      rcases a5 b' hb' with w | ⟨w1, w2, w3, w4, w5, w6⟩
      · exact Or.inl w
      · obtain ⟨-, v⟩ := hC i hi b' hb'
        obtain ⟨-, v⟩ := v.resolve_left w1
        have v3 := e3' b' hb'
        refine Or.inr ⟨w1, w2, w3, ?_, w5, ?_⟩
        · rw [edA_3, if_neg ?_]
          · exact w4
          · intro z
            have : b' = b := by omega
            subst this
            omega
        · rw [dyT_loc (F := F) (fun k hk => by rw [f 16 (by decide) (by decide)]) (fun k hk => by rw [f 17 (by decide) (by decide)]) (fun k hk => by rw [f 18 (by decide) (by decide)]) (fun b2 hb2 z r hr => ?_) 8 (Nat.le_refl _)]
          · exact w6
          · obtain ⟨-, u⟩ := hC i hi b2 hb2
            obtain ⟨-, u⟩ := u.resolve_left z
            have u3 := e3' b2 hb2
            refine ediF_o ?_
            unfold eAt
            by_cases z2 : b2 = b
            · subst z2
              omega
            · omega
    · rw [o 14 (by decide) (by decide), o 2 (by decide) (by decide), f 17 (by decide) (by decide)]
      exact r6'.2
    · rw [en] at he''
      by_cases w : b' = b ∧ e' = e
      · obtain ⟨rfl, rfl⟩ := w
        rw [edA_3, if_pos rfl]
        refine ⟨ex_ok he' b2.1, ?_, ?_, ?_, ?_, ?_, ?_⟩
        · rw [bI, i0]; simp [ediF, g_2]
        · rw [bI, i1]; simp [ediF, g_2]
        · rw [bI, i2]; simp [ediF, g_2]
        · rw [bI, i3]; simp [ediF, g_2]
        · rw [bI, i4]; simp [ediF, g_2]
        · rw [bI, i5]; simp [ediF, g_2]
      · have v : e' < edn F b' := by
          by_cases z : b' = b
          · rw [if_pos z] at he''
            rw [z, eb]
            omega
          · rw [if_neg z] at he''
            exact he''
        have v3 := e3' b' hb'
        rw [edA_3, if_neg (by omega), ediF_o (by omega), ediF_o (by omega), ediF_o (by omega), ediF_o (by omega), ediF_o (by omega), ediF_o (by omega)]
        exact r9' b' hb' e' v
  obtain ⟨q1', q2', q3'⟩ := hcs.2.2.1.2 b hb
  rw [o 0 (by decide) (by decide)] at q2' q3'
  have hl' : LK S' (edA A b e d q 10 (4 + b)) (edA A b e d q 15 (4 + b)) (e + 1) (fun i => edA A b e d q 3 (3 * b + i)) := by
    have := cs_L hcs (show b + 4 < 12 by omega)
    rw [Nat.add_comm b 4] at this
    have e1 : cntF n nT nL nE (ediF F b e x2 x3 x4 x5 x6 x7) (4 + b) = e + 1 := by
      rw [Nat.add_comm 4 b]
      show edn _ b = _
      rw [en, if_pos rfl]
    have e2 : elF (edA A b e d q) (4 + b) = fun i => edA A b e d q 3 (3 * b + i) := by
      rw [Nat.add_comm 4 b]
      rfl
    rw [e1, e2] at this
    exact this
  rw [rdS]
  refine ⟨q2', ?_⟩
  rw [q3', rdS]
  refine ⟨hl'.1, c_size hl' ?_⟩
  rw [nI_pred]
  exact hQ S' _ hcs
theorem c8_edT1 {b : Nat} {x2 x3 x4 x5 x6 x7 : Int32} (h : CS S x A n nT nL nE D F) (hb : b < 8) (he : F 23 b = 3) (hE : EQ "java/lang/IllegalStateException" S) : edT S (A 0 b) x2 x3 x4 x5 x6 x7 Q EQ := by
  obtain ⟨q1, q2, q3⟩ := h.2.2.1.2 b hb
  have eb : edn F b = 3 := by
    unfold edn
    rw [he]
    rfl
  have hl := cs_L h (show b + 4 < 12 by omega)
  rw [Nat.add_comm b 4] at hl
  have e1 : cntF n nT nL nE F (4 + b) = 3 := by
    rw [Nat.add_comm 4 b]
    exact eb
  rw [e1] at hl
  unfold edT
  rw [rdS]
  refine ⟨q2, ?_⟩
  rw [q3, rdS]
  exact ⟨hl.1, c_size hl (cs_rm0 (by decide) hE)⟩
theorem c8_edition1 {a1 a2 a3 a4 a5 a6 a7 : Int32} (h : CS S x A n nT nL nE D F) (hv : a1 < 0 ∨ 7 < a1) (hE : EQ "java/lang/IndexOutOfBoundsException" S) : wp_X8_edition S x a1 a2 a3 a4 a5 a6 a7 Q EQ := by
  unfold wp_X8_edition
  exact ⟨h.1.1, c8_badgeAt0 h hv hE⟩
theorem c8_edition2 {b : Nat} {a2 a3 a4 a5 a6 a7 : Int32} (h : CS S x A n nT nL nE D F) (hb : b < 8) (hw : ¬ edV (nI b) a2 a3 a4 a5 a6 a7) (hE : EQ "java/lang/IllegalArgumentException" S) : wp_X8_edition S x (nI b) a2 a3 a4 a5 a6 a7 Q EQ := by
  unfold wp_X8_edition
  refine ⟨h.1.1, c8_badgeAt1 h hb ?_⟩
  by_cases h1 : a2 < 0 ∨ 65535 < a2
  · exact cs_rg0 h1 hE
  refine cs_rg1 h1 ?_
  by_cases h2 : a3 < 0 ∨ 65535 < a3
  · exact cs_rg0 h2 hE
  refine cs_rg1 h2 ?_
  by_cases h3 : a2 &&& a3 = 0
  · rw [if_pos h3]
    obtain ⟨c, hc, rfl⟩ := sk_nat h2
    refine cJ_bitCount16 hc ?_
    by_cases h4 : a4 < 0 ∨ nI (pop c 16) < a4
    · exact cs_rg0 h4 hE
    refine cs_rg1 h4 ?_
    by_cases h5 : a5 < -1 ∨ nI b - 1 < a5
    · exact cs_rg0 h5 hE
    refine cs_rg1 h5 ?_
    by_cases h6 : a5 = -1
    · rw [if_pos h6]
      by_cases h7 : a7 < 0 ∨ 4000 < a7
      · exact cs_rg0 h7 hE
      · exact absurd ⟨h1, h2, h3, by rw [nIc (by omega)]; exact h4, h5, Or.inl h6, h7⟩ hw
    · rw [if_neg h6]
      by_cases h8 : a6 < 0 ∨ 400 < a6
      · exact cs_rg0 h8 hE
      refine cs_rg1 h8 ?_
      by_cases h7 : a7 < 0 ∨ 4000 < a7
      · exact cs_rg0 h7 hE
      · exact absurd ⟨h1, h2, h3, by rw [nIc (by omega)]; exact h4, h5, Or.inr h8, h7⟩ hw
  · rw [if_neg h3]
    exact hE
theorem c8_editionT {b : Nat} {a2 a3 a4 a5 a6 a7 : Int32} (h : CS S x A n nT nL nE D F) (hb : b < 8) (hw : edV (nI b) a2 a3 a4 a5 a6 a7) (hT : edT S (A 0 b) a2 a3 a4 a5 a6 a7 Q EQ) : wp_X8_edition S x (nI b) a2 a3 a4 a5 a6 a7 Q EQ := by
  obtain ⟨h1, h2, h3, h4, h5, h6, h7⟩ := hw
  unfold wp_X8_edition
  refine ⟨h.1.1, c8_badgeAt1 h hb (cs_rg1 h1 (cs_rg1 h2 ?_))⟩
  rw [if_pos h3]
  obtain ⟨c, hc, rfl⟩ := sk_nat h2
  rw [nIc (by omega)] at h4
  refine cJ_bitCount16 hc (cs_rg1 h4 (cs_rg1 h5 ?_))
  by_cases h8 : a5 = -1
  · rw [if_pos h8]
    exact cs_rg1 h7 hT
  · rw [if_neg h8]
    exact cs_rg1 (h6.resolve_left h8) (cs_rg1 h7 hT)
end CEDIT
