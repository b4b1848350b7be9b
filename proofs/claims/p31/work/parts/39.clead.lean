/-! THE CLASS: leaders -/
section CLEAD
variable {S : Hp} {x : Nat} {A : Nat → Nat → Nat} {n nT nL nE : Nat} {D : Nat → Int32} {F : Nat → Nat → Int32} {Q : Int32 → Hp → Prop} {EQ : String → Hp → Prop}
theorem sR_ne {S : Hp} {a b i : Nat} {v : Int32} (h : b ≠ a) : g_R (s_R S a i v) b = g_R S b := funext fun _ => g_2n _ _ (fun w => h w.1)
theorem sR_eq {S : Hp} {a i : Nat} {v : Int32} : g_R (s_R S a i v) a = va_up (g_R S a) i v := by
  funext j
  by_cases e : j = i
  · subst e
    rw [va_up_self]
    exact g_2s _ _ _ _
  · rw [va_up_ne _ _ e]
    exact g_2n _ _ (fun w => e w.2)
theorem st_R {q κ a N i : Nat} {v : Int32} {fi : Nat → Int32} {fp : Nat → Option Nat} {K : Hp → Prop} (h : NB S q κ fi fp) (ha : okA S 11 a) (hN : g_N S a = N) (hi : i < N) (hN31 : N < 2 ^ 31) (hne : a ≠ q) (hK : ∀ S', NB S' q κ fi fp → exB (fun b => b ≠ a) S S' → okA S' 11 a → g_N S' a = N → g_R S' a = va_up (g_R S a) i v → K S') : okA S 11 a ∧ vp_in (nI i) (g_N S a) ∧ lt (s_R S a (nI i).toNatClampNeg v) K := by
  refine ⟨ha, by rw [hN]; exact vp_in_nI hi hN31, ?_⟩
  rw [nIc (by omega), lt_v]
  exact hK _ h (exB_sR (exB_refl _ _) (fun _ w => w rfl)) ha hN sR_eq
/-- a new array of N times -1, by its writes -/
theorem st_A3 {q κ : Nat} {fi : Nat → Int32} {fp : Nat → Option Nat} {K : Nat → Hp → Prop} (h : NB S q κ fi fp) (hK : ∀ a S', a ∉ g_L S → a ≠ q → NB S' q κ fi fp → exB (fun b => b ∈ g_L S) S S' → okA S' 11 a → g_N S' a = 3 → (∀ k, k < 3 → g_R S' a k = -1) → K a S') : ∀ a, a ∉ g_L S → lt (n_A 11 S a 3) (fun S2 => okA S2 11 a ∧ (vp_in (0 : Int32) (g_N S2 a) ∧ (lt (s_R S2 a (0 : Int32).toNatClampNeg (-1 : Int32)) (fun S5 => okA S5 11 a ∧ (vp_in (1 : Int32) (g_N S5 a) ∧ (lt (s_R S5 a (1 : Int32).toNatClampNeg (-1 : Int32)) (fun S8 => okA S8 11 a ∧ (vp_in (2 : Int32) (g_N S8 a) ∧ (lt (s_R S8 a (2 : Int32).toNatClampNeg (-1 : Int32)) (K a)))))))))) := by
  refine st_A (κ' := 11) (N := 3) h (fun a S1 n1 d1 h1 e1 a1 => ?_)
  refine st_R (i := 0) h1 a1.1 a1.2.1 (by decide) (by decide) d1 (fun S2 h2 e2 o2 N2 R2 => ?_)
  refine st_R (i := 1) h2 o2 N2 (by decide) (by decide) d1 (fun S3 h3 e3 o3 N3 R3 => ?_)
  refine st_R (i := 2) h3 o3 N3 (by decide) (by decide) d1 (fun S4 h4 e4 o4 N4 R4 => ?_)
  have ne : ∀ b, b ∈ g_L S → b ≠ a := fun b hb w => n1 (w ▸ hb)
  refine hK a S4 n1 d1 h4 (xb_t (xb_t (xb_t (exB_mono e1 (fun _ _ _ => trivial)) e2 ne) e3 ne) e4 ne) o4 N4 (fun k hk => ?_)
  rw [R4, R3, R2]
  rcases (show k = 0 ∨ k = 1 ∨ k = 2 by omega) with rfl | rfl | rfl <;> simp [va_up]
theorem st_A4 {q κ : Nat} {fi : Nat → Int32} {fp : Nat → Option Nat} {K : Nat → Hp → Prop} (h : NB S q κ fi fp) (hK : ∀ a S', a ∉ g_L S → a ≠ q → NB S' q κ fi fp → exB (fun b => b ∈ g_L S) S S' → okA S' 11 a → g_N S' a = 4 → (∀ k, k < 4 → g_R S' a k = -1) → K a S') : ∀ a, a ∉ g_L S → lt (n_A 11 S a 4) (fun S2 => okA S2 11 a ∧ (vp_in (0 : Int32) (g_N S2 a) ∧ (lt (s_R S2 a (0 : Int32).toNatClampNeg (-1 : Int32)) (fun S5 => okA S5 11 a ∧ (vp_in (1 : Int32) (g_N S5 a) ∧ (lt (s_R S5 a (1 : Int32).toNatClampNeg (-1 : Int32)) (fun S8 => okA S8 11 a ∧ (vp_in (2 : Int32) (g_N S8 a) ∧ (lt (s_R S8 a (2 : Int32).toNatClampNeg (-1 : Int32)) (fun S9 => okA S9 11 a ∧ (vp_in (3 : Int32) (g_N S9 a) ∧ (lt (s_R S9 a (3 : Int32).toNatClampNeg (-1 : Int32)) (K a))))))))))))) := by
  refine st_A (κ' := 11) (N := 4) h (fun a S1 n1 d1 h1 e1 a1 => ?_)
  refine st_R (i := 0) h1 a1.1 a1.2.1 (by decide) (by decide) d1 (fun S2 h2 e2 o2 N2 R2 => ?_)
  refine st_R (i := 1) h2 o2 N2 (by decide) (by decide) d1 (fun S3 h3 e3 o3 N3 R3 => ?_)
  refine st_R (i := 2) h3 o3 N3 (by decide) (by decide) d1 (fun S4 h4 e4 o4 N4 R4 => ?_)
  refine st_R (i := 3) h4 o4 N4 (by decide) (by decide) d1 (fun S5 h5 e5 o5 N5 R5 => ?_)
  have ne : ∀ b, b ∈ g_L S → b ≠ a := fun b hb w => n1 (w ▸ hb)
  refine hK a S5 n1 d1 h5 (xb_t (xb_t (xb_t (xb_t (exB_mono e1 (fun _ _ _ => trivial)) e2 ne) e3 ne) e4 ne) e5 ne) o5 N5 (fun k hk => ?_)
  rw [R5, R4, R3, R2]
  rcases (show k = 0 ∨ k = 1 ∨ k = 2 ∨ k = 3 by omega) with rfl | rfl | rfl | rfl <;> simp [va_up]
theorem c5_init {q : Nat} {Q : Hp → Prop} (h : NB S q 5 (fun _ => 0) (fun _ => none)) (hQ : ∀ S' r1 r2 r3 fi fp, exB (fun b => b ≠ q) S S' → NB S' q 5 fi fp → fi 503 = 0 → (fp 500 = some r1 ∧ fp 501 = some r2 ∧ fp 502 = some r3) → (r1 ∉ g_L S ∧ r2 ∉ g_L S ∧ r3 ∉ g_L S ∧ r1 ≠ r2 ∧ r1 ≠ r3 ∧ r2 ≠ r3) → (okA S' 11 r1 ∧ okA S' 11 r2 ∧ okA S' 11 r3) → (g_N S' r1 = 3 ∧ g_N S' r2 = 3 ∧ g_N S' r3 = 4) → (∀ k, k < 3 → g_R S' r1 k = -1 ∧ g_R S' r2 k = -1 ∧ g_R S' r3 (k + 1) = -1) → Q S') : wp_X5_init S q Q := by
  unfold wp_X5_init
  refine st_A3 h (fun r1 S1 n1 d1 h1 e1 o1 N1 R1 => st_P h1 (fun S2 h2 e2 => st_A3 h2 (fun r2 S3 n3 d3 h3 e3 o3 N3 R3 => st_P h3 (fun S4 h4 e4 => st_A4 h4 (fun r3 S5 n5 d5 h5 e5 o5 N5 R5 => st_P h5 (fun S6 h6 e6 => ?_))))))
  have i2 : r1 ∈ g_L S2 := (xb_ok e2 o1).1
  have i3 : r1 ∈ g_L S4 := (xb_ok e4 (xb_ok e3 (xb_ok e2 o1))).1
  have i4 : r2 ∈ g_L S4 := (xb_ok e4 o3).1
  have f1 : exB (fun b => b ≠ q ∧ b ∈ g_L S) S S1 := exB_mono e1 (fun b hb w => w.2)
  have f2 : exB (fun b => b ≠ q ∧ b ∈ g_L S) S S2 := xb_t f1 e2 (fun b w => w.1)
  have l2 : ∀ b, b ∈ g_L S → b ∈ g_L S2 := fun b hb => (f2.2 b hb).1
  have f4 : exB (fun b => b ≠ q ∧ b ∈ g_L S) S S4 := xb_t (xb_t f2 e3 (fun b w => l2 b w.2)) e4 (fun b w => w.1)
  have l4 : ∀ b, b ∈ g_L S → b ∈ g_L S4 := fun b hb => (f4.2 b hb).1
  have f6 : exB (fun b => b ≠ q ∧ b ∈ g_L S) S S6 := xb_t (xb_t f4 e5 (fun b w => l4 b w.2)) e6 (fun b w => w.1)
  have g1 : exB (fun b => b = r1) S1 S6 := xb_t (xb_t (xb_t (xb_t (exB_mono e2 (fun b _ w => by rw [w]; exact d1)) e3 (fun b w => by rw [w]; exact i2)) e4 (fun b w => by rw [w]; exact d1)) e5 (fun b w => by rw [w]; exact i3)) e6 (fun b w => by rw [w]; exact d1)
  have g3 : exB (fun b => b = r2) S3 S6 := xb_t (xb_t (exB_mono e4 (fun b _ w => by rw [w]; exact d3)) e5 (fun b w => by rw [w]; exact i4)) e6 (fun b w => by rw [w]; exact d3)
  have g5 : exB (fun b => b = r3) S5 S6 := exB_mono e6 (fun b _ w => by rw [w]; exact d5)
  refine hQ S6 r1 r2 r3 _ _ (exB_mono f6 (fun b hb w => ⟨w, hb⟩)) h6 rfl (by simp [va_up]) ⟨n1, fun w => n3 (l2 _ w), fun w => n5 (l4 _ w), fun w => n3 (w ▸ i2), fun w => n5 (w ▸ i3), fun w => n5 (w ▸ i4)⟩ ⟨xb_ok g1 o1, xb_ok g3 o3, xb_ok g5 o5⟩ ⟨(xb_N g1 o1 rfl).trans N1, (xb_N g3 o3 rfl).trans N3, (xb_N g5 o5 rfl).trans N5⟩ (fun k hk => ?_)
  rw [xb_R g1 o1 rfl, xb_R g3 o3 rfl, xb_R g5 o5 rfl]
  exact ⟨R1 k hk, R3 k hk, R5 (k + 1) (by omega)⟩
theorem c8_leader1 (h : CS S x A n nT nL nE D F) (h8 : nL = 8) (hE : EQ "java/lang/IllegalStateException" S) : wp_X8_leader S x Q EQ := by
  have hl : LK S (A 10 2) (A 15 2) nL (A 5) := cs_L h (show 2 < 12 by decide)
  have hp : g_P S 802 x = some (A 10 2) := h.1.2.1.2.2.1
  unfold wp_X8_leader
  refine ⟨h.1.1, ?_⟩
  rw [hp, rdS]
  refine ⟨hl.1, c_size hl (cs_rm0 ?_ hE)⟩
  rw [h8]
  decide
def leA (A : Nat → Nat → Nat) (l d q r1 r2 r3 : Nat) : Nat → Nat → Nat := g_2 (g_2 (g_2 (g_2 (g_2 A 15 2 d) 5 l q) 11 (48 + 3 * l) r1) 11 (48 + 3 * l + 1) r2) 11 (48 + 3 * l + 2) r3
theorem leA_5 {l d q r1 r2 r3 i : Nat} : leA A l d q r1 r2 r3 5 i = if i = l then q else A 5 i := by
  simp [leA, g_2]
theorem leA_11 {l d q r1 r2 r3 i : Nat} : leA A l d q r1 r2 r3 11 i = if i = 48 + 3 * l + 2 then r3 else if i = 48 + 3 * l + 1 then r2 else if i = 48 + 3 * l then r1 else A 11 i := by
  simp [leA, g_2]
theorem leA_o {l d q r1 r2 r3 k : Nat} (h1 : k ≠ 5) (h2 : k ≠ 11) (h4 : k ≠ 15) : leA A l d q r1 r2 r3 k = A k := by
  funext i
  simp [leA, g_2, h1, h2, h4]
theorem leA_15 {l d q r1 r2 r3 : Nat} : leA A l d q r1 r2 r3 15 = g_2 A 15 2 d 15 := by
  funext i
  simp [leA, g_2]
theorem c8_leader0 (h : CS S x A n nT nL nE D F) (h24 : n ≤ 24) (h8 : nL < 8) (h22 : F 22 nL = 0) (h20 : ∀ k, k < 3 → F 20 (6 * nL + 2 * k) = 1 ∧ F 20 (6 * nL + 2 * k + 1) = 0 ∧ F 21 (3 * nL + k) = -1) (hQ : ∀ S' A', CS S' x A' n nT (nL + 1) nE D F → Q (nI nL) S') : wp_X8_leader S x Q EQ := by
  have hl : LK S (A 10 2) (A 15 2) nL (A 5) := cs_L h (show 2 < 12 by decide)
  have hp : g_P S 802 x = some (A 10 2) := h.1.2.1.2.2.1
  unfold wp_X8_leader
  refine ⟨h.1.1, ?_⟩
  rw [hp, rdS]
  refine ⟨hl.1, c_size hl (cs_rm1 (show nI nL < 8 from nI_lt' (b := 8) h8 (by omega)) ⟨h.1.1, fun q hq => ?_⟩)⟩
  have x1 : exB (fun _ => True) S (n_O 5 S q) := exB_nO 5 hq
  rw [lt_v]
  refine c5_init (nb_new 5 S q) (fun S2 r1 r2 r3 fi fp e2 b2 hfi hfp hnew hok hNs hRs => ?_)
  have x2 : ex aK S S2 := ex_new hq x1 e2
  obtain ⟨n1, n2, n3, n12, n13, n23⟩ := hnew
  have m1 : r1 ∉ g_L S := fun w => n1 (x1.2 _ w).1
  have m2 : r2 ∉ g_L S := fun w => n2 (x1.2 _ w).1
  have m3 : r3 ∉ g_L S := fun w => n3 (x1.2 _ w).1
  have hL2 := LQ_ex h.2.1 x2
  show rd S2 10 (g_P S 802 x) _
  rw [hp, rdS]
  refine ⟨(hL2.1 2 (by decide)).1, c_add hL2 (show 2 < 12 by decide) (by show nL < 26; omega) (show 5 < 10 by decide) (fun i hi => ex_ok x2 (h.2.2.2.2.2.2.2.1.1 i hi).1) b2.1 (fun S' d hL' he => ?_)⟩
  have hE := ex_trans (ex_nl x2) he
  obtain ⟨r0', r2', r3', r4', r5', r6', r7', r8', r9', r10'⟩ := cs_rest h hE
  have k5 : nl 5 := ⟨by decide, by decide⟩
  have k11 : nl 11 := ⟨by decide, by decide⟩
  have bI : ∀ m, g_I S' m q = fi m := fun m => (ex_I he b2.1 k5 m).trans (b2.2.1 m)
  have bP : ∀ m, g_P S' m q = fp m := fun m => (ex_P he b2.1 k5 m).trans (b2.2.2 m)
  obtain ⟨o1, o2, o3⟩ := hok
  obtain ⟨N1, N2, N3⟩ := hNs
  obtain ⟨p1, p2, p3⟩ := hfp
  have hcs : CS S' x (leA A nL d q r1 r2 r3) n nT (nL + 1) nE D F := by
    refine ⟨P_0_cA (A := A) (leA_o (by decide) (by decide) (by decide)) (leA_o (by decide) (by decide) (by decide)) r0', LQ_cg hL' (leA_o (by decide) (by decide) (by decide)) leA_15 ?_ ?_, P_2_cA (A := A) (leA_o (by decide) (by decide) (by decide)) (leA_o (by decide) (by decide) (by decide)) (leA_o (by decide) (by decide) (by decide)) r2', P_3_cA (A := A) (F := F) (leA_o (by decide) (by decide) (by decide)) rfl rfl rfl r3', P_4_cA (A := A) (F := F) (leA_o (by decide) (by decide) (by decide)) rfl rfl rfl rfl rfl rfl rfl rfl r4', P_5_cB (A := A) (F := F) h24 (leA_o (by decide) (by decide) (by decide)) (fun r hr => by rw [leA_11, if_neg (by omega), if_neg (by omega), if_neg (by omega)]) rfl r5', P_6_cA (A := A) (F := F) (leA_o (by decide) (by decide) (by decide)) (leA_o (by decide) (by decide) (by decide)) (leA_o (by decide) (by decide) (by decide)) (leA_o (by decide) (by decide) (by decide)) rfl rfl rfl rfl r6', ⟨fun l hl' => ?_, fun i hi j hj e => ?_⟩, P_8_cA (A := A) (F := F) (leA_o (by decide) (by decide) (by decide)) rfl rfl r8', P_9_cA (A := A) (F := F) (leA_o (by decide) (by decide) (by decide)) rfl rfl r9', ?_⟩
    · exact cnt_up (fun k hk => by
        match k with
        | 0 => rfl
        | 1 => rfl
        | 2 => exact absurd rfl hk
        | 3 => rfl
        | k + 4 => rfl)
    · exact elF_up (l := 2) (fun i => leA_5) (fun k hk i => by
        match k with
        | 0 => exact congrFun (leA_o (by decide) (by decide) (by decide)) i
        | 1 => exact congrFun (leA_o (by decide) (by decide) (by decide)) i
        | 2 => exact absurd rfl hk
        | 3 => exact congrFun (leA_o (by decide) (by decide) (by decide)) i
        | k + 4 => exact congrFun (leA_o (by decide) (by decide) (by decide)) _)
    · by_cases e : l = nL
      · subst e
        have t1 : leA A l d q r1 r2 r3 11 (48 + 3 * l) = r1 := by rw [leA_11, if_neg (by omega), if_neg (by omega), if_pos rfl]
        have t2 : leA A l d q r1 r2 r3 11 (48 + 3 * l + 1) = r2 := by rw [leA_11, if_neg (by omega), if_pos rfl]
        have t3 : leA A l d q r1 r2 r3 11 (48 + 3 * l + 2) = r3 := by rw [leA_11, if_pos rfl]
        rw [leA_5, if_pos rfl, t1, t2, t3]
        refine ⟨ex_ok he b2.1, ⟨(bP _).trans p1, (bP _).trans p2, (bP _).trans p3⟩, ⟨ex_ok he o1, ex_ok he o2, ex_ok he o3⟩, ⟨(ex_N he o1 k11).trans N1, (ex_N he o2 k11).trans N2, (ex_N he o3 k11).trans N3⟩, (bI _).trans (hfi.trans h22.symm), fun k hk => ?_⟩
        rw [ex_R he o1 k11, ex_R he o2 k11, ex_R he o3 k11]
        obtain ⟨q1, q2, q3⟩ := hRs k hk
        obtain ⟨w1, w2, w3⟩ := h20 k hk
        exact ⟨Or.inr ⟨q1, q2, w1, w2⟩, q3.trans w3.symm⟩
      · have t1 : leA A nL d q r1 r2 r3 11 (48 + 3 * l) = A 11 (48 + 3 * l) := by rw [leA_11, if_neg (by omega), if_neg (by omega), if_neg (by omega)]
        have t2 : leA A nL d q r1 r2 r3 11 (48 + 3 * l + 1) = A 11 (48 + 3 * l + 1) := by rw [leA_11, if_neg (by omega), if_neg (by omega), if_neg (by omega)]
        have t3 : leA A nL d q r1 r2 r3 11 (48 + 3 * l + 2) = A 11 (48 + 3 * l + 2) := by rw [leA_11, if_neg (by omega), if_neg (by omega), if_neg (by omega)]
        rw [leA_5, if_neg e, t1, t2, t3]
        exact r7'.1 l (by omega)
    · rw [leA_5, leA_5] at e
      by_cases e1 : i = nL
      · by_cases e2 : j = nL
        · rw [e1, e2]
        · rw [if_pos e1, if_neg e2] at e
          exact absurd (e ▸ (h.2.2.2.2.2.2.2.1.1 j (by omega)).1.1) hq
      · by_cases e2 : j = nL
        · rw [if_neg e1, if_pos e2] at e
          exact absurd (e ▸ (h.2.2.2.2.2.2.2.1.1 i (by omega)).1.1) hq
        · rw [if_neg e1, if_neg e2] at e
          exact h.2.2.2.2.2.2.2.1.2 i (by omega) j (by omega) e
    · have lv : ∀ r, lv11 n (nL + 1) r → r ≠ 48 + 3 * nL + 2 → r ≠ 48 + 3 * nL + 1 → r ≠ 48 + 3 * nL → lv11 n nL r := fun r hr w1 w2 w3 => by
        unfold lv11 at *
        omega
      have ng : ∀ r, lv11 n nL r → A 11 r ≠ r1 ∧ A 11 r ≠ r2 ∧ A 11 r ≠ r3 := fun r hr => by
        have := (lv_ok h.2.2.2.2.2.1 h.2.2.2.2.2.2.2.1 hr).1
        exact ⟨fun w => m1 (w ▸ this), fun w => m2 (w ▸ this), fun w => m3 (w ▸ this)⟩
      intro r hr s hs e
      rw [leA_11, leA_11] at e
      by_cases a1 : r = 48 + 3 * nL + 2
      · rw [if_pos a1] at e
        by_cases b1 : s = 48 + 3 * nL + 2
        · rw [a1, b1]
        rw [if_neg b1] at e
        by_cases b2 : s = 48 + 3 * nL + 1
        · rw [if_pos b2] at e
          exact absurd e.symm n23
        rw [if_neg b2] at e
        by_cases b3 : s = 48 + 3 * nL
        · rw [if_pos b3] at e
          exact absurd e.symm n13
        rw [if_neg b3] at e
        exact absurd e.symm (ng s (lv s hs b1 b2 b3)).2.2
      rw [if_neg a1] at e
      by_cases a2 : r = 48 + 3 * nL + 1
      · rw [if_pos a2] at e
        by_cases b1 : s = 48 + 3 * nL + 2
        · rw [if_pos b1] at e
          exact absurd e n23
        rw [if_neg b1] at e
        by_cases b2 : s = 48 + 3 * nL + 1
        · rw [a2, b2]
        rw [if_neg b2] at e
        by_cases b3 : s = 48 + 3 * nL
        · rw [if_pos b3] at e
          exact absurd e.symm n12
        rw [if_neg b3] at e
        exact absurd e.symm (ng s (lv s hs b1 b2 b3)).2.1
      rw [if_neg a2] at e
      by_cases a3 : r = 48 + 3 * nL
      · rw [if_pos a3] at e
        by_cases b1 : s = 48 + 3 * nL + 2
        · rw [if_pos b1] at e
          exact absurd e n13
        rw [if_neg b1] at e
        by_cases b2 : s = 48 + 3 * nL + 1
        · rw [if_pos b2] at e
          exact absurd e n12
        rw [if_neg b2] at e
        by_cases b3 : s = 48 + 3 * nL
        · rw [a3, b3]
        rw [if_neg b3] at e
        exact absurd e.symm (ng s (lv s hs b1 b2 b3)).1
      rw [if_neg a3] at e
      have lr := lv r hr a1 a2 a3
      by_cases b1 : s = 48 + 3 * nL + 2
      · rw [if_pos b1] at e
        exact absurd e (ng r lr).2.2
      rw [if_neg b1] at e
      by_cases b2 : s = 48 + 3 * nL + 1
      · rw [if_pos b2] at e
        exact absurd e (ng r lr).2.1
      rw [if_neg b2] at e
      by_cases b3 : s = 48 + 3 * nL
      · rw [if_pos b3] at e
        exact absurd e (ng r lr).1
      rw [if_neg b3] at e
      exact h.2.2.2.2.2.2.2.2.2.2 r lr s (lv s hs b1 b2 b3) e
  have hp' : g_P S' 802 x = some (leA A nL d q r1 r2 r3 10 2) := hcs.1.2.1.2.2.1
  have hl' : LK S' (leA A nL d q r1 r2 r3 10 2) (leA A nL d q r1 r2 r3 15 2) (nL + 1) (leA A nL d q r1 r2 r3 5) := cs_L hcs (show 2 < 12 by decide)
  refine ⟨hcs.1.1, ?_⟩
  rw [hp', rdS]
  refine ⟨hl'.1, c_size hl' ?_⟩
  rw [nI_pred]
  exact hQ S' _ hcs
end CLEAD
