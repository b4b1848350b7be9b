/-! THE CLASS: begin, prove -/
section CBEG
variable {S : Hp} {x : Nat} {A : Nat → Nat → Nat} {n nT nL nE : Nat} {D : Nat → Int32} {F : Nat → Nat → Int32} {Q : Int32 → Hp → Prop} {EQ : String → Hp → Prop}
theorem cs_ex {S' : Hp} (h : CS S x A n nT nL nE D F) (he : ex aK S S') : CS S' x A n nT nL nE D F := by
  obtain ⟨r0, r2, r3, r4, r5, r6, r7, r8, r9, r10⟩ := cs_rest h (ex_nl he)
  exact ⟨r0, LQ_ex h.2.1 he, r2, r3, r4, r5, r6, r7, r8, r9, r10⟩
theorem cs_Lb (h : CS S x A n nT nL nE D F) {b : Nat} (hb : b < 8) : LK S (A 10 (4 + b)) (A 15 (4 + b)) (edn F b) (fun i => A 3 (3 * b + i)) := by
  have := cs_L h (show b + 4 < 12 by omega)
  rw [Nat.add_comm b 4] at this
  have e1 : cntF n nT nL nE F (4 + b) = edn F b := by
    rw [Nat.add_comm 4 b]
    rfl
  have e2 : elF A (4 + b) = fun i => A 3 (3 * b + i) := by
    rw [Nat.add_comm 4 b]
    rfl
  rw [e1, e2] at this
  exact this
theorem c2_init {q : Nat} {a1 : Option Nat} {a2 : Int32} {Q : Hp → Prop} (h : NB S q 2 (fun _ => 0) (fun _ => none)) (hQ : ∀ S' fi fp, exB (fun b => b ≠ q) S S' → NB S' q 2 fi fp → (fi 201 = a2 ∧ fp 200 = a1) → Q S') : wp_X2_init S q a1 a2 Q := by
  unfold wp_X2_init
  refine st_I h (fun S1 h1 e1 => st_P h1 (fun S2 h2 e2 => st_I h2 (fun S3 h3 e3 => ?_)))
  have id' : ∀ b : Nat, b ≠ q → b ≠ q := fun _ w => w
  exact hQ S3 _ _ (xb_t (xb_t e1 e2 id') e3 id') h3 (by simp [va_up])
theorem c8_begin1a {a b : Int32} (h : CS S x A n nT nL nE D F) (hv : a < 0 ∨ nI n ≤ a) (hE : EQ "java/lang/IndexOutOfBoundsException" S) : wp_X8_begin S x a b Q EQ := by
  unfold wp_X8_begin
  exact ⟨h.1.1, c8_childAt0 h hv hE⟩
theorem c8_begin1b {i : Nat} {b : Int32} (h : CS S x A n nT nL nE D F) (h24 : n ≤ 24) (hi : i < n) (hv : b < 0 ∨ 7 < b) (hE : EQ "java/lang/IndexOutOfBoundsException" S) : wp_X8_begin S x (nI i) b Q EQ := by
  unfold wp_X8_begin
  exact ⟨h.1.1, c8_childAt1 h h24 hi ⟨h.1.1, c8_badgeAt0 h hv hE⟩⟩
theorem c8_begin2 {i b : Nat} (h : CS S x A n nT nL nE D F) (h24 : n ≤ 24) (hi : i < n) (hb : b < 8) (he : isIx (F 23 b) 4) (hw : F 23 b = 0 ∨ ¬ F 17 (8 * i + b) = -1) (hE : EQ "java/lang/IllegalStateException" S) : wp_X8_begin S x (nI i) (nI b) Q EQ := by
  obtain ⟨q1, q2, q3⟩ := h.2.2.1.2 b hb
  have hl := cs_Lb h hb
  obtain ⟨g1, f1⟩ := ixe he (by decide)
  have f1' : edn F b < 4 := f1
  have g1' : F 23 b = nI (edn F b) := g1
  unfold wp_X8_begin
  refine ⟨h.1.1, c8_childAt1 h h24 hi ⟨h.1.1, c8_badgeAt1 h hb ?_⟩⟩
  rw [rdS]
  refine ⟨q2, ?_⟩
  rw [q3, rdS]
  refine ⟨hl.1, c_size hl ?_⟩
  by_cases z : edn F b = 0
  · rw [if_pos (by rw [z]; rfl)]
    exact hE
  · rw [if_neg (nI_ne0 (by omega) (by omega)), rdS]
    refine ⟨(cs_c h hi).1, c1_courseOf (csx_of h i 8) hi hb (fun e => ?_) (fun e => ?_)⟩
    · rcases hw with w | w
      · rw [g1'] at w
        exact absurd w (nI_ne0 (by omega) (by omega))
      · exact absurd e w
    · rw [if_neg (fun w => by cases w)]
      exact hE
theorem begF_r {i b e r : Nat} (h3 : r ≠ 17) (h4 : r ≠ 18) : begF D F i b e r = F r := by
  funext j
  simp [begF, g_2, h3, h4]
theorem begF_17 {i b e j : Nat} : begF D F i b e 17 j = if j = 8 * i + b then D 0 else F 17 j := by
  simp [begF, g_2]
theorem begF_18 {i b e j : Nat} : begF D F i b e 18 j = if j = 8 * i + b then nI e else F 18 j := by
  simp [begF, g_2]
theorem c8_begin0 {i b e d : Nat} (h : CS S x A n nT nL nE D F) (h24 : n ≤ 24) (hi : i < n) (hb : b < 8) (hw : F 23 b = nI (e + 1)) (he : e < 3) (hd : D 0 = nI d) (hd2 : d < 10000) (hw2 : F 17 (8 * i + b) = -1) (hP : PRc F i) (hC : CoV (begF D F i b e) i) (hed : ∀ c, c < 8 → ¬ F 17 (8 * i + c) = -1 → (F 18 (8 * i + c)).toNatClampNeg < edn F c) (hQ : ∀ S' A', CS S' x A' n nT nL nE D (begF D F i b e) → Q (nI e) S') : wp_X8_begin S x (nI i) (nI b) Q EQ := by
  obtain ⟨q1, q2, q3⟩ := h.2.2.1.2 b hb
  have hl := cs_Lb h hb
  have eb : edn F b = e + 1 := by
    unfold edn
    rw [hw, nIc (by omega)]
  unfold wp_X8_begin
  refine ⟨h.1.1, c8_childAt1 h h24 hi ⟨h.1.1, c8_badgeAt1 h hb ?_⟩⟩
  rw [rdS]
  refine ⟨q2, ?_⟩
  rw [q3, rdS]
  refine ⟨hl.1, c_size hl ?_⟩
  rw [eb, if_neg (nI_ne0 (by omega) (by omega)), rdS]
  refine ⟨(cs_c h hi).1, c1_courseOf (csx_of h i 8) hi hb (fun _ => ?_) (fun z => absurd hw2 z)⟩
  rw [if_pos rfl]
  intro q hq
  have x1 : exB (fun _ => True) S (n_O 2 S q) := exB_nO 2 hq
  have x1' : ex aK S (n_O 2 S q) := ex_nO 2 hq
  have nb := nb_new 2 S q
  have h1 := cs_ex h x1'
  rw [lt_v]
  generalize n_O 2 S q = S1 at *
  obtain ⟨q1', q2', q3'⟩ := h1.2.2.1.2 b hb
  have hl1 := cs_Lb h1 hb
  have o3 : okA S1 3 (A 3 (3 * b + e)) := (h1.2.2.2.2.2.2.2.2.2.1 b hb e (by rw [eb]; omega)).1
  rw [rdS]
  refine ⟨q2', ?_⟩
  rw [q3', rdS, nI_pred]
  refine ⟨hl1.1, c_get hl1 (by rw [eb]; omega) ⟨fun a z => by cases z; exact o3, h1.1.1, ?_⟩⟩
  rw [h1.1.2.2.1]
  refine c2_init nb (fun S2 fi fp e2 b2 hfi => ?_)
  have x2 : ex aK S S2 := ex_new hq x1 e2
  have h2 := cs_ex h x2
  obtain ⟨a1, a2, a3, a4, a5⟩ := h2.2.2.2.2.2.2.1.1 i hi
  rw [rdS]
  refine ⟨a1, ?_⟩
  unfold wp_X1_take
  rw [if_neg (nI_pos (by omega))]
  refine ⟨a1, ?_⟩
  rw [a2, rdS]
  refine ⟨a3, ?_⟩
  rw [a4, if_neg (show ¬ Int32.ofNat 8 ≤ nI b from nI_ge (b := 8) (by omega) (by omega)), rdS]
  refine ⟨a3, by rw [a4]; exact vp_in_nI hb (by omega), ?_⟩
  rw [rdS]
  refine ⟨b2.1, ?_⟩
  rw [lt_v, nIc (by omega)]
  refine ⟨a1, ?_⟩
  have hcsx : CSx (s_O S2 (A 14 i) b (some q)) x (g_2 A 2 (8 * i + b) q) n nT nL nE D (begF D F i b e) i 0 := by
    obtain ⟨p0, p1, p2, p3, p4, p5, p6, p7, p8, p9, p10⟩ := h2
    have gO : ∀ c, c ≠ A 14 i → g_O (s_O S2 (A 14 i) b (some q)) c = g_O S2 c := fun c hc => funext fun k => g_2n _ _ (fun w => hc w.1)
    have hk : ∀ κ c, okA S2 κ c → κ ≠ 14 → c ≠ A 14 i := fun κ c hc h14 w => h14 (by rw [w] at hc; exact hc.2.symm.trans a3.2)
    refine ⟨p0, ?_, ?_, p3, P_4_cA (A := A) (F := F) rfl (begF_r (by decide) (by decide)) (begF_r (by decide) (by decide)) (begF_r (by decide) (by decide)) (begF_r (by decide) (by decide)) (begF_r (by decide) (by decide)) (begF_r (by decide) (by decide)) (begF_r (by decide) (by decide)) (begF_r (by decide) (by decide)) p4, P_5_cA (A := A) (F := F) rfl rfl (begF_r (by decide) (by decide)) p5, ⟨fun i' hi' => ?_, p6.2.1, fun i1 hi1 i2 hi2 b1 hb1 b2' hb2 z1 z2 ez => ?_⟩, P_7_cA (A := A) (F := F) rfl rfl (begF_r (by decide) (by decide)) (begF_r (by decide) (by decide)) (begF_r (by decide) (by decide)) p7, P_8_cA (A := A) (F := F) rfl (begF_r (by decide) (by decide)) (begF_r (by decide) (by decide)) p8, P_9_cA (A := A) (F := F) rfl (begF_r (by decide) (by decide)) (begF_r (by decide) (by decide)) p9, p10⟩
    · refine LQ_cg (A := A) (ct := cntF n nT nL nE F) (el := elF A) ?_ rfl rfl ?_ ?_
      · refine ⟨fun r hr => ?_, p1.2⟩
        obtain ⟨l1, l2, l3⟩ := p1.1 r hr
        refine ⟨l1, l2, ?_⟩
        rcases l3 with w | ⟨w1, w2, w3, w4, w5, w6, w7, w8⟩
        · exact Or.inl w
        · exact Or.inr ⟨w1, w2, w3, w4, w5, w6, w7, fun j hj => by rw [gO _ (hk _ _ w3 (by decide))]; exact w8 j hj⟩
      · funext r
        unfold cntF edn
        rw [begF_r (by decide) (by decide)]
      · funext r j
        match r with
        | 0 => rfl
        | 1 => rfl
        | 2 => rfl
        | 3 => rfl
        | r + 4 => rfl
    · refine ⟨p2.1, fun c hc => ?_⟩
      obtain ⟨w1, w2, w3⟩ := p2.2 c hc
      refine ⟨?_, w2, w3⟩
      rw [show g_2 A 2 (8 * i + b) q 13 0 = A 13 0 from rfl, gO _ (hk _ _ p2.1.1 (by decide))]
      exact w1
    · obtain ⟨t1, t2, t3, t4, t5⟩ := p6.1 i' hi'
      refine ⟨t1, t2, t3, t4, fun c hc => ?_⟩
      rw [begF_17, begF_18]
      have eA : g_2 A 2 (8 * i + b) q 2 (8 * i' + c) = if 8 * i' + c = 8 * i + b then q else A 2 (8 * i' + c) := by
        simp [g_2]
      rw [eA]
      by_cases z : 8 * i' + c = 8 * i + b
      · have z1 : i' = i := by omega
        have z2 : c = b := by omega
        subst z1
        subst z2
        rw [if_pos rfl, if_pos rfl, if_pos rfl]
        refine Or.inr ⟨by rw [hd]; exact nI_m1 (by omega), g_2s _ _ _ _, b2.1, ?_, ?_, fun v => ?_⟩
        · rw [nIc (by omega)]
          exact (b2.2.2 200).trans hfi.2
        · exact (b2.2.1 201).trans hfi.1
        · have := v rfl
          omega
      · rw [if_neg z, if_neg z, if_neg z]
        have eO : g_O (s_O S2 (A 14 i) b (some q)) (A 14 i') c = g_O S2 (A 14 i') c := g_2n _ _ (fun w => z (by
          obtain ⟨w1, w2⟩ := w
          have := p6.2.1 i' hi' i hi w1
          omega))
        rcases t5 c hc with w | ⟨w1, w2, w3, w4, w5, w6⟩
        · exact Or.inl ⟨w.1, eO.trans w.2⟩
        · refine Or.inr ⟨w1, eO.trans w2, w3, w4, w5, fun v => ?_⟩
          by_cases zi : i' = i
          · have := v zi
            omega
          · rw [dyT_loc (F := F) (fun k hk => by rw [begF_r (by decide) (by decide)]) (fun k hk => by rw [begF_17, if_neg (by omega)]) (fun k hk => by rw [begF_18, if_neg (by omega)]) (fun b2 hb2 _ r hr => by rw [begF_r (by decide) (by decide)]) 8 (Nat.le_refl _)]
            exact w6
    · rw [begF_17] at z1 z2
      have eA : ∀ i' c, g_2 A 2 (8 * i + b) q 2 (8 * i' + c) = if 8 * i' + c = 8 * i + b then q else A 2 (8 * i' + c) := fun i' c => by
        simp [g_2]
      rw [eA, eA] at ez
      have fresh : ∀ i' c, i' < n → c < 8 → ¬ F 17 (8 * i' + c) = -1 → A 2 (8 * i' + c) ≠ q := fun i' c hi' hc w z => by
        obtain ⟨-, -, -, -, t5⟩ := h.2.2.2.2.2.2.1.1 i' hi'
        obtain ⟨-, -, w3, -⟩ := (t5 c hc).resolve_left (fun v => w v.1)
        exact hq (z ▸ w3.1)
      by_cases v1 : 8 * i1 + b1 = 8 * i + b
      · by_cases v2 : 8 * i2 + b2' = 8 * i + b
        · omega
        · rw [if_pos v1, if_neg v2] at ez
          rw [if_neg v2] at z2
          exact absurd ez.symm (fresh i2 b2' hi2 hb2 z2)
      · by_cases v2 : 8 * i2 + b2' = 8 * i + b
        · rw [if_neg v1, if_pos v2] at ez
          rw [if_neg v1] at z1
          exact absurd ez (fresh i1 b1 hi1 hb1 z1)
        · rw [if_neg v1, if_neg v2] at ez
          rw [if_neg v1] at z1
          rw [if_neg v2] at z2
          exact p6.2.2 i1 hi1 i2 hi2 b1 hb1 b2' hb2 z1 z2 ez
  have hr := c1_reckon (Q := fun S36 => Q (nI e) S36) hcsx hi (fun c hc z => ?_) (fun k hk => ?_) hC (fun S' h' => hQ S' _ h')
  · exact hr
  · rw [begF_18]
    have e23 : edn (begF D F i b e) c = edn F c := by
      unfold edn
      rw [begF_r (by decide) (by decide)]
    rw [e23]
    by_cases v : 8 * i + c = 8 * i + b
    · have : c = b := by omega
      subst this
      rw [if_pos rfl, nIc (by omega), eb]
      omega
    · rw [if_neg v]
      rw [begF_17, if_neg v] at z
      exact hed c hc z
  · rw [begF_r (by decide) (by decide)]
    exact hP k hk
theorem c1_badgesBy {i d : Nat} (h : CS S x A n nT nL nE D F) (hi : i < n) (hd : d < 10000) (hQ : Q (nI (eaN F i d 8)) S) : wp_X1_badgesBy S (A 1 i) (nI d) Q := by
  obtain ⟨a1, a2, a3, a4, a5⟩ := h.2.2.2.2.2.2.1.1 i hi
  have hL : ∀ (fuel k : Nat), k ≤ 8 → 8 < k + fuel → wp_X1_badgesBy_L4 (A 1 i) (nI d) Q fuel S (nI (eaN F i d k)) (nI k) := by
    intro fuel
    induction fuel with
    | zero => intro k h1 h2; omega
    | succ f ih =>
      intro k h1 h2
      unfold wp_X1_badgesBy_L4
      refine ⟨a1, ?_⟩
      rw [a2, rdS]
      refine ⟨a3, ?_⟩
      rw [a4]
      by_cases e : k = 8
      · subst e
        rw [if_pos (by decide)]
        exact hQ
      · rw [if_neg (show ¬ Int32.ofNat 8 ≤ nI k from nI_ge (b := 8) (by omega) (by omega))]
        refine c1_dayEarned (csx_of h i 8) hi (by omega) (by omega) ?_
        have hs := ih (k + 1) (by omega) (by omega)
        have hc := cvD_le (d := dyT F i 8 k)
        rw [show nI k + 1 = nI (k + 1) from nI_add k 1]
        unfold eaN ct at hs
        by_cases z : dyT F i 8 k ≤ d
        · have e1 : cvD (dyT F i 8 k) = dyT F i 8 k := by
            unfold cvD
            rw [if_pos (by omega)]
          rw [e1, if_neg (nI_nlt (by omega) (by omega)), nI_1]
          rw [if_pos (decide_eq_true z)] at hs
          exact hs
        · have e1 : d < cvD (dyT F i 8 k) := by
            unfold cvD
            split <;> omega
          rw [if_pos (nI_lt' e1 (by omega))]
          rw [decide_eq_false z, if_neg (by decide)] at hs
          exact hs
  unfold wp_X1_badgesBy
  exact ⟨9, hL 9 0 (by omega) (by omega)⟩
theorem PF_cg {G : Nat → Nat → Int32} {i p pr : Nat} {sk : Nat → Nat} (e : ∀ k, k < 16 → G 16 (16 * i + k) = F 16 (16 * i + k)) (h : PF F i p pr sk) : PF G i p pr sk := by
  obtain ⟨h1, h2, h3, h4, h5, h6⟩ := h
  refine ⟨h1, h2, fun k hk => by rw [e k hk]; exact h3 k hk, fun j hj => ?_, fun j hj k hk => ?_, fun k hk w => h6 k hk (by rw [← e k hk]; exact w)⟩
  · obtain ⟨w1, w2⟩ := h4 j hj
    exact ⟨w1, by rw [e _ w1]; exact w2⟩
  · rw [e _ (h4 j hj).1, e _ (h4 k (by omega)).1]
    exact h5 j hj k hk
theorem PF_add {i p pr k d : Nat} {sk : Nat → Nat} (h : PF F i p pr sk) (hk : k < 16) (hd2 : d < 10000) (hn : F 16 (16 * i + k) = -1) (hW : ∀ k, k < 16 → F 16 (16 * i + k) = -1 ∨ isIx (F 16 (16 * i + k)) (d + 1)) : p < 16 ∧ PF (g_2 F 16 (16 * i + k) (nI d)) i (p + 1) (pr ||| 2 ^ k) (fun j => if j = p then k else sk j) := by
  obtain ⟨h1, h2, h3, h4, h5, h6⟩ := h
  have hne : ∀ j, j < p → sk j ≠ k := fun j hj w => (h4 j hj).2 (by rw [w]; exact hn)
  have eG : ∀ j, j < 16 → g_2 F 16 (16 * i + k) (nI d) 16 (16 * i + j) = if j = k then nI d else F 16 (16 * i + j) := fun j hj => by
    by_cases w : j = k
    · subst w
      rw [if_pos rfl, g_2s]
    · rw [if_neg w]
      exact g_2n _ _ (by omega)
  have hp : p < 16 := by
    have := fb_holes 16 (p + 1) (fun j => if j = p then k else sk j) (fun j hj => by
      by_cases w : j = p
      · simp [w, hk]
      · simp only [w, if_false]
        exact (h4 j (by omega)).1) (fun a b hab hb => by
      by_cases w : b = p
      · have w2 : ¬ a = p := by omega
        simp only [w, w2, if_true, if_false]
        exact hne a (by omega)
      · have w2 : ¬ a = p := by omega
        simp only [w, w2, if_false]
        exact (h5 b (by omega) a hab).1.symm)
    omega
  refine ⟨hp, by omega, ?_, fun j hj => ?_, fun j hj => ?_, fun j hj l hl => ?_, fun j hj w => ?_⟩
  · exact Nat.or_lt_two_pow (n := 16) h2 (Nat.pow_lt_pow_right (by decide) hk)
  · rw [fb_bit_set, eG j hj]
    by_cases w : j = k
    · subst w
      simp [nI_m1 (show d < 2 ^ 31 by omega)]
    · rw [if_neg w]
      simp only [w, decide_false, Bool.or_false]
      exact h3 j hj
  · by_cases w : j = p
    · simp only [w, if_true]
      refine ⟨hk, ?_⟩
      rw [eG k hk, if_pos rfl]
      exact nI_m1 (by omega)
    · simp only [w, if_false]
      obtain ⟨w1, w2⟩ := h4 j (by omega)
      refine ⟨w1, ?_⟩
      rw [eG _ w1, if_neg (hne j (by omega))]
      exact w2
  · by_cases w : j = p
    · have w2 : ¬ l = p := by omega
      simp only [w, w2, if_true, if_false]
      obtain ⟨v1, v2⟩ := h4 l (by omega)
      refine ⟨(hne l (by omega)).symm, ?_⟩
      rw [eG _ v1, eG _ hk, if_neg (hne l (by omega)), if_pos rfl, nIc (by omega)]
      obtain ⟨-, f⟩ := ixe ((hW _ v1).resolve_left v2) (by omega)
      omega
    · have w2 : ¬ l = p := by omega
      simp only [w, w2, if_false]
      obtain ⟨v1, v2⟩ := h4 l (by omega)
      obtain ⟨u1, u2⟩ := h4 j (by omega)
      rw [eG _ v1, eG _ u1, if_neg (hne l (by omega)), if_neg (hne j (by omega))]
      exact h5 j (by omega) l hl
  · by_cases v : j = k
    · exact ⟨p, by omega, by simp [v]⟩
    · rw [eG j hj, if_neg v] at w
      obtain ⟨l, hl, el⟩ := h6 j hj w
      refine ⟨l, by omega, ?_⟩
      have : ¬ l = p := by omega
      simp only [this, if_false]
      exact el
theorem c1_addProof {i k d : Nat} {Q : Hp → Prop} (h : CS S x A n nT nL nE D F) (h24 : n ≤ 24) (hi : i < n) (hk : k < 16) (hd2 : d < 10000) (hn : F 16 (16 * i + k) = -1) (hW : ∀ k, k < 16 → F 16 (16 * i + k) = -1 ∨ isIx (F 16 (16 * i + k)) (d + 1)) (hC : CoV F i) (hed : ∀ c, c < 8 → ¬ F 17 (8 * i + c) = -1 → (F 18 (8 * i + c)).toNatClampNeg < edn F c) (hQ : ∀ S', CS S' x A n nT nL nE D (g_2 F 16 (16 * i + k) (nI d)) → Q S') : wp_X1_addProof S (A 1 i) (nI k) (nI d) Q := by
  obtain ⟨c0, ⟨r1, r2, o1, o2, N1, N2⟩, p, pr, sk, i110, i109, hF, hrow⟩ := h.2.2.2.2.2.1 i hi
  obtain ⟨hp, hF'⟩ := PF_add hF hk hd2 hn hW
  have lva : lv11 n nL (2 * i) := Or.inl (by omega)
  have lvb : lv11 n nL (2 * i + 1) := Or.inl (by omega)
  have nab : A 11 (2 * i) ≠ A 11 (2 * i + 1) := cs_ne11 h lva lvb (by omega)
  unfold wp_X1_addProof
  refine ⟨c0, ?_⟩
  rw [r1, rdS]
  refine ⟨o1, ?_⟩
  rw [N1, i110, if_neg (show ¬ Int32.ofNat 16 ≤ nI p from nI_ge (b := 16) (by omega) (by omega)), r2, rdS]
  refine ⟨o2, ?_⟩
  rw [N2, if_neg (show ¬ Int32.ofNat 16 ≤ nI p from nI_ge (b := 16) (by omega) (by omega)), rdS]
  refine ⟨o1, by rw [N1]; exact vp_in_nI (by omega) (by omega), ?_⟩
  rw [nIc (show p < 2 ^ 31 by omega), lt_v]
  refine ⟨c0, ?_⟩
  rw [show g_P (s_R S (A 11 (2 * i)) p (nI k)) 112 (A 1 i) = some (A 11 (2 * i + 1)) from r2, rdS]
  refine ⟨o2, ?_, ?_⟩
  · rw [show g_N (s_R S (A 11 (2 * i)) p (nI k)) (A 11 (2 * i + 1)) = 16 from N2, show g_I (s_R S (A 11 (2 * i)) p (nI k)) 110 (A 1 i) = nI p from i110]
    exact vp_in_nI (by omega) (by omega)
  rw [show g_I (s_R S (A 11 (2 * i)) p (nI k)) 110 (A 1 i) = nI p from i110, nIc (show p < 2 ^ 31 by omega), lt_v]
  refine ⟨c0, ?_⟩
  rw [show g_I (s_R (s_R S (A 11 (2 * i)) p (nI k)) (A 11 (2 * i + 1)) p (nI d)) 110 (A 1 i) = nI p from i110, lt_v]
  refine ⟨c0, ?_⟩
  have rows : ∀ b, g_R (s_R (s_R S (A 11 (2 * i)) p (nI k)) (A 11 (2 * i + 1)) p (nI d)) b = if b = A 11 (2 * i + 1) then va_up (g_R (s_R S (A 11 (2 * i)) p (nI k)) b) p (nI d) else if b = A 11 (2 * i) then va_up (g_R S b) p (nI k) else g_R S b := fun b => by
    by_cases e : b = A 11 (2 * i + 1)
    · rw [if_pos e, e]
      exact sR_eq
    · rw [if_neg e, sR_ne e]
      by_cases e2 : b = A 11 (2 * i)
      · rw [if_pos e2, e2]
        exact sR_eq
      · rw [if_neg e2]
        exact sR_ne e2
  have row2 : g_R (s_R S (A 11 (2 * i)) p (nI k)) (A 11 (2 * i + 1)) = g_R S (A 11 (2 * i + 1)) := sR_ne nab.symm
  have gI0 : g_I (s_R (s_R S (A 11 (2 * i)) p (nI k)) (A 11 (2 * i + 1)) p (nI d)) = g_I S := rfl
  have hS0 : g_L (s_R (s_R S (A 11 (2 * i)) p (nI k)) (A 11 (2 * i + 1)) p (nI d)) = g_L S ∧ g_K (s_R (s_R S (A 11 (2 * i)) p (nI k)) (A 11 (2 * i + 1)) p (nI d)) = g_K S ∧ g_P (s_R (s_R S (A 11 (2 * i)) p (nI k)) (A 11 (2 * i + 1)) p (nI d)) = g_P S ∧ g_N (s_R (s_R S (A 11 (2 * i)) p (nI k)) (A 11 (2 * i + 1)) p (nI d)) = g_N S ∧ g_O (s_R (s_R S (A 11 (2 * i)) p (nI k)) (A 11 (2 * i + 1)) p (nI d)) = g_O S ∧ g_T (s_R (s_R S (A 11 (2 * i)) p (nI k)) (A 11 (2 * i + 1)) p (nI d)) = g_T S := ⟨rfl, rfl, rfl, rfl, rfl, rfl⟩
  generalize s_R (s_R S (A 11 (2 * i)) p (nI k)) (A 11 (2 * i + 1)) p (nI d) = S2 at *
  rw [lt_v]
  have gI : ∀ m b, g_I (s_I (s_I S2 110 (A 1 i) (nI p + 1)) 109 (A 1 i) (g_I (s_I S2 110 (A 1 i) (nI p + 1)) 109 (A 1 i) ||| 1 <<< (nI k &&& 31))) m b = if b = A 1 i ∧ m = 109 then nI (pr ||| 2 ^ k) else if b = A 1 i ∧ m = 110 then nI (p + 1) else g_I S m b := fun m b => by
    have e0 : g_I (s_I S2 110 (A 1 i) (nI p + 1)) 109 (A 1 i) = nI pr := by
      rw [sI_ne (Or.inl (by decide)), gI0, i109]
    rw [e0, sh_1 (by omega), nI_1, fa_or, sI_get, sI_get, gI0]
    by_cases e1 : b = A 1 i
    · by_cases e2 : m = 109
      · simp [e1, e2]
      · by_cases e3 : m = 110
        · simp [e1, e3]
        · simp [e2, e3]
    · simp [e1]
  have hS : ∀ v1 v2, g_L (s_I (s_I S2 110 (A 1 i) v1) 109 (A 1 i) v2) = g_L S ∧ g_K (s_I (s_I S2 110 (A 1 i) v1) 109 (A 1 i) v2) = g_K S ∧ g_P (s_I (s_I S2 110 (A 1 i) v1) 109 (A 1 i) v2) = g_P S ∧ g_N (s_I (s_I S2 110 (A 1 i) v1) 109 (A 1 i) v2) = g_N S ∧ g_O (s_I (s_I S2 110 (A 1 i) v1) 109 (A 1 i) v2) = g_O S ∧ g_T (s_I (s_I S2 110 (A 1 i) v1) 109 (A 1 i) v2) = g_T S ∧ g_R (s_I (s_I S2 110 (A 1 i) v1) 109 (A 1 i) v2) = g_R S2 := fun v1 v2 => ⟨hS0.1, hS0.2.1, hS0.2.2.1, hS0.2.2.2.1, hS0.2.2.2.2.1, hS0.2.2.2.2.2, rfl⟩
  have hS' := hS (nI p + 1) (g_I (s_I S2 110 (A 1 i) (nI p + 1)) 109 (A 1 i) ||| 1 <<< (nI k &&& 31))
  generalize s_I (s_I S2 110 (A 1 i) (nI p + 1)) 109 (A 1 i) (g_I (s_I S2 110 (A 1 i) (nI p + 1)) 109 (A 1 i) ||| 1 <<< (nI k &&& 31)) = S4 at *
  obtain ⟨eL, eK, eP, eN, eO, eT, eR⟩ := hS'
  have ok : ∀ κ b, okA S4 κ b = okA S κ b := fun κ b => by
    unfold okA
    rw [eL, eK]
  have eI : ∀ m b, m ≠ 109 → m ≠ 110 → g_I S4 m b = g_I S m b := fun m b h1 h2 => by
    rw [gI, if_neg (fun w => h1 w.2), if_neg (fun w => h2 w.2)]
  have fr : ∀ r, r ≠ 16 → g_2 F 16 (16 * i + k) (nI d) r = F r := fun r hr => funext fun j => g_2n _ _ (fun w => hr w.1)
  have f16 : ∀ i' j, i' ≠ i → j < 16 → g_2 F 16 (16 * i + k) (nI d) 16 (16 * i' + j) = F 16 (16 * i' + j) := fun i' j hi' hj => g_2n _ _ (by omega)
  have hcsx : CSx S4 x A n nT nL nE D (g_2 F 16 (16 * i + k) (nI d)) i 0 := by
    have h' := h
    obtain ⟨h0, h1, h2, h3, h4, h5, h6, h7, h8, h9, h10⟩ := h'
    refine ⟨?_, ?_, ?_, ?_, ?_, fun i' hi' => ?_, ⟨fun i' hi' => ?_, h6.2⟩, ⟨fun l hl => ?_, h7.2⟩, ?_, ?_, h10⟩
    · unfold P_0
      rw [ok, eP, eI 805 _ (by decide) (by decide), eI 806 _ (by decide) (by decide)]
      exact h0
    · have e23 : cntF n nT nL nE (g_2 F 16 (16 * i + k) (nI d)) = cntF n nT nL nE F := by
        funext q
        unfold cntF edn
        rw [fr 23 (by decide)]
      unfold LQ LK at *
      simp only [ok, eP, eN, eO, eT, eI 1002 _ (by decide) (by decide), e23]
      exact h1
    · unfold P_2
      simp only [ok, eP, eN, eO]
      exact h2
    · unfold P_3
      simp only [ok, eI 700 _ (by decide) (by decide), eI 701 _ (by decide) (by decide), eI 702 _ (by decide) (by decide), eI 703 _ (by decide) (by decide), fr 2 (by decide), fr 3 (by decide), fr 4 (by decide)]
      exact h3
    · unfold P_4
      simp only [ok, eI 100 _ (by decide) (by decide), eI 101 _ (by decide) (by decide), eI 102 _ (by decide) (by decide), eI 103 _ (by decide) (by decide), eI 104 _ (by decide) (by decide), eI 105 _ (by decide) (by decide), eI 106 _ (by decide) (by decide), eI 107 _ (by decide) (by decide), eI 108 _ (by decide) (by decide), fr 6 (by decide), fr 7 (by decide), fr 8 (by decide), fr 9 (by decide), fr 11 (by decide), fr 12 (by decide), fr 13 (by decide), fr 14 (by decide)]
      exact h4
    · obtain ⟨t0, ⟨t1, t2, t3, t4, t5, t6⟩, p', pr', sk', t7, t8, t9, t10⟩ := h5 i' hi'
      rw [ok, ok, ok, eP, eN]
      refine ⟨t0, ⟨t1, t2, t3, t4, t5, t6⟩, ?_⟩
      have la : lv11 n nL (2 * i') := Or.inl (by omega)
      have lb : lv11 n nL (2 * i' + 1) := Or.inl (by omega)
      rw [eR, rows, rows]
      by_cases z : i' = i
      · subst z
        refine ⟨p + 1, pr ||| 2 ^ k, fun j => if j = p then k else sk j, ?_, ?_, hF', fun j hj => ?_⟩
        · rw [gI, if_neg (fun w => absurd w.2 (by decide)), if_pos ⟨rfl, rfl⟩]
        · rw [gI, if_pos ⟨rfl, rfl⟩]
        · rw [if_neg nab, if_pos rfl, if_pos rfl, row2]
          by_cases w : j = p
          · subst w
            rw [va_up_self, va_up_self]
            simp only [if_true]
            exact ⟨trivial, (g_2s _ _ _ _).symm⟩
          · rw [va_up_ne _ _ w, va_up_ne _ _ w]
            simp only [w, if_false]
            obtain ⟨v1, v2⟩ := hrow j (by omega)
            obtain ⟨u1, u2⟩ := hF.2.2.2.1 j (by omega)
            refine ⟨v1, v2.trans ?_⟩
            exact (g_2n _ _ (fun y => u2 (by rw [y.2]; exact hn))).symm
      · refine ⟨p', pr', sk', ?_, ?_, PF_cg (fun j hj => f16 i' j z hj) t9, fun j hj => ?_⟩
        · have ne : A 1 i' ≠ A 1 i := fun w => z (h4.2 i' hi' i hi w)
          rw [gI, if_neg (fun w => ne w.1), if_neg (fun w => ne w.1)]
          exact t7
        · have ne : A 1 i' ≠ A 1 i := fun w => z (h4.2 i' hi' i hi w)
          rw [gI, if_neg (fun w => ne w.1), if_neg (fun w => ne w.1)]
          exact t8
        · rw [if_neg (cs_ne11 h la lvb (by omega)), if_neg (cs_ne11 h la lva (by omega)), if_neg (cs_ne11 h lb lvb (by omega)), if_neg (cs_ne11 h lb lva (by omega)), f16 i' _ z (t9.2.2.2.1 j hj).1]
          exact t10 j hj
    · obtain ⟨t1, t2, t3, t4, t5⟩ := h6.1 i' hi'
      rw [ok, ok, eP, eN, eO, fr 17 (by decide), fr 18 (by decide)]
      refine ⟨t1, t2, t3, t4, fun c hc => ?_⟩
      rw [ok]
      rcases t5 c hc with w | ⟨w1, w2, w3, w4, w5, w6⟩
      · exact Or.inl w
      · refine Or.inr ⟨w1, w2, w3, w4, ?_, fun v => ?_⟩
        · rw [eI 201 _ (by decide) (by decide)]
          exact w5
        · by_cases zi : i' = i
          · have := v zi
            omega
          · rw [eI 202 _ (by decide) (by decide), dyT_loc (F := F) (fun j hj => f16 i' j zi hj) (fun j hj => by rw [fr 17 (by decide)]) (fun j hj => by rw [fr 18 (by decide)]) (fun b2 hb2 _ r hr => by rw [fr 24 (by decide)]) 8 (Nat.le_refl _)]
            exact w6
    · obtain ⟨t1, t2, t3, t4, t5, t6⟩ := h7.1 l hl
      have la : lv11 n nL (48 + 3 * l) := Or.inr (by omega)
      have lb : lv11 n nL (48 + 3 * l + 1) := Or.inr (by omega)
      have lc : lv11 n nL (48 + 3 * l + 2) := Or.inr (by omega)
      rw [ok, ok, ok, ok, eP, eN, eI 503 _ (by decide) (by decide), eR, rows, rows, rows, if_neg (cs_ne11 h la lvb (by omega)), if_neg (cs_ne11 h la lva (by omega)), if_neg (cs_ne11 h lb lvb (by omega)), if_neg (cs_ne11 h lb lva (by omega)), if_neg (cs_ne11 h lc lvb (by omega)), if_neg (cs_ne11 h lc lva (by omega)), fr 20 (by decide), fr 21 (by decide), fr 22 (by decide)]
      exact ⟨t1, t2, t3, t4, t5, t6⟩
    · unfold P_8
      simp only [ok, eI 400 _ (by decide) (by decide), eI 401 _ (by decide) (by decide), eI 402 _ (by decide) (by decide), eI 403 _ (by decide) (by decide), eI 404 _ (by decide) (by decide), eI 405 _ (by decide) (by decide), eI 406 _ (by decide) (by decide), fr 27 (by decide), fr 28 (by decide)]
      exact h8
    · unfold P_9 edn
      simp only [ok, eI 300 _ (by decide) (by decide), eI 301 _ (by decide) (by decide), eI 302 _ (by decide) (by decide), eI 303 _ (by decide) (by decide), eI 304 _ (by decide) (by decide), eI 305 _ (by decide) (by decide), fr 23 (by decide), fr 24 (by decide)]
      exact h9
  refine ⟨(by rw [ok]; exact c0), c1_reckon hcsx hi (fun c hc z => ?_) (fun j hj => ?_) (fun c hc => ?_) hQ⟩
  · rw [fr 18 (by decide)]
    rw [fr 17 (by decide)] at z
    unfold edn
    rw [fr 23 (by decide)]
    exact hed c hc z
  · by_cases w : j = k
    · subst w
      rw [g_2s]
      exact Or.inr ⟨d, hd2, rfl⟩
    · rw [show g_2 F 16 (16 * i + k) (nI d) 16 (16 * i + j) = F 16 (16 * i + j) from g_2n _ _ (by omega)]
      rcases hW j hj with v | ⟨u, v1, v2⟩
      · exact Or.inl v
      · exact Or.inr ⟨u, by omega, v2⟩
  · have := hC c hc
    unfold EV eAt at *
    rw [fr 17 (by decide), fr 18 (by decide), fr 24 (by decide)]
    exact this
theorem c8_prove1a {a b c : Int32} (h : CS S x A n nT nL nE D F) (hv : a < 0 ∨ nI n ≤ a) (hE : EQ "java/lang/IndexOutOfBoundsException" S) : wp_X8_prove S x a b c Q EQ := by
  unfold wp_X8_prove
  exact ⟨h.1.1, c8_childAt0 h hv hE⟩
theorem c8_prove1b {i : Nat} {b c : Int32} (h : CS S x A n nT nL nE D F) (h24 : n ≤ 24) (hi : i < n) (hv : b < 0 ∨ 15 < b) (hE : EQ "java/lang/IndexOutOfBoundsException" S) : wp_X8_prove S x (nI i) b c Q EQ := by
  unfold wp_X8_prove
  refine ⟨h.1.1, c8_childAt1 h h24 hi (cs_ix0 ?_ hE)⟩
  rcases hv with w | w
  · exact Or.inl w
  · refine Or.inr ?_
    rw [i_lt] at w
    rw [i_le]
    rw [show (15 : Int32).toInt = 15 from rfl] at w
    rw [show (16 : Int32).toInt = 16 from rfl]
    omega
theorem c8_prove1c {i k : Nat} {c : Int32} (h : CS S x A n nT nL nE D F) (h24 : n ≤ 24) (hi : i < n) (hk : k < 16) (hv : c < 0 ∨ nI nL ≤ c) (hE : EQ "java/lang/IndexOutOfBoundsException" S) : wp_X8_prove S x (nI i) (nI k) c Q EQ := by
  unfold wp_X8_prove
  exact ⟨h.1.1, c8_childAt1 h h24 hi (cs_ix1 (N := 16) hk (by omega) ⟨h.1.1, c8_leaderAt0 h hv hE⟩)⟩
theorem c8_prove {i k l d : Nat} (h : CS S x A n nT nL nE D F) (h24 : n ≤ 24) (hi : i < n) (hk : k < 16) (h8 : nL ≤ 8) (hl : l < nL) (hd : D 0 = nI d) (hd2 : d < 10000) (h22 : isIx (F 22 l) 65536) (hW : ∀ k, k < 16 → F 16 (16 * i + k) = -1 ∨ isIx (F 16 (16 * i + k)) (d + 1)) (hC : CoV F i) (hed : ∀ c, c < 8 → ¬ F 17 (8 * i + c) = -1 → (F 18 (8 * i + c)).toNatClampNeg < edn F c)
    (h2 : ¬ (anB (fun a => veB F l a (D 0)) 3 = true ∧ (F 22 l).toNatClampNeg.testBit k = true ∧ F 16 (16 * i + k) = -1) → EQ "java/lang/IllegalStateException" S)
    (h0 : anB (fun a => veB F l a (D 0)) 3 = true → (F 22 l).toNatClampNeg.testBit k = true → F 16 (16 * i + k) = -1 → ∀ S', CS S' x A n nT nL nE D (g_2 F 16 (16 * i + k) (D 0)) → Q (nI (eaN (g_2 F 16 (16 * i + k) (D 0)) i d 8)) S') : wp_X8_prove S x (nI i) (nI k) (nI l) Q EQ := by
  obtain ⟨l0, l1, l2, l3, l10, l11⟩ := cs_l h hl
  obtain ⟨g1, f1⟩ := ixe h22 (by decide)
  obtain ⟨c0, -, p, pr, sk, i110, i109, hF, -⟩ := h.2.2.2.2.2.1 i hi
  unfold wp_X8_prove
  refine ⟨h.1.1, c8_childAt1 h h24 hi (cs_ix1 (N := 16) hk (by omega) ⟨h.1.1, c8_leaderAt1 h h8 hl ⟨h.1.1, ?_⟩⟩)⟩
  rw [rdS]
  refine ⟨l0, ?_⟩
  rw [h.1.2.2.1, hd]
  rw [hd] at h2 h0
  refine c5_somewhere h hl hd2 ?_
  cases hv : anB (fun a => veB F l a (nI d)) 3 with
  | false =>
    rw [if_pos (show bI false = 0 from rfl)]
    exact h2 (fun w => by rw [hv] at w; exact absurd w.1 (by decide))
  | true =>
    rw [if_neg (show ¬ bI true = 0 by decide), rdS]
    refine ⟨l0, ?_⟩
    rw [l10, g1]
    refine c8_hasBit (by omega) ?_
    cases hb : (F 22 l).toNatClampNeg.testBit k with
    | false =>
      rw [if_pos (show bI false = 0 from rfl)]
      exact h2 (fun w => by rw [hb] at w; exact absurd w.2.1 (by decide))
    | true =>
      rw [if_neg (show ¬ bI true = 0 by decide), rdS]
      refine ⟨c0, ?_⟩
      rw [i109]
      refine c8_hasBit (by omega) ?_
      have hp := hF.2.2.1 k hk
      cases hq : pr.testBit k with
      | true =>
        rw [if_neg (show ¬ bI true = 0 by decide)]
        exact h2 (fun w => hp.mp hq w.2.2)
      | false =>
        rw [if_pos (show bI false = 0 from rfl)]
        have hn : F 16 (16 * i + k) = -1 := by
          by_cases z : F 16 (16 * i + k) = -1
          · exact z
          · rw [hp.mpr z] at hq
            exact absurd hq (by decide)
        refine ⟨h.1.1, ?_⟩
        rw [rdS]
        refine ⟨c0, ?_⟩
        rw [h.1.2.2.1, hd]
        refine c1_addProof h h24 hi hk hd2 hn hW hC hed (fun S' h' => ⟨h'.1.1, ?_⟩)
        rw [rdS]
        refine ⟨(cs_c h' hi).1, ?_⟩
        rw [h'.1.2.2.1, hd]
        exact c1_badgesBy h' hi hd2 (h0 hv hb hn S' h')
end CBEG
