/-! THE CLASS: children and troops -/
section CCHILD
variable {S : Hp} {x : Nat} {A : Nat → Nat → Nat} {n nT nL nE : Nat} {D : Nat → Int32} {F : Nat → Nat → Int32}
theorem sI_eq {S : Hp} {k a : Nat} {v : Int32} : g_I (s_I S k a v) k a = v := g_2s _ _ _ _
theorem sI_ne {S : Hp} {k m a b : Nat} {v : Int32} (h : m ≠ k ∨ b ≠ a) : g_I (s_I S k a v) m b = g_I S m b := g_2n _ _ (fun q => h.elim (fun w => w q.1) (fun w => w q.2))
/-- only a child's fields 101 to 108 are others -/
def chW (S S' : Hp) (a : Nat) : Prop := (g_L S' = g_L S ∧ g_K S' = g_K S ∧ g_P S' = g_P S ∧ g_N S' = g_N S ∧ g_R S' = g_R S ∧ g_O S' = g_O S ∧ g_T S' = g_T S) ∧ ∀ m b, b ≠ a ∨ m < 101 ∨ 108 < m → g_I S' m b = g_I S m b
theorem chW_0 (S : Hp) (a : Nat) : chW S S a := ⟨⟨rfl, rfl, rfl, rfl, rfl, rfl, rfl⟩, fun _ _ _ => rfl⟩
theorem chW_s {S S1 : Hp} {a k : Nat} {v : Int32} (h : chW S S1 a) (h1 : 101 ≤ k) (h2 : k ≤ 108) : chW S (s_I S1 k a v) a := ⟨h.1, fun m b hm => by
  rw [← h.2 m b hm]
  exact g_2n _ _ (fun q => by
    obtain ⟨q1, q2⟩ := q
    rcases hm with w | w | w
    · exact w q2
    · omega
    · omega)⟩
def chF (F F' : Nat → Nat → Int32) (i : Nat) : Prop := (∀ r, r < 6 ∨ r = 10 ∨ 15 ≤ r → F' r = F r) ∧ ∀ r j, j ≠ i → F' r j = F r j
theorem chF_0 (F : Nat → Nat → Int32) (i : Nat) : chF F F i := ⟨fun _ _ => rfl, fun _ _ _ => rfl⟩
theorem chF_s {F G : Nat → Nat → Int32} {i r : Nat} {v : Int32} (h : chF F G i) (hr : 6 ≤ r ∧ r ≠ 10 ∧ r < 15) : chF F (g_2 G r i v) i := ⟨fun s hs => by
  rw [← h.1 s hs]
  funext j
  exact g_2n _ _ (fun q => by omega), fun s j hj => by
  rw [← h.2 s j hj]
  exact g_2n _ _ (fun q => hj q.2)⟩
theorem cs_child {S' : Hp} {F' : Nat → Nat → Int32} {i : Nat} (h : CS S x A n nT nL nE D F) (hi : i < n) (hW : chW S S' (A 1 i)) (hF : chF F F' i) (hN : g_I S' 101 (A 1 i) = F' 6 i ∧ g_I S' 102 (A 1 i) = F' 7 i ∧ g_I S' 103 (A 1 i) = F' 8 i ∧ g_I S' 104 (A 1 i) = F' 11 i ∧ (F' 8 i = -1 ∨ g_I S' 105 (A 1 i) = F' 9 i) ∧ g_I S' 106 (A 1 i) = F' 14 i ∧ g_I S' 107 (A 1 i) = F' 12 i ∧ (F' 12 i = 0 ∨ g_I S' 108 (A 1 i) = F' 13 i)) : CS S' x A n nT nL nE D F' := by
  obtain ⟨⟨eL, eK, eP, eN, eR, eO, eT⟩, eI⟩ := hW
  have ok : ∀ κ b, okA S' κ b = okA S κ b := fun κ b => by
    unfold okA
    rw [eL, eK]
  have big : ∀ m b, 108 < m → g_I S' m b = g_I S m b := fun m b hm => eI m b (Or.inr (Or.inr hm))
  obtain ⟨h0, h1, h2, h3, h4, h5, h6, h7, h8, h9, h10⟩ := h
  refine ⟨?_, ?_, ?_, ?_, ?_, ?_, ?_, ?_, ?_, ?_, h10⟩
  · unfold P_0
    rw [ok, eP, big 805 _ (by decide), big 806 _ (by decide)]
    exact h0
  · unfold LQ LK at *
    have e23 : cntF n nT nL nE F' = cntF n nT nL nE F := by
      funext q
      unfold cntF edn
      rw [hF.1 23 (by omega)]
    simp only [ok, eP, eN, eO, eT, big 1002 _ (by decide : 108 < 1002), e23]
    exact h1
  · unfold P_2
    simp only [ok, eP, eN, eO]
    exact h2
  · unfold P_3
    simp only [ok, big 700 _ (by decide : 108 < 700), big 701 _ (by decide : 108 < 701), big 702 _ (by decide : 108 < 702), big 703 _ (by decide : 108 < 703), hF.1 2 (by omega), hF.1 3 (by omega), hF.1 4 (by omega)]
    exact h3
  · refine ⟨fun j hj => ?_, h4.2⟩
    obtain ⟨p0, p1, pr⟩ := h4.1 j hj
    rw [ok, eI 100 _ (Or.inr (Or.inl (by decide)))]
    refine ⟨p0, p1, ?_⟩
    by_cases e : j = i
    · subst e
      exact hN
    · have e2 : A 1 j ≠ A 1 i := fun q => e (h4.2 j hj i hi q)
      have es : ∀ m, g_I S' m (A 1 j) = g_I S m (A 1 j) := fun m => eI m _ (Or.inl e2)
      have fs : ∀ r, F' r j = F r j := fun r => hF.2 r j e
      simp only [es, fs]
      exact pr
  · unfold P_5 PF
    simp only [ok, eP, eN, eR, big 109 _ (by decide : 108 < 109), big 110 _ (by decide : 108 < 110), hF.1 16 (by omega)]
    exact h5
  · refine P_6_cg (F := F) (hF.1 16 (by omega)) (hF.1 17 (by omega)) (hF.1 18 (by omega)) (hF.1 24 (by omega)) ?_
    unfold P_6
    simp only [ok, eP, eN, eO, big 201 _ (by decide : 108 < 201), big 202 _ (by decide : 108 < 202)]
    exact h6
  · unfold P_7
    simp only [ok, eP, eN, eR, big 503 _ (by decide : 108 < 503), hF.1 20 (by omega), hF.1 21 (by omega), hF.1 22 (by omega)]
    exact h7
  · unfold P_8
    simp only [ok, big 400 _ (by decide : 108 < 400), big 401 _ (by decide : 108 < 401), big 402 _ (by decide : 108 < 402), big 403 _ (by decide : 108 < 403), big 404 _ (by decide : 108 < 404), big 405 _ (by decide : 108 < 405), big 406 _ (by decide : 108 < 406), hF.1 27 (by omega), hF.1 28 (by omega)]
    exact h8
  · unfold P_9 edn
    simp only [ok, big 300 _ (by decide : 108 < 300), big 301 _ (by decide : 108 < 301), big 302 _ (by decide : 108 < 302), big 303 _ (by decide : 108 < 303), big 304 _ (by decide : 108 < 304), big 305 _ (by decide : 108 < 305), hF.1 23 (by omega), hF.1 24 (by omega)]
    exact h9
theorem cs_806 {v : Int32} (h : CS S x A n nT nL nE D F) : CS (s_I S 806 x v) x A n nT nL nE (upD D 10 v) F := ⟨⟨h.1.1, h.1.2.1, h.1.2.2.1, g_2s _ _ _ _⟩, h.2⟩
theorem cs_805 {v : Int32} (h : CS S x A n nT nL nE D F) : CS (s_I S 805 x v) x A n nT nL nE (upD D 0 v) F := ⟨⟨h.1.1, h.1.2.1, g_2s _ _ _ _, h.1.2.2.2⟩, h.2⟩
theorem c8_isFor {t : Nat} {a : Int32} {Q : Int32 → Hp → Prop} (h : CS S x A n nT nL nE D F) (ht : t < nT) (hQ : Q (bI (!ofA F t a)) S) : wp_X7_isFor S (A 7 t) a Q := by
  obtain ⟨p0, -, p1, p2, -⟩ := h.2.2.2.1 t ht
  unfold wp_X7_isFor
  refine ⟨p0, ?_⟩
  rw [p1, p2]
  unfold ofA at hQ
  by_cases c1 : a < F 2 t
  · rw [if_pos c1]
    simp only [c1, decide_true, Bool.true_or, Bool.not_true] at hQ
    exact bz0i hQ
  · rw [if_neg c1]
    by_cases c2 : F 3 t < a
    · rw [if_pos c2]
      simp only [c1, c2, decide_true, decide_false, Bool.or_true, Bool.not_true] at hQ
      exact bz0i hQ
    · rw [if_neg c2]
      simp only [c1, c2, decide_false, Bool.or_false, Bool.not_false] at hQ
      exact bz1i hQ
theorem c8_waitingFor {t : Int32} {Q : Int32 → Hp → Prop} (h : CS S x A n nT nL nE D F) (h24 : n ≤ 24) (hQ : Q (nI (waT F n t)) S) : wp_X8_waitingFor S x t Q := by
  have hL : ∀ (fuel k : Nat), k ≤ n → n < k + fuel → wp_X8_waitingFor_L4 x t Q fuel S (nI (ct (fun c => decide (F 8 c = t)) k)) (nI k) := by
    intro fuel
    induction fuel with
    | zero => intro k h1 h2; omega
    | succ f ih =>
      intro k h1 h2
      unfold wp_X8_waitingFor_L4
      refine cs_turn (Q := fun _ S => Q _ S) (K := fun r12 S11 => rd S11 1 r12 _) h h24 h1 (fun e => ?_) (fun hk => ?_)
      · subst e
        exact hQ
      · obtain ⟨c0, -, -, -, c3, -⟩ := cs_c h hk
        show rd S 1 (some (A 1 k)) _
        rw [rdS]
        refine ⟨c0, ?_⟩
        rw [c3, show nI k + 1 = nI (k + 1) from nI_add k 1]
        have hs := ih (k + 1) (by omega) (by omega)
        by_cases c : F 8 k = t
        · rw [if_pos c, nI_1]
          simpa [ct, c] using hs
        · rw [if_neg c]
          simpa [ct, c] using hs
  unfold wp_X8_waitingFor
  exact ⟨n + 1, hL (n + 1) 0 (by omega) (by omega)⟩
theorem c8_inPatrol {t p : Int32} {Q : Int32 → Hp → Prop} (h : CS S x A n nT nL nE D F) (h24 : n ≤ 24) (hQ : Q (nI (inP F n t p)) S) : wp_X8_childrenInPatrol S x t p Q := by
  have hL : ∀ (fuel k : Nat), k ≤ n → n < k + fuel → wp_X8_childrenInPatrol_L5 x t p Q fuel S (nI (ct (fun c => decide (F 7 c = t) && decide (F 11 c = p)) k)) (nI k) := by
    intro fuel
    induction fuel with
    | zero => intro k h1 h2; omega
    | succ f ih =>
      intro k h1 h2
      unfold wp_X8_childrenInPatrol_L5
      refine cs_turn (Q := fun _ S => Q _ S) (K := fun r12 S11 => rd S11 1 r12 _) h h24 h1 (fun e => ?_) (fun hk => ?_)
      · subst e
        exact hQ
      · obtain ⟨c0, -, -, c2, -, c4, -⟩ := cs_c h hk
        show rd S 1 (some (A 1 k)) _
        rw [rdS]
        refine ⟨c0, ?_⟩
        rw [c2, show nI k + 1 = nI (k + 1) from nI_add k 1]
        have hs := ih (k + 1) (by omega) (by omega)
        by_cases c : F 7 k = t
        · rw [if_pos c, rdS]
          refine ⟨c0, ?_⟩
          rw [c4]
          by_cases c2 : F 11 k = p
          · rw [if_pos c2, nI_1]
            simpa [ct, c, c2] using hs
          · rw [if_neg c2]
            simpa [ct, c, c2] using hs
        · rw [if_neg c]
          simpa [ct, c] using hs
  unfold wp_X8_childrenInPatrol
  exact ⟨n + 1, hL (n + 1) 0 (by omega) (by omega)⟩
theorem c8_smallest {t : Int32} {Q : Int32 → Hp → Prop} (h : CS S x A n nT nL nE D F) (h24 : n ≤ 24) (hQ : Q (nI (smP F n t 3)) S) : wp_X8_smallestPatrol S x t Q := by
  have hL : ∀ (fuel k : Nat), k ≤ 3 → 3 < k + fuel → wp_X8_smallestPatrol_L12 x t Q fuel S (nI (smP F n t k)) (nI (inP F n t (nI (smP F n t k)))) (nI (k + 1)) := by
    intro fuel
    induction fuel with
    | zero => intro k h1 h2; omega
    | succ f ih =>
      intro k h1 h2
      unfold wp_X8_smallestPatrol_L12
      by_cases hk : k = 3
      · subst hk
        rw [if_pos (by decide)]
        exact hQ
      · rw [if_neg (show ¬ (4 : Int32) ≤ nI (k + 1) from nI_ge (b := 4) (by omega) (by omega))]
        refine ⟨h.1.1, c8_inPatrol h h24 ?_⟩
        have hs := ih (k + 1) (by omega) (by omega)
        have l1 := inP_le F n t (nI (k + 1))
        have l2 := inP_le F n t (nI (smP F n t k))
        rw [show nI (k + 1) + 1 = nI (k + 1 + 1) from nI_add (k + 1) 1]
        by_cases c : inP F n t (nI (k + 1)) < inP F n t (nI (smP F n t k))
        · rw [if_neg (nI_ge c (by omega))]
          rw [smP, if_pos c] at hs
          exact hs
        · rw [if_pos (nI_le (by omega) (by omega))]
          rw [smP, if_neg c] at hs
          exact hs
  unfold wp_X8_smallestPatrol
  exact ⟨h.1.1, c8_inPatrol h h24 ⟨4, hL 4 0 (by omega) (by omega)⟩⟩
theorem c8_comeIn {i : Nat} {t : Int32} {Q : Hp → Prop} (h : CS S x A n nT nL nE D F) (h24 : n ≤ 24) (hi : i < n) (hQ : ∀ S', CS S' x A n nT nL nE D (cIn F n i t) → Q S') : wp_X8_comeIn S x (some (A 1 i)) t Q := by
  have ok := (cs_c h hi).1
  unfold wp_X8_comeIn
  refine ⟨h.1.1, c8_smallest h h24 ?_⟩
  rw [rdS]
  refine ⟨ok, ?_⟩
  rw [lt_v, rdS]
  refine ⟨ok, ?_⟩
  rw [lt_v, rdS]
  refine ⟨ok, ?_⟩
  rw [lt_v]
  refine hQ _ (cs_child h hi (chW_s (chW_s (chW_s (chW_0 S _) (by decide) (by decide)) (by decide) (by decide)) (by decide) (by decide)) ?_ ?_)
  · refine ⟨fun r hr => ?_, fun r j hj => ?_⟩
    · funext j
      unfold cIn
      have h7 : r ≠ 7 := by omega
      have h8 : r ≠ 8 := by omega
      have h11 : r ≠ 11 := by omega
      simp [h7, h8, h11]
    · simp [cIn, hj]
  · obtain ⟨c0, c1, c6, c7, c8, c11, c9, c14, c12, c13⟩ := cs_c h hi
    refine ⟨?_, ?_, ?_, ?_, Or.inl (by simp [cIn]), ?_, ?_, ?_⟩
    · simp [cIn]; exact c6
    · simp [cIn]; exact sI_eq (S := s_I S 104 (A 1 i) (nI (smP F n t 3))) (k := 102)
    · simp [cIn]; exact sI_eq
    · simp [cIn]; exact sI_eq (S := S) (k := 104)
    · simp [cIn]; exact c14
    · simp [cIn]; exact c12
    · simp [cIn]; exact c13
theorem c8_firstWaiting {t : Int32} {Q : Option Nat → Hp → Prop} (h : CS S x A n nT nL nE D F) (h24 : n ≤ 24) (ht : ¬ t = -1) (hQ : Q ((fiW F t n).map (A 1)) S) : wp_X8_firstWaiting S x t Q := by
  have hL : ∀ (fuel k : Nat), k ≤ n → n < k + fuel → wp_X8_firstWaiting_L4 x t Q fuel S ((fiW F t k).map (A 1)) (nI k) := by
    intro fuel
    induction fuel with
    | zero => intro k h1 h2; omega
    | succ f ih =>
      intro k h1 h2
      unfold wp_X8_firstWaiting_L4
      refine cs_turn (Q := fun _ S => Q _ S) (K := fun r12 S11 => rd S11 1 r12 _) h h24 h1 (fun e => ?_) (fun hk => ?_)
      · subst e
        exact hQ
      · obtain ⟨c0, -, -, -, c3, -, c5, -⟩ := cs_c h hk
        show rd S 1 (some (A 1 k)) _
        rw [rdS]
        refine ⟨c0, ?_⟩
        rw [c3, show nI k + 1 = nI (k + 1) from nI_add k 1]
        have hs := ih (k + 1) (by omega) (by omega)
        unfold fiW at hs
        by_cases c : F 8 k = t
        · rw [if_pos c]
          rw [if_pos c] at hs
          cases hf : fiW F t k with
          | none =>
            rw [hf] at hs
            rw [if_pos (show Option.map (A 1) none = none from rfl)]
            exact hs
          | some g =>
            rw [hf] at hs
            obtain ⟨g1, g2⟩ := fiW_lt F t k g hf
            obtain ⟨d0, -, -, -, -, -, d5, -⟩ := cs_c h (show g < n by omega)
            rw [if_neg (show ¬ Option.map (A 1) (some g) = none by simp), rdS]
            refine ⟨c0, ?_⟩
            show rd S 1 (some (A 1 g)) _
            rw [rdS]
            refine ⟨d0, ?_⟩
            rw [c5.resolve_left (by rw [c]; exact ht), d5.resolve_left (by rw [g2]; exact ht)]
            by_cases c2 : F 9 k < F 9 g
            · rw [if_neg (Int32.not_le.mpr c2)]
              simpa [c2] using hs
            · rw [if_pos (Int32.not_lt.mp c2)]
              simpa [c2] using hs
        · rw [if_neg c]
          rw [if_neg c] at hs
          exact hs
  unfold wp_X8_firstWaiting
  exact ⟨n + 1, hL (n + 1) 0 (by omega) (by omega)⟩
theorem c8_letFirstIn {t : Int32} {Q : Int32 → Hp → Prop} (h : CS S x A n nT nL nE D F) (h24 : n ≤ 24) (ht : ¬ t = -1) (h0 : fiW F t n = none → Q (-1) S) (h1 : ∀ f, fiW F t n = some f → ∀ S', CS S' x A n nT nL nE D (cIn F n f t) → Q (nI f) S') : wp_X8_letFirstIn S x t Q := by
  unfold wp_X8_letFirstIn
  refine ⟨h.1.1, c8_firstWaiting h h24 ht ?_⟩
  cases hf : fiW F t n with
  | none =>
    rw [if_pos (show Option.map (A 1) none = none from rfl)]
    exact h0 hf
  | some f =>
    have hfl := (fiW_lt F t n f hf).1
    rw [if_neg (show ¬ Option.map (A 1) (some f) = none by simp)]
    refine ⟨h.1.1, ?_⟩
    show wp_X8_comeIn S x (some (A 1 f)) t _
    refine c8_comeIn h h24 hfl (fun S' h' => ?_)
    show rd S' 1 (some (A 1 f)) _
    rw [rdS]
    obtain ⟨c0, c1, -⟩ := cs_c h' hfl
    refine ⟨c0, ?_⟩
    rw [c1]
    exact h1 f hf S' h'
theorem c8_comeOrWait {i j : Nat} {Q : Int32 → Hp → Prop} (h : CS S x A n nT nL nE D F) (h24 : n ≤ 24) (hi : i < n) (hj : j < nT) (h0 : nI (inT F n (nI j)) < F 4 j → ∀ S', CS S' x A n nT nL nE D (cIn F n i (nI j)) → Q 0 S') (h1 : ¬ nI (inT F n (nI j)) < F 4 j → ∀ S', CS S' x A n nT nL nE (upD D 10 (D 10 + 1)) (joW D F i j) → Q (nI (waT (joW D F i j) n (nI j))) S') : wp_X8_comeInOrWait S x (some (A 1 i)) (some (A 7 j)) Q := by
  obtain ⟨p0, p1, -, -, p4⟩ := h.2.2.2.1 j hj
  obtain ⟨c0, c1, c6, c7, c8, c11, c9, c14, c12, c13⟩ := cs_c h hi
  unfold wp_X8_comeInOrWait
  rw [rdS]
  refine ⟨p0, h.1.1, ?_⟩
  rw [p1]
  refine c8_childrenIn h h24 ?_
  rw [rdS]
  refine ⟨p0, ?_⟩
  rw [p4]
  by_cases c : nI (inT F n (nI j)) < F 4 j
  · rw [if_neg (Int32.not_le.mpr c), rdS]
    refine ⟨p0, h.1.1, ?_⟩
    rw [p1]
    exact c8_comeIn h h24 hi (h0 c)
  · rw [if_pos (Int32.not_lt.mp c), rdS]
    refine ⟨p0, ?_⟩
    rw [rdS]
    refine ⟨c0, ?_⟩
    rw [p1, lt_v]
    refine ⟨h.1.1, ?_⟩
    rw [rdS]
    refine ⟨c0, ?_⟩
    rw [lt_v]
    refine ⟨h.1.1, ?_⟩
    have e806 : g_I (s_I S 103 (A 1 i) (nI j)) 806 x = D 10 := h.1.2.2.2
    have hs : CS (s_I (s_I S 103 (A 1 i) (nI j)) 105 (A 1 i) (D 10)) x A n nT nL nE D (joW D F i j) := by
      refine cs_child h hi (chW_s (chW_s (chW_0 S _) (by decide) (by decide)) (by decide) (by decide)) (chF_s (chF_s (chF_0 F i) (by decide)) (by decide)) ?_
      refine ⟨c6, c7, ?_, c11, Or.inr ?_, c14, c12, c13⟩
      · exact (sI_eq (S := S) (k := 103) (a := A 1 i) (v := nI j)).trans (g_2s F 8 i (nI j)).symm
      · exact sI_eq.trans (g_2s (g_2 F 8 i (nI j)) 9 i (D 10)).symm
    rw [e806]
    have e806' : g_I (s_I (s_I S 103 (A 1 i) (nI j)) 105 (A 1 i) (D 10)) 806 x = D 10 := hs.1.2.2.2
    rw [e806', lt_v]
    have hs2 := cs_806 (v := D 10 + 1) hs
    generalize s_I (s_I (s_I S 103 (A 1 i) (nI j)) 105 (A 1 i) (D 10)) 806 x (D 10 + 1) = S3 at *
    obtain ⟨r0, r1, -⟩ := hs2.2.2.2.1 j hj
    rw [rdS]
    refine ⟨r0, hs2.1.1, ?_⟩
    rw [r1]
    exact c8_waitingFor hs2 h24 (h1 c S3 hs2)
end CCHILD
