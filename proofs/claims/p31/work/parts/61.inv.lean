/-! WHAT HOLDS STAYS -/
section INV
variable {n nL nE d : Nat} {D D' : Nat → Int32} {F F' G : Nat → Nat → Int32}
theorem ct_up {p q : Nat → Bool} {i n : Nat} (hi : i < n) (h : ∀ k, k < n → k ≠ i → p k = q k) : ct p n + (if q i then 1 else 0) = ct q n + (if p i then 1 else 0) := by
  rw [ct_fb, ct_fb, ← fb_ct_upd q (p i) hi]
  congr 1
  refine fb_ct_cong (fun k hk => ?_)
  by_cases e : k = i
  · subst e
    rw [if_pos rfl]
  · rw [if_neg e]
    exact h k hk e
theorem inT_up {i : Nat} {s : Int32} (hi : i < n) (h : ∀ k, k < n → k ≠ i → G 7 k = F 7 k) : inT G n s + (if F 7 i = s then 1 else 0) = inT F n s + (if G 7 i = s then 1 else 0) := by
  have := ct_up (p := fun c => decide (G 7 c = s)) (q := fun c => decide (F 7 c = s)) hi (fun k hk e => by rw [h k hk e])
  simp only [decide_eq_true_eq] at this
  exact this
theorem waT_up {i : Nat} {s : Int32} (hi : i < n) (h : ∀ k, k < n → k ≠ i → G 8 k = F 8 k) : waT G n s + (if F 8 i = s then 1 else 0) = waT F n s + (if G 8 i = s then 1 else 0) := by
  have := ct_up (p := fun c => decide (G 8 c = s)) (q := fun c => decide (F 8 c = s)) hi (fun k hk e => by rw [h k hk e])
  simp only [decide_eq_true_eq] at this
  exact this
theorem inT_eq {s : Int32} (h : G 7 = F 7) : inT G n s = inT F n s := by unfold inT; rw [h]
theorem waT_eq {s : Int32} (h : G 8 = F 8) : waT G n s = waT F n s := by unfold waT; rw [h]
theorem m1_nI {t : Nat} (ht : t < 4) : ¬ (-1 : Int32) = nI t := fun e => nI_m1 (n := t) (by omega) e.symm
theorem nI_ne4 {s t : Nat} (hs : s < 4) (ht : t < 4) (h : s ≠ t) : ¬ nI s = nI t := nI_ne (by omega) (by omega) h
/-- others are not touched -/
theorem iv_rows (h : JV n nL nE d D F) (hW : FW n 4 nL nE d D' F') (e : ∀ j, j = 4 ∨ j = 7 ∨ j = 8 ∨ j = 11 ∨ j = 12 ∨ j = 13 ∨ j = 21 ∨ j = 27 ∨ j = 28 → F' j = F j) : JV n nL nE d D' F' := by
  obtain ⟨-, h1, h3, h4, h5, h6⟩ := h
  refine ⟨hW, ?_, ?_, ?_, ?_, ?_⟩
  · unfold X1
    rw [e 7 (by simp), e 11 (by simp)]
    exact h1
  · unfold X3 inT waT
    rw [e 4 (by simp), e 7 (by simp), e 8 (by simp)]
    exact h3
  · unfold X4
    rw [e 12 (by simp), e 13 (by simp)]
    exact h4
  · unfold X5 meB sN
    rw [e 27 (by simp), e 28 (by simp)]
    exact h5
  · unfold X6
    rw [e 21 (by simp)]
    exact h6
/-- only where children are is other -/
theorem iv_kids (h : JV n nL nE d D F) (hW : FW n 4 nL nE d D' F') (e : ∀ j, j = 12 ∨ j = 13 ∨ j = 21 ∨ j = 27 ∨ j = 28 → F' j = F j) (g1 : X1 F' n) (g3 : X3 F' n) : JV n nL nE d D' F' := by
  obtain ⟨-, h1, h3, h4, h5, h6⟩ := h
  refine ⟨hW, g1, g3, ?_, ?_, ?_⟩
  · unfold X4
    rw [e 12 (by simp), e 13 (by simp)]
    exact h4
  · unfold X5 meB sN
    rw [e 27 (by simp), e 28 (by simp)]
    exact h5
  · unfold X6
    rw [e 21 (by simp)]
    exact h6
/-! coming in, waiting, going out -/
theorem x1_cIn {f : Nat} {t : Int32} (h : X1 F n) : X1 (cIn F n f t) n := fun i hi h7 => by
  by_cases e : i = f
  · subst e
    exact ⟨smP F n t 3, by have := smP_le F n t 3; omega, by simp [cIn]⟩
  · have e7 : cIn F n f t 7 i = F 7 i := by simp [cIn, e]
    have e11 : cIn F n f t 11 i = F 11 i := by simp [cIn, e]
    rw [e7] at h7
    rw [e11]
    exact h i hi h7
theorem cIn_7 {f : Nat} {t : Int32} : cIn F n f t 7 f = t := by simp [cIn]
theorem cIn_8 {f : Nat} {t : Int32} : cIn F n f t 8 f = -1 := by simp [cIn]
theorem cIn_o {f k j : Nat} {t : Int32} (h : k ≠ f) : cIn F n f t j k = F j k := by simp [cIn, h]
theorem x3_cIn {i t : Nat} (h : X3 F n) (hi : i < n) (ht : t < 4) (h7 : F 7 i = -1) (h8 : F 8 i = -1) (hlt : inT F n (nI t) < 1 + t % 3) : X3 (cIn F n i (nI t)) n := fun s hs => by
  obtain ⟨g1, g2, g3⟩ := h s hs
  have u1 := inT_up (F := F) (G := cIn F n i (nI t)) (s := nI s) hi (fun k _ e => cIn_o e)
  have u2 := waT_up (F := F) (G := cIn F n i (nI t)) (s := nI s) hi (fun k _ e => cIn_o e)
  rw [h7, cIn_7, if_neg (m1_nI hs)] at u1
  rw [h8, cIn_8, if_neg (m1_nI hs)] at u2
  refine ⟨by rw [cIn_row (by decide) (by decide) (by decide)]; exact g1, ?_, ?_⟩
  · by_cases e : s = t
    · subst e
      rw [if_pos rfl] at u1
      omega
    · rw [if_neg (nI_ne4 ht hs (fun w => e w.symm))] at u1
      omega
  · by_cases e : s = t
    · subst e
      omega
    · rw [if_neg (nI_ne4 ht hs (fun w => e w.symm))] at u1
      omega
theorem iv_cIn {i t : Nat} (h : JV n nL nE d D F) (hi : i < n) (ht : t < 4) (h7 : F 7 i = -1) (h8 : F 8 i = -1) (hlt : inT F n (nI t) < 1 + t % 3) : JV n nL nE d D (cIn F n i (nI t)) :=
  iv_kids h (fw_cIn h.1 ht) (fun j hj => cIn_row (by omega) (by omega) (by omega)) (x1_cIn h.2.1) (x3_cIn h.2.2.1 hi ht h7 h8 hlt)
theorem joW_7 {i t : Nat} : joW D F i t 7 = F 7 := joW_row (by decide) (by decide)
theorem joW_8o {i t k : Nat} (h : k ≠ i) : joW D F i t 8 k = F 8 k := by simp [joW, g_2, h]
theorem joW_8 {i t : Nat} : joW D F i t 8 i = nI t := by simp [joW, g_2]
theorem x1_joW {i t : Nat} (h : X1 F n) : X1 (joW D F i t) n := by
  unfold X1
  rw [joW_7, joW_row (j := 11) (by decide) (by decide)]
  exact h
theorem x3_joW {i t : Nat} (h : X3 F n) (hi : i < n) (ht : t < 4) (h8 : F 8 i = -1) (hlt : ¬ inT F n (nI t) < 1 + t % 3) : X3 (joW D F i t) n := fun s hs => by
  obtain ⟨g1, g2, g3⟩ := h s hs
  have u1 : inT (joW D F i t) n (nI s) = inT F n (nI s) := inT_eq joW_7
  have u2 := waT_up (F := F) (G := joW D F i t) (s := nI s) hi (fun k _ e => joW_8o e)
  rw [h8, joW_8, if_neg (m1_nI hs)] at u2
  refine ⟨by rw [joW_row (by decide) (by decide)]; exact g1, by omega, ?_⟩
  by_cases e : s = t
  · subst e
    omega
  · rw [if_neg (nI_ne4 ht hs (fun w => e w.symm))] at u2
    omega
theorem iv_joW {i t : Nat} (h : JV n nL nE d D F) (hi : i < n) (ht : t < 4) (h7 : F 7 i = -1) (h8 : F 8 i = -1) (hlt : ¬ inT F n (nI t) < 1 + t % 3) : JV n nL nE d (upD D 10 (D 10 + 1)) (joW D F i t) :=
  iv_kids h (fw_D (D := D) (fw_joW h.1 hi ht h7) rfl rfl rfl rfl rfl) (fun j hj => joW_row (by omega) (by omega)) (x1_joW h.2.1) (x3_joW h.2.2.1 hi ht h8 hlt)
theorem wOut_7 {i : Nat} : wOut F i 7 i = -1 := by simp [wOut, gOut, g_2]
theorem wOut_8 {i : Nat} : wOut F i 8 i = -1 := by simp [wOut, gOut, g_2]
theorem wOut_11 {i : Nat} : wOut F i 11 i = -1 := by simp [wOut, gOut, g_2]
theorem wOut_o {i k j : Nat} (h : k ≠ i) : wOut F i j k = F j k := by simp [wOut, gOut, g_2, h]
theorem x1_wOut {i : Nat} (h : X1 F n) : X1 (wOut F i) n := fun k hk h7 => by
  by_cases e : k = i
  · subst e
    exact absurd wOut_7 h7
  · rw [wOut_o e] at h7 ⊢
    exact h k hk h7
theorem fiW_no {t : Int32} : ∀ k, fiW F t k = none → ∀ i, i < k → ¬ F 8 i = t
  | 0, _, i, hi => by omega
  | k + 1, h, i, hi => by
    unfold fiW at h
    by_cases c : F 8 k = t
    · rw [if_pos c] at h
      cases hf : fiW F t k with
      | none => rw [hf] at h; simp at h
      | some g =>
        rw [hf] at h
        by_cases c2 : F 9 k < F 9 g
        · simp [c2] at h
        · simp [c2] at h
    · rw [if_neg c] at h
      by_cases e : i = k
      · subst e
        exact c
      · exact fiW_no k h i (by omega)
theorem waT_none {t : Int32} (h : fiW F t n = none) : waT F n t = 0 := by
  unfold waT
  rw [ct_fb]
  exact fb_ct_zero.mpr (fun k hk => decide_eq_false (fiW_no n h k hk))
theorem x3_wOut1 {i : Nat} (h : X3 F n) (hi : i < n) (h7 : F 7 i = -1) : X3 (wOut F i) n := fun s hs => by
  obtain ⟨g1, g2, g3⟩ := h s hs
  have u1 := inT_up (F := F) (G := wOut F i) (s := nI s) hi (fun k _ e => wOut_o e)
  have u2 := waT_up (F := F) (G := wOut F i) (s := nI s) hi (fun k _ e => wOut_o e)
  rw [h7, wOut_7] at u1
  rw [wOut_8, if_neg (m1_nI hs)] at u2
  exact ⟨by rw [wOut_row (by decide) (by decide) (by decide)]; exact g1, by omega, by omega⟩
theorem iv_wOut1 {i : Nat} (h : JV n nL nE d D F) (hi : i < n) (h7 : F 7 i = -1) : JV n nL nE d D (wOut F i) :=
  iv_kids h (fw_wOut h.1) (fun j hj => wOut_row (by omega) (by omega) (by omega)) (x1_wOut h.2.1) (x3_wOut1 h.2.2.1 hi h7)
theorem x3_wOut0 {i t : Nat} (h : X3 F n) (hi : i < n) (ht : t < 4) (h7 : F 7 i = nI t) (hf : fiW (wOut F i) (nI t) n = none) : X3 (wOut F i) n := fun s hs => by
  obtain ⟨g1, g2, g3⟩ := h s hs
  have u1 := inT_up (F := F) (G := wOut F i) (s := nI s) hi (fun k _ e => wOut_o e)
  have u2 := waT_up (F := F) (G := wOut F i) (s := nI s) hi (fun k _ e => wOut_o e)
  rw [h7, wOut_7, if_neg (m1_nI hs)] at u1
  rw [wOut_8, if_neg (m1_nI hs)] at u2
  refine ⟨by rw [wOut_row (by decide) (by decide) (by decide)]; exact g1, by omega, ?_⟩
  by_cases e : s = t
  · subst e
    exact Or.inl (waT_none hf)
  · rw [if_neg (nI_ne4 ht hs (fun w => e w.symm))] at u1
    omega
theorem iv_wOut0 {i t : Nat} (h : JV n nL nE d D F) (hi : i < n) (ht : t < 4) (h7 : F 7 i = nI t) (hf : fiW (wOut F i) (nI t) n = none) : JV n nL nE d D (wOut F i) :=
  iv_kids h (fw_wOut h.1) (fun j hj => wOut_row (by omega) (by omega) (by omega)) (x1_wOut h.2.1) (x3_wOut0 h.2.2.1 hi ht h7 hf)
/-- who waits is in no troop -/
theorem pl_8 {N f t : Nat} (h : PL F n N) (hf : f < n) (ht : t < 4) (h8 : F 8 f = nI t) : F 7 f = -1 := by
  rcases (h f hf).2.2 with w | w
  · rw [h8] at w
    exact absurd w.symm (m1_nI ht)
  · exact w.1
theorem leave_f {i t f : Nat} (hP : PL F n 4) (ht : t < 4) (hf : fiW (wOut F i) (nI t) n = some f) : f < n ∧ f ≠ i ∧ F 8 f = nI t ∧ F 7 f = -1 := by
  obtain ⟨f1, f2⟩ := fiW_lt _ _ _ _ hf
  have fi : f ≠ i := fun e => by
    subst e
    rw [wOut_8] at f2
    exact m1_nI ht f2
  rw [wOut_o fi] at f2
  exact ⟨f1, fi, f2, pl_8 hP f1 ht f2⟩
theorem x3_leave {i t f : Nat} (h : X3 F n) (hP : PL F n 4) (hi : i < n) (ht : t < 4) (h7 : F 7 i = nI t) (hf : fiW (wOut F i) (nI t) n = some f) : X3 (cIn (wOut F i) n f (nI t)) n := fun s hs => by
  obtain ⟨f1, fi, f8, f7⟩ := leave_f hP ht hf
  obtain ⟨g1, g2, g3⟩ := h s hs
  have u1 := inT_up (F := F) (G := wOut F i) (s := nI s) hi (fun k _ e => wOut_o e)
  have u2 := waT_up (F := F) (G := wOut F i) (s := nI s) hi (fun k _ e => wOut_o e)
  have v1 := inT_up (F := wOut F i) (G := cIn (wOut F i) n f (nI t)) (s := nI s) f1 (fun k _ e => cIn_o e)
  have v2 := waT_up (F := wOut F i) (G := cIn (wOut F i) n f (nI t)) (s := nI s) f1 (fun k _ e => cIn_o e)
  rw [h7, wOut_7, if_neg (m1_nI hs)] at u1
  rw [wOut_8, if_neg (m1_nI hs)] at u2
  rw [wOut_o fi, f7, cIn_7, if_neg (m1_nI hs)] at v1
  rw [wOut_o fi, f8, cIn_8, if_neg (m1_nI hs)] at v2
  refine ⟨by rw [cIn_row (by decide) (by decide) (by decide), wOut_row (by decide) (by decide) (by decide)]; exact g1, ?_, ?_⟩
  · omega
  · by_cases e : nI t = nI s
    · rw [if_pos e] at u1 v1 v2
      omega
    · rw [if_neg e] at u1 v1 v2
      omega
theorem iv_leave {i t f : Nat} (h : JV n nL nE d D F) (hi : i < n) (ht : t < 4) (h7 : F 7 i = nI t) (hf : fiW (wOut F i) (nI t) n = some f) : JV n nL nE d D (cIn (wOut F i) n f (nI t)) :=
  iv_kids h (fw_cIn (fw_wOut h.1) ht) (fun j hj => by rw [cIn_row (by omega) (by omega) (by omega), wOut_row (by omega) (by omega) (by omega)]) (x1_cIn (x1_wOut h.2.1)) (x3_leave h.2.2.1 h.1.1.2.1 hi ht h7 hf)
theorem g2_row {j k i : Nat} {v : Int32} (h : j ≠ k) : g_2 F k i v j = F j := by
  funext a
  exact g_2n _ _ (fun q => h q.1)
theorem iv_patrol {i p : Nat} (h : JV n nL nE d D F) (hi : i < n) (hp : p < 4) (h7 : ¬ F 7 i = -1) : JV n nL nE d D (g_2 F 11 i (nI p)) := by
  refine iv_kids h (fw_patrol h.1 hi h7) (fun j hj => g2_row (by omega)) (fun k hk w => ?_) ?_
  · rw [g2_row (by decide)] at w
    by_cases e : k = i
    · subst e
      exact ⟨p, hp, g_2s _ _ _ _⟩
    · rw [g_2n _ _ (fun q => e q.2)]
      exact h.2.1 k hk w
  · unfold X3 inT waT
    rw [g2_row (by decide), g2_row (by decide), g2_row (by decide)]
    exact h.2.2.1
theorem iv_child {a : Int32} (h : JV n nL nE d D F) (h24 : n < 24) : JV (n + 1) nL nE d (upD D 5 (nI (n + 1))) (chN F n a) := by
  have r : ∀ j, j ≠ 6 → j ≠ 7 → j ≠ 8 → j ≠ 11 → chN F n a j = F j := fun j h6 h7 h8 h11 => by
    unfold chN
    rw [g2_row h11, g2_row h8, g2_row h7, g2_row h6]
  have e7 : chN F n a 7 n = -1 := by simp [chN, g_2]
  have e8 : chN F n a 8 n = -1 := by simp [chN, g_2]
  have o7 : ∀ k, k ≠ n → chN F n a 7 k = F 7 k := fun k e => by simp [chN, g_2, e]
  have o8 : ∀ k, k ≠ n → chN F n a 8 k = F 8 k := fun k e => by simp [chN, g_2, e]
  have o11 : ∀ k, k ≠ n → chN F n a 11 k = F 11 k := fun k e => by simp [chN, g_2, e]
  have z12 := (h.1.1.2.2.2.2.2.2.2.2.2.2.1 n (Nat.le_refl n) h24).1
  obtain ⟨hW, h1, h3, h4, h5, h6⟩ := h
  refine ⟨fw_child hW h24 rfl rfl rfl rfl rfl, fun k hk w => ?_, fun t ht => ?_, fun k hk => ?_, ?_, ?_⟩
  · by_cases e : k = n
    · subst e
      exact absurd e7 w
    · rw [o7 k e] at w
      rw [o11 k e]
      exact h1 k (by omega) w
  · obtain ⟨g1, g2, g3⟩ := h3 t ht
    have u1 : inT (chN F n a) (n + 1) (nI t) = inT F n (nI t) := by
      show ct _ n + (if decide (chN F n a 7 n = nI t) = true then 1 else 0) = ct _ n
      rw [e7, decide_eq_false (m1_nI ht)]
      exact ct_cong (fun k hk => by rw [o7 k (by omega)])
    have u2 : waT (chN F n a) (n + 1) (nI t) = waT F n (nI t) := by
      show ct _ n + (if decide (chN F n a 8 n = nI t) = true then 1 else 0) = ct _ n
      rw [e8, decide_eq_false (m1_nI ht)]
      exact ct_cong (fun k hk => by rw [o8 k (by omega)])
    rw [u1, u2, r 4 (by decide) (by decide) (by decide) (by decide)]
    exact ⟨g1, g2, g3⟩
  · rw [r 12 (by decide) (by decide) (by decide) (by decide), r 13 (by decide) (by decide) (by decide) (by decide)]
    by_cases e : k = n
    · subst e
      exact Or.inl z12
    · exact h4 k (by omega)
  · unfold X5 meB sN
    rw [r 27 (by decide) (by decide) (by decide) (by decide), r 28 (by decide) (by decide) (by decide) (by decide)]
    exact h5
  · unfold X6
    rw [r 21 (by decide) (by decide) (by decide) (by decide)]
    exact h6
/-! season -/
def YW (F : Nat → Nat → Int32) (n : Nat) : Prop := ∀ t, t < 4 → F 4 t = nI (1 + t % 3) ∧ inT F n (nI t) ≤ 1 + t % 3
theorem s1_7 {i : Nat} (hi : i < n) : s1 F n 7 i = if lfB F i then -1 else F 7 i := by
  rw [s1_at, if_pos hi]
  simp [stp]
theorem s1_11 {i : Nat} (hi : i < n) : s1 F n 11 i = if lfB F i then -1 else F 11 i := by
  rw [s1_at, if_pos hi]
  simp [stp]
theorem y3_s1 (h : X3 F n) : YW (s1 F n) n := fun t ht => by
  obtain ⟨g1, g2, -⟩ := h t ht
  refine ⟨by rw [s1_row F n 4 (by decide)]; exact g1, Nat.le_trans ?_ g2⟩
  unfold inT
  rw [ct_fb, ct_fb]
  refine fb_ct_sub (fun k hk w => ?_)
  simp only [decide_eq_true_eq] at w ⊢
  rw [s1_7 hk] at w
  cases hl : lfB F k with
  | true =>
    rw [hl, if_pos rfl] at w
    exact absurd w (m1_nI ht)
  | false =>
    rw [hl, if_neg (by decide)] at w
    exact w
theorem x1_s1 (h : X1 F n) : X1 (s1 F n) n := fun k hk w => by
  rw [s1_7 hk] at w
  rw [s1_11 hk]
  cases hl : lfB F k with
  | true =>
    rw [hl, if_pos rfl] at w
    exact absurd rfl w
  | false =>
    rw [hl, if_neg (by decide)] at w
    rw [if_neg (by decide)]
    exact h k hk w
theorem x1_lf1 {t : Int32} (h : X1 F n) : X1 (lf1 F n t) n := by
  unfold lf1
  split
  · exact h
  · exact x1_cIn h
theorem x1_itr {t : Int32} : ∀ (k : Nat) (F : Nat → Nat → Int32), X1 F n → X1 (itr F n t k) n
  | 0, _, h => h
  | k + 1, _, h => x1_itr k _ (x1_lf1 h)
theorem x1_filA (h : X1 F n) : ∀ k, X1 (filA F n k) n
  | 0 => h
  | k + 1 => x1_itr _ _ (x1_filA h k)
theorem itr_T {t : Nat} (ht : t < 4) : ∀ (k : Nat) (F : Nat → Nat → Int32), PL F n 4 → inT (itr F n (nI t) k) n (nI t) ≤ inT F n (nI t) + k ∧ (waT (itr F n (nI t) k) n (nI t) = 0 ∨ inT (itr F n (nI t) k) n (nI t) = inT F n (nI t) + k) ∧ ∀ s, s < 4 → s ≠ t → inT (itr F n (nI t) k) n (nI s) = inT F n (nI s) ∧ waT (itr F n (nI t) k) n (nI s) = waT F n (nI s)
  | 0, F, _ => ⟨Nat.le_refl _, Or.inr rfl, fun _ _ _ => ⟨rfl, rfl⟩⟩
  | k + 1, F, hP => by
    cases hf : fiW F (nI t) n with
    | none =>
      rw [itr_none hf (k + 1)]
      exact ⟨by omega, Or.inl (waT_none hf), fun _ _ _ => ⟨rfl, rfl⟩⟩
    | some f =>
      obtain ⟨f1, f8⟩ := fiW_lt _ _ _ _ hf
      have f7 := pl_8 hP f1 ht f8
      have e : itr F n (nI t) (k + 1) = itr (cIn F n f (nI t)) n (nI t) k := by
        show itr (lf1 F n (nI t)) n (nI t) k = _
        unfold lf1
        rw [hf]
      rw [e]
      obtain ⟨i1, i2, i3⟩ := itr_T ht k (cIn F n f (nI t)) (PL_cIn hP ht)
      have v1 := fun s => inT_up (F := F) (G := cIn F n f (nI t)) (s := nI s) f1 (fun k _ e => cIn_o e)
      have v2 := fun s => waT_up (F := F) (G := cIn F n f (nI t)) (s := nI s) f1 (fun k _ e => cIn_o e)
      have w1 := v1 t
      rw [f7, cIn_7, if_neg (m1_nI ht), if_pos rfl] at w1
      refine ⟨by omega, by omega, fun s hs hst => ?_⟩
      have a1 := v1 s
      have a2 := v2 s
      rw [f7, cIn_7, if_neg (m1_nI hs), if_neg (nI_ne4 ht hs (fun w => hst w.symm))] at a1
      rw [f8, cIn_8, if_neg (m1_nI hs), if_neg (nI_ne4 ht hs (fun w => hst w.symm))] at a2
      obtain ⟨b1, b2⟩ := i3 s hs hst
      exact ⟨by omega, by omega⟩
theorem y3_filA (h : YW F n) (hP : PL F n 4) : ∀ k, k ≤ 4 → YW (filA F n k) n ∧ ∀ t, t < k → waT (filA F n k) n (nI t) = 0 ∨ inT (filA F n k) n (nI t) = 1 + t % 3
  | 0, _ => ⟨h, fun t ht => by omega⟩
  | k + 1, hk => by
    obtain ⟨i1, i2⟩ := y3_filA h hP k (by omega)
    have hP1 := PL_filA hP k (by omega)
    obtain ⟨r1, r2⟩ := i1 k (by omega)
    have hm : k % 3 < 3 := Nat.mod_lt _ (by decide)
    have er : (filA F n k 4 k).toNatClampNeg = 1 + k % 3 := by rw [r1, nIc (by omega)]
    obtain ⟨j1, j2, j3⟩ := itr_T (n := n) (t := k) (by omega) ((filA F n k 4 k).toNatClampNeg - inT (filA F n k) n (nI k)) (filA F n k) hP1
    have e : filA F n (k + 1) = itr (filA F n k) n (nI k) ((filA F n k 4 k).toNatClampNeg - inT (filA F n k) n (nI k)) := rfl
    rw [← e] at j1 j2 j3
    rw [er] at j1 j2
    refine ⟨fun t ht => ?_, fun t ht => ?_⟩
    · obtain ⟨a1, a2⟩ := i1 t ht
      refine ⟨?_, ?_⟩
      · rw [filA_4] at a1 ⊢
        exact a1
      · by_cases c : t = k
        · subst c
          omega
        · rw [(j3 t ht c).1]
          exact a2
    · by_cases c : t = k
      · subst c
        omega
      · have := i2 t (by omega)
        rw [(j3 t (by omega) c).1, (j3 t (by omega) c).2]
        exact this
theorem x3_filA (h : YW F n) (hP : PL F n 4) : X3 (filA F n 4) n := fun t ht => by
  obtain ⟨i1, i2⟩ := y3_filA h hP 4 (Nat.le_refl 4)
  exact ⟨(i1 t ht).1, (i1 t ht).2, i2 t ht⟩
theorem x13_lwF {c : Nat} (hc : c < n) (h1 : X1 F n) (h3 : X3 F n) (h : nwr F c) : X1 (lwF D F n 4 c) n ∧ X3 (lwF D F n 4 c) n := by
  unfold lwF
  cases hl : loF F c 4 with
  | none => exact ⟨h1, h3⟩
  | some t =>
    have ht := (loF_lt F c 4 t hl).1
    have hm : t % 3 < 3 := Nat.mod_lt _ (by decide)
    have hle := (h3 t ht).2.1
    have hq : (nI (inT F n (nI t)) < F 4 t) ↔ inT F n (nI t) < 1 + t % 3 := by
      rw [(h3 t ht).1, i_lt, nI_toInt (by omega), nI_toInt (by omega)]
      omega
    show X1 (jnF D F n c t) n ∧ X3 (jnF D F n c t) n
    unfold jnF
    by_cases w : nI (inT F n (nI t)) < F 4 t
    · rw [if_pos w]
      exact ⟨x1_cIn h1, x3_cIn h3 hc ht h.1 h.2.1 (hq.mp w)⟩
    · rw [if_neg w]
      exact ⟨x1_joW h1, x3_joW h3 hc ht h.2.1 (fun z => w (hq.mpr z))⟩
theorem x13_sJD (h1 : X1 F n) (h3 : X3 F n) (h : ∀ i, i < n → ¬ F 15 i = 0 → nwr F i) : ∀ k, k ≤ n → X1 (sJD n 4 D F k).2 n ∧ X3 (sJD n 4 D F k).2 n
  | 0, _ => ⟨h1, h3⟩
  | k + 1, hk => by
    have ih := x13_sJD h1 h3 h k (by omega)
    have e15 : (sJD n 4 D F k).2 15 k = F 15 k := sJD_o k (Nat.le_refl _)
    unfold sJD
    by_cases z : (sJD n 4 D F k).2 15 k = 0
    · rw [if_pos z]
      exact ih
    · rw [if_neg z]
      rw [e15] at z
      have w := h k (by omega) z
      refine x13_lwF (by omega) ih.1 ih.2 ?_
      unfold nwr
      rw [sJD_o k (Nat.le_refl _), sJD_o k (Nat.le_refl _), sJD_o k (Nat.le_refl _)]
      exact w
/-- who left is nowhere -/
theorem sea_nw (h : FW n 4 nL nE d D F) : ∀ i, i < n → ¬ filA (s1 F n) n 4 15 i = 0 → nwr (filA (s1 F n) n 4) i := fun i hi z => by
  rw [filA_row _ _ 15 (by decide) (by decide) (by decide), s1_at, if_pos hi] at z
  simp only [stp, if_true, show ¬ (15 : Nat) = 6 by decide, show ¬ (15 : Nat) = 7 by decide, show ¬ (15 : Nat) = 11 by decide, show ¬ (15 : Nat) = 8 by decide, if_false] at z
  have hl : lfB F i = true := by
    cases q : lfB F i with
    | true => rfl
    | false => rw [q] at z; exact absurd rfl z
  refine nwr_filA ?_ 4 (by decide)
  unfold nwr
  rw [s1_at, s1_at, s1_at, if_pos hi, if_pos hi, if_pos hi]
  simp only [stp, if_true, hl, show ¬ (7 : Nat) = 6 by decide, show ¬ (8 : Nat) = 6 by decide, show ¬ (8 : Nat) = 7 by decide, show ¬ (8 : Nat) = 11 by decide, show ¬ (11 : Nat) = 6 by decide, show ¬ (11 : Nat) = 7 by decide, if_false]
  refine ⟨trivial, ?_, trivial⟩
  have h8 : F 8 i = -1 := by
    rcases (h.1.2.1 i hi).2.2 with w | w
    · exact w
    · unfold lfB at hl
      rw [w.1] at hl
      simp at hl
  cases wfB F i
  · exact h8
  · rfl
theorem sea_row (j : Nat) (g6 : j ≠ 6) (g7 : j ≠ 7) (g8 : j ≠ 8) (g9 : j ≠ 9) (g11 : j ≠ 11) (g15 : j ≠ 15) : seaF D F n 4 j = F j := by
  show (sJD n 4 D (filA (s1 F n) n 4) n).2 j = F j
  rw [sJD_row n 4 j g7 g8 g9 g11, filA_row _ _ j g7 g8 g11, s1_row F n j ⟨g6, g7, g8, g11, g15⟩]
theorem sea_6 {i : Nat} (hi : i < n) : seaF D F n 4 6 i = F 6 i + 1 := by
  show (sJD n 4 D (filA (s1 F n) n 4) n).2 6 i = _
  rw [sJD_row n 4 6 (by decide) (by decide) (by decide) (by decide), filA_row _ _ 6 (by decide) (by decide) (by decide), s1_at, if_pos hi]
  simp [stp]
theorem iv_season (h : JV n nL nE d D F) : JV n nL nE d (seaD D F n 4) (seaF D F n 4) := by
  have hP1 := PL_s1 h.1.1.2.1 n
  have a1 : X1 (filA (s1 F n) n 4) n := x1_filA (x1_s1 h.2.1) 4
  have a3 : X3 (filA (s1 F n) n 4) n := x3_filA (y3_s1 h.2.2.1) hP1
  have b := x13_sJD (D := D) a1 a3 (sea_nw h.1) n (Nat.le_refl n)
  exact iv_kids h (fw_season h.1) (fun j hj => sea_row j (by omega) (by omega) (by omega) (by omega) (by omega) (by omega)) b.1 b.2
/-! the others -/
theorem iv_pass {a : Nat} (h : JV n nL nE d D F) (hd : d + a < 10000) : JV n nL nE (d + a) (upD D 0 (nI (d + a))) F :=
  ⟨fw_pass h.1 rfl hd rfl rfl rfl rfl rfl, h.2⟩
theorem iv_leader (h : JV n nL nE d D F) (h8 : nL < 8) : JV n (nL + 1) nE d (upD D 19 (nI (nL + 1))) F := by
  obtain ⟨hW, h1, h3, h4, h5, h6⟩ := h
  obtain ⟨z1, -⟩ := hW.1.2.2.2.2.2.2.2.2.2.2.2.1 nL (Nat.le_refl nL) h8
  refine ⟨fw_leader hW h8 rfl rfl rfl rfl rfl, h1, h3, h4, h5, fun l hl k hk => ?_⟩
  by_cases e : l = nL
  · subst e
    rw [(z1 k hk).2.2]
    exact Int32.le_refl _
  · exact h6 l (by omega) k hk
theorem vet_row {l k j : Nat} {a b : Int32} (h : j ≠ 20) : vetF F l k a b j = F j := by
  unfold vetF
  rw [g2_row h, g2_row h]
theorem iv_vet {l k : Nat} {a b : Int32} (h : JV n nL nE d D F) (hl : l < nL) (hk : k < 3) : JV n nL nE d D (vetF F l k a b) :=
  iv_rows h (fw_vet h.1 hl hk) (fun j hj => vet_row (by omega))
theorem iv_permit {l k : Nat} {c : Int32} (h : JV n nL nE d D F) (hl : l < nL) (hk : k < 3) (hc : -1 ≤ c) : JV n nL nE d D (g_2 F 21 (3 * l + k) c) := by
  obtain ⟨hW, h1, h3, h4, h5, h6⟩ := h
  refine ⟨fw_permit hW hl hk, ?_, ?_, ?_, ?_, fun m hm j hj => ?_⟩
  · unfold X1
    rw [g2_row (by decide), g2_row (by decide)]
    exact h1
  · unfold X3 inT waT
    rw [g2_row (by decide), g2_row (by decide), g2_row (by decide)]
    exact h3
  · unfold X4
    rw [g2_row (by decide), g2_row (by decide)]
    exact h4
  · unfold X5 meB sN
    rw [g2_row (by decide), g2_row (by decide)]
    exact h5
  · by_cases e : 3 * m + j = 3 * l + k
    · rw [e, g_2s]
      exact hc
    · rw [g_2n _ _ (fun q => e q.2)]
      exact h6 m hm j hj
theorem iv_teach {l : Nat} {b : Int32} (h : JV n nL nE d D F) (hl : l < nL) (hb : isIx b 65536) : JV n nL nE d D (g_2 F 22 l b) :=
  iv_rows h (fw_teach h.1 hl hb) (fun j hj => g2_row (by omega))
theorem edi_row {b v j : Nat} {m1 c y p g l : Int32} (h23 : j ≠ 23) (h24 : j ≠ 24) : ediF F b v m1 c y p g l j = F j := by
  unfold ediF
  rw [g2_row h23, g2_row h24, g2_row h24, g2_row h24, g2_row h24, g2_row h24, g2_row h24]
theorem iv_edition {b v : Nat} {m1 c y p g l : Int32} (h : JV n nL nE d D F) (hb : b < 8) (he : F 23 b = nI v) (h3 : v < 3) (hw : edV (nI b) m1 c y p g l) : JV n nL nE d D (ediF F b v m1 c y p g l) :=
  iv_rows h (fw_edition h.1 hb he h3 hw) (fun j hj => edi_row (by omega) (by omega))
theorem beg_row {i b v j : Nat} (h17 : j ≠ 17) (h18 : j ≠ 18) : begF D F i b v j = F j := by
  unfold begF
  rw [g2_row h18, g2_row h17]
theorem iv_begin {i b v : Nat} (h : JV n nL nE d D F) (hi : i < n) (hb : b < 8) (hw : F 23 b = nI (v + 1)) (hv : v < 3) : JV n nL nE d D (begF D F i b v) :=
  iv_rows h (fw_begin h.1 hi hb hw hv) (fun j hj => beg_row (by omega) (by omega))
theorem iv_prove {i k : Nat} (h : JV n nL nE d D F) (hi : i < n) (hk : k < 16) : JV n nL nE d D (g_2 F 16 (16 * i + k) (D 0)) :=
  iv_rows h (fw_prove h.1 hi hk) (fun j hj => g2_row (by omega))
theorem evn_row {e j : Nat} {a b c dd p q : Int32} (h : j ≠ 27) : evnF F e a b c dd p q j = F j := by
  unfold evnF
  rw [g2_row h, g2_row h, g2_row h, g2_row h, g2_row h, g2_row h]
theorem evn_o {e k : Nat} {a b c dd p q : Int32} (h : k < 6 * e) : evnF F e a b c dd p q 27 k = F 27 k := by
  unfold evnF
  rw [g_2n _ _ (fun w => by omega), g_2n _ _ (fun w => by omega), g_2n _ _ (fun w => by omega), g_2n _ _ (fun w => by omega), g_2n _ _ (fun w => by omega), g_2n _ _ (fun w => by omega)]
theorem meB_cg {a b : Nat} (ha : ∀ j, j < 6 → G 27 (6 * a + j) = F 27 (6 * a + j)) (hb : ∀ j, j < 6 → G 27 (6 * b + j) = F 27 (6 * b + j)) : meB G a b = meB F a b := by
  unfold meB
  rw [ha 3 (by decide), ha 4 (by decide), ha 5 (by decide), hb 3 (by decide), hb 4 (by decide), hb 5 (by decide)]
theorem iv_event {a b c dd p q : Int32} (h : JV n nL nE d D F) (h20 : nE < 20) (hb : isIx b 3) (hw : evV D c dd p q) : JV n nL (nE + 1) d (upD D 26 (nI (nE + 1))) (evnF F nE a b c dd p q) := by
  obtain ⟨hW, h1, h3, h4, h5, h6⟩ := h
  have z : sN F nE = 0 := by
    unfold sN
    rw [hW.1.2.2.2.2.2.2.2.2.2.2.2.2 nE (Nat.le_refl nE) h20]
    rfl
  refine ⟨fw_event hW h20 hb hw rfl rfl rfl rfl rfl, ?_, ?_, ?_, ?_, ?_⟩
  · unfold X1
    rw [evn_row (by decide), evn_row (by decide)]
    exact h1
  · unfold X3 inT waT
    rw [evn_row (by decide), evn_row (by decide), evn_row (by decide)]
    exact h3
  · unfold X4
    rw [evn_row (by decide), evn_row (by decide)]
    exact h4
  · intro e he k hk hke hm l hl
    have es : ∀ e, sN (evnF F nE a b c dd p q) e = sN F e := fun e => by
      unfold sN
      rw [evn_row (by decide)]
    rw [es] at hl ⊢
    by_cases e1 : e = nE
    · subst e1
      rw [z] at hl
      simp at hl
    · by_cases e2 : k = nE
      · subst e2
        rw [z]
        simp
      · rw [meB_cg (F := F) (fun j hj => evn_o (by omega)) (fun j hj => evn_o (by omega))] at hm
        exact h5 e (by omega) k (by omega) hke hm l hl
  · unfold X6
    rw [evn_row (by decide)]
    exact h6
theorem meB_sym (F : Nat → Nat → Int32) (a b : Nat) : meB F a b = meB F b a := by
  unfold meB
  have e : decide (F 27 (6 * a + 3) = F 27 (6 * b + 3)) = decide (F 27 (6 * b + 3) = F 27 (6 * a + 3)) := by
    by_cases w : F 27 (6 * a + 3) = F 27 (6 * b + 3)
    · rw [w]
    · rw [decide_eq_false w, decide_eq_false (fun z => w z.symm)]
  rw [e, Bool.and_assoc, Bool.and_assoc, Bool.and_comm (!decide _) (!decide _)]
theorem clr_bit : ∀ s, s < 256 → ∀ l, l < 8 → ∀ k, k < 8 → (clr s l).testBit k = (s.testBit k && !decide (k = l)) := by decide +kernel
theorem iv_staff {e v : Nat} (h : JV n nL nE d D F) (he : e < nE) (hv : v < 256) (hvL : v < 2 ^ nL) (hx : ∀ l, v.testBit l = true → (sN F e).testBit l = true ∨ ∀ k, k < nE → k ≠ e → meB F k e = true → (sN F k).testBit l = false) : JV n nL nE d D (g_2 F 28 e (nI v)) := by
  obtain ⟨hW, h1, h3, h4, h5, h6⟩ := h
  refine ⟨fw_staff hW he hv hvL, ?_, ?_, ?_, ?_, ?_⟩
  · unfold X1
    rw [g2_row (by decide), g2_row (by decide)]
    exact h1
  · unfold X3 inT waT
    rw [g2_row (by decide), g2_row (by decide), g2_row (by decide)]
    exact h3
  · unfold X4
    rw [g2_row (by decide), g2_row (by decide)]
    exact h4
  · intro a ha k hk hka hm l hl
    have em : meB (g_2 F 28 e (nI v)) k a = meB F k a := by
      unfold meB
      rw [g2_row (by decide)]
    have es : sN (g_2 F 28 e (nI v)) e = v := by
      unfold sN
      rw [g_2s, nIc (by omega)]
    have eo : ∀ j, j ≠ e → sN (g_2 F 28 e (nI v)) j = sN F j := fun j hj => by
      unfold sN
      rw [g_2n _ _ (fun q => hj q.2)]
    rw [em] at hm
    by_cases c : a = e
    · subst c
      rw [es] at hl
      rw [eo k hka]
      rcases hx l hl with w | w
      · exact h5 a ha k hk hka hm l w
      · exact w k hk hka hm
    · rw [eo a c] at hl
      by_cases c2 : k = e
      · subst c2
        rw [es]
        cases q : v.testBit l with
        | false => rfl
        | true =>
          rcases hx l q with w | w
          · have := h5 a ha k hk hka hm l hl
            rw [w] at this
            exact this
          · have := w a ha c (by rw [meB_sym]; exact hm)
            rw [hl] at this
            exact absurd this (by decide)
      · rw [eo k c2]
        exact h5 a ha k hk hka hm l hl
  · unfold X6
    rw [g2_row (by decide)]
    exact h6
theorem iv_M {i tk ow : Nat} (h : JV n nL nE d D F) (hi : i < n) (r : ∀ j, j ≠ 12 → j ≠ 13 → j ≠ 14 → F' j = F j) (ro : ∀ j k, k ≠ i → F' j k = F j k) (e14 : F' 14 i = nI tk) (e12 : F' 12 i = nI ow) (q1 : tk ≤ 9999) (q2 : ow ≤ 4 * tk) (q3 : F' 12 i = 0 ∨ ∃ t, t < 4 ∧ F' 13 i = nI t) : JV n nL nE d D F' := by
  obtain ⟨hW, h1, h3, h4, h5, h6⟩ := h
  refine ⟨fw_M hW hi r ro e14 e12 q1 q2, ?_, ?_, fun k hk => ?_, ?_, ?_⟩
  · unfold X1
    rw [r 7 (by decide) (by decide) (by decide), r 11 (by decide) (by decide) (by decide)]
    exact h1
  · unfold X3 inT waT
    rw [r 4 (by decide) (by decide) (by decide), r 7 (by decide) (by decide) (by decide), r 8 (by decide) (by decide) (by decide)]
    exact h3
  · by_cases e : k = i
    · subst e
      exact q3
    · rw [ro 12 k e, ro 13 k e]
      exact h4 k hk
  · unfold X5 meB sN
    rw [r 27 (by decide) (by decide) (by decide), r 28 (by decide) (by decide) (by decide)]
    exact h5
  · unfold X6
    rw [r 21 (by decide) (by decide) (by decide)]
    exact h6
end INV
