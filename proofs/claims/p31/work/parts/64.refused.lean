/-! REFUSED -/
section REFUSED
variable {n nL nE d : Nat} {D : Nat → Int32} {F : Nat → Nat → Int32}
theorem n_24 {k N : Nat} {c : Int32} (hc : c = nI N) (hN : N < 1000) (h : k ≤ N) : c < 0 ∨ nI k ≤ c := by
  subst hc
  exact Or.inr ((nI_le_iff (by omega) (by omega)).mpr h)
theorem p_256 {nL : Nat} (h : nL ≤ 8) : nI (2 ^ nL - 1) < 256 := by
  have : 2 ^ nL ≤ 2 ^ 8 := Nat.pow_le_pow_right (by decide) h
  exact (nI_lt_iff (b := 256) (by omega) (by decide)).mpr (by omega)
theorem rf1 (hI : JV n nL nE d D F) : Do 0 4 5 1 0 (n, 4, nL, nE, D, F) (-2000000002) (n, 4, nL, nE, D, F) := do_B (fun S x Q h hQ => ds_0 (by
  obtain ⟨A, h⟩ := h
  obtain ⟨n24, l8, e20, d4, gd⟩ := iv_N hI
  exact ⟨h.1.1, c8_troop1 (Or.inl (by decide)) (he_B hQ)⟩))
theorem rf2 (hI : JV n nL nE d D F) : Do 1 18 0 0 0 (n, 4, nL, nE, D, F) (-2000000002) (n, 4, nL, nE, D, F) := do_B (fun S x Q h hQ => ds_1 (by
  obtain ⟨A, h⟩ := h
  obtain ⟨n24, l8, e20, d4, gd⟩ := iv_N hI
  exact ⟨h.1.1, c8_child1 (Or.inr (by decide)) (he_B hQ)⟩))
theorem rf3 (hI : JV n nL nE d D F) : Do 2 24 0 0 0 (n, 4, nL, nE, D, F) (-2000000001) (n, 4, nL, nE, D, F) := do_O (fun S x Q h hQ => ds_2 (by
  obtain ⟨A, h⟩ := h
  obtain ⟨n24, l8, e20, d4, gd⟩ := iv_N hI
  exact ⟨h.1.1, c8_join1a h (n_24 (N := 24) rfl (by decide) n24) (he_O hQ)⟩))
theorem rf4 (hI : JV n nL nE d D F) : Do 3 (-1) 0 0 0 (n, 4, nL, nE, D, F) (-2000000001) (n, 4, nL, nE, D, F) := do_O (fun S x Q h hQ => ds_3 (by
  obtain ⟨A, h⟩ := h
  obtain ⟨n24, l8, e20, d4, gd⟩ := iv_N hI
  exact ⟨h.1.1, c8_leave1 h (Or.inl (by decide)) (he_O hQ)⟩))
theorem rf5 (hI : JV n nL nE d D F) : Do 4 24 0 0 0 (n, 4, nL, nE, D, F) (-2000000001) (n, 4, nL, nE, D, F) := do_O (fun S x Q h hQ => ds_4 (by
  obtain ⟨A, h⟩ := h
  obtain ⟨n24, l8, e20, d4, gd⟩ := iv_N hI
  exact ⟨h.1.1, c8_patrol1 h (n_24 (N := 24) rfl (by decide) n24) (he_O hQ)⟩))
theorem rf6 (hI : JV n nL nE d D F) : Do 5 6 0 0 0 (n, 4, nL, nE, D, F) (-2000000001) (n, 4, nL, nE, D, F) := do_O (fun S x Q h hQ => ds_5 (by
  obtain ⟨A, h⟩ := h
  obtain ⟨n24, l8, e20, d4, gd⟩ := iv_N hI
  exact ⟨h.1.1, c8_duty1 h (n_24 (k := 4) (N := 6) rfl (by decide) (by decide)) (he_O hQ)⟩))
theorem rf7 (hI : JV n nL nE d D F) : Do 5 0 (-1) 0 0 (n, 4, nL, nE, D, F) (-2000000002) (n, 4, nL, nE, D, F) := do_B (fun S x Q h hQ => ds_5 (by
  obtain ⟨A, h⟩ := h
  obtain ⟨n24, l8, e20, d4, gd⟩ := iv_N hI
  exact ⟨h.1.1, c8_duty2 (j := 0) h h46 (show 0 < 4 by decide) (Or.inl (by decide)) (he_B hQ)⟩))
theorem rf8 (hI : JV n nL nE d D F) : Do 6 0 0 0 0 (n, 4, nL, nE, D, F) (-2000000002) (n, 4, nL, nE, D, F) := do_B (fun S x Q h hQ => ds_6 (by
  obtain ⟨A, h⟩ := h
  obtain ⟨n24, l8, e20, d4, gd⟩ := iv_N hI
  exact ⟨h.1.1, c8_pass1 (Or.inl (by decide)) (he_B hQ)⟩))
theorem rf9 (hI : JV n nL nE d D F) : Do 9 8 0 0 0 (n, 4, nL, nE, D, F) (-2000000001) (n, 4, nL, nE, D, F) := do_O (fun S x Q h hQ => ds_9 (by
  obtain ⟨A, h⟩ := h
  obtain ⟨n24, l8, e20, d4, gd⟩ := iv_N hI
  exact ⟨h.1.1, c8_vet1a h (n_24 (N := 8) rfl (by decide) l8) (he_O hQ)⟩))
theorem rf10 (hI : JV n nL nE d D F) : Do 10 (-1) 1 0 0 (n, 4, nL, nE, D, F) (-2000000001) (n, 4, nL, nE, D, F) := do_O (fun S x Q h hQ => ds_10 (by
  obtain ⟨A, h⟩ := h
  obtain ⟨n24, l8, e20, d4, gd⟩ := iv_N hI
  exact ⟨h.1.1, c8_permit1 h (Or.inl (by decide)) (he_O hQ)⟩))
theorem rf11 (hI : JV n nL nE d D F) : Do 11 8 0 0 0 (n, 4, nL, nE, D, F) (-2000000001) (n, 4, nL, nE, D, F) := do_O (fun S x Q h hQ => ds_11 (by
  obtain ⟨A, h⟩ := h
  obtain ⟨n24, l8, e20, d4, gd⟩ := iv_N hI
  exact ⟨h.1.1, c8_teach1 h (n_24 (N := 8) rfl (by decide) l8) (he_O hQ)⟩))
theorem rf12 (hI : JV n nL nE d D F) : Do 12 24 0 0 0 (n, 4, nL, nE, D, F) (-2000000001) (n, 4, nL, nE, D, F) := do_O (fun S x Q h hQ => ds_12 (by
  obtain ⟨A, h⟩ := h
  obtain ⟨n24, l8, e20, d4, gd⟩ := iv_N hI
  exact ⟨h.1.1, c8_begin1a h (n_24 (N := 24) rfl (by decide) n24) (he_O hQ)⟩))
theorem rf13 (hI : JV n nL nE d D F) : Do 13 24 0 0 0 (n, 4, nL, nE, D, F) (-2000000001) (n, 4, nL, nE, D, F) := do_O (fun S x Q h hQ => ds_13 (by
  obtain ⟨A, h⟩ := h
  obtain ⟨n24, l8, e20, d4, gd⟩ := iv_N hI
  exact ⟨h.1.1, c8_prove1a h (n_24 (N := 24) rfl (by decide) n24) (he_O hQ)⟩))
theorem rf14 (hI : JV n nL nE d D F) : Do 14 20 0 1 0 (n, 4, nL, nE, D, F) (-2000000001) (n, 4, nL, nE, D, F) := do_O (fun S x Q h hQ => ds_14a rfl (by
  obtain ⟨A, h⟩ := h
  obtain ⟨n24, l8, e20, d4, gd⟩ := iv_N hI
  exact ⟨h.1.1, c8_staff1a h (n_24 (N := 20) rfl (by decide) e20) (he_O hQ)⟩))
theorem rf15 (hI : JV n nL nE d D F) : Do 15 (-1) 0 0 0 (n, 4, nL, nE, D, F) (-2000000001) (n, 4, nL, nE, D, F) := do_O (fun S x Q h hQ => ds_15 (by
  obtain ⟨A, h⟩ := h
  obtain ⟨n24, l8, e20, d4, gd⟩ := iv_N hI
  exact ⟨h.1.1, c8_why1 h (Or.inl (by decide)) (he_O hQ)⟩))
theorem rg1 (hI : JV n nL nE d D F) : Do 16 0 (-1) 0 0 (n, 4, nL, nE, D, F) (-2000000002) (n, 4, nL, nE, D, F) := do_B (fun S x Q h hQ => ds_16 (by
  obtain ⟨A, h⟩ := h
  obtain ⟨n24, l8, e20, d4, gd⟩ := iv_N hI
  exact ⟨h.1.1, c8_could1 h l8 (Or.inr (Or.inl (Or.inl (by decide)))) (he_B hQ)⟩))
theorem rg2 (hI : JV n nL nE d D F) : Do 16 0 0 256 0 (n, 4, nL, nE, D, F) (-2000000002) (n, 4, nL, nE, D, F) := do_B (fun S x Q h hQ => ds_16 (by
  obtain ⟨A, h⟩ := h
  obtain ⟨n24, l8, e20, d4, gd⟩ := iv_N hI
  exact ⟨h.1.1, c8_could1 h l8 (Or.inr (Or.inr (Or.inr (p_256 l8)))) (he_B hQ)⟩))
theorem rg3 (hI : JV n nL nE d D F) : Do 17 24 1 0 0 (n, 4, nL, nE, D, F) (-2000000001) (n, 4, nL, nE, D, F) := do_O (fun S x Q h hQ => ds_17 (by
  obtain ⟨A, h⟩ := h
  obtain ⟨n24, l8, e20, d4, gd⟩ := iv_N hI
  exact ⟨h.1.1, c8_boxes1 h (n_24 (N := 24) rfl (by decide) n24) (he_O hQ)⟩))
theorem rg4 (hI : JV n nL nE d D F) : Do 18 (-1) 1 0 0 (n, 4, nL, nE, D, F) (-2000000001) (n, 4, nL, nE, D, F) := do_O (fun S x Q h hQ => ds_18 (by
  obtain ⟨A, h⟩ := h
  obtain ⟨n24, l8, e20, d4, gd⟩ := iv_N hI
  exact ⟨h.1.1, c8_pay1 h (Or.inl (by decide)) (he_O hQ)⟩))
theorem rg5 (hI : JV n nL nE d D F) : Do 19 6 0 0 0 (n, 4, nL, nE, D, F) (-2000000001) (n, 4, nL, nE, D, F) := do_O (fun S x Q h hQ => ds_19 (by
  obtain ⟨A, h⟩ := h
  obtain ⟨n24, l8, e20, d4, gd⟩ := iv_N hI
  exact ⟨h.1.1, c8_owed1 h (n_24 (k := 4) (N := 6) rfl (by decide) (by decide)) (he_O hQ)⟩))
theorem rg6 (hI : JV n nL nE d D F) : Do 20 24 0 0 0 (n, 4, nL, nE, D, F) (-2000000001) (n, 4, nL, nE, D, F) := do_O (fun S x Q h hQ => ds_20 (by
  obtain ⟨A, h⟩ := h
  obtain ⟨n24, l8, e20, d4, gd⟩ := iv_N hI
  exact ⟨h.1.1, c8_ofChild1 h (n_24 (N := 24) rfl (by decide) n24) (he_O hQ)⟩))
theorem rg7 (hI : JV n nL nE d D F) : Do 21 (-1) 0 0 0 (n, 4, nL, nE, D, F) (-2000000001) (n, 4, nL, nE, D, F) := do_O (fun S x Q h hQ => ds_21b (by decide) (by
  obtain ⟨A, h⟩ := h
  obtain ⟨n24, l8, e20, d4, gd⟩ := iv_N hI
  exact ⟨h.1.1, c8_ofTroop1 h (Or.inl (by decide)) (he_O hQ)⟩))
theorem rg8 (hI : JV n nL nE d D F) : Do 22 24 0 0 0 (n, 4, nL, nE, D, F) (-2000000001) (n, 4, nL, nE, D, F) := do_O (fun S x Q h hQ => ds_22 (by
  obtain ⟨A, h⟩ := h
  obtain ⟨n24, l8, e20, d4, gd⟩ := iv_N hI
  exact ⟨h.1.1, c8_earned1a h (n_24 (N := 24) rfl (by decide) n24) (he_O hQ)⟩))
theorem rg9 (hI : JV n nL nE d D F) : Do 23 0 8 0 0 (n, 4, nL, nE, D, F) (-2000000001) (n, 4, nL, nE, D, F) := do_O (fun S x Q h hQ => ds_23 (by
  obtain ⟨A, h⟩ := h
  obtain ⟨n24, l8, e20, d4, gd⟩ := iv_N hI
  refine ⟨h.1.1, ?_⟩
  by_cases z : n = 0
  · exact c8_holds1a h (n_24 (k := n) (N := 0) rfl (by decide) (by omega)) (he_O hQ)
  · exact c8_holds1b (i := 0) h n24 (show 0 < n by omega) (Or.inr (by decide)) (he_O hQ)))
theorem rg10 (hI : JV n nL nE d D F) : Do 24 0 (-1) 0 0 (n, 4, nL, nE, D, F) (-2000000001) (n, 4, nL, nE, D, F) := do_O (fun S x Q h hQ => ds_24 (by
  obtain ⟨A, h⟩ := h
  obtain ⟨n24, l8, e20, d4, gd⟩ := iv_N hI
  refine ⟨h.1.1, ?_⟩
  by_cases z : n = 0
  · exact c8_lacks1a h (n_24 (k := n) (N := 0) rfl (by decide) (by omega)) (he_O hQ)
  · exact c8_lacks1b (i := 0) h n24 (show 0 < n by omega) (Or.inl (by decide)) (he_O hQ)))
theorem re1 (hI : JV n nL nE d D F) : DoE 8 0 0 0 (-1) 0 0 (n, 4, nL, nE, D, F) (-2000000001) (n, 4, nL, nE, D, F) := fun S x Q h hQ => by
  have h1 := h
  obtain ⟨A, h⟩ := h
  exact ⟨h.1.1, c8_edition1 (EQ := HE Q) h (Or.inr (by decide)) (he_O (hQ S h1))⟩
theorem re2 (hI : JV n nL nE d D F) : DoE 0 3 1 0 (-1) 0 0 (n, 4, nL, nE, D, F) (-2000000002) (n, 4, nL, nE, D, F) := fun S x Q h hQ => by
  have h1 := h
  obtain ⟨A, h⟩ := h
  exact ⟨h.1.1, c8_edition2 (EQ := HE Q) (b := 0) h (by decide) (fun w => absurd w.2.2.1 (by decide)) (he_B (hQ S h1))⟩
theorem rv1 (hI : JV n nL nE d D F) : DoV 6 0 0 0 0 1 (n, 4, nL, nE, D, F) (-2000000001) (n, 4, nL, nE, D, F) := fun S x Q h hQ => by
  have h1 := h
  obtain ⟨A, h⟩ := h
  exact ⟨h.1.1, c8_event1a (EQ := HE Q) h (n_24 (k := 4) (N := 6) rfl (by decide) (by decide)) (he_O (hQ S h1))⟩
theorem rv2 (hI : JV n nL nE d D F) : DoV 0 0 4 9999 0 1 (n, 4, nL, nE, D, F) (-2000000002) (n, 4, nL, nE, D, F) := fun S x Q h hQ => by
  have h1 := h
  obtain ⟨A, h⟩ := h
  exact ⟨h.1.1, c8_event2 (EQ := HE Q) (i := 0) (k := 0) h h46 (show 0 < 4 by decide) (by decide) (fun w => w.1 (Or.inr (by decide))) (he_B (hQ S h1))⟩
theorem refused_ok (hI : JV n nL nE d D F) {S1 S2 S : Hp} {x dd : Nat} {Q : Int32 → Hp → Hp → Hp → Prop} (hd : DA S dd n nL nE F) (h : RS S1 x (n, 4, nL, nE, D, F)) (hQ : ∀ U, RS U x (n, 4, nL, nE, D, F) → Q 1 U S2 S) : wp_L_refused S1 S2 S x dd Q := by
  obtain ⟨r, hr⟩ := all_det hI
  unfold wp_L_refused
  refine hr S1 S2 S x dd _ h hd (fun U h => ?_)
  refine rf1 hI _ _ _ h (fun U h => ?_)
  rw [if_pos rfl]
  refine rf2 hI _ _ _ h (fun U h => ?_)
  rw [if_pos rfl]
  refine rf3 hI _ _ _ h (fun U h => ?_)
  rw [if_pos rfl]
  refine rf4 hI _ _ _ h (fun U h => ?_)
  rw [if_pos rfl]
  refine rf5 hI _ _ _ h (fun U h => ?_)
  rw [if_pos rfl]
  refine rf6 hI _ _ _ h (fun U h => ?_)
  rw [if_pos rfl]
  refine rf7 hI _ _ _ h (fun U h => ?_)
  rw [if_pos rfl]
  refine rf8 hI _ _ _ h (fun U h => ?_)
  rw [if_pos rfl]
  refine rf9 hI _ _ _ h (fun U h => ?_)
  rw [if_pos rfl]
  refine rf10 hI _ _ _ h (fun U h => ?_)
  rw [if_pos rfl]
  refine rf11 hI _ _ _ h (fun U h => ?_)
  rw [if_pos rfl]
  refine rf12 hI _ _ _ h (fun U h => ?_)
  rw [if_pos rfl]
  refine rf13 hI _ _ _ h (fun U h => ?_)
  rw [if_pos rfl]
  refine rf14 hI _ _ _ h (fun U h => ?_)
  rw [if_pos rfl]
  refine rf15 hI _ _ _ h (fun U h => ?_)
  rw [lt_v, if_pos rfl, if_neg (by decide)]
  unfold wp_L_refused_B245
  refine re1 hI _ _ _ h (fun U h => ?_)
  rw [if_pos rfl]
  refine re2 hI _ _ _ h (fun U h => ?_)
  rw [if_pos rfl]
  refine rv1 hI _ _ _ h (fun U h => ?_)
  rw [if_pos rfl]
  refine rv2 hI _ _ _ h (fun U h => ?_)
  rw [if_pos rfl]
  refine rg1 hI _ _ _ h (fun U h => ?_)
  rw [if_pos rfl]
  refine rg2 hI _ _ _ h (fun U h => ?_)
  rw [if_pos rfl]
  refine rg3 hI _ _ _ h (fun U h => ?_)
  rw [if_pos rfl]
  refine rg4 hI _ _ _ h (fun U h => ?_)
  rw [if_pos rfl]
  refine rg5 hI _ _ _ h (fun U h => ?_)
  rw [if_pos rfl]
  refine rg6 hI _ _ _ h (fun U h => ?_)
  rw [if_pos rfl]
  refine rg7 hI _ _ _ h (fun U h => ?_)
  rw [if_pos rfl]
  refine rg8 hI _ _ _ h (fun U h => ?_)
  rw [if_pos rfl]
  refine rg9 hI _ _ _ h (fun U h => ?_)
  rw [if_pos rfl]
  refine rg10 hI _ _ _ h (fun U h => ?_)
  rw [if_pos rfl]
  refine hr U S2 S x dd _ h hd (fun U h => ?_)
  have e : lg_cmp r r = 0 := by simp [lg_cmp]
  rw [if_pos e]
  exact bz1i (hQ U h)
end REFUSED
