/-! THE NUMBERS STAY IN THEIR RANGES: the other calls -/
section CWF2
variable {S : Hp} {x m : Nat} {A : Nat → Nat → Nat} {n nT nL nE d : Nat} {D D' : Nat → Int32} {F F' : Nat → Nat → Int32}
theorem inR_mono {v : Int32} {N M : Nat} (h : inR v N) (hNM : N ≤ M) : inR v M := by
  rcases h with h | ⟨t, ht, e⟩
  · exact Or.inl h
  · exact Or.inr ⟨t, by omega, e⟩
theorem isIx_mono {v : Int32} {N M : Nat} (h : isIx v N) (hNM : N ≤ M) : isIx v M := by
  obtain ⟨j, hj, e⟩ := h
  exact ⟨j, by omega, e⟩
theorem isIx_of {v M : Int32} {N : Nat} (hM : M.toInt = (N : Int) - 1) (hN : N < 2 ^ 31) (h : ¬ (v < 0 ∨ M < v)) : isIx v N := by
  rcases nI_int v with w | ⟨j, hj, e⟩
  · exact absurd (Or.inl w) h
  · refine ⟨j, ?_, e⟩
    rcases Nat.lt_or_ge j N with q | q
    · exact q
    · refine absurd (Or.inr ?_) h
      rw [i_lt, e, nI_toInt hj, hM]
      omega
theorem fw_troop {a b c : Int32} (h : FW n nT nL nE d D F) (h6 : nT < 6) (hc : ¬ (c < 1 ∨ 12 < c)) (e1 : D' 1 = nI (nT + 1)) (e5 : D' 5 = D 5) (e19 : D' 19 = D 19) (e26 : D' 26 = D 26) (e0 : D' 0 = D 0) : FW n (nT + 1) nL nE d D' (trF F nT a b c) := by
  obtain ⟨⟨⟨⟨n24, t6, l8, e20, d4⟩, g1, g5, g19, g26, g0⟩, hPL, hRM, hr⟩, h2⟩ := h
  have r : ∀ j, j ≠ 2 → j ≠ 3 → j ≠ 4 → trF F nT a b c j = F j := fun j w2 w3 w4 => funext fun k => by simp [trF, g_2, w2, w3, w4]
  have hb : FW n nT nL nE d D (g_2 (trF F nT a b c) 4 nT (F 4 nT)) := by
    refine fw_cg (F := g_2 (g_2 F 2 nT a) 3 nT b) ?_ (fun j hj => ?_)
    · have : FW n nT nL nE d D F := ⟨⟨⟨⟨n24, t6, l8, e20, d4⟩, g1, g5, g19, g26, g0⟩, hPL, hRM, hr⟩, h2⟩
      exact this
    · funext k
      by_cases w : j = 4 ∧ k = nT
      · rw [w.1, w.2, g_2s]
        simp [g_2]
      · rw [g_2n _ _ w]
        unfold trF
        exact g_2n _ _ w
  obtain ⟨⟨-, -, -, q4, q5, q6, q7, q8, q9, q10, q11, q12, q13⟩, q14, q15⟩ := hb
  have r' : ∀ j, j ≠ 4 → g_2 (trF F nT a b c) 4 nT (F 4 nT) j = trF F nT a b c j := fun j w => funext fun k => g_2n _ _ (fun z => w z.1)
  have r2 : ∀ j, j ≠ 2 → j ≠ 3 → j ≠ 4 → g_2 (trF F nT a b c) 4 nT (F 4 nT) j = F j := fun j w2 w3 w4 => (r' j w4).trans (r j w2 w3 w4)
  refine ⟨⟨⟨⟨n24, by omega, l8, e20, d4⟩, e1, e5.trans g5, e19.trans g19, e26.trans g26, e0.trans g0⟩, fun i hi => ?_, fun t ht => ?_, hr⟩, h2⟩
  · obtain ⟨w1, w2, w3⟩ := hPL i hi
    rw [r 7 (by decide) (by decide) (by decide), r 8 (by decide) (by decide) (by decide), r 11 (by decide) (by decide) (by decide)]
    exact ⟨inR_mono w1 (by omega), inR_mono w2 (by omega), w3⟩
  · by_cases e : t = nT
    · subst e
      have e4 : trF F t a b c 4 t = c := by simp [trF, g_2]
      rw [e4]
      rcases nI_int c with w | ⟨j, hj, ej⟩
      · refine absurd (Or.inl ?_) hc
        rw [i_lt] at w ⊢
        rw [show (0 : Int32).toInt = 0 from rfl] at w
        rw [show (1 : Int32).toInt = 1 from rfl]
        omega
      · refine ⟨j, ?_, ej⟩
        rcases Nat.lt_or_ge j 100 with q | q
        · exact q
        · refine absurd (Or.inr ?_) hc
          rw [i_lt, ej, nI_toInt hj, show (12 : Int32).toInt = 12 from rfl]
          omega
    · rw [trF_ne e]
      exact hRM t (by omega)
theorem fw_child {a : Int32} (h : FW n nT nL nE d D F) (h24 : n < 24) (e1 : D' 1 = D 1) (e5 : D' 5 = nI (n + 1)) (e19 : D' 19 = D 19) (e26 : D' 26 = D 26) (e0 : D' 0 = D 0) : FW (n + 1) nT nL nE d D' (chN F n a) := by
  obtain ⟨⟨⟨⟨n24, t6, l8, e20, d4⟩, g1, g5, g19, g26, g0⟩, hPL, hRM, hWM, hWP, hWC, hWE, hWL, hWV, hSN, h0, h1, h2⟩, hWS, hWT⟩ := h
  obtain ⟨z12, z14, z16, z17⟩ := h0 n (Nat.le_refl _) h24
  refine ⟨⟨⟨⟨by omega, t6, l8, e20, d4⟩, e1.trans g1, e5, e19.trans g19, e26.trans g26, e0.trans g0⟩, fun i hi => ?_, hRM, fun i hi => ?_, fun i hi => ?_, fun i hi => ?_, hWE, hWL, hWV, hSN, fun i h1 h2 => h0 i (by omega) h2, h1, h2⟩, hWS, fun i hi => ?_⟩
  · by_cases e : i = n
    · subst e
      have e7 : chN F i a 7 i = -1 := by simp [chN, g_2]
      have e8 : chN F i a 8 i = -1 := by simp [chN, g_2]
      rw [e7, e8]
      exact ⟨Or.inl rfl, Or.inl rfl, Or.inl rfl⟩
    · rw [chN_ne e, chN_ne e, chN_ne e]
      exact hPL i (by omega)
  · by_cases e : i = n
    · subst e
      exact ⟨0, 0, z14, z12, by omega, by omega⟩
    · exact hWM i (by omega)
  · by_cases e : i = n
    · subst e
      exact fun k hk => Or.inl (z16 k hk)
    · exact hWP i (by omega)
  · by_cases e : i = n
    · subst e
      exact fun b hb => ⟨(z17 b hb).2, Or.inl (z17 b hb).1⟩
    · exact hWC i (by omega)
  · by_cases e : i = n
    · subst e
      intro _
      simp [chN, g_2]
    · rw [chN_ne e, chN_ne e]
      exact hWT i (by omega)
theorem fw_leader (h : FW n nT nL nE d D F) (h8 : nL < 8) (e1 : D' 1 = D 1) (e5 : D' 5 = D 5) (e19 : D' 19 = nI (nL + 1)) (e26 : D' 26 = D 26) (e0 : D' 0 = D 0) : FW n nT (nL + 1) nE d D' F := by
  obtain ⟨⟨⟨⟨n24, t6, l8, e20, d4⟩, g1, g5, g19, g26, g0⟩, hPL, hRM, hWM, hWP, hWC, hWE, hWL, hWV, hSN, h0, h1, h2⟩, hWS, hWT⟩ := h
  refine ⟨⟨⟨⟨n24, t6, by omega, e20, d4⟩, e1.trans g1, e5.trans g5, e19, e26.trans g26, e0.trans g0⟩, hPL, hRM, hWM, hWP, hWC, hWE, fun l hl => ?_, hWV, hSN, h0, fun l w1 w2 => h1 l (by omega) w2, h2⟩, fun e he => ?_, hWT⟩
  · by_cases e : l = nL
    · subst e
      exact ⟨0, by omega, (h1 l (Nat.le_refl _) h8).2⟩
    · exact hWL l (by omega)
  · exact Nat.lt_of_lt_of_le (hWS e he) (Nat.pow_le_pow_right (by decide) (by omega))
theorem fw_vet {l k : Nat} {a b : Int32} (h : FW n nT nL nE d D F) (hl : l < nL) (hk : k < 3) : FW n nT nL nE d D (vetF F l k a b) := by
  obtain ⟨⟨hN, hPL, hRM, hWM, hWP, hWC, hWE, hWL, hWV, hSN, h0, h1, h2⟩, hWS, hWT⟩ := h
  refine ⟨⟨hN, hPL, hRM, hWM, hWP, hWC, hWE, hWL, hWV, hSN, h0, fun l' w1 w2 => ?_, h2⟩, hWS, hWT⟩
  obtain ⟨v1, v2⟩ := h1 l' w1 w2
  refine ⟨fun k' hk' => ?_, v2⟩
  obtain ⟨u1, u2, u3⟩ := v1 k' hk'
  rw [vetF_ne (by omega) (by omega), vetF_ne (by omega) (by omega)]
  exact ⟨u1, u2, u3⟩
theorem fw_permit {l k : Nat} {c : Int32} (h : FW n nT nL nE d D F) (hl : l < nL) (hk : k < 3) : FW n nT nL nE d D (g_2 F 21 (3 * l + k) c) := by
  obtain ⟨⟨hN, hPL, hRM, hWM, hWP, hWC, hWE, hWL, hWV, hSN, h0, h1, h2⟩, hWS, hWT⟩ := h
  refine ⟨⟨hN, hPL, hRM, hWM, hWP, hWC, hWE, hWL, hWV, hSN, h0, fun l' w1 w2 => ?_, h2⟩, hWS, hWT⟩
  obtain ⟨v1, v2⟩ := h1 l' w1 w2
  refine ⟨fun k' hk' => ?_, v2⟩
  obtain ⟨u1, u2, u3⟩ := v1 k' hk'
  refine ⟨u1, u2, ?_⟩
  rw [show g_2 F 21 (3 * l + k) c 21 (3 * l' + k') = F 21 (3 * l' + k') from g_2n _ _ (by omega)]
  exact u3
theorem fw_teach {l : Nat} {b : Int32} (h : FW n nT nL nE d D F) (hl : l < nL) (hb : isIx b 65536) : FW n nT nL nE d D (g_2 F 22 l b) := by
  obtain ⟨⟨hN, hPL, hRM, hWM, hWP, hWC, hWE, hWL, hWV, hSN, h0, h1, h2⟩, hWS, hWT⟩ := h
  refine ⟨⟨hN, hPL, hRM, hWM, hWP, hWC, hWE, fun l' hl' => ?_, hWV, hSN, h0, fun l' w1 w2 => ?_, h2⟩, hWS, hWT⟩
  · by_cases e : l' = l
    · subst e
      rw [g_2s]
      exact hb
    · rw [show g_2 F 22 l b 22 l' = F 22 l' from g_2n _ _ (fun w => e w.2)]
      exact hWL l' hl'
  · obtain ⟨v1, v2⟩ := h1 l' w1 w2
    refine ⟨v1, ?_⟩
    rw [show g_2 F 22 l b 22 l' = F 22 l' from g_2n _ _ (by omega)]
    exact v2
theorem EV_of {b a : Nat} {m1 c y p g l : Int32} (hb : b < 8) (hw : edV (nI b) m1 c y p g l) (f0 : F 24 a = m1) (f1 : F 24 (a + 1) = c) (f2 : F 24 (a + 2) = y) (f3 : F 24 (a + 3) = p) (f4 : F 24 (a + 4) = g) (f5 : F 24 (a + 5) = l) : EV F b a := by
  obtain ⟨h1, h2, h3, h4, h5, h6, h7⟩ := hw
  have i1 : isIx m1 65536 := isIx_of (M := 65535) (N := 65536) rfl (by decide) h1
  have i2 : isIx c 65536 := isIx_of (M := 65535) (N := 65536) rfl (by decide) h2
  have hp16 := pop_le c.toNatClampNeg 16
  have i4 : isIx y 17 := isIx_mono (isIx_of (M := nI (pop c.toNatClampNeg 16)) (N := pop c.toNatClampNeg 16 + 1) (by rw [nI_toInt (by omega)]; omega) (by omega) h4) (by omega)
  unfold EV
  rw [f0, f1, f2, f3, f4, f5]
  refine ⟨i1, i2, i4, ?_, isIx_of (M := 4000) (N := 4001) rfl (by decide) h7, ?_⟩
  · by_cases z : p = -1
    · exact Or.inl z
    · refine Or.inr ⟨?_, isIx_of (M := 400) (N := 401) rfl (by decide) (h6.resolve_left z)⟩
      have hpp : ¬ (p < 0 ∨ nI b - 1 < p) := fun w => by
        rcases w with w | w
        · refine h5 (Or.inl ?_)
          rw [i_lt] at w ⊢
          have hz : p.toInt ≠ (-1 : Int32).toInt := fun q => z ((i_eq _ _).mpr q)
          rw [show (0 : Int32).toInt = 0 from rfl] at w
          rw [show (-1 : Int32).toInt = -1 from rfl] at hz ⊢
          omega
        · exact h5 (Or.inr w)
      exact isIx_of (M := nI b - 1) (N := b) (sub1_toInt (by omega)) (by omega) hpp
  · obtain ⟨e1, l1⟩ := ixe i1 (by decide)
    obtain ⟨e2, l2⟩ := ixe i2 (by decide)
    rw [e1, e2, fa_and] at h3
    have hlt : m1.toNatClampNeg &&& c.toNatClampNeg < 65536 := Nat.lt_of_le_of_lt Nat.and_le_left l1
    exact (nI_eq (b := 0) (by omega) (by decide)).mp h3
theorem fw_edition {b e : Nat} {m1 c y p g l : Int32} (h : FW n nT nL nE d D F) (hb : b < 8) (he : F 23 b = nI e) (h3 : e < 3) (hw : edV (nI b) m1 c y p g l) : FW n nT nL nE d D (ediF F b e m1 c y p g l) := by
  obtain ⟨⟨hN, hPL, hRM, hWM, hWP, hWC, hWE, hWL, hWV, hSN, h0, h1, h2⟩, hWS, hWT⟩ := h
  have r : ∀ j, j ≠ 23 → j ≠ 24 → ediF F b e m1 c y p g l j = F j := fun j w1 w2 => ediF_r w1 w2
  have eb : edn F b = e := by
    unfold edn
    rw [he, nIc (by omega)]
  have en : ∀ k, edn (ediF F b e m1 c y p g l) k = if k = b then e + 1 else edn F k := fun k => by
    unfold edn
    rw [ediF_23]
    by_cases w : k = b
    · rw [if_pos w, if_pos w, nIc (by omega)]
    · rw [if_neg w, if_neg w]
  have e3' : ∀ k, k < 8 → edn F k ≤ 3 := fun k hk => by
    obtain ⟨w, hw, ew⟩ := (hWE k hk).1
    unfold edn
    rw [ew, nIc (by omega)]
    omega
  have hb' : FW n nT nL nE d D (fun j => if j = 23 ∨ j = 24 then F j else ediF F b e m1 c y p g l j) := by
    refine fw_cg ⟨⟨hN, hPL, hRM, hWM, hWP, hWC, hWE, hWL, hWV, hSN, h0, h1, h2⟩, hWS, hWT⟩ (fun j hj => ?_)
    by_cases w : j = 23 ∨ j = 24
    · simp only [w, if_true]
    · simp only [w, if_false]
      exact r j (fun z => w (Or.inl z)) (fun z => w (Or.inr z))
  obtain ⟨⟨-, q1, q2, q3, q4, q5, -, q7, q8, q9, q10, q11, q12⟩, q13, q14⟩ := hb'
  refine ⟨⟨hN, q1, q2, q3, q4, fun i hi k hk => ?_, fun k hk => ?_, q7, q8, q9, q10, q11, q12⟩, q13, q14⟩
  · rw [r 17 (by decide) (by decide), r 18 (by decide) (by decide), en]
    obtain ⟨w1, w2⟩ := hWC i hi k hk
    refine ⟨w1, ?_⟩
    rcases w2 with w | ⟨w, w2⟩
    · exact Or.inl w
    · refine Or.inr ⟨w, ?_⟩
      by_cases z : k = b
      · rw [if_pos z]
        rw [z, eb] at w2
        rw [z]
        omega
      · rw [if_neg z]
        exact w2
  · rw [ediF_23, en]
    by_cases z : k = b
    · subst z
      rw [if_pos rfl, if_pos rfl]
      refine ⟨⟨e + 1, by omega, rfl⟩, fun e' he' => ?_⟩
      by_cases w : e' = e
      · subst w
        exact EV_of hb hw (by simp [ediF, g_2]) (by simp [ediF, g_2]) (by simp [ediF, g_2]) (by simp [ediF, g_2]) (by simp [ediF, g_2]) (by simp [ediF, g_2])
      · have := (hWE k hk).2 e' (by rw [eb]; omega)
        unfold EV at this ⊢
        rw [ediF_o (by omega), ediF_o (by omega), ediF_o (by omega), ediF_o (by omega), ediF_o (by omega), ediF_o (by omega)]
        exact this
    · rw [if_neg z, if_neg z]
      refine ⟨(hWE k hk).1, fun e' he' => ?_⟩
      have := (hWE k hk).2 e' he'
      have v3 := e3' k hk
      unfold EV at this ⊢
      rw [ediF_o (by omega), ediF_o (by omega), ediF_o (by omega), ediF_o (by omega), ediF_o (by omega), ediF_o (by omega)]
      exact this
theorem fw_begin {i b e : Nat} (h : FW n nT nL nE d D F) (hi : i < n) (hb : b < 8) (hw : F 23 b = nI (e + 1)) (he : e < 3) : FW n nT nL nE d D (begF D F i b e) := by
  obtain ⟨⟨hN, hPL, hRM, hWM, hWP, hWC, hWE, hWL, hWV, hSN, h0, h1, h2⟩, hWS, hWT⟩ := h
  refine ⟨⟨hN, hPL, hRM, hWM, hWP, fun i' hi' k hk => ?_, hWE, hWL, hWV, hSN, fun i' w1 w2 => ?_, h1, h2⟩, hWS, hWT⟩
  · rw [begF_17, begF_18]
    have e23 : edn (begF D F i b e) k = edn F k := rfl
    rw [e23]
    by_cases z : 8 * i' + k = 8 * i + b
    · have : k = b := by omega
      subst this
      rw [if_pos z, if_pos z, nIc (by omega)]
      refine ⟨⟨e, he, rfl⟩, Or.inr ⟨⟨d, by omega, hN.2.2.2.2.2⟩, ?_⟩⟩
      unfold edn
      rw [hw, nIc (by omega)]
      omega
    · rw [if_neg z, if_neg z]
      exact hWC i' hi' k hk
  · obtain ⟨v1, v2, v3, v4⟩ := h0 i' w1 w2
    refine ⟨v1, v2, v3, fun k hk => ?_⟩
    rw [begF_17, begF_18, if_neg (by omega), if_neg (by omega)]
    exact v4 k hk
theorem fw_prove {i k : Nat} (h : FW n nT nL nE d D F) (hi : i < n) (hk : k < 16) : FW n nT nL nE d D (g_2 F 16 (16 * i + k) (D 0)) := by
  obtain ⟨⟨hN, hPL, hRM, hWM, hWP, hWC, hWE, hWL, hWV, hSN, h0, h1, h2⟩, hWS, hWT⟩ := h
  refine ⟨⟨hN, hPL, hRM, hWM, fun i' hi' j hj => ?_, hWC, hWE, hWL, hWV, hSN, fun i' w1 w2 => ?_, h1, h2⟩, hWS, hWT⟩
  · by_cases z : 16 * i' + j = 16 * i + k
    · rw [z, g_2s]
      exact Or.inr ⟨d, by omega, hN.2.2.2.2.2⟩
    · rw [show g_2 F 16 (16 * i + k) (D 0) 16 (16 * i' + j) = F 16 (16 * i' + j) from g_2n _ _ (fun w => z w.2)]
      exact hWP i' hi' j hj
  · obtain ⟨v1, v2, v3, v4⟩ := h0 i' w1 w2
    refine ⟨v1, v2, fun j hj => ?_, v4⟩
    rw [show g_2 F 16 (16 * i + k) (D 0) 16 (16 * i' + j) = F 16 (16 * i' + j) from g_2n _ _ (by omega)]
    exact v3 j hj
theorem fw_pass {a d' : Nat} (h : FW n nT nL nE d D F) (hd : d + a = d') (hd2 : d' < 10000) (e1 : D' 1 = D 1) (e5 : D' 5 = D 5) (e19 : D' 19 = D 19) (e26 : D' 26 = D 26) (e0 : D' 0 = nI d') : FW n nT nL nE d' D' F := by
  obtain ⟨⟨⟨⟨n24, t6, l8, e20, d4⟩, g1, g5, g19, g26, g0⟩, hPL, hRM, hWM, hWP, hWC, hWE, hWL, hWV, hSN, h0, h1, h2⟩, hWS, hWT⟩ := h
  refine ⟨⟨⟨⟨n24, t6, l8, e20, hd2⟩, e1.trans g1, e5.trans g5, e19.trans g19, e26.trans g26, e0⟩, hPL, hRM, hWM, fun i hi k hk => ?_, fun i hi b hb => ?_, hWE, hWL, hWV, hSN, h0, h1, h2⟩, hWS, hWT⟩
  · rcases hWP i hi k hk with w | w
    · exact Or.inl w
    · exact Or.inr (isIx_mono w (by omega))
  · obtain ⟨w1, w2⟩ := hWC i hi b hb
    refine ⟨w1, ?_⟩
    rcases w2 with w | ⟨w, v⟩
    · exact Or.inl w
    · exact Or.inr ⟨isIx_mono w (by omega), v⟩
theorem fw_event {a b c dd e f : Int32} (h : FW n nT nL nE d D F) (h20 : nE < 20) (hb : isIx b 3) (hw : evV D c dd e f) (e1 : D' 1 = D 1) (e5 : D' 5 = D 5) (e19 : D' 19 = D 19) (e26 : D' 26 = nI (nE + 1)) (e0 : D' 0 = D 0) : FW n nT nL (nE + 1) d D' (evnF F nE a b c dd e f) := by
  obtain ⟨⟨⟨⟨n24, t6, l8, e20, d4⟩, g1, g5, g19, g26, g0⟩, hPL, hRM, hWM, hWP, hWC, hWE, hWL, hWV, hSN, h0, h1, h2⟩, hWS, hWT⟩ := h
  obtain ⟨v1, v2, v3, v4⟩ := hw
  have z28 := h2 nE (Nat.le_refl _) h20
  have i3 : isIx e 24 := isIx_of (M := 23) (N := 24) rfl (by decide) v3
  refine ⟨⟨⟨⟨n24, t6, l8, by omega, d4⟩, e1.trans g1, e5.trans g5, e19.trans g19, e26, e0.trans g0⟩, hPL, hRM, hWM, hWP, hWC, hWE, hWL, fun k hk => ?_, fun k hk => ?_, h0, h1, fun k w1 w2 => h2 k (by omega) w2⟩, fun k hk => ?_, hWT⟩
  · by_cases z : k = nE
    · subst z
      have f1 : evnF F k a b c dd e f 27 (6 * k + 1) = b := by simp [evnF, g_2]
      have f2 : evnF F k a b c dd e f 27 (6 * k + 2) = c := by simp [evnF, g_2]
      have f3 : evnF F k a b c dd e f 27 (6 * k + 3) = dd := by simp [evnF, g_2]
      have f4 : evnF F k a b c dd e f 27 (6 * k + 4) = e := by simp [evnF, g_2]
      have f5 : evnF F k a b c dd e f 27 (6 * k + 5) = f := by simp [evnF, g_2]
      unfold EvV
      rw [f1, f2, f3, f4, f5]
      refine ⟨⟨hb, isIx_of (M := 3) (N := 4) rfl (by decide) v1⟩, ?_, i3, ?_⟩
      · refine isIx_of (M := 9999) (N := 10000) rfl (by decide) (fun w => v2 ?_)
        rcases w with w | w
        · refine Or.inl ?_
          rw [g0, i_lt, nI_toInt (by omega)]
          rw [i_lt, show (0 : Int32).toInt = 0 from rfl] at w
          omega
        · exact Or.inr w
      · obtain ⟨u, hu, eu⟩ := i3
        have e24 : ((24 : Int32) - e).toInt = 24 - (u : Int) := by
          rw [eu, show (24 : Int32) = nI 24 from rfl, pk_sub_toInt (by omega) (by omega)]
          rfl
        refine isIx_of (M := 24) (N := 25) rfl (by decide) (fun w => v4 ?_)
        rcases w with w | w
        · refine Or.inl ?_
          rw [i_lt] at w ⊢
          rw [show (0 : Int32).toInt = 0 from rfl] at w
          rw [show (1 : Int32).toInt = 1 from rfl]
          omega
        · refine Or.inr ?_
          rw [i_lt] at w ⊢
          rw [e24]
          rw [show (24 : Int32).toInt = 24 from rfl] at w
          omega
    · have := hWV k (by omega)
      unfold EvV at this ⊢
      rw [evnF_o (by omega), evnF_o (by omega), evnF_o (by omega), evnF_o (by omega), evnF_o (by omega)]
      exact this
  · have r28 : evnF F nE a b c dd e f 28 = F 28 := evnF_r (by decide)
    unfold sN
    rw [r28]
    by_cases z : k = nE
    · subst z
      rw [z28]
      exact ⟨rfl, by decide⟩
    · exact hSN k (by omega)
  · have r28 : evnF F nE a b c dd e f 28 = F 28 := evnF_r (by decide)
    unfold sN
    rw [r28]
    by_cases z : k = nE
    · subst z
      rw [z28]
      exact Nat.two_pow_pos _
    · exact hWS k (by omega)
theorem fw_staff {e v : Nat} (h : FW n nT nL nE d D F) (he : e < nE) (hv : v < 256) (hvL : v < 2 ^ nL) : FW n nT nL nE d D (g_2 F 28 e (nI v)) := by
  obtain ⟨⟨hN, hPL, hRM, hWM, hWP, hWC, hWE, hWL, hWV, hSN, h0, h1, h2⟩, hWS, hWT⟩ := h
  have es : ∀ k, sN (g_2 F 28 e (nI v)) k = if k = e then v else sN F k := fun k => by
    unfold sN
    by_cases z : k = e
    · subst z
      rw [g_2s, if_pos rfl, nIc (by omega)]
    · rw [show g_2 F 28 e (nI v) 28 k = F 28 k from g_2n _ _ (fun w => z w.2), if_neg z]
  refine ⟨⟨hN, hPL, hRM, hWM, hWP, hWC, hWE, hWL, hWV, fun k hk => ?_, h0, h1, fun k w1 w2 => ?_⟩, fun k hk => ?_, hWT⟩
  · rw [es]
    by_cases z : k = e
    · subst z
      rw [g_2s, if_pos rfl]
      exact ⟨rfl, hv⟩
    · rw [show g_2 F 28 e (nI v) 28 k = F 28 k from g_2n _ _ (fun w => z w.2), if_neg z]
      exact hSN k hk
  · rw [show g_2 F 28 e (nI v) 28 k = F 28 k from g_2n _ _ (by omega)]
    exact h2 k w1 w2
  · rw [es]
    by_cases z : k = e
    · rw [if_pos z]
      exact hvL
    · rw [if_neg z]
      exact hWS k hk
theorem clr_le (s l : Nat) : clr s l ≤ s := by
  unfold clr
  split
  · exact Nat.sub_le _ _
  · exact Nat.le_refl _
theorem setb_lt {s l m : Nat} (hs : s < 2 ^ m) (hl : l < m) : setb s l < 2 ^ m := Nat.or_lt_two_pow hs (Nat.pow_lt_pow_right (by decide) hl)
theorem fw_M {i tk ow : Nat} {D : Nat → Int32} (h : FW n nT nL nE d D F) (hi : i < n) (r : ∀ j, j ≠ 12 → j ≠ 13 → j ≠ 14 → F' j = F j) (ro : ∀ j k, k ≠ i → F' j k = F j k) (e14 : F' 14 i = nI tk) (e12 : F' 12 i = nI ow) (h1 : tk ≤ 9999) (h2 : ow ≤ 4 * tk) : FW n nT nL nE d D F' := by
  have hb' : FW n nT nL nE d D (fun j => if j = 12 ∨ j = 13 ∨ j = 14 then F j else F' j) := by
    refine fw_cg h (fun j hj => ?_)
    by_cases w : j = 12 ∨ j = 13 ∨ j = 14
    · simp only [w, if_true]
    · simp only [w, if_false]
      exact r j (fun z => w (Or.inl z)) (fun z => w (Or.inr (Or.inl z))) (fun z => w (Or.inr (Or.inr z)))
  obtain ⟨⟨hN, q1, q2, -, q4, q5, q6, q7, q8, q9, q10, q11, q12⟩, q13, q14⟩ := hb'
  have hWM := h.1.2.2.2.1
  have h0 := h.1.2.2.2.2.2.2.2.2.2.2.1
  refine ⟨⟨hN, q1, q2, fun k hk => ?_, q4, q5, q6, q7, q8, q9, fun k w1 w2 => ?_, q11, q12⟩, q13, q14⟩
  · by_cases z : k = i
    · subst z
      exact ⟨tk, ow, e14, e12, h1, h2⟩
    · rw [ro 14 k z, ro 12 k z]
      exact hWM k hk
  · have z : k ≠ i := by omega
    obtain ⟨v1, v2, v3, v4⟩ := h0 k w1 w2
    rw [ro 12 k z, ro 14 k z, r 16 (by decide) (by decide) (by decide), r 17 (by decide) (by decide) (by decide), r 18 (by decide) (by decide) (by decide)]
    exact ⟨v1, v2, v3, v4⟩
/-! what the calls want of the ranges -/
theorem fw_co {i : Nat} (h : FW n nT nL nE d D F) (hi : i < n) : CoV F i := fun b hb => by
  obtain ⟨⟨hN, -, -, -, -, hWC, hWE, -⟩, -⟩ := h
  obtain ⟨w1, w2⟩ := hWC i hi b hb
  have d4 := hN.1.2.2.2.2
  refine ⟨w1, ?_⟩
  rcases w2 with w | ⟨w, v⟩
  · exact Or.inl w
  · exact Or.inr ⟨isIx_mono w (by omega), (hWE b hb).2 _ v⟩
theorem fw_pr {i : Nat} (h : FW n nT nL nE d D F) (hi : i < n) : PRc F i := fun k hk => by
  obtain ⟨⟨hN, -, -, -, hWP, -⟩, -⟩ := h
  have d4 := hN.1.2.2.2.2
  rcases hWP i hi k hk with w | w
  · exact Or.inl w
  · exact Or.inr (isIx_mono w (by omega))
theorem fw_ed {i : Nat} (h : FW n nT nL nE d D F) (hi : i < n) : ∀ c, c < 8 → ¬ F 17 (8 * i + c) = -1 → (F 18 (8 * i + c)).toNatClampNeg < edn F c := fun c hc z => by
  obtain ⟨⟨hN, -, -, -, -, hWC, -⟩, -⟩ := h
  exact ((hWC i hi c hc).2.resolve_left z).2
end CWF2
