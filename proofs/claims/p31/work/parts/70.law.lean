/-! THE LAW -/
section LAWP
variable {n nL nE d : Nat} {D : Nat → Int32} {F F' : Nat → Nat → Int32} {S S1 S2 : Hp} {x m dd : Nat}
theorem fw_00 : FW 0 0 0 0 0 (fun _ => 0) F00 := by
  refine ⟨⟨⟨⟨by omega, by omega, by omega, by omega, by omega⟩, rfl, rfl, rfl, rfl, rfl⟩, fun i hi => by omega, fun i hi => by omega, fun i hi => by omega, fun i hi => by omega, fun i hi => by omega, fun b hb => ⟨⟨0, by omega, F00_23 b⟩, fun e he => ?_⟩, fun i hi => by omega, fun i hi => by omega, fun i hi => by omega, fun i _ hi => ⟨by simp [F00, fil], by simp [F00, fil], fun k hk => ?_, fun b hb => ⟨?_, ⟨0, by omega, by simp [F00, fil]; rfl⟩⟩⟩, fun l _ hl => ⟨fun k hk => ⟨?_, ?_, ?_⟩, by simp [F00, fil]⟩, fun e _ he => by simp [F00, fil]⟩, fun e he => by omega, fun i hi => by omega⟩
  · unfold edn at he
    rw [F00_23] at he
    exact absurd he (Nat.not_lt_zero e)
  · simp [F00, fil, show 16 * i + k < 384 by omega]
  · simp [F00, fil, show 8 * i + b < 192 by omega]
  · simp [F00, fil, a01, show 6 * l + 2 * k < 48 by omega, show (6 * l + 2 * k) % 2 = 0 by omega]
  · simp [F00, fil, a01, show 6 * l + 2 * k + 1 < 48 by omega, show (6 * l + 2 * k + 1) % 2 = 1 by omega]
  · simp [F00, fil, show 3 * l + k < 24 by omega]
theorem lg_rr (r : Int64) : lg_cmp r r = 0 := by simp [lg_cmp]
/-- what follows each change: now and then the questions are asked, and what is refused is tried -/
def tlW (x m dd : Nat) (K : Hp → Hp → Hp → Int32 → Int32 → Prop) (w5 : Int32) (r : Int32) (S1 S2 S : Hp) : Prop := if r = 0 then (K S1 S2 S (0 : Int32) (w5 + (1 : Int32))) else (if 0 < (w5 - w5 / (15 : Int32) * (15 : Int32)) then (if 0 < (w5 - w5 / (45 : Int32) * (45 : Int32)) then (K S1 S2 S (1 : Int32) (w5 + (1 : Int32))) else (wp_L_refused S1 S2 S x dd (fun r137 S134 S135 S136 => lt (if r137 = 0 then (0 : Int32) else (1 : Int32)) (fun y140 => K S134 S135 S136 y140 (w5 + (1 : Int32)))))) else (wp_L_all S1 S2 S x dd (fun r144 S141 S142 S143 => wp_L_all S142 S141 S143 m dd (fun r150 S147 S148 S149 => if (lg_cmp r144 r150) = 0 then (wp_L_sound S148 S147 S149 x dd (fun r156 S153 S154 S155 => if r156 = 0 then (K S153 S154 S155 (0 : Int32) (w5 + (1 : Int32))) else (if 0 < (w5 - w5 / (45 : Int32) * (45 : Int32)) then (K S153 S154 S155 (1 : Int32) (w5 + (1 : Int32))) else (wp_L_refused S153 S154 S155 x dd (fun r162 S159 S160 S161 => lt (if r162 = 0 then (0 : Int32) else (1 : Int32)) (fun y165 => K S159 S160 S161 y165 (w5 + (1 : Int32)))))))) else (K S148 S147 S149 (0 : Int32) (w5 + (1 : Int32)))))))
theorem lw_tail {K : Hp → Hp → Hp → Int32 → Int32 → Prop} {w5 : Int32} (hK : ∀ V1 V2 V, JJ V1 V2 V x m dd → K V1 V2 V 1 (w5 + 1)) (hJ : JJ S1 S2 S x m dd) : tlW x m dd K w5 1 S1 S2 S := by
  unfold tlW
  rw [if_neg (show ¬ (1 : Int32) = 0 by decide)]
  have ref : ∀ V1 V2 V, JJ V1 V2 V x m dd → if 0 < (w5 - w5 / (45 : Int32) * (45 : Int32)) then (K V1 V2 V (1 : Int32) (w5 + (1 : Int32))) else (wp_L_refused V1 V2 V x dd (fun r S134 S135 S136 => lt (if r = 0 then (0 : Int32) else (1 : Int32)) (fun y140 => K S134 S135 S136 y140 (w5 + (1 : Int32))))) := by
    intro V1 V2 V hJ
    by_cases c : 0 < (w5 - w5 / (45 : Int32) * (45 : Int32))
    · rw [if_pos c]
      exact hK V1 V2 V hJ
    · rw [if_neg c]
      obtain ⟨n, nL, nE, d, D, F, hI, h1, h2, hA⟩ := hJ
      refine refused_ok hI hA h1 (fun U u1 => ?_)
      rw [lt_v, if_neg (show ¬ (1 : Int32) = 0 by decide)]
      exact hK U V2 V ⟨n, nL, nE, d, D, F, hI, u1, h2, hA⟩
  by_cases c : 0 < (w5 - w5 / (15 : Int32) * (15 : Int32))
  · rw [if_pos c]
    exact ref S1 S2 S hJ
  · rw [if_neg c]
    obtain ⟨n, nL, nE, d, D, F, hI, h1, h2, hA⟩ := hJ
    obtain ⟨r, hr⟩ := all_det hI
    refine hr S1 S2 S x dd _ h1 hA (fun U u1 => hr S2 U S m dd _ h2 hA (fun V v1 => ?_))
    rw [if_pos (lg_rr r)]
    refine sound_ok hI hA u1 (fun W w1 => ?_)
    rw [if_neg (show ¬ (1 : Int32) = 0 by decide)]
    exact ref W V S ⟨n, nL, nE, d, D, F, hI, w1, v1, hA⟩
theorem lw_342 (hJ : JJ S1 S2 S x m dd) : wp_L_law_B342 S1 S2 S x m dd 1 := by
  obtain ⟨n, nL, nE, d, D, F, hI, h1, h2, hA⟩ := hJ
  unfold wp_L_law_B342
  rw [if_neg (show ¬ (1 : Int32) = 0 by decide)]
  obtain ⟨r, hr⟩ := all_det hI
  refine hr S1 S2 S x dd _ h1 hA (fun U u1 => hr S2 U S m dd _ h2 hA (fun V v1 => ?_))
  rw [if_pos (lg_rr r)]
  refine sound_ok hI hA u1 (fun W w1 => ?_)
  rw [if_neg (show ¬ (1 : Int32) = 0 by decide)]
  trivial
theorem nI_ge0 {k : Nat} (hk : k < 2 ^ 31) : (0 : Int32) ≤ nI k := (nI_le_iff (a := 0) (by decide) hk).mpr (Nat.zero_le k)
theorem lw_125 : ∀ (j k : Nat), k + j = 90 → ∀ (fuel : Nat) (S1 S2 S : Hp), 90 < k + fuel → JJ S1 S2 S x m dd → wp_L_law_L125 x m dd fuel S1 S2 S 1 (nI k) := by
  intro j
  induction j with
  | zero =>
    intro k hk fuel S1 S2 S hf hJ
    obtain ⟨f, rfl⟩ : ∃ f, fuel = f + 1 := ⟨fuel - 1, by omega⟩
    unfold wp_L_law_L125
    rw [if_pos (show (90 : Int32) ≤ nI k from (nI_le_iff (a := 90) (by omega) (by omega)).mpr (by omega))]
    exact lw_342 hJ
  | succ j ih =>
    intro k hk fuel S1 S2 S hf hJ
    obtain ⟨f, rfl⟩ : ∃ f, fuel = f + 1 := ⟨fuel - 1, by omega⟩
    have tail : ∀ U1 U2 U, JJ U1 U2 U x m dd → tlW x m dd (wp_L_law_L125 x m dd f) (nI k) 1 U1 U2 U := fun U1 U2 U hU => lw_tail (fun V1 V2 V hV => by
      rw [nI_s1]
      exact ih (k + 1) (by omega) f V1 V2 V (by omega) hV) hU
    unfold wp_L_law_L125
    rw [if_neg (show ¬ (90 : Int32) ≤ nI k from fun w => by have := (nI_le_iff (a := 90) (by omega) (by omega)).mp w; omega), if_neg (show ¬ (1 : Int32) = 0 by decide)]
    have e4 : (0 : Int32) ≤ (4 : Int32) + (2 : Int32) * nI k := by
      rw [show (2 : Int32) * nI k = nI (2 * k) from nI_mul 2 k, show (4 : Int32) + nI (2 * k) = nI (4 + 2 * k) from nI_add 4 (2 * k)]
      exact nI_ge0 (by omega)
    have e5 : (0 : Int32) ≤ (5 : Int32) + (2 : Int32) * nI k := by
      rw [show (2 : Int32) * nI k = nI (2 * k) from nI_mul 2 k, show (5 : Int32) + nI (2 * k) = nI (5 + 2 * k) from nI_add 5 (2 * k)]
      exact nI_ge0 (by omega)
    refine ⟨e4, fun r1 => ⟨e5, fun r2 => some_of (N := 24) rfl (by decide) (by decide) ?_⟩⟩
    by_cases c1 : nI (smv r1 24) < 9
    · rw [if_pos c1]
      exact children_ok hJ tail
    · rw [if_neg c1]
      by_cases c2 : 4 ≤ nI k
      · rw [if_pos c2]
        by_cases c3 : 14 ≤ nI (smv r1 24)
        · rw [if_pos c3]
          by_cases c4 : 17 ≤ nI (smv r1 24)
          · rw [if_pos c4]
            by_cases c5 : 21 ≤ nI (smv r1 24)
            · rw [if_pos c5]
              exact days_ok hJ tail
            · rw [if_neg c5]
              exact events_ok hJ tail
          · rw [if_neg c4]
            exact leaders_ok hJ tail
        · rw [if_neg c3]
          exact badges_ok hJ tail
      · rw [if_neg c2]
        exact children_ok hJ tail
/-! four troops -/
def TR (k : Nat) (D : Nat → Int32) (F : Nat → Nat → Int32) : Prop := FW 0 k 0 0 0 D F ∧ (∀ t, t < k → F 4 t = nI (1 + t % 3)) ∧ ∀ b, F 23 b = 0
theorem trF_r {t u : Nat} {a b c : Int32} (h2 : u ≠ 2) (h3 : u ≠ 3) (h4 : u ≠ 4) : trF F t a b c u = F u := by
  unfold trF
  rw [g2_row h4, g2_row h3, g2_row h2]
theorem tr_s {k : Nat} {a b c : Int32} (h : TR k D F) (hk : k < 4) (hc : c = nI (1 + k % 3)) : TR (k + 1) (upD D 1 (nI (k + 1))) (trF F k a b c) := by
  obtain ⟨h1, h2, h3⟩ := h
  refine ⟨fw_troop h1 (by omega) ?_ rfl rfl rfl rfl rfl, fun t ht => ?_, fun b => ?_⟩
  · rw [hc]
    exact rng1 (N := 12) (by omega) (by omega) (by decide)
  · by_cases e : t = k
    · subst e
      unfold trF
      rw [g_2s]
      exact hc
    · rw [trF_ne e]
      exact h2 t (by omega)
  · rw [trF_r (by decide) (by decide) (by decide)]
    exact h3 b
theorem tr_do {k : Nat} {a b c e : Int32} (hk : k < 4) (hv : ¬ (a < 5 ∨ 20 < a ∨ b < a ∨ 20 < b ∨ c < 1 ∨ 12 < c)) : Do 0 a b c e (0, k, 0, 0, D, F) (nI k) (0, k + 1, 0, 0, upD D 1 (nI (k + 1)), trF F k a b c) := fun S x Q h hQ => call_of (ds_0 (by
  obtain ⟨A, h⟩ := h
  exact ⟨h.1.1, c8_troop0 h hv (by show k < 6; omega) (fun S' A' h' => hQ S' ⟨A', cs_D h' rfl rfl⟩)⟩))
theorem tr_ok {k r s : Nat} (hr : r < 6) (hs : s < 6) (hk : k < 4) : ¬ ((5 : Int32) + nI r < 5 ∨ 20 < (5 : Int32) + nI r ∨ (11 : Int32) + nI s < (5 : Int32) + nI r ∨ 20 < (11 : Int32) + nI s ∨ nI (1 + k % 3) < 1 ∨ 12 < nI (1 + k % 3)) := by
  rw [show (5 : Int32) + nI r = nI (5 + r) from nI_add 5 r, show (11 : Int32) + nI s = nI (11 + s) from nI_add 11 s]
  rintro (w | w | w | w | w | w)
  · have := (nI_lt_iff (b := 5) (by omega) (by omega)).mp w
    omega
  · have := (nI_lt_iff (a := 20) (by omega) (by omega)).mp w
    omega
  · have := (nI_lt_iff (by omega) (by omega)).mp w
    omega
  · have := (nI_lt_iff (a := 20) (by omega) (by omega)).mp w
    omega
  · have := (nI_lt_iff (b := 1) (by omega) (by omega)).mp w
    omega
  · have := (nI_lt_iff (a := 12) (by omega) (by omega)).mp w
    omega
theorem tr_m : ∀ k, k < 4 → (1 : Int32) + (nI k - nI k / 3 * 3) = nI (1 + k % 3) := by decide
theorem tr_jv (h : TR 4 D F) : JV 0 0 0 0 D F := by
  obtain ⟨h1, h2, h3⟩ := h
  exact ⟨h1, fun i hi => absurd hi (Nat.not_lt_zero i), fun t ht => ⟨h2 t ht, Nat.zero_le _, Or.inl rfl⟩, fun i hi => absurd hi (Nat.not_lt_zero i), fun e he => absurd he (Nat.not_lt_zero e), fun l hl => absurd hl (Nat.not_lt_zero l)⟩
theorem lw_98 (hok : okA S 11 dd) (hN : g_N S dd = 40) (hz : ∀ i, g_R S dd i = 0) (hT : TR 4 D F) (h1 : RS S1 x (0, 4, 0, 0, D, F)) (h2 : RS S2 m (0, 4, 0, 0, D, F)) : wp_L_law_B98 S1 S2 S x m dd 1 := by
  have hA : DA (s_R S dd 1 4) dd 0 0 0 F := ⟨hok, hN, (gR_n (by decide)).trans (hz 0), gR_s, (gR_n (by decide)).trans (hz 2), (gR_n (by decide)).trans (hz 3), fun b hb => (gR_n (by omega)).trans ((hz _).trans (hT.2.2 b).symm), fun e he => absurd he (Nat.not_lt_zero e)⟩
  have hI := tr_jv hT
  have hv : vp_in (1 : Int32) (g_N S dd) := by
    rw [hN]
    exact vp_in_nI (n := 1) (by decide) (by decide)
  unfold wp_L_law_B98
  refine ⟨hok, hv, ?_⟩
  rw [lt_v, if_neg (show ¬ (1 : Int32) = 0 by decide)]
  refine refused_ok hI hA h1 (fun U u1 => ?_)
  rw [lt_v, if_neg (show ¬ (1 : Int32) = 0 by decide)]
  exact ⟨91, Nat.le_refl _, lw_125 90 0 (by decide) 91 U S2 _ (by decide) ⟨0, 0, 0, 0, D, F, hI, u1, h2, hA⟩⟩
theorem lw_27 (hok : okA S 11 dd) (hN : g_N S dd = 40) (hz : ∀ i, g_R S dd i = 0) : ∀ (j k : Nat), k + j = 4 → ∀ (fuel : Nat) (S1 S2 : Hp) (D : Nat → Int32) (F : Nat → Nat → Int32), 4 < k + fuel → TR k D F → RS S1 x (0, k, 0, 0, D, F) → RS S2 m (0, k, 0, 0, D, F) → wp_L_law_L27 x m dd fuel S1 S2 S 1 (nI k) := by
  intro j
  induction j with
  | zero =>
    intro k hk fuel S1 S2 D F hf hT h1 h2
    obtain ⟨f, rfl⟩ : ∃ f, fuel = f + 1 := ⟨fuel - 1, by omega⟩
    have : k = 4 := by omega
    subst this
    unfold wp_L_law_L27
    rw [if_pos (show (4 : Int32) ≤ nI 4 by decide)]
    exact lw_98 hok hN hz hT h1 h2
  | succ j ih =>
    intro k hk fuel S1 S2 D F hf hT h1 h2
    obtain ⟨f, rfl⟩ : ∃ f, fuel = f + 1 := ⟨fuel - 1, by omega⟩
    unfold wp_L_law_L27
    rw [if_neg (show ¬ (4 : Int32) ≤ nI k from fun w => by have := (nI_le_iff (a := 4) (by omega) (by omega)).mp w; omega), if_neg (show ¬ (1 : Int32) = 0 by decide)]
    refine ⟨nI_ge0 (by omega), fun r1 => some_of (N := 6) rfl (by decide) (by decide) ⟨nI_ge0 (by omega), fun r2 => some_of (N := 6) rfl (by decide) (by decide) ?_⟩⟩
    rw [tr_m k (by omega)]
    refine both_of (tr_do (by omega) (tr_ok (smv_lt _ (by decide)) (smv_lt _ (by decide)) (by omega))) h1 h2 (fun U1 U2 u1 u2 => ?_)
    rw [if_pos rfl, lt_v, nI_s1]
    exact ih (k + 1) (by omega) f U1 U2 _ _ (by omega) (tr_s hT (by omega) rfl) u1 u2
theorem law_ok (T : Nat) : wp_start T := by
  unfold wp_start
  intro x hx
  rw [lt_v]
  refine c8_init (nb_new 8 (h_0 T) x) (fun U1 A1 hc1 => ?_)
  intro m hm
  rw [lt_v]
  refine c8_init (nb_new 8 (h_0 T) m) (fun U2 A2 hc2 => ?_)
  intro dd hd
  rw [lt_v]
  unfold wp_L_law
  exact ⟨5, Nat.le_refl _, lw_27 (nA_ok 11 (h_0 T) dd 40) (nA_N 11 (h_0 T) dd 40) (fun i => by rw [nA_R]) 4 0 (by decide) 5 U1 U2 _ _ (by decide) ⟨fw_00, fun t ht => absurd ht (Nat.not_lt_zero t), F00_23⟩ ⟨A1, hc1⟩ ⟨A2, hc2⟩⟩
end LAWP
