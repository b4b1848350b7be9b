/-! THE LAW'S OWN ARRAY; 'all' is the same for the same movement -/
section ALL
variable {n nL nE d : Nat} {D : Nat → Int32} {F : Nat → Nat → Int32}
def DA (S : Hp) (dd n nL nE : Nat) (F : Nat → Nat → Int32) : Prop := okA S 11 dd ∧ g_N S dd = 40 ∧ g_R S dd 0 = nI n ∧ g_R S dd 1 = 4 ∧ g_R S dd 2 = nI nL ∧ g_R S dd 3 = nI nE ∧ (∀ b, b < 8 → g_R S dd (4 + b) = F 23 b) ∧ ∀ e, e < nE → g_R S dd (12 + e) = F 28 e
theorem da_v {S : Hp} {dd k : Nat} (h : DA S dd n nL nE F) (hk : k < 40) : vp_in (nI k) (g_N S dd) := by
  rw [h.2.1]
  exact vp_in_nI hk (by decide)
theorem nI_le_iff {a b : Nat} (ha : a < 2 ^ 31) (hb : b < 2 ^ 31) : nI a ≤ nI b ↔ a ≤ b := by
  rw [i_le, nI_toInt ha, nI_toInt hb]
  omega
theorem nI_lt_iff {a b : Nat} (ha : a < 2 ^ 31) (hb : b < 2 ^ 31) : nI a < nI b ↔ a < b := by
  rw [i_lt, nI_toInt ha, nI_toInt hb]
  omega
theorem nI_s1 (k : Nat) : nI k + 1 = nI (k + 1) := nI_add k 1
theorem oc_any {i k : Nat} (hI : JV n nL nE d D F) (hi : i < n) (hk : k < 6) : ∃ v : Int32, ∀ (S : Hp) (x : Nat) (Q : Int32 → Hp → Prop) (EQ : String → Hp → Prop), RS S x (n, 4, nL, nE, D, F) → Q v S → wp_X8_ofChild S x (nI i) (nI k) Q EQ := by
  rcases (show k = 0 ∨ k = 1 ∨ k = 2 ∨ k = 3 ∨ k = 4 ∨ k = 5 by omega) with rfl | rfl | rfl | rfl | rfl | rfl
  · exact ⟨_, fun S x Q EQ h hQ => oc0 h hI hi hQ⟩
  · exact ⟨_, fun S x Q EQ h hQ => oc1 h hI hi hQ⟩
  · exact ⟨_, fun S x Q EQ h hQ => oc2 h hI hi hQ⟩
  · exact ⟨_, fun S x Q EQ h hQ => oc3 h hI hi hQ⟩
  · exact ⟨_, fun S x Q EQ h hQ => oc4 h hI hi hQ⟩
  · exact ⟨_, fun S x Q EQ h hQ => oc5 h hI hi hQ⟩
theorem all_186 (hI : JV n nL nE d D F) : ∀ (j k : Nat), k + j = nE → ∀ w : Int64, ∃ r : Int64, ∀ (fuel : Nat) (S1 S2 S : Hp) (x dd : Nat) (Q : Int64 → Hp → Hp → Hp → Prop), nE < k + fuel → RS S1 x (n, 4, nL, nE, D, F) → DA S dd n nL nE F → (∀ U, RS U x (n, 4, nL, nE, D, F) → Q r U S2 S) → wp_L_all_L186 Q x dd fuel S1 S2 S w (nI k) := by
  have e20 := (iv_N hI).2.2.1
  intro j
  induction j with
  | zero =>
    intro k hk w
    refine ⟨w, fun fuel S1 S2 S x dd Q hf h hd hQ => ?_⟩
    obtain ⟨f, rfl⟩ : ∃ f, fuel = f + 1 := ⟨fuel - 1, by omega⟩
    unfold wp_L_all_L186
    refine ⟨hd.1, da_v (k := 3) hd (by decide), ?_⟩
    have e : g_R S dd (3 : Int32).toNatClampNeg = nI nE := hd.2.2.2.2.2.1
    rw [e, if_pos ((nI_le_iff (by omega) (by omega)).mpr (by omega))]
    exact hQ S1 h
  | succ j ih =>
    intro k hk w
    obtain ⟨r, hr⟩ := ih (k + 1) (by omega) (w * (11 : Int64) + (rsn F n nL k (sN F k)).toInt64)
    refine ⟨r, fun fuel S1 S2 S x dd Q hf h hd hQ => ?_⟩
    obtain ⟨f, rfl⟩ : ∃ f, fuel = f + 1 := ⟨fuel - 1, by omega⟩
    unfold wp_L_all_L186
    refine ⟨hd.1, da_v (k := 3) hd (by decide), ?_⟩
    have e : g_R S dd (3 : Int32).toNatClampNeg = nI nE := hd.2.2.2.2.2.1
    rw [e, if_neg (fun w => by have := (nI_le_iff (by omega) (by omega)).mp w; omega)]
    refine ⟨rs_ok h, whd h hI (by omega) (fun U hU => ?_)⟩
    rw [nI_s1]
    exact hr f U S2 S x dd Q (by omega) hU hd hQ
theorem all_113 (hI : JV n nL nE d D F) : ∀ (j k : Nat), k + j = 4 → ∀ w : Int64, ∃ r : Int64, ∀ (fuel : Nat) (S1 S2 S : Hp) (x dd : Nat) (Q : Int64 → Hp → Hp → Hp → Prop), 4 < k + fuel → RS S1 x (n, 4, nL, nE, D, F) → DA S dd n nL nE F → (∀ U, RS U x (n, 4, nL, nE, D, F) → Q r U S2 S) → wp_L_all_L113 Q x dd fuel S1 S2 S w (nI k) := by
  have e20 := (iv_N hI).2.2.1
  intro j
  induction j with
  | zero =>
    intro k hk w
    obtain ⟨r, hr⟩ := all_186 hI nE 0 (by omega) w
    refine ⟨r, fun fuel S1 S2 S x dd Q hf h hd hQ => ?_⟩
    obtain ⟨f, rfl⟩ : ∃ f, fuel = f + 1 := ⟨fuel - 1, by omega⟩
    unfold wp_L_all_L113
    refine ⟨hd.1, da_v (k := 1) hd (by decide), ?_⟩
    have e : g_R S dd (1 : Int32).toNatClampNeg = nI 4 := hd.2.2.2.1
    rw [e, if_pos ((nI_le_iff (by omega) (by omega)).mpr (by omega))]
    exact ⟨21, Nat.le_refl _, hr 21 S1 S2 S x dd Q (by omega) h hd hQ⟩
  | succ j ih =>
    intro k hk w
    obtain ⟨r, hr⟩ := ih (k + 1) (by omega) ((((((((w * (31 : Int64)) + (nI (inT F n (nI k))).toInt64) * (31 : Int64)) + (nI (waT F n (nI k))).toInt64) * (1009 : Int64)) + (owS F (nI k) n).toInt64) * (31 : Int64)) + (if fiP F n (nI k) 4 = 0 then -1 else duP F n (nI k) (77 % fiP F n (nI k) 4) 4 : Int32).toInt64)
    refine ⟨r, fun fuel S1 S2 S x dd Q hf h hd hQ => ?_⟩
    obtain ⟨f, rfl⟩ : ∃ f, fuel = f + 1 := ⟨fuel - 1, by omega⟩
    unfold wp_L_all_L113
    refine ⟨hd.1, da_v (k := 1) hd (by decide), ?_⟩
    have e : g_R S dd (1 : Int32).toNatClampNeg = nI 4 := hd.2.2.2.1
    rw [e, if_neg (fun w => by have := (nI_le_iff (by omega) (by omega)).mp w; omega)]
    refine ⟨rs_ok h, ot0 h hI (by omega) ⟨rs_ok h, ot1 h hI (by omega) ⟨rs_ok h, owd h hI (by omega) ⟨rs_ok h, dut (e := 77) h hI (by omega) (by omega) ?_⟩⟩⟩⟩
    rw [nI_s1]
    exact hr f S1 S2 S x dd Q (by omega) h hd hQ
theorem all_56 {i : Nat} (hI : JV n nL nE d D F) (hi : i < n) : ∀ (j k : Nat), k + j = 8 → ∀ w : Int64, ∃ r : Int64, ∀ (fuel : Nat) (S1 S2 S : Hp) (x dd : Nat) (Q : Int64 → Hp → Hp → Hp → Prop) (K : Hp → Hp → Hp → Int64 → Int32 → Prop), 8 < k + fuel → RS S1 x (n, 4, nL, nE, D, F) → (∀ U, RS U x (n, 4, nL, nE, D, F) → K U S2 S r (nI (i + 1))) → wp_L_all_L56 Q x dd (nI i) K fuel S1 S2 S w (nI k) := by
  intro j
  induction j with
  | zero =>
    intro k hk w
    refine ⟨w, fun fuel S1 S2 S x dd Q K hf h hQ => ?_⟩
    obtain ⟨f, rfl⟩ : ∃ f, fuel = f + 1 := ⟨fuel - 1, by omega⟩
    unfold wp_L_all_L56
    rw [if_pos (show (8 : Int32) ≤ nI k from (nI_le_iff (a := 8) (by omega) (by omega)).mpr (by omega)), nI_s1]
    exact hQ S1 h
  | succ j ih =>
    intro k hk w
    obtain ⟨r, hr⟩ := ih (k + 1) (by omega) (w * (1009 : Int64) + (if dyT F i 8 k ≤ d then nI (dyT F i 8 k) else -1 : Int32).toInt64 + (if hoB F i k d then 7 else 0))
    refine ⟨r, fun fuel S1 S2 S x dd Q K hf h hQ => ?_⟩
    obtain ⟨f, rfl⟩ : ∃ f, fuel = f + 1 := ⟨fuel - 1, by omega⟩
    unfold wp_L_all_L56
    rw [if_neg (show ¬ (8 : Int32) ≤ nI k from fun w => by have := (nI_le_iff (a := 8) (by omega) (by omega)).mp w; omega)]
    refine ⟨rs_ok h, erd h hI hi (by omega) ⟨rs_ok h, hld h hI hi (by omega) ?_⟩⟩
    have hh := hr f S1 S2 S x dd Q K (by omega) h hQ
    cases hb : hoB F i k d with
    | true =>
      rw [hb] at hh
      rw [if_neg (by decide), nI_s1]
      exact hh
    | false =>
      rw [hb] at hh
      rw [if_pos (show bI false = 0 from rfl), nI_s1]
      exact hh
theorem all_24 {i : Nat} (hI : JV n nL nE d D F) (hi : i < n) : ∀ (j k : Nat), k + j = 6 → ∀ w : Int64, ∃ r : Int64, ∀ (fuel : Nat) (S1 S2 S : Hp) (x dd : Nat) (Q : Int64 → Hp → Hp → Hp → Prop) (K : Hp → Hp → Hp → Int64 → Int32 → Prop), 6 < k + fuel → RS S1 x (n, 4, nL, nE, D, F) → (∀ U, RS U x (n, 4, nL, nE, D, F) → K U S2 S r (nI (i + 1))) → wp_L_all_L24 Q x dd (nI i) K fuel S1 S2 S w (nI k) := by
  intro j
  induction j with
  | zero =>
    intro k hk w
    obtain ⟨r, hr⟩ := all_56 hI hi 8 0 (by omega) w
    refine ⟨r, fun fuel S1 S2 S x dd Q K hf h hQ => ?_⟩
    obtain ⟨f, rfl⟩ : ∃ f, fuel = f + 1 := ⟨fuel - 1, by omega⟩
    unfold wp_L_all_L24
    rw [if_pos (show (6 : Int32) ≤ nI k from (nI_le_iff (a := 6) (by omega) (by omega)).mpr (by omega))]
    exact ⟨9, hr 9 S1 S2 S x dd Q K (by omega) h hQ⟩
  | succ j ih =>
    intro k hk w
    obtain ⟨v, hv⟩ := oc_any hI hi (show k < 6 by omega)
    obtain ⟨r, hr⟩ := ih (k + 1) (by omega) (w * (1009 : Int64) + v.toInt64)
    refine ⟨r, fun fuel S1 S2 S x dd Q K hf h hQ => ?_⟩
    obtain ⟨f, rfl⟩ : ∃ f, fuel = f + 1 := ⟨fuel - 1, by omega⟩
    unfold wp_L_all_L24
    rw [if_neg (show ¬ (6 : Int32) ≤ nI k from fun w => by have := (nI_le_iff (a := 6) (by omega) (by omega)).mp w; omega)]
    refine ⟨rs_ok h, hv _ _ _ _ h ?_⟩
    rw [nI_s1]
    exact hr f S1 S2 S x dd Q K (by omega) h hQ
theorem all_13 (hI : JV n nL nE d D F) : ∀ (j k : Nat), k + j = n → ∀ w : Int64, ∃ r : Int64, ∀ (fuel : Nat) (S1 S2 S : Hp) (x dd : Nat) (Q : Int64 → Hp → Hp → Hp → Prop), n < k + fuel → RS S1 x (n, 4, nL, nE, D, F) → DA S dd n nL nE F → (∀ U, RS U x (n, 4, nL, nE, D, F) → Q r U S2 S) → wp_L_all_L13 Q x dd fuel S1 S2 S w (nI k) := by
  have n24 := (iv_N hI).1
  intro j
  induction j with
  | zero =>
    intro k hk w
    obtain ⟨r, hr⟩ := all_113 hI 4 0 (by omega) w
    refine ⟨r, fun fuel S1 S2 S x dd Q hf h hd hQ => ?_⟩
    obtain ⟨f, rfl⟩ : ∃ f, fuel = f + 1 := ⟨fuel - 1, by omega⟩
    unfold wp_L_all_L13
    refine ⟨hd.1, da_v (k := 0) hd (by decide), ?_⟩
    have e : g_R S dd (0 : Int32).toNatClampNeg = nI n := hd.2.2.1
    rw [e, if_pos ((nI_le_iff (by omega) (by omega)).mpr (by omega))]
    exact ⟨5, hr 5 S1 S2 S x dd Q (by omega) h hd hQ⟩
  | succ j ih =>
    intro k hk w
    obtain ⟨w', hw'⟩ := all_24 (i := k) hI (by omega) 6 0 (by omega) w
    obtain ⟨r, hr⟩ := ih (k + 1) (by omega) w'
    refine ⟨r, fun fuel S1 S2 S x dd Q hf h hd hQ => ?_⟩
    obtain ⟨f, rfl⟩ : ∃ f, fuel = f + 1 := ⟨fuel - 1, by omega⟩
    unfold wp_L_all_L13
    refine ⟨hd.1, da_v (k := 0) hd (by decide), ?_⟩
    have e : g_R S dd (0 : Int32).toNatClampNeg = nI n := hd.2.2.1
    rw [e, if_neg (fun w => by have := (nI_le_iff (by omega) (by omega)).mp w; omega)]
    exact ⟨7, hw' 7 S1 S2 S x dd Q _ (by omega) h (fun U hU => hr f U S2 S x dd Q (by omega) hU hd hQ)⟩
theorem all_det (hI : JV n nL nE d D F) : ∃ r : Int64, ∀ (S1 S2 S : Hp) (x dd : Nat) (Q : Int64 → Hp → Hp → Hp → Prop), RS S1 x (n, 4, nL, nE, D, F) → DA S dd n nL nE F → (∀ U, RS U x (n, 4, nL, nE, D, F) → Q r U S2 S) → wp_L_all S1 S2 S x dd Q := by
  obtain ⟨r, hr⟩ := all_13 hI n 0 (by omega) ((17 : Int64) + (nI d).toInt64)
  refine ⟨r, fun S1 S2 S x dd Q h hd hQ => ?_⟩
  unfold wp_L_all
  exact ⟨rs_ok h, tdd h hI ⟨n + 1, hr (n + 1) S1 S2 S x dd Q (by omega) h hd hQ⟩⟩
end ALL
