/-! SOUND -/
section SOUND
variable {n nL nE d : Nat} {D : Nat → Int32} {F : Nat → Nat → Int32}
/-- what is left of four numbers, the last first -/
def rS (f : Nat → Int32) : Nat → Int32
  | 0 => 0
  | j + 1 => rS f j + f (3 - j)
theorem add_sub (a b : Int32) : a + b - b = a := Int32.add_sub_cancel a b
theorem add_rc (a b c : Int32) : a + b + c = a + c + b := by
  rw [Int32.add_assoc, Int32.add_comm b c, ← Int32.add_assoc]
theorem rS4 (f : Nat → Int32) : rS f 4 = f 3 + f 2 + f 1 + f 0 := by
  show 0 + f 3 + f 2 + f 1 + f 0 = _
  rw [Int32.zero_add]
/-- how many of the first k have a number that isn't -1 -/
def nN (v : Nat → Int32) : Nat → Int32
  | 0 => 0
  | k + 1 => nN v k + (if v k = -1 then 0 else 1)
theorem ctI (p : Nat → Bool) (k : Nat) : nI (ct p (k + 1)) = nI (ct p k) + (if p k then 1 else 0) := by
  show nI (ct p k + (if p k = true then 1 else 0)) = _
  cases p k with
  | true => exact (nI_add (ct p k) 1).symm
  | false => exact (Int32.add_zero _).symm
theorem nN4 {v : Nat → Int32} : ∀ {k : Nat}, (∀ i, i < k → inR (v i) 4) → nN v k = rS (fun t => nI (ct (fun c => decide (v c = nI t)) k)) 4
  | 0, _ => by rw [rS4]; rfl
  | k + 1, h => by
    have ih := nN4 (v := v) (k := k) (fun i hi => h i (by omega))
    rw [rS4] at ih ⊢
    show nN v k + (if v k = -1 then 0 else 1) = _
    rw [ctI, ctI, ctI, ctI, ih]
    rcases h k (by omega) with e | ⟨t, ht, e⟩
    · simp only [e, if_true, decide_eq_false (m1_nI (t := 0) (by decide)), decide_eq_false (m1_nI (t := 1) (by decide)), decide_eq_false (m1_nI (t := 2) (by decide)), decide_eq_false (m1_nI (t := 3) (by decide)), Bool.false_eq_true, if_false, Int32.add_zero]
    · have e1 : ¬ v k = -1 := by rw [e]; exact nI_m1 (by omega)
      rw [if_neg e1]
      rcases (show t = 0 ∨ t = 1 ∨ t = 2 ∨ t = 3 by omega) with rfl | rfl | rfl | rfl
      · simp only [e, decide_true, if_true, decide_eq_false (nI_ne4 (s := 0) (t := 1) (by decide) (by decide) (by decide)), decide_eq_false (nI_ne4 (s := 0) (t := 2) (by decide) (by decide) (by decide)), decide_eq_false (nI_ne4 (s := 0) (t := 3) (by decide) (by decide) (by decide)), Bool.false_eq_true, if_false, Int32.add_zero, Int32.add_assoc]
      · simp only [e, decide_true, if_true, decide_eq_false (nI_ne4 (s := 1) (t := 0) (by decide) (by decide) (by decide)), decide_eq_false (nI_ne4 (s := 1) (t := 2) (by decide) (by decide) (by decide)), decide_eq_false (nI_ne4 (s := 1) (t := 3) (by decide) (by decide) (by decide)), Bool.false_eq_true, if_false, Int32.add_zero]
        rw [add_rc _ _ 1, ← Int32.add_assoc]
      · simp only [e, decide_true, if_true, decide_eq_false (nI_ne4 (s := 2) (t := 0) (by decide) (by decide) (by decide)), decide_eq_false (nI_ne4 (s := 2) (t := 1) (by decide) (by decide) (by decide)), decide_eq_false (nI_ne4 (s := 2) (t := 3) (by decide) (by decide) (by decide)), Bool.false_eq_true, if_false, Int32.add_zero]
        rw [add_rc _ _ 1, add_rc _ _ 1, ← Int32.add_assoc]
      · simp only [e, decide_true, if_true, decide_eq_false (nI_ne4 (s := 3) (t := 0) (by decide) (by decide) (by decide)), decide_eq_false (nI_ne4 (s := 3) (t := 1) (by decide) (by decide) (by decide)), decide_eq_false (nI_ne4 (s := 3) (t := 2) (by decide) (by decide) (by decide)), Bool.false_eq_true, if_false, Int32.add_zero]
        rw [add_rc _ _ 1, add_rc _ _ 1, add_rc _ _ 1]
/-- coins together -/
def sm12 (F : Nat → Nat → Int32) : Nat → Int32
  | 0 => 0
  | k + 1 => sm12 F k + F 12 k
theorem owS_s (t : Int32) (k : Nat) : owS F t (k + 1) = if F 12 k ≤ 0 then owS F t k else if F 13 k = t then owS F t k + F 12 k else owS F t k := rfl
theorem sm4 : ∀ {k : Nat}, (∀ i, i < k → ¬ F 12 i < 0) → (∀ i, i < k → F 12 i = 0 ∨ ∃ t, t < 4 ∧ F 13 i = nI t) → sm12 F k = rS (fun t => owS F (nI t) k) 4
  | 0, _, _ => by rw [rS4]; rfl
  | k + 1, h0, h => by
    have ih := sm4 (k := k) (fun i hi => h0 i (by omega)) (fun i hi => h i (by omega))
    rw [rS4] at ih ⊢
    show sm12 F k + F 12 k = owS F (nI 3) (k + 1) + owS F (nI 2) (k + 1) + owS F (nI 1) (k + 1) + owS F (nI 0) (k + 1)
    rw [ih, owS_s, owS_s, owS_s, owS_s]
    show owS F (nI 3) k + owS F (nI 2) k + owS F (nI 1) k + owS F (nI 0) k + F 12 k = _
    by_cases z : F 12 k ≤ 0
    · have z0 : F 12 k = 0 := by
        have := h0 k (by omega)
        rw [i_lt] at this
        rw [i_le] at z
        rw [i_eq]
        omega
      rw [if_pos z, if_pos z, if_pos z, if_pos z, z0, Int32.add_zero]
    · rw [if_neg z, if_neg z, if_neg z, if_neg z]
      have z0 : ¬ F 12 k = 0 := fun e => z (by rw [e]; exact Int32.le_refl _)
      obtain ⟨t, ht, e⟩ := (h k (by omega)).resolve_left z0
      rw [e]
      generalize F 12 k = u
      rcases (show t = 0 ∨ t = 1 ∨ t = 2 ∨ t = 3 by omega) with rfl | rfl | rfl | rfl
      · rw [if_pos rfl, if_neg (nI_ne4 (s := 0) (t := 1) (by decide) (by decide) (by decide)), if_neg (nI_ne4 (s := 0) (t := 2) (by decide) (by decide) (by decide)), if_neg (nI_ne4 (s := 0) (t := 3) (by decide) (by decide) (by decide)), Int32.add_assoc _ _ u]
      · rw [if_pos rfl, if_neg (nI_ne4 (s := 1) (t := 0) (by decide) (by decide) (by decide)), if_neg (nI_ne4 (s := 1) (t := 2) (by decide) (by decide) (by decide)), if_neg (nI_ne4 (s := 1) (t := 3) (by decide) (by decide) (by decide)), add_rc _ _ u, ← Int32.add_assoc]
      · rw [if_pos rfl, if_neg (nI_ne4 (s := 2) (t := 0) (by decide) (by decide) (by decide)), if_neg (nI_ne4 (s := 2) (t := 1) (by decide) (by decide) (by decide)), if_neg (nI_ne4 (s := 2) (t := 3) (by decide) (by decide) (by decide)), add_rc _ _ u, add_rc _ _ u, ← Int32.add_assoc]
      · rw [if_pos rfl, if_neg (nI_ne4 (s := 3) (t := 0) (by decide) (by decide) (by decide)), if_neg (nI_ne4 (s := 3) (t := 1) (by decide) (by decide) (by decide)), if_neg (nI_ne4 (s := 3) (t := 2) (by decide) (by decide) (by decide)), add_rc _ _ u, add_rc _ _ u, add_rc _ _ u]
/-! duty -/
theorem fiP_0 {t : Int32} (h : inT F n t = 0) : fiP F n t 4 = 0 := by
  unfold fiP
  rw [ct_fb]
  refine fb_ct_zero.mpr (fun p hp => decide_eq_false (fun w => ?_))
  unfold inP at w
  unfold inT at h
  rw [ct_fb] at w h
  obtain ⟨c, hc, e⟩ := fb_ct_pos.mp w
  have := fb_ct_zero.mp h c hc
  simp only [Bool.and_eq_true] at e
  rw [e.1] at this
  exact absurd this (by decide)
theorem fiP_1 {t : Nat} (hX : X1 F n) (ht : t < 4) (h : inT F n (nI t) ≠ 0) : fiP F n (nI t) 4 ≠ 0 := by
  have h0 : 0 < inT F n (nI t) := by omega
  unfold inT at h0
  rw [ct_fb] at h0
  obtain ⟨c, hc, e⟩ := fb_ct_pos.mp h0
  simp only [decide_eq_true_eq] at e
  obtain ⟨p, hp, e11⟩ := hX c hc (by rw [e]; exact nI_m1 (by omega))
  have h1 : 0 < inP F n (nI t) (nI p) := by
    unfold inP
    rw [ct_fb]
    exact fb_ct_pos.mpr ⟨c, hc, by rw [e, e11]; simp⟩
  have h2 : 0 < fiP F n (nI t) 4 := by
    unfold fiP
    rw [ct_fb]
    exact fb_ct_pos.mpr ⟨p, hp, decide_eq_true h1⟩
  omega
theorem duP_nI {t : Int32} {l : Nat} : ∀ p, l < fiP F n t p → ∃ q, q < p ∧ duP F n t l p = nI q
  | 0, h => by
    exact absurd h (Nat.not_lt_zero l)
  | p + 1, h => by
    unfold duP
    by_cases w : 0 < inP F n t (nI p) ∧ fiP F n t p = l
    · rw [if_pos w]
      exact ⟨p, by omega, rfl⟩
    · rw [if_neg w]
      have e : fiP F n t (p + 1) = fiP F n t p + (if decide (0 < inP F n t (nI p)) then 1 else 0) := rfl
      have h2 : l < fiP F n t p := by
        by_cases z : 0 < inP F n t (nI p)
        · rw [e, decide_eq_true z, if_pos rfl] at h
          have : fiP F n t p ≠ l := fun q => w ⟨z, q⟩
          omega
        · rw [e, decide_eq_false z, if_neg (by decide)] at h
          omega
      obtain ⟨q, hq, e2⟩ := duP_nI p h2
      exact ⟨q, by omega, e2⟩
theorem dut_iff {t : Nat} {e : Nat} (hX : X1 F n) (ht : t < 4) : ((if fiP F n (nI t) 4 = 0 then -1 else duP F n (nI t) (e % fiP F n (nI t) 4) 4) = (-1 : Int32)) ↔ inT F n (nI t) = 0 := by
  by_cases z : inT F n (nI t) = 0
  · rw [if_pos (fiP_0 z)]
    exact ⟨fun _ => z, fun _ => rfl⟩
  · have z2 := fiP_1 hX ht z
    rw [if_neg z2]
    obtain ⟨q, hq, e2⟩ := duP_nI (F := F) (n := n) (t := nI t) (l := e % fiP F n (nI t) 4) 4 (Nat.mod_lt _ (by omega))
    rw [e2]
    exact ⟨fun w => absurd w (nI_m1 (by omega)), fun w => absurd w z⟩
theorem nI_z {k : Nat} (hk : k < 2 ^ 31) : nI k = 0 ↔ k = 0 := ⟨fun e => (nI_eq hk (by decide)).mp e, fun e => by rw [e]; rfl⟩
theorem ite_1z {c : Prop} [Decidable c] : (if c then (1 : Int32) else 0) = (if c then 1 else 0) := rfl
theorem snd_251 (hI : JV n nL nE d D F) {S2 S : Hp} {x dd : Nat} {Q : Int32 → Hp → Hp → Hp → Prop} (hd : DA S dd n nL nE F) (hQ : ∀ U, RS U x (n, 4, nL, nE, D, F) → Q 1 U S2 S) : ∀ (j t : Nat), t + j = 4 → ∀ (fuel : Nat) (S1 : Hp), 4 < t + fuel → RS S1 x (n, 4, nL, nE, D, F) → wp_L_sound_L251 Q x dd fuel S1 S2 S (rS (fun t => nI (inT F n (nI t))) j) (rS (fun t => nI (waT F n (nI t))) j) (rS (fun t => owS F (nI t) n) j) 1 (nI t) := by
  have n24 := (iv_N hI).1
  have ed : g_R S dd (1 : Int32).toNatClampNeg = nI 4 := hd.2.2.2.1
  intro j
  induction j with
  | zero =>
    intro t ht fuel S1 hf h
    obtain ⟨f, rfl⟩ : ∃ f, fuel = f + 1 := ⟨fuel - 1, by omega⟩
    unfold wp_L_sound_L251
    refine ⟨hd.1, da_v (k := 1) hd (by decide), ?_⟩
    rw [ed, if_pos ((nI_le_iff (by omega) (by omega)).mpr (by omega)), if_neg (show ¬ (1 : Int32) = 0 by decide), if_pos (show rS (fun t => nI (inT F n (nI t))) 0 = 0 from rfl), if_pos (show rS (fun t => nI (waT F n (nI t))) 0 = 0 from rfl), if_pos (show rS (fun t => owS F (nI t) n) 0 = 0 from rfl)]
    exact bz1i (hQ S1 h)
  | succ j ih =>
    intro t ht fuel S1 hf h
    obtain ⟨f, rfl⟩ : ∃ f, fuel = f + 1 := ⟨fuel - 1, by omega⟩
    have t4 : t < 4 := by omega
    have et : 3 - j = t := by omega
    have hm : t % 3 < 3 := Nat.mod_lt _ (by decide)
    have w1 := inT_le F n (nI t)
    have w2 := waT_le F n (nI t)
    obtain ⟨-, x2, x3⟩ := hI.2.2.1 t t4
    have hn := fun U (hU : RS U x (n, 4, nL, nE, D, F)) => ih (t + 1) (by omega) f U (by omega) hU
    unfold wp_L_sound_L251
    refine ⟨hd.1, da_v (k := 1) hd (by decide), ?_⟩
    rw [ed, if_neg (fun w => by have := (nI_le_iff (by omega) (by omega)).mp w; omega), if_neg (show ¬ (1 : Int32) = 0 by decide)]
    refine ⟨rs_ok h, ot0 h hI t4 ?_⟩
    rw [lt_v]
    refine ⟨rs_ok h, ot1 h hI t4 ?_⟩
    rw [lt_v]
    refine ⟨rs_ok h, owd h hI t4 ?_⟩
    rw [lt_v]
    have e1 : rS (fun t => nI (inT F n (nI t))) (j + 1) - nI (inT F n (nI t)) = rS (fun t => nI (inT F n (nI t))) j := by
      show rS _ j + nI (inT F n (nI (3 - j))) - _ = _
      rw [et, add_sub]
    have e2 : rS (fun t => nI (waT F n (nI t))) (j + 1) - nI (waT F n (nI t)) = rS (fun t => nI (waT F n (nI t))) j := by
      show rS _ j + nI (waT F n (nI (3 - j))) - _ = _
      rw [et, add_sub]
    have e3 : rS (fun t => owS F (nI t) n) (j + 1) - owS F (nI t) n = rS (fun t => owS F (nI t) n) j := by
      show rS _ j + owS F (nI (3 - j)) n - _ = _
      rw [et, add_sub]
    rw [e1, e2, e3, nI_s1]
    refine ⟨rs_ok h, dut (e := 5) h hI t4 (by omega) ⟨rs_ok h, ot0 h hI t4 ?_⟩⟩
    have hd1 := dut_iff (n := n) (e := 5) hI.2.1 t4
    have hz := nI_z (k := inT F n (nI t)) (by omega)
    have hc : (if (if fiP F n (nI t) 4 = 0 then -1 else duP F n (nI t) (5 % fiP F n (nI t) 4) 4) = (-1 : Int32) then (1 : Int32) else 0) = (if nI (inT F n (nI t)) = 0 then 1 else 0) := by
      by_cases z : inT F n (nI t) = 0
      · rw [if_pos (hd1.mpr z), if_pos (hz.mpr z)]
      · rw [if_neg (fun w => z (hd1.mp w)), if_neg (fun w => z (hz.mp w))]
    rw [if_pos hc]
    refine ⟨rs_ok h, ot1 h hI t4 ?_⟩
    by_cases z : nI (waT F n (nI t)) = 0
    · rw [if_pos z]
      exact hn S1 h
    · rw [if_neg z]
      refine ⟨rs_ok h, ot0 h hI t4 ?_⟩
      rw [lt_v]
      have e4 : nI (inT F n (nI t)) = 1 + (nI t - nI t / 3 * 3) := by
        have hrem : nI t - nI t / 3 * 3 = nI (t % 3) := pk_rem (d := 3) (by omega) (by decide) (by decide)
        rw [hrem]
        have hx : inT F n (nI t) = 1 + t % 3 := x3.resolve_left (fun q => z (by rw [q]; rfl))
        rw [hx]
        exact (nI_add 1 (t % 3)).symm
      rw [if_pos e4]
      exact hn S1 h
theorem ern_m1 {i b : Nat} : ((if dyT F i 8 b ≤ d then nI (dyT F i 8 b) else -1) = (-1 : Int32)) ↔ ¬ dyT F i 8 b ≤ d := by
  have := dyT_le F i 8 b
  by_cases h : dyT F i 8 b ≤ d
  · rw [if_pos h]
    exact ⟨fun w => absurd w (nI_m1 (by omega)), fun w => absurd h w⟩
  · rw [if_neg h]
    exact ⟨fun _ => h, fun _ => rfl⟩
theorem hoB_le {i b : Nat} (h : hoB F i b d = true) : dyT F i 8 b ≤ d := by
  unfold hoB at h
  simp only [Bool.and_eq_true, decide_eq_true_eq] at h
  exact h.1
theorem ern_le {i b : Nat} (d4 : d < 10000) : ¬ nI d < (if dyT F i 8 b ≤ d then nI (dyT F i 8 b) else -1 : Int32) := by
  by_cases h : dyT F i 8 b ≤ d
  · rw [if_pos h]
    exact fun w => by have := (nI_lt_iff (by omega) (by omega)).mp w; omega
  · rw [if_neg h, i_lt, nI_toInt (by omega), show (-1 : Int32).toInt = -1 from rfl]
    omega
theorem snd_86 (hI : JV n nL nE d D F) {S2 S : Hp} {x dd i : Nat} {Q : Int32 → Hp → Hp → Hp → Prop} {K : Hp → Hp → Hp → Int32 → Int32 → Int32 → Int32 → Int32 → Prop} {f2 f3 f4 : Int32} (hi : i < n) (hK : ∀ U, RS U x (n, 4, nL, nE, D, F) → K U S2 S f2 f3 f4 1 (nI (i + 1))) : ∀ (j k : Nat), k + j = 8 → ∀ (fuel : Nat) (S1 : Hp), 8 < k + fuel → RS S1 x (n, 4, nL, nE, D, F) → wp_L_sound_L86 Q x dd f2 f3 f4 (nI i) (F 7 i) K fuel S1 S2 S 1 (nI (eaN F i d k)) (nI k) := by
  obtain ⟨n24, l8, e20, d4, gd⟩ := iv_N hI
  intro j
  induction j with
  | zero =>
    intro k hk fuel S1 hf h
    obtain ⟨f, rfl⟩ : ∃ f, fuel = f + 1 := ⟨fuel - 1, by omega⟩
    obtain rfl : k = 8 := by omega
    unfold wp_L_sound_L86
    rw [if_pos (show (8 : Int32) ≤ nI 8 by decide), if_neg (show ¬ (1 : Int32) = 0 by decide)]
    refine ⟨rs_ok h, oc4 h hI hi ?_⟩
    rw [if_pos rfl]
    refine ⟨rs_ok h, oc3 h hI hi ?_⟩
    have hP := hI.1.1.2.1 i hi
    by_cases z : F 7 i = -1
    · have z2 := hI.1.2.2 i hi z
      rw [z2, z, if_pos rfl, if_pos rfl, nI_s1]
      exact hK S1 h
    · obtain ⟨p, hp, ep⟩ := hI.2.1 i hi z
      have z2 : ¬ F 11 i = -1 := by rw [ep]; exact nI_m1 (by omega)
      rw [if_neg z, if_neg z2, if_pos rfl, if_neg z]
      refine ⟨rs_ok h, oc2 h hI hi ?_⟩
      have z8 : F 8 i = -1 := hP.2.2.resolve_right (fun w => z w.1)
      rw [lt_v, z8, if_pos rfl, nI_s1]
      exact hK S1 h
  | succ j ih =>
    intro k hk fuel S1 hf h
    obtain ⟨f, rfl⟩ : ∃ f, fuel = f + 1 := ⟨fuel - 1, by omega⟩
    have hn := fun U (hU : RS U x (n, 4, nL, nE, D, F)) => ih (k + 1) (by omega) f U (by omega) hU
    unfold wp_L_sound_L86
    rw [if_neg (show ¬ (8 : Int32) ≤ nI k from fun w => by have := (nI_le_iff (a := 8) (by omega) (by omega)).mp w; omega)]
    refine ⟨rs_ok h, erd h hI hi (by omega) ?_⟩
    have ec : nI (eaN F i d k) + (if (if dyT F i 8 k ≤ d then nI (dyT F i 8 k) else -1) = (-1 : Int32) then (0 : Int32) else 1) = nI (eaN F i d (k + 1)) := by
      unfold eaN
      rw [ctI]
      by_cases z : dyT F i 8 k ≤ d
      · rw [if_neg (fun w => (ern_m1.mp w) z), decide_eq_true z, if_pos rfl]
      · rw [if_pos (ern_m1.mpr z), decide_eq_false z, if_neg (by decide)]
    rw [lt_v, ec, if_neg (show ¬ (1 : Int32) = 0 by decide)]
    refine ⟨rs_ok h, erd h hI hi (by omega) ⟨rs_ok h, tdd h hI ?_⟩⟩
    rw [if_neg (ern_le d4)]
    refine ⟨rs_ok h, hld h hI hi (by omega) ?_⟩
    cases hb : hoB F i k d with
    | false =>
      rw [if_pos (show bI false = 0 from rfl), nI_s1]
      exact hn S1 h
    | true =>
      rw [if_neg (show ¬ bI true = 0 by decide)]
      refine ⟨rs_ok h, erd h hI hi (by omega) ?_⟩
      rw [lt_v, if_neg (fun w => (ern_m1.mp w) (hoB_le hb)), nI_s1]
      exact hn S1 h
theorem snd_13 (hI : JV n nL nE d D F) {S2 S : Hp} {x dd : Nat} {Q : Int32 → Hp → Hp → Hp → Prop} (hd : DA S dd n nL nE F) (hQ : ∀ U, RS U x (n, 4, nL, nE, D, F) → Q 1 U S2 S) : ∀ (j k : Nat), k + j = n → ∀ (fuel : Nat) (S1 : Hp), n < k + fuel → RS S1 x (n, 4, nL, nE, D, F) → wp_L_sound_L13 Q x dd fuel S1 S2 S (nN (F 7) k) (nN (F 8) k) (sm12 F k) 1 (nI k) := by
  have n24 := (iv_N hI).1
  have ed : g_R S dd (0 : Int32).toNatClampNeg = nI n := hd.2.2.1
  have hP := hI.1.1.2.1
  intro j
  induction j with
  | zero =>
    intro k hk fuel S1 hf h
    obtain ⟨f, rfl⟩ : ∃ f, fuel = f + 1 := ⟨fuel - 1, by omega⟩
    obtain rfl : k = n := by omega
    unfold wp_L_sound_L13
    refine ⟨hd.1, da_v (k := 0) hd (by decide), ?_⟩
    rw [ed, if_pos (Int32.le_refl _)]
    have a1 := nN4 (v := F 7) (k := k) (fun i hi => (hP i hi).1)
    have a2 := nN4 (v := F 8) (k := k) (fun i hi => (hP i hi).2.1)
    have a3 := sm4 (F := F) (k := k) (fun i hi => wm_pos hI.1.1.2.2.2.1 hi) hI.2.2.2.1
    rw [a1, a2, a3]
    exact ⟨5, snd_251 hI hd hQ 4 0 (by omega) 5 S1 (by omega) h⟩
  | succ j ih =>
    intro k hk fuel S1 hf h
    obtain ⟨f, rfl⟩ : ∃ f, fuel = f + 1 := ⟨fuel - 1, by omega⟩
    have hk' : k < n := by omega
    have hn := fun U (hU : RS U x (n, 4, nL, nE, D, F)) => ih (k + 1) (by omega) f U (by omega) hU
    unfold wp_L_sound_L13
    refine ⟨hd.1, da_v (k := 0) hd (by decide), ?_⟩
    rw [ed, if_neg (fun w => by have := (nI_le_iff (by omega) (by omega)).mp w; omega), if_neg (show ¬ (1 : Int32) = 0 by decide)]
    refine ⟨rs_ok h, oc1 h hI hk' ?_⟩
    rw [lt_v]
    refine ⟨rs_ok h, oc2 h hI hk' ?_⟩
    rw [lt_v]
    refine ⟨rs_ok h, oc5 h hI hk' ?_⟩
    rw [lt_v]
    exact ⟨9, snd_86 hI hk' hn 8 0 (by omega) 9 S1 (by omega) h⟩
theorem sound_ok (hI : JV n nL nE d D F) {S1 S2 S : Hp} {x dd : Nat} {Q : Int32 → Hp → Hp → Hp → Prop} (hd : DA S dd n nL nE F) (h : RS S1 x (n, 4, nL, nE, D, F)) (hQ : ∀ U, RS U x (n, 4, nL, nE, D, F) → Q 1 U S2 S) : wp_L_sound S1 S2 S x dd Q := by
  unfold wp_L_sound
  exact ⟨n + 1, snd_13 hI hd hQ n 0 (by omega) (n + 1) S1 (by omega) h⟩
end SOUND
