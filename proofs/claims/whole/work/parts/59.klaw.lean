/-! THE LAW'S LOOP -/
section KLAW
variable {x m L : Nat} {xs : Nat → Int32}
theorem vj {k j : Nat} (hL : L ≤ 4096) (hk : 8 * k + 8 ≤ L) (hj : j < 8) {v : Int32} (hv : nI (8 * k) + v = nI (8 * k + j)) : vp_in (nI (8 * k) + v) L := by
  rw [hv]
  exact vp_in_nI (by omega) (by omega)
set_option maxHeartbeats 4000000 in
theorem law_L (hL : L ≤ 4096) : ∀ (n k : Nat) (S1 S2 : Hp) (f : Nat → Int64), 513 ≤ k + n → 8 * k ≤ L → RR x m S1 S2 → wp_law_L x m xs L n S1 S2 f (nI (8 * k)) := by
  intro n
  induction n with
  | zero => intro k S1 S2 f h1 h2; omega
  | succ n ih =>
    intro k S1 S2 f h1 h2 hR
    unfold wp_law_L
    by_cases hlt : Int32.ofNat L - 8 < nI (8 * k)
    · rw [if_pos hlt]
      trivial
    rw [if_neg hlt]
    have hk : 8 * k + 8 ≤ L := by
      have e : (Int32.ofNat L - 8 : Int32).toInt = (L : Int) - 8 := pk_sub_toInt (b := 8) (by omega) (by decide)
      rw [i_lt, e, nI_toInt (by omega)] at hlt
      omega
    have nx : ∀ S' S2' f', RR x m S' S2' → wp_law_L x m xs L n S' S2' f' (nI (8 * k) + 8) := fun S' S2' f' h => by
      have e : nI (8 * k) + 8 = nI (8 * (k + 1)) := nI_add (8 * k) 8
      rw [e]
      exact ih (k + 1) S' S2' f' (by omega) (by omega) h
    have v1 : vp_in (nI (8 * k) + 1) L := vj hL hk (j := 1) (by decide) (nI_add _ 1)
    have v2 : vp_in (nI (8 * k) + 2) L := vj hL hk (j := 2) (by decide) (nI_add _ 2)
    have v3 : vp_in (nI (8 * k) + 3) L := vj hL hk (j := 3) (by decide) (nI_add _ 3)
    have v4 : vp_in (nI (8 * k) + 4) L := vj hL hk (j := 4) (by decide) (nI_add _ 4)
    have v5 : vp_in (nI (8 * k) + 5) L := vj hL hk (j := 5) (by decide) (nI_add _ 5)
    have v6 : vp_in (nI (8 * k) + 6) L := vj hL hk (j := 6) (by decide) (nI_add _ 6)
    have v7 : vp_in (nI (8 * k) + 7) L := vj hL hk (j := 7) (by decide) (nI_add _ 7)
    refine ⟨vp_in_nI (by omega) (by omega), ?_⟩
    by_cases c0 : (xs (nI (8 * k)).toNatClampNeg) &&& (31 : Int32) = (0 : Int32)
    · rw [if_pos c0]
      unfold wp_law_C0
      exact ⟨v1, v2, v3, k_troop (K := fun a b c => wp_law_L x m xs L n a b c (nI (8 * k) + 8)) hR nx⟩
    rw [if_neg c0]
    by_cases c1 : (xs (nI (8 * k)).toNatClampNeg) &&& (31 : Int32) = (1 : Int32)
    · rw [if_pos c1]
      unfold wp_law_C1
      exact ⟨v1, k_child (K := fun a b c => wp_law_L x m xs L n a b c (nI (8 * k) + 8)) hR nx⟩
    rw [if_neg c1]
    by_cases c2 : (xs (nI (8 * k)).toNatClampNeg) &&& (31 : Int32) = (2 : Int32)
    · rw [if_pos c2]
      unfold wp_law_C2
      exact ⟨v1, v2, k_join (K := fun a b c => wp_law_L x m xs L n a b c (nI (8 * k) + 8)) hR nx⟩
    rw [if_neg c2]
    by_cases c3 : (xs (nI (8 * k)).toNatClampNeg) &&& (31 : Int32) = (3 : Int32)
    · rw [if_pos c3]
      unfold wp_law_C3
      exact ⟨v1, k_leave (K := fun a b c => wp_law_L x m xs L n a b c (nI (8 * k) + 8)) hR nx⟩
    rw [if_neg c3]
    by_cases c4 : (xs (nI (8 * k)).toNatClampNeg) &&& (31 : Int32) = (4 : Int32)
    · rw [if_pos c4]
      unfold wp_law_C4
      exact ⟨v1, v2, k_patrol (K := fun a b c => wp_law_L x m xs L n a b c (nI (8 * k) + 8)) hR nx⟩
    rw [if_neg c4]
    by_cases c5 : (xs (nI (8 * k)).toNatClampNeg) &&& (31 : Int32) = (5 : Int32)
    · rw [if_pos c5]
      unfold wp_law_C5
      exact ⟨v1, v2, k_duty (K := fun a b c => wp_law_L x m xs L n a b c (nI (8 * k) + 8)) hR nx⟩
    rw [if_neg c5]
    by_cases c6 : (xs (nI (8 * k)).toNatClampNeg) &&& (31 : Int32) = (6 : Int32)
    · rw [if_pos c6]
      unfold wp_law_C6
      exact ⟨v1, k_pass (K := fun a b c => wp_law_L x m xs L n a b c (nI (8 * k) + 8)) hR nx⟩
    rw [if_neg c6]
    by_cases c7 : (xs (nI (8 * k)).toNatClampNeg) &&& (31 : Int32) = (7 : Int32)
    · rw [if_pos c7]
      unfold wp_law_C7
      exact k_season (K := fun a b c => wp_law_L x m xs L n a b c (nI (8 * k) + 8)) hR (fun S' S2' h => nx S' S2' f h)
    rw [if_neg c7]
    by_cases c8 : (xs (nI (8 * k)).toNatClampNeg) &&& (31 : Int32) = (8 : Int32)
    · rw [if_pos c8]
      unfold wp_law_C8
      exact k_leader (K := fun a b c => wp_law_L x m xs L n a b c (nI (8 * k) + 8)) hR nx
    rw [if_neg c8]
    by_cases c9 : (xs (nI (8 * k)).toNatClampNeg) &&& (31 : Int32) = (9 : Int32)
    · rw [if_pos c9]
      unfold wp_law_C9
      exact ⟨v1, v2, v3, v4, k_vet (K := fun a b c => wp_law_L x m xs L n a b c (nI (8 * k) + 8)) hR nx⟩
    rw [if_neg c9]
    by_cases c10 : (xs (nI (8 * k)).toNatClampNeg) &&& (31 : Int32) = (10 : Int32)
    · rw [if_pos c10]
      unfold wp_law_C10
      exact ⟨v1, v2, v3, k_permit (K := fun a b c => wp_law_L x m xs L n a b c (nI (8 * k) + 8)) hR nx⟩
    rw [if_neg c10]
    by_cases c11 : (xs (nI (8 * k)).toNatClampNeg) &&& (31 : Int32) = (11 : Int32)
    · rw [if_pos c11]
      unfold wp_law_C11
      exact ⟨v1, v2, k_teach (K := fun a b c => wp_law_L x m xs L n a b c (nI (8 * k) + 8)) hR nx⟩
    rw [if_neg c11]
    by_cases c12 : (xs (nI (8 * k)).toNatClampNeg) &&& (31 : Int32) = (12 : Int32)
    · rw [if_pos c12]
      unfold wp_law_C12
      exact ⟨v1, v2, v3, v4, v5, v6, v7, k_edition (K := fun a b c => wp_law_L x m xs L n a b c (nI (8 * k) + 8)) hR nx⟩
    rw [if_neg c12]
    by_cases c13 : (xs (nI (8 * k)).toNatClampNeg) &&& (31 : Int32) = (13 : Int32)
    · rw [if_pos c13]
      unfold wp_law_C13
      exact ⟨v1, v2, k_begin (K := fun a b c => wp_law_L x m xs L n a b c (nI (8 * k) + 8)) hR nx⟩
    rw [if_neg c13]
    by_cases c14 : (xs (nI (8 * k)).toNatClampNeg) &&& (31 : Int32) = (14 : Int32)
    · rw [if_pos c14]
      unfold wp_law_C14
      exact ⟨v1, v2, v3, k_prove (K := fun a b c => wp_law_L x m xs L n a b c (nI (8 * k) + 8)) hR nx⟩
    rw [if_neg c14]
    by_cases c15 : (xs (nI (8 * k)).toNatClampNeg) &&& (31 : Int32) = (15 : Int32)
    · rw [if_pos c15]
      unfold wp_law_C15
      exact ⟨v1, v2, v3, v4, v5, v6, k_event (K := fun a b c => wp_law_L x m xs L n a b c (nI (8 * k) + 8)) hR nx⟩
    rw [if_neg c15]
    by_cases c16 : (xs (nI (8 * k)).toNatClampNeg) &&& (31 : Int32) = (16 : Int32)
    · rw [if_pos c16]
      unfold wp_law_C16
      refine ⟨v1, v2, v3, ?_⟩
      by_cases z : xs (nI (8 * k) + (3 : Int32)).toNatClampNeg = 0
      · simp only [if_pos z]
        exact k_staff (K := fun a b c => wp_law_L x m xs L n a b c (nI (8 * k) + 8)) hR nx
      · simp only [if_neg z]
        exact k_staff (K := fun a b c => wp_law_L x m xs L n a b c (nI (8 * k) + 8)) hR nx
    rw [if_neg c16]
    by_cases c17 : (xs (nI (8 * k)).toNatClampNeg) &&& (31 : Int32) = (17 : Int32)
    · rw [if_pos c17]
      unfold wp_law_C17
      exact ⟨v1, k_why (K := fun a b c => wp_law_L x m xs L n a b c (nI (8 * k) + 8)) hR nx⟩
    rw [if_neg c17]
    by_cases c18 : (xs (nI (8 * k)).toNatClampNeg) &&& (31 : Int32) = (18 : Int32)
    · rw [if_pos c18]
      unfold wp_law_C18
      exact ⟨v1, v2, v3, k_couldStaff (K := fun a b c => wp_law_L x m xs L n a b c (nI (8 * k) + 8)) hR nx⟩
    rw [if_neg c18]
    by_cases c19 : (xs (nI (8 * k)).toNatClampNeg) &&& (31 : Int32) = (19 : Int32)
    · rw [if_pos c19]
      unfold wp_law_C19
      exact ⟨v1, v2, k_boxes (K := fun a b c => wp_law_L x m xs L n a b c (nI (8 * k) + 8)) hR nx⟩
    rw [if_neg c19]
    by_cases c20 : (xs (nI (8 * k)).toNatClampNeg) &&& (31 : Int32) = (20 : Int32)
    · rw [if_pos c20]
      unfold wp_law_C20
      exact ⟨v1, v2, k_pay (K := fun a b c => wp_law_L x m xs L n a b c (nI (8 * k) + 8)) hR nx⟩
    rw [if_neg c20]
    by_cases c21 : (xs (nI (8 * k)).toNatClampNeg) &&& (31 : Int32) = (21 : Int32)
    · rw [if_pos c21]
      unfold wp_law_C21
      exact ⟨v1, k_owed (K := fun a b c => wp_law_L x m xs L n a b c (nI (8 * k) + 8)) hR nx⟩
    rw [if_neg c21]
    by_cases c22 : (xs (nI (8 * k)).toNatClampNeg) &&& (31 : Int32) = (22 : Int32)
    · rw [if_pos c22]
      unfold wp_law_C22
      exact k_today (K := fun a b c => wp_law_L x m xs L n a b c (nI (8 * k) + 8)) hR (fun S' S2' h => nx S' S2' f h)
    rw [if_neg c22]
    by_cases c23 : (xs (nI (8 * k)).toNatClampNeg) &&& (31 : Int32) = (23 : Int32)
    · rw [if_pos c23]
      unfold wp_law_C23
      exact ⟨v1, v2, k_ofChild (K := fun a b c => wp_law_L x m xs L n a b c (nI (8 * k) + 8)) hR nx⟩
    rw [if_neg c23]
    by_cases c24 : (xs (nI (8 * k)).toNatClampNeg) &&& (31 : Int32) = (24 : Int32)
    · rw [if_pos c24]
      unfold wp_law_C24
      refine ⟨v1, v2, ?_⟩
      by_cases z : xs (nI (8 * k) + (2 : Int32)).toNatClampNeg = 0
      · simp only [if_pos z]
        exact k_ofTroop (K := fun a b c => wp_law_L x m xs L n a b c (nI (8 * k) + 8)) hR nx
      · simp only [if_neg z]
        exact k_ofTroop (K := fun a b c => wp_law_L x m xs L n a b c (nI (8 * k) + 8)) hR nx
    rw [if_neg c24]
    by_cases c25 : (xs (nI (8 * k)).toNatClampNeg) &&& (31 : Int32) = (25 : Int32)
    · rw [if_pos c25]
      unfold wp_law_C25
      exact ⟨v1, v2, k_earned (K := fun a b c => wp_law_L x m xs L n a b c (nI (8 * k) + 8)) hR nx⟩
    rw [if_neg c25]
    by_cases c26 : (xs (nI (8 * k)).toNatClampNeg) &&& (31 : Int32) = (26 : Int32)
    · rw [if_pos c26]
      unfold wp_law_C26
      exact ⟨v1, v2, k_holds (K := fun a b c => wp_law_L x m xs L n a b c (nI (8 * k) + 8)) hR nx⟩
    rw [if_neg c26]
    by_cases c27 : (xs (nI (8 * k)).toNatClampNeg) &&& (31 : Int32) = (27 : Int32)
    · rw [if_pos c27]
      unfold wp_law_C27
      exact ⟨v1, v2, k_lacks (K := fun a b c => wp_law_L x m xs L n a b c (nI (8 * k) + 8)) hR nx⟩
    rw [if_neg c27]
    exact nx S1 S2 f hR
theorem fw_00 : FW 0 0 0 0 0 (fun _ => 0) F00 := by
  refine ⟨⟨⟨⟨by omega, by omega, by omega, by omega, by omega⟩, rfl, rfl, rfl, rfl, rfl⟩, fun i hi => by omega, fun i hi => by omega, fun i hi => by omega, fun i hi => by omega, fun i hi => by omega, fun b hb => ⟨⟨0, by omega, F00_23 b⟩, fun e he => ?_⟩, fun i hi => by omega, fun i hi => by omega, fun i hi => by omega, fun i _ hi => ⟨by simp [F00, fil], by simp [F00, fil], fun k hk => ?_, fun b hb => ⟨?_, ⟨0, by omega, by simp [F00, fil]; rfl⟩⟩⟩, fun l _ hl => ⟨fun k hk => ⟨?_, ?_, ?_⟩, by simp [F00, fil]⟩, fun e _ he => by simp [F00, fil]⟩, fun e he => by omega, fun i hi => by omega⟩
  · unfold edn at he
    rw [F00_23] at he
    exact absurd he (Nat.not_lt_zero e)
  · simp [F00, fil, show 16 * i + k < 384 by omega]
  · simp [F00, fil, show 8 * i + b < 192 by omega]
  · simp [F00, fil, a01, show 6 * l + 2 * k < 48 by omega, show (6 * l + 2 * k) % 2 = 0 by omega]
  · simp [F00, fil, a01, show 6 * l + 2 * k + 1 < 48 by omega, show (6 * l + 2 * k + 1) % 2 = 1 by omega]
  · simp [F00, fil, show 3 * l + k < 24 by omega]
theorem law_ok {xs : Nat → Int32} {L : Nat} (hL : L ≤ 4096) (T : Nat) : wp_law xs L T := by
  unfold wp_law
  intro x hx
  rw [lt_v]
  refine c8_init (nb_new 8 (h_0 T) x) (fun S2 A hc => ?_)
  intro m hm
  rw [lt_v]
  refine x9_init (nO_ok 9 (h_0 T) m) (fun n _ => nO_I 9 (h_0 T) m n) (fun B ad tg hB => ?_)
  exact ⟨513, Nat.le_refl _, law_L hL 513 0 _ _ _ (by omega) (by omega) (rr_mk hB hc fw_00 rfl rfl)⟩
end KLAW
