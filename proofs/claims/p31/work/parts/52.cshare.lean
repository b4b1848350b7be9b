/-! THE CLASS: its search for teams -/
section CSHARE
variable {S : Hp} {x : Nat} {A : Nat → Nat → Nat} {n nT nL nE : Nat} {D : Nat → Int32} {F : Nat → Nat → Int32} {Q : Int32 → Hp → Prop} {EQ : String → Hp → Prop}
/-- the next part of u behind t -/
def stU (u t : Nat) : Nat := (t + 4294967296 - u) &&& u
def itL (u : Nat) : Nat → Nat → List Nat
  | 0, _ => []
  | f + 1, t => t :: itL u f (stU u t)
def chU (u : Nat) (L : List Nat) : Bool := (List.range 256).all fun t => !(t &&& u == t) || L.contains t
theorem chU_ok : ((List.range 256).all fun u => chU u (itL u (2 ^ pop u 8) 0)) = true := by decide +kernel
theorem itL_all {u t : Nat} (hu : u < 256) (ht : t < 256) (hs : sbT t u) : t ∈ itL u (2 ^ pop u 8) 0 := by
  have h1 := List.all_eq_true.mp chU_ok u (List.mem_range.mpr hu)
  unfold chU at h1
  have h2 := List.all_eq_true.mp h1 t (List.mem_range.mpr ht)
  have e : t &&& u = t := by
    apply Nat.eq_of_testBit_eq
    intro i
    rw [Nat.testBit_and]
    cases q : t.testBit i with
    | false => rfl
    | true =>
      rw [hs i q]
      rfl
  rw [e] at h2
  simpa using h2
theorem stU_sb {u t : Nat} : sbT (stU u t) u := fun k hk => by
  unfold stU at hk
  rw [Nat.testBit_and] at hk
  simp only [Bool.and_eq_true] at hk
  exact hk.2
theorem sb_lt {t u : Nat} (hu : u < 256) (h : sbT t u) : t < 256 := Nat.lt_pow_two_of_testBit (n := 8) _ (fun i hi => by
  cases q : t.testBit i with
  | false => rfl
  | true =>
    have := lt_bit (m := 8) hu (h i q)
    omega)
theorem stU_nI {u t : Nat} (hu : u < 256) : (nI t - nI u) &&& nI u = nI (stU u t) := by
  have e : nI t = nI (t + 4294967296) := by
    apply Int32.toBitVec_inj.mp
    show BitVec.ofNat 32 t = BitVec.ofNat 32 (t + 4294967296)
    apply BitVec.eq_of_toNat_eq
    rw [BitVec.toNat_ofNat, BitVec.toNat_ofNat]
    exact (Nat.add_mod_right t 4294967296).symm
  rw [e, pk_sub (by omega), fa_and]
  rfl
theorem rsn_ok {e t : Nat} (h8 : nL ≤ 8) (ht : t < 2 ^ nL) : rsn F n nL e t = 0 ↔ okT (inT F n (F 27 (6 * e))) (rtN (evN F e 2)) (bs (vsB F e) nL) (bs (psB F e) nL) t := by
  have ht8 : t < 256 := Nat.lt_of_lt_of_le ht (Nat.pow_le_pow_right (n := 2) (by decide) h8)
  have ep : pop t 16 = pop t 8 := pop_hi (n := 8) (m := 16) ht8 (by omega)
  unfold rsn rsT okT
  rw [ep]
  by_cases h0 : inT F n (F 27 (6 * e)) = 0
  · rw [if_pos h0]
    exact ⟨fun _ => Or.inl h0, fun _ => rfl⟩
  rw [if_neg h0]
  have hno : ∀ {p : Prop}, ¬ p → (p ↔ False) := fun h => ⟨fun w => h w, fun w => w.elim⟩
  by_cases h1 : pop t 8 * rtN (evN F e 2) < inT F n (F 27 (6 * e))
  · rw [if_pos h1]
    refine ⟨fun w => absurd w (by decide), fun w => ?_⟩
    obtain ⟨w1, -⟩ := w.resolve_left h0
    omega
  rw [if_neg h1]
  have hpos : 0 < pop t 8 := by
    rcases Nat.eq_zero_or_pos (pop t 8) with w | w
    · rw [w] at h1
      omega
    · exact w
  by_cases hu : anB (unB F e t) nL = true
  · rw [if_pos hu]
    refine ⟨fun w => absurd w (by decide), fun w => ?_⟩
    obtain ⟨-, w2, -⟩ := w.resolve_left h0
    obtain ⟨k, hk, ek⟩ := (anB_true _ _).mp hu
    unfold unB at ek
    simp only [Bool.and_eq_true, Bool.not_eq_true'] at ek
    have := w2 k ek.1
    rw [bs_bit, show vsB F e k = false from ek.2] at this
    simp at this
  rw [if_neg hu]
  have hv : ∀ k, t.testBit k = true → (bs (vsB F e) nL).testBit k = true := fun k w => by
    have hk := lt_bit ht w
    rw [bs_bit]
    cases v : vsB F e k with
    | true => simp [hk]
    | false => exact absurd ((anB_true _ _).mpr ⟨k, hk, by unfold unB; rw [w, show veB F k (evN F e 1) (F 27 (6 * e + 3)) = false from v]; rfl⟩) hu
  by_cases hp : (decide (evN F e 2 = 0) || anB (peB F e t) nL) = false
  · rw [if_pos hp]
    refine ⟨fun w => absurd w (by decide), fun w => ?_⟩
    obtain ⟨-, -, ⟨k, k1, k2⟩, -⟩ := w.resolve_left h0
    simp only [Bool.or_eq_false_iff, decide_eq_false_iff_not] at hp
    have hk := lt_bit ht k1
    rw [bs_bit] at k2
    simp only [Bool.and_eq_true] at k2
    have k3 := k2.2
    unfold psB at k3
    rw [decide_eq_false hp.1, Bool.false_or] at k3
    rw [(anB_true _ _).mpr ⟨k, hk, by unfold peB; rw [k1, k3]; rfl⟩] at hp
    exact absurd hp.2 (by decide)
  rw [if_neg hp]
  have hm : ∃ k, t.testBit k = true ∧ (bs (psB F e) nL).testBit k = true := by
    have v : (decide (evN F e 2 = 0) || anB (peB F e t) nL) = true := ts_nf hp
    simp only [Bool.or_eq_true, decide_eq_true_eq] at v
    rcases v with v | v
    · obtain ⟨k0, hk0⟩ := bit_of (pop_0 hpos)
      refine ⟨k0, hk0, ?_⟩
      rw [bs_bit]
      unfold psB
      simp [v, lt_bit ht hk0]
    · obtain ⟨k, hk, ek⟩ := (anB_true _ _).mp v
      unfold peB at ek
      simp only [Bool.and_eq_true] at ek
      refine ⟨k, ek.1, ?_⟩
      rw [bs_bit]
      unfold psB
      rw [ek.2]
      simp [hk]
  by_cases h4 : inT F n (F 27 (6 * e)) = 1 ∧ pop t 8 = 1
  · rw [if_pos h4]
    refine ⟨fun w => absurd w (by decide), fun w => ?_⟩
    obtain ⟨-, -, -, w⟩ := w.resolve_left h0
    exact absurd h4 w
  · rw [if_neg h4]
    exact ⟨fun _ => Or.inr ⟨by omega, hv, hm, h4⟩, fun _ => rfl⟩
/-- the needs of the events go -/
def yN (F : Nat → Nat → Int32) (n : Nat) (go : Nat → Nat) (k : Nat) : Nat := inT F n (F 27 (6 * go k))
def pN (F : Nat → Nat → Int32) (go : Nat → Nat) (k : Nat) : Nat := rtN (evN F (go k) 2)
def vN (F : Nat → Nat → Int32) (nL : Nat) (go : Nat → Nat) (k : Nat) : Nat := bs (vsB F (go k)) nL
def mN (F : Nat → Nat → Int32) (nL : Nat) (go : Nat → Nat) (k : Nat) : Nat := bs (psB F (go k)) nL
theorem lt_of_sb {t l : Nat} (hl : l < 2 ^ nL) (h : sbT t l) : t < 2 ^ nL := Nat.lt_pow_two_of_testBit _ (fun i hi => by
  cases q : t.testBit i with
  | false => rfl
  | true =>
    have := lt_bit hl (h i q)
    omega)
theorem sb_l {l v : Nat} : sbT (l &&& v) l := fun k hk => by
  rw [Nat.testBit_and] at hk
  simp only [Bool.and_eq_true] at hk
  exact hk.1
theorem sb_df {l t : Nat} (hl : l < 256) : sbT (dfN l t) l := fun k hk => by
  rw [df_bit hl] at hk
  simp only [Bool.and_eq_true] at hk
  exact hk.1
theorem c8_share_1 {la dd mm place l : Nat} {el go : Nat → Nat} (hL : LK S la dd mm el) (hN : ∀ j, j < mm → ND S (el j) (yN F n go j) (pN F go j) (vN F nL go j) (mN F nL go j)) (h24 : n ≤ 24) (h8 : nL ≤ 8) (hm : mm ≤ 3) (hl : l < 2 ^ nL) (hp : place ≤ mm) (hk : mm ≤ place + 0) (h1 : csP (yN F n go) (pN F go) (vN F nL go) (mN F nL go) (mm - place) place l → Q 1 S) (h0 : ¬ csP (yN F n go) (pN F go) (vN F nL go) (mN F nL go) (mm - place) place l → Q 0 S) : wp_X8_canShare_1 S (some la) (nI place) (nI l) Q := by
  unfold wp_X8_canShare_1
  rw [if_neg (nI_pos (by omega)), rdS]
  refine ⟨hL.1, c_size hL ?_⟩
  by_cases hpl : place = mm
  · rw [if_neg (nI_nlt (by omega) (by omega))]
    refine bz1i (h1 ?_)
    rw [hpl, Nat.sub_self]
    trivial
  · omega
theorem c8_share_2 {la dd mm place l : Nat} {el go : Nat → Nat} (hL : LK S la dd mm el) (hN : ∀ j, j < mm → ND S (el j) (yN F n go j) (pN F go j) (vN F nL go j) (mN F nL go j)) (h24 : n ≤ 24) (h8 : nL ≤ 8) (hm : mm ≤ 3) (hl : l < 2 ^ nL) (hp : place ≤ mm) (hk : mm ≤ place + 1) (h1 : csP (yN F n go) (pN F go) (vN F nL go) (mN F nL go) (mm - place) place l → Q 1 S) (h0 : ¬ csP (yN F n go) (pN F go) (vN F nL go) (mN F nL go) (mm - place) place l → Q 0 S) : wp_X8_canShare_2 S (some la) (nI place) (nI l) Q := by
  unfold wp_X8_canShare_2
  rw [if_neg (nI_pos (by omega)), rdS]
  refine ⟨hL.1, c_size hL ?_⟩
  by_cases hpl : place = mm
  · rw [if_neg (nI_nlt (by omega) (by omega))]
    refine bz1i (h1 ?_)
    rw [hpl, Nat.sub_self]
    trivial
  · have hlt : place < mm := by omega
    rw [if_pos (nI_lt' hlt (by omega)), rdS]
    obtain ⟨o, i0, i1, i2, i3, i4⟩ := hN place hlt
    have hl8 : l < 256 := Nat.lt_of_lt_of_le hl (Nat.pow_le_pow_right (n := 2) (by decide) h8)
    refine ⟨hL.1, c_get hL hlt ⟨fun a e => by cases e; exact o, ?_⟩⟩
    rw [rdS]
    refine ⟨o, ?_⟩
    rw [i2, fa_and, lt_v, rdS]
    have er : mm - place = (mm - (place + 1)) + 1 := by omega
    rw [er] at h1 h0
    have hu8 : l &&& vN F nL go place < 256 := sb_lt hl8 sb_l
    have huL : l &&& vN F nL go place < 2 ^ nL := lt_of_sb hl sb_l
    refine ⟨o, c6_verdict (hN place hlt) h24 h8 huL ?_⟩
    by_cases hz : rsn F n nL (go place) (l &&& vN F nL go place) = 0
    · rw [if_pos hz]
      have ho := (rsn_ok (F := F) (n := n) (e := go place) h8 huL).mp hz
      refine cJ_bitCount8 hu8 ?_
      have hpu := pop_le (l &&& vN F nL go place) 8
      have hpw : 2 ^ pop (l &&& vN F nL go place) 8 ≤ 2 ^ 8 := Nat.pow_le_pow_right (n := 2) (by decide) hpu
      rw [sh_1 (by omega), lt_v]
      have hall : ∀ t, t < 256 → sbT t (l &&& vN F nL go place) → t ∈ itL (l &&& vN F nL go place) (2 ^ pop (l &&& vN F nL go place) 8) 0 := fun t ht hs => itL_all hu8 ht hs
      unfold csP at h1 h0
      have hh1 : (∃ t, t ∈ itL (l &&& vN F nL go place) (2 ^ pop (l &&& vN F nL go place) 8) 0 ∧ t < 256 ∧ sbT t (l &&& vN F nL go place) ∧ pop t 8 = lsN (yN F n go place) (pN F go place) ∧ okT (yN F n go place) (pN F go place) (vN F nL go place) (mN F nL go place) t ∧ csP (yN F n go) (pN F go) (vN F nL go) (mN F nL go) (mm - (place + 1)) (place + 1) (dfN l t)) → Q 1 S := fun ⟨t, _, w2, w3, w4, w5, w6⟩ => h1 ⟨ho, t, w2, w3, w4, w5, w6⟩
      have hh0 : (¬ ∃ t, t ∈ itL (l &&& vN F nL go place) (2 ^ pop (l &&& vN F nL go place) 8) 0 ∧ t < 256 ∧ sbT t (l &&& vN F nL go place) ∧ pop t 8 = lsN (yN F n go place) (pN F go place) ∧ okT (yN F n go place) (pN F go place) (vN F nL go place) (mN F nL go place) t ∧ csP (yN F n go) (pN F go) (vN F nL go) (mN F nL go) (mm - (place + 1)) (place + 1) (dfN l t)) → Q 0 S := fun w => h0 (fun ⟨_, t, w2, w3, w4, w5, w6⟩ => w ⟨t, hall t w2 w3, w2, w3, w4, w5, w6⟩)
      clear h1 h0 hall
      generalize hU : l &&& vN F nL go place = u at *
      generalize hN2 : 2 ^ pop u 8 = N at *
      have hy24 : yN F n go place ≤ 24 := Nat.le_trans (inT_le F n _) h24
      have hls := lsN_le (y := yN F n go place) (p := pN F go place) hy24
      have hLp : ∀ (r j t : Nat), j + r = N → t < 256 → sbT t u → ((∃ t', t' ∈ itL u r t ∧ t' < 256 ∧ sbT t' u ∧ pop t' 8 = lsN (yN F n go place) (pN F go place) ∧ okT (yN F n go place) (pN F go place) (vN F nL go place) (mN F nL go place) t' ∧ csP (yN F n go) (pN F go) (vN F nL go) (mN F nL go) (mm - (place + 1)) (place + 1) (dfN l t')) → Q 1 S) → ((¬ ∃ t', t' ∈ itL u r t ∧ t' < 256 ∧ sbT t' u ∧ pop t' 8 = lsN (yN F n go place) (pN F go place) ∧ okT (yN F n go place) (pN F go place) (vN F nL go place) (mN F nL go place) t' ∧ csP (yN F n go) (pN F go) (vN F nL go) (mN F nL go) (mm - (place + 1)) (place + 1) (dfN l t')) → Q 0 S) → wp_X8_canShare_2_L57 (some la) (nI place) (nI l) (some (el place)) (nI u) (nI N) Q (r + 1) S (nI t) (nI j) := by
        intro r
        induction r with
        | zero =>
          intro j t hj ht hs g1 g0
          unfold wp_X8_canShare_2_L57
          rw [if_pos (nI_le (by omega) (by omega))]
          exact bz0i (g0 (fun ⟨t', w, _⟩ => by simp [itL] at w))
        | succ r ih =>
          intro j t hj ht hs g1 g0
          unfold wp_X8_canShare_2_L57
          rw [if_neg (nI_ge (by omega) (by omega))]
          have htL : t < 2 ^ nL := lt_of_sb huL hs
          have next : (¬ (pop t 8 = lsN (yN F n go place) (pN F go place) ∧ okT (yN F n go place) (pN F go place) (vN F nL go place) (mN F nL go place) t ∧ csP (yN F n go) (pN F go) (vN F nL go) (mN F nL go) (mm - (place + 1)) (place + 1) (dfN l t))) → wp_X8_canShare_2_L57 (some la) (nI place) (nI l) (some (el place)) (nI u) (nI N) Q (r + 1) S ((nI t - nI u) &&& nI u) (nI j + 1) := fun hno => by
            rw [stU_nI hu8, nI_1]
            refine ih (j + 1) (stU u t) (by omega) (sb_lt hu8 stU_sb) stU_sb (fun ⟨t', w, w2⟩ => g1 ⟨t', List.mem_cons_of_mem _ w, w2⟩) (fun w => g0 (fun ⟨t', v, v2⟩ => ?_))
            rcases List.mem_cons.mp v with e | e
            · subst e
              exact hno v2.2.2
            · exact w ⟨t', e, v2⟩
          refine cJ_bitCount8 ht ?_
          rw [rdS]
          refine ⟨o, ?_⟩
          have hpt := pop_le t 8
          rw [i4]
          by_cases hc : pop t 8 = lsN (yN F n go place) (pN F go place)
          · rw [if_pos (by rw [hc]), rdS]
            refine ⟨o, c6_verdict (hN place hlt) h24 h8 htL ?_⟩
            by_cases hr : rsn F n nL (go place) t = 0
            · rw [if_pos hr]
              have hok := (rsn_ok (F := F) (n := n) (e := go place) h8 htL).mp hr
              rw [nd_and (show l < 65536 by omega), nI_1]
              refine c8_share_1 hL hN h24 h8 hm (lt_of_sb hl (sb_df hl8)) (by omega) (by omega) (fun w => ?_) (fun w => ?_)
              · rw [if_neg (by decide)]
                exact bz1i (g1 ⟨t, List.mem_cons_self, ht, hs, hc, hok, w⟩)
              · rw [if_pos rfl, lt_v]
                exact next (fun v => w v.2.2)
            · rw [if_neg hr, lt_v]
              exact next (fun v => hr ((rsn_ok (F := F) (n := n) (e := go place) h8 htL).mpr v.2.1))
          · rw [if_neg (nI_ne (by omega) (by omega) hc), lt_v]
            exact next (fun v => hc v.1)
      exact ⟨N + 1, hLp N 0 0 (by omega) (by decide) (fun k hk => by simp at hk) hh1 hh0⟩
    · rw [if_neg hz]
      refine bz0i (h0 (fun w => ?_))
      unfold csP at w
      exact hz ((rsn_ok (F := F) (n := n) (e := go place) h8 huL).mpr w.1)
theorem c8_share_3 {la dd mm place l : Nat} {el go : Nat → Nat} (hL : LK S la dd mm el) (hN : ∀ j, j < mm → ND S (el j) (yN F n go j) (pN F go j) (vN F nL go j) (mN F nL go j)) (h24 : n ≤ 24) (h8 : nL ≤ 8) (hm : mm ≤ 3) (hl : l < 2 ^ nL) (hp : place ≤ mm) (hk : mm ≤ place + 2) (h1 : csP (yN F n go) (pN F go) (vN F nL go) (mN F nL go) (mm - place) place l → Q 1 S) (h0 : ¬ csP (yN F n go) (pN F go) (vN F nL go) (mN F nL go) (mm - place) place l → Q 0 S) : wp_X8_canShare_3 S (some la) (nI place) (nI l) Q := by
  unfold wp_X8_canShare_3
  rw [if_neg (nI_pos (by omega)), rdS]
  refine ⟨hL.1, c_size hL ?_⟩
  by_cases hpl : place = mm
  · rw [if_neg (nI_nlt (by omega) (by omega))]
    refine bz1i (h1 ?_)
    rw [hpl, Nat.sub_self]
    trivial
  · have hlt : place < mm := by omega
    rw [if_pos (nI_lt' hlt (by omega)), rdS]
    obtain ⟨o, i0, i1, i2, i3, i4⟩ := hN place hlt
    have hl8 : l < 256 := Nat.lt_of_lt_of_le hl (Nat.pow_le_pow_right (n := 2) (by decide) h8)
    refine ⟨hL.1, c_get hL hlt ⟨fun a e => by cases e; exact o, ?_⟩⟩
    rw [rdS]
    refine ⟨o, ?_⟩
    rw [i2, fa_and, lt_v, rdS]
    have er : mm - place = (mm - (place + 1)) + 1 := by omega
    rw [er] at h1 h0
    have hu8 : l &&& vN F nL go place < 256 := sb_lt hl8 sb_l
    have huL : l &&& vN F nL go place < 2 ^ nL := lt_of_sb hl sb_l
    refine ⟨o, c6_verdict (hN place hlt) h24 h8 huL ?_⟩
    by_cases hz : rsn F n nL (go place) (l &&& vN F nL go place) = 0
    · rw [if_pos hz]
      have ho := (rsn_ok (F := F) (n := n) (e := go place) h8 huL).mp hz
      refine cJ_bitCount8 hu8 ?_
      have hpu := pop_le (l &&& vN F nL go place) 8
      have hpw : 2 ^ pop (l &&& vN F nL go place) 8 ≤ 2 ^ 8 := Nat.pow_le_pow_right (n := 2) (by decide) hpu
      rw [sh_1 (by omega), lt_v]
      have hall : ∀ t, t < 256 → sbT t (l &&& vN F nL go place) → t ∈ itL (l &&& vN F nL go place) (2 ^ pop (l &&& vN F nL go place) 8) 0 := fun t ht hs => itL_all hu8 ht hs
      unfold csP at h1 h0
      have hh1 : (∃ t, t ∈ itL (l &&& vN F nL go place) (2 ^ pop (l &&& vN F nL go place) 8) 0 ∧ t < 256 ∧ sbT t (l &&& vN F nL go place) ∧ pop t 8 = lsN (yN F n go place) (pN F go place) ∧ okT (yN F n go place) (pN F go place) (vN F nL go place) (mN F nL go place) t ∧ csP (yN F n go) (pN F go) (vN F nL go) (mN F nL go) (mm - (place + 1)) (place + 1) (dfN l t)) → Q 1 S := fun ⟨t, _, w2, w3, w4, w5, w6⟩ => h1 ⟨ho, t, w2, w3, w4, w5, w6⟩
      have hh0 : (¬ ∃ t, t ∈ itL (l &&& vN F nL go place) (2 ^ pop (l &&& vN F nL go place) 8) 0 ∧ t < 256 ∧ sbT t (l &&& vN F nL go place) ∧ pop t 8 = lsN (yN F n go place) (pN F go place) ∧ okT (yN F n go place) (pN F go place) (vN F nL go place) (mN F nL go place) t ∧ csP (yN F n go) (pN F go) (vN F nL go) (mN F nL go) (mm - (place + 1)) (place + 1) (dfN l t)) → Q 0 S := fun w => h0 (fun ⟨_, t, w2, w3, w4, w5, w6⟩ => w ⟨t, hall t w2 w3, w2, w3, w4, w5, w6⟩)
      clear h1 h0 hall
      generalize hU : l &&& vN F nL go place = u at *
      generalize hN2 : 2 ^ pop u 8 = N at *
      have hy24 : yN F n go place ≤ 24 := Nat.le_trans (inT_le F n _) h24
      have hls := lsN_le (y := yN F n go place) (p := pN F go place) hy24
      have hLp : ∀ (r j t : Nat), j + r = N → t < 256 → sbT t u → ((∃ t', t' ∈ itL u r t ∧ t' < 256 ∧ sbT t' u ∧ pop t' 8 = lsN (yN F n go place) (pN F go place) ∧ okT (yN F n go place) (pN F go place) (vN F nL go place) (mN F nL go place) t' ∧ csP (yN F n go) (pN F go) (vN F nL go) (mN F nL go) (mm - (place + 1)) (place + 1) (dfN l t')) → Q 1 S) → ((¬ ∃ t', t' ∈ itL u r t ∧ t' < 256 ∧ sbT t' u ∧ pop t' 8 = lsN (yN F n go place) (pN F go place) ∧ okT (yN F n go place) (pN F go place) (vN F nL go place) (mN F nL go place) t' ∧ csP (yN F n go) (pN F go) (vN F nL go) (mN F nL go) (mm - (place + 1)) (place + 1) (dfN l t')) → Q 0 S) → wp_X8_canShare_3_L57 (some la) (nI place) (nI l) (some (el place)) (nI u) (nI N) Q (r + 1) S (nI t) (nI j) := by
        intro r
        induction r with
        | zero =>
          intro j t hj ht hs g1 g0
          unfold wp_X8_canShare_3_L57
          rw [if_pos (nI_le (by omega) (by omega))]
          exact bz0i (g0 (fun ⟨t', w, _⟩ => by simp [itL] at w))
        | succ r ih =>
          intro j t hj ht hs g1 g0
          unfold wp_X8_canShare_3_L57
          rw [if_neg (nI_ge (by omega) (by omega))]
          have htL : t < 2 ^ nL := lt_of_sb huL hs
          have next : (¬ (pop t 8 = lsN (yN F n go place) (pN F go place) ∧ okT (yN F n go place) (pN F go place) (vN F nL go place) (mN F nL go place) t ∧ csP (yN F n go) (pN F go) (vN F nL go) (mN F nL go) (mm - (place + 1)) (place + 1) (dfN l t))) → wp_X8_canShare_3_L57 (some la) (nI place) (nI l) (some (el place)) (nI u) (nI N) Q (r + 1) S ((nI t - nI u) &&& nI u) (nI j + 1) := fun hno => by
            rw [stU_nI hu8, nI_1]
            refine ih (j + 1) (stU u t) (by omega) (sb_lt hu8 stU_sb) stU_sb (fun ⟨t', w, w2⟩ => g1 ⟨t', List.mem_cons_of_mem _ w, w2⟩) (fun w => g0 (fun ⟨t', v, v2⟩ => ?_))
            rcases List.mem_cons.mp v with e | e
            · subst e
              exact hno v2.2.2
            · exact w ⟨t', e, v2⟩
          refine cJ_bitCount8 ht ?_
          rw [rdS]
          refine ⟨o, ?_⟩
          have hpt := pop_le t 8
          rw [i4]
          by_cases hc : pop t 8 = lsN (yN F n go place) (pN F go place)
          · rw [if_pos (by rw [hc]), rdS]
            refine ⟨o, c6_verdict (hN place hlt) h24 h8 htL ?_⟩
            by_cases hr : rsn F n nL (go place) t = 0
            · rw [if_pos hr]
              have hok := (rsn_ok (F := F) (n := n) (e := go place) h8 htL).mp hr
              rw [nd_and (show l < 65536 by omega), nI_1]
              refine c8_share_2 hL hN h24 h8 hm (lt_of_sb hl (sb_df hl8)) (by omega) (by omega) (fun w => ?_) (fun w => ?_)
              · rw [if_neg (by decide)]
                exact bz1i (g1 ⟨t, List.mem_cons_self, ht, hs, hc, hok, w⟩)
              · rw [if_pos rfl, lt_v]
                exact next (fun v => w v.2.2)
            · rw [if_neg hr, lt_v]
              exact next (fun v => hr ((rsn_ok (F := F) (n := n) (e := go place) h8 htL).mpr v.2.1))
          · rw [if_neg (nI_ne (by omega) (by omega) hc), lt_v]
            exact next (fun v => hc v.1)
      exact ⟨N + 1, hLp N 0 0 (by omega) (by decide) (fun k hk => by simp at hk) hh1 hh0⟩
    · rw [if_neg hz]
      refine bz0i (h0 (fun w => ?_))
      unfold csP at w
      exact hz ((rsn_ok (F := F) (n := n) (e := go place) h8 huL).mpr w.1)
theorem c8_share_4 {la dd mm place l : Nat} {el go : Nat → Nat} (hL : LK S la dd mm el) (hN : ∀ j, j < mm → ND S (el j) (yN F n go j) (pN F go j) (vN F nL go j) (mN F nL go j)) (h24 : n ≤ 24) (h8 : nL ≤ 8) (hm : mm ≤ 3) (hl : l < 2 ^ nL) (hp : place ≤ mm) (hk : mm ≤ place + 3) (h1 : csP (yN F n go) (pN F go) (vN F nL go) (mN F nL go) (mm - place) place l → Q 1 S) (h0 : ¬ csP (yN F n go) (pN F go) (vN F nL go) (mN F nL go) (mm - place) place l → Q 0 S) : wp_X8_canShare_4 S (some la) (nI place) (nI l) Q := by
  unfold wp_X8_canShare_4
  rw [if_neg (nI_pos (by omega)), rdS]
  refine ⟨hL.1, c_size hL ?_⟩
  by_cases hpl : place = mm
  · rw [if_neg (nI_nlt (by omega) (by omega))]
    refine bz1i (h1 ?_)
    rw [hpl, Nat.sub_self]
    trivial
  · have hlt : place < mm := by omega
    rw [if_pos (nI_lt' hlt (by omega)), rdS]
    obtain ⟨o, i0, i1, i2, i3, i4⟩ := hN place hlt
    have hl8 : l < 256 := Nat.lt_of_lt_of_le hl (Nat.pow_le_pow_right (n := 2) (by decide) h8)
    refine ⟨hL.1, c_get hL hlt ⟨fun a e => by cases e; exact o, ?_⟩⟩
    rw [rdS]
    refine ⟨o, ?_⟩
    rw [i2, fa_and, lt_v, rdS]
    have er : mm - place = (mm - (place + 1)) + 1 := by omega
    rw [er] at h1 h0
    have hu8 : l &&& vN F nL go place < 256 := sb_lt hl8 sb_l
    have huL : l &&& vN F nL go place < 2 ^ nL := lt_of_sb hl sb_l
    refine ⟨o, c6_verdict (hN place hlt) h24 h8 huL ?_⟩
    by_cases hz : rsn F n nL (go place) (l &&& vN F nL go place) = 0
    · rw [if_pos hz]
      have ho := (rsn_ok (F := F) (n := n) (e := go place) h8 huL).mp hz
      refine cJ_bitCount8 hu8 ?_
      have hpu := pop_le (l &&& vN F nL go place) 8
      have hpw : 2 ^ pop (l &&& vN F nL go place) 8 ≤ 2 ^ 8 := Nat.pow_le_pow_right (n := 2) (by decide) hpu
      rw [sh_1 (by omega), lt_v]
      have hall : ∀ t, t < 256 → sbT t (l &&& vN F nL go place) → t ∈ itL (l &&& vN F nL go place) (2 ^ pop (l &&& vN F nL go place) 8) 0 := fun t ht hs => itL_all hu8 ht hs
      unfold csP at h1 h0
      have hh1 : (∃ t, t ∈ itL (l &&& vN F nL go place) (2 ^ pop (l &&& vN F nL go place) 8) 0 ∧ t < 256 ∧ sbT t (l &&& vN F nL go place) ∧ pop t 8 = lsN (yN F n go place) (pN F go place) ∧ okT (yN F n go place) (pN F go place) (vN F nL go place) (mN F nL go place) t ∧ csP (yN F n go) (pN F go) (vN F nL go) (mN F nL go) (mm - (place + 1)) (place + 1) (dfN l t)) → Q 1 S := fun ⟨t, _, w2, w3, w4, w5, w6⟩ => h1 ⟨ho, t, w2, w3, w4, w5, w6⟩
      have hh0 : (¬ ∃ t, t ∈ itL (l &&& vN F nL go place) (2 ^ pop (l &&& vN F nL go place) 8) 0 ∧ t < 256 ∧ sbT t (l &&& vN F nL go place) ∧ pop t 8 = lsN (yN F n go place) (pN F go place) ∧ okT (yN F n go place) (pN F go place) (vN F nL go place) (mN F nL go place) t ∧ csP (yN F n go) (pN F go) (vN F nL go) (mN F nL go) (mm - (place + 1)) (place + 1) (dfN l t)) → Q 0 S := fun w => h0 (fun ⟨_, t, w2, w3, w4, w5, w6⟩ => w ⟨t, hall t w2 w3, w2, w3, w4, w5, w6⟩)
      clear h1 h0 hall
      generalize hU : l &&& vN F nL go place = u at *
      generalize hN2 : 2 ^ pop u 8 = N at *
      have hy24 : yN F n go place ≤ 24 := Nat.le_trans (inT_le F n _) h24
      have hls := lsN_le (y := yN F n go place) (p := pN F go place) hy24
      have hLp : ∀ (r j t : Nat), j + r = N → t < 256 → sbT t u → ((∃ t', t' ∈ itL u r t ∧ t' < 256 ∧ sbT t' u ∧ pop t' 8 = lsN (yN F n go place) (pN F go place) ∧ okT (yN F n go place) (pN F go place) (vN F nL go place) (mN F nL go place) t' ∧ csP (yN F n go) (pN F go) (vN F nL go) (mN F nL go) (mm - (place + 1)) (place + 1) (dfN l t')) → Q 1 S) → ((¬ ∃ t', t' ∈ itL u r t ∧ t' < 256 ∧ sbT t' u ∧ pop t' 8 = lsN (yN F n go place) (pN F go place) ∧ okT (yN F n go place) (pN F go place) (vN F nL go place) (mN F nL go place) t' ∧ csP (yN F n go) (pN F go) (vN F nL go) (mN F nL go) (mm - (place + 1)) (place + 1) (dfN l t')) → Q 0 S) → wp_X8_canShare_4_L57 (some la) (nI place) (nI l) (some (el place)) (nI u) (nI N) Q (r + 1) S (nI t) (nI j) := by
        intro r
        induction r with
        | zero =>
          intro j t hj ht hs g1 g0
          unfold wp_X8_canShare_4_L57
          rw [if_pos (nI_le (by omega) (by omega))]
          exact bz0i (g0 (fun ⟨t', w, _⟩ => by simp [itL] at w))
        | succ r ih =>
          intro j t hj ht hs g1 g0
          unfold wp_X8_canShare_4_L57
          rw [if_neg (nI_ge (by omega) (by omega))]
          have htL : t < 2 ^ nL := lt_of_sb huL hs
          have next : (¬ (pop t 8 = lsN (yN F n go place) (pN F go place) ∧ okT (yN F n go place) (pN F go place) (vN F nL go place) (mN F nL go place) t ∧ csP (yN F n go) (pN F go) (vN F nL go) (mN F nL go) (mm - (place + 1)) (place + 1) (dfN l t))) → wp_X8_canShare_4_L57 (some la) (nI place) (nI l) (some (el place)) (nI u) (nI N) Q (r + 1) S ((nI t - nI u) &&& nI u) (nI j + 1) := fun hno => by
            rw [stU_nI hu8, nI_1]
            refine ih (j + 1) (stU u t) (by omega) (sb_lt hu8 stU_sb) stU_sb (fun ⟨t', w, w2⟩ => g1 ⟨t', List.mem_cons_of_mem _ w, w2⟩) (fun w => g0 (fun ⟨t', v, v2⟩ => ?_))
            rcases List.mem_cons.mp v with e | e
            · subst e
              exact hno v2.2.2
            · exact w ⟨t', e, v2⟩
          refine cJ_bitCount8 ht ?_
          rw [rdS]
          refine ⟨o, ?_⟩
          have hpt := pop_le t 8
          rw [i4]
          by_cases hc : pop t 8 = lsN (yN F n go place) (pN F go place)
          · rw [if_pos (by rw [hc]), rdS]
            refine ⟨o, c6_verdict (hN place hlt) h24 h8 htL ?_⟩
            by_cases hr : rsn F n nL (go place) t = 0
            · rw [if_pos hr]
              have hok := (rsn_ok (F := F) (n := n) (e := go place) h8 htL).mp hr
              rw [nd_and (show l < 65536 by omega), nI_1]
              refine c8_share_3 hL hN h24 h8 hm (lt_of_sb hl (sb_df hl8)) (by omega) (by omega) (fun w => ?_) (fun w => ?_)
              · rw [if_neg (by decide)]
                exact bz1i (g1 ⟨t, List.mem_cons_self, ht, hs, hc, hok, w⟩)
              · rw [if_pos rfl, lt_v]
                exact next (fun v => w v.2.2)
            · rw [if_neg hr, lt_v]
              exact next (fun v => hr ((rsn_ok (F := F) (n := n) (e := go place) h8 htL).mpr v.2.1))
          · rw [if_neg (nI_ne (by omega) (by omega) hc), lt_v]
            exact next (fun v => hc v.1)
      exact ⟨N + 1, hLp N 0 0 (by omega) (by decide) (fun k hk => by simp at hk) hh1 hh0⟩
    · rw [if_neg hz]
      refine bz0i (h0 (fun w => ?_))
      unfold csP at w
      exact hz ((rsn_ok (F := F) (n := n) (e := go place) h8 huL).mpr w.1)
end CSHARE
