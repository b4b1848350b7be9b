/-! THE CLASS: its lists -/
section CLIST
variable {S : Hp} {A : Nat → Nat → Nat} {qn q : Nat} {ct : Nat → Nat} {el : Nat → Nat → Nat}
theorem c_size {la d c : Nat} {el : Nat → Nat} {Q : Int32 → Hp → Prop} (h : LK S la d c el) (hQ : Q (nI c) S) : wp_Jx4a65c_size_8abf5 S la Q := by
  unfold wp_Jx4a65c_size_8abf5
  refine ⟨h.1, ?_⟩
  rw [h.2.1]
  exact hQ
theorem c_get {la d c i : Nat} {el : Nat → Nat} {Q : Option Nat → Hp → Prop} (h : LK S la d c el) (hi : i < c) (hQ : Q (some (el i)) S) : wp_Jx4a65c_get_915e3 S la (nI i) Q := by
  obtain ⟨h1, h2, h3⟩ := h
  obtain ⟨e, -⟩ | ⟨e, p1, p2, p3, p4, p5, p6, p7⟩ := h3
  · omega
  unfold wp_Jx4a65c_get_915e3 wp_J15_checkIndex_7cf53 wp_J3_checkIndex_8e157 wp_Jx4a65c_elementData_915e3
  refine ⟨h1, ?_⟩
  rw [h2, if_neg (nI_pos (by omega)), if_pos (show nI i < nI c by rw [i_lt, nI_toInt (by omega), nI_toInt (by omega)]; omega)]
  refine ⟨h1, h1, ?_⟩
  rw [p1, rdS]
  refine ⟨p2, vp_in_nI (by omega) (by omega), ?_⟩
  rw [nIc (by omega), p7 i hi]
  exact hQ
theorem LK_same {S' : Hp} {la d c : Nat} {el : Nat → Nat} {P : Nat → Prop} (h : LK S la d c el) (he : exB P S S') (h1 : P la) (h2 : 0 < c → P d) : LK S' la d c el := by
  obtain ⟨p1, p2, p3⟩ := h
  obtain ⟨a1, a2, a3⟩ := he.2 la p1.1
  obtain ⟨b1, b2, -⟩ := a3 h1
  refine ⟨⟨a1, a2.trans p1.2⟩, (b1 _).trans p2, ?_⟩
  rcases p3 with ⟨e, q⟩ | ⟨e, q1, q2, q3, q4, q5, q6, q7⟩
  · exact Or.inl ⟨e, by rw [b2, q, he.1]⟩
  · obtain ⟨c1, c2, c3⟩ := he.2 d q2.1
    obtain ⟨-, -, d3, -, d5⟩ := c3 (h2 e)
    exact Or.inr ⟨e, (b2 _).trans q1, ⟨c1, c2.trans q2.2⟩, by rw [he.1]; exact q3, by rw [d3]; exact q4, by rw [d3]; exact q5, by rw [d3]; exact q6, by rw [d5]; exact q7⟩
/-- a list grown by one, at its end -/
theorem LQ_add {S' : Hp} {a d : Nat} (h : LQ S A qn ct el) (hq : q < qn) (he : exB (fun b => b ≠ A 10 q ∧ (0 < ct q → b ≠ A 15 q)) S S') (hs : LK S' (A 10 q) d (ct q + 1) (g_2 el q (ct q) a q)) (hd : d ∉ g_L S ∨ 0 < ct q ∧ d = A 15 q) : LQ S' (g_2 A 15 q d) qn (va_up ct q (ct q + 1)) (g_2 el q (ct q) a) := by
  have hk : ∀ r, r < qn → 0 < ct r → okA S 15 (A 15 r) := fun r hr hc => by
    obtain ⟨-, -, p⟩ := h.1 r hr
    rcases p with ⟨e, -⟩ | ⟨-, -, p, -⟩
    · omega
    · exact p
  have hne : ∀ r, r < qn → 0 < ct r → r ≠ q → A 15 r ≠ d := fun r hr hc hrq e => by
    rcases hd with hd | ⟨hd, e2⟩
    · exact hd (e ▸ (hk r hr hc).1)
    · exact hrq (h.2.2 r hr q hq (by omega) (by omega) (e.trans e2))
  have e15 : ∀ r, r ≠ q → g_2 A 15 q d 15 r = A 15 r := fun r hr => g_2n _ _ (fun w => hr w.2)
  refine ⟨fun r hr => ?_, h.2.1, fun r hr s hs2 hr0 hs0 e => ?_⟩
  · by_cases hrq : r = q
    · subst hrq
      rw [va_up_self, g_2s]
      exact hs
    · rw [va_up_ne _ _ hrq, e15 r hrq]
      have e3 : g_2 el q (ct q) a r = el r := by
        funext i
        exact g_2n _ _ (fun w => hrq w.1)
      rw [e3]
      have hl := h.1 r hr
      refine LK_same hl he ⟨fun w => hrq (h.2.1 r hr q hq w), fun hc w => ?_⟩ (fun hc => ⟨fun w => ?_, fun hc2 w => hrq (h.2.2 r hr q hq (by omega) (by omega) w)⟩)
      · have h1 := hl.1.2
        have h2 := (hk q hq hc).2
        rw [show A 10 r = A 15 q from w, h2] at h1
        exact absurd h1 (by decide)
      · have h1 := (h.1 q hq).1.2
        have h2 := (hk r hr hc).2
        rw [w, h1] at h2
        exact absurd h2 (by decide)
  · by_cases hrq : r = q
    · by_cases hsq : s = q
      · rw [hrq, hsq]
      · rw [va_up_ne _ _ hsq] at hs0
        rw [hrq, g_2s, e15 s hsq] at e
        exact absurd e.symm (hne s hs2 (by omega) hsq)
    · rw [va_up_ne _ _ hrq] at hr0
      by_cases hsq : s = q
      · rw [hsq, g_2s, e15 r hrq] at e
        exact absurd e (hne r hr (by omega) hrq)
      · rw [va_up_ne _ _ hsq] at hs0
        rw [e15 r hrq, e15 s hsq] at e
        exact h.2.2 r hr s hs2 hr0 hs0 e
theorem okA_sI {κ n a b : Nat} {v : Int32} (h : okA S κ b) : okA (s_I S n a v) κ b := h
theorem c_add {a ke : Nat} {Q : Int32 → Hp → Prop} (h : LQ S A qn ct el) (hq : q < qn) (hc : ct q < 26) (hke : ke < 10) (hel : ∀ i, i < ct q → okA S ke (el q i)) (ha : okA S ke a) (hQ : ∀ S' d, LQ S' (g_2 A 15 q d) qn (va_up ct q (ct q + 1)) (g_2 el q (ct q) a) → ex nl S S' → Q 1 S') : wp_Jx4a65c_add_9ea2d S (A 10 q) (some a) Q := by
  obtain ⟨h1, h2, h3⟩ := h.1 q hq
  have hnl : ∀ {S'}, exB (fun b => b ≠ A 10 q ∧ (0 < ct q → b ≠ A 15 q)) S S' → ex nl S S' := fun he => exB_mono he (fun b hb hn => ⟨fun w => hn.1 (w ▸ h1.2), fun hc0 w => by
    rcases h3 with ⟨e, -⟩ | ⟨-, -, p, -⟩
    · omega
    · exact hn.2 (w ▸ p.2)⟩)
  have el_q : ∀ i, i < ct q → g_2 el q (ct q) a q i = el q i := fun i hi => g_2n _ _ (fun w => by have := w.2; omega)
  unfold wp_Jx4a65c_add_9ea2d
  refine ⟨h1, h1, ?_⟩
  have e1 : g_P (s_I S 1000 (A 10 q) (g_I S 1000 (A 10 q) + 1)) 1001 (A 10 q) = g_P S 1001 (A 10 q) := rfl
  have e2 : g_I (s_I S 1000 (A 10 q) (g_I S 1000 (A 10 q) + 1)) 1002 (A 10 q) = nI (ct q) := by
    rw [← h2]
    show g_2 (g_I S) 1000 (A 10 q) (g_I S 1000 (A 10 q) + 1) 1002 (A 10 q) = _
    exact g_2n _ _ (fun w => absurd w.1 (by decide))
  rw [e1, e2]
  have x0 : exB (fun b => b ≠ A 10 q ∧ (0 < ct q → b ≠ A 15 q)) S (s_I S 1000 (A 10 q) (g_I S 1000 (A 10 q) + 1)) := exB_sI (exB_refl _ _) (fun _ w => w.1 rfl)
  have hS1 : g_L (s_I S 1000 (A 10 q) (g_I S 1000 (A 10 q) + 1)) = g_L S := rfl
  have hO1 : g_O (s_I S 1000 (A 10 q) (g_I S 1000 (A 10 q) + 1)) = g_O S := rfl
  have hN1 : g_N (s_I S 1000 (A 10 q) (g_I S 1000 (A 10 q) + 1)) = g_N S := rfl
  have hok1 : ∀ κ b, okA S κ b → okA (s_I S 1000 (A 10 q) (g_I S 1000 (A 10 q) + 1)) κ b := fun κ b hb => hb
  have hT1 : g_T (s_I S 1000 (A 10 q) (g_I S 1000 (A 10 q) + 1)) = g_T S := rfl
  generalize s_I S 1000 (A 10 q) (g_I S 1000 (A 10 q) + 1) = S1 at *
  unfold wp_Jx4a65c_add_72be8
  rcases h3 with ⟨e, q1⟩ | ⟨e, q1, q2, q3, q4, q5, q6, q7⟩
  · have e0 : g_P S1 1001 (A 10 q) = some (g_T S1) := by rw [e1, q1, hT1]
    rw [q1, hT1, if_pos rfl, e, if_pos nI_0]
    unfold wp_Jx4a65c_grow_d5877 wp_Jx4a65c_grow_92f84
    refine ⟨hok1 _ _ h1, hok1 _ _ h1, hok1 _ _ h1, ?_⟩
    rw [e0, if_pos rfl, if_pos rfl, e2, e]
    have e10 : (if (10 : Int32) < nI 0 + 1 then nI 0 + 1 else 10) = nI 10 := by decide
    rw [e10, nIc (show 10 < 2 ^ 31 by decide)]
    refine ⟨by decide, by decide, fun d hd hdT => ?_⟩
    have x1 := exB_trans x0 (exB_mono (exB_nA (P := fun _ => True) 15 10 hd) (fun _ _ _ => trivial))
    have x2 : exB (fun b => b ≠ A 10 q ∧ (0 < ct q → b ≠ A 15 q)) S (s_P (n_A 15 S1 d 10) 1001 (A 10 q) (some d)) := exB_sP x1 (fun _ w => w.1 rfl)
    have hdS : d ∉ g_L S := hS1 ▸ hd
    have x3 : exB (fun b => b ≠ A 10 q ∧ (0 < ct q → b ≠ A 15 q)) S (s_O (s_P (n_A 15 S1 d 10) 1001 (A 10 q) (some d)) d 0 (some a)) := exB_sO x2 (fun w _ => hdS w)
    have x4 : exB (fun b => b ≠ A 10 q ∧ (0 < ct q → b ≠ A 15 q)) S (s_I (s_O (s_P (n_A 15 S1 d 10) 1001 (A 10 q) (some d)) d 0 (some a)) 1002 (A 10 q) (nI 0 + 1)) := exB_sI x3 (fun _ w => w.1 rfl)
    have hdne : A 10 q ≠ d := fun w => hdS (w ▸ h1.1)
    have okd : okA (n_A 15 S1 d 10) 15 d := ⟨List.mem_append.mpr (Or.inr (List.mem_singleton.mpr rfl)), va_up_self _ _ _⟩
    have ok10 : okA (n_A 15 S1 d 10) 10 (A 10 q) := ⟨(x1.2 _ h1.1).1, (x1.2 _ h1.1).2.1.trans h1.2⟩
    have hNd : g_N (n_A 15 S1 d 10) d = 10 := va_up_self _ _ _
    refine ⟨ok10, ?_⟩
    show rd (s_P (n_A 15 S1 d 10) 1001 (A 10 q) (some d)) 15 (some d) _
    rw [rdS]
    refine ⟨okd, ?_, ke, hke, ?_⟩
    · rw [show g_N (s_P (n_A 15 S1 d 10) 1001 (A 10 q) (some d)) d = 10 from hNd]
      exact vp_in_nI (n := 0) (by omega) (by omega)
    · rw [rdS]
      refine ⟨⟨(x2.2 _ ha.1).1, (x2.2 _ ha.1).2.1.trans ha.2⟩, ?_⟩
      rw [lt_v, nIc (show 0 < 2 ^ 31 by decide)]
      refine ⟨ok10, ?_⟩
      rw [lt_v]
      refine bz1i (hQ _ d (LQ_add h hq x4 ⟨ok10, ?_, Or.inr ⟨by omega, ?_, okd, ?_, ?_, ?_, ?_, ?_⟩⟩ (Or.inl hdS)) (hnl x4))
      · rw [e]; exact g_2s _ _ _ _
      · exact g_2s _ _ _ _
      · show d ≠ g_T S1
        exact hdT
      · show 10 ≤ g_N (n_A 15 S1 d 10) d
        omega
      · show g_N (n_A 15 S1 d 10) d ≤ 40
        omega
      · show _ ≤ g_N (n_A 15 S1 d 10) d
        omega
      · intro i hi
        have : i = 0 := by omega
        subst this
        rw [show g_2 el q (ct q) a q 0 = a by rw [e]; exact g_2s _ _ _ _]
        exact g_2s _ _ _ _
  · rw [q1, hT1, if_neg (fun w => q3 (Option.some.inj w)), rdS]
    refine ⟨hok1 _ _ q2, ?_⟩
    rw [hN1]
    have hN31 : Int32.ofNat (g_N S (A 15 q)) = nI (g_N S (A 15 q)) := rfl
    by_cases hfull : ct q = g_N S (A 15 q)
    · rw [if_pos (by rw [hN31, hfull])]
      unfold wp_Jx4a65c_grow_d5877 wp_Jx4a65c_grow_92f84
      refine ⟨hok1 _ _ h1, hok1 _ _ h1, hok1 _ _ h1, ?_⟩
      rw [e1, q1, hT1, if_neg (fun w => q3 (Option.some.inj w)), rdS]
      refine ⟨hok1 _ _ q2, ?_⟩
      rw [lt_v, hN1, hN31, ← hfull, e2]
      rw [if_pos (show (0 : Int32) < nI (ct q) by rw [i_lt, nI_toInt (by omega), show (0 : Int32).toInt = 0 from rfl]; omega)]
      unfold wp_J8_newLength_cabcc
      have hm : nI (ct q) + 1 - nI (ct q) = 1 := by
        rw [show (nI (ct q) + 1 : Int32) = 1 + nI (ct q) from Int32.add_comm _ _]
        exact Int32.add_sub_cancel _ _
      have hsh : nI (ct q) >>> ((1 : Int32) &&& 31) = nI (ct q / 2) := shr_nI (D := (1 : Int32) &&& 31) (d := 1) (by decide) (by omega)
      rw [hm, hsh, if_pos (show (1 : Int32) < nI (ct q / 2) by rw [i_lt, nI_toInt (by omega), show (1 : Int32).toInt = 1 from rfl]; omega), lt_v, nI_add]
      rw [if_neg (show ¬ nI (ct q + ct q / 2) ≤ 0 by rw [nI_le0 (by omega)]; omega), if_neg (show ¬ (2147483639 : Int32) < nI (ct q + ct q / 2) by rw [i_lt, nI_toInt (by omega), show (2147483639 : Int32).toInt = 2147483639 from rfl]; omega)]
      refine ⟨hok1 _ _ h1, ?_⟩
      unfold wp_J7_copyOf_1904c wp_J7_copyOf_6403c
      rw [e1, q1, rdS, nIc (show ct q + ct q / 2 < 2 ^ 31 by omega)]
      refine ⟨hok1 _ _ q2, nI_pos (by omega), by omega, fun d hd hdT => ?_⟩
      have hdS : d ∉ g_L S := hS1 ▸ hd
      have x1 := exB_trans x0 (exB_mono (exB_nA (P := fun _ => True) 15 (ct q + ct q / 2) hd) (fun _ _ _ => trivial))
      have okd : okA (n_A 15 S1 d (ct q + ct q / 2)) 15 d := ⟨List.mem_append.mpr (Or.inr (List.mem_singleton.mpr rfl)), va_up_self _ _ _⟩
      have hNd : g_N (n_A 15 S1 d (ct q + ct q / 2)) d = ct q + ct q / 2 := va_up_self _ _ _
      have hdne : A 15 q ≠ d := fun w => hdS (w ▸ q2.1)
      have hN15 : g_N (n_A 15 S1 d (ct q + ct q / 2)) (A 15 q) = ct q := by
        rw [hfull, ← hN1]
        exact va_up_ne _ _ hdne
      have hO15 : g_O (n_A 15 S1 d (ct q + ct q / 2)) (A 15 q) = g_O S (A 15 q) := by
        rw [← hO1]
        show (if A 15 q = d then _ else _) = _
        rw [if_neg hdne]
      have okq : okA (n_A 15 S1 d (ct q + ct q / 2)) 15 (A 15 q) := ⟨(x1.2 _ q2.1).1, (x1.2 _ q2.1).2.1.trans q2.2⟩
      have ok10 : okA (n_A 15 S1 d (ct q + ct q / 2)) 10 (A 10 q) := ⟨(x1.2 _ h1.1).1, (x1.2 _ h1.1).2.1.trans h1.2⟩
      rw [lt_v, rdS, rdS, rdS]
      refine ⟨okq, okq, okd, ?_⟩
      have hcnt : (if nI (ct q + ct q / 2) < Int32.ofNat (g_N (n_A 15 S1 d (ct q + ct q / 2)) (A 15 q)) then nI (ct q + ct q / 2) else Int32.ofNat (g_N (n_A 15 S1 d (ct q + ct q / 2)) (A 15 q))) = nI (ct q) := by
        rw [hN15]
        rw [if_neg (show ¬ nI (ct q + ct q / 2) < Int32.ofNat (ct q) by
          show ¬ nI (ct q + ct q / 2) < nI (ct q)
          rw [i_lt, nI_toInt (by omega), nI_toInt (by omega)]; omega)]
        rfl
      rw [hcnt, nIc (show ct q < 2 ^ 31 by omega), show (0 : Int32).toNatClampNeg = 0 from rfl, hN15, hNd]
      refine ⟨by decide, by decide, nI_pos (by omega), by omega, by omega, ke, hke, fun i hi y hy => ?_, ?_⟩
      · rw [hO15, Nat.zero_add, q7 i hi] at hy
        cases hy
        have := hel i hi
        exact ⟨(x1.2 _ this.1).1, (x1.2 _ this.1).2.1.trans this.2⟩
      · rw [lt_v, hO15]
        refine ⟨ok10, ?_⟩
        show rd (s_P (s_W (n_A 15 S1 d (ct q + ct q / 2)) d (va_cpy (g_O S (A 15 q)) (g_O (n_A 15 S1 d (ct q + ct q / 2)) d) 0 0 (ct q))) 1001 (A 10 q) (some d)) 15 (some d) _
        rw [rdS]
        refine ⟨okd, ?_, ke, hke, ?_⟩
        · refine vp_in_nI (n := ct q) (N := g_N (n_A 15 S1 d (ct q + ct q / 2)) d) ?_ (by rw [hNd]; omega)
          rw [hNd]
          omega
        · generalize hrow : va_cpy (g_O S (A 15 q)) (g_O (n_A 15 S1 d (ct q + ct q / 2)) d) 0 0 (ct q) = row
          have x2 : exB (fun b => b ≠ A 10 q ∧ (0 < ct q → b ≠ A 15 q)) S (s_W (n_A 15 S1 d (ct q + ct q / 2)) d row) := exB_sW x1 (fun w _ => hdS w)
          have x3 : exB (fun b => b ≠ A 10 q ∧ (0 < ct q → b ≠ A 15 q)) S (s_P (s_W (n_A 15 S1 d (ct q + ct q / 2)) d row) 1001 (A 10 q) (some d)) := exB_sP x2 (fun _ w => w.1 rfl)
          have x4 : exB (fun b => b ≠ A 10 q ∧ (0 < ct q → b ≠ A 15 q)) S (s_O (s_P (s_W (n_A 15 S1 d (ct q + ct q / 2)) d row) 1001 (A 10 q) (some d)) d (ct q) (some a)) := exB_sO x3 (fun w _ => hdS w)
          have x5 : exB (fun b => b ≠ A 10 q ∧ (0 < ct q → b ≠ A 15 q)) S (s_I (s_O (s_P (s_W (n_A 15 S1 d (ct q + ct q / 2)) d row) 1001 (A 10 q) (some d)) d (ct q) (some a)) 1002 (A 10 q) (nI (ct q) + 1)) := exB_sI x4 (fun _ w => w.1 rfl)
          rw [rdS]
          refine ⟨⟨(x3.2 _ ha.1).1, (x3.2 _ ha.1).2.1.trans ha.2⟩, ?_⟩
          rw [lt_v]
          refine ⟨ok10, ?_⟩
          rw [lt_v]
          refine bz1i (hQ _ d (LQ_add h hq x5 ⟨ok10, ?_, Or.inr ⟨by omega, ?_, okd, ?_, ?_, ?_, ?_, ?_⟩⟩ (Or.inl hdS)) (hnl x5))
          · rw [← nI_1]; exact g_2s _ _ _ _
          · exact g_2s _ _ _ _
          · show d ≠ g_T S1
            exact hdT
          · show 10 ≤ g_N (n_A 15 S1 d (ct q + ct q / 2)) d
            omega
          · show g_N (n_A 15 S1 d (ct q + ct q / 2)) d ≤ 40
            omega
          · show _ ≤ g_N (n_A 15 S1 d (ct q + ct q / 2)) d
            omega
          · intro i hi
            by_cases e5 : i = ct q
            · subst e5
              rw [g_2s]
              exact g_2s _ _ _ _
            · rw [el_q i (by omega), ← q7 i (by omega)]
              refine (g_2n _ _ (fun w => e5 w.2)).trans ?_
              show (if d = d then row else _) i = _
              rw [if_pos rfl, ← hrow]
              show (if 0 ≤ i ∧ i < 0 + ct q then _ else _) = _
              rw [if_pos ⟨by omega, by omega⟩]
              congr 1
              omega
    · rw [if_neg (show ¬ nI (ct q) = Int32.ofNat (g_N S (A 15 q)) from nI_ne (b := g_N S (A 15 q)) (by omega) (by omega) hfull), rdS]
      refine ⟨hok1 _ _ q2, vp_in_nI (by omega) (by omega), ke, hke, ?_⟩
      rw [rdS]
      refine ⟨hok1 _ _ ha, ?_⟩
      rw [lt_v, nIc (show ct q < 2 ^ 31 by omega)]
      refine ⟨hok1 _ _ h1, ?_⟩
      rw [lt_v]
      have x1 : exB (fun b => b ≠ A 10 q ∧ (0 < ct q → b ≠ A 15 q)) S (s_O S1 (A 15 q) (ct q) (some a)) := exB_sO x0 (fun _ w => w.2 e rfl)
      have x2 : exB (fun b => b ≠ A 10 q ∧ (0 < ct q → b ≠ A 15 q)) S (s_I (s_O S1 (A 15 q) (ct q) (some a)) 1002 (A 10 q) (nI (ct q) + 1)) := exB_sI x1 (fun _ w => w.1 rfl)
      refine bz1i (hQ _ (A 15 q) (LQ_add h hq x2 ⟨hok1 _ _ h1, ?_, Or.inr ⟨by omega, ?_, hok1 _ _ q2, ?_, ?_, ?_, ?_, ?_⟩⟩ (Or.inr ⟨e, rfl⟩)) (hnl x2))
      · rw [← nI_1]; exact g_2s _ _ _ _
      · show g_P S1 1001 (A 10 q) = _
        rw [e1, q1]
      · show _ ≠ g_T S1
        rw [hT1]
        exact q3
      · show _ ≤ g_N S1 _
        rw [hN1]; omega
      · show g_N S1 _ ≤ _
        rw [hN1]; omega
      · show _ ≤ g_N S1 _
        rw [hN1]; omega
      · intro i hi
        by_cases e5 : i = ct q
        · subst e5
          rw [g_2s]
          exact g_2s _ _ _ _
        · rw [el_q i (by omega), ← q7 i (by omega)]
          refine (g_2n _ _ (fun w => e5 w.2)).trans ?_
          rw [hO1]
end CLIST
