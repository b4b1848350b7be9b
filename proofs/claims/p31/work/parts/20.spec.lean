/-! PURE PART: the reference's heap in one form: base B, object m, arrays ad j (tagged tg), ints D, rows F -/
def lM (j : Nat) : Nat := match j with
  | 2 => 6
  | 3 => 6
  | 4 => 6
  | 6 => 24
  | 7 => 24
  | 8 => 24
  | 9 => 24
  | 11 => 24
  | 12 => 24
  | 13 => 24
  | 14 => 24
  | 15 => 24
  | 16 => 384
  | 17 => 192
  | 18 => 192
  | 20 => 48
  | 21 => 24
  | 22 => 8
  | 23 => 8
  | 24 => 144
  | 25 => 8
  | 27 => 120
  | 28 => 20
  | 29 => 4
  | 30 => 4
  | _ => 0
def kM (j : Nat) : Nat := if j = 15 then 12 else 11
def arrs : List Nat := [2, 3, 4, 6, 7, 8, 9, 11, 12, 13, 14, 15, 16, 17, 18, 20, 21, 22, 23, 24, 25, 27, 28, 29, 30]
def upD (D : Nat → Int32) (j : Nat) (v : Int32) : Nat → Int32 := fun k => if k = j then v else D k
section MB
variable {B : Hp} {m : Nat} {ad tg : Nat → Nat} {D : Nat → Int32} {F : Nat → Nat → Int32}
end MB
theorem bz0 {P : Prop} : bz 0 P = P := propext ⟨fun h => h.2, fun h => ⟨rfl, h⟩⟩
theorem bz1 {P : Prop} : bz 1 P = P := propext ⟨fun h => h.2, fun h => ⟨rfl, h⟩⟩
theorem lt_v {α : Type} {x : α} {P : α → Prop} : lt x P = P x := rfl
theorem rdS {S : Hp} {κ a : Nat} {P : Nat → Prop} : rd S κ (some a) P = (okA S κ a ∧ P a) := propext ⟨fun ⟨b, e, h1, h2⟩ => by cases e; exact ⟨h1, h2⟩, fun ⟨h1, h2⟩ => ⟨a, rfl, h1, h2⟩⟩
theorem vin {k N : Nat} (h : k < N) (hN : N < 2 ^ 31) : vp_in (nI k) N = True := eq_true (vp_in_nI h hN)
theorem upD_ {D : Nat → Int32} {j : Nat} {v : Int32} (k : Nat) : upD D j v k = if k = j then v else D k := rfl
theorem g2_ {F : Nat → Nat → Int32} {j i : Nat} {v : Int32} (a b : Nat) : g_2 F j i v a b = if a = j ∧ b = i then v else F a b := rfl
theorem nIc {k : Nat} (h : k < 2 ^ 31) : (nI k).toNatClampNeg = k := nI_clamp h
/-- counts -/
def ct (p : Nat → Bool) : Nat → Nat
  | 0 => 0
  | n + 1 => ct p n + (if p n then 1 else 0)
theorem ct_le (p : Nat → Bool) : ∀ n, ct p n ≤ n
  | 0 => Nat.le_refl _
  | n + 1 => by
    have h := ct_le p n
    show ct p n + (if p n then 1 else 0) ≤ n + 1
    split <;> omega
theorem ct_cong {p q : Nat → Bool} : ∀ {n : Nat}, (∀ k, k < n → p k = q k) → ct p n = ct q n
  | 0, _ => rfl
  | n + 1, h => by
    show ct p n + _ = ct q n + _
    rw [ct_cong (fun k hk => h k (by omega)), h n (by omega)]
theorem nI_int (x : Int32) : (x < 0) ∨ ∃ j : Nat, j < 2 ^ 31 ∧ x = nI j := by
  by_cases h : x < 0
  · exact Or.inl h
  · exact Or.inr (nI_of h)
theorem nI_m1 {n : Nat} (h : n < 2 ^ 31) : ¬ nI n = -1 := by
  intro e
  have h1 := nI_pos h
  rw [e] at h1
  exact h1 (by decide)
theorem i_lt (a b : Int32) : a < b ↔ a.toInt < b.toInt := Int32.lt_iff_toInt_lt
theorem i_le (a b : Int32) : a ≤ b ↔ a.toInt ≤ b.toInt := Int32.le_iff_toInt_le
theorem i_eq (a b : Int32) : a = b ↔ a.toInt = b.toInt := Int32.toInt_inj.symm
/-! THE REFERENCE, method by method: the small ones -/
section MSMALL
variable {B : Hp} {m : Nat} {ad tg : Nat → Nat} {D : Nat → Int32} {F : Nat → Nat → Int32} {Q : Int32 → Hp → Prop} {S : Hp}
theorem bz0i {P : Prop} (h : P) : bz 0 P := ⟨rfl, h⟩
theorem bz1i {P : Prop} (h : P) : bz 1 P := ⟨rfl, h⟩
theorem sub1_toInt {n : Nat} (h : n < 1000) : (nI n - 1).toInt = (n : Int) - 1 := by
  have h1 : (1 : Int32).toInt = 1 := by decide
  rw [fb_subI (by rw [nI_toInt (by omega), h1]; omega) (by rw [nI_toInt (by omega), h1]; omega), nI_toInt (by omega), h1]
/-- an index among n, by its cases -/
def isIx (c : Int32) (n : Nat) : Prop := ∃ j : Nat, j < n ∧ c = nI j
theorem ix_or (c : Int32) {n : Nat} (hn : n < 1000) : isIx c n ∨ (c < 0 ∨ nI n ≤ c) := by
  rcases pk_ix c (n := n) (by omega) with h | h | h
  · exact Or.inr (Or.inl h)
  · exact Or.inr (Or.inr h)
  · exact Or.inl h
theorem ix_no {c : Int32} {n : Nat} (hn : n < 1000) (h : c < 0 ∨ nI n ≤ c) : c < 0 ∨ nI n - 1 < c := by
  rcases h with h | h
  · exact Or.inl h
  · refine Or.inr ?_
    rw [i_lt, sub1_toInt hn]
    rw [i_le, nI_toInt (by omega)] at h
    omega
/-! counts over the children -/
def inT (F : Nat → Nat → Int32) (n : Nat) (t : Int32) : Nat := ct (fun c => decide (F 7 c = t)) n
def waT (F : Nat → Nat → Int32) (n : Nat) (t : Int32) : Nat := ct (fun c => decide (F 8 c = t)) n
def inP (F : Nat → Nat → Int32) (n : Nat) (t p : Int32) : Nat := ct (fun c => decide (F 7 c = t) && decide (F 11 c = p)) n
theorem nI_add0 (k : Nat) : nI k + 0 = nI k := by
  rw [show (0 : Int32) = nI 0 from rfl, nI_add]; rfl
/-- the patrol with the fewest children, of several the lowest -/
def smP (F : Nat → Nat → Int32) (n : Nat) (t : Int32) : Nat → Nat
  | 0 => 0
  | p + 1 => if inP F n t (nI (p + 1)) < inP F n t (nI (smP F n t p)) then p + 1 else smP F n t p
theorem smP_le (F : Nat → Nat → Int32) (n : Nat) (t : Int32) : ∀ p, smP F n t p ≤ p
  | 0 => Nat.le_refl _
  | p + 1 => by
    have h := smP_le F n t p
    unfold smP
    split <;> omega
theorem inP_le (F : Nat → Nat → Int32) (n : Nat) (t p : Int32) : inP F n t p ≤ n := ct_le _ n
theorem inT_le (F : Nat → Nat → Int32) (n : Nat) (t : Int32) : inT F n t ≤ n := ct_le _ n
theorem waT_le (F : Nat → Nat → Int32) (n : Nat) (t : Int32) : waT F n t ≤ n := ct_le _ n
/-- child c comes into troop t -/
def cIn (F : Nat → Nat → Int32) (n c : Nat) (t : Int32) : Nat → Nat → Int32 := fun j i => if i = c then (if j = 7 then t else if j = 8 then -1 else if j = 11 then nI (smP F n t 3) else F j i) else F j i
/-- the first one who waits for a troop: n if there is none -/
def fiW (F : Nat → Nat → Int32) (t : Int32) : Nat → Option Nat
  | 0 => none
  | k + 1 => if F 8 k = t then (match fiW F t k with | none => some k | some f => if F 9 k < F 9 f then some k else some f) else fiW F t k
def oI : Option Nat → Int32
  | none => -1
  | some k => nI k
theorem fiW_lt (F : Nat → Nat → Int32) (t : Int32) : ∀ (k f : Nat), fiW F t k = some f → f < k ∧ F 8 f = t
  | 0, f, h => by simp [fiW] at h
  | k + 1, f, h => by
    unfold fiW at h
    have ih := fiW_lt F t k
    by_cases c : F 8 k = t
    · rw [if_pos c] at h
      cases hf : fiW F t k with
      | none => rw [hf] at h; simp at h; subst h; exact ⟨by omega, c⟩
      | some g =>
        rw [hf] at h
        have := ih g hf
        by_cases c2 : F 9 k < F 9 g
        · simp [c2] at h; subst h; exact ⟨by omega, c⟩
        · simp [c2] at h; subst h; exact ⟨by omega, this.2⟩
    · rw [if_neg c] at h
      have := ih f h
      exact ⟨by omega, this.2⟩
end MSMALL
/-! THE REFERENCE: troops and children -/
section MTROOP
variable {B : Hp} {m : Nat} {ad tg : Nat → Nat} {D : Nat → Int32} {F : Nat → Nat → Int32} {Q : Int32 → Hp → Prop} {S : Hp}
/-- troop t is for the age of child c -/
def fo (F : Nat → Nat → Int32) (t c : Nat) : Prop := ¬ F 6 c < F 2 t ∧ ¬ F 3 t < F 6 c
/-- child c is in no troop -/
def gOut (F : Nat → Nat → Int32) (c : Nat) : Nat → Nat → Int32 := g_2 (g_2 F 7 c (-1)) 11 c (-1)
/-- child c waits for troop t -/
def joW (D : Nat → Int32) (F : Nat → Nat → Int32) (c t : Nat) : Nat → Nat → Int32 := g_2 (g_2 F 8 c (nI t)) 9 c (D 10)
end MTROOP
/-! THE REFERENCE: child, join, leave, patrol, duty, pass -/
section MCHILD
variable {B : Hp} {m : Nat} {ad tg : Nat → Nat} {D : Nat → Int32} {F : Nat → Nat → Int32} {Q : Int32 → Hp → Prop} {S : Hp}
theorem nI_ne {a b : Nat} (ha : a < 2 ^ 31) (hb : b < 2 ^ 31) (h : a ≠ b) : ¬ nI a = nI b := fun q => h ((nI_eq ha hb).mp q)
def chN (F : Nat → Nat → Int32) (n : Nat) (a : Int32) : Nat → Nat → Int32 := g_2 (g_2 (g_2 (g_2 F 6 n a) 7 n (-1)) 8 n (-1)) 11 n (-1)
/-- child i waits no longer -/
def wOut (F : Nat → Nat → Int32) (i : Nat) : Nat → Nat → Int32 := gOut (g_2 F 8 i (-1)) i
/-! duty -/
def fiP (F : Nat → Nat → Int32) (n : Nat) (t : Int32) : Nat → Nat := ct (fun p => decide (0 < inP F n t (nI p)))
theorem nI_le0 {k : Nat} (hk : k < 2 ^ 31) : nI k ≤ 0 ↔ k = 0 := by
  rw [i_le, nI_toInt hk, show (0 : Int32).toInt = 0 from rfl]; omega
/-- the patrol on duty, of those from p on: left is how many to pass -/
def duP (F : Nat → Nat → Int32) (n : Nat) (t : Int32) (l : Nat) : Nat → Int32
  | 0 => -1
  | p + 1 => if 0 < inP F n t (nI p) ∧ fiP F n t p = l then nI p else duP F n t l p
theorem nI_sub0 (x : Int32) : x - 0 = x := by
  apply Int32.toBitVec_inj.mp; simp
theorem day_nat {b : Int32} (hv : ¬ (b < 0 ∨ 9999 < b)) : ∃ d : Nat, d < 10000 ∧ b = nI d := by
  rcases ix_or b (n := 999) (by omega) with ⟨j, hj, e⟩ | _
  · exact ⟨j, by omega, e⟩
  · rcases nI_int b with h | ⟨j, hj, e⟩
    · exact absurd (Or.inl h) hv
    · refine ⟨j, ?_, e⟩
      rcases Nat.lt_or_ge j 10000 with q | q
      · exact q
      · refine absurd (Or.inr ?_) hv
        rw [i_lt, e, nI_toInt hj, show (9999 : Int32).toInt = 9999 from rfl]
        omega
end MCHILD
/-! THE REFERENCE: season -/
section MSEASON
variable {B : Hp} {m : Nat} {ad tg : Nat → Nat} {D : Nat → Int32} {F : Nat → Nat → Int32} {Q : Int32 → Hp → Prop} {S : Hp}
/-- of another age than troop t wants -/
def ofA (F : Nat → Nat → Int32) (t : Nat) (a : Int32) : Bool := decide (a < F 2 t) || decide (F 3 t < a)
theorem fo_ofA (F : Nat → Nat → Int32) (t c : Nat) : fo F t c ↔ ofA F t (F 6 c) = false := by
  simp [fo, ofA]
/-- leaves at the end of a season -/
def lfB (F : Nat → Nat → Int32) (i : Nat) : Bool := !decide (F 7 i = -1) && ofA F (F 7 i).toNatClampNeg (F 6 i + 1)
def wfB (F : Nat → Nat → Int32) (i : Nat) : Bool := !decide (F 8 i = -1) && ofA F (F 8 i).toNatClampNeg (F 6 i + 1)
/-- what a season does to one child -/
def stp (F : Nat → Nat → Int32) (k : Nat) : Nat → Nat → Int32 := fun j i => if i = k then (if j = 6 then F 6 k + 1 else if j = 7 then (if lfB F k then -1 else F 7 k) else if j = 11 then (if lfB F k then -1 else F 11 k) else if j = 8 then (if wfB F k then -1 else F 8 k) else if j = 15 then (if lfB F k then 1 else 0) else F j i) else F j i
def inR (x : Int32) (N : Nat) : Prop := x = -1 ∨ ∃ t, t < N ∧ x = nI t
theorem nar0 : vp_nar .boolean (0 : Int32) = 0 := by decide
theorem nar1 : vp_nar .boolean (1 : Int32) = 1 := by decide
theorem stp_eq (F : Nat → Nat → Int32) (k : Nat) (b : Bool) (G : Nat → Nat → Int32) (hG : G = (if b then gOut (g_2 (g_2 F 6 k (F 6 k + 1)) 15 k 1) k else g_2 (g_2 F 6 k (F 6 k + 1)) 15 k 0)) (hb : lfB F k = b) : (if !decide (G 8 k = -1) && ofA G (G 8 k).toNatClampNeg (G 6 k) then g_2 G 8 k (-1) else G) = stp F k := by
  have e8 : G 8 k = F 8 k := by
    rw [hG]
    cases b <;> simp [gOut, g_2]
  have e6 : G 6 k = F 6 k + 1 := by
    rw [hG]
    cases b <;> simp [gOut, g_2]
  have e2 : G 2 = F 2 := by
    rw [hG]
    funext i
    cases b <;> simp [gOut, g_2]
  have e3 : G 3 = F 3 := by
    rw [hG]
    funext i
    cases b <;> simp [gOut, g_2]
  have ew : (!decide (G 8 k = -1) && ofA G (G 8 k).toNatClampNeg (G 6 k)) = wfB F k := by
    unfold wfB ofA
    rw [e8, e6, e2, e3]
  rw [ew]
  funext j i
  unfold stp
  rw [hb]
  by_cases hi : i = k
  · subst hi
    rw [if_pos rfl]
    by_cases h6 : j = 6
    · subst h6
      cases wfB F i <;> cases b <;> simp [hG, gOut, g_2]
    by_cases h7 : j = 7
    · subst h7
      cases wfB F i <;> cases b <;> simp [hG, gOut, g_2]
    by_cases h11 : j = 11
    · subst h11
      cases wfB F i <;> cases b <;> simp [hG, gOut, g_2]
    by_cases h8 : j = 8
    · subst h8
      cases wfB F i <;> cases b <;> simp [hG, gOut, g_2]
    by_cases h15 : j = 15
    · subst h15
      cases wfB F i <;> cases b <;> simp [hG, gOut, g_2]
    cases wfB F i <;> cases b <;> simp [hG, gOut, g_2, h6, h7, h8, h11, h15]
  · rw [if_neg hi]
    cases wfB F k <;> cases b <;> simp [hG, gOut, g_2, hi]
/-- the first step of a season, for the children below k -/
def s1 (F : Nat → Nat → Int32) : Nat → Nat → Nat → Int32
  | 0 => F
  | k + 1 => stp (s1 F k) k
theorem s1_at (F : Nat → Nat → Int32) : ∀ (k j i : Nat), s1 F k j i = if i < k then stp F i j i else F j i
  | 0, j, i => by rw [if_neg (by omega)]; rfl
  | k + 1, j, i => by
    have h2 : s1 F k 2 = F 2 := by
      funext i
      rw [s1_at F k 2 i]
      split <;> simp [stp]
    have h3 : s1 F k 3 = F 3 := by
      funext i
      rw [s1_at F k 3 i]
      split <;> simp [stp]
    show stp (s1 F k) k j i = _
    by_cases hi : i = k
    · subst hi
      rw [if_pos (by omega)]
      have hh : ∀ j, s1 F i j i = F j i := fun j => by rw [s1_at F i j i, if_neg (by omega)]
      unfold stp lfB wfB ofA
      rw [h2, h3]
      simp only [hh]
    · have e : stp (s1 F k) k j i = s1 F k j i := by simp [stp, hi]
      rw [e, s1_at F k j i]
      by_cases h : i < k
      · rw [if_pos h, if_pos (by omega)]
      · rw [if_neg h, if_neg (by omega)]
theorem s1_lf (F : Nat → Nat → Int32) (k : Nat) : lfB (s1 F k) k = lfB F k := by
  have h2 : s1 F k 2 = F 2 := by
    funext i
    rw [s1_at F k 2 i]
    split <;> simp [stp]
  have h3 : s1 F k 3 = F 3 := by
    funext i
    rw [s1_at F k 3 i]
    split <;> simp [stp]
  have hh : ∀ j, s1 F k j k = F j k := fun j => by rw [s1_at F k j k, if_neg (by omega)]
  unfold lfB ofA
  rw [h2, h3]
  simp only [hh]
/-! the second step: the troops fill up -/
def lf1 (F : Nat → Nat → Int32) (n : Nat) (t : Int32) : Nat → Nat → Int32 := match fiW F t n with
  | none => F
  | some f => cIn F n f t
def itr (F : Nat → Nat → Int32) (n : Nat) (t : Int32) : Nat → Nat → Nat → Int32
  | 0 => F
  | k + 1 => itr (lf1 F n t) n t k
theorem itr_none {F : Nat → Nat → Int32} {n : Nat} {t : Int32} (h : fiW F t n = none) : ∀ k, itr F n t k = F
  | 0 => rfl
  | k + 1 => by
    show itr (lf1 F n t) n t k = F
    have e : lf1 F n t = F := by simp [lf1, h]
    rw [e]
    exact itr_none h k
/-- where the children are -/
def PL (F : Nat → Nat → Int32) (n N : Nat) : Prop := ∀ i, i < n → inR (F 7 i) N ∧ inR (F 8 i) N ∧ (F 8 i = -1 ∨ F 7 i = -1 ∧ F 11 i = -1)
theorem PL_cIn {F : Nat → Nat → Int32} {n N f t : Nat} (h : PL F n N) (ht : t < N) : PL (cIn F n f (nI t)) n N := by
  intro i hi
  obtain ⟨h1, h2, h3⟩ := h i hi
  by_cases e : i = f
  · subst e
    exact ⟨Or.inr ⟨t, ht, by simp [cIn]⟩, Or.inl (by simp [cIn]), Or.inl (by simp [cIn])⟩
  · simp only [cIn, if_neg e]
    exact ⟨h1, h2, h3⟩
theorem PL_lf1 {F : Nat → Nat → Int32} {n N t : Nat} (h : PL F n N) (ht : t < N) : PL (lf1 F n (nI t)) n N := by
  unfold lf1
  split
  · exact h
  · exact PL_cIn h ht
theorem lf1_4 (F : Nat → Nat → Int32) (n : Nat) (t : Int32) : lf1 F n t 4 = F 4 := by
  unfold lf1
  cases fiW F t n with
  | none => rfl
  | some f =>
    funext i
    simp [cIn]
theorem PL_itr {n N t : Nat} (ht : t < N) : ∀ (k : Nat) (F : Nat → Nat → Int32), PL F n N → PL (itr F n (nI t) k) n N
  | 0, _, h => h
  | k + 1, _, h => PL_itr ht k _ (PL_lf1 h ht)
theorem itr_4 (n : Nat) (t : Int32) : ∀ (k : Nat) (F : Nat → Nat → Int32), itr F n t k 4 = F 4
  | 0, _ => rfl
  | k + 1, F => by
    show itr (lf1 F n t) n t k 4 = F 4
    rw [itr_4 n t k, lf1_4]
theorem ct_fb (p : Nat → Bool) : ∀ n, ct p n = fb_ct p n
  | 0 => rfl
  | n + 1 => by rw [ct, fb_ct, ct_fb p n]
theorem inT_cIn {F : Nat → Nat → Int32} {n f t : Nat} (hf : f < n) (h : ¬ F 7 f = nI t) : inT (cIn F n f (nI t)) n (nI t) = inT F n (nI t) + 1 := by
  unfold inT
  rw [ct_fb, ct_fb]
  have h1 := fb_ct_upd (fun c => decide (F 7 c = nI t)) true hf
  have e : (fun c => decide (cIn F n f (nI t) 7 c = nI t)) = (fun k => if k = f then true else decide (F 7 k = nI t)) := by
    funext c
    by_cases hc : c = f
    · simp [cIn, hc]
    · simp [cIn, hc]
  rw [e]
  simp only [h, decide_false] at h1
  simpa using h1
def filT (F : Nat → Nat → Int32) (n t : Nat) : Nat → Nat → Int32 := itr F n (nI t) ((F 4 t).toNatClampNeg - inT F n (nI t))
def filA (F : Nat → Nat → Int32) (n : Nat) : Nat → Nat → Nat → Int32
  | 0 => F
  | t + 1 => filT (filA F n t) n t
theorem filA_4 (F : Nat → Nat → Int32) (n : Nat) : ∀ k, filA F n k 4 = F 4
  | 0 => rfl
  | k + 1 => by
    show itr _ _ _ _ 4 = F 4
    rw [itr_4, filA_4 F n k]
theorem PL_filA {F : Nat → Nat → Int32} {n N : Nat} (h : PL F n N) : ∀ k, k ≤ N → PL (filA F n k) n N
  | 0, _ => h
  | k + 1, hk => PL_itr (by omega) _ _ (PL_filA h k (by omega))
/-- rooms of the troops -/
def RM (F : Nat → Nat → Int32) (N : Nat) : Prop := ∀ t, t < N → ∃ r : Nat, r < 100 ∧ F 4 t = nI r
/-! the third step: those who left join again -/
def loF (F : Nat → Nat → Int32) (c : Nat) : Nat → Option Nat
  | 0 => none
  | k + 1 => match loF F c k with
    | some t => some t
    | none => if ofA F k (F 6 c) then none else some k
theorem loF_lt (F : Nat → Nat → Int32) (c : Nat) : ∀ (k t : Nat), loF F c k = some t → t < k ∧ ofA F t (F 6 c) = false
  | 0, t, h => by simp [loF] at h
  | k + 1, t, h => by
    unfold loF at h
    cases hq : loF F c k with
    | some s =>
      rw [hq] at h
      simp at h
      subst h
      have := loF_lt F c k s hq
      exact ⟨by omega, this.2⟩
    | none =>
      rw [hq] at h
      cases ho : ofA F k (F 6 c)
      · rw [ho] at h
        simp at h
        subst h
        exact ⟨by omega, ho⟩
      · rw [ho] at h
        simp at h
def jnD (D : Nat → Int32) (F : Nat → Nat → Int32) (n t : Nat) : Nat → Int32 := if nI (inT F n (nI t)) < F 4 t then D else upD D 10 (D 10 + 1)
def jnF (D : Nat → Int32) (F : Nat → Nat → Int32) (n c t : Nat) : Nat → Nat → Int32 := if nI (inT F n (nI t)) < F 4 t then cIn F n c (nI t) else joW D F c t
theorem nI_dec (k : Nat) : nI (k + 1) + -1 = nI k := by
  rw [← nI_pred k]
  exact (Int32.sub_eq_add_neg _ _).symm
/-- child c joins the lowest troop for it, of N -/
def lwD (D : Nat → Int32) (F : Nat → Nat → Int32) (n N c : Nat) : Nat → Int32 := match loF F c N with
  | none => D
  | some t => jnD D F n t
def lwF (D : Nat → Int32) (F : Nat → Nat → Int32) (n N c : Nat) : Nat → Nat → Int32 := match loF F c N with
  | none => F
  | some t => jnF D F n c t
def sJD (n N : Nat) (D : Nat → Int32) (F : Nat → Nat → Int32) : Nat → (Nat → Int32) × (Nat → Nat → Int32)
  | 0 => (D, F)
  | k + 1 => if (sJD n N D F k).2 15 k = 0 then sJD n N D F k else (lwD (sJD n N D F k).1 (sJD n N D F k).2 n N k, lwF (sJD n N D F k).1 (sJD n N D F k).2 n N k)
theorem jnD_ne (D : Nat → Int32) (F : Nat → Nat → Int32) (n t j : Nat) (h : j ≠ 10) : jnD D F n t j = D j := by
  unfold jnD
  split
  · rfl
  · simp [upD, h]
theorem lwD_ne (D : Nat → Int32) (F : Nat → Nat → Int32) (n N c j : Nat) (h : j ≠ 10) : lwD D F n N c j = D j := by
  unfold lwD
  cases loF F c N with
  | none => rfl
  | some t => exact jnD_ne _ _ _ _ _ h
theorem sJD_ne (n N : Nat) (D : Nat → Int32) (F : Nat → Nat → Int32) (j : Nat) (h : j ≠ 10) : ∀ k, (sJD n N D F k).1 j = D j
  | 0 => rfl
  | k + 1 => by
    unfold sJD
    split
    · exact sJD_ne n N D F j h k
    · rw [show (lwD (sJD n N D F k).1 (sJD n N D F k).2 n N k, lwF (sJD n N D F k).1 (sJD n N D F k).2 n N k).1 j = _ from lwD_ne _ _ _ _ _ _ h]
      exact sJD_ne n N D F j h k
theorem s1_row (F : Nat → Nat → Int32) (k j : Nat) (h : j ≠ 6 ∧ j ≠ 7 ∧ j ≠ 8 ∧ j ≠ 11 ∧ j ≠ 15) : s1 F k j = F j := by
  funext i
  rw [s1_at]
  split
  · simp [stp, h]
  · rfl
theorem PL_s1 {F : Nat → Nat → Int32} {n N : Nat} (h : PL F n N) (k : Nat) : PL (s1 F k) n N := by
  intro i hi
  obtain ⟨h1, h2, h3⟩ := h i hi
  rw [s1_at, s1_at, s1_at]
  by_cases hk : i < k
  · rw [if_pos hk, if_pos hk, if_pos hk]
    simp only [stp, if_true, show ¬ (7 : Nat) = 6 by decide, show ¬ (8 : Nat) = 6 by decide, show ¬ (8 : Nat) = 7 by decide, show ¬ (8 : Nat) = 11 by decide, show ¬ (11 : Nat) = 6 by decide, show ¬ (11 : Nat) = 7 by decide, if_false]
    refine ⟨?_, ?_, ?_⟩
    · cases lfB F i
      · exact h1
      · exact Or.inl rfl
    · cases wfB F i
      · exact h2
      · exact Or.inl rfl
    · rcases h3 with e | e
      · exact Or.inl (by simp [e])
      · exact Or.inr (by simp [e])
  · rw [if_neg hk, if_neg hk, if_neg hk]
    exact ⟨h1, h2, h3⟩
/-- what a season leaves -/
def seaF (D : Nat → Int32) (F : Nat → Nat → Int32) (n N : Nat) : Nat → Nat → Int32 := (sJD n N D (filA (s1 F n) n N) n).2
def seaD (D : Nat → Int32) (F : Nat → Nat → Int32) (n N : Nat) : Nat → Int32 := (sJD n N D (filA (s1 F n) n N) n).1
end MSEASON
/-! numbers -/
theorem nI_mul (a b : Nat) : nI a * nI b = nI (a * b) := (Int32.ofNat_mul a b).symm
theorem bsh : ∀ k, k < 32 → ((nI k &&& 31).toBitVec.smod 32).toNat = k := by decide +kernel
theorem shr_nI {a d : Nat} {D : Int32} (hD : (D.toBitVec.smod 32).toNat = d) (h : a < 2 ^ 31) : nI a >>> D = nI (a / 2 ^ d) := by
  have hd : a / 2 ^ d ≤ a := Nat.div_le_self _ _
  apply Int32.toInt_inj.mp
  have e : (nI a >>> D).toInt = (nI a).toInt >>> d := by
    rw [← hD]
    exact BitVec.toInt_sshiftRight ..
  rw [e, Int.shiftRight_eq_div_pow, nI_toInt (by omega), nI_toInt (by omega)]
  rfl
def bN (s k : Nat) : Nat := if s.testBit k then 1 else 0
theorem bN_le (s k : Nat) : bN s k ≤ 1 := by unfold bN; split <;> omega
theorem bit_nI {s k : Nat} (hs : s < 2 ^ 31) (hk : k < 32) : (nI s >>> (nI k &&& 31)) &&& 1 = nI (bN s k) := by
  rw [shr_nI (bsh k hk) hs]
  have e : nI (s / 2 ^ k) &&& nI (2 ^ 1 - 1) = nI (s / 2 ^ k % 2 ^ 1) := fa_mask _ 1
  have e1 : nI (2 ^ 1 - 1) = (1 : Int32) := rfl
  rw [e1] at e
  rw [e]
  unfold bN
  rw [Nat.testBit_eq_decide_div_mod_eq]
  have := Nat.mod_lt (s / 2 ^ k) (show 0 < 2 by decide)
  by_cases h : s / 2 ^ k % 2 = 1
  · simp [h]
  · have h0 : s / 2 ^ k % 2 = 0 := by omega
    simp [h0]
def pop (s : Nat) : Nat → Nat := ct (fun k => s.testBit k)
theorem pop_succ (s k : Nat) : pop s (k + 1) = pop s k + bN s k := rfl
theorem pop_le (s n : Nat) : pop s n ≤ n := ct_le _ n
def bI (b : Bool) : Int32 := if b then 1 else 0
theorem bI0 (b : Bool) : bI b = 0 ↔ b = false := by cases b <;> decide
theorem sk_nat {b : Int32} (hv : ¬ (b < 0 ∨ 65535 < b)) : ∃ d : Nat, d < 65536 ∧ b = nI d := by
  rcases nI_int b with h | ⟨j, hj, e⟩
  · exact absurd (Or.inl h) hv
  · refine ⟨j, ?_, e⟩
    rcases Nat.lt_or_ge j 65536 with q | q
    · exact q
    · refine absurd (Or.inr ?_) hv
      rw [i_lt, e, nI_toInt hj, show (65535 : Int32).toInt = 65535 from rfl]
      omega
theorem in_nat {b : Int32} {N : Nat} (hN : N < 2 ^ 31) (hv : ¬ (b < 0 ∨ nI N < b)) : ∃ d : Nat, d ≤ N ∧ b = nI d := by
  rcases nI_int b with h | ⟨j, hj, e⟩
  · exact absurd (Or.inl h) hv
  · refine ⟨j, ?_, e⟩
    rcases Nat.lt_or_ge N j with q | q
    · refine absurd (Or.inr ?_) hv
      rw [i_lt, e, nI_toInt hj, nI_toInt hN]
      omega
    · exact q
/-! THE REFERENCE: leaders, editions, begin, boxes -/
section MLEAD
variable {B : Hp} {m : Nat} {ad tg : Nat → Nat} {D : Nat → Int32} {F : Nat → Nat → Int32} {Q : Int32 → Hp → Prop} {S : Hp}
theorem vix {l k : Nat} : (6 : Int32) * nI l + (2 : Int32) * nI k = nI (6 * l + 2 * k) := by
  rw [show (6 : Int32) = nI 6 from rfl, show (2 : Int32) = nI 2 from rfl, nI_mul, nI_mul, nI_add]
def vetF (F : Nat → Nat → Int32) (l k : Nat) (c d : Int32) : Nat → Nat → Int32 := g_2 (g_2 F 20 (6 * l + 2 * k) c) 20 (6 * l + 2 * k + 1) d
/-- leader l is vetted for land k on a day -/
def veB (F : Nat → Nat → Int32) (l k : Nat) (d : Int32) : Bool := !decide (d < F 20 (6 * l + 2 * k)) && !decide (F 20 (6 * l + 2 * k + 1) < d)
theorem pix {l k : Nat} : (3 : Int32) * nI l + nI (k + 1) - 1 = nI (3 * l + k) := by
  rw [show (3 : Int32) = nI 3 from rfl, nI_mul, nI_add, ← Nat.add_assoc, nI_pred]
/-! editions -/
/-- an edition's numbers are in their ranges -/
def edV (b m1 c y p g l : Int32) : Prop := ¬ (m1 < 0 ∨ 65535 < m1) ∧ ¬ (c < 0 ∨ 65535 < c) ∧ m1 &&& c = 0 ∧ ¬ (y < 0 ∨ nI (pop c.toNatClampNeg 16) < y) ∧ ¬ (p < -1 ∨ b - 1 < p) ∧ (p = -1 ∨ ¬ (g < 0 ∨ 400 < g)) ∧ ¬ (l < 0 ∨ 4000 < l)
def ediF (F : Nat → Nat → Int32) (b e : Nat) (m1 c y p g l : Int32) : Nat → Nat → Int32 := g_2 (g_2 (g_2 (g_2 (g_2 (g_2 (g_2 F 24 (18 * b + 6 * e) m1) 24 (18 * b + 6 * e + 1) c) 24 (18 * b + 6 * e + 2) y) 24 (18 * b + 6 * e + 3) p) 24 (18 * b + 6 * e + 4) g) 24 (18 * b + 6 * e + 5) l) 23 b (nI (e + 1))
theorem eix {b e : Nat} : (18 : Int32) * nI b + (6 : Int32) * nI e = nI (18 * b + 6 * e) := by
  rw [show (18 : Int32) = nI 18 from rfl, show (6 : Int32) = nI 6 from rfl, nI_mul, nI_mul, nI_add]
theorem nI_k (a k : Nat) : nI a + (OfNat.ofNat k : Int32) = nI (a + k) := nI_add a k
end MLEAD
/-! THE REFERENCE: begin, boxes, pay, owed, today, ofTroop, event, staff, why, lacks -/
section MREST
variable {B : Hp} {m : Nat} {ad tg : Nat → Nat} {D : Nat → Int32} {F : Nat → Nat → Int32} {Q : Int32 → Hp → Prop} {S : Hp}
theorem cix {c b : Nat} : (8 : Int32) * nI c + nI b = nI (8 * c + b) := by
  rw [show (8 : Int32) = nI 8 from rfl, nI_mul, nI_add]
theorem rng {k N : Nat} (hk : k ≤ N) (hN : N < 2 ^ 31) : ¬ (nI k < 0 ∨ nI N < nI k) := by
  rw [i_lt, i_lt, nI_toInt (by omega), nI_toInt (by omega), show (0 : Int32).toInt = 0 from rfl]
  omega
def begF (D : Nat → Int32) (F : Nat → Nat → Int32) (i b e : Nat) : Nat → Nat → Int32 := g_2 (g_2 F 17 (8 * i + b) (D 0)) 18 (8 * i + b) (nI e)
/-- the child may take these boxes -/
def bxO (F : Nat → Nat → Int32) (i : Nat) (b : Int32) : Prop := ¬ F 7 i = -1 ∧ (F 12 i ≤ 0 ∨ F 13 i = F 7 i) ∧ F 14 i + b ≤ 9999
def boxF (F : Nat → Nat → Int32) (i : Nat) (b : Int32) : Nat → Nat → Int32 := g_2 (g_2 (g_2 F 13 i (F 7 i)) 14 i (F 14 i + b)) 12 i (F 12 i + 4 * b)
/-- coins owed to troop t -/
def owS (F : Nat → Nat → Int32) (t : Int32) : Nat → Int32
  | 0 => 0
  | k + 1 => if F 12 k ≤ 0 then owS F t k else if F 13 k = t then owS F t k + F 12 k else owS F t k
theorem nI_addz (x : Int32) : x + 0 = x := Int32.add_zero x
/-! events -/
def evV (D : Nat → Int32) (c d e f : Int32) : Prop := ¬ (c < 0 ∨ 3 < c) ∧ ¬ (d < D 0 ∨ 9999 < d) ∧ ¬ (e < 0 ∨ 23 < e) ∧ ¬ (f < 1 ∨ 24 - e < f)
def evnF (F : Nat → Nat → Int32) (k : Nat) (a b c d e f : Int32) : Nat → Nat → Int32 := g_2 (g_2 (g_2 (g_2 (g_2 (g_2 F 27 (6 * k) a) 27 (6 * k + 1) b) 27 (6 * k + 2) c) 27 (6 * k + 3) d) 27 (6 * k + 4) e) 27 (6 * k + 5) f
theorem six {k : Nat} : (6 : Int32) * nI k = nI (6 * k) := nI_mul 6 k
/-- two events meet -/
def meB (F : Nat → Nat → Int32) (a b : Nat) : Bool := decide (F 27 (6 * a + 3) = F 27 (6 * b + 3)) && !decide (F 27 (6 * b + 4) + F 27 (6 * b + 5) ≤ F 27 (6 * a + 4)) && !decide (F 27 (6 * a + 4) + F 27 (6 * a + 5) ≤ F 27 (6 * b + 4))
/-- some k below n -/
def anB (p : Nat → Bool) : Nat → Bool
  | 0 => false
  | k + 1 => anB p k || p k
theorem anB_true (p : Nat → Bool) : ∀ n, anB p n = true ↔ ∃ k, k < n ∧ p k = true
  | 0 => by simp [anB]
  | n + 1 => by
    simp only [anB, Bool.or_eq_true, anB_true p n]
    constructor
    · rintro (⟨k, h1, h2⟩ | h)
      · exact ⟨k, by omega, h2⟩
      · exact ⟨n, by omega, h⟩
    · rintro ⟨k, h1, h2⟩
      by_cases e : k = n
      · subst e
        exact Or.inr h2
      · exact Or.inl ⟨k, by omega, h2⟩
theorem anB_cong {p q : Nat → Bool} : ∀ {n : Nat}, (∀ k, k < n → p k = q k) → anB p n = anB q n
  | 0, _ => rfl
  | n + 1, h => by
    simp only [anB]
    rw [anB_cong (fun k hk => h k (by omega)), h n (by omega)]
/-- the leaders told for event e, as a number -/
def sN (F : Nat → Nat → Int32) (e : Nat) : Nat := (F 28 e).toNatClampNeg
def SN (F : Nat → Nat → Int32) (n : Nat) : Prop := ∀ e, e < n → F 28 e = nI (sN F e) ∧ sN F e < 256
def bsB (F : Nat → Nat → Int32) (l e : Nat) (k : Nat) : Bool := !decide (k = e) && (sN F k).testBit l && meB F k e
def clr (s l : Nat) : Nat := if s.testBit l then s - 2 ^ l else s
def setb (s l : Nat) : Nat := s ||| 2 ^ l
theorem clr_ok : ∀ s, s < 256 → ∀ l, l < 8 → nI s &&& (((1 : Int32) <<< (nI l &&& 31)) ^^^ (-1 : Int32)) = nI (clr s l) ∧ clr s l < 256 := by decide +kernel
theorem setb_ok : ∀ s, s < 256 → ∀ l, l < 8 → nI s ||| ((1 : Int32) <<< (nI l &&& 31)) = nI (setb s l) ∧ setb s l < 256 := by decide +kernel
theorem bit_iff {s k : Nat} (hs : s < 2 ^ 31) (hk : k < 32) : ((nI s >>> (nI k &&& 31)) &&& 1 = (1 : Int32)) ↔ s.testBit k = true := by
  rw [bit_nI hs hk]
  unfold bN
  cases s.testBit k <;> decide
theorem bI1 (b : Bool) : bI b = 1 ↔ b = true := by cases b <;> decide
end MREST
/-! THE REFERENCE: badges -/
section MBADGE
variable {B : Hp} {m : Nat} {ad tg : Nat → Nat} {D : Nat → Int32} {F : Nat → Nat → Int32} {Q : Int32 → Hp → Prop} {S : Hp}
theorem ixe {x : Int32} {N : Nat} (h : isIx x N) (hN : N < 2 ^ 31) : x = nI x.toNatClampNeg ∧ x.toNatClampNeg < N := by
  obtain ⟨j, hj, rfl⟩ := h
  rw [nIc (by omega)]
  exact ⟨rfl, hj⟩
theorem bit_ix {x : Int32} {N k : Nat} (h : isIx x N) (hN : N < 2 ^ 31) (hk : k < 32) : ((x >>> (nI k &&& 31)) &&& 1 = (1 : Int32)) ↔ x.toNatClampNeg.testBit k = true := by
  obtain ⟨e, h2⟩ := ixe h hN
  have := bit_iff (s := x.toNatClampNeg) (k := k) (by omega) hk
  rw [← e] at this
  exact this
/-- the day of a proof, 100000 without -/
def pd (F : Nat → Nat → Int32) (c k : Nat) : Nat := if F 16 (16 * c + k) = -1 then 100000 else (F 16 (16 * c + k)).toNatClampNeg
def PRc (F : Nat → Nat → Int32) (c : Nat) : Prop := ∀ k, k < 16 → F 16 (16 * c + k) = -1 ∨ isIx (F 16 (16 * c + k)) 10000
theorem pd_le {F : Nat → Nat → Int32} {c k : Nat} (h : PRc F c) (hk : k < 16) : pd F c k ≤ 100000 := by
  unfold pd
  rcases h k hk with e | e
  · simp [e]
  · have := (ixe e (by decide)).2
    split <;> omega
theorem pix16 {c k : Nat} : (16 : Int32) * nI c + nI k = nI (16 * c + k) := by
  rw [show (16 : Int32) = nI 16 from rfl, nI_mul, nI_add]
/-- how many of a set were proven by day t -/
def cnD (p : Nat → Nat) (s t : Nat) : Nat → Nat := ct (fun i => s.testBit i && decide (p i ≤ t))
def dst (p : Nat → Nat) (s n f k : Nat) : Nat := if s.testBit k = true ∧ n ≤ cnD p s (p k) 16 ∧ p k < f then p k else f
def dmT (p : Nat → Nat) (s n : Nat) : Nat → Nat
  | 0 => if n = 0 then 0 else 100000
  | k + 1 => if n = 0 then dmT p s n k else dst p s n (dmT p s n k) k
theorem dmT_le (p : Nat → Nat) (s n : Nat) : ∀ k, dmT p s n k ≤ 100000
  | 0 => by
    unfold dmT
    split <;> omega
  | k + 1 => by
    have := dmT_le p s n k
    unfold dmT dst
    split
    · exact this
    · split <;> omega
theorem cnD_le (p : Nat → Nat) (s t n : Nat) : cnD p s t n ≤ n := ct_le _ n
theorem dmT_0 (p : Nat → Nat) (s : Nat) : ∀ k, dmT p s 0 k = 0
  | 0 => rfl
  | k + 1 => by
    unfold dmT
    rw [if_pos rfl]
    exact dmT_0 p s k
/-- the latest proof of a set -/
def mxN (p : Nat → Nat) (s d : Nat) : Nat → Nat
  | 0 => d
  | k + 1 => if s.testBit k then max (mxN p s d k) (p k) else mxN p s d k
theorem mxN_le {p : Nat → Nat} {s d : Nat} (hd : d ≤ 100000) : ∀ k, (∀ i, i < k → p i ≤ 100000) → mxN p s d k ≤ 100000
  | 0, _ => hd
  | k + 1, h => by
    have := mxN_le (s := s) hd k (fun i hi => h i (by omega))
    have := h k (by omega)
    unfold mxN
    split <;> omega
def eAt (F : Nat → Nat → Int32) (c b : Nat) : Nat := 18 * b + 6 * (F 18 (8 * c + b)).toNatClampNeg
/-- the day of badge b of child c, by the days T of those with lower numbers -/
def dayv (F : Nat → Nat → Int32) (c b : Nat) (T : Nat → Nat) : Nat :=
  if F 17 (8 * c + b) = -1 then 100000
  else min 100000 (if F 24 (eAt F c b + 3) = -1 then max (mxN (pd F c) (F 24 (eAt F c b)).toNatClampNeg (F 17 (8 * c + b)).toNatClampNeg 16) (dmT (pd F c) (F 24 (eAt F c b + 1)).toNatClampNeg (F 24 (eAt F c b + 2)).toNatClampNeg 16)
    else max (max (mxN (pd F c) (F 24 (eAt F c b)).toNatClampNeg (F 17 (8 * c + b)).toNatClampNeg 16) (dmT (pd F c) (F 24 (eAt F c b + 1)).toNatClampNeg (F 24 (eAt F c b + 2)).toNatClampNeg 16)) (T (F 24 (eAt F c b + 3)).toNatClampNeg + (F 24 (eAt F c b + 4)).toNatClampNeg))
def dyT (F : Nat → Nat → Int32) (c : Nat) : Nat → Nat → Nat
  | 0 => fun _ => 100000
  | k + 1 => fun b => if b = k then dayv F c k (dyT F c k) else dyT F c k b
/-- an edition, of badge b, whose numbers lie at a -/
def EV (F : Nat → Nat → Int32) (b a : Nat) : Prop := isIx (F 24 a) 65536 ∧ isIx (F 24 (a + 1)) 65536 ∧ isIx (F 24 (a + 2)) 17 ∧ (F 24 (a + 3) = -1 ∨ isIx (F 24 (a + 3)) b ∧ isIx (F 24 (a + 4)) 401) ∧ isIx (F 24 (a + 5)) 4001 ∧ (F 24 a).toNatClampNeg &&& (F 24 (a + 1)).toNatClampNeg = 0
def CoV (F : Nat → Nat → Int32) (c : Nat) : Prop := ∀ b, b < 8 → isIx (F 18 (8 * c + b)) 3 ∧ (F 17 (8 * c + b) = -1 ∨ isIx (F 17 (8 * c + b)) 10000 ∧ EV F b (eAt F c b))
theorem dayv_le (F : Nat → Nat → Int32) (c b : Nat) (T : Nat → Nat) : dayv F c b T ≤ 100000 := by
  unfold dayv
  split <;> omega
theorem dyT_le (F : Nat → Nat → Int32) (c : Nat) : ∀ k b, dyT F c k b ≤ 100000
  | 0, b => Nat.le_refl _
  | k + 1, b => by
    show (if b = k then _ else _) ≤ _
    split
    · exact dayv_le _ _ _ _
    · exact dyT_le F c k b
/-- the days found of badges below k -/
def daF (F : Nat → Nat → Int32) (c k : Nat) : Nat → Nat → Int32 := fun j i => if j = 25 ∧ i < k then nI (dyT F c k i) else F j i
theorem daF_ne (F : Nat → Nat → Int32) (c k j : Nat) (h : j ≠ 25) : daF F c k j = F j := by
  funext i
  simp [daF, h]
theorem dyT_ge (F : Nat → Nat → Int32) (c : Nat) : ∀ k b, k ≤ b → dyT F c (k + 1) b = if b = k then dayv F c k (dyT F c k) else dyT F c k b := fun _ _ _ => rfl
theorem daF_succ (F : Nat → Nat → Int32) (c k : Nat) (G : Nat → Nat → Int32) (hG : G = daF F c k ∨ G = g_2 (daF F c k) 25 k 100000) : g_2 G 25 k (nI (dayv F c k (dyT F c k))) = daF F c (k + 1) := by
  funext j i
  by_cases hj : j = 25
  · subst hj
    by_cases hi : i = k
    · subst hi
      simp [g_2, daF, dyT]
    · have e1 : g_2 G 25 k (nI (dayv F c k (dyT F c k))) 25 i = daF F c k 25 i := by
        rcases hG with e | e <;> rw [e] <;> simp [g_2, hi]
      rw [e1]
      by_cases h2 : i < k
      · have h3 : i < k + 1 := by omega
        simp [daF, h2, h3, dyT, hi]
      · have h3 : ¬ i < k + 1 := by omega
        simp [daF, h2, h3]
  · rcases hG with e | e <;> rw [e] <;> simp [g_2, daF, hj]
/-- badges earned by day t -/
def eaN (F : Nat → Nat → Int32) (c t : Nat) : Nat → Nat := ct (fun b => decide (dyT F c 8 b ≤ t))
end MBADGE
/-! THE REFERENCE: prove, ofChild, earned, holds, lacks, why -/
section MMORE
variable {B : Hp} {m : Nat} {ad tg : Nat → Nat} {D : Nat → Int32} {F : Nat → Nat → Int32} {Q : Int32 → Hp → Prop} {S : Hp}
theorem eAt_eq {F : Nat → Nat → Int32} {c b : Nat} (h : isIx (F 18 (8 * c + b)) 3) : (18 : Int32) * nI b + 6 * F 18 (8 * c + b) = nI (eAt F c b) := by
  obtain ⟨j, hj, e⟩ := h
  unfold eAt
  rw [e, eix, nIc (by omega)]
/-- badge b of child c is held on day d -/
def hoB (F : Nat → Nat → Int32) (c b d : Nat) : Bool := decide (dyT F c 8 b ≤ d) && (decide (F 24 (eAt F c b + 5) = 0) || !decide (nI (dyT F c 8 b) + F 24 (eAt F c b + 5) ≤ nI d))
/-- the skills of a set that a child lacks -/
def lkN (F : Nat → Nat → Int32) (c s : Nat) : Nat → Nat
  | 0 => 0
  | k + 1 => if s.testBit k = true ∧ F 16 (16 * c + k) = -1 then lkN F c s k ||| 2 ^ k else lkN F c s k
theorem lkN_lt (F : Nat → Nat → Int32) (c s : Nat) : ∀ k, lkN F c s k < 2 ^ k
  | 0 => by
    show 0 < 1
    omega
  | k + 1 => by
    have h := lkN_lt F c s k
    have h2 : 2 ^ k < 2 ^ (k + 1) := Nat.pow_lt_pow_right (by decide) (by omega)
    unfold lkN
    split
    · exact Nat.or_lt_two_pow (by omega) h2
    · omega
theorem sh1 : ∀ k, k < 31 → (1 : Int32) <<< (nI k &&& 31) = nI (2 ^ k) := by decide +kernel
/-! why -/
def rtN (k : Nat) : Nat := if k = 0 then 8 else if k = 1 then 4 else if k = 2 then 3 else 6
def evN (F : Nat → Nat → Int32) (e j : Nat) : Nat := (F 27 (6 * e + j)).toNatClampNeg
def unB (F : Nat → Nat → Int32) (e s l : Nat) : Bool := s.testBit l && !veB F l (evN F e 1) (F 27 (6 * e + 3))
def peB (F : Nat → Nat → Int32) (e s l : Nat) : Bool := s.testBit l && !decide (F 21 (3 * l + evN F e 2 - 1) < F 27 (6 * e + 3))
/-- how event e is by the leaders s -/
def rsT (F : Nat → Nat → Int32) (n nl e s : Nat) : Int32 := if anB (unB F e s) nl then 2 else if (decide (evN F e 2 = 0) || anB (peB F e s) nl) = false then 3 else if inT F n (F 27 (6 * e)) = 1 ∧ pop s 16 = 1 then 4 else 0
def rsn (F : Nat → Nat → Int32) (n nl e s : Nat) : Int32 := if inT F n (F 27 (6 * e)) = 0 then 0 else if pop s 16 * rtN (evN F e 2) < inT F n (F 27 (6 * e)) then 1 else rsT F n nl e s
/-- an event's numbers -/
def EvV (F : Nat → Nat → Int32) (e : Nat) : Prop := isIx (F 27 (6 * e + 1)) 3 ∧ isIx (F 27 (6 * e + 2)) 4
end MMORE
/-! THE REFERENCE: couldStaff -/
section MCOULD
variable {B : Hp} {m : Nat} {ad tg : Nat → Nat} {D : Nat → Int32} {F : Nat → Nat → Int32} {Q : Int32 → Hp → Prop} {S : Hp}
/-- the same but for rows 29, 30 -/
def sm2 (F G : Nat → Nat → Int32) : Prop := ∀ j, j ≠ 29 → j ≠ 30 → G j = F j
theorem sm2_g (F G : Nat → Nat → Int32) {i : Nat} {v : Int32} (h : sm2 F G) : sm2 F (g_2 G 30 i v) := fun j h1 h2 => by
  rw [← h j h1 h2]
  funext a
  exact g_2n _ _ (fun q => h2 q.1)
theorem sm2_g2 (F G : Nat → Nat → Int32) {i : Nat} {v : Int32} (h : sm2 F G) : sm2 F (g_2 G 29 i v) := fun j h1 h2 => by
  rw [← h j h1 h2]
  funext a
  exact g_2n _ _ (fun q => h1 q.1)
theorem rsn_sm {F G : Nat → Nat → Int32} (h : sm2 F G) (n nl e s : Nat) : rsn G n nl e s = rsn F n nl e s := by
  have h7 : G 7 = F 7 := h 7 (by decide) (by decide)
  have h20 : G 20 = F 20 := h 20 (by decide) (by decide)
  have h21 : G 21 = F 21 := h 21 (by decide) (by decide)
  have h27 : G 27 = F 27 := h 27 (by decide) (by decide)
  have u : unB G e s = unB F e s := by
    funext l
    unfold unB veB evN
    rw [h27, h20]
  have p : peB G e s = peB F e s := by
    funext l
    unfold peB evN
    rw [h27, h21]
  unfold rsn rsT inT evN
  rw [u, p, h7, h27]
theorem EvV_sm {F G : Nat → Nat → Int32} (h : sm2 F G) {e : Nat} (hV : EvV F e) : EvV G e := by
  have h27 : G 27 = F 27 := h 27 (by decide) (by decide)
  unfold EvV
  rw [h27]
  exact hV
/-- the leaders of s from l on are given to teams, by the digits of T -/
def gvS (mm s : Nat) : Nat → Nat → Nat → (Nat → Nat) → Nat → Nat
  | 0, _, _, tab => tab
  | f + 1, l, T, tab => if s.testBit l then gvS mm s f (l + 1) (T / (mm + 1)) (fun k => if k = T % (mm + 1) then tab k ||| 2 ^ l else tab k) else gvS mm s f (l + 1) T tab
/-- whether all teams do -/
def alB (p : Nat → Bool) : Nat → Bool
  | 0 => true
  | k + 1 => alB p k && p k
theorem alB_true (p : Nat → Bool) : ∀ n, alB p n = true ↔ ∀ k, k < n → p k = true
  | 0 => by simp [alB]
  | n + 1 => by
    simp only [alB, Bool.and_eq_true, alB_true p n]
    constructor
    · rintro ⟨h1, h2⟩ k hk
      by_cases e : k = n
      · subst e; exact h2
      · exact h1 k (by omega)
    · intro h
      exact ⟨fun k hk => h k (by omega), h n (by omega)⟩
def lawB (F : Nat → Nat → Int32) (n nl mm s : Nat) (go : Nat → Nat) (T : Nat) : Bool := alB (fun k => decide (rsn F n nl (go k) (gvS mm s nl 0 T (fun _ => 0) k) = 0)) mm
theorem gvS_lt (mm s : Nat) : ∀ (f l T : Nat) (tab : Nat → Nat), l + f ≤ 31 → (∀ k, tab k < 2 ^ 31) → ∀ k, gvS mm s f l T tab k < 2 ^ 31
  | 0, _, _, _, _, h, k => h k
  | f + 1, l, T, tab, hl, h, k => by
    unfold gvS
    split
    · refine gvS_lt mm s f (l + 1) _ _ (by omega) (fun j => ?_) k
      show (if _ then _ else _) < _
      split
      · exact Nat.or_lt_two_pow (h j) (Nat.pow_lt_pow_right (by decide) (by omega))
      · exact h j
    · exact gvS_lt mm s f (l + 1) _ _ (by omega) h k
/-- event e goes on in an hour -/
def goB (F : Nat → Nat → Int32) (a h : Int32) (e : Nat) : Bool := decide (F 27 (6 * e + 3) = a) && (!decide (h < F 27 (6 * e + 4)) && !decide (F 27 (6 * e + 4) + F 27 (6 * e + 5) - 1 < h))
def goL (p : Nat → Bool) : Nat → List Nat
  | 0 => []
  | e + 1 => if p e then goL p e ++ [e] else goL p e
theorem goL_len (p : Nat → Bool) : ∀ e, (goL p e).length ≤ e
  | 0 => Nat.le_refl _
  | e + 1 => by
    have := goL_len p e
    unfold goL
    split
    · rw [List.length_append, List.length_singleton]; omega
    · omega
theorem goL_mem (p : Nat → Bool) : ∀ e x, x ∈ goL p e → x < e ∧ p x = true
  | 0, x, h => by simp [goL] at h
  | e + 1, x, h => by
    unfold goL at h
    split at h
    · rcases List.mem_append.mp h with q | q
      · have := goL_mem p e x q
        exact ⟨by omega, this.2⟩
      · rw [List.mem_singleton] at q
        subst q
        exact ⟨by omega, by assumption⟩
    · have := goL_mem p e x h
      exact ⟨by omega, this.2⟩
theorem g2_self (G : Nat → Nat → Int32) (j i : Nat) : g_2 G j i (G j i) = G := by
  funext a b
  by_cases h : a = j ∧ b = i
  · obtain ⟨rfl, rfl⟩ := h
    exact g_2s _ _ _ _
  · exact g_2n _ _ h
/-- row 29 holds the first three events that go on -/
def gr29 (G : Nat → Nat → Int32) (L : List Nat) : Prop := ∀ k x, k < 3 → L[k]? = some x → G 29 k = nI x
/-- the events that go on -/
def goS (F : Nat → Nat → Int32) (a h : Int32) (ne : Nat) : List Nat := goL (goB F a h) ne
end MCOULD
/-! THE REFERENCE: its constructor -/
section MINIT
variable {B : Hp} {m : Nat} {ad tg : Nat → Nat} {D : Nat → Int32} {F : Nat → Nat → Int32} {Q : Hp → Prop}
def tgF (ks : List Nat) (ad : Nat → Nat) (a : Nat) : Nat := match ks with
  | [] => 0
  | k :: l => if ad k = a then k else tgF l ad a
theorem tgF_in (ad : Nat → Nat) (a : Nat) : ∀ ks, tgF ks ad a ≠ 0 → tgF ks ad a ∈ ks ∧ a = ad (tgF ks ad a)
  | [], h => absurd rfl h
  | k :: l, h => by
    unfold tgF at h ⊢
    by_cases e : ad k = a
    · rw [if_pos e]
      exact ⟨List.mem_cons_self, e.symm⟩
    · rw [if_neg e] at h ⊢
      obtain ⟨h1, h2⟩ := tgF_in ad a l h
      exact ⟨List.mem_cons_of_mem _ h1, h2⟩
theorem tgF_at (ad : Nat → Nat) : ∀ ks, (∀ j ∈ ks, ∀ k ∈ ks, ad j = ad k → j = k) → ∀ j ∈ ks, tgF ks ad (ad j) = j
  | [], _, j, hj => nomatch hj
  | k :: l, h, j, hj => by
    unfold tgF
    by_cases e : ad k = ad j
    · rw [if_pos e]
      exact h k List.mem_cons_self j hj e
    · rw [if_neg e]
      refine tgF_at ad l (fun a ha b hb => h a (List.mem_cons_of_mem _ ha) b (List.mem_cons_of_mem _ hb)) j ?_
      rcases List.mem_cons.mp hj with q | q
      · exact absurd (by rw [q]) e
      · exact q
/-- row j filled below k -/
def fil (F : Nat → Nat → Int32) (j : Nat) (v : Nat → Int32) (k : Nat) : Nat → Nat → Int32 := fun a i => if a = j ∧ i < k then v i else F a i
theorem fil_0 (F : Nat → Nat → Int32) (j : Nat) (v : Nat → Int32) : fil F j v 0 = F := by
  funext a i
  simp [fil]
theorem fil_s (F : Nat → Nat → Int32) (j : Nat) (v : Nat → Int32) (k : Nat) : g_2 (fil F j v k) j k (v k) = fil F j v (k + 1) := by
  funext a i
  by_cases ha : a = j
  · by_cases hi : i = k
    · subst hi
      simp [g_2, fil, ha]
    · have e : (i < k + 1) = (i < k) := propext (by omega)
      simp [g_2, fil, ha, hi, e]
  · simp [g_2, fil, ha]
def a01 (i : Nat) : Int32 := if i % 2 = 0 then 1 else 0
/-- the rows of a new movement -/
def F00 : Nat → Nat → Int32 := fil (fil (fil (fil (fun _ _ => 0) 16 (fun _ => -1) 384) 17 (fun _ => -1) 192) 20 a01 48) 21 (fun _ => -1) 24
end MINIT
