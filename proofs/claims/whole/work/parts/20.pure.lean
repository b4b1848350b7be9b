/-! PURE PART: the reference's heap in one form: base B, object m, arrays ad j (tagged tg), ints D, rows F -/
def lM (j : Nat) : Nat := match j with
  | 2 => 6
  | 3 => 6
  | 4 => 6
  | 6 => 24
  | 7 => 24
  | 8 => 24
  | 9 => 24
  | 11 => 24
  | 12 => 24
  | 13 => 24
  | 14 => 24
  | 15 => 24
  | 16 => 384
  | 17 => 192
  | 18 => 192
  | 20 => 48
  | 21 => 24
  | 22 => 8
  | 23 => 8
  | 24 => 144
  | 25 => 8
  | 27 => 120
  | 28 => 20
  | 29 => 4
  | 30 => 4
  | _ => 0
def kM (j : Nat) : Nat := if j = 15 then 12 else 11
def arrs : List Nat := [2, 3, 4, 6, 7, 8, 9, 11, 12, 13, 14, 15, 16, 17, 18, 20, 21, 22, 23, 24, 25, 27, 28, 29, 30]
def upD (D : Nat → Int32) (j : Nat) (v : Int32) : Nat → Int32 := fun k => if k = j then v else D k
def mS (B : Hp) (m : Nat) (tg : Nat → Nat) (D : Nat → Int32) (F : Nat → Nat → Int32) : Hp :=
  (g_L B, g_K B, (fun n a => if a = m ∧ 900 ≤ n then D (n - 900) else g_I B n a), g_P B, g_N B, (fun a i => if tg a = 0 then g_R B a i else F (tg a) i), g_O B, g_T B)
def BM (B : Hp) (m : Nat) (ad tg : Nat → Nat) : Prop :=
  okA B 9 m ∧ (∀ j ∈ arrs, g_P B (900 + j) m = some (ad j) ∧ okA B (kM j) (ad j) ∧ g_N B (ad j) = lM j ∧ tg (ad j) = j) ∧ ∀ a, tg a ≠ 0 → a = ad (tg a)
section MB
variable {B : Hp} {m : Nat} {ad tg : Nat → Nat} {D : Nat → Int32} {F : Nat → Nat → Int32}
theorem m_ok (hB : BM B m ad tg) : okA (mS B m tg D F) 9 m := hB.1
theorem m_rd (hB : BM B m ad tg) (j : Nat) (hj : j ∈ arrs) {κ n : Nat} (hκ : kM j = κ) (hn : 900 + j = n) {P : Nat → Prop} : rd (mS B m tg D F) κ (g_P (mS B m tg D F) n m) P = P (ad j) := by
  obtain ⟨h1, h2, -, -⟩ := hB.2.1 j hj
  subst hκ
  subst hn
  refine propext ⟨fun h => ?_, fun h => ⟨ad j, h1, h2, h⟩⟩
  obtain ⟨a, e, -, h⟩ := h
  have e2 : some (ad j) = some a := h1.symm.trans e
  cases e2
  exact h
theorem m_N (hB : BM B m ad tg) (j : Nat) (hj : j ∈ arrs) {N : Nat} (hN : lM j = N) : g_N (mS B m tg D F) (ad j) = N := (hB.2.1 j hj).2.2.1.trans hN
theorem m_R (hB : BM B m ad tg) (j : Nat) (hj : j ∈ arrs) (h0 : j ≠ 0) : g_R (mS B m tg D F) (ad j) = F j := by
  have h := (hB.2.1 j hj).2.2.2
  funext i
  show (if tg (ad j) = 0 then _ else F (tg (ad j)) i) = _
  rw [h, if_neg h0]
theorem m_sR (hB : BM B m ad tg) (j : Nat) (hj : j ∈ arrs) (h0 : j ≠ 0) {i : Nat} {v : Int32} : s_R (mS B m tg D F) (ad j) i v = mS B m tg D (g_2 F j i v) := by
  have h := (hB.2.1 j hj).2.2.2
  have e : g_2 (g_R (mS B m tg D F)) (ad j) i v = g_R (mS B m tg D (g_2 F j i v)) := by
    funext a k
    show (if a = ad j ∧ k = i then v else if tg a = 0 then g_R B a k else F (tg a) k) = (if tg a = 0 then g_R B a k else if tg a = j ∧ k = i then v else F (tg a) k)
    by_cases ea : a = ad j
    · subst ea
      rw [h]
      simp [h0]
    · by_cases et : tg a = 0
      · simp [ea, et]
      · have : tg a ≠ j := fun q => ea (by rw [hB.2.2 a et, q])
        simp [ea, et, this]
  show (g_L B, g_K B, _, g_P B, g_N B, g_2 (g_R (mS B m tg D F)) (ad j) i v, g_O B, g_T B) = _
  rw [e]
  rfl
theorem m_I {n : Nat} (h : 900 ≤ n) : g_I (mS B m tg D F) n m = D (n - 900) := by
  show (if m = m ∧ 900 ≤ n then D (n - 900) else _) = _
  rw [if_pos ⟨rfl, h⟩]
theorem m_sI {n : Nat} (h : 900 ≤ n) {v : Int32} : s_I (mS B m tg D F) n m v = mS B m tg (upD D (n - 900) v) F := by
  have e : g_2 (g_I (mS B m tg D F)) n m v = g_I (mS B m tg (upD D (n - 900) v) F) := by
    funext k a
    show (if k = n ∧ a = m then v else if a = m ∧ 900 ≤ k then D (k - 900) else g_I B k a) = (if a = m ∧ 900 ≤ k then (if k - 900 = n - 900 then v else D (k - 900)) else g_I B k a)
    by_cases ea : a = m
    · subst ea
      by_cases ek : 900 ≤ k
      · by_cases e2 : k = n
        · simp [e2, h]
        · have : ¬ k - 900 = n - 900 := by omega
          simp [e2, ek, this]
      · have : ¬ k = n := by omega
        simp [ek, this]
    · simp [ea]
  show (g_L B, g_K B, g_2 (g_I (mS B m tg D F)) n m v, g_P B, g_N B, _, g_O B, g_T B) = _
  rw [e]
  rfl
theorem m_rd2 (hB : BM B m ad tg) {P : Nat → Prop} : rd (mS B m tg D F) 11 (g_P (mS B m tg D F) 902 m) P = P (ad 2) := m_rd hB 2 (by decide) rfl rfl
theorem m_N2 (hB : BM B m ad tg) : g_N (mS B m tg D F) (ad 2) = 6 := m_N hB 2 (by decide) rfl
theorem m_R2 (hB : BM B m ad tg) : g_R (mS B m tg D F) (ad 2) = F 2 := m_R hB 2 (by decide) (by decide)
theorem m_sR2 (hB : BM B m ad tg) {i : Nat} {v : Int32} : s_R (mS B m tg D F) (ad 2) i v = mS B m tg D (g_2 F 2 i v) := m_sR hB 2 (by decide) (by decide)
theorem m_rd3 (hB : BM B m ad tg) {P : Nat → Prop} : rd (mS B m tg D F) 11 (g_P (mS B m tg D F) 903 m) P = P (ad 3) := m_rd hB 3 (by decide) rfl rfl
theorem m_N3 (hB : BM B m ad tg) : g_N (mS B m tg D F) (ad 3) = 6 := m_N hB 3 (by decide) rfl
theorem m_R3 (hB : BM B m ad tg) : g_R (mS B m tg D F) (ad 3) = F 3 := m_R hB 3 (by decide) (by decide)
theorem m_sR3 (hB : BM B m ad tg) {i : Nat} {v : Int32} : s_R (mS B m tg D F) (ad 3) i v = mS B m tg D (g_2 F 3 i v) := m_sR hB 3 (by decide) (by decide)
theorem m_rd4 (hB : BM B m ad tg) {P : Nat → Prop} : rd (mS B m tg D F) 11 (g_P (mS B m tg D F) 904 m) P = P (ad 4) := m_rd hB 4 (by decide) rfl rfl
theorem m_N4 (hB : BM B m ad tg) : g_N (mS B m tg D F) (ad 4) = 6 := m_N hB 4 (by decide) rfl
theorem m_R4 (hB : BM B m ad tg) : g_R (mS B m tg D F) (ad 4) = F 4 := m_R hB 4 (by decide) (by decide)
theorem m_sR4 (hB : BM B m ad tg) {i : Nat} {v : Int32} : s_R (mS B m tg D F) (ad 4) i v = mS B m tg D (g_2 F 4 i v) := m_sR hB 4 (by decide) (by decide)
theorem m_rd6 (hB : BM B m ad tg) {P : Nat → Prop} : rd (mS B m tg D F) 11 (g_P (mS B m tg D F) 906 m) P = P (ad 6) := m_rd hB 6 (by decide) rfl rfl
theorem m_N6 (hB : BM B m ad tg) : g_N (mS B m tg D F) (ad 6) = 24 := m_N hB 6 (by decide) rfl
theorem m_R6 (hB : BM B m ad tg) : g_R (mS B m tg D F) (ad 6) = F 6 := m_R hB 6 (by decide) (by decide)
theorem m_sR6 (hB : BM B m ad tg) {i : Nat} {v : Int32} : s_R (mS B m tg D F) (ad 6) i v = mS B m tg D (g_2 F 6 i v) := m_sR hB 6 (by decide) (by decide)
theorem m_rd7 (hB : BM B m ad tg) {P : Nat → Prop} : rd (mS B m tg D F) 11 (g_P (mS B m tg D F) 907 m) P = P (ad 7) := m_rd hB 7 (by decide) rfl rfl
theorem m_N7 (hB : BM B m ad tg) : g_N (mS B m tg D F) (ad 7) = 24 := m_N hB 7 (by decide) rfl
theorem m_R7 (hB : BM B m ad tg) : g_R (mS B m tg D F) (ad 7) = F 7 := m_R hB 7 (by decide) (by decide)
theorem m_sR7 (hB : BM B m ad tg) {i : Nat} {v : Int32} : s_R (mS B m tg D F) (ad 7) i v = mS B m tg D (g_2 F 7 i v) := m_sR hB 7 (by decide) (by decide)
theorem m_rd8 (hB : BM B m ad tg) {P : Nat → Prop} : rd (mS B m tg D F) 11 (g_P (mS B m tg D F) 908 m) P = P (ad 8) := m_rd hB 8 (by decide) rfl rfl
theorem m_N8 (hB : BM B m ad tg) : g_N (mS B m tg D F) (ad 8) = 24 := m_N hB 8 (by decide) rfl
theorem m_R8 (hB : BM B m ad tg) : g_R (mS B m tg D F) (ad 8) = F 8 := m_R hB 8 (by decide) (by decide)
theorem m_sR8 (hB : BM B m ad tg) {i : Nat} {v : Int32} : s_R (mS B m tg D F) (ad 8) i v = mS B m tg D (g_2 F 8 i v) := m_sR hB 8 (by decide) (by decide)
theorem m_rd9 (hB : BM B m ad tg) {P : Nat → Prop} : rd (mS B m tg D F) 11 (g_P (mS B m tg D F) 909 m) P = P (ad 9) := m_rd hB 9 (by decide) rfl rfl
theorem m_N9 (hB : BM B m ad tg) : g_N (mS B m tg D F) (ad 9) = 24 := m_N hB 9 (by decide) rfl
theorem m_R9 (hB : BM B m ad tg) : g_R (mS B m tg D F) (ad 9) = F 9 := m_R hB 9 (by decide) (by decide)
theorem m_sR9 (hB : BM B m ad tg) {i : Nat} {v : Int32} : s_R (mS B m tg D F) (ad 9) i v = mS B m tg D (g_2 F 9 i v) := m_sR hB 9 (by decide) (by decide)
theorem m_rd11 (hB : BM B m ad tg) {P : Nat → Prop} : rd (mS B m tg D F) 11 (g_P (mS B m tg D F) 911 m) P = P (ad 11) := m_rd hB 11 (by decide) rfl rfl
theorem m_N11 (hB : BM B m ad tg) : g_N (mS B m tg D F) (ad 11) = 24 := m_N hB 11 (by decide) rfl
theorem m_R11 (hB : BM B m ad tg) : g_R (mS B m tg D F) (ad 11) = F 11 := m_R hB 11 (by decide) (by decide)
theorem m_sR11 (hB : BM B m ad tg) {i : Nat} {v : Int32} : s_R (mS B m tg D F) (ad 11) i v = mS B m tg D (g_2 F 11 i v) := m_sR hB 11 (by decide) (by decide)
theorem m_rd12 (hB : BM B m ad tg) {P : Nat → Prop} : rd (mS B m tg D F) 11 (g_P (mS B m tg D F) 912 m) P = P (ad 12) := m_rd hB 12 (by decide) rfl rfl
theorem m_N12 (hB : BM B m ad tg) : g_N (mS B m tg D F) (ad 12) = 24 := m_N hB 12 (by decide) rfl
theorem m_R12 (hB : BM B m ad tg) : g_R (mS B m tg D F) (ad 12) = F 12 := m_R hB 12 (by decide) (by decide)
theorem m_sR12 (hB : BM B m ad tg) {i : Nat} {v : Int32} : s_R (mS B m tg D F) (ad 12) i v = mS B m tg D (g_2 F 12 i v) := m_sR hB 12 (by decide) (by decide)
theorem m_rd13 (hB : BM B m ad tg) {P : Nat → Prop} : rd (mS B m tg D F) 11 (g_P (mS B m tg D F) 913 m) P = P (ad 13) := m_rd hB 13 (by decide) rfl rfl
theorem m_N13 (hB : BM B m ad tg) : g_N (mS B m tg D F) (ad 13) = 24 := m_N hB 13 (by decide) rfl
theorem m_R13 (hB : BM B m ad tg) : g_R (mS B m tg D F) (ad 13) = F 13 := m_R hB 13 (by decide) (by decide)
theorem m_sR13 (hB : BM B m ad tg) {i : Nat} {v : Int32} : s_R (mS B m tg D F) (ad 13) i v = mS B m tg D (g_2 F 13 i v) := m_sR hB 13 (by decide) (by decide)
theorem m_rd14 (hB : BM B m ad tg) {P : Nat → Prop} : rd (mS B m tg D F) 11 (g_P (mS B m tg D F) 914 m) P = P (ad 14) := m_rd hB 14 (by decide) rfl rfl
theorem m_N14 (hB : BM B m ad tg) : g_N (mS B m tg D F) (ad 14) = 24 := m_N hB 14 (by decide) rfl
theorem m_R14 (hB : BM B m ad tg) : g_R (mS B m tg D F) (ad 14) = F 14 := m_R hB 14 (by decide) (by decide)
theorem m_sR14 (hB : BM B m ad tg) {i : Nat} {v : Int32} : s_R (mS B m tg D F) (ad 14) i v = mS B m tg D (g_2 F 14 i v) := m_sR hB 14 (by decide) (by decide)
theorem m_rd15 (hB : BM B m ad tg) {P : Nat → Prop} : rd (mS B m tg D F) 12 (g_P (mS B m tg D F) 915 m) P = P (ad 15) := m_rd hB 15 (by decide) rfl rfl
theorem m_N15 (hB : BM B m ad tg) : g_N (mS B m tg D F) (ad 15) = 24 := m_N hB 15 (by decide) rfl
theorem m_R15 (hB : BM B m ad tg) : g_R (mS B m tg D F) (ad 15) = F 15 := m_R hB 15 (by decide) (by decide)
theorem m_sR15 (hB : BM B m ad tg) {i : Nat} {v : Int32} : s_R (mS B m tg D F) (ad 15) i v = mS B m tg D (g_2 F 15 i v) := m_sR hB 15 (by decide) (by decide)
theorem m_rd16 (hB : BM B m ad tg) {P : Nat → Prop} : rd (mS B m tg D F) 11 (g_P (mS B m tg D F) 916 m) P = P (ad 16) := m_rd hB 16 (by decide) rfl rfl
theorem m_N16 (hB : BM B m ad tg) : g_N (mS B m tg D F) (ad 16) = 384 := m_N hB 16 (by decide) rfl
theorem m_R16 (hB : BM B m ad tg) : g_R (mS B m tg D F) (ad 16) = F 16 := m_R hB 16 (by decide) (by decide)
theorem m_sR16 (hB : BM B m ad tg) {i : Nat} {v : Int32} : s_R (mS B m tg D F) (ad 16) i v = mS B m tg D (g_2 F 16 i v) := m_sR hB 16 (by decide) (by decide)
theorem m_rd17 (hB : BM B m ad tg) {P : Nat → Prop} : rd (mS B m tg D F) 11 (g_P (mS B m tg D F) 917 m) P = P (ad 17) := m_rd hB 17 (by decide) rfl rfl
theorem m_N17 (hB : BM B m ad tg) : g_N (mS B m tg D F) (ad 17) = 192 := m_N hB 17 (by decide) rfl
theorem m_R17 (hB : BM B m ad tg) : g_R (mS B m tg D F) (ad 17) = F 17 := m_R hB 17 (by decide) (by decide)
theorem m_sR17 (hB : BM B m ad tg) {i : Nat} {v : Int32} : s_R (mS B m tg D F) (ad 17) i v = mS B m tg D (g_2 F 17 i v) := m_sR hB 17 (by decide) (by decide)
theorem m_rd18 (hB : BM B m ad tg) {P : Nat → Prop} : rd (mS B m tg D F) 11 (g_P (mS B m tg D F) 918 m) P = P (ad 18) := m_rd hB 18 (by decide) rfl rfl
theorem m_N18 (hB : BM B m ad tg) : g_N (mS B m tg D F) (ad 18) = 192 := m_N hB 18 (by decide) rfl
theorem m_R18 (hB : BM B m ad tg) : g_R (mS B m tg D F) (ad 18) = F 18 := m_R hB 18 (by decide) (by decide)
theorem m_sR18 (hB : BM B m ad tg) {i : Nat} {v : Int32} : s_R (mS B m tg D F) (ad 18) i v = mS B m tg D (g_2 F 18 i v) := m_sR hB 18 (by decide) (by decide)
theorem m_rd20 (hB : BM B m ad tg) {P : Nat → Prop} : rd (mS B m tg D F) 11 (g_P (mS B m tg D F) 920 m) P = P (ad 20) := m_rd hB 20 (by decide) rfl rfl
theorem m_N20 (hB : BM B m ad tg) : g_N (mS B m tg D F) (ad 20) = 48 := m_N hB 20 (by decide) rfl
theorem m_R20 (hB : BM B m ad tg) : g_R (mS B m tg D F) (ad 20) = F 20 := m_R hB 20 (by decide) (by decide)
theorem m_sR20 (hB : BM B m ad tg) {i : Nat} {v : Int32} : s_R (mS B m tg D F) (ad 20) i v = mS B m tg D (g_2 F 20 i v) := m_sR hB 20 (by decide) (by decide)
theorem m_rd21 (hB : BM B m ad tg) {P : Nat → Prop} : rd (mS B m tg D F) 11 (g_P (mS B m tg D F) 921 m) P = P (ad 21) := m_rd hB 21 (by decide) rfl rfl
theorem m_N21 (hB : BM B m ad tg) : g_N (mS B m tg D F) (ad 21) = 24 := m_N hB 21 (by decide) rfl
theorem m_R21 (hB : BM B m ad tg) : g_R (mS B m tg D F) (ad 21) = F 21 := m_R hB 21 (by decide) (by decide)
theorem m_sR21 (hB : BM B m ad tg) {i : Nat} {v : Int32} : s_R (mS B m tg D F) (ad 21) i v = mS B m tg D (g_2 F 21 i v) := m_sR hB 21 (by decide) (by decide)
theorem m_rd22 (hB : BM B m ad tg) {P : Nat → Prop} : rd (mS B m tg D F) 11 (g_P (mS B m tg D F) 922 m) P = P (ad 22) := m_rd hB 22 (by decide) rfl rfl
theorem m_N22 (hB : BM B m ad tg) : g_N (mS B m tg D F) (ad 22) = 8 := m_N hB 22 (by decide) rfl
theorem m_R22 (hB : BM B m ad tg) : g_R (mS B m tg D F) (ad 22) = F 22 := m_R hB 22 (by decide) (by decide)
theorem m_sR22 (hB : BM B m ad tg) {i : Nat} {v : Int32} : s_R (mS B m tg D F) (ad 22) i v = mS B m tg D (g_2 F 22 i v) := m_sR hB 22 (by decide) (by decide)
theorem m_rd23 (hB : BM B m ad tg) {P : Nat → Prop} : rd (mS B m tg D F) 11 (g_P (mS B m tg D F) 923 m) P = P (ad 23) := m_rd hB 23 (by decide) rfl rfl
theorem m_N23 (hB : BM B m ad tg) : g_N (mS B m tg D F) (ad 23) = 8 := m_N hB 23 (by decide) rfl
theorem m_R23 (hB : BM B m ad tg) : g_R (mS B m tg D F) (ad 23) = F 23 := m_R hB 23 (by decide) (by decide)
theorem m_sR23 (hB : BM B m ad tg) {i : Nat} {v : Int32} : s_R (mS B m tg D F) (ad 23) i v = mS B m tg D (g_2 F 23 i v) := m_sR hB 23 (by decide) (by decide)
theorem m_rd24 (hB : BM B m ad tg) {P : Nat → Prop} : rd (mS B m tg D F) 11 (g_P (mS B m tg D F) 924 m) P = P (ad 24) := m_rd hB 24 (by decide) rfl rfl
theorem m_N24 (hB : BM B m ad tg) : g_N (mS B m tg D F) (ad 24) = 144 := m_N hB 24 (by decide) rfl
theorem m_R24 (hB : BM B m ad tg) : g_R (mS B m tg D F) (ad 24) = F 24 := m_R hB 24 (by decide) (by decide)
theorem m_sR24 (hB : BM B m ad tg) {i : Nat} {v : Int32} : s_R (mS B m tg D F) (ad 24) i v = mS B m tg D (g_2 F 24 i v) := m_sR hB 24 (by decide) (by decide)
theorem m_rd25 (hB : BM B m ad tg) {P : Nat → Prop} : rd (mS B m tg D F) 11 (g_P (mS B m tg D F) 925 m) P = P (ad 25) := m_rd hB 25 (by decide) rfl rfl
theorem m_N25 (hB : BM B m ad tg) : g_N (mS B m tg D F) (ad 25) = 8 := m_N hB 25 (by decide) rfl
theorem m_R25 (hB : BM B m ad tg) : g_R (mS B m tg D F) (ad 25) = F 25 := m_R hB 25 (by decide) (by decide)
theorem m_sR25 (hB : BM B m ad tg) {i : Nat} {v : Int32} : s_R (mS B m tg D F) (ad 25) i v = mS B m tg D (g_2 F 25 i v) := m_sR hB 25 (by decide) (by decide)
theorem m_rd27 (hB : BM B m ad tg) {P : Nat → Prop} : rd (mS B m tg D F) 11 (g_P (mS B m tg D F) 927 m) P = P (ad 27) := m_rd hB 27 (by decide) rfl rfl
theorem m_N27 (hB : BM B m ad tg) : g_N (mS B m tg D F) (ad 27) = 120 := m_N hB 27 (by decide) rfl
theorem m_R27 (hB : BM B m ad tg) : g_R (mS B m tg D F) (ad 27) = F 27 := m_R hB 27 (by decide) (by decide)
theorem m_sR27 (hB : BM B m ad tg) {i : Nat} {v : Int32} : s_R (mS B m tg D F) (ad 27) i v = mS B m tg D (g_2 F 27 i v) := m_sR hB 27 (by decide) (by decide)
theorem m_rd28 (hB : BM B m ad tg) {P : Nat → Prop} : rd (mS B m tg D F) 11 (g_P (mS B m tg D F) 928 m) P = P (ad 28) := m_rd hB 28 (by decide) rfl rfl
theorem m_N28 (hB : BM B m ad tg) : g_N (mS B m tg D F) (ad 28) = 20 := m_N hB 28 (by decide) rfl
theorem m_R28 (hB : BM B m ad tg) : g_R (mS B m tg D F) (ad 28) = F 28 := m_R hB 28 (by decide) (by decide)
theorem m_sR28 (hB : BM B m ad tg) {i : Nat} {v : Int32} : s_R (mS B m tg D F) (ad 28) i v = mS B m tg D (g_2 F 28 i v) := m_sR hB 28 (by decide) (by decide)
theorem m_rd29 (hB : BM B m ad tg) {P : Nat → Prop} : rd (mS B m tg D F) 11 (g_P (mS B m tg D F) 929 m) P = P (ad 29) := m_rd hB 29 (by decide) rfl rfl
theorem m_N29 (hB : BM B m ad tg) : g_N (mS B m tg D F) (ad 29) = 4 := m_N hB 29 (by decide) rfl
theorem m_R29 (hB : BM B m ad tg) : g_R (mS B m tg D F) (ad 29) = F 29 := m_R hB 29 (by decide) (by decide)
theorem m_sR29 (hB : BM B m ad tg) {i : Nat} {v : Int32} : s_R (mS B m tg D F) (ad 29) i v = mS B m tg D (g_2 F 29 i v) := m_sR hB 29 (by decide) (by decide)
theorem m_rd30 (hB : BM B m ad tg) {P : Nat → Prop} : rd (mS B m tg D F) 11 (g_P (mS B m tg D F) 930 m) P = P (ad 30) := m_rd hB 30 (by decide) rfl rfl
theorem m_N30 (hB : BM B m ad tg) : g_N (mS B m tg D F) (ad 30) = 4 := m_N hB 30 (by decide) rfl
theorem m_R30 (hB : BM B m ad tg) : g_R (mS B m tg D F) (ad 30) = F 30 := m_R hB 30 (by decide) (by decide)
theorem m_sR30 (hB : BM B m ad tg) {i : Nat} {v : Int32} : s_R (mS B m tg D F) (ad 30) i v = mS B m tg D (g_2 F 30 i v) := m_sR hB 30 (by decide) (by decide)
theorem m_I0 : g_I (mS B m tg D F) 900 m = D 0 := m_I (by decide)
theorem m_sI0 {v : Int32} : s_I (mS B m tg D F) 900 m v = mS B m tg (upD D 0 v) F := m_sI (by decide)
theorem m_I1 : g_I (mS B m tg D F) 901 m = D 1 := m_I (by decide)
theorem m_sI1 {v : Int32} : s_I (mS B m tg D F) 901 m v = mS B m tg (upD D 1 v) F := m_sI (by decide)
theorem m_I5 : g_I (mS B m tg D F) 905 m = D 5 := m_I (by decide)
theorem m_sI5 {v : Int32} : s_I (mS B m tg D F) 905 m v = mS B m tg (upD D 5 v) F := m_sI (by decide)
theorem m_I10 : g_I (mS B m tg D F) 910 m = D 10 := m_I (by decide)
theorem m_sI10 {v : Int32} : s_I (mS B m tg D F) 910 m v = mS B m tg (upD D 10 v) F := m_sI (by decide)
theorem m_I19 : g_I (mS B m tg D F) 919 m = D 19 := m_I (by decide)
theorem m_sI19 {v : Int32} : s_I (mS B m tg D F) 919 m v = mS B m tg (upD D 19 v) F := m_sI (by decide)
theorem m_I26 : g_I (mS B m tg D F) 926 m = D 26 := m_I (by decide)
theorem m_sI26 {v : Int32} : s_I (mS B m tg D F) 926 m v = mS B m tg (upD D 26 v) F := m_sI (by decide)
theorem m_I31 : g_I (mS B m tg D F) 931 m = D 31 := m_I (by decide)
theorem m_sI31 {v : Int32} : s_I (mS B m tg D F) 931 m v = mS B m tg (upD D 31 v) F := m_sI (by decide)
end MB
theorem bz0 {P : Prop} : bz 0 P = P := propext ⟨fun h => h.2, fun h => ⟨rfl, h⟩⟩
theorem bz1 {P : Prop} : bz 1 P = P := propext ⟨fun h => h.2, fun h => ⟨rfl, h⟩⟩
theorem lt_v {α : Type} {x : α} {P : α → Prop} : lt x P = P x := rfl
theorem rdS {S : Hp} {κ a : Nat} {P : Nat → Prop} : rd S κ (some a) P = (okA S κ a ∧ P a) := propext ⟨fun ⟨b, e, h1, h2⟩ => by cases e; exact ⟨h1, h2⟩, fun ⟨h1, h2⟩ => ⟨a, rfl, h1, h2⟩⟩
theorem vin {k N : Nat} (h : k < N) (hN : N < 2 ^ 31) : vp_in (nI k) N = True := eq_true (vp_in_nI h hN)
theorem upD_ {D : Nat → Int32} {j : Nat} {v : Int32} (k : Nat) : upD D j v k = if k = j then v else D k := rfl
theorem g2_ {F : Nat → Nat → Int32} {j i : Nat} {v : Int32} (a b : Nat) : g_2 F j i v a b = if a = j ∧ b = i then v else F a b := rfl
theorem nIc {k : Nat} (h : k < 2 ^ 31) : (nI k).toNatClampNeg = k := nI_clamp h
/-- counts -/
def ct (p : Nat → Bool) : Nat → Nat
  | 0 => 0
  | n + 1 => ct p n + (if p n then 1 else 0)
theorem ct_le (p : Nat → Bool) : ∀ n, ct p n ≤ n
  | 0 => Nat.le_refl _
  | n + 1 => by
    have h := ct_le p n
    show ct p n + (if p n then 1 else 0) ≤ n + 1
    split <;> omega
theorem ct_cong {p q : Nat → Bool} : ∀ {n : Nat}, (∀ k, k < n → p k = q k) → ct p n = ct q n
  | 0, _ => rfl
  | n + 1, h => by
    show ct p n + _ = ct q n + _
    rw [ct_cong (fun k hk => h k (by omega)), h n (by omega)]
theorem nI_int (x : Int32) : (x < 0) ∨ ∃ j : Nat, j < 2 ^ 31 ∧ x = nI j := by
  by_cases h : x < 0
  · exact Or.inl h
  · exact Or.inr (nI_of h)
theorem nI_m1 {n : Nat} (h : n < 2 ^ 31) : ¬ nI n = -1 := by
  intro e
  have h1 := nI_pos h
  rw [e] at h1
  exact h1 (by decide)
theorem i_lt (a b : Int32) : a < b ↔ a.toInt < b.toInt := Int32.lt_iff_toInt_lt
theorem i_le (a b : Int32) : a ≤ b ↔ a.toInt ≤ b.toInt := Int32.le_iff_toInt_le
theorem i_eq (a b : Int32) : a = b ↔ a.toInt = b.toInt := Int32.toInt_inj.symm
