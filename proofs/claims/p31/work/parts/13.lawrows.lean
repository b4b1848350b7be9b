/-! THE LAW'S OWN ROWS: three pools beside one another: o's, twin's, the law's arrays (the last is the active one); methods with handlers; longs; the script -/
abbrev Y3 (cy : Nat → ClassId) (Y : va_W) (S1 S2 : Hp) : va_W := (Y ++ g_w cy S2) ++ g_w cy S1
section ZL3
variable {l : Launch} {v : Ev} {own : String} {cc : ByteArray} {nL : Nat} {ret : Option FieldType} {rm : Room} {nm : String} {x9 : P9} {X : va_W} {A : Nat → Prop} {E : State → Prop} {kc ks : Nat} {S S1 S2 : Hp} {pc : Nat} {lv : List (Nat × Value)} {st : List Value} {Y : va_W}
/-- another pool becomes the active one -/
theorem z_perm {X' : va_W} {S' : Hp} (hT' : g_T S' = v.2.2.1) (hp : ∀ (D : va_G) (H : Heap), va_P D vwc (X ++ g_w v.2.1 S) H → va_P D vwc (X' ++ g_w v.2.1 S') H) (hd : va_D A (X ++ g_w v.2.1 S) → va_D A (X' ++ g_w v.2.1 S')) (k : g_T S = v.2.2.1 → ZZ l v nL rm (x9, X', A, E) kc ks S' pc lv st) : ZZ l v nL rm (x9, X, A, E) kc ks S pc lv st := by
  obtain ⟨p, e, s, m, args, below, meth, c⟩ := x9
  intro H locs ls cells slots hP hD hS hc hs hl hT
  exact k hT H locs ls cells slots (hp _ _ hP) (hd hD) hS hc hs hl hT'
/-- o's pool -/
theorem z_s1 (hT1 : g_T S1 = v.2.2.1) (k : g_T S = v.2.2.1 → ZZ l v nL rm (x9, (Y ++ g_w v.2.1 S2) ++ g_w v.2.1 S, A, E) kc ks S1 pc lv st) : ZZ l v nL rm (x9, Y3 v.2.1 Y S1 S2, A, E) kc ks S pc lv st := z_perm hT1 (fun _ _ h => va_P.swap h) (fun h => va_D.swap h) k
theorem z_s1' (hT : g_T S = v.2.2.1) (k : g_T S1 = v.2.2.1 → ZZ l v nL rm (x9, Y3 v.2.1 Y S1 S2, A, E) kc ks S pc lv st) : ZZ l v nL rm (x9, (Y ++ g_w v.2.1 S2) ++ g_w v.2.1 S, A, E) kc ks S1 pc lv st := z_perm hT (fun _ _ h => va_P.swap h) (fun h => va_D.swap h) k
/-- twin's pool -/
theorem z_s2 (hT2 : g_T S2 = v.2.2.1) (k : g_T S = v.2.2.1 → ZZ l v nL rm (x9, (Y ++ g_w v.2.1 S1) ++ g_w v.2.1 S, A, E) kc ks S2 pc lv st) : ZZ l v nL rm (x9, Y3 v.2.1 Y S1 S2, A, E) kc ks S pc lv st := z_perm hT2 (fun D H h => by
  have h2 : va_P D vwc ((Y ++ g_w v.2.1 S2) ++ (g_w v.2.1 S1 ++ g_w v.2.1 S)) H := by rw [← List.append_assoc]; exact h
  have h3 := va_P.swap h2
  rw [← List.append_assoc] at h3
  exact h3) (fun h => by
  have h2 : va_D A ((Y ++ g_w v.2.1 S2) ++ (g_w v.2.1 S1 ++ g_w v.2.1 S)) := by rw [← List.append_assoc]; exact h
  have h3 := va_D.swap h2
  rw [← List.append_assoc] at h3
  exact h3) k
theorem z_s2' (hT : g_T S = v.2.2.1) (k : g_T S2 = v.2.2.1 → ZZ l v nL rm (x9, Y3 v.2.1 Y S1 S2, A, E) kc ks S pc lv st) : ZZ l v nL rm (x9, (Y ++ g_w v.2.1 S1) ++ g_w v.2.1 S, A, E) kc ks S2 pc lv st := z_perm hT (fun D H h => by
  have h2 : va_P D vwc ((Y ++ (g_w v.2.1 S1 ++ g_w v.2.1 S)) ++ g_w v.2.1 S2) H := by rw [← List.append_assoc]; exact h
  have h3 := va_P.swap h2
  rw [← List.append_assoc] at h3
  exact h3) (fun h => by
  have h2 : va_D A ((Y ++ (g_w v.2.1 S1 ++ g_w v.2.1 S)) ++ g_w v.2.1 S2) := by rw [← List.append_assoc]; exact h
  have h3 := va_D.swap h2
  rw [← List.append_assoc] at h3
  exact h3) k
/-- o and twin change their roles -/
theorem z_s12 (k : ZZ l v nL rm (x9, Y3 v.2.1 Y S2 S1, A, E) kc ks S pc lv st) : ZZ l v nL rm (x9, Y3 v.2.1 Y S1 S2, A, E) kc ks S pc lv st := by
  obtain ⟨p, e, s, m, args, below, meth, c⟩ := x9
  intro H locs ls cells slots hP hD hS hc hs hl hT
  refine k H locs ls cells slots ?_ ?_ hS hc hs hl hT
  · have h2 := va_P.swap (a := Y ++ g_w v.2.1 S2) hP
    have h3 : va_P v.1 vwc ((Y ++ g_w v.2.1 S2) ++ (g_w v.2.1 S ++ g_w v.2.1 S1)) H := by rw [← List.append_assoc]; exact h2
    have h4 := va_P.swap h3
    have h5 : va_P v.1 vwc (((Y ++ g_w v.2.1 S) ++ g_w v.2.1 S1) ++ g_w v.2.1 S2) H := by rw [List.append_assoc Y]; exact h4
    have h6 : va_P v.1 vwc ((Y ++ g_w v.2.1 S) ++ (g_w v.2.1 S1 ++ g_w v.2.1 S2)) H := by rw [← List.append_assoc]; exact h5
    have h7 := va_P.swap h6
    rw [← List.append_assoc] at h7
    exact h7
  · have h2 := va_D.swap (a := Y ++ g_w v.2.1 S2) hD
    have h3 : va_D A ((Y ++ g_w v.2.1 S2) ++ (g_w v.2.1 S ++ g_w v.2.1 S1)) := by rw [← List.append_assoc]; exact h2
    have h4 := va_D.swap h3
    have h5 : va_D A (((Y ++ g_w v.2.1 S) ++ g_w v.2.1 S1) ++ g_w v.2.1 S2) := by rw [List.append_assoc Y]; exact h4
    have h6 : va_D A ((Y ++ g_w v.2.1 S) ++ (g_w v.2.1 S1 ++ g_w v.2.1 S2)) := by rw [← List.append_assoc]; exact h5
    have h7 := va_D.swap h6
    rw [← List.append_assoc] at h7
    exact h7
def WPo3 (v : Ev) (Y : va_W) (u : Hp × Hp × Hp) (A : Nat → Prop) (U : State) : Prop := WPo v (Y3 v.2.1 Y u.1 u.2.1) u.2.2 A U ∧ g_T u.1 = v.2.2.1 ∧ g_T u.2.1 = v.2.2.1
def Q3i (v : Ev) (Q : Int32 → Hp → Hp → Hp → Prop) (Y : va_W) (A : Nat → Prop) : Array Value → State → Outcome → State → Prop := va_Qi (fun r (u : Hp × Hp × Hp) => Q r u.1 u.2.1 u.2.2) (fun u U => WPo3 v Y u A U) A
def Q3l (v : Ev) (Q : Int64 → Hp → Hp → Hp → Prop) (Y : va_W) (A : Nat → Prop) : Array Value → State → Outcome → State → Prop := va_Ql (fun r (u : Hp × Hp × Hp) => Q r u.1 u.2.1 u.2.2) (fun u U => WPo3 v Y u A U) A
/-- a method of the law -/
def C3 {α : Type} (l : Launch) (v : Ev) (y : MethodName) (cc : ByteArray) (maxL : Nat) (ret : Option FieldType) (rm : Room) (args : List Value) (S1 S2 S : Hp) (Qt3 : (α → Hp → Hp → Hp → Prop) → va_W → (Nat → Prop) → Array Value → State → Outcome → State → Prop) (wp : (α → Hp → Hp → Hp → Prop) → Prop) : Prop :=
  ∀ (Y : va_W) (sz : Nat) (Q : α → Hp → Hp → Hp → Prop), g_T S1 = v.2.2.1 → g_T S2 = v.2.2.1 → wp Q → vx_Met l y (Cond.code y cc maxL ret :: BW) rm (va_Pc args (fun U => U.heap.size = sz ∧ WPre v (Y3 v.2.1 Y S1 S2) S U)) (Qt3 Q Y (va_A (Y3 v.2.1 Y S1 S2 ++ g_w v.2.1 S) sz)) (XQ v (fun _ _ => False) (Y3 v.2.1 Y S1 S2) (va_A (Y3 v.2.1 Y S1 S2 ++ g_w v.2.1 S) sz)) rm.cells rm.slots (va_A (Y3 v.2.1 Y S1 S2 ++ g_w v.2.1 S) sz)
def E3 {α : Type} (v : Ev) (rm : Room) (Qt3 : (α → Hp → Hp → Hp → Prop) → va_W → (Nat → Prop) → Array Value → State → Outcome → State → Prop) (Q : α → Hp → Hp → Hp → Prop) (X0 Y : va_W) (A : Nat → Prop) (E : State → Prop) (x9 : P9) : Prop := match x9 with
  | (_, _, s, _, args, below, _, _) => E = vx_MQ below (Qt3 Q Y A) (XQ v (fun _ _ => False) X0 A) args s rm.cells rm.slots A
theorem z_start3 {α : Type} {y : MethodName} {maxL : Nat} {args : List Value} {Qt3 : (α → Hp → Hp → Hp → Prop) → va_W → (Nat → Prop) → Array Value → State → Outcome → State → Prop} {wp : (α → Hp → Hp → Hp → Prop) → Prop} (lv : List (Nat × Value)) (hy : plainName y.cls = true) (hlv : lv_args 0 args = lv) (hcat : ∀ q ∈ lv, q.2.category = 1) (hsz : (lg_sl args).length ≤ maxL)
    (body : ∀ (x9 : P9) (A : Nat → Prop) (E : State → Prop) (Y : va_W) (Q : α → Hp → Hp → Hp → Prop), wp Q → g_T S1 = v.2.2.1 → g_T S2 = v.2.2.1 → (∀ X, Cx l v y.cls cc maxL ret y.name (x9, X, A, E)) → E3 v rm Qt3 Q (Y3 v.2.1 Y S1 S2) Y A E x9 → ZZ l v maxL rm (x9, Y3 v.2.1 Y S1 S2, A, E) 0 0 S 0 lv []) : C3 l v y cc maxL ret rm args S1 S2 S Qt3 wp := by
  intro Y sz Q t1 t2 hwp
  refine vx_ofW hy rfl ?_
  intro p e s m args' below meth c s₁ B hml ht hv
  obtain ⟨rfl, hsz9, hP, hK, hD, hW, hT⟩ := hv
  have hts := atoms_spec (ws := Cond.code y cc maxL ret :: BW) B.pre
  subst hsz9
  rw [lg_entry_eq]
  refine body (p, e, s, m, args.toArray, below, meth, c) (va_A (Y3 v.2.1 Y S1 S2 ++ g_w v.2.1 S) s.heap.size) _ Y Q hwp t1 t2 (fun X => ⟨B.exec, B.bytes, B.returns, hml, findClass_of_methodNamed B.named, fun w hw => hts w (List.mem_cons_of_mem _ hw), hK, B.notSynchronized, fun q hq => Or.inr hq, hW, (name_of_methodNamed B.named B.method).1⟩) rfl s.heap [] _ 0 0 hP hD.self va_S.rf (Nat.le_refl _) (Nat.le_refl _) ⟨?_, fun q hq => Or.inl (hcat q hq)⟩ hT
  rw [← hlv]
  exact lv_entry args hsz
theorem z_ret3 {X0 : va_W} {Q : Int32 → Hp → Hp → Hp → Prop} {r : Int32} (C : Cx l v own cc nL (some .int) nm (x9, X, A, E)) (T : E3 v rm (Q3i v) Q X0 Y A E x9) (t1 : g_T S1 = v.2.2.1) (t2 : g_T S2 = v.2.2.1) (hd : decode cc pc = .ok (.ireturn, 1)) (hk : kc ≤ rm.cells) (hk2 : ks ≤ rm.slots) (h : Q r S1 S2 S) : ZZ l v nL rm (x9, Y3 v.2.1 Y S1 S2, A, E) kc ks S pc lv [.int r] := by
  obtain ⟨p, e, s, m, args, below, meth, c⟩ := x9
  obtain ⟨hx, hb, hr, hml, hown, hts, hK, hlocks, -⟩ := C
  intro H locs ls cells slots hP hD hS hc hs hl hT
  obtain rfl : E = _ := T
  refine vx_ret (W.widen (Nat.le_trans hc hk) (Nat.le_trans hs hk2) (W.iret hx hb hr (fun t ht hW => ⟨⟨r, (S1, S2, S), rfl, h, ⟨⟨by rw [ht]; exact hP, hD, hT⟩, t1, t2⟩⟩, hS.F ht⟩) hS.2.2 hd))
theorem z_zret3 {X0 : va_W} {Q : Int32 → Hp → Hp → Hp → Prop} {r : Int32} (C : Cx l v own cc nL (some .boolean) nm (x9, X, A, E)) (T : E3 v rm (Q3i v) Q X0 Y A E x9) (t1 : g_T S1 = v.2.2.1) (t2 : g_T S2 = v.2.2.1) (hd : decode cc pc = .ok (.ireturn, 1)) (hk : kc ≤ rm.cells) (hk2 : ks ≤ rm.slots) (h : bz r (Q r S1 S2 S)) : ZZ l v nL rm (x9, Y3 v.2.1 Y S1 S2, A, E) kc ks S pc lv [.int r] := by
  obtain ⟨p, e, s, m, args, below, meth, c⟩ := x9
  obtain ⟨hx, hb, hr, hml, hown, hts, hK, hlocks, -⟩ := C
  intro H locs ls cells slots hP hD hS hc hs hl hT
  obtain rfl : E = _ := T
  refine vx_ret (W.widen (Nat.le_trans hc hk) (Nat.le_trans hs hk2) (W.zret hx hb hr h.1 (fun t ht hW => ⟨⟨r, (S1, S2, S), rfl, h.2, ⟨⟨by rw [ht]; exact hP, hD, hT⟩, t1, t2⟩⟩, hS.F ht⟩) hS.2.2 hd))
theorem z_lret3 {X0 : va_W} {Q : Int64 → Hp → Hp → Hp → Prop} {r : Int64} (C : Cx l v own cc nL (some .long) nm (x9, X, A, E)) (T : E3 v rm (Q3l v) Q X0 Y A E x9) (t1 : g_T S1 = v.2.2.1) (t2 : g_T S2 = v.2.2.1) (hd : decode cc pc = .ok (.lreturn, 1)) (hk : kc ≤ rm.cells) (hk2 : ks ≤ rm.slots) (h : Q r S1 S2 S) : ZZ l v nL rm (x9, Y3 v.2.1 Y S1 S2, A, E) kc ks S pc lv [.long r] := by
  obtain ⟨p, e, s, m, args, below, meth, c⟩ := x9
  obtain ⟨hx, hb, hr, hml, hown, hts, hK, hlocks, -⟩ := C
  intro H locs ls cells slots hP hD hS hc hs hl hT
  obtain rfl : E = _ := T
  refine vx_ret (W.widen (Nat.le_trans hc hk) (Nat.le_trans hs hk2) (W.lret hx hb hr (fun t ht hW => ⟨⟨r, (S1, S2, S), rfl, h, ⟨⟨by rw [ht]; exact hP, hD, hT⟩, t1, t2⟩⟩, hS.F ht⟩) hS.2.2 hd))
theorem z_S3i (C : Cx l v own cc nL ret nm (x9, X, A, E)) {y : MethodName} {cc' : ByteArray} {nL' n idx : Nat} {ret' : Option FieldType} {rm' : Room} {As rest stk : List Value} {kc' ks' : Nat} {K : Int32 → Hp → Hp → Hp → Prop} {wp : (Int32 → Hp → Hp → Hp → Prop) → Prop} (F : C3 l v y cc' nL' ret' rm' As S1 S2 S (Q3i v) wp) (M : MW y cc' nL' ret' n) (w1 : Cond.methodLink own idx y ∈ BW) (w2 : Cond.static y ∈ BW) (hR : fitR kc ks kc' ks' nL' rm' rm) (hst : stk = As.reverse ++ rest) (hn : As.length = n) (h8 : (rest.map fun v => v.category).sum ≤ 8) (t1 : g_T S1 = v.2.2.1) (t2 : g_T S2 = v.2.2.1) (hd : decode cc pc = .ok (.invokestatic idx, 3)) (h : wp K)
    (k : ∀ r U1 U2 U3, g_T U1 = v.2.2.1 → g_T U2 = v.2.2.1 → K r U1 U2 U3 → ZZ l v nL rm (x9, Y3 v.2.1 Y U1 U2, A, E) kc' ks' U3 (pc + 3) lv (.int r :: rest)) : ZZ l v nL rm (x9, Y3 v.2.1 Y S1 S2, A, E) kc ks S pc lv stk := by
  obtain ⟨p, e, s, m, args, below, meth, c⟩ := x9
  obtain ⟨hx, hb, hr, hml, hown, hts, hK, hlocks, hA, hW, -⟩ := C
  intro H locs ls cells slots hP hD hS hc hs hl hT
  subst hst
  have hF := wA hD hS hA
  have hR2 := hR
  obtain ⟨r1, r2, r3, r4, r5, r6⟩ := hR2
  exact vx_calli (vx_runS (As := As) (rest := rest) ⟨hx, hb, hml, hown, hts⟩ (F Y H.size K t1 t2 h) ⟨callB9 hts M w1 hR, hts _ w2⟩ (pre_at (As := As) hP hD hS hK hA hW hT) rfl hn hl.1.1 rfl (by show 2 * 0 + _ ≤ 8; omega) hd ⟨by omega, by omega⟩) hS (fun q _ h9 => hF q h9) hF (fun q _ h9 => hF q h9) (fun En ce q9 u t H1 locs1 ht hvm _ hB hz hk hS1 hce hcv hcl => hB.1.elim) (fun r u t H1 locs1 ht hvm hp hB hz hk hS1 => k r u.1 u.2.1 u.2.2 hB.2.1 hB.2.2 hp H1 locs1 ls (cells + rm'.cells) (slots + rm'.slots) (by rw [← ht]; exact hB.1.1) (hB.1.2.1.weaken (fun _ q _ h9 => hF q.1 h9)) hS1 (by omega) (by omega) hl hB.1.2.2)
theorem z_S3l (C : Cx l v own cc nL ret nm (x9, X, A, E)) {y : MethodName} {cc' : ByteArray} {nL' n idx : Nat} {ret' : Option FieldType} {rm' : Room} {As rest stk : List Value} {kc' ks' : Nat} {K : Int64 → Hp → Hp → Hp → Prop} {wp : (Int64 → Hp → Hp → Hp → Prop) → Prop} (F : C3 l v y cc' nL' ret' rm' As S1 S2 S (Q3l v) wp) (M : MW y cc' nL' ret' n) (w1 : Cond.methodLink own idx y ∈ BW) (w2 : Cond.static y ∈ BW) (hR : fitR kc ks kc' ks' nL' rm' rm) (hst : stk = As.reverse ++ rest) (hn : As.length = n) (h8 : (rest.map fun v => v.category).sum ≤ 8) (t1 : g_T S1 = v.2.2.1) (t2 : g_T S2 = v.2.2.1) (hd : decode cc pc = .ok (.invokestatic idx, 3)) (h : wp K)
    (k : ∀ r U1 U2 U3, g_T U1 = v.2.2.1 → g_T U2 = v.2.2.1 → K r U1 U2 U3 → ZZ l v nL rm (x9, Y3 v.2.1 Y U1 U2, A, E) kc' ks' U3 (pc + 3) lv (.long r :: rest)) : ZZ l v nL rm (x9, Y3 v.2.1 Y S1 S2, A, E) kc ks S pc lv stk := by
  obtain ⟨p, e, s, m, args, below, meth, c⟩ := x9
  obtain ⟨hx, hb, hr, hml, hown, hts, hK, hlocks, hA, hW, -⟩ := C
  intro H locs ls cells slots hP hD hS hc hs hl hT
  subst hst
  have hF := wA hD hS hA
  have hR2 := hR
  obtain ⟨r1, r2, r3, r4, r5, r6⟩ := hR2
  exact vx_calll (vx_runS (As := As) (rest := rest) ⟨hx, hb, hml, hown, hts⟩ (F Y H.size K t1 t2 h) ⟨callB9 hts M w1 hR, hts _ w2⟩ (pre_at (As := As) hP hD hS hK hA hW hT) rfl hn hl.1.1 rfl (by show 2 * 0 + _ ≤ 8; omega) hd ⟨by omega, by omega⟩) hS (fun q _ h9 => hF q h9) hF (fun q _ h9 => hF q h9) (fun En ce q9 u t H1 locs1 ht hvm _ hB hz hk hS1 hce hcv hcl => hB.1.elim) (fun r u t H1 locs1 ht hvm hp hB hz hk hS1 => k r u.1 u.2.1 u.2.2 hB.2.1 hB.2.2 hp H1 locs1 ls (cells + rm'.cells) (slots + rm'.slots) (by rw [← ht]; exact hB.1.1) (hB.1.2.1.weaken (fun _ q _ h9 => hF q.1 h9)) hS1 (by omega) (by omega) hl hB.1.2.2)
/-! methods with handlers, over one pool -/
def CW (l : Launch) (v : Ev) (y : MethodName) (cc : ByteArray) (maxL : Nat) (hh : List (Nat × Nat × Nat × Nat)) (rm : Room) (args : List Value) (S : Hp) (wp : (Int32 → Hp → Prop) → Prop) : Prop :=
  ∀ (X : va_W) (sz : Nat) (Q : Int32 → Hp → Prop), wp Q → vx_Met l y (Cond.codeWith y cc maxL (some .int) hh :: BW) rm (va_Pc args (fun U => U.heap.size = sz ∧ WPre v X S U)) (QI v Q X (va_A (X ++ g_w v.2.1 S) sz)) (XQ v (fun _ _ => False) X (va_A (X ++ g_w v.2.1 S) sz)) rm.cells rm.slots (va_A (X ++ g_w v.2.1 S) sz)
theorem z_startW {y : MethodName} {maxL : Nat} {hh : List (Nat × Nat × Nat × Nat)} {args : List Value} {wp : (Int32 → Hp → Prop) → Prop} (lv : List (Nat × Value)) (hcw : Cond.codeWith y cc maxL (some .int) hh ∈ BW) (hy : plainName y.cls = true) (hlv : lv_args 0 args = lv) (hcat : ∀ q ∈ lv, q.2.category = 1) (hsz : (lg_sl args).length ≤ maxL)
    (body : ∀ (z : Z9) (Q : Int32 → Hp → Prop), wp Q → Cx l v y.cls cc maxL (some .int) y.name z → TB hh z → EE v rm (QI v Q) (fun _ _ => False) z → ZZ l v maxL rm z 0 0 S 0 lv []) : CW l v y cc maxL hh rm args S wp := by
  intro X sz Q hwp
  refine vx_ofWH hy rfl ?_
  intro p e s m args' below meth c s₁ B hml hv
  obtain ⟨rfl, hsz9, hP, hK, hD, hW, hT⟩ := hv
  have hts := atoms_spec (ws := Cond.codeWith y cc maxL (some .int) hh :: BW) B.pre
  subst hsz9
  rw [lg_entry_eq]
  refine body ((p, e, s, m, args.toArray, below, meth, c), X, va_A (X ++ g_w v.2.1 S) s.heap.size, _) Q hwp ⟨B.exec, B.bytes, B.returns, hml, findClass_of_methodNamed B.named, fun w hw => hts w (List.mem_cons_of_mem _ hw), hK, B.notSynchronized, fun q hq => Or.inr hq, hW, (name_of_methodNamed B.named B.method).1⟩ (vx_table (x := y) B (hts _ List.mem_cons_self)) rfl s.heap [] _ 0 0 hP hD.self va_S.rf (Nat.le_refl _) (Nat.le_refl _) ⟨?_, fun q hq => Or.inl (hcat q hq)⟩ hT
  rw [← hlv]
  exact lv_entry args hsz
/-- caught by a row of the table -/
theorem z_catch {z : Z9} (C : Cx l v own cc nL ret nm z) {hh : List (Nat × Nat × Nat × Nat)} {En : String} (TBh : TB hh z) (pre : List ExceptionTableEntry) (x : ExceptionTableEntry) (suf : List ExceptionTableEntry) (hsplit : tableOf hh = pre ++ x :: suf)
    (hpass : ∀ z ∈ pre, z.catchType ≠ 0 ∧ ∃ nm9 : String, Cond.classLink own z.catchType nm9 ∈ BW ∧ (En, nm9) ∈ NCL) (hx9 : covers x pc = true) (h0 : x.catchType ≠ 0) (hlink : Cond.classLink own x.catchType En ∈ BW) (hcast : Cond.castable En En ∈ NW) {tgt : Nat} (hp : x.handlerPc = tgt)
    (k : ∀ q9, ZZ l v nL rm z kc ks S tgt lv [va_rf (some q9)]) : ZX l v nL rm z kc ks En S pc lv := by
  obtain ⟨⟨p, e, s, m, args, below, meth, c⟩, X, A, E⟩ := z
  obtain ⟨hx, hb, hr, hml, hown, hts, hK, hlocks, hA, hW, -⟩ := C
  intro H locs ls cells slots rest q9 ce hP hD hS hc hs hl hT hce hcv hcl
  subst hp
  have hh9 : c.exceptionTable.toList = tableOf hh := TBh
  exact vx_catch hown pre x suf (hh9.trans hsplit) (fun z hz => by
    obtain ⟨z1, n9, z2, z3⟩ := hpass z hz
    exact Or.inr ⟨z1, n9, hts _ z2, hW.2.2.2.2.2.2.2 _ z3⟩) hx9 h0 (hts _ hlink) (va_Nw.use rfl (hW.1 _ hcast)) hce hcv hcl (k q9 H locs ls cells slots hP hD hS hc hs hl hT)
theorem bw_inW {s : State} {args : Array Value} {y : MethodName} {cc : ByteArray} {nL : Nat} {ret : Option FieldType} {hh : List (Nat × Nat × Nat × Nat)} (hts : ∀ w ∈ BW, w.before args s = true) (hc : Cond.codeWith y cc nL ret hh ∈ BW) : ∀ w ∈ Cond.codeWith y cc nL ret hh :: BW, ∀ (a' : Array Value) (U : State), s.WarmedH U.vm → w.before a' U = true := by
  intro w hw a' U hW
  have hb : w ∈ BW := by
    rcases List.mem_cons.mp hw with rfl | hw
    · exact hc
    · exact hw
  exact word_at hW (bw_good hb) (hts w hb)
theorem z_SW {z : Z9} (C : Cx l v own cc nL ret nm z) {y : MethodName} {cc' : ByteArray} {nL' n idx : Nat} {hh : List (Nat × Nat × Nat × Nat)} {rm' : Room} {As rest stk : List Value} {kc' ks' : Nat} {K : Int32 → Hp → Prop} {wp : (Int32 → Hp → Prop) → Prop} (F : CW l v y cc' nL' hh rm' As S wp) (m2 : Cond.codeWith y cc' nL' (some .int) hh ∈ BW) (m1 : Cond.initialized y.cls ∈ BW) (m3 : y.cls ≠ "java/lang/invoke/MethodHandle" ∧ y.cls ≠ "java/lang/invoke/VarHandle") (m4 : (parseMethodDescriptor y.desc).map (fun d => d.parameters.length) = some n) (w1 : Cond.methodLink own idx y ∈ BW) (w2 : Cond.static y ∈ BW) (hR : fitR kc ks kc' ks' nL' rm' rm) (hst : stk = As.reverse ++ rest) (hn : As.length = n) (h8 : (rest.map fun v => v.category).sum ≤ 8) (hd : decode cc pc = .ok (.invokestatic idx, 3)) (h : wp K)
    (k : ∀ r U, K r U → ZZ l v nL rm z kc' ks' U (pc + 3) lv (.int r :: rest)) : ZZ l v nL rm z kc ks S pc lv stk := by
  obtain ⟨⟨p, e, s, m, args, below, meth, c⟩, X, A, E⟩ := z
  obtain ⟨hx, hb, hr, hml, hown, hts, hK, hlocks, hA, hW, -⟩ := C
  intro H locs ls cells slots hP hD hS hc hs hl hT
  subst hst
  have hF := wA hD hS hA
  have hR2 := hR
  obtain ⟨r1, r2, r3, r4, r5, r6⟩ := hR2
  have cw : vx_CSW rm s args own idx y cc' nL' (some .int) hh (Cond.codeWith y cc' nL' (some .int) hh :: BW) rm' rm'.cells rm'.slots n := ⟨⟨rfl, rfl, r5, r6, bw_inW hts m2, List.mem_cons_self⟩, hts _ m2, hts _ m1, m3, fun sig h => by rw [h] at m4; exact (Option.some.inj m4).symm, hts _ w1, hts _ w2⟩
  exact vx_calli (vx_runSX (As := As) (rest := rest) ⟨hx, hb, hml, hown, hts⟩ (F X H.size K h) cw (pre_at (As := As) hP hD hS hK hA hW hT) rfl hn hl.1.1 rfl (by show 2 * 0 + _ ≤ 8; omega) hd ⟨by omega, by omega⟩) hS (fun q _ h9 => hF q h9) hF (fun q _ h9 => hF q h9) (fun En ce q9 u t H1 locs1 ht hvm _ hB hz hk hS1 hce hcv hcl => hB.1.elim) (fun r u t H1 locs1 ht hvm hp hB hz hk hS1 => k r u hp H1 locs1 ls (cells + rm'.cells) (slots + rm'.slots) (by rw [← ht]; exact hB.1) (hB.2.1.weaken (fun _ q _ h9 => hF q.1 h9)) hS1 (by omega) (by omega) hl hB.2.2)
theorem z_Si8 {z : Z9} (C : Cx l v own cc nL ret nm z) {y : MethodName} {cc' : ByteArray} {nL' n idx : Nat} {ret' : Option FieldType} {rm' : Room} {As rest stk : List Value} {kc' ks' : Nat} {KX : String → Hp → Prop} {K : Int32 → Hp → Prop} {wp : (Int32 → Hp → Prop) → (String → Hp → Prop) → Prop} (F : CI l v y cc' nL' ret' rm' As S wp) (M : MW y cc' nL' ret' n) (w1 : Cond.methodLink own idx y ∈ BW) (w2 : Cond.static y ∈ BW) (hR : fitR kc ks kc' ks' nL' rm' rm) (hst : stk = As.reverse ++ rest) (hn : As.length = n) (h8 : (rest.map fun v => v.category).sum ≤ 8) (hd : decode cc pc = .ok (.invokestatic idx, 3)) (h : wp K KX) (k : ∀ r S1, K r S1 → ZZ l v nL rm z kc' ks' S1 (pc + 3) lv (.int r :: rest)) (kx : ∀ En S1, KX En S1 → ZX l v nL rm z kc' ks' En S1 pc lv) : ZZ l v nL rm z kc ks S pc lv stk := by
  obtain ⟨⟨p, e, s, m, args, below, meth, c⟩, X, A, E⟩ := z
  obtain ⟨hx, hb, hr, hml, hown, hts, hK, hlocks, hA, hW, -⟩ := C
  intro H locs ls cells slots hP hD hS hc hs hl hT
  subst hst
  have hF := wA hD hS hA
  have hR2 := hR
  obtain ⟨r1, r2, r3, r4, r5, r6⟩ := hR2
  exact vx_calli (vx_runS (As := As) (rest := rest) ⟨hx, hb, hml, hown, hts⟩ (F K KX h X H.size) ⟨callB9 hts M w1 hR, hts _ w2⟩ (pre_at (As := As) hP hD hS hK hA hW hT) rfl hn hl.1.1 rfl (by show 2 * 0 + _ ≤ 8; omega) hd ⟨by omega, by omega⟩) hS (fun q _ h9 => hF q h9) hF (fun q _ h9 => hF q h9) (fun En ce q9 u t H1 locs1 ht hvm _ hB hz hk hS1 hce hcv hcl => kx En u hB.1 H1 locs1 ls (cells + rm'.cells) (slots + rm'.slots) _ q9 ce (by rw [← ht]; exact hB.2.1) (hB.2.2.1.weaken (fun _ q _ h9 => hF q.1 h9)) hS1 (by omega) (by omega) hl hB.2.2.2 hce hcv hcl) (fun r u t H1 locs1 ht hvm hp hB hz hk hS1 => k r u hp H1 locs1 ls (cells + rm'.cells) (slots + rm'.slots) (by rw [← ht]; exact hB.1) (hB.2.1.weaken (fun _ q _ h9 => hF q.1 h9)) hS1 (by omega) (by omega) hl hB.2.2)
/-! longs -/
theorem z_ladd {z : Z9} (C : Cx l v own cc nL ret nm z) {x y : Int64} (hd : decode cc pc = .ok (.ladd, 1)) (k : ZZ l v nL rm z kc ks S (pc + 1) lv (.long (x + y) :: st)) : ZZ l v nL rm z kc ks S pc lv (.long y :: .long x :: st) := by
  obtain ⟨⟨p, e, s, m, args, below, meth, c⟩, X, A, E⟩ := z
  obtain ⟨hx, hb, -, hml, hown, hts, hK, -⟩ := C
  intro H locs ls cells slots hP hD hS hc hs hl hT
  exact lv_ladd hx hb hd (k H locs ls cells slots hP hD hS hc hs hl hT)
theorem z_lmul {z : Z9} (C : Cx l v own cc nL ret nm z) {x y : Int64} (hd : decode cc pc = .ok (.lmul, 1)) (k : ZZ l v nL rm z kc ks S (pc + 1) lv (.long (x * y) :: st)) : ZZ l v nL rm z kc ks S pc lv (.long y :: .long x :: st) := by
  obtain ⟨⟨p, e, s, m, args, below, meth, c⟩, X, A, E⟩ := z
  obtain ⟨hx, hb, -, hml, hown, hts, hK, -⟩ := C
  intro H locs ls cells slots hP hD hS hc hs hl hT
  exact lv_lmul hx hb hd (k H locs ls cells slots hP hD hS hc hs hl hT)
theorem z_ldc2 {z : Z9} (C : Cx l v own cc nL ret nm z) {n : Nat} {x : Int64} (hd : decode cc pc = .ok (.ldc2_w n, 3)) (hw : Cond.constantLong own n x ∈ BW) (k : ZZ l v nL rm z kc ks S (pc + 3) lv (.long x :: st)) : ZZ l v nL rm z kc ks S pc lv st := by
  obtain ⟨⟨p, e, s, m, args, below, meth, c⟩, X, A, E⟩ := z
  obtain ⟨hx, hb, -, hml, hown, hts, hK, -⟩ := C
  intro H locs ls cells slots hP hD hS hc hs hl hT
  exact lv_ldc2 hx hb hown (hts _ hw) hd (k H locs ls cells slots hP hD hS hc hs hl hT)
theorem z_lload_n {z : Z9} (C : Cx l v own cc nL ret nm z) {k4 : Fin 4} {x : Int64} (hd : decode cc pc = .ok (.lload_n k4, 1)) (i : Nat) (hl9 : lv[i]? = some ((k4 : Nat), .long x)) (k : ZZ l v nL rm z kc ks S (pc + 1) lv (.long x :: st)) : ZZ l v nL rm z kc ks S pc lv st := by
  obtain ⟨⟨p, e, s, m, args, below, meth, c⟩, X, A, E⟩ := z
  obtain ⟨hx, hb, -, hml, hown, hts, hK, -⟩ := C
  intro H locs ls cells slots hP hD hS hc hs hl hT
  exact lv_lload_n hx hb hd rfl (lvk_at hl i hl9) (k H locs ls cells slots hP hD hS hc hs hl hT)
theorem z_lstore_n {z : Z9} (C : Cx l v own cc nL ret nm z) {x : Int64} {lv' : List (Nat × Value)} (hd : decode cc pc = .ok (.lstore_n 2, 1)) (hn : 3 < nL) (hq : (2, Value.long x) :: lv.filter (fun q => !(q.1 == 2) && !(q.1 == 3)) = lv') (k : ZZ l v nL rm z kc ks S (pc + 1) lv' st) : ZZ l v nL rm z kc ks S pc lv (.long x :: st) := by
  obtain ⟨⟨p, e, s, m, args, below, meth, c⟩, X, A, E⟩ := z
  obtain ⟨hx, hb, -, hml, hown, hts, hK, -⟩ := C
  intro H locs ls cells slots hP hD hS hc hs hl hT
  refine lv_lstore_n hx hb hd rfl hl.1 hn rfl (fun ls9 hl9 => k H locs ls9 cells slots hP hD hS hc hs ?_ hT)
  have e : lv.filter (fun q => !(q.1 == 2) && (!(q.1 == 2 + 1) && !(q.1 + 1 == 2 && q.2.category == 2))) = lv.filter (fun q => !(q.1 == 2) && !(q.1 == 3)) := by
    apply List.filter_congr
    intro q hq
    rcases hl.2 q hq with e | e <;> simp [e]
  have e2 : ((2 : Fin 4) : Nat) = 2 := rfl
  rw [e2, e] at hl9
  rw [← hq]
  refine ⟨hl9, fun q hq => ?_⟩
  rcases List.mem_cons.mp hq with rfl | hq
  · exact Or.inr rfl
  · exact hl.2 q (List.mem_filter.mp hq).1
/-! the script -/
def LX (b L : Nat) (xs : Nat → Int32) (A : Nat → Prop) (x9 : P9) : Prop := match x9 with
  | (_, _, s, _, _, _, _, _) => va_X b L xs s s.heap ∧ b < s.heap.size ∧ ¬ A b
theorem z_sld (C : Cx l v own cc nL ret nm (x9, X, A, E)) {b L : Nat} {xs : Nat → Int32} (hX : LX b L xs A x9) {i : Int32} (hd : decode cc pc = .ok (.iaload, 1)) (h1 : vp_in i L) (k : ZZ l v nL rm (x9, X, A, E) kc ks S (pc + 1) lv (.int (xs i.toNatClampNeg) :: st)) : ZZ l v nL rm (x9, X, A, E) kc ks S pc lv (.int i :: va_rf (some b) :: st) := by
  obtain ⟨p, e, s, m, args, below, meth, c⟩ := x9
  obtain ⟨hx, hb, hr, hml, hown, hts, hK, hlocks, hA, hW, -⟩ := C
  intro H locs ls cells slots hP hD hS hc hs hl hT
  obtain ⟨g1, g2, g3⟩ := hX
  exact va_sld hx hb g1 g2 g3 hS h1 hd (k H locs ls cells slots hP hD hS hc hs hl hT)
theorem z_slen (C : Cx l v own cc nL ret nm (x9, X, A, E)) {b L : Nat} {xs : Nat → Int32} (hX : LX b L xs A x9) (hd : decode cc pc = .ok (.arraylength, 1)) (k : ZZ l v nL rm (x9, X, A, E) kc ks S (pc + 1) lv (.int (Int32.ofNat L) :: st)) : ZZ l v nL rm (x9, X, A, E) kc ks S pc lv (va_rf (some b) :: st) := by
  obtain ⟨p, e, s, m, args, below, meth, c⟩ := x9
  obtain ⟨hx, hb, hr, hml, hown, hts, hK, hlocks, hA, hW, -⟩ := C
  intro H locs ls cells slots hP hD hS hc hs hl hT
  obtain ⟨g1, g2, g3⟩ := hX
  exact va_slen hx hb g1 g2 g3 hS hd (k H locs ls cells slots hP hD hS hc hs hl hT)
def h_0 (T : Nat) : Hp := ([], fun _ => 0, fun _ _ => 0, fun _ _ => none, fun _ => 0, fun _ _ => 0, fun _ _ => none, T)
/-- a pool begins -/
theorem z_c1 (k : g_T S = v.2.2.1 → ZZ l v nL rm (x9, X ++ g_w v.2.1 S, A, E) kc ks (h_0 v.2.2.1) pc lv st) : ZZ l v nL rm (x9, X, A, E) kc ks S pc lv st := by
  obtain ⟨p, e, s, m, args, below, meth, c⟩ := x9
  intro H locs ls cells slots hP hD hS hc hs hl hT
  have e1 : X ++ g_w v.2.1 S ++ g_w v.2.1 (h_0 v.2.2.1) = X ++ g_w v.2.1 S := List.append_nil _
  exact k hT H locs ls cells slots (by rw [e1]; exact hP) (by rw [e1]; exact hD) hS hc hs hl rfl
/-- the method that reads the script -/
def CL (l : Launch) (v : Ev) (y : MethodName) (cc : ByteArray) (maxL : Nat) (rm : Room) (args : List Value) (b L : Nat) (xs : Nat → Int32) : Prop :=
  ∀ (sz : Nat), vx_Met l y (Cond.code y cc maxL (some .int) :: BW) rm (va_Pc args (fun U => U.heap.size = sz ∧ WPre v [] (h_0 v.2.2.1) U ∧ va_X b L xs U U.heap ∧ b < U.heap.size)) (QI v (fun _ _ => True) [] (va_A ([] ++ g_w v.2.1 (h_0 v.2.2.1)) sz)) (XQ v (fun _ _ => False) [] (va_A ([] ++ g_w v.2.1 (h_0 v.2.2.1)) sz)) rm.cells rm.slots (va_A ([] ++ g_w v.2.1 (h_0 v.2.2.1)) sz)
theorem not_A0 {cy : Nat → ClassId} {T sz q : Nat} (h : q < sz) : ¬ va_A ([] ++ g_w cy (h_0 T)) sz q := by
  rintro (⟨k, e, hk⟩ | hk)
  · have e0 : ([] ++ g_w cy (h_0 T) : va_W) = [] := rfl
    rw [e0] at hk
    simp at hk
  · omega
theorem z_startL {y : MethodName} {maxL : Nat} {args : List Value} {b L : Nat} {xs : Nat → Int32} (lv : List (Nat × Value)) (hy : plainName y.cls = true) (hlv : lv_args 0 args = lv) (hcat : ∀ q ∈ lv, q.2.category = 1) (hsz : (lg_sl args).length ≤ maxL)
    (body : ∀ (x9 : P9) (A : Nat → Prop) (E : State → Prop), LX b L xs A x9 → Cx l v y.cls cc maxL (some .int) y.name (x9, [], A, E) → EE v rm (QI v (fun _ _ => True)) (fun _ _ => False) (x9, [], A, E) → ZZ l v maxL rm (x9, [], A, E) 0 0 (h_0 v.2.2.1) 0 lv []) : CL l v y cc maxL rm args b L xs := by
  intro sz
  refine vx_ofW hy rfl ?_
  intro p e s m args' below meth c s₁ B hml ht hv
  obtain ⟨rfl, hsz9, ⟨hP, hK, hD, hW, hT⟩, hX, hb⟩ := hv
  have hts := atoms_spec (ws := Cond.code y cc maxL (some .int) :: BW) B.pre
  subst hsz9
  rw [lg_entry_eq]
  refine body (p, e, s, m, args.toArray, below, meth, c) (va_A ([] ++ g_w v.2.1 (h_0 v.2.2.1)) s.heap.size) _ ⟨hX, hb, not_A0 hb⟩ ⟨B.exec, B.bytes, B.returns, hml, findClass_of_methodNamed B.named, fun w hw => hts w (List.mem_cons_of_mem _ hw), hK, B.notSynchronized, fun q hq => Or.inr hq, hW, (name_of_methodNamed B.named B.method).1⟩ rfl s.heap [] _ 0 0 hP hD.self va_S.rf (Nat.le_refl _) (Nat.le_refl _) ⟨?_, fun q hq => Or.inl (hcat q hq)⟩ hT
  rw [← hlv]
  exact lv_entry args hsz
theorem z_SC (C : Cx l v own cc nL ret nm (x9, X, A, E)) {b L : Nat} {xs : Nat → Int32} (hX : LX b L xs A x9) {y : MethodName} {cc' : ByteArray} {nL' n idx : Nat} {rm' : Room} {As rest stk : List Value} {kc' ks' : Nat} (F : CL l v y cc' nL' rm' As b L xs) (M : MW y cc' nL' (some .int) n) (w1 : Cond.methodLink own idx y ∈ BW) (w2 : Cond.static y ∈ BW) (hR : fitR kc ks kc' ks' nL' rm' rm) (hst : stk = As.reverse ++ rest) (hn : As.length = n) (h8 : (rest.map fun v => v.category).sum ≤ 8) (hd : decode cc pc = .ok (.invokestatic idx, 3))
    (k : ∀ r, ZZ l v nL rm (x9, X, A, E) kc' ks' S (pc + 3) lv (.int r :: rest)) : ZZ l v nL rm (x9, X, A, E) kc ks S pc lv stk := by
  obtain ⟨p, e, s, m, args, below, meth, c⟩ := x9
  obtain ⟨hx, hb, hr, hml, hown, hts, hK, hlocks, hA, hW, -⟩ := C
  intro H locs ls cells slots hP hD hS hc hs hl hT
  subst hst
  obtain ⟨g1, g2, g3⟩ := hX
  have hF : ∀ q, va_A ([] ++ g_w v.2.1 (h_0 v.2.2.1)) H.size q → A q := fun q hq => by
    rcases hq with ⟨k, e, hk⟩ | hq
    · have e0 : ([] ++ g_w v.2.1 (h_0 v.2.2.1) : va_W) = [] := rfl
      rw [e0] at hk
      simp at hk
    · exact hA q (Nat.le_trans hS.1 hq)
  have hR2 := hR
  obtain ⟨r1, r2, r3, r4, r5, r6⟩ := hR2
  have g4 : va_X b L xs s H := g1.kept (hS.2.1 b g2 g3)
  have hpre : PreS s H (va_Pc As (fun U => U.heap.size = H.size ∧ WPre v [] (h_0 v.2.2.1) U ∧ va_X b L xs U U.heap ∧ b < U.heap.size)) As := by
    refine ⟨?_, fun U hU hw => ⟨rfl, by rw [hU], ⟨fun k q hk => ?_, va_K.moved hw.alike hK, ⟨fun i j p q hi => ?_, fun k q hk => trivial⟩, ?_, rfl⟩, ?_, ?_⟩⟩
    · intro a U g mk h
      obtain ⟨h1, h2, h3, h4, h5⟩ := h
      exact ⟨h1, h2, (pre_blind (v := v) (X := []) (S := h_0 v.2.2.1) (args := As) (sz := H.size) a U g mk ⟨h1, h2, h3⟩).2.2, va_X.moved (u := U) (U := U.calling g mk a) (Vm.Alike.refl U.vm) h4, h5⟩
    · have e0 : ([] ++ g_w v.2.1 (h_0 v.2.2.1) : va_W) = [] := rfl
      rw [e0] at hk
      simp at hk
    · have e0 : ([] ++ g_w v.2.1 (h_0 v.2.2.1) : va_W) = [] := rfl
      rw [e0] at hi
      simp at hi
    · rw [hU]
      exact ((hW.kept (H1 := H) hS.2.1).narrow hF).warm hw
    · rw [hU]
      exact va_X.moved hw.alike g4
    · rw [hU]
      exact Nat.lt_of_lt_of_le g2 hS.1
  exact vx_calli (vx_runS (As := As) (rest := rest) ⟨hx, hb, hml, hown, hts⟩ (F H.size) ⟨callB9 hts M w1 hR, hts _ w2⟩ hpre rfl hn hl.1.1 rfl (by show 2 * 0 + _ ≤ 8; omega) hd ⟨by omega, by omega⟩) hS (fun q _ h9 => hF q h9) hF (fun q _ h9 => hF q h9) (fun En ce q9 u t H1 locs1 ht hvm _ hB hz hk hS1 hce hcv hcl => hB.1.elim) (fun r u t H1 locs1 ht hvm hp hB hz hk hS1 => k r H1 locs1 ls (cells + rm'.cells) (slots + rm'.slots) (hP.kept (fun k q hq => hk q.1 (hP k q hq).lt (not_A0 (hP k q hq).lt))) hD hS1 (by omega) (by omega) hl hT)
/-! c ? a : b of two numbers that are written: one way on -/
theorem z_t_icmp_eq {z : Z9} (C : Cx l v own cc nL ret nm z) {x y : Int32} {a b : Int} {u w : Int32} (d0 : decode cc pc = .ok (.if_icmp .eq 7, 3)) (d1 : decode cc (pc + 3) = .ok (.iconst a, 1)) (hu : Int32.ofInt a = u) (d2 : decode cc (pc + 4) = .ok (.goto 4, 3)) (d3 : decode cc (pc + 7) = .ok (.iconst b, 1)) (hw : Int32.ofInt b = w) (k : ZZ l v nL rm z kc ks S (pc + 8) lv (.int (if x = y then w else u) :: st)) : ZZ l v nL rm z kc ks S pc lv (.int y :: .int x :: st) := by
  refine z_icmp_eq C (pc := pc) (tgt := pc + 7) (P := x = y) (N := ¬ (x = y)) d0 (by omega) (by by_cases e8 : x = y <;> simp [e8]) (fun e9 => ?_) (fun e9 => ?_)
  · rw [if_pos e9] at k
    exact z_iconst C (pc := pc + 7) d3 hw k
  · rw [if_neg e9] at k
    refine z_iconst C (pc := pc + 3) d1 hu ?_
    exact z_goto C (pc := pc + 4) (tgt := pc + 8) d2 (by omega) k
theorem z_t_if_eq {z : Z9} (C : Cx l v own cc nL ret nm z) {x : Int32} {a b : Int} {u w : Int32} (d0 : decode cc pc = .ok (.ifCond .eq 7, 3)) (d1 : decode cc (pc + 3) = .ok (.iconst a, 1)) (hu : Int32.ofInt a = u) (d2 : decode cc (pc + 4) = .ok (.goto 4, 3)) (d3 : decode cc (pc + 7) = .ok (.iconst b, 1)) (hw : Int32.ofInt b = w) (k : ZZ l v nL rm z kc ks S (pc + 8) lv (.int (if x = 0 then w else u) :: st)) : ZZ l v nL rm z kc ks S pc lv (.int x :: st) := by
  refine z_if_eq C (pc := pc) (tgt := pc + 7) (P := x = 0) (N := ¬ (x = 0)) d0 (by omega) (by by_cases e8 : x = 0 <;> simp [e8]) (fun e9 => ?_) (fun e9 => ?_)
  · rw [if_pos e9] at k
    exact z_iconst C (pc := pc + 7) d3 hw k
  · rw [if_neg e9] at k
    refine z_iconst C (pc := pc + 3) d1 hu ?_
    exact z_goto C (pc := pc + 4) (tgt := pc + 8) d2 (by omega) k
theorem z_t_icmp_ne {z : Z9} (C : Cx l v own cc nL ret nm z) {x y : Int32} {a b : Int} {u w : Int32} (d0 : decode cc pc = .ok (.if_icmp .ne 7, 3)) (d1 : decode cc (pc + 3) = .ok (.iconst a, 1)) (hu : Int32.ofInt a = u) (d2 : decode cc (pc + 4) = .ok (.goto 4, 3)) (d3 : decode cc (pc + 7) = .ok (.iconst b, 1)) (hw : Int32.ofInt b = w) (k : ZZ l v nL rm z kc ks S (pc + 8) lv (.int (if x = y then u else w) :: st)) : ZZ l v nL rm z kc ks S pc lv (.int y :: .int x :: st) := by
  refine z_icmp_ne C (pc := pc) (tgt := pc + 7) (P := ¬ (x = y)) (N := x = y) d0 (by omega) (by by_cases e8 : x = y <;> simp [e8]) (fun e9 => ?_) (fun e9 => ?_)
  · rw [if_neg e9] at k
    exact z_iconst C (pc := pc + 7) d3 hw k
  · rw [if_pos e9] at k
    refine z_iconst C (pc := pc + 3) d1 hu ?_
    exact z_goto C (pc := pc + 4) (tgt := pc + 8) d2 (by omega) k
theorem z_t_if_ne {z : Z9} (C : Cx l v own cc nL ret nm z) {x : Int32} {a b : Int} {u w : Int32} (d0 : decode cc pc = .ok (.ifCond .ne 7, 3)) (d1 : decode cc (pc + 3) = .ok (.iconst a, 1)) (hu : Int32.ofInt a = u) (d2 : decode cc (pc + 4) = .ok (.goto 4, 3)) (d3 : decode cc (pc + 7) = .ok (.iconst b, 1)) (hw : Int32.ofInt b = w) (k : ZZ l v nL rm z kc ks S (pc + 8) lv (.int (if x = 0 then u else w) :: st)) : ZZ l v nL rm z kc ks S pc lv (.int x :: st) := by
  refine z_if_ne C (pc := pc) (tgt := pc + 7) (P := ¬ (x = 0)) (N := x = 0) d0 (by omega) (by by_cases e8 : x = 0 <;> simp [e8]) (fun e9 => ?_) (fun e9 => ?_)
  · rw [if_neg e9] at k
    exact z_iconst C (pc := pc + 7) d3 hw k
  · rw [if_pos e9] at k
    refine z_iconst C (pc := pc + 3) d1 hu ?_
    exact z_goto C (pc := pc + 4) (tgt := pc + 8) d2 (by omega) k
theorem z_t_icmp_lt {z : Z9} (C : Cx l v own cc nL ret nm z) {x y : Int32} {a b : Int} {u w : Int32} (d0 : decode cc pc = .ok (.if_icmp .lt 7, 3)) (d1 : decode cc (pc + 3) = .ok (.iconst a, 1)) (hu : Int32.ofInt a = u) (d2 : decode cc (pc + 4) = .ok (.goto 4, 3)) (d3 : decode cc (pc + 7) = .ok (.iconst b, 1)) (hw : Int32.ofInt b = w) (k : ZZ l v nL rm z kc ks S (pc + 8) lv (.int (if x < y then w else u) :: st)) : ZZ l v nL rm z kc ks S pc lv (.int y :: .int x :: st) := by
  refine z_icmp_lt C (pc := pc) (tgt := pc + 7) (P := x < y) (N := ¬ (x < y)) d0 (by omega) (by by_cases e8 : x < y <;> simp [e8]) (fun e9 => ?_) (fun e9 => ?_)
  · rw [if_pos e9] at k
    exact z_iconst C (pc := pc + 7) d3 hw k
  · rw [if_neg e9] at k
    refine z_iconst C (pc := pc + 3) d1 hu ?_
    exact z_goto C (pc := pc + 4) (tgt := pc + 8) d2 (by omega) k
theorem z_t_if_lt {z : Z9} (C : Cx l v own cc nL ret nm z) {x : Int32} {a b : Int} {u w : Int32} (d0 : decode cc pc = .ok (.ifCond .lt 7, 3)) (d1 : decode cc (pc + 3) = .ok (.iconst a, 1)) (hu : Int32.ofInt a = u) (d2 : decode cc (pc + 4) = .ok (.goto 4, 3)) (d3 : decode cc (pc + 7) = .ok (.iconst b, 1)) (hw : Int32.ofInt b = w) (k : ZZ l v nL rm z kc ks S (pc + 8) lv (.int (if x < 0 then w else u) :: st)) : ZZ l v nL rm z kc ks S pc lv (.int x :: st) := by
  refine z_if_lt C (pc := pc) (tgt := pc + 7) (P := x < 0) (N := ¬ (x < 0)) d0 (by omega) (by by_cases e8 : x < 0 <;> simp [e8]) (fun e9 => ?_) (fun e9 => ?_)
  · rw [if_pos e9] at k
    exact z_iconst C (pc := pc + 7) d3 hw k
  · rw [if_neg e9] at k
    refine z_iconst C (pc := pc + 3) d1 hu ?_
    exact z_goto C (pc := pc + 4) (tgt := pc + 8) d2 (by omega) k
theorem z_t_icmp_ge {z : Z9} (C : Cx l v own cc nL ret nm z) {x y : Int32} {a b : Int} {u w : Int32} (d0 : decode cc pc = .ok (.if_icmp .ge 7, 3)) (d1 : decode cc (pc + 3) = .ok (.iconst a, 1)) (hu : Int32.ofInt a = u) (d2 : decode cc (pc + 4) = .ok (.goto 4, 3)) (d3 : decode cc (pc + 7) = .ok (.iconst b, 1)) (hw : Int32.ofInt b = w) (k : ZZ l v nL rm z kc ks S (pc + 8) lv (.int (if y ≤ x then w else u) :: st)) : ZZ l v nL rm z kc ks S pc lv (.int y :: .int x :: st) := by
  refine z_icmp_ge C (pc := pc) (tgt := pc + 7) (P := y ≤ x) (N := ¬ (y ≤ x)) d0 (by omega) (by by_cases e8 : y ≤ x <;> simp [e8]) (fun e9 => ?_) (fun e9 => ?_)
  · rw [if_pos e9] at k
    exact z_iconst C (pc := pc + 7) d3 hw k
  · rw [if_neg e9] at k
    refine z_iconst C (pc := pc + 3) d1 hu ?_
    exact z_goto C (pc := pc + 4) (tgt := pc + 8) d2 (by omega) k
theorem z_t_if_ge {z : Z9} (C : Cx l v own cc nL ret nm z) {x : Int32} {a b : Int} {u w : Int32} (d0 : decode cc pc = .ok (.ifCond .ge 7, 3)) (d1 : decode cc (pc + 3) = .ok (.iconst a, 1)) (hu : Int32.ofInt a = u) (d2 : decode cc (pc + 4) = .ok (.goto 4, 3)) (d3 : decode cc (pc + 7) = .ok (.iconst b, 1)) (hw : Int32.ofInt b = w) (k : ZZ l v nL rm z kc ks S (pc + 8) lv (.int (if 0 ≤ x then w else u) :: st)) : ZZ l v nL rm z kc ks S pc lv (.int x :: st) := by
  refine z_if_ge C (pc := pc) (tgt := pc + 7) (P := 0 ≤ x) (N := ¬ (0 ≤ x)) d0 (by omega) (by by_cases e8 : 0 ≤ x <;> simp [e8]) (fun e9 => ?_) (fun e9 => ?_)
  · rw [if_pos e9] at k
    exact z_iconst C (pc := pc + 7) d3 hw k
  · rw [if_neg e9] at k
    refine z_iconst C (pc := pc + 3) d1 hu ?_
    exact z_goto C (pc := pc + 4) (tgt := pc + 8) d2 (by omega) k
theorem z_t_icmp_gt {z : Z9} (C : Cx l v own cc nL ret nm z) {x y : Int32} {a b : Int} {u w : Int32} (d0 : decode cc pc = .ok (.if_icmp .gt 7, 3)) (d1 : decode cc (pc + 3) = .ok (.iconst a, 1)) (hu : Int32.ofInt a = u) (d2 : decode cc (pc + 4) = .ok (.goto 4, 3)) (d3 : decode cc (pc + 7) = .ok (.iconst b, 1)) (hw : Int32.ofInt b = w) (k : ZZ l v nL rm z kc ks S (pc + 8) lv (.int (if y < x then w else u) :: st)) : ZZ l v nL rm z kc ks S pc lv (.int y :: .int x :: st) := by
  refine z_icmp_gt C (pc := pc) (tgt := pc + 7) (P := y < x) (N := ¬ (y < x)) d0 (by omega) (by by_cases e8 : y < x <;> simp [e8]) (fun e9 => ?_) (fun e9 => ?_)
  · rw [if_pos e9] at k
    exact z_iconst C (pc := pc + 7) d3 hw k
  · rw [if_neg e9] at k
    refine z_iconst C (pc := pc + 3) d1 hu ?_
    exact z_goto C (pc := pc + 4) (tgt := pc + 8) d2 (by omega) k
theorem z_t_if_gt {z : Z9} (C : Cx l v own cc nL ret nm z) {x : Int32} {a b : Int} {u w : Int32} (d0 : decode cc pc = .ok (.ifCond .gt 7, 3)) (d1 : decode cc (pc + 3) = .ok (.iconst a, 1)) (hu : Int32.ofInt a = u) (d2 : decode cc (pc + 4) = .ok (.goto 4, 3)) (d3 : decode cc (pc + 7) = .ok (.iconst b, 1)) (hw : Int32.ofInt b = w) (k : ZZ l v nL rm z kc ks S (pc + 8) lv (.int (if 0 < x then w else u) :: st)) : ZZ l v nL rm z kc ks S pc lv (.int x :: st) := by
  refine z_if_gt C (pc := pc) (tgt := pc + 7) (P := 0 < x) (N := ¬ (0 < x)) d0 (by omega) (by by_cases e8 : 0 < x <;> simp [e8]) (fun e9 => ?_) (fun e9 => ?_)
  · rw [if_pos e9] at k
    exact z_iconst C (pc := pc + 7) d3 hw k
  · rw [if_neg e9] at k
    refine z_iconst C (pc := pc + 3) d1 hu ?_
    exact z_goto C (pc := pc + 4) (tgt := pc + 8) d2 (by omega) k
theorem z_t_icmp_le {z : Z9} (C : Cx l v own cc nL ret nm z) {x y : Int32} {a b : Int} {u w : Int32} (d0 : decode cc pc = .ok (.if_icmp .le 7, 3)) (d1 : decode cc (pc + 3) = .ok (.iconst a, 1)) (hu : Int32.ofInt a = u) (d2 : decode cc (pc + 4) = .ok (.goto 4, 3)) (d3 : decode cc (pc + 7) = .ok (.iconst b, 1)) (hw : Int32.ofInt b = w) (k : ZZ l v nL rm z kc ks S (pc + 8) lv (.int (if x ≤ y then w else u) :: st)) : ZZ l v nL rm z kc ks S pc lv (.int y :: .int x :: st) := by
  refine z_icmp_le C (pc := pc) (tgt := pc + 7) (P := x ≤ y) (N := ¬ (x ≤ y)) d0 (by omega) (by by_cases e8 : x ≤ y <;> simp [e8]) (fun e9 => ?_) (fun e9 => ?_)
  · rw [if_pos e9] at k
    exact z_iconst C (pc := pc + 7) d3 hw k
  · rw [if_neg e9] at k
    refine z_iconst C (pc := pc + 3) d1 hu ?_
    exact z_goto C (pc := pc + 4) (tgt := pc + 8) d2 (by omega) k
theorem z_t_if_le {z : Z9} (C : Cx l v own cc nL ret nm z) {x : Int32} {a b : Int} {u w : Int32} (d0 : decode cc pc = .ok (.ifCond .le 7, 3)) (d1 : decode cc (pc + 3) = .ok (.iconst a, 1)) (hu : Int32.ofInt a = u) (d2 : decode cc (pc + 4) = .ok (.goto 4, 3)) (d3 : decode cc (pc + 7) = .ok (.iconst b, 1)) (hw : Int32.ofInt b = w) (k : ZZ l v nL rm z kc ks S (pc + 8) lv (.int (if x ≤ 0 then w else u) :: st)) : ZZ l v nL rm z kc ks S pc lv (.int x :: st) := by
  refine z_if_le C (pc := pc) (tgt := pc + 7) (P := x ≤ 0) (N := ¬ (x ≤ 0)) d0 (by omega) (by by_cases e8 : x ≤ 0 <;> simp [e8]) (fun e9 => ?_) (fun e9 => ?_)
  · rw [if_pos e9] at k
    exact z_iconst C (pc := pc + 7) d3 hw k
  · rw [if_neg e9] at k
    refine z_iconst C (pc := pc + 3) d1 hu ?_
    exact z_goto C (pc := pc + 4) (tgt := pc + 8) d2 (by omega) k
end ZL3
