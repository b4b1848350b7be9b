/-! THE LAW'S OWN ROWS: the answer's array beside the pools, its wrappers with handlers, the script, two pools that take turns -/
abbrev wl (cy : Nat → ClassId) (o : Nat) (f : Nat → Int64) (Y : va_W) : va_W := (o, .inl (cy 16, 1, .inr (.inl f))) :: Y
section ZL
variable {l : Launch} {v : Ev} {own : String} {cc : ByteArray} {nL : Nat} {ret : Option FieldType} {rm : Room} {nm : String} {x9 : P9} {X : va_W} {A : Nat → Prop} {E : State → Prop} {kc ks : Nat} {S : Hp} {pc : Nat} {lv : List (Nat × Value)} {st : List Value} {o : Nat} {f : Nat → Int64} {Y : va_W}
def QW (v : Ev) (o : Nat) (Q : Int32 → Hp → (Nat → Int64) → Prop) (Y : va_W) (A : Nat → Prop) : Array Value → State → Outcome → State → Prop := va_Qi (fun r (u : Hp × (Nat → Int64)) => Q r u.1 u.2) (fun u U => WPo v (wl v.2.1 o u.2 Y) u.1 A U) A
def EW (v : Ev) (rm : Room) (o : Nat) (Q : Int32 → Hp → (Nat → Int64) → Prop) (X0 Y : va_W) (A : Nat → Prop) (E : State → Prop) (x9 : P9) : Prop := match x9 with
  | (_, _, s, _, args, below, _, _) => E = vx_MQ below (QW v o Q Y A) (XQ v (fun _ _ => False) X0 A) args s rm.cells rm.slots A
def CW (l : Launch) (v : Ev) (y : MethodName) (cc : ByteArray) (maxL : Nat) (hh : List (Nat × Nat × Nat × Nat)) (rm : Room) (args : List Value) (o : Nat) (f : Nat → Int64) (S : Hp) (wp : (Int32 → Hp → (Nat → Int64) → Prop) → Prop) : Prop :=
  ∀ (Y : va_W) (sz : Nat) (Q : Int32 → Hp → (Nat → Int64) → Prop), wp Q → vx_Met l y (Cond.codeWith y cc maxL (some .int) hh :: BW) rm (va_Pc args (fun U => U.heap.size = sz ∧ WPre v (wl v.2.1 o f Y) S U)) (QW v o Q Y (va_A (wl v.2.1 o f Y ++ g_w v.2.1 S) sz)) (XQ v (fun _ _ => False) (wl v.2.1 o f Y) (va_A (wl v.2.1 o f Y ++ g_w v.2.1 S) sz)) rm.cells rm.slots (va_A (wl v.2.1 o f Y ++ g_w v.2.1 S) sz)
theorem z_startW {y : MethodName} {maxL : Nat} {hh : List (Nat × Nat × Nat × Nat)} {args : List Value} {wp : (Int32 → Hp → (Nat → Int64) → Prop) → Prop} (lv : List (Nat × Value)) (hcw : Cond.codeWith y cc maxL (some .int) hh ∈ BW) (hy : plainName y.cls = true) (hlv : lv_args 0 args = lv) (hcat : ∀ q ∈ lv, q.2.category = 1) (hsz : (lg_sl args).length ≤ maxL)
    (body : ∀ (x9 : P9) (A : Nat → Prop) (E : State → Prop) (Y : va_W) (Q : Int32 → Hp → (Nat → Int64) → Prop), wp Q → (∀ X, Cx l v y.cls cc maxL (some .int) y.name (x9, X, A, E)) → TB hh (x9, [], A, E) → EW v rm o Q (wl v.2.1 o f Y) Y A E x9 → ZZ l v maxL rm (x9, wl v.2.1 o f Y, A, E) 0 0 S 0 lv []) : CW l v y cc maxL hh rm args o f S wp := by
  intro Y sz Q hwp
  refine vx_ofWH hy rfl ?_
  intro p e s m args' below meth c s₁ B hml hv
  obtain ⟨rfl, hsz9, hP, hK, hD, hW, hT⟩ := hv
  have hts := atoms_spec (ws := Cond.codeWith y cc maxL (some .int) hh :: BW) B.pre
  subst hsz9
  rw [lg_entry_eq]
  refine body (p, e, s, m, args.toArray, below, meth, c) (va_A (wl v.2.1 o f Y ++ g_w v.2.1 S) s.heap.size) _ Y Q hwp (fun X => ⟨B.exec, B.bytes, B.returns, hml, findClass_of_methodNamed B.named, fun w hw => hts w (List.mem_cons_of_mem _ hw), hK, B.notSynchronized, fun q hq => Or.inr hq, hW, (name_of_methodNamed B.named B.method).1⟩) (vx_table (x := y) B (hts _ List.mem_cons_self)) rfl s.heap [] _ 0 0 hP hD.self va_S.rf (Nat.le_refl _) (Nat.le_refl _) ⟨?_, hcat⟩ hT
  rw [← hlv]
  exact lv_entry args hsz
theorem z_wret {X0 : va_W} {Q : Int32 → Hp → (Nat → Int64) → Prop} {r : Int32} (C : Cx l v own cc nL (some .int) nm (x9, X, A, E)) (T : EW v rm o Q X0 Y A E x9) (hd : decode cc pc = .ok (.ireturn, 1)) (hk : kc ≤ rm.cells) (hk2 : ks ≤ rm.slots) (h : Q r S f) : ZZ l v nL rm (x9, wl v.2.1 o f Y, A, E) kc ks S pc lv [.int r] := by
  obtain ⟨p, e, s, m, args, below, meth, c⟩ := x9
  obtain ⟨hx, hb, hr, hml, hown, hts, hK, hlocks, -⟩ := C
  intro H locs ls cells slots hP hD hS hc hs hl hT
  obtain rfl : E = _ := T
  refine vx_ret (W.widen (Nat.le_trans hc hk) (Nat.le_trans hs hk2) (W.iret hx hb hr (fun t ht hW => ⟨⟨r, (S, f), rfl, h, by rw [ht]; exact hP, hD, hT⟩, hS.F ht⟩) hS.2.2 hd))
theorem z_last (C : Cx l v own cc nL ret nm (x9, X, A, E)) {i : Int32} {x : Int64} (hd : decode cc pc = .ok (.lastore, 1)) (h1 : vp_in i 1) (k : ZZ l v nL rm (x9, wl v.2.1 o (vp_updL f i.toNatClampNeg x) Y, A, E) kc ks S (pc + 1) lv st) : ZZ l v nL rm (x9, wl v.2.1 o f Y, A, E) kc ks S pc lv (.long x :: .int i :: va_rf (some o) :: st) := by
  obtain ⟨p, e, s, m, args, below, meth, c⟩ := x9
  obtain ⟨hx, hb, hr, hml, hown, hts, hK, hlocks, -⟩ := C
  intro H locs ls cells slots hP hD hS hc hs hl hT
  exact va_last hx hb hK hP hD hS 0 5 rfl rfl h1 hd (fun H1 locs1 hP1 hD1 hS1 => k H1 locs1 ls cells slots hP1 hD1 hS1 hc hs hl hT)
theorem z_lald (C : Cx l v own cc nL ret nm (x9, X, A, E)) {i : Int32} (hd : decode cc pc = .ok (.laload, 1)) (h1 : vp_in i 1) (k : ZZ l v nL rm (x9, wl v.2.1 o f Y, A, E) kc ks S (pc + 1) lv (.long (f i.toNatClampNeg) :: st)) : ZZ l v nL rm (x9, wl v.2.1 o f Y, A, E) kc ks S pc lv (.int i :: va_rf (some o) :: st) := by
  obtain ⟨p, e, s, m, args, below, meth, c⟩ := x9
  obtain ⟨hx, hb, hr, hml, hown, hts, hK, hlocks, -⟩ := C
  intro H locs ls cells slots hP hD hS hc hs hl hT
  exact va_lald hx hb hK hP 0 5 rfl rfl h1 hd (k H locs ls cells slots hP hD hS hc hs hl hT)
def LX (b L : Nat) (xs : Nat → Int32) (A : Nat → Prop) (x9 : P9) : Prop := match x9 with
  | (_, _, s, _, _, _, _, _) => va_X b L xs s s.heap ∧ b < s.heap.size ∧ ¬ A b
theorem z_sld (C : Cx l v own cc nL ret nm (x9, X, A, E)) {b L : Nat} {xs : Nat → Int32} (hX : LX b L xs A x9) {i : Int32} (hd : decode cc pc = .ok (.iaload, 1)) (h1 : vp_in i L) (k : ZZ l v nL rm (x9, X, A, E) kc ks S (pc + 1) lv (.int (xs i.toNatClampNeg) :: st)) : ZZ l v nL rm (x9, X, A, E) kc ks S pc lv (.int i :: va_rf (some b) :: st) := by
  obtain ⟨p, e, s, m, args, below, meth, c⟩ := x9
  obtain ⟨hx, hb, hr, hml, hown, hts, hK, hlocks, -⟩ := C
  intro H locs ls cells slots hP hD hS hc hs hl hT
  obtain ⟨g1, g2, g3⟩ := hX
  exact va_sld hx hb g1 g2 g3 hS h1 hd (k H locs ls cells slots hP hD hS hc hs hl hT)
theorem z_slen (C : Cx l v own cc nL ret nm (x9, X, A, E)) {b L : Nat} {xs : Nat → Int32} (hX : LX b L xs A x9) (hd : decode cc pc = .ok (.arraylength, 1)) (k : ZZ l v nL rm (x9, X, A, E) kc ks S (pc + 1) lv (.int (Int32.ofNat L) :: st)) : ZZ l v nL rm (x9, X, A, E) kc ks S pc lv (va_rf (some b) :: st) := by
  obtain ⟨p, e, s, m, args, below, meth, c⟩ := x9
  obtain ⟨hx, hb, hr, hml, hown, hts, hK, hlocks, -⟩ := C
  intro H locs ls cells slots hP hD hS hc hs hl hT
  obtain ⟨g1, g2, g3⟩ := hX
  exact va_slen hx hb g1 g2 g3 hS hd (k H locs ls cells slots hP hD hS hc hs hl hT)
/-- caught by a row of the table -/
theorem z_catch (C : Cx l v own cc nL ret nm (x9, X, A, E)) {hh : List (Nat × Nat × Nat × Nat)} {En : String} (TBh : TB hh (x9, [], A, E)) (pre : List ExceptionTableEntry) (x : ExceptionTableEntry) (suf : List ExceptionTableEntry) (hsplit : tableOf hh = pre ++ x :: suf)
    (hpass : ∀ z ∈ pre, z.catchType ≠ 0 ∧ ∃ nm9 : String, Cond.classLink own z.catchType nm9 ∈ BW ∧ (En, nm9) ∈ NCL) (hx9 : covers x pc = true) (h0 : x.catchType ≠ 0) (hlink : Cond.classLink own x.catchType En ∈ BW) (hcast : Cond.castable En En ∈ NW) {tgt : Nat} (hp : x.handlerPc = tgt)
    (k : ∀ q9, ZZ l v nL rm (x9, X, A, E) kc ks S tgt lv [va_rf (some q9)]) : ZX l v nL rm (x9, X, A, E) kc ks En S pc lv := by
  obtain ⟨p, e, s, m, args, below, meth, c⟩ := x9
  obtain ⟨hx, hb, hr, hml, hown, hts, hK, hlocks, hA, hW, -⟩ := C
  intro H locs ls cells slots rest q9 ce hP hD hS hc hs hl hT hce hcv hcl
  subst hp
  have hh9 : c.exceptionTable.toList = tableOf hh := TBh
  exact vx_catch hown pre x suf (hh9.trans hsplit) (fun z hz => by
    obtain ⟨z1, n9, z2, z3⟩ := hpass z hz
    exact Or.inr ⟨z1, n9, hts _ z2, hW.2.2.2.2.2.2.2 _ z3⟩) hx9 h0 (hts _ hlink) (va_Nw.use rfl (hW.1 _ hcast)) hce hcv hcl (k q9 H locs ls cells slots hP hD hS hc hs hl hT)
theorem bw_inW {s : State} {args : Array Value} {y : MethodName} {cc : ByteArray} {nL : Nat} {ret : Option FieldType} {hh : List (Nat × Nat × Nat × Nat)} (hts : ∀ w ∈ BW, w.before args s = true) (hc : Cond.codeWith y cc nL ret hh ∈ BW) : ∀ w ∈ Cond.codeWith y cc nL ret hh :: BW, ∀ (a' : Array Value) (U : State), s.WarmedH U.vm → w.before a' U = true := by
  intro w hw a' U hW
  have hb : w ∈ BW := by
    rcases List.mem_cons.mp hw with rfl | hw
    · exact hc
    · exact hw
  exact word_at hW (bw_good hb) (hts w hb)
/-- the law calls a wrapper -/
theorem z_SL (C : Cx l v own cc nL ret nm (x9, X, A, E)) {y : MethodName} {cc' : ByteArray} {nL' n idx : Nat} {hh : List (Nat × Nat × Nat × Nat)} {rm' : Room} {As rest stk : List Value} {kc' ks' : Nat} {K : Int32 → Hp → (Nat → Int64) → Prop} {wp : (Int32 → Hp → (Nat → Int64) → Prop) → Prop} (F : CW l v y cc' nL' hh rm' As o f S wp) (m2 : Cond.codeWith y cc' nL' (some .int) hh ∈ BW) (m1 : Cond.initialized y.cls ∈ BW) (m3 : y.cls ≠ "java/lang/invoke/MethodHandle" ∧ y.cls ≠ "java/lang/invoke/VarHandle") (m4 : (parseMethodDescriptor y.desc).map (fun d => d.parameters.length) = some n) (w1 : Cond.methodLink own idx y ∈ BW) (w2 : Cond.static y ∈ BW) (hR : fitR kc ks kc' ks' nL' rm' rm) (hst : stk = As.reverse ++ rest) (hn : As.length = n) (h8 : 2 * rest.length ≤ 8) (hd : decode cc pc = .ok (.invokestatic idx, 3)) (h : wp K)
    (k : ∀ r S1 f1, K r S1 f1 → ZZ l v nL rm (x9, wl v.2.1 o f1 Y, A, E) kc' ks' S1 (pc + 3) lv (.int r :: rest)) : ZZ l v nL rm (x9, wl v.2.1 o f Y, A, E) kc ks S pc lv stk := by
  obtain ⟨p, e, s, m, args, below, meth, c⟩ := x9
  obtain ⟨hx, hb, hr, hml, hown, hts, hK, hlocks, hA, hW, -⟩ := C
  intro H locs ls cells slots hP hD hS hc hs hl hT
  subst hst
  have hF := wA hD hS hA
  have hR2 := hR
  obtain ⟨r1, r2, r3, r4, r5, r6⟩ := hR2
  have hcat := cat_le rest
  have cw : vx_CSW rm s args own idx y cc' nL' (some .int) hh (Cond.codeWith y cc' nL' (some .int) hh :: BW) rm' rm'.cells rm'.slots n := ⟨⟨rfl, rfl, r5, r6, bw_inW hts m2, List.mem_cons_self⟩, hts _ m2, hts _ m1, m3, fun sig h => by rw [h] at m4; exact (Option.some.inj m4).symm, hts _ w1, hts _ w2⟩
  exact vx_calli (vx_runSX (As := As) (rest := rest) ⟨hx, hb, hml, hown, hts⟩ (F Y H.size K h) cw (pre_at (As := As) hP hD hS hK hA hW hT) rfl hn hl.1.1 rfl (by show 2 * 0 + _ ≤ 8; omega) hd ⟨by omega, by omega⟩) hS (fun q _ h9 => hF q h9) hF (fun q _ h9 => hF q h9) (fun En ce q9 u t H1 locs1 ht hvm _ hB hz hk hS1 hce hcv hcl => hB.1.elim) (fun r u t H1 locs1 ht hvm hp hB hz hk hS1 => k r u.1 u.2 hp H1 locs1 ls (cells + rm'.cells) (slots + rm'.slots) (by rw [← ht]; exact hB.1) (hB.2.1.weaken (fun _ q _ h9 => hF q.1 h9)) hS1 (by omega) (by omega) hl hB.2.2)
/-- the pools change their roles -/
theorem z_sw {S2 : Hp} (hT2 : g_T S2 = v.2.2.1) (k : g_T S = v.2.2.1 → ZZ l v nL rm (x9, wl v.2.1 o f (g_w v.2.1 S), A, E) kc ks S2 pc lv st) : ZZ l v nL rm (x9, wl v.2.1 o f (g_w v.2.1 S2), A, E) kc ks S pc lv st := by
  obtain ⟨p, e, s, m, args, below, meth, c⟩ := x9
  intro H locs ls cells slots hP hD hS hc hs hl hT
  exact k hT H locs ls cells slots (va_P.swap (a := [(o, .inl (v.2.1 16, 1, .inr (.inl f)))]) hP) (va_D.swap (a := [(o, .inl (v.2.1 16, 1, .inr (.inl f)))]) hD) hS hc hs hl hT2
def h_0 (T : Nat) : Hp := ([], fun _ => 0, fun _ _ => 0, fun _ _ => none, fun _ => 0, fun _ _ => 0, fun _ _ => none, T)
/-- a second pool begins -/
theorem z_c1 (k : g_T S = v.2.2.1 → ZZ l v nL rm (x9, g_w v.2.1 S, A, E) kc ks (h_0 v.2.2.1) pc lv st) : ZZ l v nL rm (x9, [], A, E) kc ks S pc lv st := by
  obtain ⟨p, e, s, m, args, below, meth, c⟩ := x9
  intro H locs ls cells slots hP hD hS hc hs hl hT
  have e1 : g_w v.2.1 S ++ g_w v.2.1 (h_0 v.2.2.1) = [] ++ g_w v.2.1 S := List.append_nil _
  exact k hT H locs ls cells slots (by rw [e1]; exact hP) (by rw [e1]; exact hD) hS hc hs hl rfl
theorem z_newL (C : Cx l v own cc nL ret nm (x9, Y, A, E)) {n : Int32} {kc' ks' : Nat} (w1 : Cond.arrayClass .long ∈ BW) (hd : decode cc pc = .ok (.newarray .long, 2)) (hn : n = 1) (hk1 : kc + 1 ≤ kc') (hk2 : kc' ≤ rm.cells) (hs1 : ks + 1 ≤ ks') (hs2 : ks' ≤ rm.slots)
    (k : ∀ o, ZZ l v nL rm (x9, wl v.2.1 o (fun _ => 0) Y, A, E) kc' ks' S (pc + 2) lv (va_rf (some o) :: st)) : ZZ l v nL rm (x9, Y, A, E) kc ks S pc lv (.int n :: st) := by
  obtain ⟨p, e, s, m, args, below, meth, c⟩ := x9
  obtain ⟨hx, hb, hr, hml, hown, hts, hK, hlocks, hA, hW, -⟩ := C
  intro H locs ls cells slots hP hD hS hc hs hl hT
  subst hn
  refine va_newa (atype := .long) (ty := .long) (a0 := (1, .inr (.inl (fun _ => 0)))) hx hb (hts _ w1) rfl hK hP hD hS hA (fun _ => rfl) (by decide) (by decide) (by decide) (by omega) (by omega) hd (fun q cA H1 hK1 hP1 hD1 hS1 => ?_)
  have e1 : cA = v.2.1 16 := cy_of (t0 := 5) hK rfl ((hK1.2 6 (cA, .long) rfl).2)
  subst e1
  have hP2 := va_P.swap (a := []) (b := Y ++ g_w v.2.1 S) hP1
  have hD2 := va_D.swap (a := []) (b := Y ++ g_w v.2.1 S) hD1
  exact k q H1 locs ls (cells + 1) (slots + 1) hP2 hD2 hS1 (by omega) (by omega) hl hT
end ZL
