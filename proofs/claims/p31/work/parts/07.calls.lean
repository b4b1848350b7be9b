/-! ROWS THAT MAKE, CALL, END -/
section ZM
variable {l : Launch} {v : Ev} {own : String} {cc : ByteArray} {nL : Nat} {ret : Option FieldType} {rm : Room} {nm : String} {z : Z9} {kc ks : Nat} {S : Hp} {pc : Nat} {lv : List (Nat × Value)} {st : List Value}
theorem dfs_new (κ : Nat) (S : Hp) (a : Nat) : fs (n_O κ S a) κ a = (List.range (nf κ)).map (fun j => if fr κ j then va_rf none else .int 0) := by
  unfold fs
  refine List.map_congr_left (fun i hi => ?_)
  simp [fv, n_O, g_I, g_P]
theorem z_new (C : Cx l v own cc nL ret nm z) {κ : Nat} {Cn : String} {T : u_T} {N idx : Nat} {P : Nat → Hp → Prop} {kc' ks' : Nat} (F : KF κ Cn T N) (w1 : Cond.classLink own idx Cn ∈ BW) (w2 : Cond.instantiable Cn N ∈ BW) (w3 : Cond.initialized Cn ∈ BW) (hd : decode cc pc = .ok (.new idx, 3)) (hk1 : kc + 1 ≤ kc') (hk2 : kc' ≤ rm.cells) (hs1 : ks + N ≤ ks') (hs2 : ks' ≤ rm.slots)
    (h : ∀ a, a ∉ g_L S → lt (n_O κ S a) (P a)) (k : ∀ a S1, P a S1 → ZZ l v nL rm z kc' ks' S1 (pc + 3) lv (va_rf (some a) :: st)) : ZZ l v nL rm z kc ks S pc lv st := by
  obtain ⟨⟨p, e, s, m, args, below, meth, c⟩, X, A, E⟩ := z
  obtain ⟨hx, hb, -, hml, hown, hts, hK, -, hA, -⟩ := C
  intro H locs ls cells slots hP hD hS hc hs hl hT
  obtain ⟨f1, f2, f3, rfl, f5, ty, f6, f7⟩ := F
  refine va_new (Ts := BW) (ty := ty) (fs := (List.range (nf κ)).map (fun j => if fr κ j then va_rf none else .int 0)) hx hb hts f2 f6 hown (hts _ w1) (hts _ w2) (hts _ w3) hK hP hD hS hA f1 (fun j hj => ?_) (by omega) (by omega) hd (fun q H1 hP1 hD1 hS1 => ?_)
  · have f9 := f7 j hj
    unfold vp_V
    rw [List.getD_eq_getElem?_getD, List.getElem?_map, List.getElem?_range hj]
    by_cases e9 : fr κ j = true
    · rw [if_pos e9] at f9
      simp only [Option.map_some, Option.getD_some, e9, if_true]
      rcases f9 with ⟨n, e⟩ | ⟨t, e⟩ <;> rw [e] <;> rfl
    · rw [if_neg e9] at f9
      simp only [Option.map_some, Option.getD_some, e9]
      rw [f9]; rfl
  · have hq : q ∉ g_L S := va_pl_fresh2 hD1
    rw [← dfs_new κ S q, push_O hq f3] at hP1 hD1
    exact k q _ (h q hq) H1 locs ls (cells + 1) (slots + nf κ) hP1 hD1 hS1 (by omega) (by omega) hl hT
theorem cy_of {v : Ev} {s : State} {t0 : Nat} {ty : FieldType} {c0 cA : ClassId} (hK : va_K v.1 vwc (tyc v.2.1) s) (h0 : (tyc v.2.1)[t0]? = some (c0, ty)) (h : va_RA s cA ty) : cA = c0 := by
  have h1 := (hK.2 t0 _ h0).2
  cases ty with
  | object C =>
    obtain ⟨-, -, -, -, -, a⟩ := h
    obtain ⟨-, -, -, -, -, b⟩ := h1
    exact Option.some.inj (a.symm.trans b)
  | _ =>
    exact Option.some.inj ((show s.vm.findClass _ = some cA from h).symm.trans (show s.vm.findClass _ = some c0 from h1))
/-- newarray of ints (κ = 11) or booleans (κ = 12) -/
theorem z_newI (C : Cx l v own cc nL ret nm z) {n : Int32} {lim : Nat} {P : Nat → Hp → Prop} {kc' ks' : Nat} (w1 : Cond.arrayClass .int ∈ BW) (hd : decode cc pc = .ok (.newarray .int, 2)) (hlim : lim ≤ 100000) (hk1 : kc + 1 ≤ kc') (hk2 : kc' ≤ rm.cells) (hs1 : ks + lim ≤ ks') (hs2 : ks' ≤ rm.slots)
    (h : ¬ n < 0 ∧ n.toNatClampNeg ≤ lim ∧ ∀ a, a ∉ g_L S → lt (n_A 11 S a n.toNatClampNeg) (P a)) (k : ∀ a S1, P a S1 → ZZ l v nL rm z kc' ks' S1 (pc + 2) lv (va_rf (some a) :: st)) : ZZ l v nL rm z kc ks S pc lv (.int n :: st) := by
  obtain ⟨⟨p, e, s, m, args, below, meth, c⟩, X, A, E⟩ := z
  obtain ⟨hx, hb, -, hml, hown, hts, hK, -, hA, -⟩ := C
  intro H locs ls cells slots hP hD hS hc hs hl hT
  obtain ⟨hn, hlm, h⟩ := h
  refine va_newa (atype := .int) (ty := .int) (a0 := (n.toNatClampNeg, .inl (fun _ => 0))) hx hb (hts _ w1) rfl hK hP hD hS hA (fun _ => rfl) hn rfl ?_ (by omega) (by omega) hd (fun q cA H1 hK1 hP1 hD1 hS1 => ?_)
  · show _ * 4 ≤ _
    omega
  · have hq : q ∉ g_L S := va_pl_fresh2 hD1
    have e1 : cA = v.2.1 11 := cy_of (t0 := 0) hK rfl ((hK1.2 6 (cA, .int) rfl).2)
    subst e1
    rw [push_R hq (by decide) (by decide)] at hP1 hD1
    exact k q _ (h q hq) H1 locs ls (cells + 1) (slots + n.toNatClampNeg) hP1 hD1 hS1 (by omega) (by omega) hl hT
theorem z_anew (C : Cx l v own cc nL ret nm z) {κ idx : Nat} {Cn : String} {n : Int32} {lim : Nat} {P : Nat → Hp → Prop} {kc' ks' : Nat} (h13 : 13 ≤ κ) (t0 : Nat) (ht0 : ∀ cy : Nat → ClassId, (tyc cy)[t0]? = some (cy κ, .object Cn)) (w1 : Cond.classLink own idx Cn ∈ BW) (w2 : Cond.arrayOver (.object Cn) ∈ NW) (hd : decode cc pc = .ok (.anewarray idx, 3)) (hlim : lim ≤ 100000) (hk1 : kc + 1 ≤ kc') (hk2 : kc' ≤ rm.cells) (hs1 : ks + lim ≤ ks') (hs2 : ks' ≤ rm.slots)
    (h : ¬ n < 0 ∧ n.toNatClampNeg ≤ lim ∧ ∀ a, a ∉ g_L S → a ≠ g_T S → lt (n_A κ S a n.toNatClampNeg) (P a)) (k : ∀ a S1, P a S1 → ZZ l v nL rm z kc' ks' S1 (pc + 3) lv (va_rf (some a) :: st)) : ZZ l v nL rm z kc ks S pc lv (.int n :: st) := by
  obtain ⟨⟨p, e, s, m, args, below, meth, c⟩, X, A, E⟩ := z
  obtain ⟨hx, hb, -, hml, hown, hts, hK, -, hA, hW, -⟩ := C
  intro H locs ls cells slots hP hD hS hc hs hl hT
  obtain ⟨hn, hlm, h⟩ := h
  refine va_newq hx hb hown (hts _ w1) (hW.1 _ w2) hK hP hD hS hA hn rfl (by omega) (by omega) (by omega) hd (fun q cA H1 hK1 hP1 hD1 hS1 => ?_)
  have hq : q ∉ g_L S := va_pl_fresh2 hD1
  have hqA : A q := hD1.2 _ (q, _) (by rw [List.getElem?_append_right (Nat.le_refl _), Nat.sub_self]; rfl)
  have hqT : q ≠ g_T S := by
    intro e
    obtain ⟨cell, -, -, -, -, -, -, hnA⟩ := hW.2.2.2.2.2.1
    exact hnA (by rw [← hT, ← e]; exact hqA)
  have e1 : cA = v.2.1 κ := cy_of (t0 := t0) hK (ht0 _) ((hK1.2 6 (cA, .object Cn) rfl).2)
  subst e1
  rw [push_A hq h13] at hP1 hD1
  exact k q _ (h q hq hqT) H1 locs ls (cells + 1) (slots + n.toNatClampNeg) hP1 hD1 hS1 (by omega) (by omega) hl hT
/-! ends -/
theorem z_iret (C : Cx l v own cc nL (some .int) nm z) {Q : Int32 → Hp → Prop} {EQ : String → Hp → Prop} {r : Int32} (T : EE v rm (QI v Q) EQ z) (hd : decode cc pc = .ok (.ireturn, 1)) (hk : kc ≤ rm.cells) (hk2 : ks ≤ rm.slots) (h : Q r S) : ZZ l v nL rm z kc ks S pc lv [.int r] := by
  obtain ⟨⟨p, e, s, m, args, below, meth, c⟩, X, A, E⟩ := z
  obtain ⟨hx, hb, hr, hml, hown, hts, hK, hlocks, -⟩ := C
  intro H locs ls cells slots hP hD hS hc hs hl hT
  obtain rfl : E = _ := T
  refine vx_ret (W.widen (Nat.le_trans hc hk) (Nat.le_trans hs hk2) (W.iret hx hb hr (fun t ht hW => ⟨⟨r, S, rfl, h, by rw [ht]; exact hP, hD, hT⟩, hS.F ht⟩) hS.2.2 hd))
def bz (r : Int32) (P : Prop) : Prop := narrow .boolean (.int r) = .int r ∧ P
theorem z_zret (C : Cx l v own cc nL (some .boolean) nm z) {Q : Int32 → Hp → Prop} {EQ : String → Hp → Prop} {r : Int32} (T : EE v rm (QI v Q) EQ z) (hd : decode cc pc = .ok (.ireturn, 1)) (hk : kc ≤ rm.cells) (hk2 : ks ≤ rm.slots) (h : bz r (Q r S)) : ZZ l v nL rm z kc ks S pc lv [.int r] := by
  obtain ⟨⟨p, e, s, m, args, below, meth, c⟩, X, A, E⟩ := z
  obtain ⟨hx, hb, hr, hml, hown, hts, hK, hlocks, -⟩ := C
  intro H locs ls cells slots hP hD hS hc hs hl hT
  obtain rfl : E = _ := T
  refine vx_ret (W.widen (Nat.le_trans hc hk) (Nat.le_trans hs hk2) (W.zret hx hb hr h.1 (fun t ht hW => ⟨⟨r, S, rfl, h.2, by rw [ht]; exact hP, hD, hT⟩, hS.F ht⟩) hS.2.2 hd))
theorem z_vret (C : Cx l v own cc nL none nm z) {Q : Hp → Prop} {EQ : String → Hp → Prop} (T : EE v rm (QV v Q) EQ z) (hd : decode cc pc = .ok (.return_, 1)) (hk : kc ≤ rm.cells) (hk2 : ks ≤ rm.slots) (h : Q S) : ZZ l v nL rm z kc ks S pc lv [] := by
  obtain ⟨⟨p, e, s, m, args, below, meth, c⟩, X, A, E⟩ := z
  obtain ⟨hx, hb, hr, hml, hown, hts, hK, hlocks, -⟩ := C
  intro H locs ls cells slots hP hD hS hc hs hl hT
  obtain rfl : E = _ := T
  refine vx_ret (W.widen (Nat.le_trans hc hk) (Nat.le_trans hs hk2) (W.vret hx hb hr (fun t ht hW => ⟨⟨S, rfl, h, by rw [ht]; exact hP, hD, hT⟩, hS.F ht⟩) hS.2.2 hd))
theorem z_aret (C : Cx l v own cc nL ret nm z) {ty : FieldType} {Q : Option Nat → Hp → Prop} {EQ : String → Hp → Prop} {r : Option Nat} (hrt : ret = some ty) (hty : (∃ n, ty = .object n) ∨ ∃ t, ty = .array t) (T : EE v rm (QQ v Q) EQ z) (hd : decode cc pc = .ok (.areturn, 1)) (hk : kc ≤ rm.cells) (hk2 : ks ≤ rm.slots) (h : Q r S) : ZZ l v nL rm z kc ks S pc lv [va_rf r] := by
  obtain ⟨⟨p, e, s, m, args, below, meth, c⟩, X, A, E⟩ := z
  obtain ⟨hx, hb, hr, hml, hown, hts, hK, hlocks, -⟩ := C
  intro H locs ls cells slots hP hD hS hc hs hl hT
  obtain rfl : E = _ := T
  refine vx_ret (W.widen (Nat.le_trans hc hk) (Nat.le_trans hs hk2) (W.aret hx hb (hr.trans hrt) hty (va_rf_or r) (fun t ht hW => ⟨⟨r, S, rfl, h, by rw [ht]; exact hP, hD, hT⟩, hS.F ht⟩) hS.2.2 hd))
/-- an exception that isn't caught here -/
theorem z_out (C : Cx l v own cc nL ret nm z) {Qc : Qt} {EQ : String → Hp → Prop} {En : String} (T : EE v rm Qc EQ z) (N : NT z) (hk : kc ≤ rm.cells) (hk2 : ks ≤ rm.slots) (h : EQ En S) : ZX l v nL rm z kc ks En S pc lv := by
  obtain ⟨⟨p, e, s, m, args, below, meth, c⟩, X, A, E⟩ := z
  obtain ⟨hx, hb, hr, hml, hown, hts, hK, hlocks, -⟩ := C
  intro H locs ls cells slots rest q9 ce hP hD hS hc hs hl hT hce hcv hcl
  obtain rfl : E = _ := T
  exact vx_out (fun x hx9 => (N x hx9).elim) hlocks hce hcv hcl (fun t ht hvm => ⟨S, trivial, ⟨h, by rw [ht]; exact hP, hD, hT⟩, hS.F ht⟩) hS.2.2 (Nat.le_trans hc hk) (Nat.le_trans hs hk2)
theorem cat_le : ∀ st : List Value, (st.map fun v => v.category).sum ≤ 2 * st.length
  | [] => Nat.le_refl _
  | a :: st => by
    have h1 := cat_le st
    have h2 : a.category ≤ 2 := by cases a <;> simp [Value.category]
    simp only [List.map_cons, List.sum_cons, List.length_cons]
    omega
/-- 'throw new E("text")' -/
theorem z_throw (C : Cx l v own cc nL ret nm z) {Qc : Qt} {EQ : String → Hp → Prop} {cls text : String} {ik is ic : Nat} {names : List String} (hfl : l.stackTraces = false) (T : EE v rm Qc EQ z) (N : NT z)
    (hfit : Bundle.fit cls = true ∧ ∀ n ∈ names, Bundle.fit n = true) (w1 : Cond.classLink own ik cls ∈ BW) (w2 : Cond.initialized cls ∈ BW) (hstr : (own, is, text) ∈ STRS) (hat : ∀ w ∈ vx_atS own ic cls names, w ∈ BW ∨ w ∈ NW) (hgood : ∀ w ∈ vx_atS own ic cls names, vx_ot w = true) (hg2 : vx_ot (Cond.classLink own ik cls) = true ∧ vx_ot (Cond.initialized cls) = true)
    (d0 : decode cc pc = .ok (.new ik, 3)) (d3 : decode cc (pc + 3) = .ok (.dup, 1)) (d4 : decode cc (pc + 4) = .ok (.ldc is, 2)) (d6 : decode cc (pc + 6) = .ok (.invokespecial ic, 3)) (d9 : decode cc (pc + 9) = .ok (.athrow, 1))
    (hroom : names.length + 3 < rm.frames ∧ 2 * st.length + (13 * (names.length + 1) + 43) ≤ rm.locals ∧ kc + 1 ≤ rm.cells ∧ ks + 6 ≤ rm.slots) (h : EQ cls S) : ZZ l v nL rm z kc ks S pc lv st := by
  obtain ⟨⟨p, e, s, m, args, below, meth, c⟩, X, A, E⟩ := z
  obtain ⟨hx, hb, hr, hml, hown, hts, hK, hlocks, hA, hW, -⟩ := C
  intro H locs ls cells slots hP hD hS hc hs hl hT
  obtain rfl : E = _ := T
  obtain ⟨sa, hsa⟩ := hW.2.1 _ hstr
  obtain ⟨r1, r2, r3, r4⟩ := hroom
  have hcat := cat_le st
  have hwat : ∀ w ∈ vx_atS own ic cls names, w.before args s = true := by
    intro w hw
    rcases hat w hw with h9 | h9
    · exact hts w h9
    · have h8 := hW.1 w h9
      have h7 : w.onTables = true := by
        have h6 := (List.mem_filter.mp h9).2
        have h5 := hgood w hw
        cases w <;> first | rfl | (simp [nwk] at h6; done) | (simp [vx_ot, goodWord, Cond.onTables] at h5; done)
      exact va_Nw.use h7 h8
  refine vx_throwS (sa := sa) (names := names) hx hb hfl hown hfit.1 hfit.2 (hts _ w1) (hts _ w2) hsa hwat (fun w hw => ?_) hW.2.2.1 hW.2.2.2.1 hS (by rw [hml]; exact hl.1.1) d0 d3 d4 d6 d9 (fun x hx9 => (N x hx9).elim) r1 (by omega) (by omega) (by omega) hlocks (fun t hvm hz hq => ?_) hS.2.2 (by omega) (by omega)
  · rcases List.mem_cons.mp hw with rfl | hw
    · exact hg2.1
    · rcases List.mem_cons.mp hw with rfl | hw
      · exact hg2.2
      · exact hgood w hw
  · refine ⟨S, trivial, ⟨h, hP.kept (fun k q hk => hq q.1 (hP k q hk).lt), hD, hT⟩, Nat.le_trans hS.1 hz, fun q h1 h2 => ?_⟩
    rw [hq q (Nat.lt_of_lt_of_le h1 hS.1)]
    exact hS.2.1 q h1 h2
end ZM
/-! CALLS -/
section ZCALL
variable {l : Launch} {v : Ev} {own : String} {cc : ByteArray} {nL : Nat} {ret : Option FieldType} {rm : Room} {nm : String} {z : Z9} {kc ks : Nat} {S : Hp} {pc : Nat} {lv : List (Nat × Value)} {st : List Value}
/-- the words of a method that is called -/
def MW (y : MethodName) (cc : ByteArray) (nL : Nat) (ret : Option FieldType) (n : Nat) : Prop :=
  Cond.initialized y.cls ∈ BW ∧ Cond.code y cc nL ret ∈ BW ∧ (y.cls ≠ "java/lang/invoke/MethodHandle" ∧ y.cls ≠ "java/lang/invoke/VarHandle") ∧ (parseMethodDescriptor y.desc).map (fun d => d.parameters.length) = some n
def fitR (kc ks kc' ks' nL' : Nat) (rm' rm : Room) : Prop := kc + rm'.cells ≤ kc' ∧ kc' ≤ rm.cells ∧ ks + rm'.slots ≤ ks' ∧ ks' ≤ rm.slots ∧ rm'.frames + 1 ≤ rm.frames ∧ 8 + (nL' + 11) + rm'.locals ≤ rm.locals
def fitB (kc ks kc' ks' nL' : Nat) (rm' rm : Room) : Bool := Nat.ble (kc + rm'.cells) kc' && (Nat.ble kc' rm.cells && (Nat.ble (ks + rm'.slots) ks' && (Nat.ble ks' rm.slots && (Nat.ble (rm'.frames + 1) rm.frames && Nat.ble (8 + (nL' + 11) + rm'.locals) rm.locals))))
theorem fit_of {kc ks kc' ks' nL' : Nat} {rm' rm : Room} (h : fitB kc ks kc' ks' nL' rm' rm = true) : fitR kc ks kc' ks' nL' rm' rm := by
  simp only [fitB, Bool.and_eq_true] at h
  exact ⟨Nat.le_of_ble_eq_true h.1, Nat.le_of_ble_eq_true h.2.1, Nat.le_of_ble_eq_true h.2.2.1, Nat.le_of_ble_eq_true h.2.2.2.1, Nat.le_of_ble_eq_true h.2.2.2.2.1, Nat.le_of_ble_eq_true h.2.2.2.2.2⟩
theorem bw_good {w : Cond} (h : w ∈ BW) : (w.onTables && w.keeps) = true ∨ ∃ ty, w = .arrayClass ty := good_of_word (List.mem_filter.mp h).2
theorem bw_in {s : State} {args : Array Value} {y : MethodName} {cc : ByteArray} {nL : Nat} {ret : Option FieldType} (hts : ∀ w ∈ BW, w.before args s = true) (hc : Cond.code y cc nL ret ∈ BW) : ∀ w ∈ Cond.code y cc nL ret :: BW, ∀ (a' : Array Value) (U : State), s.WarmedH U.vm → w.before a' U = true := by
  intro w hw a' U hW
  have hb : w ∈ BW := by
    rcases List.mem_cons.mp hw with rfl | hw
    · exact hc
    · exact hw
  exact word_at hW (bw_good hb) (hts w hb)
theorem callB9 {s : State} {args : Array Value} {own : String} {idx : Nat} {y : MethodName} {cc' : ByteArray} {nL' n : Nat} {ret' : Option FieldType} {rm' rm : Room} {kc ks kc' ks' : Nat} (hts : ∀ w ∈ BW, w.before args s = true) (M : MW y cc' nL' ret' n) (hl : Cond.methodLink own idx y ∈ BW) (hR : fitR kc ks kc' ks' nL' rm' rm) : CallB rm s args own idx y cc' nL' ret' (Cond.code y cc' nL' ret' :: BW) rm' rm'.cells rm'.slots n := by
  obtain ⟨m1, m2, m3, m4⟩ := M
  obtain ⟨-, -, -, -, r1, r2⟩ := hR
  refine ⟨rfl, rfl, r1, r2, bw_in hts m2, List.mem_cons_self, hts _ m2, hts _ m1, m3, fun sig h => ?_, hts _ hl⟩
  rw [h] at m4
  exact (Option.some.inj m4).symm
theorem pre_at {v : Ev} {X : va_W} {S : Hp} {As : List Value} {s : State} {H : Heap} {A : Nat → Prop} {locs : List Loc} (hP : va_P v.1 vwc (X ++ g_w v.2.1 S) H) (hD : va_D A (X ++ g_w v.2.1 S)) (hS : va_S A s.heap H locs) (hK : va_K v.1 vwc (tyc v.2.1) s) (hA : ∀ q, s.heap.size ≤ q → A q) (hW : SW v.2.2 A s s.heap) (hT : g_T S = v.2.2.1) : PreS s H (va_Pc As (fun U => U.heap.size = H.size ∧ WPre v X S U)) As := by
  refine ⟨pre_blind, fun U hU hw => ⟨rfl, by rw [hU], by rw [hU]; exact hP, va_K.moved hw.alike hK, hD.weaken (fun _ _ _ _ => trivial), ?_, hT⟩⟩
  rw [hU]
  exact ((hW.kept (H1 := H) hS.2.1).narrow (wA hD hS hA)).warm hw
theorem z_Vi (C : Cx l v own cc nL ret nm z) {y : MethodName} {cc' : ByteArray} {nL' n idx : Nat} {ret' : Option FieldType} {rm' : Room} {As rest stk : List Value} {kc' ks' : Nat} {KX : String → Hp → Prop} {K : Int32 → Hp → Prop} {wp : (Int32 → Hp → Prop) → (String → Hp → Prop) → Prop} {κ a : Nat} {r9 : Option Nat} {vc : vw_C} (hr9 : r9 = some a) (F : CI l v y cc' nL' ret' rm' (va_rf (some a) :: As) S wp) (M : MW y cc' nL' ret' n) (w1 : Cond.methodLink own idx y ∈ BW) (w2 : Cond.instanceMethod y ∈ BW) (w3 : Cond.selects vc.1 y y ∈ BW) (hR : fitR kc ks kc' ks' nL' rm' rm) (hst : stk = As.reverse ++ va_rf r9 :: rest) (hn : As.length = n) (h8 : 2 * rest.length ≤ 8) (hκ : κ < 11) (hv : vwc[κ]? = some vc) (ho : okA S κ a) (hd : decode cc pc = .ok (.invokevirtual idx, 3)) (h : wp K KX) (k : ∀ r S1, K r S1 → ZZ l v nL rm z kc' ks' S1 (pc + 3) lv (.int r :: rest)) (kx : ∀ En S1, KX En S1 → ZX l v nL rm z kc' ks' En S1 pc lv) : ZZ l v nL rm z kc ks S pc lv stk := by
  obtain ⟨⟨p, e, s, m, args, below, meth, c⟩, X, A, E⟩ := z
  obtain ⟨hx, hb, hr, hml, hown, hts, hK, hlocks, hA, hW, -⟩ := C
  intro H locs ls cells slots hP hD hS hc hs hl hT
  subst hr9
  subst hst
  have hF := wA hD hS hA
  have hR2 := hR
  obtain ⟨r1, r2, r3, r4, r5, r6⟩ := hR2
  have hcat := cat_le rest
  have hrec : ∃ cellB : Cell, H[a]? = some cellB ∧ cellB.vm.isStatics = false ∧ s.vm.findClass vc.1 = some cellB.cls := by
    obtain ⟨q0, hq⟩ := g_at (X := X) (cy := v.2.1) ho
    rw [g_obj ho hκ] at hq
    exact va_recv hK hP hv hq
  have hpre := pre_at (As := Value.ref a :: As) hP hD hS hK hA hW hT
  exact vx_calli (vx_runV (C := vc.1) (b := a) (As := As) (rest := rest) ⟨hx, hb, hml, hown, hts⟩ (F K KX h X H.size) ⟨callB9 hts M w1 hR, hts _ w2, hts _ w3⟩ ⟨hpre.1, hrec, hpre.2⟩ rfl hn hl.1.1 rfl (by show 2 * 0 + _ ≤ 8; omega) hd ⟨by omega, by omega⟩) hS (fun q _ h9 => hF q h9) hF (fun q _ h9 => hF q h9) (fun En ce q9 u t H1 locs1 ht hvm _ hB hz hk hS1 hce hcv hcl => kx En u hB.1 H1 locs1 ls (cells + rm'.cells) (slots + rm'.slots) _ q9 ce (by rw [← ht]; exact hB.2.1) (hB.2.2.1.weaken (fun _ q _ h9 => hF q.1 h9)) hS1 (by omega) (by omega) hl hB.2.2.2 hce hcv hcl) (fun r u t H1 locs1 ht hvm hp hB hz hk hS1 => k r u hp H1 locs1 ls (cells + rm'.cells) (slots + rm'.slots) (by rw [← ht]; exact hB.1) (hB.2.1.weaken (fun _ q _ h9 => hF q.1 h9)) hS1 (by omega) (by omega) hl hB.2.2)
theorem z_Si (C : Cx l v own cc nL ret nm z) {y : MethodName} {cc' : ByteArray} {nL' n idx : Nat} {ret' : Option FieldType} {rm' : Room} {As rest stk : List Value} {kc' ks' : Nat} {KX : String → Hp → Prop} {K : Int32 → Hp → Prop} {wp : (Int32 → Hp → Prop) → (String → Hp → Prop) → Prop} (F : CI l v y cc' nL' ret' rm' As S wp) (M : MW y cc' nL' ret' n) (w1 : Cond.methodLink own idx y ∈ BW) (w2 : Cond.static y ∈ BW) (hR : fitR kc ks kc' ks' nL' rm' rm) (hst : stk = As.reverse ++ rest) (hn : As.length = n) (h8 : 2 * rest.length ≤ 8) (hd : decode cc pc = .ok (.invokestatic idx, 3)) (h : wp K KX) (k : ∀ r S1, K r S1 → ZZ l v nL rm z kc' ks' S1 (pc + 3) lv (.int r :: rest)) (kx : ∀ En S1, KX En S1 → ZX l v nL rm z kc' ks' En S1 pc lv) : ZZ l v nL rm z kc ks S pc lv stk := by
  obtain ⟨⟨p, e, s, m, args, below, meth, c⟩, X, A, E⟩ := z
  obtain ⟨hx, hb, hr, hml, hown, hts, hK, hlocks, hA, hW, -⟩ := C
  intro H locs ls cells slots hP hD hS hc hs hl hT
  subst hst
  have hF := wA hD hS hA
  have hR2 := hR
  obtain ⟨r1, r2, r3, r4, r5, r6⟩ := hR2
  have hcat := cat_le rest
  exact vx_calli (vx_runS (As := As) (rest := rest) ⟨hx, hb, hml, hown, hts⟩ (F K KX h X H.size) ⟨callB9 hts M w1 hR, hts _ w2⟩ (pre_at (As := As) hP hD hS hK hA hW hT) rfl hn hl.1.1 rfl (by show 2 * 0 + _ ≤ 8; omega) hd ⟨by omega, by omega⟩) hS (fun q _ h9 => hF q h9) hF (fun q _ h9 => hF q h9) (fun En ce q9 u t H1 locs1 ht hvm _ hB hz hk hS1 hce hcv hcl => kx En u hB.1 H1 locs1 ls (cells + rm'.cells) (slots + rm'.slots) _ q9 ce (by rw [← ht]; exact hB.2.1) (hB.2.2.1.weaken (fun _ q _ h9 => hF q.1 h9)) hS1 (by omega) (by omega) hl hB.2.2.2 hce hcv hcl) (fun r u t H1 locs1 ht hvm hp hB hz hk hS1 => k r u hp H1 locs1 ls (cells + rm'.cells) (slots + rm'.slots) (by rw [← ht]; exact hB.1) (hB.2.1.weaken (fun _ q _ h9 => hF q.1 h9)) hS1 (by omega) (by omega) hl hB.2.2)
theorem z_Vq (C : Cx l v own cc nL ret nm z) {y : MethodName} {cc' : ByteArray} {nL' n idx : Nat} {ret' : Option FieldType} {rm' : Room} {As rest stk : List Value} {kc' ks' : Nat} {KX : String → Hp → Prop} {K : Option Nat → Hp → Prop} {wp : (Option Nat → Hp → Prop) → (String → Hp → Prop) → Prop} {κ a : Nat} {r9 : Option Nat} {vc : vw_C} (hr9 : r9 = some a) (F : CQ l v y cc' nL' ret' rm' (va_rf (some a) :: As) S wp) (M : MW y cc' nL' ret' n) (w1 : Cond.methodLink own idx y ∈ BW) (w2 : Cond.instanceMethod y ∈ BW) (w3 : Cond.selects vc.1 y y ∈ BW) (hR : fitR kc ks kc' ks' nL' rm' rm) (hst : stk = As.reverse ++ va_rf r9 :: rest) (hn : As.length = n) (h8 : 2 * rest.length ≤ 8) (hκ : κ < 11) (hv : vwc[κ]? = some vc) (ho : okA S κ a) (hd : decode cc pc = .ok (.invokevirtual idx, 3)) (h : wp K KX) (k : ∀ r S1, K r S1 → ZZ l v nL rm z kc' ks' S1 (pc + 3) lv (va_rf r :: rest)) (kx : ∀ En S1, KX En S1 → ZX l v nL rm z kc' ks' En S1 pc lv) : ZZ l v nL rm z kc ks S pc lv stk := by
  obtain ⟨⟨p, e, s, m, args, below, meth, c⟩, X, A, E⟩ := z
  obtain ⟨hx, hb, hr, hml, hown, hts, hK, hlocks, hA, hW, -⟩ := C
  intro H locs ls cells slots hP hD hS hc hs hl hT
  subst hr9
  subst hst
  have hF := wA hD hS hA
  have hR2 := hR
  obtain ⟨r1, r2, r3, r4, r5, r6⟩ := hR2
  have hcat := cat_le rest
  have hrec : ∃ cellB : Cell, H[a]? = some cellB ∧ cellB.vm.isStatics = false ∧ s.vm.findClass vc.1 = some cellB.cls := by
    obtain ⟨q0, hq⟩ := g_at (X := X) (cy := v.2.1) ho
    rw [g_obj ho hκ] at hq
    exact va_recv hK hP hv hq
  have hpre := pre_at (As := Value.ref a :: As) hP hD hS hK hA hW hT
  exact vx_callq (vx_runV (C := vc.1) (b := a) (As := As) (rest := rest) ⟨hx, hb, hml, hown, hts⟩ (F K KX h X H.size) ⟨callB9 hts M w1 hR, hts _ w2, hts _ w3⟩ ⟨hpre.1, hrec, hpre.2⟩ rfl hn hl.1.1 rfl (by show 2 * 0 + _ ≤ 8; omega) hd ⟨by omega, by omega⟩) hS (fun q _ h9 => hF q h9) hF (fun q _ h9 => hF q h9) (fun En ce q9 u t H1 locs1 ht hvm _ hB hz hk hS1 hce hcv hcl => kx En u hB.1 H1 locs1 ls (cells + rm'.cells) (slots + rm'.slots) _ q9 ce (by rw [← ht]; exact hB.2.1) (hB.2.2.1.weaken (fun _ q _ h9 => hF q.1 h9)) hS1 (by omega) (by omega) hl hB.2.2.2 hce hcv hcl) (fun r u t H1 locs1 ht hvm hp hB hz hk hS1 => k r u hp H1 locs1 ls (cells + rm'.cells) (slots + rm'.slots) (by rw [← ht]; exact hB.1) (hB.2.1.weaken (fun _ q _ h9 => hF q.1 h9)) hS1 (by omega) (by omega) hl hB.2.2)
theorem z_Sq (C : Cx l v own cc nL ret nm z) {y : MethodName} {cc' : ByteArray} {nL' n idx : Nat} {ret' : Option FieldType} {rm' : Room} {As rest stk : List Value} {kc' ks' : Nat} {KX : String → Hp → Prop} {K : Option Nat → Hp → Prop} {wp : (Option Nat → Hp → Prop) → (String → Hp → Prop) → Prop} (F : CQ l v y cc' nL' ret' rm' As S wp) (M : MW y cc' nL' ret' n) (w1 : Cond.methodLink own idx y ∈ BW) (w2 : Cond.static y ∈ BW) (hR : fitR kc ks kc' ks' nL' rm' rm) (hst : stk = As.reverse ++ rest) (hn : As.length = n) (h8 : 2 * rest.length ≤ 8) (hd : decode cc pc = .ok (.invokestatic idx, 3)) (h : wp K KX) (k : ∀ r S1, K r S1 → ZZ l v nL rm z kc' ks' S1 (pc + 3) lv (va_rf r :: rest)) (kx : ∀ En S1, KX En S1 → ZX l v nL rm z kc' ks' En S1 pc lv) : ZZ l v nL rm z kc ks S pc lv stk := by
  obtain ⟨⟨p, e, s, m, args, below, meth, c⟩, X, A, E⟩ := z
  obtain ⟨hx, hb, hr, hml, hown, hts, hK, hlocks, hA, hW, -⟩ := C
  intro H locs ls cells slots hP hD hS hc hs hl hT
  subst hst
  have hF := wA hD hS hA
  have hR2 := hR
  obtain ⟨r1, r2, r3, r4, r5, r6⟩ := hR2
  have hcat := cat_le rest
  exact vx_callq (vx_runS (As := As) (rest := rest) ⟨hx, hb, hml, hown, hts⟩ (F K KX h X H.size) ⟨callB9 hts M w1 hR, hts _ w2⟩ (pre_at (As := As) hP hD hS hK hA hW hT) rfl hn hl.1.1 rfl (by show 2 * 0 + _ ≤ 8; omega) hd ⟨by omega, by omega⟩) hS (fun q _ h9 => hF q h9) hF (fun q _ h9 => hF q h9) (fun En ce q9 u t H1 locs1 ht hvm _ hB hz hk hS1 hce hcv hcl => kx En u hB.1 H1 locs1 ls (cells + rm'.cells) (slots + rm'.slots) _ q9 ce (by rw [← ht]; exact hB.2.1) (hB.2.2.1.weaken (fun _ q _ h9 => hF q.1 h9)) hS1 (by omega) (by omega) hl hB.2.2.2 hce hcv hcl) (fun r u t H1 locs1 ht hvm hp hB hz hk hS1 => k r u hp H1 locs1 ls (cells + rm'.cells) (slots + rm'.slots) (by rw [← ht]; exact hB.1) (hB.2.1.weaken (fun _ q _ h9 => hF q.1 h9)) hS1 (by omega) (by omega) hl hB.2.2)
theorem z_Vv (C : Cx l v own cc nL ret nm z) {y : MethodName} {cc' : ByteArray} {nL' n idx : Nat} {ret' : Option FieldType} {rm' : Room} {As rest stk : List Value} {kc' ks' : Nat} {KX : String → Hp → Prop} {K : Hp → Prop} {wp : (Hp → Prop) → (String → Hp → Prop) → Prop} {κ a : Nat} {r9 : Option Nat} {vc : vw_C} (hr9 : r9 = some a) (F : CV l v y cc' nL' ret' rm' (va_rf (some a) :: As) S wp) (M : MW y cc' nL' ret' n) (w1 : Cond.methodLink own idx y ∈ BW) (w2 : Cond.instanceMethod y ∈ BW) (w3 : Cond.selects vc.1 y y ∈ BW) (hR : fitR kc ks kc' ks' nL' rm' rm) (hst : stk = As.reverse ++ va_rf r9 :: rest) (hn : As.length = n) (h8 : 2 * rest.length ≤ 8) (hκ : κ < 11) (hv : vwc[κ]? = some vc) (ho : okA S κ a) (hd : decode cc pc = .ok (.invokevirtual idx, 3)) (h : wp K KX) (k : ∀ S1, K S1 → ZZ l v nL rm z kc' ks' S1 (pc + 3) lv rest) (kx : ∀ En S1, KX En S1 → ZX l v nL rm z kc' ks' En S1 pc lv) : ZZ l v nL rm z kc ks S pc lv stk := by
  obtain ⟨⟨p, e, s, m, args, below, meth, c⟩, X, A, E⟩ := z
  obtain ⟨hx, hb, hr, hml, hown, hts, hK, hlocks, hA, hW, -⟩ := C
  intro H locs ls cells slots hP hD hS hc hs hl hT
  subst hr9
  subst hst
  have hF := wA hD hS hA
  have hR2 := hR
  obtain ⟨r1, r2, r3, r4, r5, r6⟩ := hR2
  have hcat := cat_le rest
  have hrec : ∃ cellB : Cell, H[a]? = some cellB ∧ cellB.vm.isStatics = false ∧ s.vm.findClass vc.1 = some cellB.cls := by
    obtain ⟨q0, hq⟩ := g_at (X := X) (cy := v.2.1) ho
    rw [g_obj ho hκ] at hq
    exact va_recv hK hP hv hq
  have hpre := pre_at (As := Value.ref a :: As) hP hD hS hK hA hW hT
  exact vx_callv (vx_runV (C := vc.1) (b := a) (As := As) (rest := rest) ⟨hx, hb, hml, hown, hts⟩ (F K KX h X H.size) ⟨callB9 hts M w1 hR, hts _ w2, hts _ w3⟩ ⟨hpre.1, hrec, hpre.2⟩ rfl hn hl.1.1 rfl (by show 2 * 0 + _ ≤ 8; omega) hd ⟨by omega, by omega⟩) hS (fun q _ h9 => hF q h9) hF (fun q _ h9 => hF q h9) (fun En ce q9 u t H1 locs1 ht hvm _ hB hz hk hS1 hce hcv hcl => kx En u hB.1 H1 locs1 ls (cells + rm'.cells) (slots + rm'.slots) _ q9 ce (by rw [← ht]; exact hB.2.1) (hB.2.2.1.weaken (fun _ q _ h9 => hF q.1 h9)) hS1 (by omega) (by omega) hl hB.2.2.2 hce hcv hcl) (fun u t H1 locs1 ht hvm hp hB hz hk hS1 => k u hp H1 locs1 ls (cells + rm'.cells) (slots + rm'.slots) (by rw [← ht]; exact hB.1) (hB.2.1.weaken (fun _ q _ h9 => hF q.1 h9)) hS1 (by omega) (by omega) hl hB.2.2)
theorem z_Sv (C : Cx l v own cc nL ret nm z) {y : MethodName} {cc' : ByteArray} {nL' n idx : Nat} {ret' : Option FieldType} {rm' : Room} {As rest stk : List Value} {kc' ks' : Nat} {KX : String → Hp → Prop} {K : Hp → Prop} {wp : (Hp → Prop) → (String → Hp → Prop) → Prop} (F : CV l v y cc' nL' ret' rm' As S wp) (M : MW y cc' nL' ret' n) (w1 : Cond.methodLink own idx y ∈ BW) (w2 : Cond.static y ∈ BW) (hR : fitR kc ks kc' ks' nL' rm' rm) (hst : stk = As.reverse ++ rest) (hn : As.length = n) (h8 : 2 * rest.length ≤ 8) (hd : decode cc pc = .ok (.invokestatic idx, 3)) (h : wp K KX) (k : ∀ S1, K S1 → ZZ l v nL rm z kc' ks' S1 (pc + 3) lv rest) (kx : ∀ En S1, KX En S1 → ZX l v nL rm z kc' ks' En S1 pc lv) : ZZ l v nL rm z kc ks S pc lv stk := by
  obtain ⟨⟨p, e, s, m, args, below, meth, c⟩, X, A, E⟩ := z
  obtain ⟨hx, hb, hr, hml, hown, hts, hK, hlocks, hA, hW, -⟩ := C
  intro H locs ls cells slots hP hD hS hc hs hl hT
  subst hst
  have hF := wA hD hS hA
  have hR2 := hR
  obtain ⟨r1, r2, r3, r4, r5, r6⟩ := hR2
  have hcat := cat_le rest
  exact vx_callv (vx_runS (As := As) (rest := rest) ⟨hx, hb, hml, hown, hts⟩ (F K KX h X H.size) ⟨callB9 hts M w1 hR, hts _ w2⟩ (pre_at (As := As) hP hD hS hK hA hW hT) rfl hn hl.1.1 rfl (by show 2 * 0 + _ ≤ 8; omega) hd ⟨by omega, by omega⟩) hS (fun q _ h9 => hF q h9) hF (fun q _ h9 => hF q h9) (fun En ce q9 u t H1 locs1 ht hvm _ hB hz hk hS1 hce hcv hcl => kx En u hB.1 H1 locs1 ls (cells + rm'.cells) (slots + rm'.slots) _ q9 ce (by rw [← ht]; exact hB.2.1) (hB.2.2.1.weaken (fun _ q _ h9 => hF q.1 h9)) hS1 (by omega) (by omega) hl hB.2.2.2 hce hcv hcl) (fun u t H1 locs1 ht hvm hp hB hz hk hS1 => k u hp H1 locs1 ls (cells + rm'.cells) (slots + rm'.slots) (by rw [← ht]; exact hB.1) (hB.2.1.weaken (fun _ q _ h9 => hF q.1 h9)) hS1 (by omega) (by omega) hl hB.2.2)
/-- a constructor of another class, or of the class above -/
theorem z_I (C : Cx l v own cc nL ret nm z) {y : MethodName} {cc' : ByteArray} {nL' n idx : Nat} {rm' : Room} {As rest stk : List Value} {kc' ks' : Nat} {KX : String → Hp → Prop} {K : Hp → Prop} {wp : (Hp → Prop) → (String → Hp → Prop) → Prop} {a : Nat} (F : CV l v y cc' nL' none rm' (va_rf (some a) :: As) S wp) (M : MW y cc' nL' none n) (w1 : Cond.methodLink own idx y ∈ BW) (w2 : Cond.instanceMethod y ∈ BW) (hy1 : y.name = "<init>") (hR : fitR kc ks kc' ks' nL' rm' rm) (hst : stk = As.reverse ++ va_rf (some a) :: rest) (hn : As.length = n) (h8 : 2 * rest.length ≤ 8) (hd : decode cc pc = .ok (.invokespecial idx, 3)) (h : wp K KX) (k : ∀ S1, K S1 → ZZ l v nL rm z kc' ks' S1 (pc + 3) lv rest) (kx : ∀ En S1, KX En S1 → ZX l v nL rm z kc' ks' En S1 pc lv) : ZZ l v nL rm z kc ks S pc lv stk := by
  obtain ⟨⟨p, e, s, m, args, below, meth, c⟩, X, A, E⟩ := z
  obtain ⟨hx, hb, hr, hml, hown, hts, hK, hlocks, hA, hW, -⟩ := C
  intro H locs ls cells slots hP hD hS hc hs hl hT
  subst hst
  have hF := wA hD hS hA
  have hR2 := hR
  obtain ⟨r1, r2, r3, r4, r5, r6⟩ := hR2
  have hcat := cat_le rest
  have hpre := pre_at (As := Value.ref a :: As) hP hD hS hK hA hW hT
  exact vx_callv (vx_runI (b := a) (As := As) (rest := rest) ⟨hx, hb, hml, hown, hts⟩ (F K KX h X H.size) ⟨callB9 hts M w1 hR, hy1, hts _ w2⟩ hpre rfl hn hl.1.1 rfl (by show 2 * 0 + _ ≤ 8; omega) hd ⟨by omega, by omega⟩) hS (fun q _ h9 => hF q h9) hF (fun q _ h9 => hF q h9) (fun En ce q9 u t H1 locs1 ht hvm _ hB hz hk hS1 hce hcv hcl => kx En u hB.1 H1 locs1 ls (cells + rm'.cells) (slots + rm'.slots) _ q9 ce (by rw [← ht]; exact hB.2.1) (hB.2.2.1.weaken (fun _ q _ h9 => hF q.1 h9)) hS1 (by omega) (by omega) hl hB.2.2.2 hce hcv hcl) (fun u t H1 locs1 ht hvm hp hB hz hk hS1 => k u hp H1 locs1 ls (cells + rm'.cells) (slots + rm'.slots) (by rw [← ht]; exact hB.1) (hB.2.1.weaken (fun _ q _ h9 => hF q.1 h9)) hS1 (by omega) (by omega) hl hB.2.2)
/-- a private constructor of a nest mate -/
theorem z_IN (C : Cx l v own cc nL ret nm z) {y : MethodName} {cc' : ByteArray} {nL' n idx : Nat} {rm' : Room} {As rest stk : List Value} {kc' ks' : Nat} {KX : String → Hp → Prop} {K : Hp → Prop} {wp : (Hp → Prop) → (String → Hp → Prop) → Prop} {a : Nat} {host : String} (F : CV l v y cc' nL' none rm' (va_rf (some a) :: As) S wp) (M : MW y cc' nL' none n) (w1 : Cond.methodLinkNest own idx y host ∈ NW) (w2 : Cond.instanceMethod y ∈ BW) (hy1 : y.name = "<init>") (hR : fitR kc ks kc' ks' nL' rm' rm) (hst : stk = As.reverse ++ va_rf (some a) :: rest) (hn : As.length = n) (h8 : 2 * rest.length ≤ 8) (hd : decode cc pc = .ok (.invokespecial idx, 3)) (h : wp K KX) (k : ∀ S1, K S1 → ZZ l v nL rm z kc' ks' S1 (pc + 3) lv rest) (kx : ∀ En S1, KX En S1 → ZX l v nL rm z kc' ks' En S1 pc lv) : ZZ l v nL rm z kc ks S pc lv stk := by
  obtain ⟨⟨p, e, s, m, args, below, meth, c⟩, X, A, E⟩ := z
  obtain ⟨hx, hb, hr, hml, hown, hts, hK, hlocks, hA, hW, -⟩ := C
  intro H locs ls cells slots hP hD hS hc hs hl hT
  subst hst
  have hF := wA hD hS hA
  have hR2 := hR
  obtain ⟨r1, r2, r3, r4, r5, r6⟩ := hR2
  have hcat := cat_le rest
  have hpre := pre_at (As := Value.ref a :: As) hP hD hS hK hA hW hT
  have cw : va_CN rm s args own idx y host cc' nL' none (Cond.code y cc' nL' none :: BW) rm' rm'.cells rm'.slots n := va_cnB n hts (fun w hw => by
    rcases List.mem_cons.mp hw with rfl | hw
    · exact ⟨M.2.1, bw_good M.2.1⟩
    · exact ⟨hw, bw_good hw⟩) rfl rfl rfl (hW.1 _ w1) (hts _ M.1) ⟨M.2.2.1.1, M.2.2.1.2, M.2.2.2⟩ ⟨r5, r6⟩
  exact vx_callv (vx_runIN (b := a) (As := As) (rest := rest) ⟨hx, hb, hml, hown, hts⟩ (F K KX h X H.size) ⟨cw, hy1, hts _ w2⟩ hpre rfl hn hl.1.1 rfl (by show 2 * 0 + _ ≤ 8; omega) hd ⟨by omega, by omega⟩) hS (fun q _ h9 => hF q h9) hF (fun q _ h9 => hF q h9) (fun En ce q9 u t H1 locs1 ht hvm _ hB hz hk hS1 hce hcv hcl => kx En u hB.1 H1 locs1 ls (cells + rm'.cells) (slots + rm'.slots) _ q9 ce (by rw [← ht]; exact hB.2.1) (hB.2.2.1.weaken (fun _ q _ h9 => hF q.1 h9)) hS1 (by omega) (by omega) hl hB.2.2.2 hce hcv hcl) (fun u t H1 locs1 ht hvm hp hB hz hk hS1 => k u hp H1 locs1 ls (cells + rm'.cells) (slots + rm'.slots) (by rw [← ht]; exact hB.1) (hB.2.1.weaken (fun _ q _ h9 => hF q.1 h9)) hS1 (by omega) (by omega) hl hB.2.2)
/-- Object's constructor -/
theorem z_obj (C : Cx l v own cc nL ret nm z) {a idx : Nat} (w1 : Cond.methodLink own idx Lib.objectInit ∈ BW) (w2 : Cond.instanceMethod Lib.objectInit ∈ BW) (w3 : Cond.code Lib.objectInit ⟨#[0xb1]⟩ 1 none ∈ BW) (hroom : 1 ≤ rm.frames ∧ 2 * st.length + 12 ≤ rm.locals) (hd : decode cc pc = .ok (.invokespecial idx, 3)) (k : ZZ l v nL rm z kc ks S (pc + 3) lv st) : ZZ l v nL rm z kc ks S pc lv (va_rf (some a) :: st) := by
  obtain ⟨⟨p, e, s, m, args, below, meth, c⟩, X, A, E⟩ := z
  obtain ⟨hx, hb, hr, hml, hown, hts, hK, hlocks, hA, hW, -⟩ := C
  intro H locs ls cells slots hP hD hS hc hs hl hT
  have hcat := cat_le st
  exact W.objInit hx hb hown (hts _ w1) (hts _ w2) (hts _ w3) rfl (by rw [hml]; exact hl.1.1) rfl hd hroom.1 (by show 2 * 0 + _ + 12 ≤ _; omega) (k H locs ls cells slots hP hD hS hc hs hl hT)
/-- the JDK's empty array -/
theorem z_gsT (C : Cx l v own cc nL ret nm z) {idx : Nat} (w1 : Cond.fieldLink own idx "java/util/ArrayList" "DEFAULTCAPACITY_EMPTY_ELEMENTDATA" "[Ljava/lang/Object;" ∈ BW) (hd : decode cc pc = .ok (.getstatic idx, 3)) (k : ZZ l v nL rm z kc ks S (pc + 3) lv (va_rf (some (g_T S)) :: st)) : ZZ l v nL rm z kc ks S pc lv st := by
  obtain ⟨⟨p, e, s, m, args, below, meth, c⟩, X, A, E⟩ := z
  obtain ⟨hx, hb, hr, hml, hown, hts, hK, hlocks, hA, hW, -⟩ := C
  intro H locs ls cells slots hP hD hS hc hs hl hT
  rw [hT] at k
  exact va_gets hx hb hW.2.2.2.2.1 hS hown (hts _ w1) (fun _ h => h) hd (k H locs ls cells slots hP hD hS hc hs hl hT)
/-- the length of an array of objects that may be the JDK's empty one -/
theorem z_alenT (C : Cx l v own cc nL ret nm z) {r : Option Nat} {P0 : Prop} {P : Nat → Prop} (hd : decode cc pc = .ok (.arraylength, 1)) (h : if r = some (g_T S) then P0 else rd S 15 r P) (k0 : P0 → ZZ l v nL rm z kc ks S (pc + 1) lv (.int 0 :: st)) (k : ∀ a, P a → ZZ l v nL rm z kc ks S (pc + 1) lv (.int (Int32.ofNat (g_N S a)) :: st)) : ZZ l v nL rm z kc ks S pc lv (va_rf r :: st) := by
  by_cases e9 : r = some (g_T S)
  · rw [if_pos e9] at h
    subst e9
    replace k0 := k0 h
    obtain ⟨⟨p, e, s, m, args, below, meth, c⟩, X, A, E⟩ := z
    obtain ⟨hx, hb, hr, hml, hown, hts, hK, hlocks, hA, hW, -⟩ := C
    intro H locs ls cells slots hP hD hS hc hs hl hT
    rw [hT]
    exact va_tlen hx hb hW.2.2.2.2.2.1 hS rfl hd (k0 H locs ls cells slots hP hD hS hc hs hl hT)
  · rw [if_neg e9] at h
    obtain ⟨a, e8, ho, h⟩ := h
    exact z_alen C (by decide) 4 (.object "java/lang/Object") (fun _ => rfl) hd e8 ho (k a h)
/-- a cast to a class of the pool, or of null -/
theorem z_cast (C : Cx l v own cc nL ret nm z) {κ idx : Nat} {r : Option Nat} {vc : vw_C} (hκ : κ < 11) (hv : vwc[κ]? = some vc) (w1 : Cond.classLink own idx vc.1 ∈ BW) (hd : decode cc pc = .ok (.checkcast idx, 3)) (h1 : ∀ a, r = some a → okA S κ a) (k : ZZ l v nL rm z kc ks S (pc + 3) lv (va_rf r :: st)) : ZZ l v nL rm z kc ks S pc lv (va_rf r :: st) := by
  obtain ⟨⟨p, e, s, m, args, below, meth, c⟩, X, A, E⟩ := z
  obtain ⟨hx, hb, hr, hml, hown, hts, hK, hlocks, hA, hW, -⟩ := C
  intro H locs ls cells slots hP hD hS hc hs hl hT
  cases r with
  | none => exact lv_castN hx hb hd (k H locs ls cells slots hP hD hS hc hs hl hT)
  | some a =>
    have ho := h1 a rfl
    obtain ⟨q0, hq⟩ := g_at (X := X) (cy := v.2.1) ho
    rw [g_obj ho hκ] at hq
    exact va_castS hx hb hown (hts _ w1) (hK.1 κ vc hv).2 (va_recv hK hP hv hq) hd (k H locs ls cells slots hP hD hS hc hs hl hT)
end ZCALL
/-! MORE ROWS -/
section ZMORE
variable {l : Launch} {v : Ev} {own : String} {cc : ByteArray} {nL : Nat} {ret : Option FieldType} {rm : Room} {nm : String} {z : Z9} {kc ks : Nat} {S : Hp} {pc : Nat} {lv : List (Nat × Value)} {st : List Value}
/-- the same, the text by a wide index -/
theorem z_throwW (C : Cx l v own cc nL ret nm z) {Qc : Qt} {EQ : String → Hp → Prop} {cls text : String} {ik is ic : Nat} {names : List String} (hfl : l.stackTraces = false) (T : EE v rm Qc EQ z) (N : NT z)
    (hfit : Bundle.fit cls = true ∧ ∀ n ∈ names, Bundle.fit n = true) (w1 : Cond.classLink own ik cls ∈ BW) (w2 : Cond.initialized cls ∈ BW) (hstr : (own, is, text) ∈ STRS) (hat : ∀ w ∈ vx_atS own ic cls names, w ∈ BW ∨ w ∈ NW) (hgood : ∀ w ∈ vx_atS own ic cls names, vx_ot w = true) (hg2 : vx_ot (Cond.classLink own ik cls) = true ∧ vx_ot (Cond.initialized cls) = true)
    (d0 : decode cc pc = .ok (.new ik, 3)) (d3 : decode cc (pc + 3) = .ok (.dup, 1)) (d4 : decode cc (pc + 4) = .ok (.ldc_w is, 3)) (d6 : decode cc (pc + 7) = .ok (.invokespecial ic, 3)) (d9 : decode cc (pc + 10) = .ok (.athrow, 1))
    (hroom : names.length + 3 < rm.frames ∧ 2 * st.length + (13 * (names.length + 1) + 43) ≤ rm.locals ∧ kc + 1 ≤ rm.cells ∧ ks + 6 ≤ rm.slots) (h : EQ cls S) : ZZ l v nL rm z kc ks S pc lv st := by
  obtain ⟨⟨p, e, s, m, args, below, meth, c⟩, X, A, E⟩ := z
  obtain ⟨hx, hb, hr, hml, hown, hts, hK, hlocks, hA, hW, -⟩ := C
  intro H locs ls cells slots hP hD hS hc hs hl hT
  obtain rfl : E = _ := T
  obtain ⟨sa, hsa⟩ := hW.2.1 _ hstr
  obtain ⟨r1, r2, r3, r4⟩ := hroom
  have hcat := cat_le st
  have hwat : ∀ w ∈ vx_atS own ic cls names, w.before args s = true := by
    intro w hw
    rcases hat w hw with h9 | h9
    · exact hts w h9
    · have h8 := hW.1 w h9
      have h7 : w.onTables = true := by
        have h6 := (List.mem_filter.mp h9).2
        have h5 := hgood w hw
        cases w <;> first | rfl | (simp [nwk] at h6; done) | (simp [vx_ot, goodWord, Cond.onTables] at h5; done)
      exact va_Nw.use h7 h8
  refine vx_throwSW (sa := sa) (names := names) hx hb hfl hown hfit.1 hfit.2 (hts _ w1) (hts _ w2) hsa hwat (fun w hw => ?_) hW.2.2.1 hW.2.2.2.1 hS (by rw [hml]; exact hl.1.1) d0 d3 d4 d6 d9 (fun x hx9 => (N x hx9).elim) r1 (by omega) (by omega) (by omega) hlocks (fun t hvm hz hq => ?_) hS.2.2 (by omega) (by omega)
  · rcases List.mem_cons.mp hw with rfl | hw
    · exact hg2.1
    · rcases List.mem_cons.mp hw with rfl | hw
      · exact hg2.2
      · exact hgood w hw
  · refine ⟨S, trivial, ⟨h, hP.kept (fun k q hk => hq q.1 (hP k q hk).lt), hD, hT⟩, Nat.le_trans hS.1 hz, fun q h1 h2 => ?_⟩
    rw [hq q (Nat.lt_of_lt_of_le h1 hS.1)]
    exact hS.2.1 q h1 h2
theorem z_max (C : Cx l v own cc nL ret nm z) {idx : Nat} {x y : Int32} (w1 : Cond.methodLink own idx Lib.Math.max.name ∈ BW) (w2 : Cond.static Lib.Math.max.name ∈ BW) (w3 : Cond.initialized "java/lang/Math" ∈ BW) (w4 : Cond.code Lib.Math.max.name Lib.Math.max.code 2 (some .int) ∈ BW) (hroom : 1 ≤ rm.frames ∧ 2 * st.length + 13 ≤ rm.locals ∧ kc ≤ rm.cells ∧ ks ≤ rm.slots) (hd : decode cc pc = .ok (.invokestatic idx, 3)) (k : ZZ l v nL rm z kc ks S (pc + 3) lv (.int (if x < y then y else x) :: st)) : ZZ l v nL rm z kc ks S pc lv (.int y :: .int x :: st) := by
  obtain ⟨⟨p, e, s, m, args, below, meth, c⟩, X, A, E⟩ := z
  obtain ⟨hx, hb, hr, hml, hown, hts, hK, hlocks, hA, hW, -⟩ := C
  intro H locs ls cells slots hP hD hS hc hs hl hT
  have hcat := cat_le st
  obtain ⟨r1, r2, r3, r4⟩ := hroom
  exact va_mmax hx hb (hml.trans hl.1.1.symm) hown (hts _ w1) (hts _ w2) (hts _ w3) (hts _ w4) r1 (by omega) (Nat.le_trans hc r3) (Nat.le_trans hs r4) hd (k H locs ls cells slots hP hD hS hc hs hl hT)
theorem z_min (C : Cx l v own cc nL ret nm z) {idx : Nat} {x y : Int32} (w1 : Cond.methodLink own idx Lib.Math.min.name ∈ BW) (w2 : Cond.static Lib.Math.min.name ∈ BW) (w3 : Cond.initialized "java/lang/Math" ∈ BW) (w4 : Cond.code Lib.Math.min.name Lib.Math.min.code 2 (some .int) ∈ BW) (hroom : 1 ≤ rm.frames ∧ 2 * st.length + 13 ≤ rm.locals ∧ kc ≤ rm.cells ∧ ks ≤ rm.slots) (hd : decode cc pc = .ok (.invokestatic idx, 3)) (k : ZZ l v nL rm z kc ks S (pc + 3) lv (.int (if y < x then y else x) :: st)) : ZZ l v nL rm z kc ks S pc lv (.int y :: .int x :: st) := by
  obtain ⟨⟨p, e, s, m, args, below, meth, c⟩, X, A, E⟩ := z
  obtain ⟨hx, hb, hr, hml, hown, hts, hK, hlocks, hA, hW, -⟩ := C
  intro H locs ls cells slots hP hD hS hc hs hl hT
  have hcat := cat_le st
  obtain ⟨r1, r2, r3, r4⟩ := hroom
  exact va_mmin hx hb (hml.trans hl.1.1.symm) hown (hts _ w1) (hts _ w2) (hts _ w3) (hts _ w4) r1 (by omega) (Nat.le_trans hc r3) (Nat.le_trans hs r4) hd (k H locs ls cells slots hP hD hS hc hs hl hT)
theorem vc_obj : ∀ ke, ke < 10 → ∃ vc : vw_C, vwc[ke]? = some vc ∧ Cond.castable vc.1 "java/lang/Object" ∈ NW := by
  intro ke h
  rcases (show ke = 0 ∨ ke = 1 ∨ ke = 2 ∨ ke = 3 ∨ ke = 4 ∨ ke = 5 ∨ ke = 6 ∨ ke = 7 ∨ ke = 8 ∨ ke = 9 by omega) with rfl | rfl | rfl | rfl | rfl | rfl | rfl | rfl | rfl | rfl
  · exact ⟨_, rfl, nw_880⟩
  · exact ⟨_, rfl, nw_887⟩
  · exact ⟨_, rfl, nw_881⟩
  · exact ⟨_, rfl, nw_891⟩
  · exact ⟨_, rfl, nw_892⟩
  · exact ⟨_, rfl, nw_889⟩
  · exact ⟨_, rfl, nw_890⟩
  · exact ⟨_, rfl, nw_886⟩
  · exact ⟨_, rfl, nw_882⟩
  · exact ⟨_, rfl, nw_882⟩
theorem z_aastK (C : Cx l v own cc nL ret nm z) {ke a b : Nat} {r x : Option Nat} {i : Int32} (hke : ke < 10) (hd : decode cc pc = .ok (.aastore, 1)) (hr9 : r = some a) (ho : okA S 15 a) (h1 : vp_in i (g_N S a)) (hx9 : x = some b) (ho2 : okA S ke b) (k : ZZ l v nL rm z kc ks (s_O S a i.toNatClampNeg x) (pc + 1) lv st) : ZZ l v nL rm z kc ks S pc lv (va_rf x :: .int i :: va_rf r :: st) := by
  obtain ⟨vc, h2, h3⟩ := vc_obj ke hke
  exact z_aast C (κ := 15) (ci := ke) (by decide) 4 (fun _ => rfl) (by omega) h2 (Or.inl h3) hd hr9 ho h1 hx9 ho2 k
theorem z_ldcM (C : Cx l v own cc nL ret nm z) {idx : Nat} (w1 : Cond.classLink own idx "[Ljava/lang/Object;" ∈ BW) (hd : decode cc pc = .ok (.ldc idx, 2)) (k : ZZ l v nL rm z kc ks S (pc + 2) lv (va_rf (some v.2.2.2) :: st)) : ZZ l v nL rm z kc ks S pc lv st := by
  obtain ⟨⟨p, e, s, m, args, below, meth, c⟩, X, A, E⟩ := z
  obtain ⟨hx, hb, hr, hml, hown, hts, hK, hlocks, hA, hW, -⟩ := C
  intro H locs ls cells slots hP hD hS hc hs hl hT
  exact va_ldcM hx hb hown (hts _ w1) hW.2.2.2.2.2.2.1 hd (k H locs ls cells slots hP hD hS hc hs hl hT)
theorem arr_at {v : Ev} {s : State} {X : va_W} {S : Hp} {H : Heap} {a : Nat} (hP : va_P v.1 vwc (X ++ g_w v.2.1 S) H) (hK : va_K v.1 vwc (tyc v.2.1) s) (ho : okA S 15 a) : ∃ cell : Cell, H[a]? = some cell ∧ cell.vm.isStatics = false ∧ s.vm.findClass "[Ljava/lang/Object;" = some cell.cls := by
  obtain ⟨q0, hq⟩ := g_at (X := X) (cy := v.2.1) ho
  rw [g_ref ho (by decide)] at hq
  exact ⟨_, hP q0 _ hq, rfl, va_nmO (hK.2 4 (v.2.1 15, .object "java/lang/Object") rfl).2 (by decide +kernel)⟩
theorem z_getC (C : Cx l v own cc nL ret nm z) {idx a : Nat} {r : Option Nat} (w1 : Cond.methodLink own idx ⟨"java/lang/Object", "getClass", "()Ljava/lang/Class;"⟩ ∈ BW) (w2 : Cond.declares ⟨"java/lang/Object", "getClass", "()Ljava/lang/Class;"⟩ ∈ NW) (w3 : Cond.selects "[Ljava/lang/Object;" ⟨"java/lang/Object", "getClass", "()Ljava/lang/Class;"⟩ ⟨"java/lang/Object", "getClass", "()Ljava/lang/Class;"⟩ ∈ BW) (w4 : Cond.instanceMethod ⟨"java/lang/Object", "getClass", "()Ljava/lang/Class;"⟩ ∈ BW) (w5 : Cond.native ⟨"java/lang/Object", "getClass", "()Ljava/lang/Class;"⟩ ∈ BW)
    (hroom : 1 ≤ rm.frames ∧ 2 * st.length + 14 ≤ rm.locals) (hd : decode cc pc = .ok (.invokevirtual idx, 3)) (hr9 : r = some a) (ho : okA S 15 a) (k : ZZ l v nL rm z kc ks S (pc + 3) lv (va_rf (some v.2.2.2) :: st)) : ZZ l v nL rm z kc ks S pc lv (va_rf r :: st) := by
  subst hr9
  obtain ⟨⟨p, e, s, m, args, below, meth, c⟩, X, A, E⟩ := z
  obtain ⟨hx, hb, hr, hml, hown, hts, hK, hlocks, hA, hW, -⟩ := C
  intro H locs ls cells slots hP hD hS hc hs hl hT
  have hcat := cat_le st
  exact va_getC hx hb (hml.trans hl.1.1.symm) hown (hts _ w1) (va_Nw.use rfl (hW.1 _ w2)) (hts _ w3) (hts _ w4) (hts _ w5) hW.2.2.2.2.2.2.1 (arr_at hP hK ho) hroom.1 (by omega) hd (k H locs ls cells slots hP hD hS hc hs hl hT)
theorem z_acopy (C : Cx l v own cc nL ret nm z) {idx a b ke : Nat} {r x : Option Nat} {sp dp n : Int32} (w1 : Cond.methodLink own idx arraycopyName ∈ BW) (w2 : Cond.native arraycopyName ∈ BW) (w3 : Cond.static arraycopyName ∈ BW) (w4 : Cond.initialized "java/lang/System" ∈ BW) (hroom : 1 ≤ rm.frames ∧ 2 * st.length + 100 ≤ rm.locals) (hd : decode cc pc = .ok (.invokestatic idx, 3))
    (hr9 : r = some a) (ho : okA S 15 a) (hx9 : x = some b) (ho2 : okA S 15 b) (h1 : ¬ sp < 0) (h2 : ¬ dp < 0) (h3 : ¬ n < 0) (h4 : sp.toNatClampNeg + n.toNatClampNeg ≤ g_N S a) (h5 : dp.toNatClampNeg + n.toNatClampNeg ≤ g_N S b) (hke : ke < 10) (hel : ∀ i, i < n.toNatClampNeg → ∀ y, g_O S a (sp.toNatClampNeg + i) = some y → okA S ke y)
    (k : ZZ l v nL rm z kc ks (s_W S b (va_cpy (g_O S a) (g_O S b) sp.toNatClampNeg dp.toNatClampNeg n.toNatClampNeg)) (pc + 3) lv st) : ZZ l v nL rm z kc ks S pc lv (.int n :: .int dp :: va_rf x :: .int sp :: va_rf r :: st) := by
  subst hr9
  subst hx9
  obtain ⟨⟨p, e, s, m, args, below, meth, c⟩, X, A, E⟩ := z
  obtain ⟨hx, hb, hr, hml, hown, hts, hK, hlocks, hA, hW, -⟩ := C
  intro H locs ls cells slots hP hD hS hc hs hl hT
  have hcat := cat_le st
  obtain ⟨vc, g2, g3⟩ := vc_obj ke hke
  obtain ⟨q0, hq⟩ := g_at (X := X) (cy := v.2.1) ho
  obtain ⟨q1, hq1⟩ := g_at (X := X) (cy := v.2.1) ho2
  have hq0 := hq
  have hq2 := hq1
  rw [g_ref ho (by decide)] at hq0
  rw [g_ref ho2 (by decide)] at hq2
  have hw : nativeFrameWords "java/lang/System" "arraycopy" 5 + 11 ≤ 100 := by decide +kernel
  refine va_copyq (C := vc.1) hx hb (hml.trans hl.1.1.symm) hown (hts _ w1) (hts _ w2) (hts _ w3) (hts _ w4) hK hP hD hS q0 q1 4 4 hq0 hq2 rfl rfl h1 h2 h3 h4 h5 (fun i hi y hy => ?_) (vb_asgC (hW.1 _ g3)) hroom.1 (by omega) hd (fun H1 locs1 hP1 hD1 hS1 => k H1 locs1 ls cells slots (by rw [← set_W hD ho2 (by decide) hq1]; exact hP1) (by rw [← set_W hD ho2 (by decide) hq1]; exact hD1) hS1 hc hs hl hT)
  have hoy := hel i hi y hy
  obtain ⟨q3, hq3⟩ := g_at (X := X) (cy := v.2.1) hoy
  rw [g_obj hoy (by omega)] at hq3
  exact va_recv hK hP g2 hq3
end ZMORE
