/-! THE LAYER: a judgement over the pool's picture; all that doesn't change in a method in two packs -/
abbrev Ev : Type := va_G × (Nat → ClassId) × Nat × Nat
abbrev vwc : List vw_C := [(RX0, TX0, 1), (RX1, TX1, 14), (RX2, TX2, 3), (RX3, TX3, 6), (RX4, TX4, 7), (RX5, TX5, 4), (RX6, TX6, 5), (RX7, TX7, 4), (RX8, TX8, 7), (RX8, TX8, 7), (RJx4a65c, TJx4a65c, 3)]
def tyc (cy : Nat → ClassId) : List (ClassId × FieldType) := [(cy 11, .int), (cy 12, .int), (cy 13, .object "Badgewood$Badge"), (cy 14, .object "Badgewood$Course"), (cy 15, .object "java/lang/Object"), (cy 16, .int)]
theorem nw_warm {w : Cond} (hn : nwk w = true) {s U : State} (hW : s.WarmedH U.vm) (h : va_Nw w s) : va_Nw w U := by
  cases w <;> first
    | exact va_Nw.warmC hW h
    | exact va_Nw.warmD hW h
    | exact va_Nw.warmM hW h
    | (rename_i ty; cases ty <;> first | exact va_AO.moved hW.alike h | simp [nwk] at hn)
    | simp [nwk] at hn
def NCL : List (String × String) := [("java/lang/IllegalArgumentException", "java/lang/IndexOutOfBoundsException"), ("java/lang/IllegalArgumentException", "java/lang/IllegalStateException"), ("java/lang/IllegalStateException", "java/lang/IndexOutOfBoundsException"), ("java/lang/IllegalStateException", "java/lang/IllegalArgumentException"), ("java/lang/IndexOutOfBoundsException", "java/lang/IllegalArgumentException"), ("java/lang/IndexOutOfBoundsException", "java/lang/IllegalStateException")]
/-- what the launch gives beside the good words: the other words of the tables, the texts, the three statics, the JDK's empty array, the mirror of its class, which exceptions are no others -/
def SW (dm : Nat × Nat) (A : Nat → Prop) (U : State) (H : Heap) : Prop :=
  (∀ w ∈ NW, va_Nw w U) ∧ (∀ t ∈ STRS, ∃ a, vk_R t.1 t.2.1 t.2.2 a U) ∧ vx_Zq Bundle.tN "UNASSIGNED_STACK" Bundle.steD A U H ∧ vx_Zq Bundle.tN "SUPPRESSED_SENTINEL" Bundle.listD A U H ∧
  va_Z "java/util/ArrayList" "DEFAULTCAPACITY_EMPTY_ELEMENTDATA" "[Ljava/lang/Object;" (.ref dm.1) A U H ∧ va_T (.object "java/lang/Object") dm.1 0 (fun _ => .null) A U H ∧ va_Mi "[Ljava/lang/Object;" dm.2 U ∧ ∀ t ∈ NCL, va_Nc t.1 t.2 U
theorem SW.warm {dm : Nat × Nat} {A : Nat → Prop} {s U : State} {H : Heap} (hW : s.WarmedH U.vm) (h : SW dm A s H) : SW dm A U H := by
  obtain ⟨h1, h2, h3, h4, h5, h6, h7, h8⟩ := h
  refine ⟨fun w hw => nw_warm (List.mem_filter.mp hw).2 hW (h1 w hw), fun t ht => ?_, vx_Zq.moved hW.alike h3, vx_Zq.moved hW.alike h4, va_Z.moved hW.alike h5, va_T.moved hW.alike h6, va_Mi.moved hW.alike h7, fun t ht => va_Nc.moved hW.alike (h8 t ht)⟩
  obtain ⟨a, ha⟩ := h2 t ht
  exact ⟨a, vk_R.warm hW ha⟩
theorem SW.kept {dm : Nat × Nat} {A : Nat → Prop} {U : State} {H H1 : Heap} (h : SW dm A U H) (hq : ∀ a : Nat, a < H.size → ¬ A a → H1[a]? = H[a]?) : SW dm A U H1 := by
  obtain ⟨h1, h2, h3, h4, h5, h6, h7, h8⟩ := h
  exact ⟨h1, h2, h3.kept hq, h4.kept hq, h5.kept hq, h6.kept hq, h7, h8⟩
theorem SW.narrow {dm : Nat × Nat} {A B : Nat → Prop} {U : State} {H : Heap} (h : SW dm A U H) (hAB : ∀ q, B q → A q) : SW dm B U H := by
  obtain ⟨h1, h2, h3, h4, h5, h6, h7, h8⟩ := h
  exact ⟨h1, h2, h3.narrow hAB, h4.narrow hAB, h5.narrow hAB, h6.narrow hAB, h7, h8⟩
def WPre (v : Ev) (X : va_W) (S : Hp) (U : State) : Prop :=
  va_P v.1 vwc (X ++ g_w v.2.1 S) U.heap ∧ va_K v.1 vwc (tyc v.2.1) U ∧ va_D (fun _ => True) (X ++ g_w v.2.1 S) ∧ SW v.2.2 (va_A (X ++ g_w v.2.1 S) U.heap.size) U U.heap ∧ g_T S = v.2.2.1
def WPo (v : Ev) (X : va_W) (S : Hp) (A : Nat → Prop) (U : State) : Prop :=
  va_P v.1 vwc (X ++ g_w v.2.1 S) U.heap ∧ va_D A (X ++ g_w v.2.1 S) ∧ g_T S = v.2.2.1
abbrev P9 : Type := Program × Env × State × MethodId × Array Value × List Frame × Method × Code
abbrev Z9 : Type := P9 × va_W × (Nat → Prop) × (State → Prop)
abbrev Qt : Type := va_W → (Nat → Prop) → Array Value → State → Outcome → State → Prop
def Cx (l : Launch) (v : Ev) (own : String) (cc : ByteArray) (nL : Nat) (ret : Option FieldType) (nm : String) (z : Z9) : Prop := match z with
  | ((p, _, s, m, args, _, meth, c), _, A, _) => p.tables.exec = Jvm.exec ∧ c.code = cc ∧ meth.sig.returnType = ret ∧ c.maxLocals = nL ∧ s.vm.findClass own = some m.cls ∧ (∀ w ∈ BW, w.before args s = true) ∧ va_K v.1 vwc (tyc v.2.1) s ∧ meth.locks = false ∧ (∀ q, s.heap.size ≤ q → A q) ∧ SW v.2.2 A s s.heap ∧ meth.name = nm
def NT (z : Z9) : Prop := match z with
  | ((_, _, _, _, _, _, _, c), _, _, _) => ∀ x ∈ c.exceptionTable.toList, False
def TB (hh : List (Nat × Nat × Nat × Nat)) (z : Z9) : Prop := match z with
  | ((_, _, _, _, _, _, _, c), _, _, _) => c.exceptionTable.toList = tableOf hh
def QI (v : Ev) (Q : Int32 → Hp → Prop) : Qt := fun X A => va_Qi Q (fun S' U => WPo v X S' A U) A
def QV (v : Ev) (Q : Hp → Prop) : Qt := fun X A => va_Qv Q (fun S' U => WPo v X S' A U) A
def QQ (v : Ev) (Q : Option Nat → Hp → Prop) : Qt := fun X A => va_Qq Q (fun S' U => WPo v X S' A U) A
def XQ (v : Ev) (EQ : String → Hp → Prop) (X : va_W) (A : Nat → Prop) : String → State → State → Prop := vx_X (fun _ : Hp => True) (fun En S' U => EQ En S' ∧ WPo v X S' A U) A
/-- the method's end, by its answer and by its throws -/
def EE (v : Ev) (rm : Room) (Qc : Qt) (EQ : String → Hp → Prop) (z : Z9) : Prop := match z with
  | ((_, _, s, _, args, below, _, _), X, A, E) => E = vx_MQ below (Qc X A) (XQ v EQ X A) args s rm.cells rm.slots A
/-- a store at 3 wants no long at 2 -/
def noL (j : Nat) (lv : List (Nat × Value)) : Bool := !(j == 3) || lv.all (fun q => !(q.1 == 2) || q.2.category == 1)
def lvk (ls : Array Slot) (nL : Nat) (lv : List (Nat × Value)) : Prop := lv_has ls nL lv ∧ ∀ q ∈ lv, q.2.category = 1 ∨ q.1 = 2
def ZZ (l : Launch) (v : Ev) (nL : Nat) (rm : Room) (z : Z9) (kc ks : Nat) (S : Hp) (pc : Nat) (lv : List (Nat × Value)) (st : List Value) : Prop := match z with
  | ((p, e, s, m, args, below, meth, c), X, A, E) => ∀ (H : Heap) (locs : List Loc) (ls : Array Slot) (cells slots : Nat), va_P v.1 vwc (X ++ g_w v.2.1 S) H → va_D A (X ++ g_w v.2.1 S) → va_S A s.heap H locs → cells ≤ kc → slots ≤ ks → lvk ls nL lv → g_T S = v.2.2.1 →
      W p l e rm s m args below meth c H locs cells slots E (F0 m pc ls st)
def ZX (l : Launch) (v : Ev) (nL : Nat) (rm : Room) (z : Z9) (kc ks : Nat) (En : String) (S : Hp) (pc : Nat) (lv : List (Nat × Value)) : Prop := match z with
  | ((p, e, s, m, args, below, meth, c), X, A, E) => ∀ (H : Heap) (locs : List Loc) (ls : Array Slot) (cells slots : Nat) (rest : List Value) (q9 : Addr) (ce : Cell), va_P v.1 vwc (X ++ g_w v.2.1 S) H → va_D A (X ++ g_w v.2.1 S) → va_S A s.heap H locs → cells ≤ kc → slots ≤ ks → lvk ls nL lv → g_T S = v.2.2.1 →
      H[q9]? = some ce → ce.vm = .none → s.vm.findClass En = some ce.cls → vx_W p l e rm s m args below meth c H locs cells slots E (F0 m pc ls rest) q9
/-- contracts: by what a method answers -/
def CG (l : Launch) (v : Ev) (y : MethodName) (cc : ByteArray) (maxL : Nat) (ret : Option FieldType) (rm : Room) (args : List Value) (S : Hp) (Qc : Qt) (EQ : String → Hp → Prop) : Prop :=
  ∀ (X : va_W) (sz : Nat), vx_Met l y (Cond.code y cc maxL ret :: BW) rm (va_Pc args (fun U => U.heap.size = sz ∧ WPre v X S U)) (Qc X (va_A (X ++ g_w v.2.1 S) sz)) (XQ v EQ X (va_A (X ++ g_w v.2.1 S) sz)) rm.cells rm.slots (va_A (X ++ g_w v.2.1 S) sz)
def CI (l : Launch) (v : Ev) (y : MethodName) (cc : ByteArray) (maxL : Nat) (ret : Option FieldType) (rm : Room) (args : List Value) (S : Hp) (wp : (Int32 → Hp → Prop) → (String → Hp → Prop) → Prop) : Prop := ∀ Q EQ, wp Q EQ → CG l v y cc maxL ret rm args S (QI v Q) EQ
def CQ (l : Launch) (v : Ev) (y : MethodName) (cc : ByteArray) (maxL : Nat) (ret : Option FieldType) (rm : Room) (args : List Value) (S : Hp) (wp : (Option Nat → Hp → Prop) → (String → Hp → Prop) → Prop) : Prop := ∀ Q EQ, wp Q EQ → CG l v y cc maxL ret rm args S (QQ v Q) EQ
def CV (l : Launch) (v : Ev) (y : MethodName) (cc : ByteArray) (maxL : Nat) (ret : Option FieldType) (rm : Room) (args : List Value) (S : Hp) (wp : (Hp → Prop) → (String → Hp → Prop) → Prop) : Prop := ∀ Q EQ, wp Q EQ → CG l v y cc maxL ret rm args S (QV v Q) EQ
theorem pre_blind {v : Ev} {X : va_W} {S : Hp} {args : List Value} {sz : Nat} : FrameBlind (va_Pc args (fun U => U.heap.size = sz ∧ WPre v X S U)) := by
  intro a U g mk h
  obtain ⟨h1, h2, hP, hK, hD, hW, hT⟩ := h
  exact ⟨h1, h2, hP, va_K.moved (u := U) (U := U.calling g mk a) (Vm.Alike.refl U.vm) hK, hD, SW.warm (s := U) (U := U.calling g mk a) (State.WarmedH.refl U) hW, hT⟩
theorem wA {X : va_W} {S : Hp} {cy : Nat → ClassId} {A : Nat → Prop} {s : State} {H : Heap} {locs : List Loc} (hD : va_D A (X ++ g_w cy S)) (hS : va_S A s.heap H locs) (hA : ∀ q, s.heap.size ≤ q → A q) : ∀ q, va_A (X ++ g_w cy S) H.size q → A q := by
  intro q h
  rcases h with ⟨k, e, h⟩ | h
  · exact hD.2 k (q, e) h
  · exact hA q (Nat.le_trans hS.1 h)
theorem z_start {l : Launch} {v : Ev} {y : MethodName} {cc : ByteArray} {maxL : Nat} {ret : Option FieldType} {rm : Room} {args : List Value} {S : Hp} {Qc : Qt} {EQ : String → Hp → Prop} (lv : List (Nat × Value)) (hy : plainName y.cls = true) (hlv : lv_args 0 args = lv) (hcat : ∀ q ∈ lv, q.2.category = 1) (hsz : (lg_sl args).length ≤ maxL)
    (body : ∀ z : Z9, Cx l v y.cls cc maxL ret y.name z → NT z → EE v rm Qc EQ z → ZZ l v maxL rm z 0 0 S 0 lv []) : CG l v y cc maxL ret rm args S Qc EQ := by
  intro X sz
  refine vx_ofW hy rfl ?_
  intro p e s m args' below meth c s₁ B hml ht hv
  obtain ⟨rfl, hsz9, hP, hK, hD, hW, hT⟩ := hv
  have hts := atoms_spec (ws := Cond.code y cc maxL ret :: BW) B.pre
  subst hsz9
  rw [lg_entry_eq]
  refine body ((p, e, s, m, args.toArray, below, meth, c), X, va_A (X ++ g_w v.2.1 S) s.heap.size, _) ⟨B.exec, B.bytes, B.returns, hml, findClass_of_methodNamed B.named, fun w hw => hts w (List.mem_cons_of_mem _ hw), hK, B.notSynchronized, fun q hq => Or.inr hq, hW, (name_of_methodNamed B.named B.method).1⟩ ht rfl s.heap [] _ 0 0 hP hD.self va_S.rf (Nat.le_refl _) (Nat.le_refl _) ⟨?_, fun q hq => Or.inl (hcat q hq)⟩ hT
  rw [← hlv]
  exact lv_entry args hsz
section ZR
variable {l : Launch} {v : Ev} {own : String} {cc : ByteArray} {nL : Nat} {ret : Option FieldType} {rm : Room} {nm : String} {z : Z9} {kc ks : Nat} {S : Hp} {pc : Nat} {lv : List (Nat × Value)} {st : List Value}
theorem cat_rf (r : Option Nat) : (va_rf r).category = 1 := by cases r <;> rfl
theorem lvk_at {ls : Array Slot} {lv : List (Nat × Value)} (h : lvk ls nL lv) (k : Nat) {i : Nat} {x : Value} (hk : lv[k]? = some (i, x)) : ls[i]? = some (.val x) := lv_at h.1 k hk
theorem lv_1f {lv : List (Nat × Value)} {i : Nat} (h : ∀ q ∈ lv, q.2.category = 1 ∨ q.1 = 2) (h3 : noL i lv = true) : lv.filter (fun q => !(q.1 == i) && !(q.1 + 1 == i && q.2.category == 2)) = lv.filter (fun q => !(q.1 == i)) := by
  apply List.filter_congr
  intro q hq
  rcases h q hq with e | e
  · simp [e]
  · by_cases e3 : i = 3
    · subst e3
      simp only [noL, beq_self_eq_true, Bool.not_true, Bool.false_or, List.all_eq_true] at h3
      have h4 := h3 q hq
      rw [e] at h4
      have h5 : q.2.category = 1 := by simpa using h4
      simp [h5]
    · have : (q.1 + 1 == i) = false := by
        rw [e]
        simp
        omega
      simp [this]
theorem lvk_st {ls : Array Slot} {lv : List (Nat × Value)} {i : Nat} {x : Value} (hk : ∀ q ∈ lv, q.2.category = 1 ∨ q.1 = 2) (h3 : noL i lv = true) (hx : x.category = 1) (h : lv_has ls nL ((i, x) :: lv.filter (fun q => !(q.1 == i) && !(q.1 + 1 == i && q.2.category == 2)))) : lvk ls nL ((i, x) :: lv.filter (fun q => !(q.1 == i))) := by
  rw [lv_1f hk h3] at h
  refine ⟨h, fun q hq => ?_⟩
  rcases List.mem_cons.mp hq with rfl | hq
  · exact Or.inl hx
  · exact hk q (List.mem_filter.mp hq).1
theorem z_sub {lv' : List (Nat × Value)} (is : List Nat) (hl : lv_pick lv is = lv') (k : ZZ l v nL rm z kc ks S pc lv' st) : ZZ l v nL rm z kc ks S pc lv st := by
  obtain ⟨⟨p, e, s, m, args, below, meth, c⟩, X, A, E⟩ := z
  intro H locs ls cells slots hP hD hS hc hs hl9 hT
  refine k H locs ls cells slots hP hD hS hc hs ⟨lv_sub hl9.1 is hl, fun q hq => ?_⟩ hT
  rw [← hl] at hq
  obtain ⟨i, -, hi⟩ := List.mem_filterMap.mp hq
  exact hl9.2 q (List.mem_of_getElem? hi)
theorem z_wide {kc' ks' : Nat} (h1 : kc ≤ kc') (h2 : ks ≤ ks') (k : ZZ l v nL rm z kc' ks' S pc lv st) : ZZ l v nL rm z kc ks S pc lv st := by
  obtain ⟨⟨p, e, s, m, args, below, meth, c⟩, X, A, E⟩ := z
  intro H locs ls cells slots hP hD hS hc hs hl hT
  exact k H locs ls cells slots hP hD hS (Nat.le_trans hc h1) (Nat.le_trans hs h2) hl hT
theorem z_st {st' : List Value} (h : st = st') (k : ZZ l v nL rm z kc ks S pc lv st') : ZZ l v nL rm z kc ks S pc lv st := by subst h; exact k
theorem z_iconst (C : Cx l v own cc nL ret nm z) {n : Int} {x : Int32} (hd : decode cc pc = .ok (.iconst n, 1)) (hv : Int32.ofInt n = x) (k : ZZ l v nL rm z kc ks S (pc + 1) lv (.int x :: st)) : ZZ l v nL rm z kc ks S pc lv st := by
  obtain ⟨⟨p, e, s, m, args, below, meth, c⟩, X, A, E⟩ := z
  obtain ⟨hx, hb, -, hml, hown, hts, hK, -⟩ := C
  intro H locs ls cells slots hP hD hS hc hs hl hT
  exact lv_iconst hx hb hd hv (k H locs ls cells slots hP hD hS hc hs hl hT)
theorem z_bipush (C : Cx l v own cc nL ret nm z) {n : Int} {x : Int32} (hd : decode cc pc = .ok (.bipush n, 2)) (hv : (Int8.ofInt n).toInt32 = x) (k : ZZ l v nL rm z kc ks S (pc + 2) lv (.int x :: st)) : ZZ l v nL rm z kc ks S pc lv st := by
  obtain ⟨⟨p, e, s, m, args, below, meth, c⟩, X, A, E⟩ := z
  obtain ⟨hx, hb, -, hml, hown, hts, hK, -⟩ := C
  intro H locs ls cells slots hP hD hS hc hs hl hT
  exact lv_bipush hx hb hd hv (k H locs ls cells slots hP hD hS hc hs hl hT)
theorem z_sipush (C : Cx l v own cc nL ret nm z) {n : Int} {x : Int32} (hd : decode cc pc = .ok (.sipush n, 3)) (hv : (Int16.ofInt n).toInt32 = x) (k : ZZ l v nL rm z kc ks S (pc + 3) lv (.int x :: st)) : ZZ l v nL rm z kc ks S pc lv st := by
  obtain ⟨⟨p, e, s, m, args, below, meth, c⟩, X, A, E⟩ := z
  obtain ⟨hx, hb, -, hml, hown, hts, hK, -⟩ := C
  intro H locs ls cells slots hP hD hS hc hs hl hT
  exact lv_sipush hx hb hd hv (k H locs ls cells slots hP hD hS hc hs hl hT)
theorem z_lconst (C : Cx l v own cc nL ret nm z) {n : Fin 2} {x : Int64} (hd : decode cc pc = .ok (.lconst n, 1)) (hv : Int64.ofNat (n : Nat) = x) (k : ZZ l v nL rm z kc ks S (pc + 1) lv (.long x :: st)) : ZZ l v nL rm z kc ks S pc lv st := by
  obtain ⟨⟨p, e, s, m, args, below, meth, c⟩, X, A, E⟩ := z
  obtain ⟨hx, hb, -, hml, hown, hts, hK, -⟩ := C
  intro H locs ls cells slots hP hD hS hc hs hl hT
  exact lv_lconst hx hb hd hv (k H locs ls cells slots hP hD hS hc hs hl hT)
theorem z_null (C : Cx l v own cc nL ret nm z)  (hd : decode cc pc = .ok (.aconst_null, 1))  (k : ZZ l v nL rm z kc ks S (pc + 1) lv (va_rf none :: st)) : ZZ l v nL rm z kc ks S pc lv st := by
  obtain ⟨⟨p, e, s, m, args, below, meth, c⟩, X, A, E⟩ := z
  obtain ⟨hx, hb, -, hml, hown, hts, hK, -⟩ := C
  intro H locs ls cells slots hP hD hS hc hs hl hT
  exact lv_null hx hb hd  (k H locs ls cells slots hP hD hS hc hs hl hT)
theorem z_iload_n (C : Cx l v own cc nL ret nm z) {k4 : Fin 4} {x : Int32} (hd : decode cc pc = .ok (.iload_n k4, 1)) (i : Nat) (hl9 : lv[i]? = some ((k4 : Nat), .int x)) (k : ZZ l v nL rm z kc ks S (pc + 1) lv (.int x :: st)) : ZZ l v nL rm z kc ks S pc lv st := by
  obtain ⟨⟨p, e, s, m, args, below, meth, c⟩, X, A, E⟩ := z
  obtain ⟨hx, hb, -, hml, hown, hts, hK, -⟩ := C
  intro H locs ls cells slots hP hD hS hc hs hl hT
  exact lv_iload_n hx hb hd rfl (lvk_at hl i hl9) (k H locs ls cells slots hP hD hS hc hs hl hT)
theorem z_iload (C : Cx l v own cc nL ret nm z) {j : Nat} {x : Int32} (hd : decode cc pc = .ok (.iload j, 2)) (i : Nat) (hl9 : lv[i]? = some (j, .int x)) (k : ZZ l v nL rm z kc ks S (pc + 2) lv (.int x :: st)) : ZZ l v nL rm z kc ks S pc lv st := by
  obtain ⟨⟨p, e, s, m, args, below, meth, c⟩, X, A, E⟩ := z
  obtain ⟨hx, hb, -, hml, hown, hts, hK, -⟩ := C
  intro H locs ls cells slots hP hD hS hc hs hl hT
  exact lv_iload hx hb hd (lvk_at hl i hl9) (k H locs ls cells slots hP hD hS hc hs hl hT)
theorem z_aload_n (C : Cx l v own cc nL ret nm z) {k4 : Fin 4} {r : Option Nat} (hd : decode cc pc = .ok (.aload_n k4, 1)) (i : Nat) (hl9 : lv[i]? = some ((k4 : Nat), va_rf r)) (k : ZZ l v nL rm z kc ks S (pc + 1) lv (va_rf r :: st)) : ZZ l v nL rm z kc ks S pc lv st := by
  obtain ⟨⟨p, e, s, m, args, below, meth, c⟩, X, A, E⟩ := z
  obtain ⟨hx, hb, -, hml, hown, hts, hK, -⟩ := C
  intro H locs ls cells slots hP hD hS hc hs hl hT
  cases r with
  | none => exact lv_aload_nN hx hb hd rfl (lvk_at hl i hl9) (k H locs ls cells slots hP hD hS hc hs hl hT)
  | some x => exact lv_aload_n hx hb hd rfl (lvk_at hl i hl9) (k H locs ls cells slots hP hD hS hc hs hl hT)
theorem z_aload (C : Cx l v own cc nL ret nm z) {j : Nat} {r : Option Nat} (hd : decode cc pc = .ok (.aload j, 2)) (i : Nat) (hl9 : lv[i]? = some (j, va_rf r)) (k : ZZ l v nL rm z kc ks S (pc + 2) lv (va_rf r :: st)) : ZZ l v nL rm z kc ks S pc lv st := by
  obtain ⟨⟨p, e, s, m, args, below, meth, c⟩, X, A, E⟩ := z
  obtain ⟨hx, hb, -, hml, hown, hts, hK, -⟩ := C
  intro H locs ls cells slots hP hD hS hc hs hl hT
  cases r with
  | none => exact lv_aloadN hx hb hd (lvk_at hl i hl9) (k H locs ls cells slots hP hD hS hc hs hl hT)
  | some x => exact lv_aload hx hb hd (lvk_at hl i hl9) (k H locs ls cells slots hP hD hS hc hs hl hT)
theorem z_istore_n (C : Cx l v own cc nL ret nm z) {k4 : Fin 4} {x : Int32} {lv' : List (Nat × Value)} (hd : decode cc pc = .ok (.istore_n k4, 1)) (hn : (k4 : Nat) < nL) (hq : ((k4 : Nat), Value.int x) :: lv.filter (fun q => !(q.1 == (k4 : Nat))) = lv') (k : ZZ l v nL rm z kc ks S (pc + 1) lv' st) (h3 : noL (k4 : Nat) lv = true := by first | rfl | (unfold noL; simp only [List.all_cons, List.all_nil, cat_rf]; rfl)) : ZZ l v nL rm z kc ks S pc lv (.int x :: st) := by
  obtain ⟨⟨p, e, s, m, args, below, meth, c⟩, X, A, E⟩ := z
  obtain ⟨hx, hb, -, hml, hown, hts, hK, -⟩ := C
  intro H locs ls cells slots hP hD hS hc hs hl hT
  exact lv_istore_n hx hb hd rfl hl.1 hn rfl (fun ls9 hl9 => k H locs ls9 cells slots hP hD hS hc hs (by rw [← hq]; exact lvk_st hl.2 h3 rfl hl9) hT)
theorem z_istore (C : Cx l v own cc nL ret nm z) {j : Nat} {x : Int32} {lv' : List (Nat × Value)} (hd : decode cc pc = .ok (.istore j, 2)) (hn : j < nL) (hq : (j, Value.int x) :: lv.filter (fun q => !(q.1 == j)) = lv') (k : ZZ l v nL rm z kc ks S (pc + 2) lv' st) (h3 : noL j lv = true := by first | rfl | (unfold noL; simp only [List.all_cons, List.all_nil, cat_rf]; rfl)) : ZZ l v nL rm z kc ks S pc lv (.int x :: st) := by
  obtain ⟨⟨p, e, s, m, args, below, meth, c⟩, X, A, E⟩ := z
  obtain ⟨hx, hb, -, hml, hown, hts, hK, -⟩ := C
  intro H locs ls cells slots hP hD hS hc hs hl hT
  exact lv_istore hx hb hd hl.1 hn rfl (fun ls9 hl9 => k H locs ls9 cells slots hP hD hS hc hs (by rw [← hq]; exact lvk_st hl.2 h3 rfl hl9) hT)
theorem z_astore_n (C : Cx l v own cc nL ret nm z) {k4 : Fin 4} {r : Option Nat} {lv' : List (Nat × Value)} (hd : decode cc pc = .ok (.astore_n k4, 1)) (hn : (k4 : Nat) < nL) (hq : ((k4 : Nat), va_rf r) :: lv.filter (fun q => !(q.1 == (k4 : Nat))) = lv') (k : ZZ l v nL rm z kc ks S (pc + 1) lv' st) (h3 : noL (k4 : Nat) lv = true := by first | rfl | (unfold noL; simp only [List.all_cons, List.all_nil, cat_rf]; rfl)) : ZZ l v nL rm z kc ks S pc lv (va_rf r :: st) := by
  obtain ⟨⟨p, e, s, m, args, below, meth, c⟩, X, A, E⟩ := z
  obtain ⟨hx, hb, -, hml, hown, hts, hK, -⟩ := C
  intro H locs ls cells slots hP hD hS hc hs hl hT
  cases r with
  | none => exact lv_astore_nN hx hb hd rfl hl.1 hn rfl (fun ls9 hl9 => k H locs ls9 cells slots hP hD hS hc hs (by rw [← hq]; exact lvk_st hl.2 h3 rfl hl9) hT)
  | some x => exact lv_astore_n hx hb hd rfl hl.1 hn rfl (fun ls9 hl9 => k H locs ls9 cells slots hP hD hS hc hs (by rw [← hq]; exact lvk_st hl.2 h3 rfl hl9) hT)
theorem z_astore (C : Cx l v own cc nL ret nm z) {j : Nat} {r : Option Nat} {lv' : List (Nat × Value)} (hd : decode cc pc = .ok (.astore j, 2)) (hn : j < nL) (hq : (j, va_rf r) :: lv.filter (fun q => !(q.1 == j)) = lv') (k : ZZ l v nL rm z kc ks S (pc + 2) lv' st) (h3 : noL j lv = true := by first | rfl | (unfold noL; simp only [List.all_cons, List.all_nil, cat_rf]; rfl)) : ZZ l v nL rm z kc ks S pc lv (va_rf r :: st) := by
  obtain ⟨⟨p, e, s, m, args, below, meth, c⟩, X, A, E⟩ := z
  obtain ⟨hx, hb, -, hml, hown, hts, hK, -⟩ := C
  intro H locs ls cells slots hP hD hS hc hs hl hT
  cases r with
  | none => exact lv_astoreN hx hb hd hl.1 hn rfl (fun ls9 hl9 => k H locs ls9 cells slots hP hD hS hc hs (by rw [← hq]; exact lvk_st hl.2 h3 rfl hl9) hT)
  | some x => exact lv_astore hx hb hd hl.1 hn rfl (fun ls9 hl9 => k H locs ls9 cells slots hP hD hS hc hs (by rw [← hq]; exact lvk_st hl.2 h3 rfl hl9) hT)
theorem z_iinc (C : Cx l v own cc nL ret nm z) {j : Nat} {n : Int} {x y : Int32} {lv' : List (Nat × Value)} (hd : decode cc pc = .ok (.iinc j n, 3)) (i : Nat) (hl9 : lv[i]? = some (j, .int x)) (hv : x + Int32.ofInt n = y) (hn : j < nL) (hq : (j, Value.int y) :: lv.filter (fun q => !(q.1 == j)) = lv') (k : ZZ l v nL rm z kc ks S (pc + 3) lv' st) (h3 : noL j lv = true := by first | rfl | (unfold noL; simp only [List.all_cons, List.all_nil, cat_rf]; rfl)) : ZZ l v nL rm z kc ks S pc lv st := by
  obtain ⟨⟨p, e, s, m, args, below, meth, c⟩, X, A, E⟩ := z
  obtain ⟨hx, hb, -, hml, hown, hts, hK, -⟩ := C
  intro H locs ls cells slots hP hD hS hc hs hl hT
  exact lv_iinc hx hb hd hl.1 hl9 hv hn rfl (fun ls9 hl8 => k H locs ls9 cells slots hP hD hS hc hs (by rw [← hq]; exact lvk_st hl.2 h3 rfl hl8) hT)
theorem z_iadd (C : Cx l v own cc nL ret nm z) {x y : Int32} (hd : decode cc pc = .ok (.iadd, 1))  (k : ZZ l v nL rm z kc ks S (pc + 1) lv (.int (x + y) :: st)) : ZZ l v nL rm z kc ks S pc lv (.int y :: .int x :: st) := by
  obtain ⟨⟨p, e, s, m, args, below, meth, c⟩, X, A, E⟩ := z
  obtain ⟨hx, hb, -, hml, hown, hts, hK, -⟩ := C
  intro H locs ls cells slots hP hD hS hc hs hl hT
  exact lv_iadd hx hb hd  (k H locs ls cells slots hP hD hS hc hs hl hT)
theorem z_isub (C : Cx l v own cc nL ret nm z) {x y : Int32} (hd : decode cc pc = .ok (.isub, 1))  (k : ZZ l v nL rm z kc ks S (pc + 1) lv (.int (x - y) :: st)) : ZZ l v nL rm z kc ks S pc lv (.int y :: .int x :: st) := by
  obtain ⟨⟨p, e, s, m, args, below, meth, c⟩, X, A, E⟩ := z
  obtain ⟨hx, hb, -, hml, hown, hts, hK, -⟩ := C
  intro H locs ls cells slots hP hD hS hc hs hl hT
  exact lv_isub hx hb hd  (k H locs ls cells slots hP hD hS hc hs hl hT)
theorem z_imul (C : Cx l v own cc nL ret nm z) {x y : Int32} (hd : decode cc pc = .ok (.imul, 1))  (k : ZZ l v nL rm z kc ks S (pc + 1) lv (.int (x * y) :: st)) : ZZ l v nL rm z kc ks S pc lv (.int y :: .int x :: st) := by
  obtain ⟨⟨p, e, s, m, args, below, meth, c⟩, X, A, E⟩ := z
  obtain ⟨hx, hb, -, hml, hown, hts, hK, -⟩ := C
  intro H locs ls cells slots hP hD hS hc hs hl hT
  exact lv_imul hx hb hd  (k H locs ls cells slots hP hD hS hc hs hl hT)
theorem z_iand (C : Cx l v own cc nL ret nm z) {x y : Int32} (hd : decode cc pc = .ok (.iand, 1))  (k : ZZ l v nL rm z kc ks S (pc + 1) lv (.int (x &&& y) :: st)) : ZZ l v nL rm z kc ks S pc lv (.int y :: .int x :: st) := by
  obtain ⟨⟨p, e, s, m, args, below, meth, c⟩, X, A, E⟩ := z
  obtain ⟨hx, hb, -, hml, hown, hts, hK, -⟩ := C
  intro H locs ls cells slots hP hD hS hc hs hl hT
  exact lv_iand hx hb hd  (k H locs ls cells slots hP hD hS hc hs hl hT)
theorem z_ior (C : Cx l v own cc nL ret nm z) {x y : Int32} (hd : decode cc pc = .ok (.ior, 1))  (k : ZZ l v nL rm z kc ks S (pc + 1) lv (.int (x ||| y) :: st)) : ZZ l v nL rm z kc ks S pc lv (.int y :: .int x :: st) := by
  obtain ⟨⟨p, e, s, m, args, below, meth, c⟩, X, A, E⟩ := z
  obtain ⟨hx, hb, -, hml, hown, hts, hK, -⟩ := C
  intro H locs ls cells slots hP hD hS hc hs hl hT
  exact lv_ior hx hb hd  (k H locs ls cells slots hP hD hS hc hs hl hT)
theorem z_ixor (C : Cx l v own cc nL ret nm z) {x y : Int32} (hd : decode cc pc = .ok (.ixor, 1))  (k : ZZ l v nL rm z kc ks S (pc + 1) lv (.int (x ^^^ y) :: st)) : ZZ l v nL rm z kc ks S pc lv (.int y :: .int x :: st) := by
  obtain ⟨⟨p, e, s, m, args, below, meth, c⟩, X, A, E⟩ := z
  obtain ⟨hx, hb, -, hml, hown, hts, hK, -⟩ := C
  intro H locs ls cells slots hP hD hS hc hs hl hT
  exact lv_ixor hx hb hd  (k H locs ls cells slots hP hD hS hc hs hl hT)
theorem z_ishl (C : Cx l v own cc nL ret nm z) {x y : Int32} (hd : decode cc pc = .ok (.ishl, 1))  (k : ZZ l v nL rm z kc ks S (pc + 1) lv (.int (x <<< (y &&& 31)) :: st)) : ZZ l v nL rm z kc ks S pc lv (.int y :: .int x :: st) := by
  obtain ⟨⟨p, e, s, m, args, below, meth, c⟩, X, A, E⟩ := z
  obtain ⟨hx, hb, -, hml, hown, hts, hK, -⟩ := C
  intro H locs ls cells slots hP hD hS hc hs hl hT
  exact lv_ishl hx hb hd  (k H locs ls cells slots hP hD hS hc hs hl hT)
theorem z_ishr (C : Cx l v own cc nL ret nm z) {x y : Int32} (hd : decode cc pc = .ok (.ishr, 1))  (k : ZZ l v nL rm z kc ks S (pc + 1) lv (.int (x >>> (y &&& 31)) :: st)) : ZZ l v nL rm z kc ks S pc lv (.int y :: .int x :: st) := by
  obtain ⟨⟨p, e, s, m, args, below, meth, c⟩, X, A, E⟩ := z
  obtain ⟨hx, hb, -, hml, hown, hts, hK, -⟩ := C
  intro H locs ls cells slots hP hD hS hc hs hl hT
  exact lv_ishr hx hb hd  (k H locs ls cells slots hP hD hS hc hs hl hT)
theorem z_iushr (C : Cx l v own cc nL ret nm z) {x y : Int32} (hd : decode cc pc = .ok (.iushr, 1))  (k : ZZ l v nL rm z kc ks S (pc + 1) lv (.int ((x.toUInt32 >>> (y.toUInt32 &&& Int32.toUInt32 31)).toInt32) :: st)) : ZZ l v nL rm z kc ks S pc lv (.int y :: .int x :: st) := by
  obtain ⟨⟨p, e, s, m, args, below, meth, c⟩, X, A, E⟩ := z
  obtain ⟨hx, hb, -, hml, hown, hts, hK, -⟩ := C
  intro H locs ls cells slots hP hD hS hc hs hl hT
  exact lv_iushr hx hb hd rfl (k H locs ls cells slots hP hD hS hc hs hl hT)
theorem z_idiv (C : Cx l v own cc nL ret nm z) {x y : Int32} (hd : decode cc pc = .ok (.idiv, 1)) (hne : ¬ y = 0) (k : ZZ l v nL rm z kc ks S (pc + 1) lv (.int (x / y) :: st)) : ZZ l v nL rm z kc ks S pc lv (.int y :: .int x :: st) := by
  obtain ⟨⟨p, e, s, m, args, below, meth, c⟩, X, A, E⟩ := z
  obtain ⟨hx, hb, -, hml, hown, hts, hK, -⟩ := C
  intro H locs ls cells slots hP hD hS hc hs hl hT
  exact lv_idiv hx hb hd hne (k H locs ls cells slots hP hD hS hc hs hl hT)
theorem z_irem (C : Cx l v own cc nL ret nm z) {x y : Int32} (hd : decode cc pc = .ok (.irem, 1)) (hne : ¬ y = 0) (k : ZZ l v nL rm z kc ks S (pc + 1) lv (.int (x - x / y * y) :: st)) : ZZ l v nL rm z kc ks S pc lv (.int y :: .int x :: st) := by
  obtain ⟨⟨p, e, s, m, args, below, meth, c⟩, X, A, E⟩ := z
  obtain ⟨hx, hb, -, hml, hown, hts, hK, -⟩ := C
  intro H locs ls cells slots hP hD hS hc hs hl hT
  exact lv_irem hx hb hd hne (k H locs ls cells slots hP hD hS hc hs hl hT)
theorem z_i2l (C : Cx l v own cc nL ret nm z) {x : Int32} (hd : decode cc pc = .ok (.i2l, 1))  (k : ZZ l v nL rm z kc ks S (pc + 1) lv (.long x.toInt64 :: st)) : ZZ l v nL rm z kc ks S pc lv (.int x :: st) := by
  obtain ⟨⟨p, e, s, m, args, below, meth, c⟩, X, A, E⟩ := z
  obtain ⟨hx, hb, -, hml, hown, hts, hK, -⟩ := C
  intro H locs ls cells slots hP hD hS hc hs hl hT
  exact lv_i2l hx hb hd rfl (k H locs ls cells slots hP hD hS hc hs hl hT)
theorem z_lcmp (C : Cx l v own cc nL ret nm z) {x y : Int64} (hd : decode cc pc = .ok (.lcmp, 1))  (k : ZZ l v nL rm z kc ks S (pc + 1) lv (.int (lg_cmp x y) :: st)) : ZZ l v nL rm z kc ks S pc lv (.long y :: .long x :: st) := by
  obtain ⟨⟨p, e, s, m, args, below, meth, c⟩, X, A, E⟩ := z
  obtain ⟨hx, hb, -, hml, hown, hts, hK, -⟩ := C
  intro H locs ls cells slots hP hD hS hc hs hl hT
  exact W.lcmp hx hb hd  (k H locs ls cells slots hP hD hS hc hs hl hT)
theorem z_dup (C : Cx l v own cc nL ret nm z) {x : Value} (hd : decode cc pc = .ok (.dup, 1)) (hx9 : x.category = 1) (k : ZZ l v nL rm z kc ks S (pc + 1) lv (x :: x :: st)) : ZZ l v nL rm z kc ks S pc lv (x :: st) := by
  obtain ⟨⟨p, e, s, m, args, below, meth, c⟩, X, A, E⟩ := z
  obtain ⟨hx, hb, -, hml, hown, hts, hK, -⟩ := C
  intro H locs ls cells slots hP hD hS hc hs hl hT
  exact lv_dup hx hb hd hx9 (k H locs ls cells slots hP hD hS hc hs hl hT)
theorem z_pop (C : Cx l v own cc nL ret nm z) {x : Value} (hd : decode cc pc = .ok (.pop, 1)) (hx9 : x.category = 1) (k : ZZ l v nL rm z kc ks S (pc + 1) lv st) : ZZ l v nL rm z kc ks S pc lv (x :: st) := by
  obtain ⟨⟨p, e, s, m, args, below, meth, c⟩, X, A, E⟩ := z
  obtain ⟨hx, hb, -, hml, hown, hts, hK, -⟩ := C
  intro H locs ls cells slots hP hD hS hc hs hl hT
  exact lv_pop hx hb hd hx9 (k H locs ls cells slots hP hD hS hc hs hl hT)
theorem z_dup_x1 (C : Cx l v own cc nL ret nm z) {x y : Value} (hd : decode cc pc = .ok (.dup_x1, 1)) (hx9 : x.category = 1) (hy9 : y.category = 1) (k : ZZ l v nL rm z kc ks S (pc + 1) lv (x :: y :: x :: st)) : ZZ l v nL rm z kc ks S pc lv (x :: y :: st) := by
  obtain ⟨⟨p, e, s, m, args, below, meth, c⟩, X, A, E⟩ := z
  obtain ⟨hx, hb, -, hml, hown, hts, hK, -⟩ := C
  intro H locs ls cells slots hP hD hS hc hs hl hT
  exact lv_dup_x1 hx hb hd hx9 hy9 (k H locs ls cells slots hP hD hS hc hs hl hT)
theorem z_dup2 (C : Cx l v own cc nL ret nm z) {x y : Value} (hd : decode cc pc = .ok (.dup2, 1)) (hx9 : x.category = 1) (hy9 : y.category = 1) (k : ZZ l v nL rm z kc ks S (pc + 1) lv (x :: y :: x :: y :: st)) : ZZ l v nL rm z kc ks S pc lv (x :: y :: st) := by
  obtain ⟨⟨p, e, s, m, args, below, meth, c⟩, X, A, E⟩ := z
  obtain ⟨hx, hb, -, hml, hown, hts, hK, -⟩ := C
  intro H locs ls cells slots hP hD hS hc hs hl hT
  exact lv_dup2_11 hx hb hd hx9 hy9 (k H locs ls cells slots hP hD hS hc hs hl hT)
theorem z_goto (C : Cx l v own cc nL ret nm z) {off : Int} {tgt : Nat} (hd : decode cc pc = .ok (.goto off, 3)) (ht : (pc : Int) + off = (tgt : Int)) (k : ZZ l v nL rm z kc ks S tgt lv st) : ZZ l v nL rm z kc ks S pc lv st := by
  obtain ⟨⟨p, e, s, m, args, below, meth, c⟩, X, A, E⟩ := z
  obtain ⟨hx, hb, -, hml, hown, hts, hK, -⟩ := C
  intro H locs ls cells slots hP hD hS hc hs hl hT
  exact lv_goto hx hb hd ht (k H locs ls cells slots hP hD hS hc hs hl hT)
theorem z_ldc (C : Cx l v own cc nL ret nm z) {n : Nat} {x : Int32} (hd : decode cc pc = .ok (.ldc n, 2)) (hw : Cond.constant own n x ∈ BW) (k : ZZ l v nL rm z kc ks S (pc + 2) lv (.int x :: st)) : ZZ l v nL rm z kc ks S pc lv st := by
  obtain ⟨⟨p, e, s, m, args, below, meth, c⟩, X, A, E⟩ := z
  obtain ⟨hx, hb, -, hml, hown, hts, hK, -⟩ := C
  intro H locs ls cells slots hP hD hS hc hs hl hT
  exact lv_ldc hx hb hown (hts _ hw) hd (k H locs ls cells slots hP hD hS hc hs hl hT)
theorem z_ldcw (C : Cx l v own cc nL ret nm z) {n : Nat} {x : Int32} (hd : decode cc pc = .ok (.ldc_w n, 3)) (hw : Cond.constant own n x ∈ BW) (k : ZZ l v nL rm z kc ks S (pc + 3) lv (.int x :: st)) : ZZ l v nL rm z kc ks S pc lv st := by
  obtain ⟨⟨p, e, s, m, args, below, meth, c⟩, X, A, E⟩ := z
  obtain ⟨hx, hb, -, hml, hown, hts, hK, -⟩ := C
  intro H locs ls cells slots hP hD hS hc hs hl hT
  exact lv_ldcw hx hb hown (hts _ hw) hd (k H locs ls cells slots hP hD hS hc hs hl hT)
theorem z_icmp_eq (C : Cx l v own cc nL ret nm z) {x y : Int32} {off : Int} {tgt : Nat} {P N : Prop} (hd : decode cc pc = .ok (.if_icmp .eq off, 3)) (ht : (pc : Int) + off = (tgt : Int)) (h : if x = y then P else N) (kt : P → ZZ l v nL rm z kc ks S tgt lv st) (kf : N → ZZ l v nL rm z kc ks S (pc + 3) lv st) : ZZ l v nL rm z kc ks S pc lv (.int y :: .int x :: st) := by
  obtain ⟨⟨p, e, s, m, args, below, meth, c⟩, X, A, E⟩ := z
  obtain ⟨hx, hb, -, hml, hown, hts, hK, -⟩ := C
  intro H locs ls cells slots hP hD hS hc hs hl hT
  exact lv_icmp_eq hx hb hd ht (fun c9 => kt (by rw [if_pos c9] at h; exact h) H locs ls cells slots hP hD hS hc hs hl hT) (fun c9 => kf (by rw [if_neg c9] at h; exact h) H locs ls cells slots hP hD hS hc hs hl hT)
theorem z_if_eq (C : Cx l v own cc nL ret nm z) {x : Int32} {off : Int} {tgt : Nat} {P N : Prop} (hd : decode cc pc = .ok (.ifCond .eq off, 3)) (ht : (pc : Int) + off = (tgt : Int)) (h : if x = 0 then P else N) (kt : P → ZZ l v nL rm z kc ks S tgt lv st) (kf : N → ZZ l v nL rm z kc ks S (pc + 3) lv st) : ZZ l v nL rm z kc ks S pc lv (.int x :: st) := by
  obtain ⟨⟨p, e, s, m, args, below, meth, c⟩, X, A, E⟩ := z
  obtain ⟨hx, hb, -, hml, hown, hts, hK, -⟩ := C
  intro H locs ls cells slots hP hD hS hc hs hl hT
  exact lv_if_eq hx hb hd ht (fun c9 => kt (by rw [if_pos c9] at h; exact h) H locs ls cells slots hP hD hS hc hs hl hT) (fun c9 => kf (by rw [if_neg c9] at h; exact h) H locs ls cells slots hP hD hS hc hs hl hT)
theorem z_icmp_ne (C : Cx l v own cc nL ret nm z) {x y : Int32} {off : Int} {tgt : Nat} {P N : Prop} (hd : decode cc pc = .ok (.if_icmp .ne off, 3)) (ht : (pc : Int) + off = (tgt : Int)) (h : if x = y then N else P) (kt : P → ZZ l v nL rm z kc ks S tgt lv st) (kf : N → ZZ l v nL rm z kc ks S (pc + 3) lv st) : ZZ l v nL rm z kc ks S pc lv (.int y :: .int x :: st) := by
  obtain ⟨⟨p, e, s, m, args, below, meth, c⟩, X, A, E⟩ := z
  obtain ⟨hx, hb, -, hml, hown, hts, hK, -⟩ := C
  intro H locs ls cells slots hP hD hS hc hs hl hT
  exact lv_icmp_ne hx hb hd ht (fun c9 => kt (by rw [if_neg c9] at h; exact h) H locs ls cells slots hP hD hS hc hs hl hT) (fun c9 => kf (by rw [if_pos c9] at h; exact h) H locs ls cells slots hP hD hS hc hs hl hT)
theorem z_if_ne (C : Cx l v own cc nL ret nm z) {x : Int32} {off : Int} {tgt : Nat} {P N : Prop} (hd : decode cc pc = .ok (.ifCond .ne off, 3)) (ht : (pc : Int) + off = (tgt : Int)) (h : if x = 0 then N else P) (kt : P → ZZ l v nL rm z kc ks S tgt lv st) (kf : N → ZZ l v nL rm z kc ks S (pc + 3) lv st) : ZZ l v nL rm z kc ks S pc lv (.int x :: st) := by
  obtain ⟨⟨p, e, s, m, args, below, meth, c⟩, X, A, E⟩ := z
  obtain ⟨hx, hb, -, hml, hown, hts, hK, -⟩ := C
  intro H locs ls cells slots hP hD hS hc hs hl hT
  exact lv_if_ne hx hb hd ht (fun c9 => kt (by rw [if_neg c9] at h; exact h) H locs ls cells slots hP hD hS hc hs hl hT) (fun c9 => kf (by rw [if_pos c9] at h; exact h) H locs ls cells slots hP hD hS hc hs hl hT)
theorem z_icmp_lt (C : Cx l v own cc nL ret nm z) {x y : Int32} {off : Int} {tgt : Nat} {P N : Prop} (hd : decode cc pc = .ok (.if_icmp .lt off, 3)) (ht : (pc : Int) + off = (tgt : Int)) (h : if x < y then P else N) (kt : P → ZZ l v nL rm z kc ks S tgt lv st) (kf : N → ZZ l v nL rm z kc ks S (pc + 3) lv st) : ZZ l v nL rm z kc ks S pc lv (.int y :: .int x :: st) := by
  obtain ⟨⟨p, e, s, m, args, below, meth, c⟩, X, A, E⟩ := z
  obtain ⟨hx, hb, -, hml, hown, hts, hK, -⟩ := C
  intro H locs ls cells slots hP hD hS hc hs hl hT
  exact lv_icmp_lt hx hb hd ht (fun c9 => kt (by rw [if_pos c9] at h; exact h) H locs ls cells slots hP hD hS hc hs hl hT) (fun c9 => kf (by rw [if_neg c9] at h; exact h) H locs ls cells slots hP hD hS hc hs hl hT)
theorem z_if_lt (C : Cx l v own cc nL ret nm z) {x : Int32} {off : Int} {tgt : Nat} {P N : Prop} (hd : decode cc pc = .ok (.ifCond .lt off, 3)) (ht : (pc : Int) + off = (tgt : Int)) (h : if x < 0 then P else N) (kt : P → ZZ l v nL rm z kc ks S tgt lv st) (kf : N → ZZ l v nL rm z kc ks S (pc + 3) lv st) : ZZ l v nL rm z kc ks S pc lv (.int x :: st) := by
  obtain ⟨⟨p, e, s, m, args, below, meth, c⟩, X, A, E⟩ := z
  obtain ⟨hx, hb, -, hml, hown, hts, hK, -⟩ := C
  intro H locs ls cells slots hP hD hS hc hs hl hT
  exact lv_if_lt hx hb hd ht (fun c9 => kt (by rw [if_pos c9] at h; exact h) H locs ls cells slots hP hD hS hc hs hl hT) (fun c9 => kf (by rw [if_neg c9] at h; exact h) H locs ls cells slots hP hD hS hc hs hl hT)
theorem z_icmp_ge (C : Cx l v own cc nL ret nm z) {x y : Int32} {off : Int} {tgt : Nat} {P N : Prop} (hd : decode cc pc = .ok (.if_icmp .ge off, 3)) (ht : (pc : Int) + off = (tgt : Int)) (h : if y ≤ x then P else N) (kt : P → ZZ l v nL rm z kc ks S tgt lv st) (kf : N → ZZ l v nL rm z kc ks S (pc + 3) lv st) : ZZ l v nL rm z kc ks S pc lv (.int y :: .int x :: st) := by
  obtain ⟨⟨p, e, s, m, args, below, meth, c⟩, X, A, E⟩ := z
  obtain ⟨hx, hb, -, hml, hown, hts, hK, -⟩ := C
  intro H locs ls cells slots hP hD hS hc hs hl hT
  exact lv_icmp_ge hx hb hd ht (fun c9 => kt (by rw [if_pos c9] at h; exact h) H locs ls cells slots hP hD hS hc hs hl hT) (fun c9 => kf (by rw [if_neg c9] at h; exact h) H locs ls cells slots hP hD hS hc hs hl hT)
theorem z_if_ge (C : Cx l v own cc nL ret nm z) {x : Int32} {off : Int} {tgt : Nat} {P N : Prop} (hd : decode cc pc = .ok (.ifCond .ge off, 3)) (ht : (pc : Int) + off = (tgt : Int)) (h : if 0 ≤ x then P else N) (kt : P → ZZ l v nL rm z kc ks S tgt lv st) (kf : N → ZZ l v nL rm z kc ks S (pc + 3) lv st) : ZZ l v nL rm z kc ks S pc lv (.int x :: st) := by
  obtain ⟨⟨p, e, s, m, args, below, meth, c⟩, X, A, E⟩ := z
  obtain ⟨hx, hb, -, hml, hown, hts, hK, -⟩ := C
  intro H locs ls cells slots hP hD hS hc hs hl hT
  exact lv_if_ge hx hb hd ht (fun c9 => kt (by rw [if_pos c9] at h; exact h) H locs ls cells slots hP hD hS hc hs hl hT) (fun c9 => kf (by rw [if_neg c9] at h; exact h) H locs ls cells slots hP hD hS hc hs hl hT)
theorem z_icmp_gt (C : Cx l v own cc nL ret nm z) {x y : Int32} {off : Int} {tgt : Nat} {P N : Prop} (hd : decode cc pc = .ok (.if_icmp .gt off, 3)) (ht : (pc : Int) + off = (tgt : Int)) (h : if y < x then P else N) (kt : P → ZZ l v nL rm z kc ks S tgt lv st) (kf : N → ZZ l v nL rm z kc ks S (pc + 3) lv st) : ZZ l v nL rm z kc ks S pc lv (.int y :: .int x :: st) := by
  obtain ⟨⟨p, e, s, m, args, below, meth, c⟩, X, A, E⟩ := z
  obtain ⟨hx, hb, -, hml, hown, hts, hK, -⟩ := C
  intro H locs ls cells slots hP hD hS hc hs hl hT
  exact lv_icmp_gt hx hb hd ht (fun c9 => kt (by rw [if_pos c9] at h; exact h) H locs ls cells slots hP hD hS hc hs hl hT) (fun c9 => kf (by rw [if_neg c9] at h; exact h) H locs ls cells slots hP hD hS hc hs hl hT)
theorem z_if_gt (C : Cx l v own cc nL ret nm z) {x : Int32} {off : Int} {tgt : Nat} {P N : Prop} (hd : decode cc pc = .ok (.ifCond .gt off, 3)) (ht : (pc : Int) + off = (tgt : Int)) (h : if 0 < x then P else N) (kt : P → ZZ l v nL rm z kc ks S tgt lv st) (kf : N → ZZ l v nL rm z kc ks S (pc + 3) lv st) : ZZ l v nL rm z kc ks S pc lv (.int x :: st) := by
  obtain ⟨⟨p, e, s, m, args, below, meth, c⟩, X, A, E⟩ := z
  obtain ⟨hx, hb, -, hml, hown, hts, hK, -⟩ := C
  intro H locs ls cells slots hP hD hS hc hs hl hT
  exact lv_if_gt hx hb hd ht (fun c9 => kt (by rw [if_pos c9] at h; exact h) H locs ls cells slots hP hD hS hc hs hl hT) (fun c9 => kf (by rw [if_neg c9] at h; exact h) H locs ls cells slots hP hD hS hc hs hl hT)
theorem z_icmp_le (C : Cx l v own cc nL ret nm z) {x y : Int32} {off : Int} {tgt : Nat} {P N : Prop} (hd : decode cc pc = .ok (.if_icmp .le off, 3)) (ht : (pc : Int) + off = (tgt : Int)) (h : if x ≤ y then P else N) (kt : P → ZZ l v nL rm z kc ks S tgt lv st) (kf : N → ZZ l v nL rm z kc ks S (pc + 3) lv st) : ZZ l v nL rm z kc ks S pc lv (.int y :: .int x :: st) := by
  obtain ⟨⟨p, e, s, m, args, below, meth, c⟩, X, A, E⟩ := z
  obtain ⟨hx, hb, -, hml, hown, hts, hK, -⟩ := C
  intro H locs ls cells slots hP hD hS hc hs hl hT
  exact lv_icmp_le hx hb hd ht (fun c9 => kt (by rw [if_pos c9] at h; exact h) H locs ls cells slots hP hD hS hc hs hl hT) (fun c9 => kf (by rw [if_neg c9] at h; exact h) H locs ls cells slots hP hD hS hc hs hl hT)
theorem z_if_le (C : Cx l v own cc nL ret nm z) {x : Int32} {off : Int} {tgt : Nat} {P N : Prop} (hd : decode cc pc = .ok (.ifCond .le off, 3)) (ht : (pc : Int) + off = (tgt : Int)) (h : if x ≤ 0 then P else N) (kt : P → ZZ l v nL rm z kc ks S tgt lv st) (kf : N → ZZ l v nL rm z kc ks S (pc + 3) lv st) : ZZ l v nL rm z kc ks S pc lv (.int x :: st) := by
  obtain ⟨⟨p, e, s, m, args, below, meth, c⟩, X, A, E⟩ := z
  obtain ⟨hx, hb, -, hml, hown, hts, hK, -⟩ := C
  intro H locs ls cells slots hP hD hS hc hs hl hT
  exact lv_if_le hx hb hd ht (fun c9 => kt (by rw [if_pos c9] at h; exact h) H locs ls cells slots hP hD hS hc hs hl hT) (fun c9 => kf (by rw [if_neg c9] at h; exact h) H locs ls cells slots hP hD hS hc hs hl hT)
theorem z_acmp_eq (C : Cx l v own cc nL ret nm z) {x y : Option Nat} {off : Int} {tgt : Nat} {P N : Prop} (hd : decode cc pc = .ok (.if_acmp .eq off, 3)) (ht : (pc : Int) + off = (tgt : Int)) (h : if x = y then P else N) (kt : P → ZZ l v nL rm z kc ks S tgt lv st) (kf : N → ZZ l v nL rm z kc ks S (pc + 3) lv st) : ZZ l v nL rm z kc ks S pc lv (va_rf y :: va_rf x :: st) := by
  obtain ⟨⟨p, e, s, m, args, below, meth, c⟩, X, A, E⟩ := z
  obtain ⟨hx, hb, -, hml, hown, hts, hK, -⟩ := C
  intro H locs ls cells slots hP hD hS hc hs hl hT
  exact lv_acmp_eq hx hb hd ht (fun c9 => kt (by rw [if_pos c9] at h; exact h) H locs ls cells slots hP hD hS hc hs hl hT) (fun c9 => kf (by rw [if_neg c9] at h; exact h) H locs ls cells slots hP hD hS hc hs hl hT)
theorem z_acmp_ne (C : Cx l v own cc nL ret nm z) {x y : Option Nat} {off : Int} {tgt : Nat} {P N : Prop} (hd : decode cc pc = .ok (.if_acmp .ne off, 3)) (ht : (pc : Int) + off = (tgt : Int)) (h : if x = y then N else P) (kt : P → ZZ l v nL rm z kc ks S tgt lv st) (kf : N → ZZ l v nL rm z kc ks S (pc + 3) lv st) : ZZ l v nL rm z kc ks S pc lv (va_rf y :: va_rf x :: st) := by
  obtain ⟨⟨p, e, s, m, args, below, meth, c⟩, X, A, E⟩ := z
  obtain ⟨hx, hb, -, hml, hown, hts, hK, -⟩ := C
  intro H locs ls cells slots hP hD hS hc hs hl hT
  exact lv_acmp_ne hx hb hd ht (fun c9 => kt (by rw [if_neg c9] at h; exact h) H locs ls cells slots hP hD hS hc hs hl hT) (fun c9 => kf (by rw [if_pos c9] at h; exact h) H locs ls cells slots hP hD hS hc hs hl hT)
theorem z_ifnull (C : Cx l v own cc nL ret nm z) {r : Option Nat} {off : Int} {tgt : Nat} {P N : Prop} (hd : decode cc pc = .ok (.ifnull off, 3)) (ht : (pc : Int) + off = (tgt : Int)) (h : if r = none then P else N) (kt : P → ZZ l v nL rm z kc ks S tgt lv st) (kf : N → ZZ l v nL rm z kc ks S (pc + 3) lv st) : ZZ l v nL rm z kc ks S pc lv (va_rf r :: st) := by
  obtain ⟨⟨p, e, s, m, args, below, meth, c⟩, X, A, E⟩ := z
  obtain ⟨hx, hb, -, hml, hown, hts, hK, -⟩ := C
  intro H locs ls cells slots hP hD hS hc hs hl hT
  cases r with
  | none => exact lv_ifnullN hx hb hd ht (kt (by simpa using h) H locs ls cells slots hP hD hS hc hs hl hT)
  | some a => exact lv_ifnull hx hb hd (kf (by simpa using h) H locs ls cells slots hP hD hS hc hs hl hT)
theorem z_ifnonnull (C : Cx l v own cc nL ret nm z) {r : Option Nat} {off : Int} {tgt : Nat} {P N : Prop} (hd : decode cc pc = .ok (.ifnonnull off, 3)) (ht : (pc : Int) + off = (tgt : Int)) (h : if r = none then N else P) (kt : P → ZZ l v nL rm z kc ks S tgt lv st) (kf : N → ZZ l v nL rm z kc ks S (pc + 3) lv st) : ZZ l v nL rm z kc ks S pc lv (va_rf r :: st) := by
  obtain ⟨⟨p, e, s, m, args, below, meth, c⟩, X, A, E⟩ := z
  obtain ⟨hx, hb, -, hml, hown, hts, hK, -⟩ := C
  intro H locs ls cells slots hP hD hS hc hs hl hT
  cases r with
  | none => exact lv_ifnonnullN hx hb hd (kf (by simpa using h) H locs ls cells slots hP hD hS hc hs hl hT)
  | some a => exact lv_ifnonnull hx hb hd ht (kt (by simpa using h) H locs ls cells slots hP hD hS hc hs hl hT)
theorem z_tabIn (C : Cx l v own cc nL ret nm z) {dflt lo hi : Int} {offs : Array Int} {len : Nat} {x : Int32} {off : Int} {tgt : Nat} (hd : decode cc pc = .ok (.tableswitch dflt lo hi offs, len)) (h1 : ¬ x.toInt < lo) (h2 : ¬ hi < x.toInt) (ho : offs[(x.toInt - lo).toNat]? = some off) (ht : (pc : Int) + off = (tgt : Int)) (k : ZZ l v nL rm z kc ks S tgt lv st) : ZZ l v nL rm z kc ks S pc lv (.int x :: st) := by
  obtain ⟨⟨p, e, s, m, args, below, meth, c⟩, X, A, E⟩ := z
  obtain ⟨hx, hb, -, hml, hown, hts, hK, -⟩ := C
  intro H locs ls cells slots hP hD hS hc hs hl hT
  exact lv_tableIn hx hb hd h1 h2 ho ht (k H locs ls cells slots hP hD hS hc hs hl hT)
theorem z_tabOut (C : Cx l v own cc nL ret nm z) {dflt lo hi : Int} {offs : Array Int} {len : Nat} {x : Int32} {tgt : Nat} (hd : decode cc pc = .ok (.tableswitch dflt lo hi offs, len)) (h : x.toInt < lo ∨ hi < x.toInt) (ht : (pc : Int) + dflt = (tgt : Int)) (k : ZZ l v nL rm z kc ks S tgt lv st) : ZZ l v nL rm z kc ks S pc lv (.int x :: st) := by
  obtain ⟨⟨p, e, s, m, args, below, meth, c⟩, X, A, E⟩ := z
  obtain ⟨hx, hb, -, hml, hown, hts, hK, -⟩ := C
  intro H locs ls cells slots hP hD hS hc hs hl hT
  exact lv_tableOut hx hb hd h ht (k H locs ls cells slots hP hD hS hc hs hl hT)
/-- a reference that is followed: it isn't null, and of this kind -/
def rd (S : Hp) (κ : Nat) (r : Option Nat) (P : Nat → Prop) : Prop := ∃ a, r = some a ∧ okA S κ a ∧ P a
/-- a name for a value -/
def lt {α : Type} (x : α) (P : α → Prop) : Prop := P x
theorem z_lt {S1 : Hp} {P : Hp → Prop} (h : lt S1 P) (k : ∀ S2, P S2 → ZZ l v nL rm z kc ks S2 pc lv st) : ZZ l v nL rm z kc ks S1 pc lv st := k _ h
theorem z_nI {x : Int32} {P : Int32 → Prop} (h : lt x P) (k : ∀ y, P y → ZZ l v nL rm z kc ks S pc lv (.int y :: st)) : ZZ l v nL rm z kc ks S pc lv (.int x :: st) := k _ h
theorem z_nP {x : Option Nat} {P : Option Nat → Prop} (h : lt x P) (k : ∀ y, P y → ZZ l v nL rm z kc ks S pc lv (va_rf y :: st)) : ZZ l v nL rm z kc ks S pc lv (va_rf x :: st) := k _ h
theorem ifT {c : Prop} [Decidable c] {P : Prop} (hc : c) (h : P) : if c then P else False := by rw [if_pos hc]; exact h
theorem ifF {c : Prop} [Decidable c] {P : Prop} (hc : ¬ c) (h : P) : if c then False else P := by rw [if_neg hc]; exact h
/-- a class of the pool: its table's words, its fields' types -/
def KF (κ : Nat) (Cn : String) (T : u_T) (N : Nat) : Prop :=
  vwc[κ]? = some (Cn, T, N) ∧ (∀ w ∈ u_ws Cn T N, w ∈ BW) ∧ κ < 11 ∧ nf κ = N ∧ (∀ a, a < N → ∀ b, b < N → a ≠ b → (T a).2.1 ≠ (T b).2.1) ∧
  ∃ ty : Nat → FieldType, (∀ k, k < N → parseFieldDescriptor (T k).2.2.1 = some (ty k)) ∧ ∀ k, k < N → if fr κ k = true then ((∃ n, ty k = .object n) ∨ ∃ t, ty k = .array t) else ty k = .int
theorem fit_rf {ty : FieldType} (h : (∃ n, ty = .object n) ∨ ∃ t, ty = .array t) (r : Option Nat) : narrow ty (va_rf r) = va_rf r ∧ fits ty (va_rf r) = true := by
  rcases h with ⟨n, rfl⟩ | ⟨t, rfl⟩ <;> cases r <;> exact ⟨rfl, rfl⟩
theorem z_getI (C : Cx l v own cc nL ret nm z) {κ : Nat} {Cn : String} {T : u_T} {N : Nat} {ref : String} {idx : Nat} (F : KF κ Cn T N) (j : Nat) (hj : j < N) (hr : fr κ j = false) (hw : Cond.fieldLink own idx ref (T j).2.1 (T j).2.2.1 ∈ BW) (hsame : ∀ s : State, ∀ args, (∀ w ∈ BW, w.before args s = true) → ∀ x, s.fieldFound? (T j).1 (T j).2.1 (T j).2.2.1 = some x → s.fieldFound? ref (T j).2.1 (T j).2.2.1 = some x) (hd : decode cc pc = .ok (.getfield idx, 3)) {r : Option Nat} {a : Nat} (hr9 : r = some a) (ho : okA S κ a) (k : ZZ l v nL rm z kc ks S (pc + 3) lv (.int (g_I S (100 * κ + j) a) :: st)) : ZZ l v nL rm z kc ks S pc lv (va_rf r :: st) := by
  subst hr9
  obtain ⟨⟨p, e, s, m, args, below, meth, c⟩, X, A, E⟩ := z
  obtain ⟨hx, hb, -, hml, hown, hts, hK, -⟩ := C
  intro H locs ls cells slots hP hD hS hc hs hl hT
  obtain ⟨f1, f2, f3, rfl, f5, ty, f6, f7⟩ := F
  obtain ⟨q0, hq⟩ := g_at (X := X) (cy := v.2.1) ho
  rw [g_obj ho f3] at hq
  refine va_get (Ts := BW) (fs := fs S κ a) hx hb hts f2 hown hK hP q0 hq f1 j hj (hts _ hw) (hsame s args hts) ?_ hd (k H locs ls cells slots hP hD hS hc hs hl hT)
  rw [fs_at S κ a j hj]
  simp [fv, hr]
theorem z_getP (C : Cx l v own cc nL ret nm z) {κ : Nat} {Cn : String} {T : u_T} {N : Nat} {ref : String} {idx : Nat} (F : KF κ Cn T N) (j : Nat) (hj : j < N) (hr : fr κ j = true) (hw : Cond.fieldLink own idx ref (T j).2.1 (T j).2.2.1 ∈ BW) (hsame : ∀ s : State, ∀ args, (∀ w ∈ BW, w.before args s = true) → ∀ x, s.fieldFound? (T j).1 (T j).2.1 (T j).2.2.1 = some x → s.fieldFound? ref (T j).2.1 (T j).2.2.1 = some x) (hd : decode cc pc = .ok (.getfield idx, 3)) {r : Option Nat} {a : Nat} (hr9 : r = some a) (ho : okA S κ a) (k : ZZ l v nL rm z kc ks S (pc + 3) lv (va_rf (g_P S (100 * κ + j) a) :: st)) : ZZ l v nL rm z kc ks S pc lv (va_rf r :: st) := by
  subst hr9
  obtain ⟨⟨p, e, s, m, args, below, meth, c⟩, X, A, E⟩ := z
  obtain ⟨hx, hb, -, hml, hown, hts, hK, -⟩ := C
  intro H locs ls cells slots hP hD hS hc hs hl hT
  obtain ⟨f1, f2, f3, rfl, f5, ty, f6, f7⟩ := F
  obtain ⟨q0, hq⟩ := g_at (X := X) (cy := v.2.1) ho
  rw [g_obj ho f3] at hq
  refine va_get (Ts := BW) (fs := fs S κ a) hx hb hts f2 hown hK hP q0 hq f1 j hj (hts _ hw) (hsame s args hts) ?_ hd (k H locs ls cells slots hP hD hS hc hs hl hT)
  rw [fs_at S κ a j hj]
  simp [fv, hr]
theorem z_putI (C : Cx l v own cc nL ret nm z) {κ : Nat} {Cn : String} {T : u_T} {N : Nat} {ref : String} {idx : Nat} {x : Int32} (F : KF κ Cn T N) (j : Nat) (hj : j < N) (hr : fr κ j = false) (hf : (T j).2.2.2 = false) (hw : Cond.fieldLink own idx ref (T j).2.1 (T j).2.2.1 ∈ BW) (hsame : ∀ s : State, ∀ args, (∀ w ∈ BW, w.before args s = true) → ∀ x, s.fieldFound? (T j).1 (T j).2.1 (T j).2.2.1 = some x → s.fieldFound? ref (T j).2.1 (T j).2.2.1 = some x) (hd : decode cc pc = .ok (.putfield idx, 3)) {r : Option Nat} {a : Nat} (hr9 : r = some a) (ho : okA S κ a) (k : ZZ l v nL rm z kc ks (s_I S (100 * κ + j) a x) (pc + 3) lv st) : ZZ l v nL rm z kc ks S pc lv (.int x :: va_rf r :: st) := by
  subst hr9
  obtain ⟨⟨p, e, s, m, args, below, meth, c⟩, X, A, E⟩ := z
  obtain ⟨hx, hb, -, hml, hown, hts, hK, -, -, -, hnm⟩ := C
  intro H locs ls cells slots hP hD hS hc hs hl hT
  obtain ⟨f1, f2, f3, rfl, f5, ty, f6, f7⟩ := F
  obtain ⟨q0, hq⟩ := g_at (X := X) (cy := v.2.1) ho
  have hq1 := hq
  rw [g_obj ho f3] at hq1
  have f9 := f7 j hj
  rw [if_neg (by rw [hr]; decide)] at f9
  have n1 : narrow (ty j) (.int x) = .int x := by rw [f9]; rfl
  have n2 : fits (ty j) (.int x) = true := by rw [f9]; rfl
  exact va_put (Ts := BW) (fs := fs S κ a) (ty := ty j) hx hb hts f2 ty f6 f5 hown hK hP hD hS q0 hq1 f1 j hj (hts _ hw) (hsame s args hts) hf (f6 j hj) n1 n2 (by rw [fs_len]; exact hj) hd (fun H1 locs1 hP1 hD1 hS1 => k H1 locs1 ls cells slots (by rw [← set_I hD ho f3 hj hr hq]; exact hP1) (by rw [← set_I hD ho f3 hj hr hq]; exact hD1) hS1 hc hs hl hT)
theorem z_putP (C : Cx l v own cc nL ret nm z) {κ : Nat} {Cn : String} {T : u_T} {N : Nat} {ref : String} {idx : Nat} {x : Option Nat} (F : KF κ Cn T N) (j : Nat) (hj : j < N) (hr : fr κ j = true) (hf : (T j).2.2.2 = false) (hw : Cond.fieldLink own idx ref (T j).2.1 (T j).2.2.1 ∈ BW) (hsame : ∀ s : State, ∀ args, (∀ w ∈ BW, w.before args s = true) → ∀ x, s.fieldFound? (T j).1 (T j).2.1 (T j).2.2.1 = some x → s.fieldFound? ref (T j).2.1 (T j).2.2.1 = some x) (hd : decode cc pc = .ok (.putfield idx, 3)) {r : Option Nat} {a : Nat} (hr9 : r = some a) (ho : okA S κ a) (k : ZZ l v nL rm z kc ks (s_P S (100 * κ + j) a x) (pc + 3) lv st) : ZZ l v nL rm z kc ks S pc lv (va_rf x :: va_rf r :: st) := by
  subst hr9
  obtain ⟨⟨p, e, s, m, args, below, meth, c⟩, X, A, E⟩ := z
  obtain ⟨hx, hb, -, hml, hown, hts, hK, -, -, -, hnm⟩ := C
  intro H locs ls cells slots hP hD hS hc hs hl hT
  obtain ⟨f1, f2, f3, rfl, f5, ty, f6, f7⟩ := F
  obtain ⟨q0, hq⟩ := g_at (X := X) (cy := v.2.1) ho
  have hq1 := hq
  rw [g_obj ho f3] at hq1
  have f9 := f7 j hj
  rw [if_pos hr] at f9
  obtain ⟨n1, n2⟩ := fit_rf f9 x
  exact va_put (Ts := BW) (fs := fs S κ a) (ty := ty j) hx hb hts f2 ty f6 f5 hown hK hP hD hS q0 hq1 f1 j hj (hts _ hw) (hsame s args hts) hf (f6 j hj) n1 n2 (by rw [fs_len]; exact hj) hd (fun H1 locs1 hP1 hD1 hS1 => k H1 locs1 ls cells slots (by rw [← set_P hD ho f3 hj hr hq]; exact hP1) (by rw [← set_P hD ho f3 hj hr hq]; exact hD1) hS1 hc hs hl hT)
theorem z_putFI (C : Cx l v own cc nL ret nm z) {κ : Nat} {Cn : String} {T : u_T} {N : Nat} {ref : String} {idx : Nat} {x : Int32} (F : KF κ Cn T N) (j : Nat) (hj : j < N) (hr : fr κ j = false) (hf : (T j).2.2.2 = true) (hin : nm = "<init>") (hdecl : (T j).1 = own) (hw : Cond.fieldLink own idx ref (T j).2.1 (T j).2.2.1 ∈ BW) (hsame : ∀ s : State, ∀ args, (∀ w ∈ BW, w.before args s = true) → ∀ x, s.fieldFound? (T j).1 (T j).2.1 (T j).2.2.1 = some x → s.fieldFound? ref (T j).2.1 (T j).2.2.1 = some x) (hd : decode cc pc = .ok (.putfield idx, 3)) {r : Option Nat} {a : Nat} (hr9 : r = some a) (ho : okA S κ a) (k : ZZ l v nL rm z kc ks (s_I S (100 * κ + j) a x) (pc + 3) lv st) : ZZ l v nL rm z kc ks S pc lv (.int x :: va_rf r :: st) := by
  subst hr9
  obtain ⟨⟨p, e, s, m, args, below, meth, c⟩, X, A, E⟩ := z
  obtain ⟨hx, hb, -, hml, hown, hts, hK, -, -, -, hnm⟩ := C
  intro H locs ls cells slots hP hD hS hc hs hl hT
  obtain ⟨f1, f2, f3, rfl, f5, ty, f6, f7⟩ := F
  obtain ⟨q0, hq⟩ := g_at (X := X) (cy := v.2.1) ho
  have hq1 := hq
  rw [g_obj ho f3] at hq1
  have f9 := f7 j hj
  rw [if_neg (by rw [hr]; decide)] at f9
  have n1 : narrow (ty j) (.int x) = .int x := by rw [f9]; rfl
  have n2 : fits (ty j) (.int x) = true := by rw [f9]; rfl
  exact va_putF (Ts := BW) (fs := fs S κ a) (ty := ty j) hx hb hts f2 ty f6 f5 hown hK hP hD hS q0 hq1 f1 j hj (hts _ hw) (hsame s args hts) hf (hnm.trans hin) hdecl (f6 j hj) n1 n2 (by rw [fs_len]; exact hj) hd (fun H1 locs1 hP1 hD1 hS1 => k H1 locs1 ls cells slots (by rw [← set_I hD ho f3 hj hr hq]; exact hP1) (by rw [← set_I hD ho f3 hj hr hq]; exact hD1) hS1 hc hs hl hT)
theorem z_putFP (C : Cx l v own cc nL ret nm z) {κ : Nat} {Cn : String} {T : u_T} {N : Nat} {ref : String} {idx : Nat} {x : Option Nat} (F : KF κ Cn T N) (j : Nat) (hj : j < N) (hr : fr κ j = true) (hf : (T j).2.2.2 = true) (hin : nm = "<init>") (hdecl : (T j).1 = own) (hw : Cond.fieldLink own idx ref (T j).2.1 (T j).2.2.1 ∈ BW) (hsame : ∀ s : State, ∀ args, (∀ w ∈ BW, w.before args s = true) → ∀ x, s.fieldFound? (T j).1 (T j).2.1 (T j).2.2.1 = some x → s.fieldFound? ref (T j).2.1 (T j).2.2.1 = some x) (hd : decode cc pc = .ok (.putfield idx, 3)) {r : Option Nat} {a : Nat} (hr9 : r = some a) (ho : okA S κ a) (k : ZZ l v nL rm z kc ks (s_P S (100 * κ + j) a x) (pc + 3) lv st) : ZZ l v nL rm z kc ks S pc lv (va_rf x :: va_rf r :: st) := by
  subst hr9
  obtain ⟨⟨p, e, s, m, args, below, meth, c⟩, X, A, E⟩ := z
  obtain ⟨hx, hb, -, hml, hown, hts, hK, -, -, -, hnm⟩ := C
  intro H locs ls cells slots hP hD hS hc hs hl hT
  obtain ⟨f1, f2, f3, rfl, f5, ty, f6, f7⟩ := F
  obtain ⟨q0, hq⟩ := g_at (X := X) (cy := v.2.1) ho
  have hq1 := hq
  rw [g_obj ho f3] at hq1
  have f9 := f7 j hj
  rw [if_pos hr] at f9
  obtain ⟨n1, n2⟩ := fit_rf f9 x
  exact va_putF (Ts := BW) (fs := fs S κ a) (ty := ty j) hx hb hts f2 ty f6 f5 hown hK hP hD hS q0 hq1 f1 j hj (hts _ hw) (hsame s args hts) hf (hnm.trans hin) hdecl (f6 j hj) n1 n2 (by rw [fs_len]; exact hj) hd (fun H1 locs1 hP1 hD1 hS1 => k H1 locs1 ls cells slots (by rw [← set_P hD ho f3 hj hr hq]; exact hP1) (by rw [← set_P hD ho f3 hj hr hq]; exact hD1) hS1 hc hs hl hT)
theorem z_iald (C : Cx l v own cc nL ret nm z) {i : Int32} (hd : decode cc pc = .ok (.iaload, 1)) {r : Option Nat} {a : Nat} (hr9 : r = some a) (ho : okA S 11 a) (h1 : vp_in i (g_N S a)) (k : ZZ l v nL rm z kc ks S (pc + 1) lv (.int (g_R S a i.toNatClampNeg) :: st)) : ZZ l v nL rm z kc ks S pc lv (.int i :: va_rf r :: st) := by
  subst hr9
  obtain ⟨⟨p, e, s, m, args, below, meth, c⟩, X, A, E⟩ := z
  obtain ⟨hx, hb, -, hml, hown, hts, hK, -⟩ := C
  intro H locs ls cells slots hP hD hS hc hs hl hT
  obtain ⟨q0, hq⟩ := g_at (X := X) (cy := v.2.1) ho
  rw [g_row ho (by decide) (by decide)] at hq
  exact va_iald hx hb hK hP q0 0 hq rfl h1 hd (k H locs ls cells slots hP hD hS hc hs hl hT)
theorem z_iast (C : Cx l v own cc nL ret nm z) {i x : Int32} (hd : decode cc pc = .ok (.iastore, 1)) {r : Option Nat} {a : Nat} (hr9 : r = some a) (ho : okA S 11 a) (h1 : vp_in i (g_N S a)) (k : ZZ l v nL rm z kc ks (s_R S a i.toNatClampNeg x) (pc + 1) lv st) : ZZ l v nL rm z kc ks S pc lv (.int x :: .int i :: va_rf r :: st) := by
  subst hr9
  obtain ⟨⟨p, e, s, m, args, below, meth, c⟩, X, A, E⟩ := z
  obtain ⟨hx, hb, -, hml, hown, hts, hK, -⟩ := C
  intro H locs ls cells slots hP hD hS hc hs hl hT
  obtain ⟨q0, hq⟩ := g_at (X := X) (cy := v.2.1) ho
  have hq1 := hq
  rw [g_row ho (by decide) (by decide)] at hq1
  exact va_iast hx hb hK hP hD hS q0 0 hq1 rfl h1 hd (fun H1 locs1 hP1 hD1 hS1 => k H1 locs1 ls cells slots (by rw [← set_R hD ho (by decide) (by decide) hq]; exact hP1) (by rw [← set_R hD ho (by decide) (by decide) hq]; exact hD1) hS1 hc hs hl hT)
theorem z_aald (C : Cx l v own cc nL ret nm z) {κ : Nat} {i : Int32} (h13 : 13 ≤ κ) {Cn : String} (t0 : Nat) (ht0 : ∀ cy : Nat → ClassId, (tyc cy)[t0]? = some (cy κ, .object Cn)) (hd : decode cc pc = .ok (.aaload, 1)) {r : Option Nat} {a : Nat} (hr9 : r = some a) (ho : okA S κ a) (h1 : vp_in i (g_N S a)) (k : ZZ l v nL rm z kc ks S (pc + 1) lv (va_rf (g_O S a i.toNatClampNeg) :: st)) : ZZ l v nL rm z kc ks S pc lv (.int i :: va_rf r :: st) := by
  subst hr9
  obtain ⟨⟨p, e, s, m, args, below, meth, c⟩, X, A, E⟩ := z
  obtain ⟨hx, hb, -, hml, hown, hts, hK, -⟩ := C
  intro H locs ls cells slots hP hD hS hc hs hl hT
  obtain ⟨q0, hq⟩ := g_at (X := X) (cy := v.2.1) ho
  rw [g_ref ho h13] at hq
  exact va_aldq hx hb hK hP q0 t0 hq (ht0 _) h1 hd (k H locs ls cells slots hP hD hS hc hs hl hT)
theorem z_aast (C : Cx l v own cc nL ret nm z) {κ ci b : Nat} {x : Option Nat} {i : Int32} (h13 : 13 ≤ κ) {Cn : String} {vc : vw_C} (t0 : Nat) (ht0 : ∀ cy : Nat → ClassId, (tyc cy)[t0]? = some (cy κ, .object Cn)) (hci : ci < 11) (hvc : vwc[ci]? = some vc) (hca : (Cond.castable vc.1 Cn) ∈ NW ∨ vc.1 = Cn) (hd : decode cc pc = .ok (.aastore, 1)) {r : Option Nat} {a : Nat} (hr9 : r = some a) (ho : okA S κ a) (h1 : vp_in i (g_N S a)) (hx9 : x = some b) (ho2 : okA S ci b) (k : ZZ l v nL rm z kc ks (s_O S a i.toNatClampNeg x) (pc + 1) lv st) : ZZ l v nL rm z kc ks S pc lv (va_rf x :: .int i :: va_rf r :: st) := by
  subst hr9
  subst hx9
  obtain ⟨⟨p, e, s, m, args, below, meth, c⟩, X, A, E⟩ := z
  obtain ⟨hx, hb, -, hml, hown, hts, hK, -, -, CSW, -⟩ := C
  intro H locs ls cells slots hP hD hS hc hs hl hT
  obtain ⟨q0, hq⟩ := g_at (X := X) (cy := v.2.1) ho
  obtain ⟨q1, hq1⟩ := g_at (X := X) (cy := v.2.1) ho2
  rw [g_obj ho2 hci] at hq1
  have hq2 := hq
  rw [g_ref ho h13] at hq2
  have kk : ∀ (H1 : Heap) (locs1 : List Loc), va_P v.1 vwc ((X ++ g_w v.2.1 S).set q0 (a, .inl (v.2.1 κ, g_N S a, .inr (.inr (.inr (.inr (va_up (g_O S a) i.toNatClampNeg (some b)))))))) H1 → va_D A ((X ++ g_w v.2.1 S).set q0 (a, .inl (v.2.1 κ, g_N S a, .inr (.inr (.inr (.inr (va_up (g_O S a) i.toNatClampNeg (some b)))))))) → va_S A s.heap H1 locs1 → W p l e rm s m args below meth c H1 locs1 cells slots E (F0 m (pc + 1) ls st) :=
    fun H1 locs1 hP1 hD1 hS1 => k H1 locs1 ls cells slots (by rw [← set_O hD ho h13 hq]; exact hP1) (by rw [← set_O hD ho h13 hq]; exact hD1) hS1 hc hs hl hT
  rcases hca with hca | hca
  · exact va_astqO hx hb hK hP hD hS q0 t0 q1 ci hq2 (ht0 _) (CSW.1 _ hca) hq1 hvc h1 hd kk
  · subst hca
    exact va_astq hx hb hK hP hD hS q0 t0 q1 ci hq2 (ht0 _) hq1 hvc h1 hd kk
theorem z_alen (C : Cx l v own cc nL ret nm z) {κ : Nat} (h11 : 11 ≤ κ) (t0 : Nat) (ty : FieldType) (ht0 : ∀ cy : Nat → ClassId, (tyc cy)[t0]? = some (cy κ, ty)) (hd : decode cc pc = .ok (.arraylength, 1)) {r : Option Nat} {a : Nat} (hr9 : r = some a) (ho : okA S κ a) (k : ZZ l v nL rm z kc ks S (pc + 1) lv (.int (Int32.ofNat (g_N S a)) :: st)) : ZZ l v nL rm z kc ks S pc lv (va_rf r :: st) := by
  subst hr9
  obtain ⟨⟨p, e, s, m, args, below, meth, c⟩, X, A, E⟩ := z
  obtain ⟨hx, hb, -, hml, hown, hts, hK, -⟩ := C
  intro H locs ls cells slots hP hD hS hc hs hl hT
  obtain ⟨q0, hq⟩ := g_at (X := X) (cy := v.2.1) ho
  by_cases h13 : 13 ≤ κ
  · rw [g_ref ho h13] at hq
    exact va_alen hx hb hK hP q0 t0 hq (ht0 _) rfl hd (k H locs ls cells slots hP hD hS hc hs hl hT)
  · rw [g_row ho h11 (by omega)] at hq
    exact va_alen hx hb hK hP q0 t0 hq (ht0 _) rfl hd (k H locs ls cells slots hP hD hS hc hs hl hT)
theorem cat_nil : ∀ q ∈ ([] : List (Nat × Value)), q.2.category = 1 := fun _ h => nomatch h
theorem cat_ci {i : Nat} {x : Int32} {lv : List (Nat × Value)} (h : ∀ q ∈ lv, q.2.category = 1) : ∀ q ∈ (i, Value.int x) :: lv, q.2.category = 1 := fun q hq => (List.mem_cons.mp hq).elim (fun e => by rw [e]; rfl) (h q)
theorem cat_cr {i : Nat} {r : Option Nat} {lv : List (Nat × Value)} (h : ∀ q ∈ lv, q.2.category = 1) : ∀ q ∈ (i, va_rf r) :: lv, q.2.category = 1 := fun q hq => (List.mem_cons.mp hq).elim (fun e => by rw [e]; exact cat_rf r) (h q)
theorem la_n (i : Nat) : lv_args i [] = [] := rfl
theorem la_i (i : Nat) (x : Int32) (vs : List Value) : lv_args i (.int x :: vs) = (i, .int x) :: lv_args (i + 1) vs := rfl
theorem la_r (i : Nat) (r : Option Nat) (vs : List Value) : lv_args i (va_rf r :: vs) = (i, va_rf r) :: lv_args (i + 1) vs := by cases r <;> rfl
theorem ls_n : (lg_sl []).length = 0 := rfl
theorem ls_i (x : Int32) (vs : List Value) : (lg_sl (.int x :: vs)).length = (lg_sl vs).length + 1 := rfl
theorem ls_r (r : Option Nat) (vs : List Value) : (lg_sl (va_rf r :: vs)).length = (lg_sl vs).length + 1 := by cases r <;> rfl
end ZR
