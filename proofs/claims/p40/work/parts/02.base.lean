/-! BASE: one pool of cells (addresses L, contents σ), contracts over it, a row an instruction over it -/
abbrev kq_T : Type := va_G × (Nat → ClassId)
def kq_tys (E : kq_T) : List (ClassId × FieldType) := [(E.2 0, .int), (E.2 1, .boolean), (E.2 2, .object "WrongWord$Gate"), (E.2 3, .object "WrongWord$Moment"), (E.2 4, .object "WrongWord$Row")]
/-- the links between nest mates -/
def kq_nl : List (String × Nat × MethodName) := [("WrongWord", 17, yX6_init), ("WrongWord$Tape", 17, yX2_init), ("WrongWord$Gate", 23, yX4_init), ("WrongWord", 24, yX2_init), ("WrongWord$Acts", 17, yX4_init), ("WrongWord", 42, yX3_init), ("WrongWord", 49, yX1_init), ("WrongWord", 54, yX5_init), ("WrongWord$Gate", 51, yX7_rest), ("WrongWord$Moment", 43, yX7_bit), ("WrongWord$Gate", 92, yX7_bit), ("WrongWord$Guesses", 28, yX7_bit)]
/-- the static arrays of WrongWord$Asks, by name: what they hold -/
def st_above : Nat → Int32 := fun j => match j with
  | 0 => (-1) | 1 => 0 | 2 => 1 | 3 => 1 | 4 => 0 | _ => 4
def st_size : Nat → Int32 := fun j => match j with
  | 0 => 10 | 1 => 11 | 2 => 12 | 3 => 11 | 4 => 13 | _ => 14
def st_mark : Nat → Int32 := fun j => match j with
  | 0 => 20 | 1 => 21 | 2 => 24 | 3 => 22 | 4 => 23 | _ => 23
def kq_s1 (nm : String) (f : Nat → Int32) (A : Nat → Prop) (U : State) : Prop := ∃ t : Nat, va_Z "WrongWord$Asks" nm "[I" (.ref t) A U U.heap ∧ va_T .int t 6 (fun j => .int (f j)) A U U.heap
def kq_st (A : Nat → Prop) (U : State) : Prop := kq_s1 "NEAREST_ABOVE" st_above A U ∧ kq_s1 "SIZE_BODY" st_size A U ∧ kq_s1 "MARK_BODY" st_mark A U
theorem kq_s1.to {nm : String} {f : Nat → Int32} {A B : Nat → Prop} {u U : State} {locs : List Loc} (hW : u.vm.Alike U.vm) (hS : va_S A u.heap U.heap locs) (hB : ∀ q, B q → A q) (h : kq_s1 nm f A u) : kq_s1 nm f B U := by
  obtain ⟨t, h1, h2⟩ := h
  exact ⟨t, (va_Z.moved hW (h1.kept (fun a x y => hS.2.1 a x y))).narrow hB, (va_T.moved hW (h2.kept (fun a x y => hS.2.1 a x y))).narrow hB⟩
def kq_K (E : kq_T) (A : Nat → Prop) (U : State) : Prop := va_K E.1 vwCl (kq_tys E) U ∧ (∀ q ∈ kq_nl, va_Nw (.methodLinkNest q.1 q.2.1 q.2.2 "WrongWord") U) ∧ va_AO "WrongWord$Gate" U ∧ va_AO "WrongWord$Moment" U ∧ va_AO "WrongWord$Row" U ∧ kq_st A U
theorem kq_K.to {E : kq_T} {A B : Nat → Prop} {u U : State} {locs : List Loc} (hW : u.WarmedH U.vm) (hS : va_S A u.heap U.heap locs) (hB : ∀ q, B q → A q) (h : kq_K E A u) : kq_K E B U :=
  ⟨va_K.moved hW.alike h.1, fun q hq => va_Nw.warmM hW (h.2.1 q hq), va_AO.moved hW.alike h.2.2.1, va_AO.moved hW.alike h.2.2.2.1, va_AO.moved hW.alike h.2.2.2.2.1, h.2.2.2.2.2.1.to hW.alike hS hB, h.2.2.2.2.2.2.1.to hW.alike hS hB, h.2.2.2.2.2.2.2.to hW.alike hS hB⟩
theorem kq_K.calling {E : kq_T} {A : Nat → Prop} {U : State} {g : JFrame} {mk : MethodId} {a : Array Value} (h : kq_K E A U) : kq_K E A (U.calling g mk a) :=
  ⟨va_K.moved (u := U) (U := U.calling g mk a) (Vm.Alike.refl U.vm) h.1, fun q hq => va_Nw.same rfl (u := U) (U := U.calling g mk a) rfl (h.2.1 q hq), va_AO.moved (u := U) (U := U.calling g mk a) (Vm.Alike.refl U.vm) h.2.2.1, va_AO.moved (u := U) (U := U.calling g mk a) (Vm.Alike.refl U.vm) h.2.2.2.1, va_AO.moved (u := U) (U := U.calling g mk a) (Vm.Alike.refl U.vm) h.2.2.2.2.1, kq_s1.to (u := U) (U := U.calling g mk a) (locs := []) (Vm.Alike.refl U.vm) va_S.rf (fun _ h => h) h.2.2.2.2.2.1, kq_s1.to (u := U) (U := U.calling g mk a) (locs := []) (Vm.Alike.refl U.vm) va_S.rf (fun _ h => h) h.2.2.2.2.2.2.1, kq_s1.to (u := U) (U := U.calling g mk a) (locs := []) (Vm.Alike.refl U.vm) va_S.rf (fun _ h => h) h.2.2.2.2.2.2.2⟩
abbrev kq_S : Type := List Nat × (Nat → va_E)
abbrev kq_Pre (E : kq_T) (L : List Nat) (σ : Nat → va_E) (sz : Nat) (U : State) : Prop := U.heap.size = sz ∧ va_P E.1 vwCl (va_pl L σ) U.heap ∧ kq_K E (va_A (va_pl L σ) sz) U ∧ va_D (fun _ => True) (va_pl L σ)
abbrev kq_B (E : kq_T) (A : Nat → Prop) : kq_S → State → Prop := fun u t => va_P E.1 vwCl (va_pl u.1 u.2) t.heap ∧ va_D A (va_pl u.1 u.2)
abbrev kq_QI (E : kq_T) (A : Nat → Prop) (post : Int32 → List Nat → (Nat → va_E) → Prop) : Array Value → State → Outcome → State → Prop := va_Qi (fun r (u : kq_S) => post r u.1 u.2) (kq_B E A) A
abbrev kq_QV (E : kq_T) (A : Nat → Prop) (post : List Nat → (Nat → va_E) → Prop) : Array Value → State → Outcome → State → Prop := va_Qv (fun (u : kq_S) => post u.1 u.2) (kq_B E A) A
/-- a contract of a method that answers an int (a boolean) -/
def kq_I (l : Launch) (E : kq_T) (y : MethodName) (ws : List Cond) (rm : Room) (av : List Value) (L : List Nat) (σ : Nat → va_E) (post : Int32 → List Nat → (Nat → va_E) → Prop) : Prop :=
  ∀ sz : Nat, Met l y ws rm (va_Pc av (kq_Pre E L σ sz)) (kq_QI E (va_A (va_pl L σ) sz) post) rm.cells rm.slots (va_A (va_pl L σ) sz)
/-- a contract of a method that answers nothing -/
def kq_V (l : Launch) (E : kq_T) (y : MethodName) (ws : List Cond) (rm : Room) (av : List Value) (L : List Nat) (σ : Nat → va_E) (post : List Nat → (Nat → va_E) → Prop) : Prop :=
  ∀ sz : Nat, Met l y ws rm (va_Pc av (kq_Pre E L σ sz)) (kq_QV E (va_A (va_pl L σ) sz) post) rm.cells rm.slots (va_A (va_pl L σ) sz)
/-- the world of a walk: the pool, beside the rest Wr -/
def kq_w (E : kq_T) (A : Nat → Prop) (H0 : Heap) (Wr : va_W) (L : List Nat) (σ : Nat → va_E) (H : Heap) (locs : List Loc) : Prop :=
  va_P E.1 vwCl (Wr ++ va_pl L σ) H ∧ va_D A (Wr ++ va_pl L σ) ∧ va_S A H0 H locs ∧ ∀ q, H0.size ≤ q → A q
/-- what holds at a method's entry -/
def kq_C (p : Program) (s : State) (m : MethodId) (meth : Method) (c : Code) (args : Array Value) (own : String) (nm : String) (cc : ByteArray) (nL : Nat) (ret : Option FieldType) (ws : List Cond) : Prop :=
  p.tables.exec = Jvm.exec ∧ c.code = cc ∧ c.maxLocals = nL ∧ s.vm.findClass own = some m.cls ∧ (∀ w ∈ ws, w.before args s = true) ∧ meth.sig.returnType = ret ∧ meth.locks = false ∧ meth.name = nm
theorem kq_enter0 {l : Launch} {E : kq_T} {y : MethodName} {ws ws' : List Cond} {rm : Room} {av : List Value} {L : List Nat} {σ : Nat → va_E} {cc : ByteArray} {maxL : Nat} {ret : Option FieldType} {Qc : (Nat → Prop) → Array Value → State → Outcome → State → Prop} {sz : Nat}
    (hy : plainName y.cls = true) (hw : ws = Cond.code y cc maxL ret :: ws') (hav : (lg_sl av).length ≤ maxL) {lv : List (Nat × Value)} (hlv : lv_args 0 av = lv)
    (h : ∀ (p : Program) (e : Env) (s : State) (m : MethodId) (below : List Frame) (meth : Method) (c : Code) (A : Nat → Prop) (ls : Array Slot), kq_C p s m meth c av.toArray y.cls y.name cc maxL ret ws → kq_K E A s → kq_w E A s.heap [] L σ s.heap [] → lv_has ls maxL lv →
      W p l e rm s m av.toArray below meth c s.heap [] 0 0 (MQ below (Qc A) av.toArray s rm.cells rm.slots A) (F0 m 0 ls [])) :
    Met l y ws rm (va_Pc av (kq_Pre E L σ sz)) (Qc (va_A (va_pl L σ) sz)) rm.cells rm.slots (va_A (va_pl L σ) sz) := by
  refine Met.ofW (cc := cc) (maxL := maxL) (ret := ret) hy hw ?_
  intro p e s m args below meth c s₁ B hml hv
  obtain ⟨rfl, hsz, hP, hK, hD0⟩ := hv
  have hts := atoms_spec (ws := ws) B.pre
  have hown : s.vm.findClass y.cls = some m.cls := findClass_of_methodNamed B.named
  have hin : meth.name = y.name := (name_of_methodNamed B.named B.method).1
  subst hsz
  have hD := hD0.self (sz := s.heap.size)
  have hl := lv_entry av (n := maxL) hav
  rw [lg_entry_eq]
  subst hlv
  exact h p e s m below meth c (va_A (va_pl L σ) s.heap.size) _ ⟨B.exec, B.bytes, hml, hown, hts, B.returns, B.notSynchronized, hin⟩ hK ⟨hP, hD, va_S.rf, fun q h => Or.inr h⟩ hl
theorem kq_enterI {l : Launch} {E : kq_T} {y : MethodName} {ws ws' : List Cond} {rm : Room} {av : List Value} {L : List Nat} {σ : Nat → va_E} {cc : ByteArray} {maxL : Nat} {ret : Option FieldType} {post : Int32 → List Nat → (Nat → va_E) → Prop}
    (hy : plainName y.cls = true) (hw : ws = Cond.code y cc maxL ret :: ws') (hav : (lg_sl av).length ≤ maxL) {lv : List (Nat × Value)} (hlv : lv_args 0 av = lv)
    (h : ∀ (p : Program) (e : Env) (s : State) (m : MethodId) (below : List Frame) (meth : Method) (c : Code) (A : Nat → Prop) (ls : Array Slot), kq_C p s m meth c av.toArray y.cls y.name cc maxL ret ws → kq_K E A s → kq_w E A s.heap [] L σ s.heap [] → lv_has ls maxL lv →
      W p l e rm s m av.toArray below meth c s.heap [] 0 0 (MQ below (kq_QI E A post) av.toArray s rm.cells rm.slots A) (F0 m 0 ls [])) : kq_I l E y ws rm av L σ post := fun sz =>
  kq_enter0 (Qc := fun A => kq_QI E A post) hy hw hav hlv h
theorem kq_enterV {l : Launch} {E : kq_T} {y : MethodName} {ws ws' : List Cond} {rm : Room} {av : List Value} {L : List Nat} {σ : Nat → va_E} {cc : ByteArray} {maxL : Nat} {ret : Option FieldType} {post : List Nat → (Nat → va_E) → Prop}
    (hy : plainName y.cls = true) (hw : ws = Cond.code y cc maxL ret :: ws') (hav : (lg_sl av).length ≤ maxL) {lv : List (Nat × Value)} (hlv : lv_args 0 av = lv)
    (h : ∀ (p : Program) (e : Env) (s : State) (m : MethodId) (below : List Frame) (meth : Method) (c : Code) (A : Nat → Prop) (ls : Array Slot), kq_C p s m meth c av.toArray y.cls y.name cc maxL ret ws → kq_K E A s → kq_w E A s.heap [] L σ s.heap [] → lv_has ls maxL lv →
      W p l e rm s m av.toArray below meth c s.heap [] 0 0 (MQ below (kq_QV E A post) av.toArray s rm.cells rm.slots A) (F0 m 0 ls [])) : kq_V l E y ws rm av L σ post := fun sz =>
  kq_enter0 (Qc := fun A => kq_QV E A post) hy hw hav hlv h
section KQ1
variable {p : Program} {l : Launch} {e : Env} {R : Room} {s : State} {m : MethodId} {args : Array Value} {below : List Frame} {meth : Method} {c : Code} {H : Heap} {locs : List Loc} {cells slots : Nat} {Q : State → Prop} {cc : ByteArray} {pc : Nat} {ls : Array Slot} {rest : List Value} {E : kq_T} {A : Nat → Prop} {H0 : Heap} {Wr : va_W} {L : List Nat} {σ : Nat → va_E} {a : Nat}
theorem kq_iret {mc ms : Nat} {post : Int32 → List Nat → (Nat → va_E) → Prop} {v : Int32} (hexec : p.tables.exec = Jvm.exec) (hb : c.code = cc) (hr : meth.sig.returnType = some .int) (hlocks : meth.locks = false) (hw : kq_w E A s.heap [] L σ H locs) (hc : cells ≤ mc) (hs : slots ≤ ms) (hdg : decode cc pc = .ok (.ireturn, 1)) (hp : post v L σ) :
    W p l e R s m args below meth c H locs cells slots (MQ below (kq_QI E A post) args s mc ms A) (F0 m pc ls [.int v]) := by
  refine W.widen hc hs ?_
  exact W.iret (v := v) hexec hb hr (fun t ht hW => ⟨⟨v, (L, σ), rfl, hp, by rw [ht]; exact hw.1, hw.2.1⟩, hw.2.2.1.F ht⟩) hw.2.2.1.2.2 hdg
theorem kq_zret {mc ms : Nat} {post : Int32 → List Nat → (Nat → va_E) → Prop} {v : Int32} (hexec : p.tables.exec = Jvm.exec) (hb : c.code = cc) (hr : meth.sig.returnType = some .boolean) (hlocks : meth.locks = false) (hw : kq_w E A s.heap [] L σ H locs) (hc : cells ≤ mc) (hs : slots ≤ ms) (hn : v = 0 ∨ v = 1) (hdg : decode cc pc = .ok (.ireturn, 1)) (hp : post v L σ) :
    W p l e R s m args below meth c H locs cells slots (MQ below (kq_QI E A post) args s mc ms A) (F0 m pc ls [.int v]) := by
  refine W.widen hc hs ?_
  exact W.zret (v := v) hexec hb hr (by rcases hn with rfl | rfl <;> rfl) (fun t ht hW => ⟨⟨v, (L, σ), rfl, hp, by rw [ht]; exact hw.1, hw.2.1⟩, hw.2.2.1.F ht⟩) hw.2.2.1.2.2 hdg
theorem kq_vret {mc ms : Nat} {post : List Nat → (Nat → va_E) → Prop} (hexec : p.tables.exec = Jvm.exec) (hb : c.code = cc) (hr : meth.sig.returnType = none) (hlocks : meth.locks = false) (hw : kq_w E A s.heap [] L σ H locs) (hc : cells ≤ mc) (hs : slots ≤ ms) (hdg : decode cc pc = .ok (.return_, 1)) (hp : post L σ) :
    W p l e R s m args below meth c H locs cells slots (MQ below (kq_QV E A post) args s mc ms A) (F0 m pc ls []) := by
  refine W.widen hc hs ?_
  exact W.vret hexec hb hr (fun t ht hW => ⟨⟨(L, σ), rfl, hp, by rw [ht]; exact hw.1, hw.2.1⟩, hw.2.2.1.F ht⟩) hw.2.2.1.2.2 hdg
theorem kq_get (hexec : p.tables.exec = Jvm.exec) (hb : c.code = cc) {own C : String} {T : u_T} {N ci index : Nat} {Ts : List Cond} (hts : ∀ w ∈ Ts, w.before args s = true) (hin : ∀ w ∈ u_ws C T N, w ∈ Ts) (hown : s.vm.findClass own = some m.cls) (hK : kq_K E A s) (hw : kq_w E A H0 Wr L σ H locs) (hL : a ∈ L) {fs : List Value} (he : σ a = .inr (ci, fs)) (hc : vwCl[ci]? = some (C, T, N)) (k : Nat) (hk : k < N) (hlink : (Cond.fieldLink own index (T k).1 (T k).2.1 (T k).2.2.1).before args s = true) {v : Value} (hv : fs[k]? = some v) (hdg : decode cc pc = .ok (.getfield index, 3))
    (kk : W p l e R s m args below meth c H locs cells slots Q (F0 m (pc + 3) ls (v :: rest))) : W p l e R s m args below meth c H locs cells slots Q (F0 m pc ls (.ref a :: rest)) := by
  obtain ⟨q0, h0⟩ := va_pl_get (X := Wr) (f := σ) hL
  rw [he] at h0
  exact va_get hexec hb hts hin hown hK.1 hw.1 q0 h0 hc k hk hlink (fun _ h9 => h9) hv hdg kk
theorem kq_setw {q0 : Nat} {H1 : Heap} {locs1 : List Loc} {x : va_E} (hw : kq_w E A H0 Wr L σ H locs) (hL : a ∈ L) (h0 : (Wr ++ va_pl L σ)[q0]? = some (a, σ a)) (h1 : va_P E.1 vwCl ((Wr ++ va_pl L σ).set q0 (a, x)) H1) (h2 : va_D A ((Wr ++ va_pl L σ).set q0 (a, x))) (h3 : va_S A H0 H1 locs1) : kq_w E A H0 Wr L (va_up σ a x) H1 locs1 := by
  rw [va_pl_set hw.2.1 hL h0] at h1 h2
  exact ⟨h1, h2, h3, hw.2.2.2⟩
theorem kq_put (hexec : p.tables.exec = Jvm.exec) (hb : c.code = cc) {own C : String} {T : u_T} {N ci index : Nat} {Ts : List Cond} (hts : ∀ w ∈ Ts, w.before args s = true) (hin : ∀ w ∈ u_ws C T N, w ∈ Ts) (ty0 : Nat → FieldType) (hty : ∀ k, k < N → parseFieldDescriptor (T k).2.2.1 = some (ty0 k)) (hnm : ∀ a, a < N → ∀ b, b < N → a ≠ b → (T a).2.1 ≠ (T b).2.1) (hown : s.vm.findClass own = some m.cls) (hK : kq_K E A s) (hw : kq_w E A s.heap Wr L σ H locs) (hL : a ∈ L) {fs : List Value} (he : σ a = .inr (ci, fs)) (hc : vwCl[ci]? = some (C, T, N)) (k : Nat) (hk : k < N) (hlink : (Cond.fieldLink own index (T k).1 (T k).2.1 (T k).2.2.1).before args s = true) (hfin : (T k).2.2.2 = false) {ty : FieldType} {v : Value} (hd : parseFieldDescriptor (T k).2.2.1 = some ty) (hn : narrow ty v = v) (hfit : fits ty v = true) (hl : k < fs.length) {fs' : List Value} (hf : fs.set k v = fs') (hdg : decode cc pc = .ok (.putfield index, 3))
    (kk : ∀ (H1 : Heap) (locs1 : List Loc) (σ1 : Nat → va_E), σ1 = va_up σ a (.inr (ci, fs')) → kq_w E A s.heap Wr L σ1 H1 locs1 → W p l e R s m args below meth c H1 locs1 cells slots Q (F0 m (pc + 3) ls rest)) : W p l e R s m args below meth c H locs cells slots Q (F0 m pc ls (v :: .ref a :: rest)) := by
  obtain ⟨q0, h0⟩ := va_pl_get (X := Wr) (f := σ) hL
  have h0' := h0
  rw [he] at h0'
  subst hf
  exact va_put hexec hb hts hin ty0 hty hnm hown hK.1 hw.1 hw.2.1 hw.2.2.1 q0 h0' hc k hk hlink (fun _ h9 => h9) hfin hd hn hfit hl hdg (fun H1 locs1 h1 h2 h3 => kk H1 locs1 _ rfl (kq_setw hw hL h0 h1 h2 h3))
theorem kq_putF (hexec : p.tables.exec = Jvm.exec) (hb : c.code = cc) {own C : String} {T : u_T} {N ci index : Nat} {Ts : List Cond} (hts : ∀ w ∈ Ts, w.before args s = true) (hin : ∀ w ∈ u_ws C T N, w ∈ Ts) (ty0 : Nat → FieldType) (hty : ∀ k, k < N → parseFieldDescriptor (T k).2.2.1 = some (ty0 k)) (hnm : ∀ a, a < N → ∀ b, b < N → a ≠ b → (T a).2.1 ≠ (T b).2.1) (hown : s.vm.findClass own = some m.cls) (hK : kq_K E A s) (hw : kq_w E A s.heap Wr L σ H locs) (hL : a ∈ L) {fs : List Value} (he : σ a = .inr (ci, fs)) (hc : vwCl[ci]? = some (C, T, N)) (k : Nat) (hk : k < N) (hlink : (Cond.fieldLink own index (T k).1 (T k).2.1 (T k).2.2.1).before args s = true) (hfin : (T k).2.2.2 = true) (hin2 : meth.name = "<init>") (hdecl : (T k).1 = own) {ty : FieldType} {v : Value} (hd : parseFieldDescriptor (T k).2.2.1 = some ty) (hn : narrow ty v = v) (hfit : fits ty v = true) (hl : k < fs.length) {fs' : List Value} (hf : fs.set k v = fs') (hdg : decode cc pc = .ok (.putfield index, 3))
    (kk : ∀ (H1 : Heap) (locs1 : List Loc) (σ1 : Nat → va_E), σ1 = va_up σ a (.inr (ci, fs')) → kq_w E A s.heap Wr L σ1 H1 locs1 → W p l e R s m args below meth c H1 locs1 cells slots Q (F0 m (pc + 3) ls rest)) : W p l e R s m args below meth c H locs cells slots Q (F0 m pc ls (v :: .ref a :: rest)) := by
  obtain ⟨q0, h0⟩ := va_pl_get (X := Wr) (f := σ) hL
  have h0' := h0
  rw [he] at h0'
  subst hf
  exact va_putF hexec hb hts hin ty0 hty hnm hown hK.1 hw.1 hw.2.1 hw.2.2.1 q0 h0' hc k hk hlink (fun _ h9 => h9) hfin hin2 hdecl hd hn hfit hl hdg (fun H1 locs1 h1 h2 h3 => kk H1 locs1 _ rfl (kq_setw hw hL h0 h1 h2 h3))
theorem kq_iald (hexec : p.tables.exec = Jvm.exec) (hb : c.code = cc) (hK : kq_K E A s) (hw : kq_w E A H0 Wr L σ H locs) (hL : a ∈ L) {n : Nat} {f : Nat → Int32} (he : σ a = .inl (E.2 0, n, .inl f)) {i : Int32} (hin : vp_in i n) (hdg : decode cc pc = .ok (.iaload, 1))
    (kk : W p l e R s m args below meth c H locs cells slots Q (F0 m (pc + 1) ls (.int (f i.toNatClampNeg) :: rest))) : W p l e R s m args below meth c H locs cells slots Q (F0 m pc ls (.int i :: .ref a :: rest)) := by
  obtain ⟨q0, h0⟩ := va_pl_get (X := Wr) (f := σ) hL
  rw [he] at h0
  exact va_iald hexec hb hK.1 hw.1 q0 0 h0 rfl hin hdg kk
theorem kq_zald (hexec : p.tables.exec = Jvm.exec) (hb : c.code = cc) (hK : kq_K E A s) (hw : kq_w E A H0 Wr L σ H locs) (hL : a ∈ L) {n : Nat} {f : Nat → Int32} (he : σ a = .inl (E.2 1, n, .inl f)) {i : Int32} (hin : vp_in i n) (hdg : decode cc pc = .ok (.baload, 1))
    (kk : W p l e R s m args below meth c H locs cells slots Q (F0 m (pc + 1) ls (.int (f i.toNatClampNeg) :: rest))) : W p l e R s m args below meth c H locs cells slots Q (F0 m pc ls (.int i :: .ref a :: rest)) := by
  obtain ⟨q0, h0⟩ := va_pl_get (X := Wr) (f := σ) hL
  rw [he] at h0
  exact va_zald hexec hb hK.1 hw.1 q0 1 h0 rfl hin hdg kk
theorem kq_iast (hexec : p.tables.exec = Jvm.exec) (hb : c.code = cc) (hK : kq_K E A s) (hw : kq_w E A s.heap Wr L σ H locs) (hL : a ∈ L) {n : Nat} {f : Nat → Int32} (he : σ a = .inl (E.2 0, n, .inl f)) {i x : Int32} (hin : vp_in i n) (hdg : decode cc pc = .ok (.iastore, 1))
    (kk : ∀ (H1 : Heap) (locs1 : List Loc) (σ1 : Nat → va_E), σ1 = va_up σ a (.inl (E.2 0, n, .inl (upd f i.toNatClampNeg x))) → kq_w E A s.heap Wr L σ1 H1 locs1 → W p l e R s m args below meth c H1 locs1 cells slots Q (F0 m (pc + 1) ls rest)) : W p l e R s m args below meth c H locs cells slots Q (F0 m pc ls (.int x :: .int i :: .ref a :: rest)) := by
  obtain ⟨q0, h0⟩ := va_pl_get (X := Wr) (f := σ) hL
  have h0' := h0
  rw [he] at h0'
  exact va_iast hexec hb hK.1 hw.1 hw.2.1 hw.2.2.1 q0 0 h0' rfl hin hdg (fun H1 locs1 h1 h2 h3 => kk H1 locs1 _ rfl (kq_setw hw hL h0 h1 h2 h3))
theorem kq_aldq (hexec : p.tables.exec = Jvm.exec) (hb : c.code = cc) (hK : kq_K E A s) (hw : kq_w E A H0 Wr L σ H locs) (hL : a ∈ L) (t0 : Nat) {cA : ClassId} {C : String} (ht : (kq_tys E)[t0]? = some (cA, .object C)) {n : Nat} {f : Nat → Option Nat} (he : σ a = .inl (cA, n, .inr (.inr (.inr (.inr f))))) {i : Int32} (hin : vp_in i n) {r : Nat} (hr : f i.toNatClampNeg = some r) (hdg : decode cc pc = .ok (.aaload, 1))
    (kk : W p l e R s m args below meth c H locs cells slots Q (F0 m (pc + 1) ls (.ref r :: rest))) : W p l e R s m args below meth c H locs cells slots Q (F0 m pc ls (.int i :: .ref a :: rest)) := by
  obtain ⟨q0, h0⟩ := va_pl_get (X := Wr) (f := σ) hL
  rw [he] at h0
  refine va_aldq hexec hb hK.1 hw.1 q0 t0 h0 ht hin hdg ?_
  rw [hr]
  exact kk
theorem kq_astq (hexec : p.tables.exec = Jvm.exec) (hb : c.code = cc) (hK : kq_K E A s) (hw : kq_w E A s.heap Wr L σ H locs) (hL : a ∈ L) (t0 ci : Nat) {cA : ClassId} {q : vw_C} (ht : (kq_tys E)[t0]? = some (cA, .object q.1)) {n v : Nat} {vs : List Value} {f : Nat → Option Nat} (he : σ a = .inl (cA, n, .inr (.inr (.inr (.inr f))))) (hLv : v ∈ L) (hv : σ v = .inr (ci, vs)) (hc : vwCl[ci]? = some q) {i : Int32} (hin : vp_in i n) (hdg : decode cc pc = .ok (.aastore, 1))
    (kk : ∀ (H1 : Heap) (locs1 : List Loc) (σ1 : Nat → va_E), σ1 = va_up σ a (.inl (cA, n, .inr (.inr (.inr (.inr (va_up f i.toNatClampNeg (some v))))))) → kq_w E A s.heap Wr L σ1 H1 locs1 → W p l e R s m args below meth c H1 locs1 cells slots Q (F0 m (pc + 1) ls rest)) : W p l e R s m args below meth c H locs cells slots Q (F0 m pc ls (.ref v :: .int i :: .ref a :: rest)) := by
  obtain ⟨q0, h0⟩ := va_pl_get (X := Wr) (f := σ) hL
  obtain ⟨qk, hk⟩ := va_pl_get (X := Wr) (f := σ) hLv
  have h0' := h0
  rw [he] at h0'
  rw [hv] at hk
  exact va_astq hexec hb hK.1 hw.1 hw.2.1 hw.2.2.1 q0 t0 qk ci h0' ht hk hc hin hdg (fun H1 locs1 h1 h2 h3 => kk H1 locs1 _ rfl (kq_setw hw hL h0 h1 h2 h3))
theorem kq_alen (hexec : p.tables.exec = Jvm.exec) (hb : c.code = cc) (hK : kq_K E A s) (hw : kq_w E A H0 Wr L σ H locs) (hL : a ∈ L) (t0 : Nat) {cA : ClassId} {ty : FieldType} (ht : (kq_tys E)[t0]? = some (cA, ty)) {x : vp_A} (he : σ a = .inl (cA, x)) {v : Int32} (hv : Int32.ofNat x.1 = v) (hdg : decode cc pc = .ok (.arraylength, 1))
    (kk : W p l e R s m args below meth c H locs cells slots Q (F0 m (pc + 1) ls (.int v :: rest))) : W p l e R s m args below meth c H locs cells slots Q (F0 m pc ls (.ref a :: rest)) := by
  obtain ⟨q0, h0⟩ := va_pl_get (X := Wr) (f := σ) hL
  rw [he] at h0
  exact va_alen hexec hb hK.1 hw.1 q0 t0 h0 ht hv hdg kk
theorem kq_pushw {q : Nat} {H1 : Heap} {locs1 : List Loc} {x : va_E} (hA : ∀ q, H0.size ≤ q → A q) (h1 : va_P E.1 vwCl ((Wr ++ va_pl L σ) ++ [(q, x)]) H1) (h2 : va_D A ((Wr ++ va_pl L σ) ++ [(q, x)])) (h3 : va_S A H0 H1 locs1) : q ∉ L ∧ kq_w E A H0 Wr (L ++ [q]) (va_up σ q x) H1 locs1 := by
  have hq : q ∉ L := va_pl_fresh2 h2
  rw [List.append_assoc, va_pl_push hq] at h1 h2
  exact ⟨hq, h1, h2, h3, hA⟩
theorem kq_new (hexec : p.tables.exec = Jvm.exec) (hb : c.code = cc) {own C : String} {T : u_T} {N ci index : Nat} {Ts : List Cond} (hts : ∀ w ∈ Ts, w.before args s = true) (hin : ∀ w ∈ u_ws C T N, w ∈ Ts) (ty : Nat → FieldType) (hty : ∀ k, k < N → parseFieldDescriptor (T k).2.2.1 = some (ty k)) (hown : s.vm.findClass own = some m.cls) (hcl : (Cond.classLink own index C).before args s = true) (hinst : (Cond.instantiable C N).before args s = true) (hini : (Cond.initialized C).before args s = true) (hK : kq_K E A s) (hw : kq_w E A H0 Wr L σ H locs) (hc : vwCl[ci]? = some (C, T, N)) {fs : List Value} (hfs : ∀ j, j < N → defaultValue (ty j) = vp_V fs j) (hcells : cells + 1 ≤ R.cells) (hslots : slots + N ≤ R.slots) (hdg : decode cc pc = .ok (.new index, 3))
    (kk : ∀ (q : Nat) (H1 : Heap) (L1 : List Nat) (σ1 : Nat → va_E), q ∉ L → L1 = L ++ [q] → σ1 = va_up σ q (.inr (ci, fs)) → kq_w E A H0 Wr L1 σ1 H1 locs → W p l e R s m args below meth c H1 locs (cells + 1) (slots + N) Q (F0 m (pc + 3) ls (.ref q :: rest))) : W p l e R s m args below meth c H locs cells slots Q (F0 m pc ls rest) :=
  va_new hexec hb hts hin ty hty hown hcl hinst hini hK.1 hw.1 hw.2.1 hw.2.2.1 hw.2.2.2 hc hfs hcells hslots hdg (fun q H1 h1 h2 h3 => kk q H1 _ _ (kq_pushw hw.2.2.2 h1 h2 h3).1 rfl rfl (kq_pushw hw.2.2.2 h1 h2 h3).2)
theorem kq_newi (hexec : p.tables.exec = Jvm.exec) (hb : c.code = cc) (harr : (Cond.arrayClass (newarray.typeOf .int)).before args s = true) (hK : kq_K E A s) (hw : kq_w E A H0 Wr L σ H locs) {n : Int32} {N' : Nat} (hn : ¬ n < 0) (hN : n.toNatClampNeg = N') (hbytes : N' * componentBytes .int ≤ 536870912) (hcells : cells + 1 ≤ R.cells) (hslots : slots + N' ≤ R.slots) (hdg : decode cc pc = .ok (.newarray .int, 2))
    (kk : ∀ (q : Nat) (H1 : Heap) (L1 : List Nat) (σ1 : Nat → va_E), q ∉ L → L1 = L ++ [q] → σ1 = va_up σ q (.inl (E.2 0, N', .inl (fun _ => 0))) → kq_w E A H0 Wr L1 σ1 H1 locs → W p l e R s m args below meth c H1 locs (cells + 1) (slots + N') Q (F0 m (pc + 2) ls (.ref q :: rest))) : W p l e R s m args below meth c H locs cells slots Q (F0 m pc ls (.int n :: rest)) := by
  refine va_newa (atype := .int) (ty := .int) (a0 := (N', .inl (fun _ => 0))) hexec hb harr rfl hK.1 hw.1 hw.2.1 hw.2.2.1 hw.2.2.2 (fun cA => rfl) hn hN hbytes hcells hslots hdg (fun q cA H1 h0 h1 h2 h3 => ?_)
  have e1 := (h0.2 5 (cA, .int) rfl).2
  have e2 := (h0.2 0 (E.2 0, .int) rfl).2
  have e3 : cA = E.2 0 := by
    have := e1.symm.trans e2
    exact Option.some.inj this
  subst e3
  exact kk q H1 _ _ (kq_pushw hw.2.2.2 h1 h2 h3).1 rfl rfl (kq_pushw hw.2.2.2 h1 h2 h3).2
theorem kq_newz (hexec : p.tables.exec = Jvm.exec) (hb : c.code = cc) (harr : (Cond.arrayClass (newarray.typeOf .boolean)).before args s = true) (hK : kq_K E A s) (hw : kq_w E A H0 Wr L σ H locs) {n : Int32} {N' : Nat} (hn : ¬ n < 0) (hN : n.toNatClampNeg = N') (hbytes : N' * componentBytes .boolean ≤ 536870912) (hcells : cells + 1 ≤ R.cells) (hslots : slots + N' ≤ R.slots) (hdg : decode cc pc = .ok (.newarray .boolean, 2))
    (kk : ∀ (q : Nat) (H1 : Heap) (L1 : List Nat) (σ1 : Nat → va_E), q ∉ L → L1 = L ++ [q] → σ1 = va_up σ q (.inl (E.2 1, N', .inl (fun _ => 0))) → kq_w E A H0 Wr L1 σ1 H1 locs → W p l e R s m args below meth c H1 locs (cells + 1) (slots + N') Q (F0 m (pc + 2) ls (.ref q :: rest))) : W p l e R s m args below meth c H locs cells slots Q (F0 m pc ls (.int n :: rest)) := by
  refine va_newa (atype := .boolean) (ty := .boolean) (a0 := (N', .inl (fun _ => 0))) hexec hb harr rfl hK.1 hw.1 hw.2.1 hw.2.2.1 hw.2.2.2 (fun cA => rfl) hn hN hbytes hcells hslots hdg (fun q cA H1 h0 h1 h2 h3 => ?_)
  have e1 := (h0.2 5 (cA, .boolean) rfl).2
  have e2 := (h0.2 1 (E.2 1, .boolean) rfl).2
  have e3 : cA = E.2 1 := by
    have := e1.symm.trans e2
    exact Option.some.inj this
  subst e3
  exact kk q H1 _ _ (kq_pushw hw.2.2.2 h1 h2 h3).1 rfl rfl (kq_pushw hw.2.2.2 h1 h2 h3).2
theorem kq_newq (hexec : p.tables.exec = Jvm.exec) (hb : c.code = cc) {own C : String} {index : Nat} (hown : s.vm.findClass own = some m.cls) (hclink : (Cond.classLink own index C).before args s = true) (hover : va_AO C s) (hK : kq_K E A s) (hw : kq_w E A H0 Wr L σ H locs) (t0 : Nat) {c0 : ClassId} (ht : (kq_tys E)[t0]? = some (c0, .object C)) {n : Int32} {N' : Nat} (hn : ¬ n < 0) (hN : n.toNatClampNeg = N') (hbytes : N' * 4 ≤ 536870912) (hcells : cells + 1 ≤ R.cells) (hslots : slots + N' ≤ R.slots) (hdg : decode cc pc = .ok (.anewarray index, 3))
    (kk : ∀ (q : Nat) (H1 : Heap) (L1 : List Nat) (σ1 : Nat → va_E), q ∉ L → L1 = L ++ [q] → σ1 = va_up σ q (.inl (c0, N', .inr (.inr (.inr (.inr (fun _ => none)))))) → kq_w E A H0 Wr L1 σ1 H1 locs → W p l e R s m args below meth c H1 locs (cells + 1) (slots + N') Q (F0 m (pc + 3) ls (.ref q :: rest))) : W p l e R s m args below meth c H locs cells slots Q (F0 m pc ls (.int n :: rest)) := by
  refine va_newq hexec hb hown hclink hover hK.1 hw.1 hw.2.1 hw.2.2.1 hw.2.2.2 hn hN hbytes hcells hslots hdg (fun q cA H1 h0 h1 h2 h3 => ?_)
  obtain ⟨k1, m1, x1, x2, x3, e1⟩ := (h0.2 5 (cA, .object C) rfl).2
  obtain ⟨k2, m2, y1, y2, y3, e2⟩ := (hK.1.2 t0 _ ht).2
  have e3 : cA = c0 := by
    have := e1.symm.trans e2
    exact Option.some.inj this
  subst e3
  exact kk q H1 _ _ (kq_pushw hw.2.2.2 h1 h2 h3).1 rfl rfl (kq_pushw hw.2.2.2 h1 h2 h3).2
/-- the rest stays beside what a call gave back -/
theorem kq_join {A0 : Nat → Prop} {D : va_G} {cl : List vw_C} {wr wc w1 : va_W} {H H1 : Heap} (hP : va_P D cl (wr ++ wc) H) (hD : va_D A0 (wr ++ wc)) (hk : ∀ q : Nat, q < H.size → ¬ va_A wc H.size q → H1[q]? = H[q]?) (hF : ∀ q, va_A wc H.size q → A0 q) (hP1 : va_P D cl w1 H1) (hD1 : va_D (va_A wc H.size) w1) : va_P D cl (wr ++ w1) H1 ∧ va_D A0 (wr ++ w1) := by
  have hl : ∀ (k : Nat) (q : Nat × va_E), wr[k]? = some q → (wr ++ wc)[k]? = some q := fun k q hq => by
    rw [List.getElem?_append_left (List.getElem?_eq_some_iff.mp hq).1]; exact hq
  have hr : ∀ (k : Nat) (q : Nat × va_E), wc[k]? = some q → (wr ++ wc)[wr.length + k]? = some q := fun k q hq => by
    rw [List.getElem?_append_right (Nat.le_add_right _ _), Nat.add_sub_cancel_left]; exact hq
  have apart : ∀ (k : Nat) (q : Nat × va_E), wr[k]? = some q → q.1 < H.size ∧ ¬ va_A wc H.size q.1 := fun k q hq => by
    have h1 := hl k q hq
    have h2 := (hP k q h1).lt
    refine ⟨h2, fun hA => ?_⟩
    rcases hA with ⟨j, x, hx⟩ | hx
    · have h3 := hr j _ hx
      have h4 := hD.1 k (wr.length + j) q (q.1, x) h1 h3 rfl
      have h5 := (List.getElem?_eq_some_iff.mp hq).1
      omega
    · omega
  have hPr : va_P D cl wr H := fun k q hq => hP k q (hl k q hq)
  have hPr1 : va_P D cl wr H1 := hPr.kept (fun k q hq => hk q.1 (apart k q hq).1 (apart k q hq).2)
  have hDr : va_D A0 wr := ⟨fun i j x y hi hj hxy => hD.1 i j x y (hl i x hi) (hl j y hj) hxy, fun k q hq => hD.2 k q (hl k q hq)⟩
  refine ⟨hPr1.app hP1, hDr.app (hD1.weaken (fun k q _ h => hF q.1 h)) (fun i j x y hi hj hxy => ?_)⟩
  exact (apart i x hi).2 (by rw [hxy]; exact hD1.2 j y hj)
theorem kq_freeA {wc : va_W} {A0 : Nat → Prop} (hD : va_D A0 (Wr ++ wc)) (hS : va_S A0 H0 H locs) (hA : ∀ q, H0.size ≤ q → A0 q) : ∀ q, va_A wc H.size q → A0 q := by
  intro q h
  rcases h with ⟨k, x, h⟩ | h
  · exact hD.2 (Wr.length + k) (q, x) (by rw [List.getElem?_append_right (Nat.le_add_right _ _), Nat.add_sub_cancel_left]; exact h)
  · exact hA q (Nat.le_trans hS.1 h)
theorem kq_back {A0 : Nat → Prop} (hw : kq_w E A0 H0 Wr L σ H locs) {u : kq_S} {t : State} {H1 : Heap} {locs1 : List Loc} (ht : t.heap = H1) (hB : kq_B E (va_A (va_pl L σ) H.size) u t) (hk : ∀ q : Nat, q < H.size → ¬ va_A (va_pl L σ) H.size q → H1[q]? = H[q]?) (hS : va_S A0 H0 H1 locs1) : kq_w E A0 H0 Wr u.1 u.2 H1 locs1 := by
  obtain ⟨hP1, hD1⟩ := hB
  rw [ht] at hP1
  have := kq_join hw.1 hw.2.1 hk (kq_freeA hw.2.1 hw.2.2.1 hw.2.2.2) hP1 hD1
  exact ⟨this.1, this.2, hS, hw.2.2.2⟩
theorem kq_subP {A0 : Nat → Prop} (hw : kq_w E A0 H0 Wr L σ H locs) : va_P E.1 vwCl (va_pl L σ) H := fun k q hq => hw.1 (Wr.length + k) q (by rw [List.getElem?_append_right (Nat.le_add_right _ _), Nat.add_sub_cancel_left]; exact hq)
theorem kq_subD {A0 : Nat → Prop} (hw : kq_w E A0 H0 Wr L σ H locs) : va_D (fun _ => True) (va_pl L σ) := by
  have hr : ∀ (k : Nat) (q : Nat × va_E), (va_pl L σ)[k]? = some q → (Wr ++ va_pl L σ)[Wr.length + k]? = some q := fun k q hq => by
    rw [List.getElem?_append_right (Nat.le_add_right _ _), Nat.add_sub_cancel_left]; exact hq
  exact ⟨fun i j x y hi hj hxy => by have := hw.2.1.1 _ _ x y (hr i x hi) (hr j y hj) hxy; omega, fun _ _ _ => trivial⟩
theorem kq_blind {av : List Value} {sz : Nat} : FrameBlind (va_Pc av (kq_Pre E L σ sz)) := fun a U g mk q => by
  obtain ⟨q0, q1, qP, qK, qD⟩ := q
  exact ⟨q0, q1, qP, qK.calling, qD⟩
theorem kq_preS {av : List Value} (hK : kq_K E A s) (hw : kq_w E A s.heap Wr L σ H locs) : PreS s H (va_Pc av (kq_Pre E L σ H.size)) av :=
  ⟨kq_blind, fun U hU hW => ⟨rfl, by rw [hU], by rw [hU]; exact kq_subP hw, hK.to hW (by rw [hU]; exact hw.2.2.1) (kq_freeA hw.2.1 hw.2.2.1 hw.2.2.2), kq_subD hw⟩⟩
theorem kq_preV {As : List Value} {b ci : Nat} {q : vw_C} {fs : List Value} (hK : kq_K E A s) (hw : kq_w E A s.heap Wr L σ H locs) (hb : b ∈ L) (he : σ b = .inr (ci, fs)) (hc : vwCl[ci]? = some q) : PreV s H q.1 b (va_Pc (.ref b :: As) (kq_Pre E L σ H.size)) As := by
  obtain ⟨q0, h0⟩ := va_pl_get (X := Wr) (f := σ) hb
  rw [he] at h0
  exact ⟨kq_blind, va_recv hK.1 hw.1 hc h0, fun U hU hW => ⟨rfl, by rw [hU], by rw [hU]; exact kq_subP hw, hK.to hW (by rw [hU]; exact hw.2.2.1) (kq_freeA hw.2.1 hw.2.2.1 hw.2.2.2), kq_subD hw⟩⟩
end KQ1
