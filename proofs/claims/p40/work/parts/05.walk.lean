/-! WALKS: entries with the end as a hypothesis, calls of methods that make nothing -/
theorem kb_some {α β : Type} {o : Option α} {a : α} (h : o = some a) (f : α → Option β) : o.bind f = f a := by rw [h]; rfl
theorem kb_n {α β : Type} {o : Option α} (h : o = none) (f : α → Option β) : o.bind f = none := by rw [h]; rfl
def kb2 {β : Type} (o : Option (Int32 × Mm)) (f : Int32 → Mm → Option β) : Option β := o.bind (fun z => f z.1 z.2)
theorem kb2_some {β : Type} {o : Option (Int32 × Mm)} {r : Int32} {v1 : Mm} (h : o = some (r, v1)) (f : Int32 → Mm → Option β) : kb2 o f = f r v1 := by rw [h]; rfl
theorem kb2_n {β : Type} {o : Option (Int32 × Mm)} (h : o = none) (f : Int32 → Mm → Option β) : kb2 o f = none := by rw [h]; rfl
theorem kb_none {α β : Type} {o : Option α} {f : α → Option β} (h : o.bind f ≠ none) : o ≠ none := fun q => h (by rw [q]; rfl)
section KM3
variable {l : Launch} {E : kq_T} {Z : km_Z} {cnt : Nat → Nat} {v : Mm} {y : MethodName} {ws ws' : List Cond} {rm : Room} {av : List Value} {cc : ByteArray} {maxL : Nat}
theorem km_goI {post : Int32 → Mm → Prop} (hy : plainName y.cls = true) (hw : ws = Cond.code y cc maxL (some .int) :: ws') (hav : (lg_sl av).length ≤ maxL) {lv : List (Nat × Value)} (hlv : lv_args 0 av = lv) (hc0 : rm.cells = 0) (hs0 : rm.slots = 0)
    (h : ∀ (p : Program) (e : Env) (s : State) (m : MethodId) (below : List Frame) (meth : Method) (c : Code) (A : Nat → Prop) (ls : Array Slot) (Q : State → Prop), kq_C p s m meth c av.toArray y.cls y.name cc maxL (some .int) ws → kq_K E A s → km_w E A s.heap [] Z cnt v s.heap [] → lv_has ls maxL lv →
      (∀ (v1 : Mm) (H1 : Heap) (locs1 : List Loc) (pc : Nat) (ls1 : Array Slot) (x : Int32), km_w E A s.heap [] Z cnt v1 H1 locs1 → decode cc pc = .ok (.ireturn, 1) → post x v1 → W p l e rm s m av.toArray below meth c H1 locs1 0 0 Q (F0 m pc ls1 [.int x])) →
      W p l e rm s m av.toArray below meth c s.heap [] 0 0 Q (F0 m 0 ls [])) : km_I l E Z cnt y ws rm av v post :=
  km_enterI hy hw hav hlv (fun p e s m below meth c A ls C hK hw hl => h p e s m below meth c A ls _ C hK hw hl (fun v1 H1 locs1 pc ls1 x h1 h2 h3 => km_iret C.1 C.2.1 C.2.2.2.2.2.1 C.2.2.2.2.2.2.1 h1 (Nat.zero_le _) (Nat.zero_le _) h2 h3))
theorem km_goZ {post : Int32 → Mm → Prop} (hy : plainName y.cls = true) (hw : ws = Cond.code y cc maxL (some .boolean) :: ws') (hav : (lg_sl av).length ≤ maxL) {lv : List (Nat × Value)} (hlv : lv_args 0 av = lv) (hc0 : rm.cells = 0) (hs0 : rm.slots = 0)
    (h : ∀ (p : Program) (e : Env) (s : State) (m : MethodId) (below : List Frame) (meth : Method) (c : Code) (A : Nat → Prop) (ls : Array Slot) (Q : State → Prop), kq_C p s m meth c av.toArray y.cls y.name cc maxL (some .boolean) ws → kq_K E A s → km_w E A s.heap [] Z cnt v s.heap [] → lv_has ls maxL lv →
      (∀ (v1 : Mm) (H1 : Heap) (locs1 : List Loc) (pc : Nat) (ls1 : Array Slot) (x : Int32), km_w E A s.heap [] Z cnt v1 H1 locs1 → decode cc pc = .ok (.ireturn, 1) → (x = 0 ∨ x = 1) → post x v1 → W p l e rm s m av.toArray below meth c H1 locs1 0 0 Q (F0 m pc ls1 [.int x])) →
      W p l e rm s m av.toArray below meth c s.heap [] 0 0 Q (F0 m 0 ls [])) : km_I l E Z cnt y ws rm av v (fun r v1 => post r v1 ∧ (r = 0 ∨ r = 1)) :=
  km_enterI hy hw hav hlv (fun p e s m below meth c A ls C hK hw hl => h p e s m below meth c A ls _ C hK hw hl (fun v1 H1 locs1 pc ls1 x h1 h2 h4 h3 => km_zret C.1 C.2.1 C.2.2.2.2.2.1 C.2.2.2.2.2.2.1 h1 (Nat.zero_le _) (Nat.zero_le _) h4 h2 ⟨h3, h4⟩))
theorem km_goV {post : Mm → Prop} (hy : plainName y.cls = true) (hw : ws = Cond.code y cc maxL none :: ws') (hav : (lg_sl av).length ≤ maxL) {lv : List (Nat × Value)} (hlv : lv_args 0 av = lv) (hc0 : rm.cells = 0) (hs0 : rm.slots = 0)
    (h : ∀ (p : Program) (e : Env) (s : State) (m : MethodId) (below : List Frame) (meth : Method) (c : Code) (A : Nat → Prop) (ls : Array Slot) (Q : State → Prop), kq_C p s m meth c av.toArray y.cls y.name cc maxL none ws → kq_K E A s → km_w E A s.heap [] Z cnt v s.heap [] → lv_has ls maxL lv →
      (∀ (v1 : Mm) (H1 : Heap) (locs1 : List Loc) (pc : Nat) (ls1 : Array Slot), km_w E A s.heap [] Z cnt v1 H1 locs1 → decode cc pc = .ok (.return_, 1) → post v1 → W p l e rm s m av.toArray below meth c H1 locs1 0 0 Q (F0 m pc ls1 [])) →
      W p l e rm s m av.toArray below meth c s.heap [] 0 0 Q (F0 m 0 ls [])) : km_V l E Z cnt y ws rm av v post :=
  km_enterV hy hw hav hlv (fun p e s m below meth c A ls C hK hw hl => h p e s m below meth c A ls _ C hK hw hl (fun v1 H1 locs1 pc ls1 h1 h2 h3 => km_vret C.1 C.2.1 C.2.2.2.2.2.1 C.2.2.2.2.2.2.1 h1 (Nat.zero_le _) (Nat.zero_le _) h2 h3))
end KM3
section KM4
variable {p : Program} {l : Launch} {e : Env} {R : Room} {s : State} {m : MethodId} {args : Array Value} {below : List Frame} {meth : Method} {c : Code} {H : Heap} {locs : List Loc} {Q : State → Prop} {cc : ByteArray} {pc : Nat} {ls : Array Slot} {rest : List Value} {E : kq_T} {A : Nat → Prop} {H0 : Heap} {Wr : va_W} {Z : km_Z} {cnt : Nat → Nat} {v : Mm} {t i : Nat}
  {nL n index maxL : Nat} {Ts ws ws' : List Cond} {own : String} {y : MethodName} {rm : Room} {ci : Nat} {As st : List Value} {bytes : ByteArray} {ret : Option FieldType} {fs : List Value} {q : vw_C} {post : Int32 → Mm → Prop} {postv : Mm → Prop}
theorem km_cI (S : CallFix p m c cc nL s args Ts own) (hM : km_I l E Z cnt y ws rm (.ref (Z.1 t i) :: As) v post) (hG : GoodIn Ts (wsV own index q.1 y ws)) (hw : ws = Cond.code y bytes maxL ret :: ws') (hd : y.cls = q.1 ∧ y.cls ≠ "java/lang/invoke/MethodHandle" ∧ y.cls ≠ "java/lang/invoke/VarHandle" ∧ (parseMethodDescriptor y.desc).map (fun d => d.parameters.length) = some n) (hR : rm.frames + 1 ≤ R.frames ∧ 8 + (maxL + 11) + rm.locals ≤ R.locals)
    (hK : kq_K E A s) (hwd : km_w E A s.heap Wr Z cnt v H locs) (ht : t < 50) (hi : i < cnt t) (he : shp E Z t i (v t i) = .inr (ci, fs)) (hc : vwCl[ci]? = some q) (hn : As.length = n) (hsize : ls.size = nL) (hst : st = As.reverse ++ .ref (Z.1 t i) :: rest) (hcat : (rest.map fun v => v.category).sum ≤ 8) (hdg : decode cc pc = .ok (.invokevirtual index, 3)) (hmc : rm.cells = 0) (hms : rm.slots = 0)
    (kk : ∀ (r : Int32) (v1 : Mm) (H1 : Heap) (locs1 : List Loc), post r v1 → km_w E A s.heap Wr Z cnt v1 H1 locs1 → W p l e R s m args below meth c H1 locs1 0 0 Q (F0 m (pc + 3) ls (.int r :: rest))) :
    W p l e R s m args below meth c H locs 0 0 Q (F0 m pc ls st) :=
  km_callI (mc := 0) (ms := 0) S hM hG hw hd hR hK hwd ht hi he hc hn hsize hst hcat hdg hmc hms ⟨Nat.zero_le _, Nat.zero_le _⟩ kk
theorem km_cV (S : CallFix p m c cc nL s args Ts own) (hM : km_V l E Z cnt y ws rm (.ref (Z.1 t i) :: As) v postv) (hG : GoodIn Ts (wsV own index q.1 y ws)) (hw : ws = Cond.code y bytes maxL ret :: ws') (hd : y.cls = q.1 ∧ y.cls ≠ "java/lang/invoke/MethodHandle" ∧ y.cls ≠ "java/lang/invoke/VarHandle" ∧ (parseMethodDescriptor y.desc).map (fun d => d.parameters.length) = some n) (hR : rm.frames + 1 ≤ R.frames ∧ 8 + (maxL + 11) + rm.locals ≤ R.locals)
    (hK : kq_K E A s) (hwd : km_w E A s.heap Wr Z cnt v H locs) (ht : t < 50) (hi : i < cnt t) (he : shp E Z t i (v t i) = .inr (ci, fs)) (hc : vwCl[ci]? = some q) (hn : As.length = n) (hsize : ls.size = nL) (hst : st = As.reverse ++ .ref (Z.1 t i) :: rest) (hcat : (rest.map fun v => v.category).sum ≤ 8) (hdg : decode cc pc = .ok (.invokevirtual index, 3)) (hmc : rm.cells = 0) (hms : rm.slots = 0)
    (kk : ∀ (v1 : Mm) (H1 : Heap) (locs1 : List Loc), postv v1 → km_w E A s.heap Wr Z cnt v1 H1 locs1 → W p l e R s m args below meth c H1 locs1 0 0 Q (F0 m (pc + 3) ls rest)) :
    W p l e R s m args below meth c H locs 0 0 Q (F0 m pc ls st) :=
  km_callV (mc := 0) (ms := 0) S hM hG hw hd hR hK hwd ht hi he hc hn hsize hst hcat hdg hmc hms ⟨Nat.zero_le _, Nat.zero_le _⟩ kk
theorem km_cS (S : CallFix p m c cc nL s args Ts own) (hM : km_I l E Z cnt y ws rm As v post) (hG : GoodIn Ts (wsS own index y ws)) (hw : ws = Cond.code y bytes maxL ret :: ws') (hd : y.cls = own ∧ y.cls ≠ "java/lang/invoke/MethodHandle" ∧ y.cls ≠ "java/lang/invoke/VarHandle" ∧ (parseMethodDescriptor y.desc).map (fun d => d.parameters.length) = some n) (hR : rm.frames + 1 ≤ R.frames ∧ 8 + (maxL + 11) + rm.locals ≤ R.locals)
    (hK : kq_K E A s) (hwd : km_w E A s.heap Wr Z cnt v H locs) (hn : As.length = n) (hsize : ls.size = nL) (hst : st = As.reverse ++ rest) (hcat : (rest.map fun v => v.category).sum ≤ 8) (hdg : decode cc pc = .ok (.invokestatic index, 3)) (hmc : rm.cells = 0) (hms : rm.slots = 0)
    (kk : ∀ (r : Int32) (v1 : Mm) (H1 : Heap) (locs1 : List Loc), post r v1 → km_w E A s.heap Wr Z cnt v1 H1 locs1 → W p l e R s m args below meth c H1 locs1 0 0 Q (F0 m (pc + 3) ls (.int r :: rest))) :
    W p l e R s m args below meth c H locs 0 0 Q (F0 m pc ls st) :=
  km_callS (mc := 0) (ms := 0) S hM hG hw hd hR hK hwd hn hsize hst hcat hdg hmc hms ⟨Nat.zero_le _, Nat.zero_le _⟩ kk
theorem km_cSN (S : CallFix p m c cc nL s args Ts own) (hM : km_I l E Z cnt y ws rm As v post) (hG : GoodIn Ts ws) (hw : ws = Cond.code y bytes maxL ret :: ws') (hini : (Cond.initialized y.cls).before args s = true) (hl : (own, index, y) ∈ kq_nl) (hsta : (Cond.static y).before args s = true) (hd : y.cls ≠ "java/lang/invoke/MethodHandle" ∧ y.cls ≠ "java/lang/invoke/VarHandle" ∧ (parseMethodDescriptor y.desc).map (fun d => d.parameters.length) = some n) (hR : rm.frames + 1 ≤ R.frames ∧ 8 + (maxL + 11) + rm.locals ≤ R.locals)
    (hK : kq_K E A s) (hwd : km_w E A s.heap Wr Z cnt v H locs) (hn : As.length = n) (hsize : ls.size = nL) (hst : st = As.reverse ++ rest) (hcat : (rest.map fun v => v.category).sum ≤ 8) (hdg : decode cc pc = .ok (.invokestatic index, 3)) (hmc : rm.cells = 0) (hms : rm.slots = 0)
    (kk : ∀ (r : Int32) (v1 : Mm) (H1 : Heap) (locs1 : List Loc), post r v1 → km_w E A s.heap Wr Z cnt v1 H1 locs1 → W p l e R s m args below meth c H1 locs1 0 0 Q (F0 m (pc + 3) ls (.int r :: rest))) :
    W p l e R s m args below meth c H locs 0 0 Q (F0 m pc ls st) :=
  km_callSN (mc := 0) (ms := 0) S hM hG hw hini hl hsta hd hR hK hwd hn hsize hst hcat hdg hmc hms ⟨Nat.zero_le _, Nat.zero_le _⟩ kk
end KM4
/-! whole rows of the memory: copies -/
def row3 (v : Mm) (t i : Nat) (f : Nat → Int32) : Mm := fun t2 i2 => if t2 = t ∧ i2 = i then f else v t2 i2
def cpy3 (v : Mm) (t1 i1 sp t2 i2 dp n : Nat) : Mm := row3 v t2 i2 (va_cpy (v t1 i1) (v t2 i2) sp dp n)
theorem kh_row {E : kq_T} {Z : km_Z} {cnt : Nat → Nat} {v : Mm} {σ : Nat → va_E} {t i : Nat} {f : Nat → Int32} {c : va_E} (hj : kinj Z cnt) (h : kh E Z cnt v σ) (ht : t < 50) (hi : i < cnt t) (hc : shp E Z t i f = c) : kh E Z cnt (row3 v t i f) (va_up σ (Z.1 t i) c) := by
  intro t2 i2 ht2 hi2
  by_cases q : t2 = t ∧ i2 = i
  · obtain ⟨rfl, rfl⟩ := q
    rw [va_up_self]
    unfold row3
    rw [if_pos ⟨rfl, rfl⟩, hc]
  · rw [va_up_ne _ _ (fun e => q (hj t2 i2 t i ht2 hi2 ht hi e))]
    unfold row3
    rw [if_neg q]
    exact h t2 i2 ht2 hi2
section KM5
variable {p : Program} {l : Launch} {e : Env} {R : Room} {s : State} {m : MethodId} {args : Array Value} {below : List Frame} {meth : Method} {c : Code} {H : Heap} {locs : List Loc} {cells slots : Nat} {Q : State → Prop} {cc : ByteArray} {pc : Nat} {ls : Array Slot} {rest : List Value} {E : kq_T} {A : Nat → Prop} {H0 : Heap} {Wr : va_W} {Z : km_Z} {cnt : Nat → Nat} {v : Mm} {t i : Nat}
  {nL n index maxL : Nat} {Ts ws ws' : List Cond} {own : String} {y : MethodName} {rm : Room} {ci : Nat} {As st : List Value} {bytes : ByteArray} {ret : Option FieldType} {post : Int32 → Mm → Prop}
theorem km_S (hw : km_w E A H0 Wr Z cnt v H locs) : va_S A H0 H locs := by
  obtain ⟨-, -, σ, hq, -⟩ := hw
  exact hq.2.2.1
theorem km_copy (hexec : p.tables.exec = Jvm.exec) (hb : c.code = cc) (hml : c.maxLocals = ls.size) (hown : s.vm.findClass own = some m.cls) (hlink : (Cond.methodLink own index arraycopyName).before args s = true) (hnat : (Cond.native arraycopyName).before args s = true) (hstat : (Cond.static arraycopyName).before args s = true) (hini : (Cond.initialized "java/lang/System").before args s = true)
    (hK : kq_K E A s) (hw : km_w E A s.heap Wr Z cnt v H locs) {t1 i1 t2 i2 n0 n1 : Nat} (ht1 : t1 < 50) (hi1 : i1 < cnt t1) (ht2 : t2 < 50) (hi2 : i2 < cnt t2) (he1 : ∀ f, shp E Z t1 i1 f = .inl (E.2 0, n0, .inl f)) (he2 : ∀ f, shp E Z t2 i2 f = .inl (E.2 0, n1, .inl f))
    {sp dp n : Int32} (h1 : ¬ sp < 0) (h2 : ¬ dp < 0) (h3 : ¬ n < 0) (h4 : sp.toNatClampNeg + n.toNatClampNeg ≤ n0) (h5 : dp.toNatClampNeg + n.toNatClampNeg ≤ n1) (hframes : 1 ≤ R.frames) (hlocals : (rest.map fun v => v.category).sum + (nativeFrameWords "java/lang/System" "arraycopy" 5 + 11) ≤ R.locals) (hdg : decode cc pc = .ok (.invokestatic index, 3))
    (kk : ∀ (H1 : Heap) (locs1 : List Loc), km_w E A s.heap Wr Z cnt (cpy3 v t1 i1 sp.toNatClampNeg t2 i2 dp.toNatClampNeg n.toNatClampNeg) H1 locs1 → W p l e R s m args below meth c H1 locs1 cells slots Q (F0 m (pc + 3) ls rest)) :
    W p l e R s m args below meth c H locs cells slots Q (F0 m pc ls (.int n :: .int dp :: .ref (Z.1 t2 i2) :: .int sp :: .ref (Z.1 t1 i1) :: rest)) := by
  obtain ⟨g1, g2, σ, hq, g3⟩ := hw
  obtain ⟨q0, k0⟩ := va_pl_get (X := Wr) (f := σ) (kL_in ht1 hi1)
  obtain ⟨q1, k1⟩ := va_pl_get (X := Wr) (f := σ) (kL_in ht2 hi2)
  have k1' := k1
  rw [g3 t1 i1 ht1 hi1, he1] at k0
  rw [g3 t2 i2 ht2 hi2, he2] at k1'
  refine va_copyi (ty := .int) hexec hb hml hown hlink hnat hstat hini hK.1 hq.1 hq.2.1 hq.2.2.1 q0 q1 0 0 k0 k1' rfl rfl rfl h1 h2 h3 h4 h5 (fun _ _ => rfl) hframes hlocals hdg (fun H1 locs1 x1 x2 x3 => kk H1 locs1 ⟨g1, g2, _, kq_setw hq (kL_in ht2 hi2) k1 x1 x2 x3, ?_⟩)
  exact kh_row g2 g3 ht2 hi2 (he2 _)
theorem km_zast (hexec : p.tables.exec = Jvm.exec) (hb : c.code = cc) (hK : kq_K E A s) (hw : km_w E A s.heap Wr Z cnt v H locs) (ht : t < 50) (hi : i < cnt t) {n : Nat} (he : ∀ f, shp E Z t i f = .inl (E.2 1, n, .inl f)) {k x : Int32} (hin : vp_in k n) (hn : vp_nar .boolean x = x) (hdg : decode cc pc = .ok (.bastore, 1))
    (kk : ∀ (H1 : Heap) (locs1 : List Loc), km_w E A s.heap Wr Z cnt (up3 v t i k.toNatClampNeg x) H1 locs1 → W p l e R s m args below meth c H1 locs1 cells slots Q (F0 m (pc + 1) ls rest)) : W p l e R s m args below meth c H locs cells slots Q (F0 m pc ls (.int x :: .int k :: .ref (Z.1 t i) :: rest)) := by
  obtain ⟨g1, g2, σ, hq, g3⟩ := hw
  obtain ⟨q0, k0⟩ := va_pl_get (X := Wr) (f := σ) (kL_in ht hi)
  have k0' := k0
  rw [g3 t i ht hi, he] at k0'
  refine va_zast hexec hb hK.1 hq.1 hq.2.1 hq.2.2.1 q0 1 k0' rfl hin hdg (fun H1 locs1 x1 x2 x3 => kk H1 locs1 ⟨g1, g2, _, kq_setw hq (kL_in ht hi) k0 x1 x2 x3, ?_⟩)
  refine kh_up g2 g3 ht hi ?_
  rw [he, hn]
/-- invokestatic of a JDK method -/
theorem km_cSJ (S : CallFix p m c cc nL s args Ts own) (hM : km_I l E Z cnt y ws rm As v post) (hG : GoodIn Ts (va_wsS own index y ws)) (hw : ws = Cond.code y bytes maxL ret :: ws') (hd : y.cls ≠ "java/lang/invoke/MethodHandle" ∧ y.cls ≠ "java/lang/invoke/VarHandle" ∧ (parseMethodDescriptor y.desc).map (fun d => d.parameters.length) = some n) (hR : rm.frames + 1 ≤ R.frames ∧ 8 + (maxL + 11) + rm.locals ≤ R.locals)
    (hK : kq_K E A s) (hwd : km_w E A s.heap Wr Z cnt v H locs) (hn : As.length = n) (hsize : ls.size = nL) (hst : st = As.reverse ++ rest) (hcat : (rest.map fun v => v.category).sum ≤ 8) (hdg : decode cc pc = .ok (.invokestatic index, 3)) (hmc : rm.cells = 0) (hms : rm.slots = 0)
    (kk : ∀ (r : Int32) (v1 : Mm) (H1 : Heap) (locs1 : List Loc), post r v1 → km_w E A s.heap Wr Z cnt v1 H1 locs1 → W p l e R s m args below meth c H1 locs1 0 0 Q (F0 m (pc + 3) ls (.int r :: rest))) :
    W p l e R s m args below meth c H locs 0 0 Q (F0 m pc ls st) := by
  obtain ⟨h1, h2, σ, hq, h3⟩ := hwd
  have hFc := kq_freeA hq.2.1 hq.2.2.1 hq.2.2.2
  refine va_calli (va_runS (As := As) (rest := rest) S (hM h1 h2 σ h3 H.size) (va_cwS n S.2.2.2.2 hG hw rfl rfl hd hR) (kq_preS hK hq) rfl hn hsize hst (lv_room hcat) hdg (by rw [hmc, hms]; exact ⟨Nat.zero_le _, Nat.zero_le _⟩)) hq.2.2.1 (fun x _ h => hFc x h) hFc (fun r u t H1 locs1 ht hvm hp hB hz1 hk1 hS => ?_)
  obtain ⟨e1, v1, h4, h5⟩ := hp
  have := kq_back hq ht hB hk1 hS
  rw [hmc, hms]
  exact kk r v1 H1 locs1 h5 ⟨h1, h2, u.2, by rw [e1]; exact this, h4⟩
/-- invokestatic, in the own class, of a method that answers nothing -/
theorem km_cSV {postv : Mm → Prop} (S : CallFix p m c cc nL s args Ts own) (hM : km_V l E Z cnt y ws rm As v postv) (hG : GoodIn Ts (wsS own index y ws)) (hw : ws = Cond.code y bytes maxL ret :: ws') (hd : y.cls = own ∧ y.cls ≠ "java/lang/invoke/MethodHandle" ∧ y.cls ≠ "java/lang/invoke/VarHandle" ∧ (parseMethodDescriptor y.desc).map (fun d => d.parameters.length) = some n) (hR : rm.frames + 1 ≤ R.frames ∧ 8 + (maxL + 11) + rm.locals ≤ R.locals)
    (hK : kq_K E A s) (hwd : km_w E A s.heap Wr Z cnt v H locs) (hn : As.length = n) (hsize : ls.size = nL) (hst : st = As.reverse ++ rest) (hcat : (rest.map fun v => v.category).sum ≤ 8) (hdg : decode cc pc = .ok (.invokestatic index, 3)) (hmc : rm.cells = 0) (hms : rm.slots = 0)
    (kk : ∀ (v1 : Mm) (H1 : Heap) (locs1 : List Loc), postv v1 → km_w E A s.heap Wr Z cnt v1 H1 locs1 → W p l e R s m args below meth c H1 locs1 0 0 Q (F0 m (pc + 3) ls rest)) :
    W p l e R s m args below meth c H locs 0 0 Q (F0 m pc ls st) := by
  obtain ⟨h1, h2, σ, hq, h3⟩ := hwd
  have hFc := kq_freeA hq.2.1 hq.2.2.1 hq.2.2.2
  refine va_callv (va_runS (As := As) (rest := rest) S (hM h1 h2 σ h3 H.size) (cwS n S.2.2.2.2 hG hw rfl rfl hd hR) (kq_preS hK hq) rfl hn hsize hst (lv_room hcat) hdg (by rw [hmc, hms]; exact ⟨Nat.zero_le _, Nat.zero_le _⟩)) hq.2.2.1 (fun x _ h => hFc x h) hFc (fun u t H1 locs1 ht hvm hp hB hz1 hk1 hS => ?_)
  obtain ⟨e1, v1, h4, h5⟩ := hp
  have := kq_back hq ht hB hk1 hS
  rw [hmc, hms]
  exact kk v1 H1 locs1 h5 ⟨h1, h2, u.2, by rw [e1]; exact this, h4⟩
end KM5
