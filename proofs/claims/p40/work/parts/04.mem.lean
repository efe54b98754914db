/-! MEMORY: the objects of a fixed shape, by kind and number; what they hold is ONE function v: kind, number, slot to int -/
abbrev Mm : Type := Nat → Nat → Nat → Int32
def up3 (v : Mm) (t i j : Nat) (x : Int32) : Mm := fun t2 i2 j2 => if t2 = t ∧ i2 = i ∧ j2 = j then x else v t2 i2 j2
theorem up3_row (v : Mm) (t i j : Nat) (x : Int32) : (up3 v t i j x) t i = upd (v t i) j x := by
  funext k
  simp [up3, upd]
theorem up3_far {v : Mm} {t i j t2 i2 : Nat} {x : Int32} (h : ¬ (t2 = t ∧ i2 = i)) : (up3 v t i j x) t2 i2 = v t2 i2 := by
  funext k
  unfold up3
  rw [if_neg (fun q => h ⟨q.1, q.2.1⟩)]
abbrev km_Z : Type := (Nat → Nat → Nat) × (Nat → Nat → Option Nat)
/-- the cell of kind t, number i, that holds the ints f -/
def shp (E : kq_T) (Z : km_Z) (t i : Nat) (f : Nat → Int32) : va_E := match t with
  | 0 => .inr (7, [.ref (Z.1 1 0), .ref (Z.1 4 0), .ref (Z.1 6 0), .ref (Z.1 15 0), .ref (Z.1 17 0), .ref (Z.1 18 0), .ref (Z.1 21 0), .int (f 7), .int (f 8)])
  | 1 => .inl (E.2 4, 8, .inr (.inr (.inr (.inr (Z.2 1)))))
  | 2 => .inr (5, [.ref (Z.1 3 i), .int (f 1), .int (f 2)])
  | 3 => .inl (E.2 0, 40, .inl f)
  | 4 => .inr (6, [.ref (Z.1 5 0), .ref (Z.1 6 1), .int (f 2), .int (f 3), .int (f 4), .int (f 5), .int (f 6)])
  | 5 => .inl (E.2 0, 100, .inl f)
  | 6 => .inr (2, [.ref (Z.1 7 i), .ref (Z.1 8 i), .ref (Z.1 9 i), .ref (Z.1 10 i), .int (f 4), .int (f 5), .int (f 6), .int (f 7)])
  | 7 => .inl (E.2 0, 18, .inl f)
  | 8 => .inl (E.2 0, 4, .inl f)
  | 9 => .inl (E.2 0, 4, .inl f)
  | 10 => .inr (4, [.ref (Z.1 11 i), .ref (Z.1 12 i), .ref (Z.1 13 i), .ref (Z.1 14 i), .int (f 4), .int (f 5), .int (f 6), .int (f 7)])
  | 11 => .inl (E.2 0, 4, .inl f)
  | 12 => .inl (E.2 0, 9, .inl f)
  | 13 => .inl (E.2 0, 9, .inl f)
  | 14 => .inl (E.2 0, 9, .inl f)
  | 15 => .inr (0, [.ref (Z.1 16 0), .int (f 1), .int (f 2)])
  | 16 => .inl (E.2 3, 24, .inr (.inr (.inr (.inr (Z.2 16)))))
  | 17 => .inl (E.2 2, 2, .inr (.inr (.inr (.inr (Z.2 17)))))
  | 18 => .inr (3, [.ref (Z.1 19 0), .ref (Z.1 20 0)])
  | 19 => .inl (E.2 0, 36, .inl f)
  | 20 => .inl (E.2 0, 64, .inl f)
  | 21 => .inr (1, [.ref (Z.1 22 0), .int (f 1), .int (f 2), .int (f 3), .int (f 4), .int (f 5)])
  | 22 => .inl (E.2 0, 16, .inl f)
  | 30 => .inr (8, [.ref (Z.1 31 0), .ref (Z.1 32 0), .ref (Z.1 33 0), .ref (Z.1 34 0), .int (f 4), .ref (Z.1 35 0), .int (f 6), .int (f 7), .int (f 8), .int (f 9), .int (f 10), .int (f 11), .int (f 12), .ref (Z.1 36 0), .ref (Z.1 37 0), .ref (Z.1 38 0), .ref (Z.1 39 0), .int (f 17), .ref (Z.1 40 0), .ref (Z.1 41 0), .ref (Z.1 42 0), .ref (Z.1 43 0), .int (f 22)])
  | 31 => .inl (E.2 0, 8, .inl f)
  | 32 => .inl (E.2 0, 8, .inl f)
  | 33 => .inl (E.2 0, 320, .inl f)
  | 34 => .inl (E.2 0, 40, .inl f)
  | 35 => .inl (E.2 0, 100, .inl f)
  | 36 => .inl (E.2 0, 65, .inl f)
  | 37 => .inl (E.2 0, 65, .inl f)
  | 38 => .inl (E.2 0, 65, .inl f)
  | 39 => .inl (E.2 0, 1560, .inl f)
  | 40 => .inl (E.2 0, 130, .inl f)
  | 41 => .inl (E.2 1, 2, .inl f)
  | 42 => .inl (E.2 0, 64, .inl f)
  | _ => .inl (E.2 0, 16, .inl f)
def cntX : Nat → Nat := fun t => match t with
  | 0 => 1 | 1 => 1 | 2 => 8 | 3 => 8 | 4 => 1 | 5 => 1 | 6 => 4 | 7 => 4 | 8 => 4 | 9 => 4 | 10 => 28 | 11 => 28 | 12 => 28 | 13 => 28 | 14 => 28 | 15 => 1 | 16 => 1 | 17 => 1 | 18 => 1 | 19 => 1 | 20 => 1 | 21 => 1 | 22 => 1 | _ => 0
def cntM : Nat → Nat := fun t => if 30 ≤ t ∧ t < 44 then 1 else 0
def kL (Z : km_Z) (cnt : Nat → Nat) : List Nat := (List.range 50).flatMap (fun t => (List.range (cnt t)).map (Z.1 t))
def kh (E : kq_T) (Z : km_Z) (cnt : Nat → Nat) (v : Mm) (σ : Nat → va_E) : Prop := ∀ t i, t < 50 → i < cnt t → σ (Z.1 t i) = shp E Z t i (v t i)
def kinj (Z : km_Z) (cnt : Nat → Nat) : Prop := ∀ t i t2 i2, t < 50 → i < cnt t → t2 < 50 → i2 < cnt t2 → Z.1 t i = Z.1 t2 i2 → t = t2 ∧ i = i2
def krf (Z : km_Z) : Prop := (∀ j, j < 8 → Z.2 1 j = some (Z.1 2 j)) ∧ (∀ j, j < 24 → Z.2 16 j = some (Z.1 10 (4 + j))) ∧ ∀ j, j < 2 → Z.2 17 j = some (Z.1 6 (2 + j))
theorem kL_in {Z : km_Z} {cnt : Nat → Nat} {t i : Nat} (ht : t < 50) (hi : i < cnt t) : Z.1 t i ∈ kL Z cnt :=
  List.mem_flatMap.mpr ⟨t, List.mem_range.mpr ht, List.mem_map.mpr ⟨i, List.mem_range.mpr hi, rfl⟩⟩
/-- the world of a walk over a memory -/
def km_w (E : kq_T) (A : Nat → Prop) (H0 : Heap) (Wr : va_W) (Z : km_Z) (cnt : Nat → Nat) (v : Mm) (H : Heap) (locs : List Loc) : Prop :=
  krf Z ∧ kinj Z cnt ∧ ∃ σ, kq_w E A H0 Wr (kL Z cnt) σ H locs ∧ kh E Z cnt v σ
def km_I (l : Launch) (E : kq_T) (Z : km_Z) (cnt : Nat → Nat) (y : MethodName) (ws : List Cond) (rm : Room) (av : List Value) (v : Mm) (post : Int32 → Mm → Prop) : Prop :=
  krf Z → kinj Z cnt → ∀ σ, kh E Z cnt v σ → kq_I l E y ws rm av (kL Z cnt) σ (fun r L1 σ1 => kL Z cnt = L1 ∧ ∃ v1, kh E Z cnt v1 σ1 ∧ post r v1)
def km_V (l : Launch) (E : kq_T) (Z : km_Z) (cnt : Nat → Nat) (y : MethodName) (ws : List Cond) (rm : Room) (av : List Value) (v : Mm) (post : Mm → Prop) : Prop :=
  krf Z → kinj Z cnt → ∀ σ, kh E Z cnt v σ → kq_V l E y ws rm av (kL Z cnt) σ (fun L1 σ1 => kL Z cnt = L1 ∧ ∃ v1, kh E Z cnt v1 σ1 ∧ post v1)
abbrev km_QI (E : kq_T) (Z : km_Z) (cnt : Nat → Nat) (A : Nat → Prop) (post : Int32 → Mm → Prop) : Array Value → State → Outcome → State → Prop := kq_QI E A (fun r L1 σ1 => kL Z cnt = L1 ∧ ∃ v1, kh E Z cnt v1 σ1 ∧ post r v1)
abbrev km_QV (E : kq_T) (Z : km_Z) (cnt : Nat → Nat) (A : Nat → Prop) (post : Mm → Prop) : Array Value → State → Outcome → State → Prop := kq_QV E A (fun L1 σ1 => kL Z cnt = L1 ∧ ∃ v1, kh E Z cnt v1 σ1 ∧ post v1)
theorem kh_up {E : kq_T} {Z : km_Z} {cnt : Nat → Nat} {v : Mm} {σ : Nat → va_E} {t i j : Nat} {x : Int32} {c : va_E} (hj : kinj Z cnt) (h : kh E Z cnt v σ) (ht : t < 50) (hi : i < cnt t) (hc : shp E Z t i (upd (v t i) j x) = c) : kh E Z cnt (up3 v t i j x) (va_up σ (Z.1 t i) c) := by
  intro t2 i2 ht2 hi2
  by_cases q : t2 = t ∧ i2 = i
  · obtain ⟨rfl, rfl⟩ := q
    rw [va_up_self, up3_row, hc]
  · rw [va_up_ne _ _ (fun e => q (hj t2 i2 t i ht2 hi2 ht hi e)), up3_far q]
    exact h t2 i2 ht2 hi2
section KM1
variable {p : Program} {l : Launch} {e : Env} {R : Room} {s : State} {m : MethodId} {args : Array Value} {below : List Frame} {meth : Method} {c : Code} {H : Heap} {locs : List Loc} {cells slots : Nat} {Q : State → Prop} {cc : ByteArray} {pc : Nat} {ls : Array Slot} {rest : List Value} {E : kq_T} {A : Nat → Prop} {H0 : Heap} {Wr : va_W} {Z : km_Z} {cnt : Nat → Nat} {v : Mm} {t i : Nat}
theorem km_enterI {y : MethodName} {ws ws' : List Cond} {rm : Room} {av : List Value} {cc : ByteArray} {maxL : Nat} {ret : Option FieldType} {post : Int32 → Mm → Prop}
    (hy : plainName y.cls = true) (hw : ws = Cond.code y cc maxL ret :: ws') (hav : (lg_sl av).length ≤ maxL) {lv : List (Nat × Value)} (hlv : lv_args 0 av = lv)
    (h : ∀ (p : Program) (e : Env) (s : State) (m : MethodId) (below : List Frame) (meth : Method) (c : Code) (A : Nat → Prop) (ls : Array Slot), kq_C p s m meth c av.toArray y.cls y.name cc maxL ret ws → kq_K E A s → km_w E A s.heap [] Z cnt v s.heap [] → lv_has ls maxL lv →
      W p l e rm s m av.toArray below meth c s.heap [] 0 0 (MQ below (km_QI E Z cnt A post) av.toArray s rm.cells rm.slots A) (F0 m 0 ls [])) : km_I l E Z cnt y ws rm av v post := fun h1 h2 σ h3 =>
  kq_enterI hy hw hav hlv (fun p e s m below meth c A ls C hK hw hl => h p e s m below meth c A ls C hK ⟨h1, h2, σ, hw, h3⟩ hl)
theorem km_enterV {y : MethodName} {ws ws' : List Cond} {rm : Room} {av : List Value} {cc : ByteArray} {maxL : Nat} {ret : Option FieldType} {post : Mm → Prop}
    (hy : plainName y.cls = true) (hw : ws = Cond.code y cc maxL ret :: ws') (hav : (lg_sl av).length ≤ maxL) {lv : List (Nat × Value)} (hlv : lv_args 0 av = lv)
    (h : ∀ (p : Program) (e : Env) (s : State) (m : MethodId) (below : List Frame) (meth : Method) (c : Code) (A : Nat → Prop) (ls : Array Slot), kq_C p s m meth c av.toArray y.cls y.name cc maxL ret ws → kq_K E A s → km_w E A s.heap [] Z cnt v s.heap [] → lv_has ls maxL lv →
      W p l e rm s m av.toArray below meth c s.heap [] 0 0 (MQ below (km_QV E Z cnt A post) av.toArray s rm.cells rm.slots A) (F0 m 0 ls [])) : km_V l E Z cnt y ws rm av v post := fun h1 h2 σ h3 =>
  kq_enterV hy hw hav hlv (fun p e s m below meth c A ls C hK hw hl => h p e s m below meth c A ls C hK ⟨h1, h2, σ, hw, h3⟩ hl)
theorem km_iret {mc ms : Nat} {post : Int32 → Mm → Prop} {x : Int32} (hexec : p.tables.exec = Jvm.exec) (hb : c.code = cc) (hr : meth.sig.returnType = some .int) (hlocks : meth.locks = false) (hw : km_w E A s.heap [] Z cnt v H locs) (hc : cells ≤ mc) (hs : slots ≤ ms) (hdg : decode cc pc = .ok (.ireturn, 1)) (hp : post x v) :
    W p l e R s m args below meth c H locs cells slots (MQ below (km_QI E Z cnt A post) args s mc ms A) (F0 m pc ls [.int x]) := by
  obtain ⟨-, -, σ, hq, h3⟩ := hw
  exact kq_iret hexec hb hr hlocks hq hc hs hdg ⟨rfl, v, h3, hp⟩
theorem km_zret {mc ms : Nat} {post : Int32 → Mm → Prop} {x : Int32} (hexec : p.tables.exec = Jvm.exec) (hb : c.code = cc) (hr : meth.sig.returnType = some .boolean) (hlocks : meth.locks = false) (hw : km_w E A s.heap [] Z cnt v H locs) (hc : cells ≤ mc) (hs : slots ≤ ms) (hn : x = 0 ∨ x = 1) (hdg : decode cc pc = .ok (.ireturn, 1)) (hp : post x v) :
    W p l e R s m args below meth c H locs cells slots (MQ below (km_QI E Z cnt A post) args s mc ms A) (F0 m pc ls [.int x]) := by
  obtain ⟨-, -, σ, hq, h3⟩ := hw
  exact kq_zret hexec hb hr hlocks hq hc hs hn hdg ⟨rfl, v, h3, hp⟩
theorem km_vret {mc ms : Nat} {post : Mm → Prop} (hexec : p.tables.exec = Jvm.exec) (hb : c.code = cc) (hr : meth.sig.returnType = none) (hlocks : meth.locks = false) (hw : km_w E A s.heap [] Z cnt v H locs) (hc : cells ≤ mc) (hs : slots ≤ ms) (hdg : decode cc pc = .ok (.return_, 1)) (hp : post v) :
    W p l e R s m args below meth c H locs cells slots (MQ below (km_QV E Z cnt A post) args s mc ms A) (F0 m pc ls []) := by
  obtain ⟨-, -, σ, hq, h3⟩ := hw
  exact kq_vret hexec hb hr hlocks hq hc hs hdg ⟨rfl, v, h3, hp⟩
theorem km_get (hexec : p.tables.exec = Jvm.exec) (hb : c.code = cc) {own C : String} {T : u_T} {N ci index : Nat} {Ts : List Cond} (hts : ∀ w ∈ Ts, w.before args s = true) (hin : ∀ w ∈ u_ws C T N, w ∈ Ts) (hown : s.vm.findClass own = some m.cls) (hK : kq_K E A s) (hw : km_w E A H0 Wr Z cnt v H locs) (ht : t < 50) (hi : i < cnt t) {fs : List Value} (he : shp E Z t i (v t i) = .inr (ci, fs)) (hc : vwCl[ci]? = some (C, T, N)) (k : Nat) (hk : k < N) (hlink : (Cond.fieldLink own index (T k).1 (T k).2.1 (T k).2.2.1).before args s = true) {x : Value} (hv : fs[k]? = some x) (hdg : decode cc pc = .ok (.getfield index, 3))
    (kk : W p l e R s m args below meth c H locs cells slots Q (F0 m (pc + 3) ls (x :: rest))) : W p l e R s m args below meth c H locs cells slots Q (F0 m pc ls (.ref (Z.1 t i) :: rest)) := by
  obtain ⟨-, -, σ, hq, h3⟩ := hw
  exact kq_get hexec hb hts hin hown hK hq (kL_in ht hi) ((h3 t i ht hi).trans he) hc k hk hlink hv hdg kk
theorem km_put (hexec : p.tables.exec = Jvm.exec) (hb : c.code = cc) {own C : String} {T : u_T} {N ci index : Nat} {Ts : List Cond} (hts : ∀ w ∈ Ts, w.before args s = true) (hin : ∀ w ∈ u_ws C T N, w ∈ Ts) (ty0 : Nat → FieldType) (hty : ∀ k, k < N → parseFieldDescriptor (T k).2.2.1 = some (ty0 k)) (hnm : ∀ a, a < N → ∀ b, b < N → a ≠ b → (T a).2.1 ≠ (T b).2.1) (hown : s.vm.findClass own = some m.cls) (hK : kq_K E A s) (hw : km_w E A s.heap Wr Z cnt v H locs) (ht : t < 50) (hi : i < cnt t) {fs : List Value} (he : shp E Z t i (v t i) = .inr (ci, fs)) (hc : vwCl[ci]? = some (C, T, N)) (k : Nat) (hk : k < N) (hlink : (Cond.fieldLink own index (T k).1 (T k).2.1 (T k).2.2.1).before args s = true) (hfin : (T k).2.2.2 = false) {x : Int32} (hd : parseFieldDescriptor (T k).2.2.1 = some .int) (hl : k < fs.length) (hf : shp E Z t i (upd (v t i) k x) = .inr (ci, fs.set k (.int x))) (hdg : decode cc pc = .ok (.putfield index, 3))
    (kk : ∀ (H1 : Heap) (locs1 : List Loc), km_w E A s.heap Wr Z cnt (up3 v t i k x) H1 locs1 → W p l e R s m args below meth c H1 locs1 cells slots Q (F0 m (pc + 3) ls rest)) : W p l e R s m args below meth c H locs cells slots Q (F0 m pc ls (.int x :: .ref (Z.1 t i) :: rest)) := by
  obtain ⟨h1, h2, σ, hq, h3⟩ := hw
  exact kq_put hexec hb hts hin ty0 hty hnm hown hK hq (kL_in ht hi) ((h3 t i ht hi).trans he) hc k hk hlink hfin hd rfl rfl hl rfl hdg (fun H1 locs1 σ1 e1 hw1 => kk H1 locs1 ⟨h1, h2, σ1, hw1, by rw [e1]; exact kh_up h2 h3 ht hi hf⟩)
theorem km_iald (hexec : p.tables.exec = Jvm.exec) (hb : c.code = cc) (hK : kq_K E A s) (hw : km_w E A H0 Wr Z cnt v H locs) (ht : t < 50) (hi : i < cnt t) {n : Nat} (he : shp E Z t i (v t i) = .inl (E.2 0, n, .inl (v t i))) {k : Int32} (hin : vp_in k n) (hdg : decode cc pc = .ok (.iaload, 1))
    (kk : W p l e R s m args below meth c H locs cells slots Q (F0 m (pc + 1) ls (.int (v t i k.toNatClampNeg) :: rest))) : W p l e R s m args below meth c H locs cells slots Q (F0 m pc ls (.int k :: .ref (Z.1 t i) :: rest)) := by
  obtain ⟨-, -, σ, hq, h3⟩ := hw
  exact kq_iald hexec hb hK hq (kL_in ht hi) ((h3 t i ht hi).trans he) hin hdg kk
theorem km_zald (hexec : p.tables.exec = Jvm.exec) (hb : c.code = cc) (hK : kq_K E A s) (hw : km_w E A H0 Wr Z cnt v H locs) (ht : t < 50) (hi : i < cnt t) {n : Nat} (he : shp E Z t i (v t i) = .inl (E.2 1, n, .inl (v t i))) {k : Int32} (hin : vp_in k n) (hdg : decode cc pc = .ok (.baload, 1))
    (kk : W p l e R s m args below meth c H locs cells slots Q (F0 m (pc + 1) ls (.int (v t i k.toNatClampNeg) :: rest))) : W p l e R s m args below meth c H locs cells slots Q (F0 m pc ls (.int k :: .ref (Z.1 t i) :: rest)) := by
  obtain ⟨-, -, σ, hq, h3⟩ := hw
  exact kq_zald hexec hb hK hq (kL_in ht hi) ((h3 t i ht hi).trans he) hin hdg kk
theorem km_iast (hexec : p.tables.exec = Jvm.exec) (hb : c.code = cc) (hK : kq_K E A s) (hw : km_w E A s.heap Wr Z cnt v H locs) (ht : t < 50) (hi : i < cnt t) {n : Nat} (he : ∀ f, shp E Z t i f = .inl (E.2 0, n, .inl f)) {k x : Int32} (hin : vp_in k n) (hdg : decode cc pc = .ok (.iastore, 1))
    (kk : ∀ (H1 : Heap) (locs1 : List Loc), km_w E A s.heap Wr Z cnt (up3 v t i k.toNatClampNeg x) H1 locs1 → W p l e R s m args below meth c H1 locs1 cells slots Q (F0 m (pc + 1) ls rest)) : W p l e R s m args below meth c H locs cells slots Q (F0 m pc ls (.int x :: .int k :: .ref (Z.1 t i) :: rest)) := by
  obtain ⟨h1, h2, σ, hq, h3⟩ := hw
  exact kq_iast hexec hb hK hq (kL_in ht hi) ((h3 t i ht hi).trans (he _)) hin hdg (fun H1 locs1 σ1 e1 hw1 => kk H1 locs1 ⟨h1, h2, σ1, hw1, by rw [e1]; exact kh_up h2 h3 ht hi (he _)⟩)
theorem km_rows (hexec : p.tables.exec = Jvm.exec) (hb : c.code = cc) (hK : kq_K E A s) (hw : km_w E A H0 Wr Z cnt v H locs) (hi : 0 < cnt 1) {k : Int32} (hin : vp_in k 8) (hdg : decode cc pc = .ok (.aaload, 1))
    (kk : W p l e R s m args below meth c H locs cells slots Q (F0 m (pc + 1) ls (.ref (Z.1 2 k.toNatClampNeg) :: rest))) : W p l e R s m args below meth c H locs cells slots Q (F0 m pc ls (.int k :: .ref (Z.1 1 0) :: rest)) := by
  obtain ⟨h1, -, σ, hq, h3⟩ := hw
  exact kq_aldq hexec hb hK hq (kL_in (by decide) hi) 4 rfl (h3 1 0 (by decide) hi) hin (h1.1 _ (Nat.not_le.mp fun q => hin (Or.inr q))) hdg kk
theorem km_ring (hexec : p.tables.exec = Jvm.exec) (hb : c.code = cc) (hK : kq_K E A s) (hw : km_w E A H0 Wr Z cnt v H locs) (hi : 0 < cnt 16) {k : Int32} (hin : vp_in k 24) (hdg : decode cc pc = .ok (.aaload, 1))
    (kk : W p l e R s m args below meth c H locs cells slots Q (F0 m (pc + 1) ls (.ref (Z.1 10 (4 + k.toNatClampNeg)) :: rest))) : W p l e R s m args below meth c H locs cells slots Q (F0 m pc ls (.int k :: .ref (Z.1 16 0) :: rest)) := by
  obtain ⟨h1, -, σ, hq, h3⟩ := hw
  exact kq_aldq hexec hb hK hq (kL_in (by decide) hi) 3 rfl (h3 16 0 (by decide) hi) hin (h1.2.1 _ (Nat.not_le.mp fun q => hin (Or.inr q))) hdg kk
theorem km_imgs (hexec : p.tables.exec = Jvm.exec) (hb : c.code = cc) (hK : kq_K E A s) (hw : km_w E A H0 Wr Z cnt v H locs) (hi : 0 < cnt 17) {k : Int32} (hin : vp_in k 2) (hdg : decode cc pc = .ok (.aaload, 1))
    (kk : W p l e R s m args below meth c H locs cells slots Q (F0 m (pc + 1) ls (.ref (Z.1 6 (2 + k.toNatClampNeg)) :: rest))) : W p l e R s m args below meth c H locs cells slots Q (F0 m pc ls (.int k :: .ref (Z.1 17 0) :: rest)) := by
  obtain ⟨h1, -, σ, hq, h3⟩ := hw
  exact kq_aldq hexec hb hK hq (kL_in (by decide) hi) 2 rfl (h3 17 0 (by decide) hi) hin (h1.2.2 _ (Nat.not_le.mp fun q => hin (Or.inr q))) hdg kk
end KM1
section KM2
variable {p : Program} {l : Launch} {e : Env} {R : Room} {s : State} {m : MethodId} {args : Array Value} {below : List Frame} {meth : Method} {c : Code} {H : Heap} {locs : List Loc} {cells slots : Nat} {Q : State → Prop} {cc : ByteArray} {pc : Nat} {ls : Array Slot} {rest : List Value} {E : kq_T} {A : Nat → Prop} {H0 : Heap} {Wr : va_W} {Z : km_Z} {cnt : Nat → Nat} {v : Mm} {t i : Nat}
  {nL n index maxL mc ms : Nat} {Ts ws ws' : List Cond} {own : String} {y : MethodName} {rm : Room} {ci : Nat} {As st : List Value} {bytes : ByteArray} {ret : Option FieldType} {fs : List Value} {q : vw_C} {post : Int32 → Mm → Prop} {postv : Mm → Prop}
theorem km_callI (S : CallFix p m c cc nL s args Ts own) (hM : km_I l E Z cnt y ws rm (.ref (Z.1 t i) :: As) v post) (hG : GoodIn Ts (wsV own index q.1 y ws)) (hw : ws = Cond.code y bytes maxL ret :: ws') (hd : y.cls = q.1 ∧ y.cls ≠ "java/lang/invoke/MethodHandle" ∧ y.cls ≠ "java/lang/invoke/VarHandle" ∧ (parseMethodDescriptor y.desc).map (fun d => d.parameters.length) = some n) (hR : rm.frames + 1 ≤ R.frames ∧ 8 + (maxL + 11) + rm.locals ≤ R.locals)
    (hK : kq_K E A s) (hwd : km_w E A s.heap Wr Z cnt v H locs) (ht : t < 50) (hi : i < cnt t) (he : shp E Z t i (v t i) = .inr (ci, fs)) (hc : vwCl[ci]? = some q) (hn : As.length = n) (hsize : ls.size = nL) (hst : st = As.reverse ++ .ref (Z.1 t i) :: rest) (hcat : (rest.map fun v => v.category).sum ≤ 8) (hdg : decode cc pc = .ok (.invokevirtual index, 3)) (hmc : rm.cells = mc) (hms : rm.slots = ms) (hf : cells + mc ≤ R.cells ∧ slots + ms ≤ R.slots)
    (kk : ∀ (r : Int32) (v1 : Mm) (H1 : Heap) (locs1 : List Loc), post r v1 → km_w E A s.heap Wr Z cnt v1 H1 locs1 → W p l e R s m args below meth c H1 locs1 (cells + mc) (slots + ms) Q (F0 m (pc + 3) ls (.int r :: rest))) :
    W p l e R s m args below meth c H locs cells slots Q (F0 m pc ls st) := by
  obtain ⟨h1, h2, σ, hq, h3⟩ := hwd
  refine kq_callI S (hM h1 h2 σ h3) hG hw hd hR hK hq (kL_in ht hi) ((h3 t i ht hi).trans he) hc hn hsize hst hcat hdg hmc hms hf (fun r L1 σ1 H1 locs1 hp hw1 => ?_)
  obtain ⟨rfl, v1, h4, h5⟩ := hp
  exact kk r v1 H1 locs1 h5 ⟨h1, h2, σ1, hw1, h4⟩
theorem km_callV (S : CallFix p m c cc nL s args Ts own) (hM : km_V l E Z cnt y ws rm (.ref (Z.1 t i) :: As) v postv) (hG : GoodIn Ts (wsV own index q.1 y ws)) (hw : ws = Cond.code y bytes maxL ret :: ws') (hd : y.cls = q.1 ∧ y.cls ≠ "java/lang/invoke/MethodHandle" ∧ y.cls ≠ "java/lang/invoke/VarHandle" ∧ (parseMethodDescriptor y.desc).map (fun d => d.parameters.length) = some n) (hR : rm.frames + 1 ≤ R.frames ∧ 8 + (maxL + 11) + rm.locals ≤ R.locals)
    (hK : kq_K E A s) (hwd : km_w E A s.heap Wr Z cnt v H locs) (ht : t < 50) (hi : i < cnt t) (he : shp E Z t i (v t i) = .inr (ci, fs)) (hc : vwCl[ci]? = some q) (hn : As.length = n) (hsize : ls.size = nL) (hst : st = As.reverse ++ .ref (Z.1 t i) :: rest) (hcat : (rest.map fun v => v.category).sum ≤ 8) (hdg : decode cc pc = .ok (.invokevirtual index, 3)) (hmc : rm.cells = mc) (hms : rm.slots = ms) (hf : cells + mc ≤ R.cells ∧ slots + ms ≤ R.slots)
    (kk : ∀ (v1 : Mm) (H1 : Heap) (locs1 : List Loc), postv v1 → km_w E A s.heap Wr Z cnt v1 H1 locs1 → W p l e R s m args below meth c H1 locs1 (cells + mc) (slots + ms) Q (F0 m (pc + 3) ls rest)) :
    W p l e R s m args below meth c H locs cells slots Q (F0 m pc ls st) := by
  obtain ⟨h1, h2, σ, hq, h3⟩ := hwd
  refine kq_callV S (hM h1 h2 σ h3) hG hw hd hR hK hq (kL_in ht hi) ((h3 t i ht hi).trans he) hc hn hsize hst hcat hdg hmc hms hf (fun L1 σ1 H1 locs1 hp hw1 => ?_)
  obtain ⟨rfl, v1, h4, h5⟩ := hp
  exact kk v1 H1 locs1 h5 ⟨h1, h2, σ1, hw1, h4⟩
theorem km_callS (S : CallFix p m c cc nL s args Ts own) (hM : km_I l E Z cnt y ws rm As v post) (hG : GoodIn Ts (wsS own index y ws)) (hw : ws = Cond.code y bytes maxL ret :: ws') (hd : y.cls = own ∧ y.cls ≠ "java/lang/invoke/MethodHandle" ∧ y.cls ≠ "java/lang/invoke/VarHandle" ∧ (parseMethodDescriptor y.desc).map (fun d => d.parameters.length) = some n) (hR : rm.frames + 1 ≤ R.frames ∧ 8 + (maxL + 11) + rm.locals ≤ R.locals)
    (hK : kq_K E A s) (hwd : km_w E A s.heap Wr Z cnt v H locs) (hn : As.length = n) (hsize : ls.size = nL) (hst : st = As.reverse ++ rest) (hcat : (rest.map fun v => v.category).sum ≤ 8) (hdg : decode cc pc = .ok (.invokestatic index, 3)) (hmc : rm.cells = mc) (hms : rm.slots = ms) (hf : cells + mc ≤ R.cells ∧ slots + ms ≤ R.slots)
    (kk : ∀ (r : Int32) (v1 : Mm) (H1 : Heap) (locs1 : List Loc), post r v1 → km_w E A s.heap Wr Z cnt v1 H1 locs1 → W p l e R s m args below meth c H1 locs1 (cells + mc) (slots + ms) Q (F0 m (pc + 3) ls (.int r :: rest))) :
    W p l e R s m args below meth c H locs cells slots Q (F0 m pc ls st) := by
  obtain ⟨h1, h2, σ, hq, h3⟩ := hwd
  refine kq_callS S (hM h1 h2 σ h3) hG hw hd hR hK hq hn hsize hst hcat hdg hmc hms hf (fun r L1 σ1 H1 locs1 hp hw1 => ?_)
  obtain ⟨rfl, v1, h4, h5⟩ := hp
  exact kk r v1 H1 locs1 h5 ⟨h1, h2, σ1, hw1, h4⟩
theorem km_callSN (S : CallFix p m c cc nL s args Ts own) (hM : km_I l E Z cnt y ws rm As v post) (hG : GoodIn Ts ws) (hw : ws = Cond.code y bytes maxL ret :: ws') (hini : (Cond.initialized y.cls).before args s = true) (hl : (own, index, y) ∈ kq_nl) (hsta : (Cond.static y).before args s = true) (hd : y.cls ≠ "java/lang/invoke/MethodHandle" ∧ y.cls ≠ "java/lang/invoke/VarHandle" ∧ (parseMethodDescriptor y.desc).map (fun d => d.parameters.length) = some n) (hR : rm.frames + 1 ≤ R.frames ∧ 8 + (maxL + 11) + rm.locals ≤ R.locals)
    (hK : kq_K E A s) (hwd : km_w E A s.heap Wr Z cnt v H locs) (hn : As.length = n) (hsize : ls.size = nL) (hst : st = As.reverse ++ rest) (hcat : (rest.map fun v => v.category).sum ≤ 8) (hdg : decode cc pc = .ok (.invokestatic index, 3)) (hmc : rm.cells = mc) (hms : rm.slots = ms) (hf : cells + mc ≤ R.cells ∧ slots + ms ≤ R.slots)
    (kk : ∀ (r : Int32) (v1 : Mm) (H1 : Heap) (locs1 : List Loc), post r v1 → km_w E A s.heap Wr Z cnt v1 H1 locs1 → W p l e R s m args below meth c H1 locs1 (cells + mc) (slots + ms) Q (F0 m (pc + 3) ls (.int r :: rest))) :
    W p l e R s m args below meth c H locs cells slots Q (F0 m pc ls st) := by
  obtain ⟨h1, h2, σ, hq, h3⟩ := hwd
  refine kq_callSN S (hM h1 h2 σ h3) hG hw hini hl hsta hd hR hK hq hn hsize hst hcat hdg hmc hms hf (fun r L1 σ1 H1 locs1 hp hw1 => ?_)
  obtain ⟨rfl, v1, h4, h5⟩ := hp
  exact kk r v1 H1 locs1 h5 ⟨h1, h2, σ1, hw1, h4⟩
end KM2
