section KQ2
variable {p : Program} {l : Launch} {e : Env} {R : Room} {s : State} {m : MethodId} {args : Array Value} {below : List Frame} {meth : Method} {c : Code} {H : Heap} {locs : List Loc} {cells slots : Nat} {Q : State → Prop} {cc : ByteArray} {pc : Nat} {ls : Array Slot} {rest : List Value} {E : kq_T} {A : Nat → Prop} {H0 : Heap} {Wr : va_W} {L : List Nat} {σ : Nat → va_E} {a : Nat}
  {nL n index maxL mc ms : Nat} {Ts ws ws' : List Cond} {own : String} {y : MethodName} {rm : Room} {b ci : Nat} {As st : List Value} {bytes : ByteArray} {ret : Option FieldType} {fs : List Value} {q : vw_C} {post : Int32 → List Nat → (Nat → va_E) → Prop} {postv : List Nat → (Nat → va_E) → Prop}
/-- invokevirtual of a method that answers an int -/
theorem kq_callI (S : CallFix p m c cc nL s args Ts own) (hM : kq_I l E y ws rm (.ref b :: As) L σ post) (hG : GoodIn Ts (wsV own index q.1 y ws)) (hw : ws = Cond.code y bytes maxL ret :: ws') (hd : y.cls = q.1 ∧ y.cls ≠ "java/lang/invoke/MethodHandle" ∧ y.cls ≠ "java/lang/invoke/VarHandle" ∧ (parseMethodDescriptor y.desc).map (fun d => d.parameters.length) = some n) (hR : rm.frames + 1 ≤ R.frames ∧ 8 + (maxL + 11) + rm.locals ≤ R.locals)
    (hK : kq_K E A s) (hwd : kq_w E A s.heap Wr L σ H locs) (hb : b ∈ L) (he : σ b = .inr (ci, fs)) (hc : vwCl[ci]? = some q) (hn : As.length = n) (hsize : ls.size = nL) (hst : st = As.reverse ++ .ref b :: rest) (hcat : (rest.map fun v => v.category).sum ≤ 8) (hdg : decode cc pc = .ok (.invokevirtual index, 3)) (hmc : rm.cells = mc) (hms : rm.slots = ms) (hf : cells + mc ≤ R.cells ∧ slots + ms ≤ R.slots)
    (kk : ∀ (r : Int32) (L1 : List Nat) (σ1 : Nat → va_E) (H1 : Heap) (locs1 : List Loc), post r L1 σ1 → kq_w E A s.heap Wr L1 σ1 H1 locs1 → W p l e R s m args below meth c H1 locs1 (cells + mc) (slots + ms) Q (F0 m (pc + 3) ls (.int r :: rest))) :
    W p l e R s m args below meth c H locs cells slots Q (F0 m pc ls st)   := by
  subst hmc
  subst hms
  have hFc := kq_freeA hwd.2.1 hwd.2.2.1 hwd.2.2.2
  refine va_calli (va_runV (As := As) (rest := rest) S (hM H.size) (cwV n S.2.2.2.2 hG hw rfl rfl hd hR) (kq_preV hK hwd hb he hc) rfl hn hsize hst (lv_room hcat) hdg hf) hwd.2.2.1 (fun x _ h => hFc x h) hFc (fun r u t H1 locs1 ht hvm hp hB hz1 hk1 hS => ?_)
  exact kk r u.1 u.2 H1 locs1 hp (kq_back hwd ht hB hk1 hS)
theorem kq_callV (S : CallFix p m c cc nL s args Ts own) (hM : kq_V l E y ws rm (.ref b :: As) L σ postv) (hG : GoodIn Ts (wsV own index q.1 y ws)) (hw : ws = Cond.code y bytes maxL ret :: ws') (hd : y.cls = q.1 ∧ y.cls ≠ "java/lang/invoke/MethodHandle" ∧ y.cls ≠ "java/lang/invoke/VarHandle" ∧ (parseMethodDescriptor y.desc).map (fun d => d.parameters.length) = some n) (hR : rm.frames + 1 ≤ R.frames ∧ 8 + (maxL + 11) + rm.locals ≤ R.locals)
    (hK : kq_K E A s) (hwd : kq_w E A s.heap Wr L σ H locs) (hb : b ∈ L) (he : σ b = .inr (ci, fs)) (hc : vwCl[ci]? = some q) (hn : As.length = n) (hsize : ls.size = nL) (hst : st = As.reverse ++ .ref b :: rest) (hcat : (rest.map fun v => v.category).sum ≤ 8) (hdg : decode cc pc = .ok (.invokevirtual index, 3)) (hmc : rm.cells = mc) (hms : rm.slots = ms) (hf : cells + mc ≤ R.cells ∧ slots + ms ≤ R.slots)
    (kk : ∀ (L1 : List Nat) (σ1 : Nat → va_E) (H1 : Heap) (locs1 : List Loc), postv L1 σ1 → kq_w E A s.heap Wr L1 σ1 H1 locs1 → W p l e R s m args below meth c H1 locs1 (cells + mc) (slots + ms) Q (F0 m (pc + 3) ls rest)) :
    W p l e R s m args below meth c H locs cells slots Q (F0 m pc ls st)   := by
  subst hmc
  subst hms
  have hFc := kq_freeA hwd.2.1 hwd.2.2.1 hwd.2.2.2
  refine va_callv (va_runV (As := As) (rest := rest) S (hM H.size) (cwV n S.2.2.2.2 hG hw rfl rfl hd hR) (kq_preV hK hwd hb he hc) rfl hn hsize hst (lv_room hcat) hdg hf) hwd.2.2.1 (fun x _ h => hFc x h) hFc (fun u t H1 locs1 ht hvm hp hB hz1 hk1 hS => ?_)
  exact kk u.1 u.2 H1 locs1 hp (kq_back hwd ht hB hk1 hS)
/-- invokestatic, in the own class -/
theorem kq_callS (S : CallFix p m c cc nL s args Ts own) (hM : kq_I l E y ws rm As L σ post) (hG : GoodIn Ts (wsS own index y ws)) (hw : ws = Cond.code y bytes maxL ret :: ws') (hd : y.cls = own ∧ y.cls ≠ "java/lang/invoke/MethodHandle" ∧ y.cls ≠ "java/lang/invoke/VarHandle" ∧ (parseMethodDescriptor y.desc).map (fun d => d.parameters.length) = some n) (hR : rm.frames + 1 ≤ R.frames ∧ 8 + (maxL + 11) + rm.locals ≤ R.locals)
    (hK : kq_K E A s) (hwd : kq_w E A s.heap Wr L σ H locs) (hn : As.length = n) (hsize : ls.size = nL) (hst : st = As.reverse ++ rest) (hcat : (rest.map fun v => v.category).sum ≤ 8) (hdg : decode cc pc = .ok (.invokestatic index, 3)) (hmc : rm.cells = mc) (hms : rm.slots = ms) (hf : cells + mc ≤ R.cells ∧ slots + ms ≤ R.slots)
    (kk : ∀ (r : Int32) (L1 : List Nat) (σ1 : Nat → va_E) (H1 : Heap) (locs1 : List Loc), post r L1 σ1 → kq_w E A s.heap Wr L1 σ1 H1 locs1 → W p l e R s m args below meth c H1 locs1 (cells + mc) (slots + ms) Q (F0 m (pc + 3) ls (.int r :: rest))) :
    W p l e R s m args below meth c H locs cells slots Q (F0 m pc ls st)   := by
  subst hmc
  subst hms
  have hFc := kq_freeA hwd.2.1 hwd.2.2.1 hwd.2.2.2
  refine va_calli (va_runS (As := As) (rest := rest) S (hM H.size) (cwS n S.2.2.2.2 hG hw rfl rfl hd hR) (kq_preS hK hwd) rfl hn hsize hst (lv_room hcat) hdg hf) hwd.2.2.1 (fun x _ h => hFc x h) hFc (fun r u t H1 locs1 ht hvm hp hB hz1 hk1 hS => ?_)
  exact kk r u.1 u.2 H1 locs1 hp (kq_back hwd ht hB hk1 hS)
/-- a constructor by a plain link -/
theorem kq_ctor (S : CallFix p m c cc nL s args Ts own) (hM : kq_V l E y ws rm (.ref b :: As) L σ postv) (hG : GoodIn Ts ws) (hw : ws = Cond.code y bytes maxL none :: ws') (hini : (Cond.initialized y.cls).before args s = true) (hl : (Cond.methodLink own index y).before args s = true) (hin : (Cond.instanceMethod y).before args s = true) (hy1 : y.name = "<init>") (hd : y.cls ≠ "java/lang/invoke/MethodHandle" ∧ y.cls ≠ "java/lang/invoke/VarHandle" ∧ (parseMethodDescriptor y.desc).map (fun d => d.parameters.length) = some n) (hR : rm.frames + 1 ≤ R.frames ∧ 8 + (maxL + 11) + rm.locals ≤ R.locals)
    (hK : kq_K E A s) (hwd : kq_w E A s.heap Wr L σ H locs) (hn : As.length = n) (hsize : ls.size = nL) (hst : st = As.reverse ++ .ref b :: rest) (hcat : (rest.map fun v => v.category).sum ≤ 8) (hdg : decode cc pc = .ok (.invokespecial index, 3)) (hmc : rm.cells = mc) (hms : rm.slots = ms) (hf : cells + mc ≤ R.cells ∧ slots + ms ≤ R.slots)
    (kk : ∀ (L1 : List Nat) (σ1 : Nat → va_E) (H1 : Heap) (locs1 : List Loc), postv L1 σ1 → kq_w E A s.heap Wr L1 σ1 H1 locs1 → W p l e R s m args below meth c H1 locs1 (cells + mc) (slots + ms) Q (F0 m (pc + 3) ls rest)) :
    W p l e R s m args below meth c H locs cells slots Q (F0 m pc ls st)   := by
  subst hmc
  subst hms
  have hFc := kq_freeA hwd.2.1 hwd.2.2.1 hwd.2.2.2
  refine va_callv (va_runI (As := As) (rest := rest) S (hM H.size) (cwI n S.2.2.2.2 hG hw rfl rfl hini hl hin hy1 hd hR) (kq_preS hK hwd) rfl hn hsize hst (lv_room hcat) hdg hf) hwd.2.2.1 (fun x _ h => hFc x h) hFc (fun u t H1 locs1 ht hvm hp hB hz1 hk1 hS => ?_)
  exact kk u.1 u.2 H1 locs1 hp (kq_back hwd ht hB hk1 hS)
/-- a nest mate's private constructor -/
theorem kq_ctorN (S : CallFix p m c cc nL s args Ts own) (hM : kq_V l E y ws rm (.ref b :: As) L σ postv) (hG : GoodIn Ts ws) (hw : ws = Cond.code y bytes maxL none :: ws') (hini : (Cond.initialized y.cls).before args s = true) (hl : (own, index, y) ∈ kq_nl) (hin : (Cond.instanceMethod y).before args s = true) (hy1 : y.name = "<init>") (hd : y.cls ≠ "java/lang/invoke/MethodHandle" ∧ y.cls ≠ "java/lang/invoke/VarHandle" ∧ (parseMethodDescriptor y.desc).map (fun d => d.parameters.length) = some n) (hR : rm.frames + 1 ≤ R.frames ∧ 8 + (maxL + 11) + rm.locals ≤ R.locals)
    (hK : kq_K E A s) (hwd : kq_w E A s.heap Wr L σ H locs) (hn : As.length = n) (hsize : ls.size = nL) (hst : st = As.reverse ++ .ref b :: rest) (hcat : (rest.map fun v => v.category).sum ≤ 8) (hdg : decode cc pc = .ok (.invokespecial index, 3)) (hmc : rm.cells = mc) (hms : rm.slots = ms) (hf : cells + mc ≤ R.cells ∧ slots + ms ≤ R.slots)
    (kk : ∀ (L1 : List Nat) (σ1 : Nat → va_E) (H1 : Heap) (locs1 : List Loc), postv L1 σ1 → kq_w E A s.heap Wr L1 σ1 H1 locs1 → W p l e R s m args below meth c H1 locs1 (cells + mc) (slots + ms) Q (F0 m (pc + 3) ls rest)) :
    W p l e R s m args below meth c H locs cells slots Q (F0 m pc ls st)   := by
  subst hmc
  subst hms
  have hFc := kq_freeA hwd.2.1 hwd.2.2.1 hwd.2.2.2
  refine va_callv (va_runIN (As := As) (rest := rest) S (hM H.size) ⟨va_cnB n S.2.2.2.2 hG hw rfl rfl (hK.2.1 _ hl) hini hd hR, hy1, hin⟩ (kq_preS hK hwd) rfl hn hsize hst (lv_room hcat) hdg hf) hwd.2.2.1 (fun x _ h => hFc x h) hFc (fun u t H1 locs1 ht hvm hp hB hz1 hk1 hS => ?_)
  exact kk u.1 u.2 H1 locs1 hp (kq_back hwd ht hB hk1 hS)
/-- a nest mate's private static method -/
theorem kq_callSN (S : CallFix p m c cc nL s args Ts own) (hM : kq_I l E y ws rm As L σ post) (hG : GoodIn Ts ws) (hw : ws = Cond.code y bytes maxL ret :: ws') (hini : (Cond.initialized y.cls).before args s = true) (hl : (own, index, y) ∈ kq_nl) (hsta : (Cond.static y).before args s = true) (hd : y.cls ≠ "java/lang/invoke/MethodHandle" ∧ y.cls ≠ "java/lang/invoke/VarHandle" ∧ (parseMethodDescriptor y.desc).map (fun d => d.parameters.length) = some n) (hR : rm.frames + 1 ≤ R.frames ∧ 8 + (maxL + 11) + rm.locals ≤ R.locals)
    (hK : kq_K E A s) (hwd : kq_w E A s.heap Wr L σ H locs) (hn : As.length = n) (hsize : ls.size = nL) (hst : st = As.reverse ++ rest) (hcat : (rest.map fun v => v.category).sum ≤ 8) (hdg : decode cc pc = .ok (.invokestatic index, 3)) (hmc : rm.cells = mc) (hms : rm.slots = ms) (hf : cells + mc ≤ R.cells ∧ slots + ms ≤ R.slots)
    (kk : ∀ (r : Int32) (L1 : List Nat) (σ1 : Nat → va_E) (H1 : Heap) (locs1 : List Loc), post r L1 σ1 → kq_w E A s.heap Wr L1 σ1 H1 locs1 → W p l e R s m args below meth c H1 locs1 (cells + mc) (slots + ms) Q (F0 m (pc + 3) ls (.int r :: rest))) :
    W p l e R s m args below meth c H locs cells slots Q (F0 m pc ls st)   := by
  subst hmc
  subst hms
  have hFc := kq_freeA hwd.2.1 hwd.2.2.1 hwd.2.2.2
  refine va_calli (va_runSN (As := As) (rest := rest) S (hM H.size) ⟨va_cnB n S.2.2.2.2 hG hw rfl rfl (hK.2.1 _ hl) hini hd hR, hsta, trivial⟩ (kq_preS hK hwd) rfl hn hsize hst (lv_room hcat) hdg hf) hwd.2.2.1 (fun x _ h => hFc x h) hFc (fun r u t H1 locs1 ht hvm hp hB hz1 hk1 hS => ?_)
  exact kk r u.1 u.2 H1 locs1 hp (kq_back hwd ht hB hk1 hS)
/-- Object.<init> -/
theorem kq_obj (hexec : p.tables.exec = Jvm.exec) (hb : c.code = cc) (hml : c.maxLocals = nL) (hown : s.vm.findClass own = some m.cls) (hts : ∀ w ∈ Ts, w.before args s = true) (h1 : Cond.methodLink own index Lib.objectInit ∈ Ts) (h2 : Cond.instanceMethod Lib.objectInit ∈ Ts) (h3 : Cond.code Lib.objectInit ⟨#[0xb1]⟩ 1 none ∈ Ts) (hsize : ls.size = nL) (hdg : decode cc pc = .ok (.invokespecial index, 3)) (hfr : 1 ≤ R.frames) (hlo : 20 ≤ R.locals) (hcat : (rest.map fun v => v.category).sum ≤ 8)
    (kk : W p l e R s m args below meth c H locs cells slots Q (F0 m (pc + 3) ls rest)) : W p l e R s m args below meth c H locs cells slots Q (F0 m pc ls (.ref a :: rest)) :=
  W.objInit hexec hb hown (hts _ h1) (hts _ h2) (hts _ h3) rfl (by rw [hml]; exact hsize) rfl hdg hfr (by have := lv_room (m := m) (pc := pc) (ls := ls) (rest := (.ref a :: rest)) hcat; omega) kk
/-- a loop that counts i from 0 to N; dc cells and ds slots are made each time -/
theorem kq_for (N : Nat) (Inv : Nat → List Nat → (Nat → va_E) → Prop) (lv : Nat → List (Nat × Value)) (dc ds : Nat) {hd : Nat} (h0 : Inv 0 L σ) (hw : kq_w E A H0 Wr L σ H locs) (hl : lv_has ls nL (lv 0))
    (step : ∀ (i : Nat) (L : List Nat) (σ : Nat → va_E) (H : Heap) (locs : List Loc) (ls : Array Slot), i < N → Inv i L σ → kq_w E A H0 Wr L σ H locs → lv_has ls nL (lv i) → (∀ (L1 : List Nat) (σ1 : Nat → va_E) (H1 : Heap) (locs1 : List Loc) (ls1 : Array Slot), Inv (i + 1) L1 σ1 → kq_w E A H0 Wr L1 σ1 H1 locs1 → lv_has ls1 nL (lv (i + 1)) → W p l e R s m args below meth c H1 locs1 (cells + (i + 1) * dc) (slots + (i + 1) * ds) Q (F0 m hd ls1 [])) → W p l e R s m args below meth c H locs (cells + i * dc) (slots + i * ds) Q (F0 m hd ls []))
    (done : ∀ (L : List Nat) (σ : Nat → va_E) (H : Heap) (locs : List Loc) (ls : Array Slot), Inv N L σ → kq_w E A H0 Wr L σ H locs → lv_has ls nL (lv N) → W p l e R s m args below meth c H locs (cells + N * dc) (slots + N * ds) Q (F0 m hd ls [])) :
    W p l e R s m args below meth c H locs cells slots Q (F0 m hd ls []) := by
  have key : ∀ (n i : Nat), i + n = N → ∀ (L : List Nat) (σ : Nat → va_E) (H : Heap) (locs : List Loc) (ls : Array Slot), Inv i L σ → kq_w E A H0 Wr L σ H locs → lv_has ls nL (lv i) → W p l e R s m args below meth c H locs (cells + i * dc) (slots + i * ds) Q (F0 m hd ls []) := by
    intro n
    induction n with
    | zero =>
      intro i hi L σ H locs ls hI hw hl
      have e : i = N := by omega
      subst e
      exact done L σ H locs ls hI hw hl
    | succ n ih =>
      intro i hi L σ H locs ls hI hw hl
      exact step i L σ H locs ls (by omega) hI hw hl (fun L1 σ1 H1 locs1 ls1 a1 a2 a3 => ih (i + 1) (by omega) L1 σ1 H1 locs1 ls1 a1 a2 a3)
  have := key N 0 (by omega) L σ H locs ls h0 hw hl
  rw [Nat.zero_mul, Nat.zero_mul, Nat.add_zero, Nat.add_zero] at this
  exact this
end KQ2
/-! cells that differ lie apart -/
theorem kq_ne {σ : Nat → va_E} {a b : Nat} {x z : va_E} (ha : σ a = x) (hb : σ b = z) (h : x ≠ z) : a ≠ b := fun q => h (by rw [← ha, ← hb, q])
theorem kq_noo {i j : Nat} {u v : List Value} (h : i ≠ j) : (.inr (i, u) : va_E) ≠ .inr (j, v) := fun q => h (congrArg Prod.fst (Sum.inr.inj q))
theorem kq_noa {o : Nat × List Value} {x : ClassId × vp_A} : (.inr o : va_E) ≠ .inl x := fun q => by cases q
theorem kq_nao {o : Nat × List Value} {x : ClassId × vp_A} : (.inl x : va_E) ≠ .inr o := fun q => by cases q
theorem kq_nlen {c d : ClassId} {n k : Nat} {f g} (h : n ≠ k) : (.inl (c, n, f) : va_E) ≠ .inl (d, k, g) := fun q => h (congrArg (fun z => z.2.1) (Sum.inl.inj q))
/-- what a cell is behind a writing elsewhere -/
theorem kq_far {σ : Nat → va_E} {a b : Nat} {x z : va_E} (h : b ≠ a) (hb : σ b = z) : va_up σ a x b = z := (va_up_ne σ x h).trans hb
theorem kq_new_far {σ : Nat → va_E} {L : List Nat} {a q : Nat} {x z : va_E} (hq : q ∉ L) (ha : a ∈ L) (hb : σ a = z) : va_up σ q x a = z := (va_up_ne σ x (k := q) (j := a) (fun h => hq (h ▸ ha))).trans hb
theorem kq_nn {a b : Int32} (h1 : ¬ a < b) (h2 : ¬ b ≤ a) : False := h2 (Int32.not_lt.mp h1)
theorem kq_nle {a b : Int32} (h : a < b) : ¬ b ≤ a := Int32.not_le.mpr h
theorem kq_in {a : Int32} {n : Nat} (h : ¬ a < 0) (hn : n < 2 ^ 31) (h2 : ¬ nI n ≤ a) : vp_in a n := by
  obtain ⟨j, hj, rfl⟩ := nI_of h
  refine vp_in_nI ?_ hn
  rcases Nat.lt_or_ge j n with q | q
  · exact q
  · exact absurd (nI_le q hj) h2
