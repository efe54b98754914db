/-! THE CLAIM OUT OF ONE WALK OF THE LAW'S BODY. Your part is whole_start (and what it stands on); all else here is the same for every law, but numbers. -/
def R_law : String := "WrongWordLaw"
def lw_P (b : Addr) (xs : List Int32) (args : Array Value) (s : State) : Prop := args = #[.ref b] ∧ s.IntsAt b xs ∧ xs.length ≤ 6 ∧ (Jvm.Cond.and given_1 narrow_1).before args s = true
def lw_Q (_ : Array Value) (s : State) (o : Outcome) (t : State) : Prop := o = .returned (some (.int 1)) ∧ Framed s o t [] 600000 7302250
def lw_Z (below : List Frame) (a : Array Value) (s : State) : State → Prop := fun t => ∃ o, t.status = .running ∧ Ended t below o ∧ lw_Q a s o t
/-- the law's own end, with 1 on the stack, nothing written that was there before, its room as the claim has it -/
theorem lw_ret {p : Program} {l : Launch} {e : Env} {s : State} {m : MethodId} {below : List Frame} {meth : Method} {c : Code} {b : Nat} (hx : p.tables.exec = Jvm.exec) (hb : c.code = code) (hr : meth.sig.returnType = ret) (hlocks : meth.locks = false) {pc : Nat} {H : Heap} {ls : Array Slot} (hdg : decode code pc = .ok (.ireturn, 1)) : W p l e room_1 s m #[Value.ref b] below meth c H [] 600000 7302250 (lw_Z below #[Value.ref b] s) (F0 m pc ls [.int 1]) := by
  intro T hT X
  obtain ⟨fs, hret, hrun, hended, hW, hframe⟩ := X.leave (v := some (.int 1)) (hlocks := hlocks) (fun h => by rw [hr] at h; cases h)
  have hmeth' : T.vm.method? m = some meth := X.method'
  refine ⟨T.setFrames fs, ?_, .returned (some (.int 1)), hrun, hended, rfl, ⟨_, rfl⟩, hW, hframe⟩
  jvm_step X.here [X.here.top, hx, hb, hdg, hmeth', hr, ret, narrow_b1]
  (try refine ⟨rfl, ?_⟩); (try refine ⟨rfl, ?_⟩)
  first | (intro acts; rw [hret _ acts rfl rfl rfl]) | rw [hret _ _ rfl rfl rfl]
  exact Steps.refl _
/-- what holds at the law's entry: the machine, the code, the tables' words (any of lw_tbl by 'hts w (by decide +kernel)'), the script of L ints xs at the cell b, what the Statement gives of the start (any of its parts by flat_of_before) -/
def lw_At (p : Program) (s : State) (m : MethodId) (meth : Method) (c : Code) (b L : Nat) (xs : Nat → Int32) : Prop :=
  p.tables.exec = Jvm.exec ∧ c.code = code ∧ meth.sig.returnType = ret ∧ c.maxLocals = 4 ∧ s.vm.findClass R_law = some m.cls ∧ (∀ w ∈ lw_tbl, w.before #[Value.ref b] s = true) ∧ va_X b L xs s s.heap ∧ b < s.heap.size ∧ meth.locks = false ∧ (Jvm.Cond.and given_1 narrow_1).before #[Value.ref b] s = true
theorem kq_swap {E : kq_T} {A : Nat → Prop} {H0 H : Heap} {L L2 : List Nat} {σ σ2 : Nat → va_E} {locs : List Loc} (h : kq_w E A H0 (va_pl L2 σ2) L σ H locs) : kq_w E A H0 (va_pl L σ) L2 σ2 H locs :=
  ⟨va_P.swap (a := []) h.1, va_D.swap (a := []) h.2.1, h.2.2.1, h.2.2.2⟩
theorem kq_shift {E : kq_T} {A : Nat → Prop} {H0 H : Heap} {L : List Nat} {σ σ2 : Nat → va_E} {locs : List Loc} (h : kq_w E A H0 [] L σ H locs) : kq_w E A H0 (va_pl L σ) [] σ2 H locs := by
  obtain ⟨h1, h2, h3, h4⟩ := h
  refine ⟨?_, ?_, h3, h4⟩
  · show va_P E.1 vwCl (va_pl L σ ++ []) H
    rw [List.append_nil]; exact h1
  · show va_D A (va_pl L σ ++ [])
    rw [List.append_nil]; exact h2
theorem kq_arrI {s : State} {args : Array Value} {ty : FieldType} (h : (Cond.arrayClass ty).before args s = true) : ∃ c : ClassId, ArrOfT s c ty ∧ s.vm.findClass ("[" ++ ty.toString) = some c := by
  obtain ⟨c, k, comp, h1, h2, h3⟩ := Cond.arrayClass_spec h
  exact ⟨c, fun N z => ⟨(fun k h => by cases h), k, h2, comp, h3⟩, h1⟩
theorem kq_arrO {s : State} {C : String} (h : va_AO C s) : ∃ c : ClassId, ArrOfT s c (.object C) ∧ va_RA s c (.object C) := by
  obtain ⟨comp, c, k, h1, h2, h3, h4, h5⟩ := Cond.arrayOver_spec h
  exact ⟨c, fun N z => ⟨(fun k h => by cases h), k, h3, comp, h4⟩, k, comp, h3, h4, h1, h5⟩
theorem fr_X.self {E : kq_T} {L : List Nat} {σ : Nat → va_E} {x : Nat} (h : fr_X E L σ x) : x ∈ L ∧ ∃ fs, σ x = .inr (7, fs) := by
  obtain ⟨ro, tp, gt, ac, im, gu, ak, bt, dr, d1, d2, d3, d4, g1, g2, g3, nw, tk, n2, n3, n4, ah, bd, fr, fi, h1, h2, -⟩ := h
  exact ⟨h1, _, h2⟩
theorem fr_M.self {E : kq_T} {L : List Nat} {σ : Nat → va_E} {m_ : Nat} (h : fr_M E L σ m_) : m_ ∈ L ∧ ∃ fs, σ m_ = .inr (8, fs) := by
  obtain ⟨la, mn, it, sp, tp, nw, dr, tr, pa, im, kp, me, tc, fl, h1, h2, -⟩ := h
  exact ⟨h1, _, h2⟩

theorem kq_nl_in : ∀ q ∈ kq_nl, Cond.methodLinkNest q.1 q.2.1 q.2.2 "WrongWord" ∈ lw_tbl := by decide +kernel
set_option maxRecDepth 100000 in
/-- the law's classes, arrays and links at its start -/
theorem kq_K0 {s : State} {args : Array Value} (hts : ∀ w ∈ lw_tbl, w.before args s = true) : ∃ E : kq_T, kq_K E s := by
  obtain ⟨c0, iS0, hKn0⟩ := u_known (C := RX0) (T := TX0) (N := 3) (n := 3) hts inX0 (hts (.instantiable RX0 3) (by decide +kernel))
  obtain ⟨c1, iS1, hKn1⟩ := u_known (C := RX1) (T := TX1) (N := 6) (n := 6) hts inX1 (hts (.instantiable RX1 6) (by decide +kernel))
  obtain ⟨c2, iS2, hKn2⟩ := u_known (C := RX2) (T := TX2) (N := 8) (n := 8) hts inX2 (hts (.instantiable RX2 8) (by decide +kernel))
  obtain ⟨c3, iS3, hKn3⟩ := u_known (C := RX3) (T := TX3) (N := 2) (n := 2) hts inX3 (hts (.instantiable RX3 2) (by decide +kernel))
  obtain ⟨c4, iS4, hKn4⟩ := u_known (C := RX4) (T := TX4) (N := 8) (n := 8) hts inX4 (hts (.instantiable RX4 8) (by decide +kernel))
  obtain ⟨c5, iS5, hKn5⟩ := u_known (C := RX5) (T := TX5) (N := 3) (n := 3) hts inX5 (hts (.instantiable RX5 3) (by decide +kernel))
  obtain ⟨c6, iS6, hKn6⟩ := u_known (C := RX6) (T := TX6) (N := 7) (n := 7) hts inX6 (hts (.instantiable RX6 7) (by decide +kernel))
  obtain ⟨c7, iS7, hKn7⟩ := u_known (C := RX7) (T := TX7) (N := 9) (n := 9) hts inX7 (hts (.instantiable RX7 9) (by decide +kernel))
  obtain ⟨c8, iS8, hKn8⟩ := u_known (C := RX8) (T := TX8) (N := 23) (n := 23) hts inX8 (hts (.instantiable RX8 23) (by decide +kernel))
  have hG : va_AO "WrongWord$Gate" s := va_AO.of (hts (.arrayOver (.object "WrongWord$Gate")) (by decide +kernel))
  have hM : va_AO "WrongWord$Moment" s := va_AO.of (hts (.arrayOver (.object "WrongWord$Moment")) (by decide +kernel))
  have hR : va_AO "WrongWord$Row" s := va_AO.of (hts (.arrayOver (.object "WrongWord$Row")) (by decide +kernel))
  obtain ⟨aI, aI1, aI2⟩ := kq_arrI (hts (.arrayClass .int) (by decide +kernel))
  obtain ⟨aZ, aZ1, aZ2⟩ := kq_arrI (hts (.arrayClass .boolean) (by decide +kernel))
  obtain ⟨aG, aG1, aG2⟩ := kq_arrO hG
  obtain ⟨aM, aM1, aM2⟩ := kq_arrO hM
  obtain ⟨aR, aR1, aR2⟩ := kq_arrO hR
  refine ⟨((fun k => if k = 0 then c0 else if k = 1 then c1 else if k = 2 then c2 else if k = 3 then c3 else if k = 4 then c4 else if k = 5 then c5 else if k = 6 then c6 else if k = 7 then c7 else c8, fun k => if k = 0 then iS0 else if k = 1 then iS1 else if k = 2 then iS2 else if k = 3 then iS3 else if k = 4 then iS4 else if k = 5 then iS5 else if k = 6 then iS6 else if k = 7 then iS7 else iS8), fun k => if k = 0 then aI else if k = 1 then aZ else if k = 2 then aG else if k = 3 then aM else aR), ⟨?_, ?_⟩, ?_, hG, hM, hR⟩
  · intro k q hq
    match k, hq with
    | 0, hq => cases hq; exact hKn0
    | 1, hq => cases hq; exact hKn1
    | 2, hq => cases hq; exact hKn2
    | 3, hq => cases hq; exact hKn3
    | 4, hq => cases hq; exact hKn4
    | 5, hq => cases hq; exact hKn5
    | 6, hq => cases hq; exact hKn6
    | 7, hq => cases hq; exact hKn7
    | 8, hq => cases hq; exact hKn8
    | k + 9, hq => simp [vwCl] at hq
  · intro k q hq
    match k, hq with
    | 0, hq => cases hq; exact ⟨aI1, aI2⟩
    | 1, hq => cases hq; exact ⟨aZ1, aZ2⟩
    | 2, hq => cases hq; exact ⟨aG1, aG2⟩
    | 3, hq => cases hq; exact ⟨aM1, aM2⟩
    | 4, hq => cases hq; exact ⟨aR1, aR2⟩
    | k + 5, hq => simp [kq_tys] at hq
  · intro q hq
    exact va_Nw.of rfl (hts (.methodLinkNest q.1 q.2.1 q.2.2 "WrongWord") (kq_nl_in q hq))
set_option maxHeartbeats 4000000 in
set_option maxRecDepth 100000 in
theorem lk_end {p : Program} {l : Launch} {e : Env} {s : State} {m : MethodId} {below : List Frame} {meth : Method} {c : Code} {b : Nat} {xs : Nat → Int32} {H : Heap} {locs : List Loc} {ls : Array Slot} {x m_ : Nat} (C0 : lw_At p s m meth c b 6 xs) (hS : va_S (fun q : Nat => s.heap.size ≤ q) s.heap H locs) (hl : lv_has ls 4 [(3, .int 0), (2, .ref m_), (1, .ref x), (0, .ref b)]) {k1 k2 : Nat} (hc1 : k1 ≤ 600000) (hc2 : k2 ≤ 7302250) : W p l e room_1 s m #[Value.ref b] below meth c H locs k1 k2 (lw_Z below #[Value.ref b] s) (F0 m 1421 ls []) := by
  obtain ⟨hx, hb, hr, hml, hown, hts, hX, hbl, hlocks, hgv⟩ := id C0
  have hown : s.vm.findClass RL = some m.cls := hown
  have hb : c.code = cL_law := hb
  have hts := fun w h => hts w (wsL_law_in w h)
  have hbA : ¬ (fun q : Nat => s.heap.size ≤ q) b := Nat.not_le.mpr hbl
  have hw : True ∧ True ∧ va_S (fun q : Nat => s.heap.size ≤ q) s.heap H locs ∧ True := ⟨trivial, trivial, hS, trivial⟩
  refine lv_iinc (v := 6) (lv' := [(3, .int 6), (2, .ref m_), (1, .ref x), (0, .ref b)]) hx hb dL_law_1421 hl (k := 0) rfl (by decide) (by decide) rfl (fun ls hl => ?_)
  refine lv_goto (tgt := 18) hx hb dL_law_1424 (by decide) ?_
  refine lv_iload_n hx hb dL_law_18 rfl (lv_at hl 0 rfl) ?_
  refine lv_aload_n hx hb dL_law_19 rfl (lv_at hl 3 rfl) ?_
  refine va_slen hx hb hX hbl hbA hw.2.2.1 dL_law_20 ?_
  refine lv_bipush (v := 6) hx hb dL_law_21 (by decide) ?_
  refine lv_isub hx hb dL_law_23 ?_
  refine lv_topi (fun v1 ev1 => ?_)
  have ev1 : v1 = 0 := by rw [ev1]; decide
  subst ev1
  refine lv_icmp_gt (tgt := 1427) hx hb dL_law_24 (by decide) (fun c2 => ?_) (fun c2 => ?_)
  · skip
    refine lv_iconst (v := 1) hx hb dL_law_1427 (by decide) ?_
    refine va_forget (fun q hq => hS.2.2 q hq) ?_
    refine W.widen (k := 600000) (n := 7302250) hc1 hc2 ?_
    exact lw_ret hx hb hr hlocks dL_law_1428
  · skip
    exact absurd (by decide) c2
