/-! TWO MEMORIES, one world: the class's and the reference's -/
theorem kq_swap {E : kq_T} {A : Nat → Prop} {H0 H : Heap} {L L2 : List Nat} {σ σ2 : Nat → va_E} {locs : List Loc} (h : kq_w E A H0 (va_pl L2 σ2) L σ H locs) : kq_w E A H0 (va_pl L σ) L2 σ2 H locs :=
  ⟨va_P.swap (a := []) h.1, va_D.swap (a := []) h.2.1, h.2.2.1, h.2.2.2⟩
theorem kq_shift {E : kq_T} {A : Nat → Prop} {H0 H : Heap} {L : List Nat} {σ σ2 : Nat → va_E} {locs : List Loc} (h : kq_w E A H0 [] L σ H locs) : kq_w E A H0 (va_pl L σ) [] σ2 H locs := by
  obtain ⟨h1, h2, h3, h4⟩ := h
  refine ⟨?_, ?_, h3, h4⟩
  · show va_P E.1 vwCl (va_pl L σ ++ []) H
    rw [List.append_nil]; exact h1
  · show va_D A (va_pl L σ ++ [])
    rw [List.append_nil]; exact h2
def tw (E : kq_T) (A : Nat → Prop) (H0 : Heap) (Zx Zm : km_Z) (vx vm : Mm) (H : Heap) (locs : List Loc) : Prop :=
  (krf Zx ∧ kinj Zx cntX) ∧ (krf Zm ∧ kinj Zm cntM) ∧ ∃ σx σm, kq_w E A H0 (va_pl (kL Zm cntM) σm) (kL Zx cntX) σx H locs ∧ kh E Zx cntX vx σx ∧ kh E Zm cntM vm σm
theorem tw.S {E : kq_T} {A : Nat → Prop} {H0 : Heap} {Zx Zm : km_Z} {vx vm : Mm} {H : Heap} {locs : List Loc} (h : tw E A H0 Zx Zm vx vm H locs) : va_S A H0 H locs := by
  obtain ⟨-, -, σx, σm, hq, -⟩ := h
  exact hq.2.2.1
theorem tw.X {E : kq_T} {A : Nat → Prop} {H0 : Heap} {Zx Zm : km_Z} {vx vm : Mm} {H : Heap} {locs : List Loc} (h : tw E A H0 Zx Zm vx vm H locs) : ∃ Wr, km_w E A H0 Wr Zx cntX vx H locs ∧ ∀ vx1 H1 locs1, km_w E A H0 Wr Zx cntX vx1 H1 locs1 → tw E A H0 Zx Zm vx1 vm H1 locs1 := by
  obtain ⟨h1, h2, σx, σm, hq, h3, h4⟩ := h
  refine ⟨_, ⟨h1.1, h1.2, σx, hq, h3⟩, fun vx1 H1 locs1 k => ?_⟩
  obtain ⟨-, -, σ1, k1, k2⟩ := k
  exact ⟨h1, h2, σ1, σm, k1, k2, h4⟩
theorem tw.M {E : kq_T} {A : Nat → Prop} {H0 : Heap} {Zx Zm : km_Z} {vx vm : Mm} {H : Heap} {locs : List Loc} (h : tw E A H0 Zx Zm vx vm H locs) : ∃ Wr, km_w E A H0 Wr Zm cntM vm H locs ∧ ∀ vm1 H1 locs1, km_w E A H0 Wr Zm cntM vm1 H1 locs1 → tw E A H0 Zx Zm vx vm1 H1 locs1 := by
  obtain ⟨h1, h2, σx, σm, hq, h3, h4⟩ := h
  refine ⟨_, ⟨h2.1, h2.2, σm, kq_swap hq, h4⟩, fun vm1 H1 locs1 k => ?_⟩
  obtain ⟨-, -, σ1, k1, k2⟩ := k
  exact ⟨h1, h2, σx, σ1, kq_swap k1, h3, k2⟩
section TW
variable {p : Program} {l : Launch} {e : Env} {R : Room} {s : State} {m : MethodId} {args : Array Value} {below : List Frame} {meth : Method} {c : Code} {H : Heap} {locs : List Loc} {cells slots : Nat} {Q : State → Prop} {cc : ByteArray} {pc : Nat} {ls : Array Slot} {rest : List Value} {E : kq_T} {A : Nat → Prop} {Zx Zm : km_Z} {vx vm : Mm}
  {nL n index maxL : Nat} {Ts ws ws' : List Cond} {own : String} {y : MethodName} {rm : Room} {As st : List Value} {bytes : ByteArray} {ret : Option FieldType} {post : Int32 → Mm → Prop}
theorem tw_cX (S : CallFix p m c cc nL s args Ts own) (hM : km_I l E Zx cntX y ws rm (.ref (Zx.1 0 0) :: As) vx post) (hG : GoodIn Ts (wsV own index RX7 y ws)) (hw : ws = Cond.code y bytes maxL ret :: ws') (hd : y.cls = RX7 ∧ y.cls ≠ "java/lang/invoke/MethodHandle" ∧ y.cls ≠ "java/lang/invoke/VarHandle" ∧ (parseMethodDescriptor y.desc).map (fun d => d.parameters.length) = some n) (hR : rm.frames + 1 ≤ R.frames ∧ 8 + (maxL + 11) + rm.locals ≤ R.locals)
    (hK : kq_K E A s) (hwd : tw E A s.heap Zx Zm vx vm H locs) (hn : As.length = n) (hsize : ls.size = nL) (hst : st = As.reverse ++ .ref (Zx.1 0 0) :: rest) (hcat : (rest.map fun v => v.category).sum ≤ 8) (hdg : decode cc pc = .ok (.invokevirtual index, 3)) (hmc : rm.cells = 0) (hms : rm.slots = 0) (hf : cells ≤ R.cells ∧ slots ≤ R.slots)
    (kk : ∀ (r : Int32) (v1 : Mm) (H1 : Heap) (locs1 : List Loc), post r v1 → tw E A s.heap Zx Zm v1 vm H1 locs1 → W p l e R s m args below meth c H1 locs1 cells slots Q (F0 m (pc + 3) ls (.int r :: rest))) :
    W p l e R s m args below meth c H locs cells slots Q (F0 m pc ls st) := by
  obtain ⟨Wr, h1, h2⟩ := hwd.X
  exact km_callI (mc := 0) (ms := 0) (q := (RX7, TX7, 9)) (ci := 7) (t := 0) (i := 0) S hM hG hw hd hR hK h1 (by decide) (by decide) rfl rfl hn hsize hst hcat hdg hmc hms hf (fun r v1 H1 locs1 hp h => kk r v1 H1 locs1 hp (h2 v1 H1 locs1 h))
theorem tw_cM (S : CallFix p m c cc nL s args Ts own) (hM : km_I l E Zm cntM y ws rm (.ref (Zm.1 30 0) :: As) vm post) (hG : GoodIn Ts (wsV own index RX8 y ws)) (hw : ws = Cond.code y bytes maxL ret :: ws') (hd : y.cls = RX8 ∧ y.cls ≠ "java/lang/invoke/MethodHandle" ∧ y.cls ≠ "java/lang/invoke/VarHandle" ∧ (parseMethodDescriptor y.desc).map (fun d => d.parameters.length) = some n) (hR : rm.frames + 1 ≤ R.frames ∧ 8 + (maxL + 11) + rm.locals ≤ R.locals)
    (hK : kq_K E A s) (hwd : tw E A s.heap Zx Zm vx vm H locs) (hn : As.length = n) (hsize : ls.size = nL) (hst : st = As.reverse ++ .ref (Zm.1 30 0) :: rest) (hcat : (rest.map fun v => v.category).sum ≤ 8) (hdg : decode cc pc = .ok (.invokevirtual index, 3)) (hmc : rm.cells = 0) (hms : rm.slots = 0) (hf : cells ≤ R.cells ∧ slots ≤ R.slots)
    (kk : ∀ (r : Int32) (v1 : Mm) (H1 : Heap) (locs1 : List Loc), post r v1 → tw E A s.heap Zx Zm vx v1 H1 locs1 → W p l e R s m args below meth c H1 locs1 cells slots Q (F0 m (pc + 3) ls (.int r :: rest))) :
    W p l e R s m args below meth c H locs cells slots Q (F0 m pc ls st) := by
  obtain ⟨Wr, h1, h2⟩ := hwd.M
  exact km_callI (mc := 0) (ms := 0) (q := (RX8, TX8, 23)) (ci := 8) (t := 30) (i := 0) S hM hG hw hd hR hK h1 (by decide) (by decide) rfl rfl hn hsize hst hcat hdg hmc hms hf (fun r v1 H1 locs1 hp h => kk r v1 H1 locs1 hp (h2 v1 H1 locs1 h))
end TW
/-! the calls as steps of the two memories: what is asked of a relation J that every call keeps (C: the answers are compared) -/
def oX_row (v : Mm) (a1 a2 a3 : Int32) : Option (Int32 × Mm) := g_X7_row v a1 a2 a3
def oM_row (v : Mm) (a1 a2 a3 : Int32) : Option (Int32 × Mm) := g_X8_row v a1 a2 a3
def jop_row (J : Mm → Mm → Prop) (C : Prop) : Prop := ∀ (vx vm : Mm) (a1 a2 a3 : Int32), J vx vm → ∃ (r1 : Int32) (vx1 : Mm) (r2 : Int32) (vm1 : Mm), oX_row vx a1 a2 a3 = some (r1, vx1) ∧ oM_row vm a1 a2 a3 = some (r2, vm1) ∧ J vx1 vm1 ∧ (C → r1 = r2)
def oX_set (v : Mm) (a1 a2 a3 : Int32) : Option (Int32 × Mm) := g_X7_set v a1 a2 a3
def oM_set (v : Mm) (a1 a2 a3 : Int32) : Option (Int32 × Mm) := g_X8_set v a1 a2 a3
def jop_set (J : Mm → Mm → Prop) (C : Prop) : Prop := ∀ (vx vm : Mm) (a1 a2 a3 : Int32), J vx vm → ∃ (r1 : Int32) (vx1 : Mm) (r2 : Int32) (vm1 : Mm), oX_set vx a1 a2 a3 = some (r1, vx1) ∧ oM_set vm a1 a2 a3 = some (r2, vm1) ∧ J vx1 vm1 ∧ (C → r1 = r2)
def oX_copy (v : Mm) (a1 a2 a3 a4 a5 : Int32) : Option (Int32 × Mm) := g_X7_copy v a1 a2 a3 a4 a5
def oM_copy (v : Mm) (a1 a2 a3 a4 a5 : Int32) : Option (Int32 × Mm) := g_X8_copy v a1 a2 a3 a4 a5
def jop_copy (J : Mm → Mm → Prop) (C : Prop) : Prop := ∀ (vx vm : Mm) (a1 a2 a3 a4 a5 : Int32), J vx vm → ∃ (r1 : Int32) (vx1 : Mm) (r2 : Int32) (vm1 : Mm), oX_copy vx a1 a2 a3 a4 a5 = some (r1, vx1) ∧ oM_copy vm a1 a2 a3 a4 a5 = some (r2, vm1) ∧ J vx1 vm1 ∧ (C → r1 = r2)
def oX_drop (v : Mm) (a1 : Int32) : Option (Int32 × Mm) := g_X7_drop v a1
def oM_drop (v : Mm) (a1 : Int32) : Option (Int32 × Mm) := g_X8_drop v a1
def jop_drop (J : Mm → Mm → Prop) (C : Prop) : Prop := ∀ (vx vm : Mm) (a1 : Int32), J vx vm → ∃ (r1 : Int32) (vx1 : Mm) (r2 : Int32) (vm1 : Mm), oX_drop vx a1 = some (r1, vx1) ∧ oM_drop vm a1 = some (r2, vm1) ∧ J vx1 vm1 ∧ (C → r1 = r2)
def oX_feed (v : Mm) (a1 : Int32) : Option (Int32 × Mm) := g_X7_feed v a1
def oM_feed (v : Mm) (a1 : Int32) : Option (Int32 × Mm) := g_X8_feed v a1
def jop_feed (J : Mm → Mm → Prop) (C : Prop) : Prop := ∀ (vx vm : Mm) (a1 : Int32), J vx vm → ∃ (r1 : Int32) (vx1 : Mm) (r2 : Int32) (vm1 : Mm), oX_feed vx a1 = some (r1, vx1) ∧ oM_feed vm a1 = some (r2, vm1) ∧ J vx1 vm1 ∧ (C → r1 = r2)
def oX_gate (v : Mm)  : Option (Int32 × Mm) := g_X7_gate v 
def oM_gate (v : Mm)  : Option (Int32 × Mm) := g_X8_gate v 
def jop_gate (J : Mm → Mm → Prop) (C : Prop) : Prop := ∀ (vx vm : Mm) , J vx vm → ∃ (r1 : Int32) (vx1 : Mm) (r2 : Int32) (vm1 : Mm), oX_gate vx  = some (r1, vx1) ∧ oM_gate vm  = some (r2, vm1) ∧ J vx1 vm1 ∧ (C → r1 = r2)
def oX_fault (v : Mm)  : Option (Int32 × Mm) := (g_X7_fault v ).map (fun r => (r, v))
def oM_fault (v : Mm)  : Option (Int32 × Mm) := (g_X8_fault v ).map (fun r => (r, v))
def jop_fault (J : Mm → Mm → Prop) (C : Prop) : Prop := ∀ (vx vm : Mm) , J vx vm → ∃ (r1 : Int32) (vx1 : Mm) (r2 : Int32) (vm1 : Mm), oX_fault vx  = some (r1, vx1) ∧ oM_fault vm  = some (r2, vm1) ∧ J vx1 vm1 ∧ (C → r1 = r2)
def oX_nights (v : Mm) (a1 : Int32) : Option (Int32 × Mm) := g_X7_nights v a1
def oM_nights (v : Mm) (a1 : Int32) : Option (Int32 × Mm) := g_X8_nights v a1
def jop_nights (J : Mm → Mm → Prop) (C : Prop) : Prop := ∀ (vx vm : Mm) (a1 : Int32), J vx vm → ∃ (r1 : Int32) (vx1 : Mm) (r2 : Int32) (vm1 : Mm), oX_nights vx a1 = some (r1, vx1) ∧ oM_nights vm a1 = some (r2, vm1) ∧ J vx1 vm1 ∧ (C → r1 = r2)
def oX_say (v : Mm) (a1 a2 : Int32) : Option (Int32 × Mm) := g_X7_say v a1 a2
def oM_say (v : Mm) (a1 a2 : Int32) : Option (Int32 × Mm) := g_X8_say v a1 a2
def jop_say (J : Mm → Mm → Prop) (C : Prop) : Prop := ∀ (vx vm : Mm) (a1 a2 : Int32), J vx vm → ∃ (r1 : Int32) (vx1 : Mm) (r2 : Int32) (vm1 : Mm), oX_say vx a1 a2 = some (r1, vx1) ∧ oM_say vm a1 a2 = some (r2, vm1) ∧ J vx1 vm1 ∧ (C → r1 = r2)
def oX_start (v : Mm) (a1 : Int32) : Option (Int32 × Mm) := g_X7_start v a1
def oM_start (v : Mm) (a1 : Int32) : Option (Int32 × Mm) := g_X8_start v a1
def jop_start (J : Mm → Mm → Prop) (C : Prop) : Prop := ∀ (vx vm : Mm) (a1 : Int32), J vx vm → ∃ (r1 : Int32) (vx1 : Mm) (r2 : Int32) (vm1 : Mm), oX_start vx a1 = some (r1, vx1) ∧ oM_start vm a1 = some (r2, vm1) ∧ J vx1 vm1 ∧ (C → r1 = r2)
def oX_dismiss (v : Mm) (a1 a2 : Int32) : Option (Int32 × Mm) := g_X7_dismiss v a1 a2
def oM_dismiss (v : Mm) (a1 a2 : Int32) : Option (Int32 × Mm) := g_X8_dismiss v a1 a2
def jop_dismiss (J : Mm → Mm → Prop) (C : Prop) : Prop := ∀ (vx vm : Mm) (a1 a2 : Int32), J vx vm → ∃ (r1 : Int32) (vx1 : Mm) (r2 : Int32) (vm1 : Mm), oX_dismiss vx a1 a2 = some (r1, vx1) ∧ oM_dismiss vm a1 a2 = some (r2, vm1) ∧ J vx1 vm1 ∧ (C → r1 = r2)
def oX_undo (v : Mm)  : Option (Int32 × Mm) := g_X7_undo v 
def oM_undo (v : Mm)  : Option (Int32 × Mm) := g_X8_undo v 
def jop_undo (J : Mm → Mm → Prop) (C : Prop) : Prop := ∀ (vx vm : Mm) , J vx vm → ∃ (r1 : Int32) (vx1 : Mm) (r2 : Int32) (vm1 : Mm), oX_undo vx  = some (r1, vx1) ∧ oM_undo vm  = some (r2, vm1) ∧ J vx1 vm1 ∧ (C → r1 = r2)
def oX_letter (v : Mm) (a1 a2 : Int32) : Option (Int32 × Mm) := (g_X7_letter v a1 a2).map (fun r => (r, v))
def oM_letter (v : Mm) (a1 a2 : Int32) : Option (Int32 × Mm) := (g_X8_letter v a1 a2).map (fun r => (r, v))
def jop_letter (J : Mm → Mm → Prop) (C : Prop) : Prop := ∀ (vx vm : Mm) (a1 a2 : Int32), J vx vm → ∃ (r1 : Int32) (vx1 : Mm) (r2 : Int32) (vm1 : Mm), oX_letter vx a1 a2 = some (r1, vx1) ∧ oM_letter vm a1 a2 = some (r2, vm1) ∧ J vx1 vm1 ∧ (C → r1 = r2)
def oX_like (v : Mm) (a1 a2 a3 : Int32) : Option (Int32 × Mm) := (g_X7_like v a1 a2 a3).map (fun r => (r, v))
def oM_like (v : Mm) (a1 a2 a3 : Int32) : Option (Int32 × Mm) := (g_X8_like v a1 a2 a3).map (fun r => (r, v))
def jop_like (J : Mm → Mm → Prop) (C : Prop) : Prop := ∀ (vx vm : Mm) (a1 a2 a3 : Int32), J vx vm → ∃ (r1 : Int32) (vx1 : Mm) (r2 : Int32) (vm1 : Mm), oX_like vx a1 a2 a3 = some (r1, vx1) ∧ oM_like vm a1 a2 a3 = some (r2, vm1) ∧ J vx1 vm1 ∧ (C → r1 = r2)
def oX_guard (v : Mm) (a1 a2 : Int32) : Option (Int32 × Mm) := (g_X7_guard v a1 a2).map (fun r => (r, v))
def oM_guard (v : Mm) (a1 a2 : Int32) : Option (Int32 × Mm) := (g_X8_guard v a1 a2).map (fun r => (r, v))
def jop_guard (J : Mm → Mm → Prop) (C : Prop) : Prop := ∀ (vx vm : Mm) (a1 a2 : Int32), J vx vm → ∃ (r1 : Int32) (vx1 : Mm) (r2 : Int32) (vm1 : Mm), oX_guard vx a1 a2 = some (r1, vx1) ∧ oM_guard vm a1 a2 = some (r2, vm1) ∧ J vx1 vm1 ∧ (C → r1 = r2)
def oX_tried (v : Mm) (a1 a2 : Int32) : Option (Int32 × Mm) := (g_X7_tried v a1 a2).map (fun r => (r, v))
def oM_tried (v : Mm) (a1 a2 : Int32) : Option (Int32 × Mm) := (g_X8_tried v a1 a2).map (fun r => (r, v))
def jop_tried (J : Mm → Mm → Prop) (C : Prop) : Prop := ∀ (vx vm : Mm) (a1 a2 : Int32), J vx vm → ∃ (r1 : Int32) (vx1 : Mm) (r2 : Int32) (vm1 : Mm), oX_tried vx a1 a2 = some (r1, vx1) ∧ oM_tried vm a1 a2 = some (r2, vm1) ∧ J vx1 vm1 ∧ (C → r1 = r2)
def oX_secret (v : Mm) (a1 : Int32) : Option (Int32 × Mm) := (g_X7_secret v a1).map (fun r => (r, v))
def oM_secret (v : Mm) (a1 : Int32) : Option (Int32 × Mm) := (g_X8_secret v a1).map (fun r => (r, v))
def jop_secret (J : Mm → Mm → Prop) (C : Prop) : Prop := ∀ (vx vm : Mm) (a1 : Int32), J vx vm → ∃ (r1 : Int32) (vx1 : Mm) (r2 : Int32) (vm1 : Mm), oX_secret vx a1 = some (r1, vx1) ∧ oM_secret vm a1 = some (r2, vm1) ∧ J vx1 vm1 ∧ (C → r1 = r2)
def oX_taken (v : Mm) (a1 a2 a3 : Int32) : Option (Int32 × Mm) := (g_X7_taken v a1 a2 a3).map (fun r => (r, v))
def oM_taken (v : Mm) (a1 a2 a3 : Int32) : Option (Int32 × Mm) := (g_X8_taken v a1 a2 a3).map (fun r => (r, v))
def jop_taken (J : Mm → Mm → Prop) (C : Prop) : Prop := ∀ (vx vm : Mm) (a1 a2 a3 : Int32), J vx vm → ∃ (r1 : Int32) (vx1 : Mm) (r2 : Int32) (vm1 : Mm), oX_taken vx a1 a2 a3 = some (r1, vx1) ∧ oM_taken vm a1 a2 a3 = some (r2, vm1) ∧ J vx1 vm1 ∧ (C → r1 = r2)
def oX_safe (v : Mm) (a1 a2 : Int32) : Option (Int32 × Mm) := (g_X7_safe v a1 a2).map (fun r => (r, v))
def oM_safe (v : Mm) (a1 a2 : Int32) : Option (Int32 × Mm) := (g_X8_safe v a1 a2).map (fun r => (r, v))
def jop_safe (J : Mm → Mm → Prop) (C : Prop) : Prop := ∀ (vx vm : Mm) (a1 a2 : Int32), J vx vm → ∃ (r1 : Int32) (vx1 : Mm) (r2 : Int32) (vm1 : Mm), oX_safe vx a1 a2 = some (r1, vx1) ∧ oM_safe vm a1 a2 = some (r2, vm1) ∧ J vx1 vm1 ∧ (C → r1 = r2)
def oX_open (v : Mm) (a1 a2 : Int32) : Option (Int32 × Mm) := (g_X7_open v a1 a2).map (fun r => (r, v))
def oM_open (v : Mm) (a1 a2 : Int32) : Option (Int32 × Mm) := (g_X8_open v a1 a2).map (fun r => (r, v))
def jop_open (J : Mm → Mm → Prop) (C : Prop) : Prop := ∀ (vx vm : Mm) (a1 a2 : Int32), J vx vm → ∃ (r1 : Int32) (vx1 : Mm) (r2 : Int32) (vm1 : Mm), oX_open vx a1 a2 = some (r1, vx1) ∧ oM_open vm a1 a2 = some (r2, vm1) ∧ J vx1 vm1 ∧ (C → r1 = r2)
def oX_next (v : Mm) (a1 : Int32) : Option (Int32 × Mm) := (g_X7_next v a1).map (fun r => (r, v))
def oM_next (v : Mm) (a1 : Int32) : Option (Int32 × Mm) := (g_X8_next v a1).map (fun r => (r, v))
def jop_next (J : Mm → Mm → Prop) (C : Prop) : Prop := ∀ (vx vm : Mm) (a1 : Int32), J vx vm → ∃ (r1 : Int32) (vx1 : Mm) (r2 : Int32) (vm1 : Mm), oX_next vx a1 = some (r1, vx1) ∧ oM_next vm a1 = some (r2, vm1) ∧ J vx1 vm1 ∧ (C → r1 = r2)
def oX_agree (v : Mm)  : Option (Int32 × Mm) := (g_X7_agree v ).map (fun r => (r, v))
def oM_agree (v : Mm)  : Option (Int32 × Mm) := (g_X8_agree v ).map (fun r => (r, v))
def jop_agree (J : Mm → Mm → Prop) (C : Prop) : Prop := ∀ (vx vm : Mm) , J vx vm → ∃ (r1 : Int32) (vx1 : Mm) (r2 : Int32) (vm1 : Mm), oX_agree vx  = some (r1, vx1) ∧ oM_agree vm  = some (r2, vm1) ∧ J vx1 vm1 ∧ (C → r1 = r2)
def oX_man (v : Mm) (a1 : Int32) : Option (Int32 × Mm) := (g_X7_man v a1).map (fun r => (r, v))
def oM_man (v : Mm) (a1 : Int32) : Option (Int32 × Mm) := (g_X8_man v a1).map (fun r => (r, v))
def jop_man (J : Mm → Mm → Prop) (C : Prop) : Prop := ∀ (vx vm : Mm) (a1 : Int32), J vx vm → ∃ (r1 : Int32) (vx1 : Mm) (r2 : Int32) (vm1 : Mm), oX_man vx a1 = some (r1, vx1) ∧ oM_man vm a1 = some (r2, vm1) ∧ J vx1 vm1 ∧ (C → r1 = r2)
def oX_fewest (v : Mm)  : Option (Int32 × Mm) := g_X7_fewest v 
def oM_fewest (v : Mm)  : Option (Int32 × Mm) := g_X8_fewest v 
def jop_fewest (J : Mm → Mm → Prop) (C : Prop) : Prop := ∀ (vx vm : Mm) , J vx vm → ∃ (r1 : Int32) (vx1 : Mm) (r2 : Int32) (vm1 : Mm), oX_fewest vx  = some (r1, vx1) ∧ oM_fewest vm  = some (r2, vm1) ∧ J vx1 vm1 ∧ (C → r1 = r2)
def oX_march (v : Mm) (a1 a2 a3 a4 : Int32) : Option (Int32 × Mm) := g_X7_march v a1 a2 a3 a4
def oM_march (v : Mm) (a1 a2 a3 a4 : Int32) : Option (Int32 × Mm) := g_X8_march v a1 a2 a3 a4
def jop_march (J : Mm → Mm → Prop) (C : Prop) : Prop := ∀ (vx vm : Mm) (a1 a2 a3 a4 : Int32), J vx vm → ∃ (r1 : Int32) (vx1 : Mm) (r2 : Int32) (vm1 : Mm), oX_march vx a1 a2 a3 a4 = some (r1, vx1) ∧ oM_march vm a1 a2 a3 a4 = some (r2, vm1) ∧ J vx1 vm1 ∧ (C → r1 = r2)
def oX_cheap (v : Mm) (a1 a2 a3 : Int32) : Option (Int32 × Mm) := (g_X7_cheap v a1 a2 a3).map (fun r => (r, v))
def oM_cheap (v : Mm) (a1 a2 a3 : Int32) : Option (Int32 × Mm) := (g_X8_cheap v a1 a2 a3).map (fun r => (r, v))
def jop_cheap (J : Mm → Mm → Prop) (C : Prop) : Prop := ∀ (vx vm : Mm) (a1 a2 a3 : Int32), J vx vm → ∃ (r1 : Int32) (vx1 : Mm) (r2 : Int32) (vm1 : Mm), oX_cheap vx a1 a2 a3 = some (r1, vx1) ∧ oM_cheap vm a1 a2 a3 = some (r2, vm1) ∧ J vx1 vm1 ∧ (C → r1 = r2)
def oX_near (v : Mm) (a1 a2 : Int32) : Option (Int32 × Mm) := (g_X7_near v a1 a2).map (fun r => (r, v))
def oM_near (v : Mm) (a1 a2 : Int32) : Option (Int32 × Mm) := (g_X8_near v a1 a2).map (fun r => (r, v))
def jop_near (J : Mm → Mm → Prop) (C : Prop) : Prop := ∀ (vx vm : Mm) (a1 a2 : Int32), J vx vm → ∃ (r1 : Int32) (vx1 : Mm) (r2 : Int32) (vm1 : Mm), oX_near vx a1 a2 = some (r1, vx1) ∧ oM_near vm a1 a2 = some (r2, vm1) ∧ J vx1 vm1 ∧ (C → r1 = r2)
def oX_rules (v : Mm) (a1 a2 a3 a4 : Int32) : Option (Int32 × Mm) := g_X7_rules v a1 a2 a3 a4
def oM_rules (v : Mm) (a1 a2 a3 a4 : Int32) : Option (Int32 × Mm) := g_X8_rules v a1 a2 a3 a4
def jop_rules (J : Mm → Mm → Prop) (C : Prop) : Prop := ∀ (vx vm : Mm) (a1 a2 a3 a4 : Int32), J vx vm → ∃ (r1 : Int32) (vx1 : Mm) (r2 : Int32) (vm1 : Mm), oX_rules vx a1 a2 a3 a4 = some (r1, vx1) ∧ oM_rules vm a1 a2 a3 a4 = some (r2, vm1) ∧ J vx1 vm1 ∧ (C → r1 = r2)
def oX_fits (v : Mm) (a1 a2 a3 a4 : Int32) : Option (Int32 × Mm) := g_X7_fits v a1 a2 a3 a4
def oM_fits (v : Mm) (a1 a2 a3 a4 : Int32) : Option (Int32 × Mm) := g_X8_fits v a1 a2 a3 a4
def jop_fits (J : Mm → Mm → Prop) (C : Prop) : Prop := ∀ (vx vm : Mm) (a1 a2 a3 a4 : Int32), J vx vm → ∃ (r1 : Int32) (vx1 : Mm) (r2 : Int32) (vm1 : Mm), oX_fits vx a1 a2 a3 a4 = some (r1, vx1) ∧ oM_fits vm a1 a2 a3 a4 = some (r2, vm1) ∧ J vx1 vm1 ∧ (C → r1 = r2)
def oX_sure (v : Mm) (a1 a2 a3 a4 : Int32) : Option (Int32 × Mm) := (g_X7_sure v a1 a2 a3 a4).map (fun r => (r, v))
def oM_sure (v : Mm) (a1 a2 a3 a4 : Int32) : Option (Int32 × Mm) := (g_X8_sure v a1 a2 a3 a4).map (fun r => (r, v))
def jop_sure (J : Mm → Mm → Prop) (C : Prop) : Prop := ∀ (vx vm : Mm) (a1 a2 a3 a4 : Int32), J vx vm → ∃ (r1 : Int32) (vx1 : Mm) (r2 : Int32) (vm1 : Mm), oX_sure vx a1 a2 a3 a4 = some (r1, vx1) ∧ oM_sure vm a1 a2 a3 a4 = some (r2, vm1) ∧ J vx1 vm1 ∧ (C → r1 = r2)
def oX_drawn (v : Mm) (a1 a2 a3 : Int32) : Option (Int32 × Mm) := (g_X7_drawn v a1 a2 a3).map (fun r => (r, v))
def oM_drawn (v : Mm) (a1 a2 a3 : Int32) : Option (Int32 × Mm) := (g_X8_drawn v a1 a2 a3).map (fun r => (r, v))
def jop_drawn (J : Mm → Mm → Prop) (C : Prop) : Prop := ∀ (vx vm : Mm) (a1 a2 a3 : Int32), J vx vm → ∃ (r1 : Int32) (vx1 : Mm) (r2 : Int32) (vm1 : Mm), oX_drawn vx a1 a2 a3 = some (r1, vx1) ∧ oM_drawn vm a1 a2 a3 = some (r2, vm1) ∧ J vx1 vm1 ∧ (C → r1 = r2)
def oX_image (v : Mm) (a1 : Int32) : Option (Int32 × Mm) := g_X7_image v a1
def oM_image (v : Mm) (a1 : Int32) : Option (Int32 × Mm) := g_X8_image v a1
def jop_image (J : Mm → Mm → Prop) (C : Prop) : Prop := ∀ (vx vm : Mm) (a1 : Int32), J vx vm → ∃ (r1 : Int32) (vx1 : Mm) (r2 : Int32) (vm1 : Mm), oX_image vx a1 = some (r1, vx1) ∧ oM_image vm a1 = some (r2, vm1) ∧ J vx1 vm1 ∧ (C → r1 = r2)
def oX_restore (v : Mm) (a1 : Int32) : Option (Int32 × Mm) := g_X7_restore v a1
def oM_restore (v : Mm) (a1 : Int32) : Option (Int32 × Mm) := g_X8_restore v a1
def jop_restore (J : Mm → Mm → Prop) (C : Prop) : Prop := ∀ (vx vm : Mm) (a1 : Int32), J vx vm → ∃ (r1 : Int32) (vx1 : Mm) (r2 : Int32) (vm1 : Mm), oX_restore vx a1 = some (r1, vx1) ∧ oM_restore vm a1 = some (r2, vm1) ∧ J vx1 vm1 ∧ (C → r1 = r2)
def oX_kind (v : Mm) (a1 : Int32) : Option (Int32 × Mm) := (g_X7_kind v a1).map (fun r => (r, v))
def oM_kind (v : Mm) (a1 : Int32) : Option (Int32 × Mm) := (g_X8_kind v a1).map (fun r => (r, v))
def jop_kind (J : Mm → Mm → Prop) (C : Prop) : Prop := ∀ (vx vm : Mm) (a1 : Int32), J vx vm → ∃ (r1 : Int32) (vx1 : Mm) (r2 : Int32) (vm1 : Mm), oX_kind vx a1 = some (r1, vx1) ∧ oM_kind vm a1 = some (r2, vm1) ∧ J vx1 vm1 ∧ (C → r1 = r2)
def oX_as (v : Mm) (a1 a2 : Int32) : Option (Int32 × Mm) := g_X7_as v a1 a2
def oM_as (v : Mm) (a1 a2 : Int32) : Option (Int32 × Mm) := g_X8_as v a1 a2
def jop_as (J : Mm → Mm → Prop) (C : Prop) : Prop := ∀ (vx vm : Mm) (a1 a2 : Int32), J vx vm → ∃ (r1 : Int32) (vx1 : Mm) (r2 : Int32) (vm1 : Mm), oX_as vx a1 a2 = some (r1, vx1) ∧ oM_as vm a1 a2 = some (r2, vm1) ∧ J vx1 vm1 ∧ (C → r1 = r2)
def oX_ask (v : Mm) (a1 a2 : Int32) : Option (Int32 × Mm) := g_X7_ask v a1 a2
def oM_ask (v : Mm) (a1 a2 : Int32) : Option (Int32 × Mm) := g_X8_ask v a1 a2
def jop_ask (J : Mm → Mm → Prop) (C : Prop) : Prop := ∀ (vx vm : Mm) (a1 a2 : Int32), J vx vm → ∃ (r1 : Int32) (vx1 : Mm) (r2 : Int32) (vm1 : Mm), oX_ask vx a1 a2 = some (r1, vx1) ∧ oM_ask vm a1 a2 = some (r2, vm1) ∧ J vx1 vm1 ∧ (C → r1 = r2)
def oX_trace (v : Mm) (a1 : Int32) : Option (Int32 × Mm) := (g_X7_trace v a1).map (fun r => (r, v))
def oM_trace (v : Mm) (a1 : Int32) : Option (Int32 × Mm) := (g_X8_trace v a1).map (fun r => (r, v))
def jop_trace (J : Mm → Mm → Prop) (C : Prop) : Prop := ∀ (vx vm : Mm) (a1 : Int32), J vx vm → ∃ (r1 : Int32) (vx1 : Mm) (r2 : Int32) (vm1 : Mm), oX_trace vx a1 = some (r1, vx1) ∧ oM_trace vm a1 = some (r2, vm1) ∧ J vx1 vm1 ∧ (C → r1 = r2)
def oX_count (v : Mm) (a1 : Int32) : Option (Int32 × Mm) := (g_X7_count v a1).map (fun r => (r, v))
def oM_count (v : Mm) (a1 : Int32) : Option (Int32 × Mm) := (g_X8_count v a1).map (fun r => (r, v))
def jop_count (J : Mm → Mm → Prop) (C : Prop) : Prop := ∀ (vx vm : Mm) (a1 : Int32), J vx vm → ∃ (r1 : Int32) (vx1 : Mm) (r2 : Int32) (vm1 : Mm), oX_count vx a1 = some (r1, vx1) ∧ oM_count vm a1 = some (r2, vm1) ∧ J vx1 vm1 ∧ (C → r1 = r2)
def oX_status (v : Mm)  : Option (Int32 × Mm) := (g_X7_status v ).map (fun r => (r, v))
def oM_status (v : Mm)  : Option (Int32 × Mm) := (g_X8_status v ).map (fun r => (r, v))
def jop_status (J : Mm → Mm → Prop) (C : Prop) : Prop := ∀ (vx vm : Mm) , J vx vm → ∃ (r1 : Int32) (vx1 : Mm) (r2 : Int32) (vm1 : Mm), oX_status vx  = some (r1, vx1) ∧ oM_status vm  = some (r2, vm1) ∧ J vx1 vm1 ∧ (C → r1 = r2)
def sims (J : Mm → Mm → Prop) (cs : Nat → Prop) : Prop := jop_row J (cs 0) ∧ jop_set J (cs 1) ∧ jop_copy J (cs 2) ∧ jop_drop J (cs 3) ∧ jop_feed J (cs 4) ∧ jop_gate J (cs 5) ∧ jop_fault J (cs 6) ∧ jop_nights J (cs 7) ∧ jop_say J (cs 8) ∧ jop_start J (cs 9) ∧ jop_dismiss J (cs 10) ∧ jop_undo J (cs 11) ∧ jop_letter J (cs 12) ∧ jop_like J (cs 13) ∧ jop_guard J (cs 14) ∧ jop_tried J (cs 15) ∧ jop_secret J (cs 16) ∧ jop_taken J (cs 17) ∧ jop_safe J (cs 18) ∧ jop_open J (cs 19) ∧ jop_next J (cs 20) ∧ jop_agree J (cs 21) ∧ jop_man J (cs 22) ∧ jop_fewest J (cs 23) ∧ jop_march J (cs 24) ∧ jop_cheap J (cs 25) ∧ jop_near J (cs 26) ∧ jop_rules J (cs 27) ∧ jop_fits J (cs 28) ∧ jop_sure J (cs 29) ∧ jop_drawn J (cs 30) ∧ jop_image J (cs 31) ∧ jop_restore J (cs 32) ∧ jop_kind J (cs 33) ∧ jop_as J (cs 34) ∧ jop_ask J (cs 35) ∧ jop_trace J (cs 36) ∧ jop_count J (cs 37) ∧ jop_status J (cs 38)
