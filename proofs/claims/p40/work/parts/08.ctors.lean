/-- what a constructor of the object at a leaves of the pool: old cells stay, but for a -/
def kq_ext (a : Nat) (L : List Nat) (σ : Nat → va_E) (L1 : List Nat) (σ1 : Nat → va_E) : Prop := (∀ b, b ∈ L → b ∈ L1) ∧ ∀ b, b ∈ L → b ≠ a → σ1 b = σ b
theorem kq_ext.rf {a : Nat} {L : List Nat} {σ : Nat → va_E} : kq_ext a L σ L σ := ⟨fun _ h => h, fun _ _ _ => rfl⟩
theorem kq_ext.mk {a q : Nat} {L L2 L1 : List Nat} {σ σ2 σ1 : Nat → va_E} {x : va_E} (h : kq_ext a L σ L2 σ2) (hq : q ∉ L2) (eL : L1 = L2 ++ [q]) (eS : σ1 = va_up σ2 q x) : kq_ext a L σ L1 σ1 := by
  subst eL
  subst eS
  exact ⟨fun b hb => List.mem_append_left _ (h.1 b hb), fun b hb hn => (va_up_ne (k := q) (j := b) _ _ (fun h9 => hq (h9 ▸ h.1 b hb))).trans (h.2 b hb hn)⟩
theorem kq_ext.out {a q : Nat} {L L2 : List Nat} {σ σ2 : Nat → va_E} (h : kq_ext a L σ L2 σ2) (hq : q ∉ L2) : q ∉ L := fun h9 => hq (h.1 q h9)
theorem kq_ext.self {a : Nat} {L L2 : List Nat} {σ σ2 σ1 : Nat → va_E} {x : va_E} (h : kq_ext a L σ L2 σ2) (eS : σ1 = va_up σ2 a x) : kq_ext a L σ L2 σ1 := by
  subst eS
  exact ⟨h.1, fun b hb hn => (va_up_ne _ _ hn).trans (h.2 b hb hn)⟩
theorem kq_ext.far {a q : Nat} {L L2 : List Nat} {σ σ2 σ1 : Nat → va_E} {x : va_E} (h : kq_ext a L σ L2 σ2) (hq : q ∉ L) (eS : σ1 = va_up σ2 q x) : kq_ext a L σ L2 σ1 := by
  subst eS
  exact ⟨h.1, fun b hb hn => (va_up_ne (k := q) (j := b) _ _ (fun h9 => hq (h9 ▸ hb))).trans (h.2 b hb hn)⟩
theorem kq_ext.call {a q : Nat} {L L2 L1 : List Nat} {σ σ2 σ1 : Nat → va_E} (h : kq_ext a L σ L2 σ2) (hq : q ∉ L) (h2 : kq_ext q L2 σ2 L1 σ1) : kq_ext a L σ L1 σ1 :=
  ⟨fun b hb => h2.1 b (h.1 b hb), fun b hb hn => (h2.2 b (h.1 b hb) (fun h9 => hq (h9 ▸ hb))).trans (h.2 b hb hn)⟩
theorem kq_ext.trans {a : Nat} {L L2 L1 : List Nat} {σ σ2 σ1 : Nat → va_E} (h : kq_ext a L σ L2 σ2) (h2 : kq_ext a L2 σ2 L1 σ1) : kq_ext a L σ L1 σ1 :=
  ⟨fun b hb => h2.1 b (h.1 b hb), fun b hb hn => (h2.2 b (h.1 b hb) hn).trans (h.2 b hb hn)⟩
theorem kq_ext.frame {a q : Nat} {L L2 : List Nat} {σ σ2 σ1 : Nat → va_E} (h : kq_ext a L σ L2 σ2) (hq : q ∉ L) (hfr : ∀ b, b ≠ q → σ1 b = σ2 b) : kq_ext a L σ L2 σ1 :=
  ⟨h.1, fun b hb hn => (hfr b (fun h9 => hq (h9 ▸ hb))).trans (h.2 b hb hn)⟩
theorem kq_fill {f : Nat → Int32} {i : Nat} {v : Int32} (hi : i < 2 ^ 31) (h : ∀ j, j < i → f j = v) : ∀ j, j < i + 1 → upd f (Int32.toNatClampNeg (nI i)) v j = v := by
  intro j hj
  rw [nI_clamp hi]
  unfold upd
  by_cases q : j = i
  · rw [if_pos q]
  · rw [if_neg q]; exact h j (by omega)
theorem fm_next (n k : Nat) (ch : Nat → Nat → Nat) (c : Nat → Nat) : (List.range (n + 1)).flatMap (fun j => (List.range k).map (va_up ch n c j)) = (List.range n).flatMap (fun j => (List.range k).map (ch j)) ++ (List.range k).map c := by
  have key : ∀ m, m ≤ n → (List.range m).flatMap (fun j => (List.range k).map (va_up ch n c j)) = (List.range m).flatMap (fun j => (List.range k).map (ch j)) := by
    intro m
    induction m with
    | zero => intro _; rfl
    | succ m ih =>
      intro h
      rw [List.range_succ, List.flatMap_append, List.flatMap_append, ih (by omega)]
      simp [va_up_ne ch c (show m ≠ n by omega)]
  rw [List.range_succ, List.flatMap_append, key n (Nat.le_refl n)]
  simp [va_up_self]
/-- rows of n ints, all 0 -/
abbrev zr (E : kq_T) (n : Nat) : va_E := .inl (E.2 0, n, .inl (fun _ => 0))
def momQ (E : kq_T) (σ : Nat → va_E) (c : Nat → Nat) : Prop := σ (c 0) = .inr (4, [.ref (c 1), .ref (c 2), .ref (c 3), .ref (c 4), .int 0, .int 0, .int 0, .int 0]) ∧ σ (c 1) = zr E 4 ∧ σ (c 2) = zr E 9 ∧ σ (c 3) = zr E 9 ∧ σ (c 4) = zr E 9
def gateQ (E : kq_T) (σ : Nat → va_E) (c : Nat → Nat) : Prop := σ (c 0) = .inr (2, [.ref (c 1), .ref (c 2), .ref (c 3), .ref (c 4), .int 0, .int 0, .int 0, .int 0]) ∧ σ (c 1) = zr E 18 ∧ σ (c 2) = zr E 4 ∧ σ (c 3) = zr E 4 ∧ momQ E σ (fun k => c (4 + k))
def rowQ (E : kq_T) (σ : Nat → va_E) (c : Nat → Nat) : Prop := σ (c 0) = .inr (5, [.ref (c 1), .int (-1), .int 0]) ∧ σ (c 1) = zr E 40
/-- n chunks of k cells each, the first of each in an array's row f -/
def chQ (P : (Nat → va_E) → (Nat → Nat) → Prop) (k : Nat) (L : List Nat) (σ : Nat → va_E) (f : Nat → Option Nat) (ch : Nat → Nat → Nat) (n : Nat) : Prop := ∀ j, j < n → f j = some (ch j 0) ∧ (∀ i, i < k → ch j i ∈ L) ∧ P σ (ch j)
/-- P speaks of the k cells alone -/
def loc (P : (Nat → va_E) → (Nat → Nat) → Prop) (k : Nat) : Prop := ∀ (σ σ1 : Nat → va_E) (c : Nat → Nat), P σ c → (∀ i, i < k → σ1 (c i) = σ (c i)) → P σ1 c
theorem loc_mom (E : kq_T) : loc (momQ E) 5 := fun σ σ1 c h e => ⟨(e 0 (by decide)).trans h.1, (e 1 (by decide)).trans h.2.1, (e 2 (by decide)).trans h.2.2.1, (e 3 (by decide)).trans h.2.2.2.1, (e 4 (by decide)).trans h.2.2.2.2⟩
theorem loc_gate (E : kq_T) : loc (gateQ E) 9 := fun σ σ1 c h e => ⟨(e 0 (by decide)).trans h.1, (e 1 (by decide)).trans h.2.1, (e 2 (by decide)).trans h.2.2.1, (e 3 (by decide)).trans h.2.2.2.1, loc_mom E σ σ1 _ h.2.2.2.2 (fun i hi => e (4 + i) (by omega))⟩
theorem loc_row (E : kq_T) : loc (rowQ E) 2 := fun σ σ1 c h e => ⟨(e 0 (by decide)).trans h.1, (e 1 (by decide)).trans h.2⟩
theorem chQ.ext {P : (Nat → va_E) → (Nat → Nat) → Prop} {k : Nat} {L L1 : List Nat} {σ σ1 : Nat → va_E} {f : Nat → Option Nat} {ch : Nat → Nat → Nat} {n a : Nat} (hP : loc P k) (h : chQ P k L σ f ch n) (he : kq_ext a L σ L1 σ1) (hne : ∀ j, j < n → ∀ i, i < k → ch j i ≠ a) : chQ P k L1 σ1 f ch n := fun j hj =>
  ⟨(h j hj).1, fun i hi => he.1 _ ((h j hj).2.1 i hi), hP σ σ1 (ch j) (h j hj).2.2 (fun i hi => he.2 _ ((h j hj).2.1 i hi) (hne j hj i hi))⟩
theorem chQ.new {P : (Nat → va_E) → (Nat → Nat) → Prop} {k : Nat} {L : List Nat} {σ : Nat → va_E} {f : Nat → Option Nat} {ch : Nat → Nat → Nat} {n q : Nat} (h : chQ P k L σ f ch n) (hq : q ∉ L) : ∀ j, j < n → ∀ i, i < k → ch j i ≠ q := fun j hj i hi e => hq (e ▸ (h j hj).2.1 i hi)
theorem chQ.add {P : (Nat → va_E) → (Nat → Nat) → Prop} {k : Nat} {L : List Nat} {σ : Nat → va_E} {f : Nat → Option Nat} {ch : Nat → Nat → Nat} {n : Nat} {c : Nat → Nat} (h : chQ P k L σ f ch n) (hn : n < 2 ^ 31) (h1 : ∀ i, i < k → c i ∈ L) (h2 : P σ c) : chQ P k L σ (va_up f (Int32.toNatClampNeg (nI n)) (some (c 0))) (va_up ch n c) (n + 1) := by
  intro j hj
  rw [nI_clamp hn]
  by_cases q : j = n
  · subst q
    rw [va_up_self, va_up_self]
    exact ⟨rfl, h1, h2⟩
  · rw [va_up_ne _ _ q, va_up_ne _ _ q]
    exact h j (by omega)
/-- what the chunks' cells are: their kinds; so they lie apart from other kinds -/
theorem mom_ne {E : kq_T} {σ : Nat → va_E} {c : Nat → Nat} {a : Nat} (h : momQ E σ c) (ha : (∃ ci fs, σ a = .inr (ci, fs) ∧ ci ≠ 4) ∨ ∃ cc n f, σ a = .inl (cc, n, f) ∧ n ≠ 4 ∧ n ≠ 9) : ∀ i, i < 5 → c i ≠ a := by
  obtain ⟨h0, h1, h2, h3, h4⟩ := h
  intro i hi
  rcases ha with ⟨ci, fs, e, n1⟩ | ⟨cc, n, f, e, n1, n2⟩
  · rcases (show i = 0 ∨ i = 1 ∨ i = 2 ∨ i = 3 ∨ i = 4 by omega) with rfl | rfl | rfl | rfl | rfl
    · exact kq_ne h0 e (kq_noo (fun q => n1 q.symm))
    · exact kq_ne h1 e kq_nao
    · exact kq_ne h2 e kq_nao
    · exact kq_ne h3 e kq_nao
    · exact kq_ne h4 e kq_nao
  · rcases (show i = 0 ∨ i = 1 ∨ i = 2 ∨ i = 3 ∨ i = 4 by omega) with rfl | rfl | rfl | rfl | rfl
    · exact kq_ne h0 e kq_noa
    · exact kq_ne h1 e (kq_nlen (fun q => n1 q.symm))
    · exact kq_ne h2 e (kq_nlen (fun q => n2 q.symm))
    · exact kq_ne h3 e (kq_nlen (fun q => n2 q.symm))
    · exact kq_ne h4 e (kq_nlen (fun q => n2 q.symm))
theorem gate_ne {E : kq_T} {σ : Nat → va_E} {c : Nat → Nat} {a : Nat} (h : gateQ E σ c) (ha : (∃ ci fs, σ a = .inr (ci, fs) ∧ ci ≠ 4 ∧ ci ≠ 2) ∨ ∃ cc n f, σ a = .inl (cc, n, f) ∧ n ≠ 4 ∧ n ≠ 9 ∧ n ≠ 18) : ∀ i, i < 9 → c i ≠ a := by
  obtain ⟨h0, h1, h2, h3, hm⟩ := h
  intro i hi
  rcases Nat.lt_or_ge i 4 with q | q
  · rcases ha with ⟨ci, fs, e, n1, n2⟩ | ⟨cc, n, f, e, n1, n2, n3⟩
    · rcases (show i = 0 ∨ i = 1 ∨ i = 2 ∨ i = 3 by omega) with rfl | rfl | rfl | rfl
      · exact kq_ne h0 e (kq_noo (fun q => n2 q.symm))
      · exact kq_ne h1 e kq_nao
      · exact kq_ne h2 e kq_nao
      · exact kq_ne h3 e kq_nao
    · rcases (show i = 0 ∨ i = 1 ∨ i = 2 ∨ i = 3 by omega) with rfl | rfl | rfl | rfl
      · exact kq_ne h0 e kq_noa
      · exact kq_ne h1 e (kq_nlen (fun q => n3 q.symm))
      · exact kq_ne h2 e (kq_nlen (fun q => n1 q.symm))
      · exact kq_ne h3 e (kq_nlen (fun q => n1 q.symm))
  · have := mom_ne (c := fun k => c (4 + k)) hm (ha.imp (fun ⟨ci, fs, e, n1, _⟩ => ⟨ci, fs, e, n1⟩) (fun ⟨cc, n, f, e, n1, n2, _⟩ => ⟨cc, n, f, e, n1, n2⟩)) (i - 4) (by omega)
    rwa [show 4 + (i - 4) = i by omega] at this
theorem row_ne {E : kq_T} {σ : Nat → va_E} {c : Nat → Nat} {a : Nat} (h : rowQ E σ c) (ha : (∃ ci fs, σ a = .inr (ci, fs) ∧ ci ≠ 5) ∨ ∃ cc n f, σ a = .inl (cc, n, f) ∧ n ≠ 40) : ∀ i, i < 2 → c i ≠ a := by
  obtain ⟨h0, h1⟩ := h
  intro i hi
  rcases ha with ⟨ci, fs, e, n1⟩ | ⟨cc, n, f, e, n1⟩
  · rcases (show i = 0 ∨ i = 1 by omega) with rfl | rfl
    · exact kq_ne h0 e (kq_noo (fun q => n1 q.symm))
    · exact kq_ne h1 e kq_nao
  · rcases (show i = 0 ∨ i = 1 by omega) with rfl | rfl
    · exact kq_ne h0 e kq_noa
    · exact kq_ne h1 e (kq_nlen (fun q => n1 q.symm))
abbrev rmX5_init : Room := { frames := 1, cells := 1, slots := 40, locals := 20 }
set_option maxHeartbeats 4000000 in
set_option maxRecDepth 100000 in
theorem k_X5_init (l : Launch) (E : kq_T) (L : List Nat) (σ : Nat → va_E) {a : Nat} (hL_a : a ∈ L) (hS_a : σ a = .inr (5, [.null, .int 0, .int 0])) : kq_V l E yX5_init wsX5_init rmX5_init [.ref a] L σ (fun L1 σ1 => kq_ext a L σ L1 σ1 ∧ ∃ (it : Nat), L1 = L ++ [it] ∧ σ1 a = .inr (5, [.ref it, .int ((-1)), .int 0]) ∧ σ1 it = .inl (E.2 0, 40, .inl (fun _ => 0))) := by
  refine kq_enterV (cc := cX5_init) (maxL := 1) (ret := none) (by decide) rfl (Nat.le_of_ble_eq_true rfl) rfl ?_
  intro p e s m below meth c A ls C hK hw hl
  obtain ⟨hx, hb, hml, hown, hts, hr, hlocks, hnm⟩ := C
  have hown : s.vm.findClass RX5 = some m.cls := hown
  have hl : lv_has ls 1 [(0, .ref a)] := hl
  have hE : kq_ext a L σ L σ := kq_ext.rf
  refine lv_aload_n hx hb dX5_init_0 rfl (lv_at hl 0 rfl) ?_
  refine kq_obj hx hb hml hown hts (index := 3) (own := RX5) (by decide +kernel) (by decide +kernel) (by decide +kernel) hl.1 dX5_init_1 (Nat.le_of_ble_eq_true rfl) (Nat.le_of_ble_eq_true rfl) (Nat.le_of_ble_eq_true rfl) ?_
  refine lv_aload_n hx hb dX5_init_4 rfl (lv_at hl 0 rfl) ?_
  refine lv_bipush (v := 40) hx hb dX5_init_5 (by decide) ?_
  refine kq_newi (N' := 40) hx hb (hts (.arrayClass .int) (by decide +kernel)) hK hw (by decide) (by decide) (by decide) (Nat.le_of_ble_eq_true rfl) (Nat.le_of_ble_eq_true rfl) dX5_init_7 (fun it H L2 σ1 hq_it eL2 eσ1 hw => ?_)
  have hN_a_it : a ≠ it := fun h9 => hq_it (h9 ▸ hL_a)
  have hS_a : σ1 a = .inr (5, [.null, .int 0, .int 0]) := by rw [eσ1]; exact kq_new_far hq_it hL_a hS_a
  have hL_a : a ∈ L2 := by rw [eL2]; exact List.mem_append_left _ hL_a
  have hS_it : σ1 it = .inl (E.2 0, 40, .inl (fun _ => 0)) := by rw [eσ1]; exact va_up_self _ _ _
  have hL_it : it ∈ L2 := by rw [eL2]; exact List.mem_append_right _ List.mem_cons_self
  have hO_it := hE.out hq_it
  have hE := hE.mk hq_it eL2 eσ1
  refine kq_putF (ci := 5) (v := .ref it) (ty := .array .int) (C := RX5) (T := TX5) (N := 3) (fs' := [.ref it, .int 0, .int 0]) hx hb hts fi_X5_init_X5 tyX5 tyX5_ok nmX5 hown hK hw hL_a hS_a rfl 0 (by decide) (hts (.fieldLink RX5 9 "WrongWord$Row" "items" "[I") ow_X5_init_9) rfl hnm rfl (by decide +kernel) rfl rfl (Nat.le_of_ble_eq_true rfl) rfl dX5_init_9 (fun H locs σ3 eσ3 hw => ?_)
  have nhS_it : σ3 it = .inl (E.2 0, 40, .inl (fun _ => 0)) := by rw [eσ3]; exact kq_far (Ne.symm hN_a_it) hS_it
  have nhS_a : σ3 a = .inr (5, [.ref it, .int 0, .int 0]) := by rw [eσ3]; exact va_up_self _ _ _
  have hS_it := nhS_it
  have hS_a := nhS_a
  have hE := hE.self eσ3
  refine lv_aload_n hx hb dX5_init_12 rfl (lv_at hl 0 rfl) ?_
  refine lv_iconst (v := (-1)) hx hb dX5_init_13 (by decide) ?_
  refine kq_put (ci := 5) (v := .int ((-1))) (ty := .int) (C := RX5) (T := TX5) (N := 3) (fs' := [.ref it, .int ((-1)), .int 0]) hx hb hts fi_X5_init_X5 tyX5 tyX5_ok nmX5 hown hK hw hL_a hS_a rfl 1 (by decide) (hts (.fieldLink RX5 15 "WrongWord$Row" "lane" "I") ow_X5_init_15) rfl (by decide +kernel) rfl rfl (Nat.le_of_ble_eq_true rfl) rfl dX5_init_14 (fun H locs σ4 eσ4 hw => ?_)
  have nhS_it : σ4 it = .inl (E.2 0, 40, .inl (fun _ => 0)) := by rw [eσ4]; exact kq_far (Ne.symm hN_a_it) hS_it
  have nhS_a : σ4 a = .inr (5, [.ref it, .int ((-1)), .int 0]) := by rw [eσ4]; exact va_up_self _ _ _
  have hS_it := nhS_it
  have hS_a := nhS_a
  have hE := hE.self eσ4
  exact kq_vret hx hb hr hlocks hw (Nat.le_of_ble_eq_true rfl) (Nat.le_of_ble_eq_true rfl) dX5_init_17 ⟨hE, it, (by rw [eL2] <;> simp), hS_a, hS_it⟩
abbrev rmX4_init : Room := { frames := 1, cells := 4, slots := 31, locals := 20 }
set_option maxHeartbeats 4000000 in
set_option maxRecDepth 100000 in
theorem k_X4_init (l : Launch) (E : kq_T) (L : List Nat) (σ : Nat → va_E) {a : Nat} (hL_a : a ∈ L) (hS_a : σ a = .inr (4, [.null, .null, .null, .null, .int 0, .int 0, .int 0, .int 0])) : kq_V l E yX4_init wsX4_init rmX4_init [.ref a] L σ (fun L1 σ1 => kq_ext a L σ L1 σ1 ∧ ∃ (t1 t2 t3 t4 : Nat), L1 = L ++ [t1, t2, t3, t4] ∧ σ1 a = .inr (4, [.ref t1, .ref t2, .ref t3, .ref t4, .int 0, .int 0, .int 0, .int 0]) ∧ σ1 t1 = .inl (E.2 0, 4, .inl (fun _ => 0)) ∧ σ1 t2 = .inl (E.2 0, 9, .inl (fun _ => 0)) ∧ σ1 t3 = .inl (E.2 0, 9, .inl (fun _ => 0)) ∧ σ1 t4 = .inl (E.2 0, 9, .inl (fun _ => 0))) := by
  refine kq_enterV (cc := cX4_init) (maxL := 1) (ret := none) (by decide) rfl (Nat.le_of_ble_eq_true rfl) rfl ?_
  intro p e s m below meth c A ls C hK hw hl
  obtain ⟨hx, hb, hml, hown, hts, hr, hlocks, hnm⟩ := C
  have hown : s.vm.findClass RX4 = some m.cls := hown
  have hl : lv_has ls 1 [(0, .ref a)] := hl
  have hE : kq_ext a L σ L σ := kq_ext.rf
  refine lv_aload_n hx hb dX4_init_0 rfl (lv_at hl 0 rfl) ?_
  refine kq_obj hx hb hml hown hts (index := 3) (own := RX4) (by decide +kernel) (by decide +kernel) (by decide +kernel) hl.1 dX4_init_1 (Nat.le_of_ble_eq_true rfl) (Nat.le_of_ble_eq_true rfl) (Nat.le_of_ble_eq_true rfl) ?_
  refine lv_aload_n hx hb dX4_init_4 rfl (lv_at hl 0 rfl) ?_
  refine lv_iconst (v := 4) hx hb dX4_init_5 (by decide) ?_
  refine kq_newi (N' := 4) hx hb (hts (.arrayClass .int) (by decide +kernel)) hK hw (by decide) (by decide) (by decide) (Nat.le_of_ble_eq_true rfl) (Nat.le_of_ble_eq_true rfl) dX4_init_6 (fun t1 H L2 σ1 hq_t1 eL2 eσ1 hw => ?_)
  have hN_a_t1 : a ≠ t1 := fun h9 => hq_t1 (h9 ▸ hL_a)
  have hS_a : σ1 a = .inr (4, [.null, .null, .null, .null, .int 0, .int 0, .int 0, .int 0]) := by rw [eσ1]; exact kq_new_far hq_t1 hL_a hS_a
  have hL_a : a ∈ L2 := by rw [eL2]; exact List.mem_append_left _ hL_a
  have hS_t1 : σ1 t1 = .inl (E.2 0, 4, .inl (fun _ => 0)) := by rw [eσ1]; exact va_up_self _ _ _
  have hL_t1 : t1 ∈ L2 := by rw [eL2]; exact List.mem_append_right _ List.mem_cons_self
  have hO_t1 := hE.out hq_t1
  have hE := hE.mk hq_t1 eL2 eσ1
  refine kq_putF (ci := 4) (v := .ref t1) (ty := .array .int) (C := RX4) (T := TX4) (N := 8) (fs' := [.ref t1, .null, .null, .null, .int 0, .int 0, .int 0, .int 0]) hx hb hts fi_X4_init_X4 tyX4 tyX4_ok nmX4 hown hK hw hL_a hS_a rfl 0 (by decide) (hts (.fieldLink RX4 9 "WrongWord$Moment" "took" "[I") ow_X4_init_9) rfl hnm rfl (by decide +kernel) rfl rfl (Nat.le_of_ble_eq_true rfl) rfl dX4_init_8 (fun H locs σ3 eσ3 hw => ?_)
  have nhS_t1 : σ3 t1 = .inl (E.2 0, 4, .inl (fun _ => 0)) := by rw [eσ3]; exact kq_far (Ne.symm hN_a_t1) hS_t1
  have nhS_a : σ3 a = .inr (4, [.ref t1, .null, .null, .null, .int 0, .int 0, .int 0, .int 0]) := by rw [eσ3]; exact va_up_self _ _ _
  have hS_t1 := nhS_t1
  have hS_a := nhS_a
  have hE := hE.self eσ3
  refine lv_aload_n hx hb dX4_init_11 rfl (lv_at hl 0 rfl) ?_
  refine lv_bipush (v := 9) hx hb dX4_init_12 (by decide) ?_
  refine kq_newi (N' := 9) hx hb (hts (.arrayClass .int) (by decide +kernel)) hK hw (by decide) (by decide) (by decide) (Nat.le_of_ble_eq_true rfl) (Nat.le_of_ble_eq_true rfl) dX4_init_14 (fun t2 H L5 σ4 hq_t2 eL5 eσ4 hw => ?_)
  have hN_t1_t2 : t1 ≠ t2 := fun h9 => hq_t2 (h9 ▸ hL_t1)
  have hS_t1 : σ4 t1 = .inl (E.2 0, 4, .inl (fun _ => 0)) := by rw [eσ4]; exact kq_new_far hq_t2 hL_t1 hS_t1
  have hL_t1 : t1 ∈ L5 := by rw [eL5]; exact List.mem_append_left _ hL_t1
  have hN_a_t2 : a ≠ t2 := fun h9 => hq_t2 (h9 ▸ hL_a)
  have hS_a : σ4 a = .inr (4, [.ref t1, .null, .null, .null, .int 0, .int 0, .int 0, .int 0]) := by rw [eσ4]; exact kq_new_far hq_t2 hL_a hS_a
  have hL_a : a ∈ L5 := by rw [eL5]; exact List.mem_append_left _ hL_a
  have hS_t2 : σ4 t2 = .inl (E.2 0, 9, .inl (fun _ => 0)) := by rw [eσ4]; exact va_up_self _ _ _
  have hL_t2 : t2 ∈ L5 := by rw [eL5]; exact List.mem_append_right _ List.mem_cons_self
  have hO_t2 := hE.out hq_t2
  have hE := hE.mk hq_t2 eL5 eσ4
  refine kq_putF (ci := 4) (v := .ref t2) (ty := .array .int) (C := RX4) (T := TX4) (N := 8) (fs' := [.ref t1, .ref t2, .null, .null, .int 0, .int 0, .int 0, .int 0]) hx hb hts fi_X4_init_X4 tyX4 tyX4_ok nmX4 hown hK hw hL_a hS_a rfl 1 (by decide) (hts (.fieldLink RX4 15 "WrongWord$Moment" "triedWord" "[I") ow_X4_init_15) rfl hnm rfl (by decide +kernel) rfl rfl (Nat.le_of_ble_eq_true rfl) rfl dX4_init_16 (fun H locs σ6 eσ6 hw => ?_)
  have nhS_t1 : σ6 t1 = .inl (E.2 0, 4, .inl (fun _ => 0)) := by rw [eσ6]; exact kq_far (Ne.symm hN_a_t1) hS_t1
  have nhS_t2 : σ6 t2 = .inl (E.2 0, 9, .inl (fun _ => 0)) := by rw [eσ6]; exact kq_far (Ne.symm hN_a_t2) hS_t2
  have nhS_a : σ6 a = .inr (4, [.ref t1, .ref t2, .null, .null, .int 0, .int 0, .int 0, .int 0]) := by rw [eσ6]; exact va_up_self _ _ _
  have hS_t1 := nhS_t1
  have hS_t2 := nhS_t2
  have hS_a := nhS_a
  have hE := hE.self eσ6
  refine lv_aload_n hx hb dX4_init_19 rfl (lv_at hl 0 rfl) ?_
  refine lv_bipush (v := 9) hx hb dX4_init_20 (by decide) ?_
  refine kq_newi (N' := 9) hx hb (hts (.arrayClass .int) (by decide +kernel)) hK hw (by decide) (by decide) (by decide) (Nat.le_of_ble_eq_true rfl) (Nat.le_of_ble_eq_true rfl) dX4_init_22 (fun t3 H L8 σ7 hq_t3 eL8 eσ7 hw => ?_)
  have hN_t1_t3 : t1 ≠ t3 := fun h9 => hq_t3 (h9 ▸ hL_t1)
  have hS_t1 : σ7 t1 = .inl (E.2 0, 4, .inl (fun _ => 0)) := by rw [eσ7]; exact kq_new_far hq_t3 hL_t1 hS_t1
  have hL_t1 : t1 ∈ L8 := by rw [eL8]; exact List.mem_append_left _ hL_t1
  have hN_t2_t3 : t2 ≠ t3 := fun h9 => hq_t3 (h9 ▸ hL_t2)
  have hS_t2 : σ7 t2 = .inl (E.2 0, 9, .inl (fun _ => 0)) := by rw [eσ7]; exact kq_new_far hq_t3 hL_t2 hS_t2
  have hL_t2 : t2 ∈ L8 := by rw [eL8]; exact List.mem_append_left _ hL_t2
  have hN_a_t3 : a ≠ t3 := fun h9 => hq_t3 (h9 ▸ hL_a)
  have hS_a : σ7 a = .inr (4, [.ref t1, .ref t2, .null, .null, .int 0, .int 0, .int 0, .int 0]) := by rw [eσ7]; exact kq_new_far hq_t3 hL_a hS_a
  have hL_a : a ∈ L8 := by rw [eL8]; exact List.mem_append_left _ hL_a
  have hS_t3 : σ7 t3 = .inl (E.2 0, 9, .inl (fun _ => 0)) := by rw [eσ7]; exact va_up_self _ _ _
  have hL_t3 : t3 ∈ L8 := by rw [eL8]; exact List.mem_append_right _ List.mem_cons_self
  have hO_t3 := hE.out hq_t3
  have hE := hE.mk hq_t3 eL8 eσ7
  refine kq_putF (ci := 4) (v := .ref t3) (ty := .array .int) (C := RX4) (T := TX4) (N := 8) (fs' := [.ref t1, .ref t2, .ref t3, .null, .int 0, .int 0, .int 0, .int 0]) hx hb hts fi_X4_init_X4 tyX4 tyX4_ok nmX4 hown hK hw hL_a hS_a rfl 2 (by decide) (hts (.fieldLink RX4 18 "WrongWord$Moment" "triedGuard" "[I") ow_X4_init_18) rfl hnm rfl (by decide +kernel) rfl rfl (Nat.le_of_ble_eq_true rfl) rfl dX4_init_24 (fun H locs σ9 eσ9 hw => ?_)
  have nhS_t1 : σ9 t1 = .inl (E.2 0, 4, .inl (fun _ => 0)) := by rw [eσ9]; exact kq_far (Ne.symm hN_a_t1) hS_t1
  have nhS_t2 : σ9 t2 = .inl (E.2 0, 9, .inl (fun _ => 0)) := by rw [eσ9]; exact kq_far (Ne.symm hN_a_t2) hS_t2
  have nhS_t3 : σ9 t3 = .inl (E.2 0, 9, .inl (fun _ => 0)) := by rw [eσ9]; exact kq_far (Ne.symm hN_a_t3) hS_t3
  have nhS_a : σ9 a = .inr (4, [.ref t1, .ref t2, .ref t3, .null, .int 0, .int 0, .int 0, .int 0]) := by rw [eσ9]; exact va_up_self _ _ _
  have hS_t1 := nhS_t1
  have hS_t2 := nhS_t2
  have hS_t3 := nhS_t3
  have hS_a := nhS_a
  have hE := hE.self eσ9
  refine lv_aload_n hx hb dX4_init_27 rfl (lv_at hl 0 rfl) ?_
  refine lv_bipush (v := 9) hx hb dX4_init_28 (by decide) ?_
  refine kq_newi (N' := 9) hx hb (hts (.arrayClass .int) (by decide +kernel)) hK hw (by decide) (by decide) (by decide) (Nat.le_of_ble_eq_true rfl) (Nat.le_of_ble_eq_true rfl) dX4_init_30 (fun t4 H L11 σ10 hq_t4 eL11 eσ10 hw => ?_)
  have hN_t1_t4 : t1 ≠ t4 := fun h9 => hq_t4 (h9 ▸ hL_t1)
  have hS_t1 : σ10 t1 = .inl (E.2 0, 4, .inl (fun _ => 0)) := by rw [eσ10]; exact kq_new_far hq_t4 hL_t1 hS_t1
  have hL_t1 : t1 ∈ L11 := by rw [eL11]; exact List.mem_append_left _ hL_t1
  have hN_t2_t4 : t2 ≠ t4 := fun h9 => hq_t4 (h9 ▸ hL_t2)
  have hS_t2 : σ10 t2 = .inl (E.2 0, 9, .inl (fun _ => 0)) := by rw [eσ10]; exact kq_new_far hq_t4 hL_t2 hS_t2
  have hL_t2 : t2 ∈ L11 := by rw [eL11]; exact List.mem_append_left _ hL_t2
  have hN_t3_t4 : t3 ≠ t4 := fun h9 => hq_t4 (h9 ▸ hL_t3)
  have hS_t3 : σ10 t3 = .inl (E.2 0, 9, .inl (fun _ => 0)) := by rw [eσ10]; exact kq_new_far hq_t4 hL_t3 hS_t3
  have hL_t3 : t3 ∈ L11 := by rw [eL11]; exact List.mem_append_left _ hL_t3
  have hN_a_t4 : a ≠ t4 := fun h9 => hq_t4 (h9 ▸ hL_a)
  have hS_a : σ10 a = .inr (4, [.ref t1, .ref t2, .ref t3, .null, .int 0, .int 0, .int 0, .int 0]) := by rw [eσ10]; exact kq_new_far hq_t4 hL_a hS_a
  have hL_a : a ∈ L11 := by rw [eL11]; exact List.mem_append_left _ hL_a
  have hS_t4 : σ10 t4 = .inl (E.2 0, 9, .inl (fun _ => 0)) := by rw [eσ10]; exact va_up_self _ _ _
  have hL_t4 : t4 ∈ L11 := by rw [eL11]; exact List.mem_append_right _ List.mem_cons_self
  have hO_t4 := hE.out hq_t4
  have hE := hE.mk hq_t4 eL11 eσ10
  refine kq_putF (ci := 4) (v := .ref t4) (ty := .array .int) (C := RX4) (T := TX4) (N := 8) (fs' := [.ref t1, .ref t2, .ref t3, .ref t4, .int 0, .int 0, .int 0, .int 0]) hx hb hts fi_X4_init_X4 tyX4 tyX4_ok nmX4 hown hK hw hL_a hS_a rfl 3 (by decide) (hts (.fieldLink RX4 21 "WrongWord$Moment" "triedTaken" "[I") ow_X4_init_21) rfl hnm rfl (by decide +kernel) rfl rfl (Nat.le_of_ble_eq_true rfl) rfl dX4_init_32 (fun H locs σ12 eσ12 hw => ?_)
  have nhS_t1 : σ12 t1 = .inl (E.2 0, 4, .inl (fun _ => 0)) := by rw [eσ12]; exact kq_far (Ne.symm hN_a_t1) hS_t1
  have nhS_t2 : σ12 t2 = .inl (E.2 0, 9, .inl (fun _ => 0)) := by rw [eσ12]; exact kq_far (Ne.symm hN_a_t2) hS_t2
  have nhS_t3 : σ12 t3 = .inl (E.2 0, 9, .inl (fun _ => 0)) := by rw [eσ12]; exact kq_far (Ne.symm hN_a_t3) hS_t3
  have nhS_t4 : σ12 t4 = .inl (E.2 0, 9, .inl (fun _ => 0)) := by rw [eσ12]; exact kq_far (Ne.symm hN_a_t4) hS_t4
  have nhS_a : σ12 a = .inr (4, [.ref t1, .ref t2, .ref t3, .ref t4, .int 0, .int 0, .int 0, .int 0]) := by rw [eσ12]; exact va_up_self _ _ _
  have hS_t1 := nhS_t1
  have hS_t2 := nhS_t2
  have hS_t3 := nhS_t3
  have hS_t4 := nhS_t4
  have hS_a := nhS_a
  have hE := hE.self eσ12
  exact kq_vret hx hb hr hlocks hw (Nat.le_of_ble_eq_true rfl) (Nat.le_of_ble_eq_true rfl) dX4_init_35 ⟨hE, t1, t2, t3, t4, (by rw [eL11, eL8, eL5, eL2] <;> simp), hS_a, hS_t1, hS_t2, hS_t3, hS_t4⟩
abbrev rmX2_init : Room := { frames := 2, cells := 8, slots := 65, locals := 40 }
set_option maxHeartbeats 4000000 in
set_option maxRecDepth 100000 in
theorem k_X2_init (l : Launch) (E : kq_T) (L : List Nat) (σ : Nat → va_E) {a : Nat} (hL_a : a ∈ L) (hS_a : σ a = .inr (2, [.null, .null, .null, .null, .int 0, .int 0, .int 0, .int 0])) : kq_V l E yX2_init wsX2_init rmX2_init [.ref a] L σ (fun L1 σ1 => kq_ext a L σ L1 σ1 ∧ ∃ (g1 g2 g3 n_ t1 t2 t3 t4 : Nat), L1 = L ++ [g1, g2, g3, n_, t1, t2, t3, t4] ∧ σ1 a = .inr (2, [.ref g1, .ref g2, .ref g3, .ref n_, .int 0, .int 0, .int 0, .int 0]) ∧ σ1 g1 = .inl (E.2 0, 18, .inl (fun _ => 0)) ∧ σ1 g2 = .inl (E.2 0, 4, .inl (fun _ => 0)) ∧ σ1 g3 = .inl (E.2 0, 4, .inl (fun _ => 0)) ∧ σ1 n_ = .inr (4, [.ref t1, .ref t2, .ref t3, .ref t4, .int 0, .int 0, .int 0, .int 0]) ∧ σ1 t1 = .inl (E.2 0, 4, .inl (fun _ => 0)) ∧ σ1 t2 = .inl (E.2 0, 9, .inl (fun _ => 0)) ∧ σ1 t3 = .inl (E.2 0, 9, .inl (fun _ => 0)) ∧ σ1 t4 = .inl (E.2 0, 9, .inl (fun _ => 0))) := by
  refine kq_enterV (cc := cX2_init) (maxL := 1) (ret := none) (by decide) rfl (Nat.le_of_ble_eq_true rfl) rfl ?_
  intro p e s m below meth c A ls C hK hw hl
  obtain ⟨hx, hb, hml, hown, hts, hr, hlocks, hnm⟩ := C
  have hown : s.vm.findClass RX2 = some m.cls := hown
  have hl : lv_has ls 1 [(0, .ref a)] := hl
  have hE : kq_ext a L σ L σ := kq_ext.rf
  refine lv_aload_n hx hb dX2_init_0 rfl (lv_at hl 0 rfl) ?_
  refine kq_obj hx hb hml hown hts (index := 3) (own := RX2) (by decide +kernel) (by decide +kernel) (by decide +kernel) hl.1 dX2_init_1 (Nat.le_of_ble_eq_true rfl) (Nat.le_of_ble_eq_true rfl) (Nat.le_of_ble_eq_true rfl) ?_
  refine lv_aload_n hx hb dX2_init_4 rfl (lv_at hl 0 rfl) ?_
  refine lv_bipush (v := 18) hx hb dX2_init_5 (by decide) ?_
  refine kq_newi (N' := 18) hx hb (hts (.arrayClass .int) (by decide +kernel)) hK hw (by decide) (by decide) (by decide) (Nat.le_of_ble_eq_true rfl) (Nat.le_of_ble_eq_true rfl) dX2_init_7 (fun g1 H L2 σ1 hq_g1 eL2 eσ1 hw => ?_)
  have hN_a_g1 : a ≠ g1 := fun h9 => hq_g1 (h9 ▸ hL_a)
  have hS_a : σ1 a = .inr (2, [.null, .null, .null, .null, .int 0, .int 0, .int 0, .int 0]) := by rw [eσ1]; exact kq_new_far hq_g1 hL_a hS_a
  have hL_a : a ∈ L2 := by rw [eL2]; exact List.mem_append_left _ hL_a
  have hS_g1 : σ1 g1 = .inl (E.2 0, 18, .inl (fun _ => 0)) := by rw [eσ1]; exact va_up_self _ _ _
  have hL_g1 : g1 ∈ L2 := by rw [eL2]; exact List.mem_append_right _ List.mem_cons_self
  have hO_g1 := hE.out hq_g1
  have hE := hE.mk hq_g1 eL2 eσ1
  refine kq_putF (ci := 2) (v := .ref g1) (ty := .array .int) (C := RX2) (T := TX2) (N := 8) (fs' := [.ref g1, .null, .null, .null, .int 0, .int 0, .int 0, .int 0]) hx hb hts fi_X2_init_X2 tyX2 tyX2_ok nmX2 hown hK hw hL_a hS_a rfl 0 (by decide) (hts (.fieldLink RX2 9 "WrongWord$Gate" "letters" "[I") ow_X2_init_9) rfl hnm rfl (by decide +kernel) rfl rfl (Nat.le_of_ble_eq_true rfl) rfl dX2_init_9 (fun H locs σ3 eσ3 hw => ?_)
  have nhS_g1 : σ3 g1 = .inl (E.2 0, 18, .inl (fun _ => 0)) := by rw [eσ3]; exact kq_far (Ne.symm hN_a_g1) hS_g1
  have nhS_a : σ3 a = .inr (2, [.ref g1, .null, .null, .null, .int 0, .int 0, .int 0, .int 0]) := by rw [eσ3]; exact va_up_self _ _ _
  have hS_g1 := nhS_g1
  have hS_a := nhS_a
  have hE := hE.self eσ3
  refine lv_aload_n hx hb dX2_init_12 rfl (lv_at hl 0 rfl) ?_
  refine lv_iconst (v := 4) hx hb dX2_init_13 (by decide) ?_
  refine kq_newi (N' := 4) hx hb (hts (.arrayClass .int) (by decide +kernel)) hK hw (by decide) (by decide) (by decide) (Nat.le_of_ble_eq_true rfl) (Nat.le_of_ble_eq_true rfl) dX2_init_14 (fun g2 H L5 σ4 hq_g2 eL5 eσ4 hw => ?_)
  have hN_g1_g2 : g1 ≠ g2 := fun h9 => hq_g2 (h9 ▸ hL_g1)
  have hS_g1 : σ4 g1 = .inl (E.2 0, 18, .inl (fun _ => 0)) := by rw [eσ4]; exact kq_new_far hq_g2 hL_g1 hS_g1
  have hL_g1 : g1 ∈ L5 := by rw [eL5]; exact List.mem_append_left _ hL_g1
  have hN_a_g2 : a ≠ g2 := fun h9 => hq_g2 (h9 ▸ hL_a)
  have hS_a : σ4 a = .inr (2, [.ref g1, .null, .null, .null, .int 0, .int 0, .int 0, .int 0]) := by rw [eσ4]; exact kq_new_far hq_g2 hL_a hS_a
  have hL_a : a ∈ L5 := by rw [eL5]; exact List.mem_append_left _ hL_a
  have hS_g2 : σ4 g2 = .inl (E.2 0, 4, .inl (fun _ => 0)) := by rw [eσ4]; exact va_up_self _ _ _
  have hL_g2 : g2 ∈ L5 := by rw [eL5]; exact List.mem_append_right _ List.mem_cons_self
  have hO_g2 := hE.out hq_g2
  have hE := hE.mk hq_g2 eL5 eσ4
  refine kq_putF (ci := 2) (v := .ref g2) (ty := .array .int) (C := RX2) (T := TX2) (N := 8) (fs' := [.ref g1, .ref g2, .null, .null, .int 0, .int 0, .int 0, .int 0]) hx hb hts fi_X2_init_X2 tyX2 tyX2_ok nmX2 hown hK hw hL_a hS_a rfl 1 (by decide) (hts (.fieldLink RX2 15 "WrongWord$Gate" "kinds" "[I") ow_X2_init_15) rfl hnm rfl (by decide +kernel) rfl rfl (Nat.le_of_ble_eq_true rfl) rfl dX2_init_16 (fun H locs σ6 eσ6 hw => ?_)
  have nhS_g1 : σ6 g1 = .inl (E.2 0, 18, .inl (fun _ => 0)) := by rw [eσ6]; exact kq_far (Ne.symm hN_a_g1) hS_g1
  have nhS_g2 : σ6 g2 = .inl (E.2 0, 4, .inl (fun _ => 0)) := by rw [eσ6]; exact kq_far (Ne.symm hN_a_g2) hS_g2
  have nhS_a : σ6 a = .inr (2, [.ref g1, .ref g2, .null, .null, .int 0, .int 0, .int 0, .int 0]) := by rw [eσ6]; exact va_up_self _ _ _
  have hS_g1 := nhS_g1
  have hS_g2 := nhS_g2
  have hS_a := nhS_a
  have hE := hE.self eσ6
  refine lv_aload_n hx hb dX2_init_19 rfl (lv_at hl 0 rfl) ?_
  refine lv_iconst (v := 4) hx hb dX2_init_20 (by decide) ?_
  refine kq_newi (N' := 4) hx hb (hts (.arrayClass .int) (by decide +kernel)) hK hw (by decide) (by decide) (by decide) (Nat.le_of_ble_eq_true rfl) (Nat.le_of_ble_eq_true rfl) dX2_init_21 (fun g3 H L8 σ7 hq_g3 eL8 eσ7 hw => ?_)
  have hN_g1_g3 : g1 ≠ g3 := fun h9 => hq_g3 (h9 ▸ hL_g1)
  have hS_g1 : σ7 g1 = .inl (E.2 0, 18, .inl (fun _ => 0)) := by rw [eσ7]; exact kq_new_far hq_g3 hL_g1 hS_g1
  have hL_g1 : g1 ∈ L8 := by rw [eL8]; exact List.mem_append_left _ hL_g1
  have hN_g2_g3 : g2 ≠ g3 := fun h9 => hq_g3 (h9 ▸ hL_g2)
  have hS_g2 : σ7 g2 = .inl (E.2 0, 4, .inl (fun _ => 0)) := by rw [eσ7]; exact kq_new_far hq_g3 hL_g2 hS_g2
  have hL_g2 : g2 ∈ L8 := by rw [eL8]; exact List.mem_append_left _ hL_g2
  have hN_a_g3 : a ≠ g3 := fun h9 => hq_g3 (h9 ▸ hL_a)
  have hS_a : σ7 a = .inr (2, [.ref g1, .ref g2, .null, .null, .int 0, .int 0, .int 0, .int 0]) := by rw [eσ7]; exact kq_new_far hq_g3 hL_a hS_a
  have hL_a : a ∈ L8 := by rw [eL8]; exact List.mem_append_left _ hL_a
  have hS_g3 : σ7 g3 = .inl (E.2 0, 4, .inl (fun _ => 0)) := by rw [eσ7]; exact va_up_self _ _ _
  have hL_g3 : g3 ∈ L8 := by rw [eL8]; exact List.mem_append_right _ List.mem_cons_self
  have hO_g3 := hE.out hq_g3
  have hE := hE.mk hq_g3 eL8 eσ7
  refine kq_putF (ci := 2) (v := .ref g3) (ty := .array .int) (C := RX2) (T := TX2) (N := 8) (fs' := [.ref g1, .ref g2, .ref g3, .null, .int 0, .int 0, .int 0, .int 0]) hx hb hts fi_X2_init_X2 tyX2 tyX2_ok nmX2 hown hK hw hL_a hS_a rfl 2 (by decide) (hts (.fieldLink RX2 18 "WrongWord$Gate" "fees" "[I") ow_X2_init_18) rfl hnm rfl (by decide +kernel) rfl rfl (Nat.le_of_ble_eq_true rfl) rfl dX2_init_23 (fun H locs σ9 eσ9 hw => ?_)
  have nhS_g1 : σ9 g1 = .inl (E.2 0, 18, .inl (fun _ => 0)) := by rw [eσ9]; exact kq_far (Ne.symm hN_a_g1) hS_g1
  have nhS_g2 : σ9 g2 = .inl (E.2 0, 4, .inl (fun _ => 0)) := by rw [eσ9]; exact kq_far (Ne.symm hN_a_g2) hS_g2
  have nhS_g3 : σ9 g3 = .inl (E.2 0, 4, .inl (fun _ => 0)) := by rw [eσ9]; exact kq_far (Ne.symm hN_a_g3) hS_g3
  have nhS_a : σ9 a = .inr (2, [.ref g1, .ref g2, .ref g3, .null, .int 0, .int 0, .int 0, .int 0]) := by rw [eσ9]; exact va_up_self _ _ _
  have hS_g1 := nhS_g1
  have hS_g2 := nhS_g2
  have hS_g3 := nhS_g3
  have hS_a := nhS_a
  have hE := hE.self eσ9
  refine lv_aload_n hx hb dX2_init_26 rfl (lv_at hl 0 rfl) ?_
  refine kq_new (ci := 4) (fs := [.null, .null, .null, .null, .int 0, .int 0, .int 0, .int 0]) (C := RX4) (T := TX4) (N := 8) hx hb hts fi_X2_init_X4 tyX4 tyX4_ok hown (hts (.classLink RX2 21 RX4) (by decide +kernel)) (hts (.instantiable RX4 8) (by decide +kernel)) (hts (.initialized RX4) (by decide +kernel)) hK hw rfl (fun j hj => by rcases (show j = 0 ∨ j = 1 ∨ j = 2 ∨ j = 3 ∨ j = 4 ∨ j = 5 ∨ j = 6 ∨ j = 7 by omega) with rfl | rfl | rfl | rfl | rfl | rfl | rfl | rfl <;> rfl) (Nat.le_of_ble_eq_true rfl) (Nat.le_of_ble_eq_true rfl) dX2_init_27 (fun n_ H L11 σ10 hq_n_ eL11 eσ10 hw => ?_)
  have hN_g1_n_ : g1 ≠ n_ := fun h9 => hq_n_ (h9 ▸ hL_g1)
  have hS_g1 : σ10 g1 = .inl (E.2 0, 18, .inl (fun _ => 0)) := by rw [eσ10]; exact kq_new_far hq_n_ hL_g1 hS_g1
  have hL_g1 : g1 ∈ L11 := by rw [eL11]; exact List.mem_append_left _ hL_g1
  have hN_g2_n_ : g2 ≠ n_ := fun h9 => hq_n_ (h9 ▸ hL_g2)
  have hS_g2 : σ10 g2 = .inl (E.2 0, 4, .inl (fun _ => 0)) := by rw [eσ10]; exact kq_new_far hq_n_ hL_g2 hS_g2
  have hL_g2 : g2 ∈ L11 := by rw [eL11]; exact List.mem_append_left _ hL_g2
  have hN_g3_n_ : g3 ≠ n_ := fun h9 => hq_n_ (h9 ▸ hL_g3)
  have hS_g3 : σ10 g3 = .inl (E.2 0, 4, .inl (fun _ => 0)) := by rw [eσ10]; exact kq_new_far hq_n_ hL_g3 hS_g3
  have hL_g3 : g3 ∈ L11 := by rw [eL11]; exact List.mem_append_left _ hL_g3
  have hN_a_n_ : a ≠ n_ := fun h9 => hq_n_ (h9 ▸ hL_a)
  have hS_a : σ10 a = .inr (2, [.ref g1, .ref g2, .ref g3, .null, .int 0, .int 0, .int 0, .int 0]) := by rw [eσ10]; exact kq_new_far hq_n_ hL_a hS_a
  have hL_a : a ∈ L11 := by rw [eL11]; exact List.mem_append_left _ hL_a
  have hS_n_ : σ10 n_ = .inr (4, [.null, .null, .null, .null, .int 0, .int 0, .int 0, .int 0]) := by rw [eσ10]; exact va_up_self _ _ _
  have hL_n_ : n_ ∈ L11 := by rw [eL11]; exact List.mem_append_right _ List.mem_cons_self
  have hO_n_ := hE.out hq_n_
  have hE := hE.mk hq_n_ eL11 eσ10
  refine lv_dup hx hb dX2_init_30 rfl ?_
  refine kq_ctorN (As := []) (rest := [.ref n_, .ref a]) (n := 0) (b := n_) (mc := 4) (ms := 31) ⟨hx, hb, hml, hown, hts⟩ (k_X4_init l E L11 σ10 hL_n_ hS_n_) gX2_init_X4_init_n23 rfl (hts (.initialized RX4) (by decide +kernel)) (by decide +kernel) (hts (.instanceMethod yX4_init) (by decide +kernel)) rfl (by decide +kernel) ⟨Nat.le_of_ble_eq_true rfl, Nat.le_of_ble_eq_true rfl⟩ hK hw rfl hl.1 rfl (Nat.le_of_ble_eq_true rfl) dX2_init_31 rfl rfl ⟨Nat.le_of_ble_eq_true rfl, Nat.le_of_ble_eq_true rfl⟩ (fun L13 σ12 H locs hp hw => ?_)
  obtain ⟨hEx, t1, t2, t3, t4, hLqL13, nhS_n_, nhS_t1, nhS_t2, nhS_t3, nhS_t4⟩ := hp
  have hS_g1 : σ12 g1 = .inl (E.2 0, 18, .inl (fun _ => 0)) := (hEx.2 g1 hL_g1 hN_g1_n_).trans hS_g1
  have hL_g1 : g1 ∈ L13 := hEx.1 g1 hL_g1
  have hS_g2 : σ12 g2 = .inl (E.2 0, 4, .inl (fun _ => 0)) := (hEx.2 g2 hL_g2 hN_g2_n_).trans hS_g2
  have hL_g2 : g2 ∈ L13 := hEx.1 g2 hL_g2
  have hS_g3 : σ12 g3 = .inl (E.2 0, 4, .inl (fun _ => 0)) := (hEx.2 g3 hL_g3 hN_g3_n_).trans hS_g3
  have hL_g3 : g3 ∈ L13 := hEx.1 g3 hL_g3
  have hS_a : σ12 a = .inr (2, [.ref g1, .ref g2, .ref g3, .null, .int 0, .int 0, .int 0, .int 0]) := (hEx.2 a hL_a hN_a_n_).trans hS_a
  have hL_a : a ∈ L13 := hEx.1 a hL_a
  have hL_n_ : n_ ∈ L13 := hEx.1 n_ hL_n_
  have hS_n_ := nhS_n_
  have hS_t1 := nhS_t1
  have hL_t1 : t1 ∈ L13 := by rw [hLqL13]; simp
  have hS_t2 := nhS_t2
  have hL_t2 : t2 ∈ L13 := by rw [hLqL13]; simp
  have hS_t3 := nhS_t3
  have hL_t3 : t3 ∈ L13 := by rw [hLqL13]; simp
  have hS_t4 := nhS_t4
  have hL_t4 : t4 ∈ L13 := by rw [hLqL13]; simp
  have hE := hE.call hO_n_ hEx
  refine kq_putF (ci := 2) (v := .ref n_) (ty := .object "WrongWord$Moment") (C := RX2) (T := TX2) (N := 8) (fs' := [.ref g1, .ref g2, .ref g3, .ref n_, .int 0, .int 0, .int 0, .int 0]) hx hb hts fi_X2_init_X2 tyX2 tyX2_ok nmX2 hown hK hw hL_a hS_a rfl 3 (by decide) (hts (.fieldLink RX2 24 "WrongWord$Gate" "now" "LWrongWord$Moment;") ow_X2_init_24) rfl hnm rfl (by decide +kernel) rfl rfl (Nat.le_of_ble_eq_true rfl) rfl dX2_init_34 (fun H locs σ14 eσ14 hw => ?_)
  have nhS_g1 : σ14 g1 = .inl (E.2 0, 18, .inl (fun _ => 0)) := by rw [eσ14]; exact kq_far (Ne.symm hN_a_g1) hS_g1
  have nhS_g2 : σ14 g2 = .inl (E.2 0, 4, .inl (fun _ => 0)) := by rw [eσ14]; exact kq_far (Ne.symm hN_a_g2) hS_g2
  have nhS_g3 : σ14 g3 = .inl (E.2 0, 4, .inl (fun _ => 0)) := by rw [eσ14]; exact kq_far (Ne.symm hN_a_g3) hS_g3
  have nhS_n_ : σ14 n_ = .inr (4, [.ref t1, .ref t2, .ref t3, .ref t4, .int 0, .int 0, .int 0, .int 0]) := by rw [eσ14]; exact kq_far (Ne.symm hN_a_n_) hS_n_
  have nhS_t1 : σ14 t1 = .inl (E.2 0, 4, .inl (fun _ => 0)) := by rw [eσ14]; exact kq_far (kq_ne hS_t1 hS_a kq_nao) hS_t1
  have nhS_t2 : σ14 t2 = .inl (E.2 0, 9, .inl (fun _ => 0)) := by rw [eσ14]; exact kq_far (kq_ne hS_t2 hS_a kq_nao) hS_t2
  have nhS_t3 : σ14 t3 = .inl (E.2 0, 9, .inl (fun _ => 0)) := by rw [eσ14]; exact kq_far (kq_ne hS_t3 hS_a kq_nao) hS_t3
  have nhS_t4 : σ14 t4 = .inl (E.2 0, 9, .inl (fun _ => 0)) := by rw [eσ14]; exact kq_far (kq_ne hS_t4 hS_a kq_nao) hS_t4
  have nhS_a : σ14 a = .inr (2, [.ref g1, .ref g2, .ref g3, .ref n_, .int 0, .int 0, .int 0, .int 0]) := by rw [eσ14]; exact va_up_self _ _ _
  have hS_g1 := nhS_g1
  have hS_g2 := nhS_g2
  have hS_g3 := nhS_g3
  have hS_n_ := nhS_n_
  have hS_t1 := nhS_t1
  have hS_t2 := nhS_t2
  have hS_t3 := nhS_t3
  have hS_t4 := nhS_t4
  have hS_a := nhS_a
  have hE := hE.self eσ14
  exact kq_vret hx hb hr hlocks hw (Nat.le_of_ble_eq_true rfl) (Nat.le_of_ble_eq_true rfl) dX2_init_37 ⟨hE, g1, g2, g3, n_, t1, t2, t3, t4, (by rw [hLqL13, eL11, eL8, eL5, eL2] <;> simp), hS_a, hS_g1, hS_g2, hS_g3, hS_n_, hS_t1, hS_t2, hS_t3, hS_t4⟩
abbrev rmX6_init : Room := { frames := 3, cells := 10, slots := 173, locals := 60 }
set_option maxHeartbeats 4000000 in
set_option maxRecDepth 100000 in
theorem k_X6_init (l : Launch) (E : kq_T) (L : List Nat) (σ : Nat → va_E) {a : Nat} (hL_a : a ∈ L) (hS_a : σ a = .inr (6, [.null, .null, .int 0, .int 0, .int 0, .int 0, .int 0])) : kq_V l E yX6_init wsX6_init rmX6_init [.ref a] L σ (fun L1 σ1 => kq_ext a L σ L1 σ1 ∧ ∃ (bt dr d1 d2 d3 d4 d5 d6 d7 d8 : Nat), L1 = L ++ [bt, dr, d1, d2, d3, d4, d5, d6, d7, d8] ∧ σ1 a = .inr (6, [.ref bt, .ref dr, .int 0, .int 0, .int 0, .int 0, .int 0]) ∧ σ1 bt = .inl (E.2 0, 100, .inl (fun _ => 0)) ∧ σ1 dr = .inr (2, [.ref d1, .ref d2, .ref d3, .ref d4, .int 0, .int 0, .int 0, .int 0]) ∧ σ1 d1 = .inl (E.2 0, 18, .inl (fun _ => 0)) ∧ σ1 d2 = .inl (E.2 0, 4, .inl (fun _ => 0)) ∧ σ1 d3 = .inl (E.2 0, 4, .inl (fun _ => 0)) ∧ σ1 d4 = .inr (4, [.ref d5, .ref d6, .ref d7, .ref d8, .int 0, .int 0, .int 0, .int 0]) ∧ σ1 d5 = .inl (E.2 0, 4, .inl (fun _ => 0)) ∧ σ1 d6 = .inl (E.2 0, 9, .inl (fun _ => 0)) ∧ σ1 d7 = .inl (E.2 0, 9, .inl (fun _ => 0)) ∧ σ1 d8 = .inl (E.2 0, 9, .inl (fun _ => 0))) := by
  refine kq_enterV (cc := cX6_init) (maxL := 1) (ret := none) (by decide) rfl (Nat.le_of_ble_eq_true rfl) rfl ?_
  intro p e s m below meth c A ls C hK hw hl
  obtain ⟨hx, hb, hml, hown, hts, hr, hlocks, hnm⟩ := C
  have hown : s.vm.findClass RX6 = some m.cls := hown
  have hl : lv_has ls 1 [(0, .ref a)] := hl
  have hE : kq_ext a L σ L σ := kq_ext.rf
  refine lv_aload_n hx hb dX6_init_0 rfl (lv_at hl 0 rfl) ?_
  refine kq_obj hx hb hml hown hts (index := 3) (own := RX6) (by decide +kernel) (by decide +kernel) (by decide +kernel) hl.1 dX6_init_1 (Nat.le_of_ble_eq_true rfl) (Nat.le_of_ble_eq_true rfl) (Nat.le_of_ble_eq_true rfl) ?_
  refine lv_aload_n hx hb dX6_init_4 rfl (lv_at hl 0 rfl) ?_
  refine lv_bipush (v := 100) hx hb dX6_init_5 (by decide) ?_
  refine kq_newi (N' := 100) hx hb (hts (.arrayClass .int) (by decide +kernel)) hK hw (by decide) (by decide) (by decide) (Nat.le_of_ble_eq_true rfl) (Nat.le_of_ble_eq_true rfl) dX6_init_7 (fun bt H L2 σ1 hq_bt eL2 eσ1 hw => ?_)
  have hN_a_bt : a ≠ bt := fun h9 => hq_bt (h9 ▸ hL_a)
  have hS_a : σ1 a = .inr (6, [.null, .null, .int 0, .int 0, .int 0, .int 0, .int 0]) := by rw [eσ1]; exact kq_new_far hq_bt hL_a hS_a
  have hL_a : a ∈ L2 := by rw [eL2]; exact List.mem_append_left _ hL_a
  have hS_bt : σ1 bt = .inl (E.2 0, 100, .inl (fun _ => 0)) := by rw [eσ1]; exact va_up_self _ _ _
  have hL_bt : bt ∈ L2 := by rw [eL2]; exact List.mem_append_right _ List.mem_cons_self
  have hO_bt := hE.out hq_bt
  have hE := hE.mk hq_bt eL2 eσ1
  refine kq_putF (ci := 6) (v := .ref bt) (ty := .array .int) (C := RX6) (T := TX6) (N := 7) (fs' := [.ref bt, .null, .int 0, .int 0, .int 0, .int 0, .int 0]) hx hb hts fi_X6_init_X6 tyX6 tyX6_ok nmX6 hown hK hw hL_a hS_a rfl 0 (by decide) (hts (.fieldLink RX6 9 "WrongWord$Tape" "bytes" "[I") ow_X6_init_9) rfl hnm rfl (by decide +kernel) rfl rfl (Nat.le_of_ble_eq_true rfl) rfl dX6_init_9 (fun H locs σ3 eσ3 hw => ?_)
  have nhS_bt : σ3 bt = .inl (E.2 0, 100, .inl (fun _ => 0)) := by rw [eσ3]; exact kq_far (Ne.symm hN_a_bt) hS_bt
  have nhS_a : σ3 a = .inr (6, [.ref bt, .null, .int 0, .int 0, .int 0, .int 0, .int 0]) := by rw [eσ3]; exact va_up_self _ _ _
  have hS_bt := nhS_bt
  have hS_a := nhS_a
  have hE := hE.self eσ3
  refine lv_aload_n hx hb dX6_init_12 rfl (lv_at hl 0 rfl) ?_
  refine kq_new (ci := 2) (fs := [.null, .null, .null, .null, .int 0, .int 0, .int 0, .int 0]) (C := RX2) (T := TX2) (N := 8) hx hb hts fi_X6_init_X2 tyX2 tyX2_ok hown (hts (.classLink RX6 15 RX2) (by decide +kernel)) (hts (.instantiable RX2 8) (by decide +kernel)) (hts (.initialized RX2) (by decide +kernel)) hK hw rfl (fun j hj => by rcases (show j = 0 ∨ j = 1 ∨ j = 2 ∨ j = 3 ∨ j = 4 ∨ j = 5 ∨ j = 6 ∨ j = 7 by omega) with rfl | rfl | rfl | rfl | rfl | rfl | rfl | rfl <;> rfl) (Nat.le_of_ble_eq_true rfl) (Nat.le_of_ble_eq_true rfl) dX6_init_13 (fun dr H L5 σ4 hq_dr eL5 eσ4 hw => ?_)
  have hN_bt_dr : bt ≠ dr := fun h9 => hq_dr (h9 ▸ hL_bt)
  have hS_bt : σ4 bt = .inl (E.2 0, 100, .inl (fun _ => 0)) := by rw [eσ4]; exact kq_new_far hq_dr hL_bt hS_bt
  have hL_bt : bt ∈ L5 := by rw [eL5]; exact List.mem_append_left _ hL_bt
  have hN_a_dr : a ≠ dr := fun h9 => hq_dr (h9 ▸ hL_a)
  have hS_a : σ4 a = .inr (6, [.ref bt, .null, .int 0, .int 0, .int 0, .int 0, .int 0]) := by rw [eσ4]; exact kq_new_far hq_dr hL_a hS_a
  have hL_a : a ∈ L5 := by rw [eL5]; exact List.mem_append_left _ hL_a
  have hS_dr : σ4 dr = .inr (2, [.null, .null, .null, .null, .int 0, .int 0, .int 0, .int 0]) := by rw [eσ4]; exact va_up_self _ _ _
  have hL_dr : dr ∈ L5 := by rw [eL5]; exact List.mem_append_right _ List.mem_cons_self
  have hO_dr := hE.out hq_dr
  have hE := hE.mk hq_dr eL5 eσ4
  refine lv_dup hx hb dX6_init_16 rfl ?_
  refine kq_ctorN (As := []) (rest := [.ref dr, .ref a]) (n := 0) (b := dr) (mc := 8) (ms := 65) ⟨hx, hb, hml, hown, hts⟩ (k_X2_init l E L5 σ4 hL_dr hS_dr) gX6_init_X2_init_n17 rfl (hts (.initialized RX2) (by decide +kernel)) (by decide +kernel) (hts (.instanceMethod yX2_init) (by decide +kernel)) rfl (by decide +kernel) ⟨Nat.le_of_ble_eq_true rfl, Nat.le_of_ble_eq_true rfl⟩ hK hw rfl hl.1 rfl (Nat.le_of_ble_eq_true rfl) dX6_init_17 rfl rfl ⟨Nat.le_of_ble_eq_true rfl, Nat.le_of_ble_eq_true rfl⟩ (fun L7 σ6 H locs hp hw => ?_)
  obtain ⟨hEx, d1, d2, d3, d4, d5, d6, d7, d8, hLqL7, nhS_dr, nhS_d1, nhS_d2, nhS_d3, nhS_d4, nhS_d5, nhS_d6, nhS_d7, nhS_d8⟩ := hp
  have hS_bt : σ6 bt = .inl (E.2 0, 100, .inl (fun _ => 0)) := (hEx.2 bt hL_bt hN_bt_dr).trans hS_bt
  have hL_bt : bt ∈ L7 := hEx.1 bt hL_bt
  have hS_a : σ6 a = .inr (6, [.ref bt, .null, .int 0, .int 0, .int 0, .int 0, .int 0]) := (hEx.2 a hL_a hN_a_dr).trans hS_a
  have hL_a : a ∈ L7 := hEx.1 a hL_a
  have hL_dr : dr ∈ L7 := hEx.1 dr hL_dr
  have hS_dr := nhS_dr
  have hS_d1 := nhS_d1
  have hL_d1 : d1 ∈ L7 := by rw [hLqL7]; simp
  have hS_d2 := nhS_d2
  have hL_d2 : d2 ∈ L7 := by rw [hLqL7]; simp
  have hS_d3 := nhS_d3
  have hL_d3 : d3 ∈ L7 := by rw [hLqL7]; simp
  have hS_d4 := nhS_d4
  have hL_d4 : d4 ∈ L7 := by rw [hLqL7]; simp
  have hS_d5 := nhS_d5
  have hL_d5 : d5 ∈ L7 := by rw [hLqL7]; simp
  have hS_d6 := nhS_d6
  have hL_d6 : d6 ∈ L7 := by rw [hLqL7]; simp
  have hS_d7 := nhS_d7
  have hL_d7 : d7 ∈ L7 := by rw [hLqL7]; simp
  have hS_d8 := nhS_d8
  have hL_d8 : d8 ∈ L7 := by rw [hLqL7]; simp
  have hE := hE.call hO_dr hEx
  refine kq_putF (ci := 6) (v := .ref dr) (ty := .object "WrongWord$Gate") (C := RX6) (T := TX6) (N := 7) (fs' := [.ref bt, .ref dr, .int 0, .int 0, .int 0, .int 0, .int 0]) hx hb hts fi_X6_init_X6 tyX6 tyX6_ok nmX6 hown hK hw hL_a hS_a rfl 1 (by decide) (hts (.fieldLink RX6 18 "WrongWord$Tape" "draft" "LWrongWord$Gate;") ow_X6_init_18) rfl hnm rfl (by decide +kernel) rfl rfl (Nat.le_of_ble_eq_true rfl) rfl dX6_init_20 (fun H locs σ8 eσ8 hw => ?_)
  have nhS_bt : σ8 bt = .inl (E.2 0, 100, .inl (fun _ => 0)) := by rw [eσ8]; exact kq_far (Ne.symm hN_a_bt) hS_bt
  have nhS_dr : σ8 dr = .inr (2, [.ref d1, .ref d2, .ref d3, .ref d4, .int 0, .int 0, .int 0, .int 0]) := by rw [eσ8]; exact kq_far (Ne.symm hN_a_dr) hS_dr
  have nhS_d1 : σ8 d1 = .inl (E.2 0, 18, .inl (fun _ => 0)) := by rw [eσ8]; exact kq_far (kq_ne hS_d1 hS_a kq_nao) hS_d1
  have nhS_d2 : σ8 d2 = .inl (E.2 0, 4, .inl (fun _ => 0)) := by rw [eσ8]; exact kq_far (kq_ne hS_d2 hS_a kq_nao) hS_d2
  have nhS_d3 : σ8 d3 = .inl (E.2 0, 4, .inl (fun _ => 0)) := by rw [eσ8]; exact kq_far (kq_ne hS_d3 hS_a kq_nao) hS_d3
  have nhS_d4 : σ8 d4 = .inr (4, [.ref d5, .ref d6, .ref d7, .ref d8, .int 0, .int 0, .int 0, .int 0]) := by rw [eσ8]; exact kq_far (kq_ne hS_d4 hS_a (kq_noo (by decide))) hS_d4
  have nhS_d5 : σ8 d5 = .inl (E.2 0, 4, .inl (fun _ => 0)) := by rw [eσ8]; exact kq_far (kq_ne hS_d5 hS_a kq_nao) hS_d5
  have nhS_d6 : σ8 d6 = .inl (E.2 0, 9, .inl (fun _ => 0)) := by rw [eσ8]; exact kq_far (kq_ne hS_d6 hS_a kq_nao) hS_d6
  have nhS_d7 : σ8 d7 = .inl (E.2 0, 9, .inl (fun _ => 0)) := by rw [eσ8]; exact kq_far (kq_ne hS_d7 hS_a kq_nao) hS_d7
  have nhS_d8 : σ8 d8 = .inl (E.2 0, 9, .inl (fun _ => 0)) := by rw [eσ8]; exact kq_far (kq_ne hS_d8 hS_a kq_nao) hS_d8
  have nhS_a : σ8 a = .inr (6, [.ref bt, .ref dr, .int 0, .int 0, .int 0, .int 0, .int 0]) := by rw [eσ8]; exact va_up_self _ _ _
  have hS_bt := nhS_bt
  have hS_dr := nhS_dr
  have hS_d1 := nhS_d1
  have hS_d2 := nhS_d2
  have hS_d3 := nhS_d3
  have hS_d4 := nhS_d4
  have hS_d5 := nhS_d5
  have hS_d6 := nhS_d6
  have hS_d7 := nhS_d7
  have hS_d8 := nhS_d8
  have hS_a := nhS_a
  have hE := hE.self eσ8
  exact kq_vret hx hb hr hlocks hw (Nat.le_of_ble_eq_true rfl) (Nat.le_of_ble_eq_true rfl) dX6_init_23 ⟨hE, bt, dr, d1, d2, d3, d4, d5, d6, d7, d8, (by rw [hLqL7, eL5, eL2] <;> simp), hS_a, hS_bt, hS_dr, hS_d1, hS_d2, hS_d3, hS_d4, hS_d5, hS_d6, hS_d7, hS_d8⟩
abbrev rmX3_init : Room := { frames := 1, cells := 2, slots := 100, locals := 20 }
set_option maxHeartbeats 4000000 in
set_option maxRecDepth 100000 in
theorem k_X3_init (l : Launch) (E : kq_T) (L : List Nat) (σ : Nat → va_E) {a : Nat} (hL_a : a ∈ L) (hS_a : σ a = .inr (3, [.null, .null])) : kq_V l E yX3_init wsX3_init rmX3_init [.ref a] L σ (fun L1 σ1 => kq_ext a L σ L1 σ1 ∧ ∃ (c1 c2 : Nat), L1 = L ++ [c1, c2] ∧ σ1 a = .inr (3, [.ref c1, .ref c2]) ∧ σ1 c1 = .inl (E.2 0, 36, .inl (fun _ => 0)) ∧ σ1 c2 = .inl (E.2 0, 64, .inl (fun _ => 0))) := by
  refine kq_enterV (cc := cX3_init) (maxL := 1) (ret := none) (by decide) rfl (Nat.le_of_ble_eq_true rfl) rfl ?_
  intro p e s m below meth c A ls C hK hw hl
  obtain ⟨hx, hb, hml, hown, hts, hr, hlocks, hnm⟩ := C
  have hown : s.vm.findClass RX3 = some m.cls := hown
  have hl : lv_has ls 1 [(0, .ref a)] := hl
  have hE : kq_ext a L σ L σ := kq_ext.rf
  refine lv_aload_n hx hb dX3_init_0 rfl (lv_at hl 0 rfl) ?_
  refine kq_obj hx hb hml hown hts (index := 3) (own := RX3) (by decide +kernel) (by decide +kernel) (by decide +kernel) hl.1 dX3_init_1 (Nat.le_of_ble_eq_true rfl) (Nat.le_of_ble_eq_true rfl) (Nat.le_of_ble_eq_true rfl) ?_
  refine lv_aload_n hx hb dX3_init_4 rfl (lv_at hl 0 rfl) ?_
  refine lv_bipush (v := 36) hx hb dX3_init_5 (by decide) ?_
  refine kq_newi (N' := 36) hx hb (hts (.arrayClass .int) (by decide +kernel)) hK hw (by decide) (by decide) (by decide) (Nat.le_of_ble_eq_true rfl) (Nat.le_of_ble_eq_true rfl) dX3_init_7 (fun c1 H L2 σ1 hq_c1 eL2 eσ1 hw => ?_)
  have hN_a_c1 : a ≠ c1 := fun h9 => hq_c1 (h9 ▸ hL_a)
  have hS_a : σ1 a = .inr (3, [.null, .null]) := by rw [eσ1]; exact kq_new_far hq_c1 hL_a hS_a
  have hL_a : a ∈ L2 := by rw [eL2]; exact List.mem_append_left _ hL_a
  have hS_c1 : σ1 c1 = .inl (E.2 0, 36, .inl (fun _ => 0)) := by rw [eσ1]; exact va_up_self _ _ _
  have hL_c1 : c1 ∈ L2 := by rw [eL2]; exact List.mem_append_right _ List.mem_cons_self
  have hO_c1 := hE.out hq_c1
  have hE := hE.mk hq_c1 eL2 eσ1
  refine kq_putF (ci := 3) (v := .ref c1) (ty := .array .int) (C := RX3) (T := TX3) (N := 2) (fs' := [.ref c1, .null]) hx hb hts fi_X3_init_X3 tyX3 tyX3_ok nmX3 hown hK hw hL_a hS_a rfl 0 (by decide) (hts (.fieldLink RX3 9 "WrongWord$Guesses" "catching" "[I") ow_X3_init_9) rfl hnm rfl (by decide +kernel) rfl rfl (Nat.le_of_ble_eq_true rfl) rfl dX3_init_9 (fun H locs σ3 eσ3 hw => ?_)
  have nhS_c1 : σ3 c1 = .inl (E.2 0, 36, .inl (fun _ => 0)) := by rw [eσ3]; exact kq_far (Ne.symm hN_a_c1) hS_c1
  have nhS_a : σ3 a = .inr (3, [.ref c1, .null]) := by rw [eσ3]; exact va_up_self _ _ _
  have hS_c1 := nhS_c1
  have hS_a := nhS_a
  have hE := hE.self eσ3
  refine lv_aload_n hx hb dX3_init_12 rfl (lv_at hl 0 rfl) ?_
  refine lv_bipush (v := 64) hx hb dX3_init_13 (by decide) ?_
  refine kq_newi (N' := 64) hx hb (hts (.arrayClass .int) (by decide +kernel)) hK hw (by decide) (by decide) (by decide) (Nat.le_of_ble_eq_true rfl) (Nat.le_of_ble_eq_true rfl) dX3_init_15 (fun c2 H L5 σ4 hq_c2 eL5 eσ4 hw => ?_)
  have hN_c1_c2 : c1 ≠ c2 := fun h9 => hq_c2 (h9 ▸ hL_c1)
  have hS_c1 : σ4 c1 = .inl (E.2 0, 36, .inl (fun _ => 0)) := by rw [eσ4]; exact kq_new_far hq_c2 hL_c1 hS_c1
  have hL_c1 : c1 ∈ L5 := by rw [eL5]; exact List.mem_append_left _ hL_c1
  have hN_a_c2 : a ≠ c2 := fun h9 => hq_c2 (h9 ▸ hL_a)
  have hS_a : σ4 a = .inr (3, [.ref c1, .null]) := by rw [eσ4]; exact kq_new_far hq_c2 hL_a hS_a
  have hL_a : a ∈ L5 := by rw [eL5]; exact List.mem_append_left _ hL_a
  have hS_c2 : σ4 c2 = .inl (E.2 0, 64, .inl (fun _ => 0)) := by rw [eσ4]; exact va_up_self _ _ _
  have hL_c2 : c2 ∈ L5 := by rw [eL5]; exact List.mem_append_right _ List.mem_cons_self
  have hO_c2 := hE.out hq_c2
  have hE := hE.mk hq_c2 eL5 eσ4
  refine kq_putF (ci := 3) (v := .ref c2) (ty := .array .int) (C := RX3) (T := TX3) (N := 2) (fs' := [.ref c1, .ref c2]) hx hb hts fi_X3_init_X3 tyX3 tyX3_ok nmX3 hown hK hw hL_a hS_a rfl 1 (by decide) (hts (.fieldLink RX3 15 "WrongWord$Guesses" "menFor" "[I") ow_X3_init_15) rfl hnm rfl (by decide +kernel) rfl rfl (Nat.le_of_ble_eq_true rfl) rfl dX3_init_17 (fun H locs σ6 eσ6 hw => ?_)
  have nhS_c1 : σ6 c1 = .inl (E.2 0, 36, .inl (fun _ => 0)) := by rw [eσ6]; exact kq_far (Ne.symm hN_a_c1) hS_c1
  have nhS_c2 : σ6 c2 = .inl (E.2 0, 64, .inl (fun _ => 0)) := by rw [eσ6]; exact kq_far (Ne.symm hN_a_c2) hS_c2
  have nhS_a : σ6 a = .inr (3, [.ref c1, .ref c2]) := by rw [eσ6]; exact va_up_self _ _ _
  have hS_c1 := nhS_c1
  have hS_c2 := nhS_c2
  have hS_a := nhS_a
  have hE := hE.self eσ6
  exact kq_vret hx hb hr hlocks hw (Nat.le_of_ble_eq_true rfl) (Nat.le_of_ble_eq_true rfl) dX3_init_20 ⟨hE, c1, c2, (by rw [eL5, eL2] <;> simp), hS_a, hS_c1, hS_c2⟩
abbrev rmX1_init : Room := { frames := 1, cells := 1, slots := 16, locals := 20 }
set_option maxHeartbeats 4000000 in
set_option maxRecDepth 100000 in
theorem k_X1_init (l : Launch) (E : kq_T) (L : List Nat) (σ : Nat → va_E) {a : Nat} (hL_a : a ∈ L) (hS_a : σ a = .inr (1, [.null, .int 0, .int 0, .int 0, .int 0, .int 0])) : kq_V l E yX1_init wsX1_init rmX1_init [.ref a] L σ (fun L1 σ1 => kq_ext a L σ L1 σ1 ∧ ∃ (bd : Nat), L1 = L ++ [bd] ∧ σ1 a = .inr (1, [.ref bd, .int 0, .int 0, .int 0, .int 0, .int 0]) ∧ σ1 bd = .inl (E.2 0, 16, .inl (fun _ => 0))) := by
  refine kq_enterV (cc := cX1_init) (maxL := 1) (ret := none) (by decide) rfl (Nat.le_of_ble_eq_true rfl) rfl ?_
  intro p e s m below meth c A ls C hK hw hl
  obtain ⟨hx, hb, hml, hown, hts, hr, hlocks, hnm⟩ := C
  have hown : s.vm.findClass RX1 = some m.cls := hown
  have hl : lv_has ls 1 [(0, .ref a)] := hl
  have hE : kq_ext a L σ L σ := kq_ext.rf
  refine lv_aload_n hx hb dX1_init_0 rfl (lv_at hl 0 rfl) ?_
  refine kq_obj hx hb hml hown hts (index := 3) (own := RX1) (by decide +kernel) (by decide +kernel) (by decide +kernel) hl.1 dX1_init_1 (Nat.le_of_ble_eq_true rfl) (Nat.le_of_ble_eq_true rfl) (Nat.le_of_ble_eq_true rfl) ?_
  refine lv_aload_n hx hb dX1_init_4 rfl (lv_at hl 0 rfl) ?_
  refine lv_bipush (v := 16) hx hb dX1_init_5 (by decide) ?_
  refine kq_newi (N' := 16) hx hb (hts (.arrayClass .int) (by decide +kernel)) hK hw (by decide) (by decide) (by decide) (Nat.le_of_ble_eq_true rfl) (Nat.le_of_ble_eq_true rfl) dX1_init_7 (fun bd H L2 σ1 hq_bd eL2 eσ1 hw => ?_)
  have hN_a_bd : a ≠ bd := fun h9 => hq_bd (h9 ▸ hL_a)
  have hS_a : σ1 a = .inr (1, [.null, .int 0, .int 0, .int 0, .int 0, .int 0]) := by rw [eσ1]; exact kq_new_far hq_bd hL_a hS_a
  have hL_a : a ∈ L2 := by rw [eL2]; exact List.mem_append_left _ hL_a
  have hS_bd : σ1 bd = .inl (E.2 0, 16, .inl (fun _ => 0)) := by rw [eσ1]; exact va_up_self _ _ _
  have hL_bd : bd ∈ L2 := by rw [eL2]; exact List.mem_append_right _ List.mem_cons_self
  have hO_bd := hE.out hq_bd
  have hE := hE.mk hq_bd eL2 eσ1
  refine kq_putF (ci := 1) (v := .ref bd) (ty := .array .int) (C := RX1) (T := TX1) (N := 6) (fs' := [.ref bd, .int 0, .int 0, .int 0, .int 0, .int 0]) hx hb hts fi_X1_init_X1 tyX1 tyX1_ok nmX1 hown hK hw hL_a hS_a rfl 0 (by decide) (hts (.fieldLink RX1 11 "WrongWord$Asks" "bodies" "[I") ow_X1_init_11) rfl hnm rfl (by decide +kernel) rfl rfl (Nat.le_of_ble_eq_true rfl) rfl dX1_init_9 (fun H locs σ3 eσ3 hw => ?_)
  have nhS_bd : σ3 bd = .inl (E.2 0, 16, .inl (fun _ => 0)) := by rw [eσ3]; exact kq_far (Ne.symm hN_a_bd) hS_bd
  have nhS_a : σ3 a = .inr (1, [.ref bd, .int 0, .int 0, .int 0, .int 0, .int 0]) := by rw [eσ3]; exact va_up_self _ _ _
  have hS_bd := nhS_bd
  have hS_a := nhS_a
  have hE := hE.self eσ3
  exact kq_vret hx hb hr hlocks hw (Nat.le_of_ble_eq_true rfl) (Nat.le_of_ble_eq_true rfl) dX1_init_12 ⟨hE, bd, (by rw [eL2] <;> simp), hS_a, hS_bd⟩
abbrev rmX0_init : Room := { frames := 2, cells := 121, slots := 960, locals := 40 }
set_option maxHeartbeats 4000000 in
set_option maxRecDepth 100000 in
theorem k_X0_init (l : Launch) (E : kq_T) (L : List Nat) (σ : Nat → va_E) {a : Nat} (hL_a : a ∈ L) (hS_a : σ a = .inr (0, [.null, .int 0, .int 0])) : kq_V l E yX0_init wsX0_init rmX0_init [.ref a] L σ (fun L1 σ1 => kq_ext a L σ L1 σ1 ∧ ∃ (ah : Nat) (f : Nat → Option Nat) (ch : Nat → Nat → Nat), L1 = L ++ ([ah] ++ (List.range 24).flatMap (fun j => (List.range 5).map (ch j))) ∧ σ1 a = .inr (0, [.ref ah, .int 0, .int 0]) ∧ σ1 ah = .inl (E.2 3, 24, .inr (.inr (.inr (.inr f)))) ∧ chQ (momQ E) 5 L1 σ1 f ch 24) := by
  refine kq_enterV (cc := cX0_init) (maxL := 2) (ret := none) (by decide) rfl (Nat.le_of_ble_eq_true rfl) rfl ?_
  intro p e s m below meth c A ls C hK hw hl
  obtain ⟨hx, hb, hml, hown, hts, hr, hlocks, hnm⟩ := C
  have hown : s.vm.findClass RX0 = some m.cls := hown
  have hl : lv_has ls 2 [(0, .ref a)] := hl
  have hE : kq_ext a L σ L σ := kq_ext.rf
  refine lv_aload_n hx hb dX0_init_0 rfl (lv_at hl 0 rfl) ?_
  refine kq_obj hx hb hml hown hts (index := 3) (own := RX0) (by decide +kernel) (by decide +kernel) (by decide +kernel) hl.1 dX0_init_1 (Nat.le_of_ble_eq_true rfl) (Nat.le_of_ble_eq_true rfl) (Nat.le_of_ble_eq_true rfl) ?_
  refine lv_aload_n hx hb dX0_init_4 rfl (lv_at hl 0 rfl) ?_
  refine lv_bipush (v := 24) hx hb dX0_init_5 (by decide) ?_
  refine kq_newq (C := "WrongWord$Moment") (N' := 24) hx hb hown (hts (.classLink RX0 9 RX4) (by decide +kernel)) hK.2.2.2.1 hK hw 3 rfl (by decide) (by decide) (by decide) (Nat.le_of_ble_eq_true rfl) (Nat.le_of_ble_eq_true rfl) dX0_init_7 (fun ah H L2 σ1 hq_ah eL2 eσ1 hw => ?_)
  have hN_a_ah : a ≠ ah := fun h9 => hq_ah (h9 ▸ hL_a)
  have hS_a : σ1 a = .inr (0, [.null, .int 0, .int 0]) := by rw [eσ1]; exact kq_new_far hq_ah hL_a hS_a
  have hL_a : a ∈ L2 := by rw [eL2]; exact List.mem_append_left _ hL_a
  have hS_ah : σ1 ah = .inl (E.2 3, 24, .inr (.inr (.inr (.inr (fun _ => none))))) := by rw [eσ1]; exact va_up_self _ _ _
  have hL_ah : ah ∈ L2 := by rw [eL2]; exact List.mem_append_right _ List.mem_cons_self
  have hO_ah := hE.out hq_ah
  have hE := hE.mk hq_ah eL2 eσ1
  refine kq_putF (ci := 0) (v := .ref ah) (ty := .array (.object "WrongWord$Moment")) (C := RX0) (T := TX0) (N := 3) (fs' := [.ref ah, .int 0, .int 0]) hx hb hts fi_X0_init_X0 tyX0 tyX0_ok nmX0 hown hK hw hL_a hS_a rfl 0 (by decide) (hts (.fieldLink RX0 11 "WrongWord$Acts" "ahead" "[LWrongWord$Moment;") ow_X0_init_11) rfl hnm rfl (by decide +kernel) rfl rfl (Nat.le_of_ble_eq_true rfl) rfl dX0_init_10 (fun H locs σ3 eσ3 hw => ?_)
  have nhS_ah : σ3 ah = .inl (E.2 3, 24, .inr (.inr (.inr (.inr (fun _ => none))))) := by rw [eσ3]; exact kq_far (Ne.symm hN_a_ah) hS_ah
  have nhS_a : σ3 a = .inr (0, [.ref ah, .int 0, .int 0]) := by rw [eσ3]; exact va_up_self _ _ _
  have hS_ah := nhS_ah
  have hS_a := nhS_a
  have hE := hE.self eσ3
  refine lv_iconst (v := 0) hx hb dX0_init_13 (by decide) ?_
  refine lv_istore_n (lv' := [(1, .int 0), (0, .ref a)]) hx hb dX0_init_14 rfl hl (by decide) rfl (fun ls hl => ?_)
  refine kq_for (nL := 2) 24 (fun i Lv σv => ∃ (f : Nat → Option Nat) (ch : Nat → Nat → Nat), Lv = L2 ++ (List.range i).flatMap (fun j => (List.range 5).map (ch j)) ∧ kq_ext ah L2 σ3 Lv σv ∧ σv ah = .inl (E.2 3, 24, .inr (.inr (.inr (.inr f)))) ∧ chQ (momQ E) 5 Lv σv f ch i) (fun i => [(1, .int (nI i)), (0, .ref a)]) 5 39 ⟨_, fun _ _ => 0, by simp, kq_ext.rf, hS_ah, fun j hj => absurd hj (Nat.not_lt_zero j)⟩ hw hl (fun i Lv σv H locs ls hi hI hw hl ih => ?_) (fun Lv σv H locs ls hI hw hl => ?_)
  · skip
    have hl : lv_has ls 2 [(1, .int (nI i)), (0, .ref a)] := hl
    obtain ⟨f9, ch9, eL9, hR, hS_ah, hQ9⟩ := hI
    have hS_a : σv a = .inr (0, [.ref ah, .int 0, .int 0]) := (hR.2 a hL_a hN_a_ah).trans hS_a
    have hL_a : a ∈ Lv := hR.1 a hL_a
    have hL_ah : ah ∈ Lv := hR.1 ah hL_ah
    have hS9_ah := hS_ah
    have hE : kq_ext ah Lv σv Lv σv := kq_ext.rf
    refine lv_iload_n hx hb dX0_init_15 rfl (lv_at hl 0 rfl) ?_
    refine lv_bipush (v := 24) hx hb dX0_init_16 (by decide) ?_
    refine lv_icmp_ge (tgt := 40) hx hb dX0_init_18 (by decide) (fun c4 => ?_) (fun c4 => ?_)
    · exact absurd c4 (nI_ge hi (by decide))
    refine lv_aload_n hx hb dX0_init_21 rfl (lv_at hl 1 rfl) ?_
    refine kq_get (ci := 0) (v := .ref ah) (C := RX0) (T := TX0) (N := 3) hx hb hts fi_X0_init_X0 hown hK hw hL_a hS_a rfl 0 (by decide) (hts (.fieldLink RX0 11 "WrongWord$Acts" "ahead" "[LWrongWord$Moment;") ow_X0_init_11) rfl dX0_init_22 ?_
    refine lv_iload_n hx hb dX0_init_25 rfl (lv_at hl 0 rfl) ?_
    refine kq_new (ci := 4) (fs := [.null, .null, .null, .null, .int 0, .int 0, .int 0, .int 0]) (C := RX4) (T := TX4) (N := 8) hx hb hts fi_X0_init_X4 tyX4 tyX4_ok hown (hts (.classLink RX0 9 RX4) (by decide +kernel)) (hts (.instantiable RX4 8) (by decide +kernel)) (hts (.initialized RX4) (by decide +kernel)) hK hw rfl (fun j hj => by rcases (show j = 0 ∨ j = 1 ∨ j = 2 ∨ j = 3 ∨ j = 4 ∨ j = 5 ∨ j = 6 ∨ j = 7 by omega) with rfl | rfl | rfl | rfl | rfl | rfl | rfl | rfl <;> rfl) (by show _ ≤ 121; omega) (by show _ ≤ 960; omega) dX0_init_26 (fun mo H L6 σ5 hq_mo eL6 eσ5 hw => ?_)
    have hN_a_mo : a ≠ mo := fun h9 => hq_mo (h9 ▸ hL_a)
    have hS_a : σ5 a = .inr (0, [.ref ah, .int 0, .int 0]) := by rw [eσ5]; exact kq_new_far hq_mo hL_a hS_a
    have hL_a : a ∈ L6 := by rw [eL6]; exact List.mem_append_left _ hL_a
    have hN_ah_mo : ah ≠ mo := fun h9 => hq_mo (h9 ▸ hL_ah)
    have hS_ah : σ5 ah = .inl (E.2 3, 24, .inr (.inr (.inr (.inr f9)))) := by rw [eσ5]; exact kq_new_far hq_mo hL_ah hS_ah
    have hL_ah : ah ∈ L6 := by rw [eL6]; exact List.mem_append_left _ hL_ah
    have hS_mo : σ5 mo = .inr (4, [.null, .null, .null, .null, .int 0, .int 0, .int 0, .int 0]) := by rw [eσ5]; exact va_up_self _ _ _
    have hL_mo : mo ∈ L6 := by rw [eL6]; exact List.mem_append_right _ List.mem_cons_self
    have hO_mo := hE.out hq_mo
    have hE := hE.mk hq_mo eL6 eσ5
    refine lv_dup hx hb dX0_init_29 rfl ?_
    refine kq_ctorN (As := []) (rest := [.ref mo, .int (nI i), .ref ah]) (n := 0) (b := mo) (mc := 4) (ms := 31) ⟨hx, hb, hml, hown, hts⟩ (k_X4_init l E L6 σ5 hL_mo hS_mo) gX0_init_X4_init_n17 rfl (hts (.initialized RX4) (by decide +kernel)) (by decide +kernel) (hts (.instanceMethod yX4_init) (by decide +kernel)) rfl (by decide +kernel) ⟨Nat.le_of_ble_eq_true rfl, Nat.le_of_ble_eq_true rfl⟩ hK hw rfl hl.1 rfl (Nat.le_of_ble_eq_true rfl) dX0_init_30 rfl rfl ⟨by show _ ≤ 121; omega, by show _ ≤ 960; omega⟩ (fun L8 σ7 H locs hp hw => ?_)
    obtain ⟨hEx, t1, t2, t3, t4, hLqL8, nhS_mo, nhS_t1, nhS_t2, nhS_t3, nhS_t4⟩ := hp
    have hS_a : σ7 a = .inr (0, [.ref ah, .int 0, .int 0]) := (hEx.2 a hL_a hN_a_mo).trans hS_a
    have hL_a : a ∈ L8 := hEx.1 a hL_a
    have hS_ah : σ7 ah = .inl (E.2 3, 24, .inr (.inr (.inr (.inr f9)))) := (hEx.2 ah hL_ah hN_ah_mo).trans hS_ah
    have hL_ah : ah ∈ L8 := hEx.1 ah hL_ah
    have hL_mo : mo ∈ L8 := hEx.1 mo hL_mo
    have hS_mo := nhS_mo
    have hS_t1 := nhS_t1
    have hL_t1 : t1 ∈ L8 := by rw [hLqL8]; simp
    have hS_t2 := nhS_t2
    have hL_t2 : t2 ∈ L8 := by rw [hLqL8]; simp
    have hS_t3 := nhS_t3
    have hL_t3 : t3 ∈ L8 := by rw [hLqL8]; simp
    have hS_t4 := nhS_t4
    have hL_t4 : t4 ∈ L8 := by rw [hLqL8]; simp
    have hE := hE.call hO_mo hEx
    refine kq_astq hx hb hK hw hL_ah 3 4 rfl hS_ah hL_mo hS_mo rfl (vp_in_nI hi (by decide)) dX0_init_33 (fun H locs σ9 eσ9 hw => ?_)
    have nhS_a : σ9 a = .inr (0, [.ref ah, .int 0, .int 0]) := by rw [eσ9]; exact kq_far hN_a_ah hS_a
    have nhS_mo : σ9 mo = .inr (4, [.ref t1, .ref t2, .ref t3, .ref t4, .int 0, .int 0, .int 0, .int 0]) := by rw [eσ9]; exact kq_far (Ne.symm hN_ah_mo) hS_mo
    have nhS_t1 : σ9 t1 = .inl (E.2 0, 4, .inl (fun _ => 0)) := by rw [eσ9]; exact kq_far (kq_ne hS_t1 hS_ah (kq_nlen (by decide))) hS_t1
    have nhS_t2 : σ9 t2 = .inl (E.2 0, 9, .inl (fun _ => 0)) := by rw [eσ9]; exact kq_far (kq_ne hS_t2 hS_ah (kq_nlen (by decide))) hS_t2
    have nhS_t3 : σ9 t3 = .inl (E.2 0, 9, .inl (fun _ => 0)) := by rw [eσ9]; exact kq_far (kq_ne hS_t3 hS_ah (kq_nlen (by decide))) hS_t3
    have nhS_t4 : σ9 t4 = .inl (E.2 0, 9, .inl (fun _ => 0)) := by rw [eσ9]; exact kq_far (kq_ne hS_t4 hS_ah (kq_nlen (by decide))) hS_t4
    have nhS_ah : σ9 ah = .inl (E.2 3, 24, .inr (.inr (.inr (.inr (va_up f9 (Int32.toNatClampNeg (nI i)) (some mo)))))) := by rw [eσ9]; exact va_up_self _ _ _
    have hS_a := nhS_a
    have hS_mo := nhS_mo
    have hS_t1 := nhS_t1
    have hS_t2 := nhS_t2
    have hS_t3 := nhS_t3
    have hS_t4 := nhS_t4
    have hS_ah := nhS_ah
    have hE := hE.self eσ9
    refine lv_iinc (v := nI i + 1) (lv' := [(1, .int (nI i + 1)), (0, .ref a)]) hx hb dX0_init_34 hl (k := 0) rfl rfl (by decide) rfl (fun ls hl => ?_)
    refine lv_goto (tgt := 15) hx hb dX0_init_37 (by decide) ?_
    have hl : lv_has ls 2 [(1, .int (nI (i + 1))), (0, .ref a)] := by rw [nI_succ]; exact lv_sub hl [0, 1] rfl
    have hne9 : ∀ j, j < i → ∀ q, q < 5 → ch9 j q ≠ ah := fun j hj => mom_ne (hQ9 j hj).2.2 (Or.inr ⟨_, _, _, hS9_ah, by decide, by decide⟩)
    have hQ8 := chQ.ext (loc_mom E) hQ9 hE hne9
    have hmem8 : ∀ q, q < 5 → (fun k => if k = 0 then mo else if k = 1 then t1 else if k = 2 then t2 else if k = 3 then t3 else t4) q ∈ L8 := by
      intro q hq
      rcases (show q = 0 ∨ q = 1 ∨ q = 2 ∨ q = 3 ∨ q = 4 by omega) with rfl | rfl | rfl | rfl | rfl
      · exact hL_mo
      · exact hL_t1
      · exact hL_t2
      · exact hL_t3
      · exact hL_t4
    have hP8 : momQ E σ9 (fun k => if k = 0 then mo else if k = 1 then t1 else if k = 2 then t2 else if k = 3 then t3 else t4) := ⟨hS_mo, hS_t1, hS_t2, hS_t3, hS_t4⟩
    have hLn : L8 = L2 ++ (List.range (i + 1)).flatMap (fun j => (List.range 5).map (va_up ch9 i (fun k => if k = 0 then mo else if k = 1 then t1 else if k = 2 then t2 else if k = 3 then t3 else t4) j)) := by rw [fm_next, ← List.append_assoc, ← eL9, hLqL8, eL6]; simp [List.range_succ]
    exact W.widen (by omega) (by omega) (ih _ _ _ _ _ ⟨_, _, hLn, hR.trans hE, hS_ah, hQ8.add (by omega) hmem8 hP8⟩ hw hl)
  · skip
    have hl : lv_has ls 2 [(1, .int (nI 24)), (0, .ref a)] := hl
    obtain ⟨f9, ch9, eL9, hR, nS_ah, nQ9⟩ := hI
    have nS_a : σv a = .inr (0, [.ref ah, .int 0, .int 0]) := (hR.2 a hL_a hN_a_ah).trans hS_a
    have nL_a : a ∈ Lv := hR.1 a hL_a
    have nL_ah : ah ∈ Lv := hR.1 ah hL_ah
    have hE := hE.call hO_ah hR
    obtain ⟨f_ah, ef_ah⟩ : ∃ z, z = f9 := ⟨_, rfl⟩
    obtain ⟨ch_ah, ech_ah⟩ : ∃ z, z = ch9 := ⟨_, rfl⟩
    rw [← ef_ah] at nS_ah nQ9
    rw [← ech_ah] at eL9 nQ9
    have hS_a := nS_a
    have hL_a := nL_a
    have hS_ah := nS_ah
    have hL_ah := nL_ah
    obtain ⟨L_ah, eL_ah⟩ : ∃ z, z = Lv := ⟨_, rfl⟩
    obtain ⟨σ_ah, eσ_ah⟩ : ∃ z, z = σv := ⟨_, rfl⟩
    subst eL_ah
    subst eσ_ah
    have hQ_ac := nQ9
    have eLL_ah := eL9
    refine lv_iload_n hx hb dX0_init_15 rfl (lv_at hl 0 rfl) ?_
    refine lv_bipush (v := 24) hx hb dX0_init_16 (by decide) ?_
    refine lv_icmp_ge (tgt := 40) hx hb dX0_init_18 (by decide) (fun c10 => ?_) (fun c10 => ?_)
    rotate_left
    · exact absurd (by decide) c10
    exact kq_vret hx hb hr hlocks hw (Nat.le_of_ble_eq_true rfl) (Nat.le_of_ble_eq_true rfl) dX0_init_40 ⟨hE, ah, _, _, (by rw [eLL_ah, eL2] <;> simp), hS_a, hS_ah, hQ_ac⟩
/-- a WrongWord at x as its constructor leaves it: every cell -/
def blt_X (E : kq_T) (L L1 : List Nat) (σ : Nat → va_E) (x : Nat) : Prop := ∃ (ro tp bt dr d1 d2 d3 d4 d5 d6 d7 d8 gt g1 g2 g3 n_ t1 t2 t3 t4 ac ah im gu c1 c2 ak bd : Nat) (f_ah f_ro f_im : Nat → Option Nat) (ch_ah ch_ro ch_im : Nat → Nat → Nat), L1 = L ++ ([ro, tp, bt, dr, d1, d2, d3, d4, d5, d6, d7, d8, gt, g1, g2, g3, n_, t1, t2, t3, t4, ac, ah] ++ ((List.range 24).flatMap (fun j => (List.range 5).map (ch_ah j)) ++ ([im, gu, c1, c2, ak, bd] ++ ((List.range 8).flatMap (fun j => (List.range 2).map (ch_ro j)) ++ (List.range 2).flatMap (fun j => (List.range 9).map (ch_im j)))))) ∧ σ x = .inr (7, [.ref ro, .ref tp, .ref gt, .ref ac, .ref im, .ref gu, .ref ak, .int 0, .int 0]) ∧ σ ro = .inl (E.2 4, 8, .inr (.inr (.inr (.inr f_ro)))) ∧ σ tp = .inr (6, [.ref bt, .ref dr, .int 0, .int 0, .int 0, .int 0, .int 0]) ∧ σ bt = .inl (E.2 0, 100, .inl (fun _ => 0)) ∧ σ dr = .inr (2, [.ref d1, .ref d2, .ref d3, .ref d4, .int 0, .int 0, .int 0, .int 0]) ∧ σ d1 = .inl (E.2 0, 18, .inl (fun _ => 0)) ∧ σ d2 = .inl (E.2 0, 4, .inl (fun _ => 0)) ∧ σ d3 = .inl (E.2 0, 4, .inl (fun _ => 0)) ∧ σ d4 = .inr (4, [.ref d5, .ref d6, .ref d7, .ref d8, .int 0, .int 0, .int 0, .int 0]) ∧ σ d5 = .inl (E.2 0, 4, .inl (fun _ => 0)) ∧ σ d6 = .inl (E.2 0, 9, .inl (fun _ => 0)) ∧ σ d7 = .inl (E.2 0, 9, .inl (fun _ => 0)) ∧ σ d8 = .inl (E.2 0, 9, .inl (fun _ => 0)) ∧ σ gt = .inr (2, [.ref g1, .ref g2, .ref g3, .ref n_, .int 0, .int 0, .int 0, .int 0]) ∧ σ g1 = .inl (E.2 0, 18, .inl (fun _ => 0)) ∧ σ g2 = .inl (E.2 0, 4, .inl (fun _ => 0)) ∧ σ g3 = .inl (E.2 0, 4, .inl (fun _ => 0)) ∧ σ n_ = .inr (4, [.ref t1, .ref t2, .ref t3, .ref t4, .int 0, .int 0, .int 0, .int 0]) ∧ σ t1 = .inl (E.2 0, 4, .inl (fun _ => 0)) ∧ σ t2 = .inl (E.2 0, 9, .inl (fun _ => 0)) ∧ σ t3 = .inl (E.2 0, 9, .inl (fun _ => 0)) ∧ σ t4 = .inl (E.2 0, 9, .inl (fun _ => 0)) ∧ σ ac = .inr (0, [.ref ah, .int 0, .int 0]) ∧ σ ah = .inl (E.2 3, 24, .inr (.inr (.inr (.inr f_ah)))) ∧ σ im = .inl (E.2 2, 2, .inr (.inr (.inr (.inr f_im)))) ∧ σ gu = .inr (3, [.ref c1, .ref c2]) ∧ σ c1 = .inl (E.2 0, 36, .inl (fun _ => 0)) ∧ σ c2 = .inl (E.2 0, 64, .inl (fun _ => 0)) ∧ σ ak = .inr (1, [.ref bd, .int 0, .int 0, .int 0, .int 0, .int 0]) ∧ σ bd = .inl (E.2 0, 16, .inl (fun _ => 0)) ∧ chQ (momQ E) 5 L1 σ f_ah ch_ah 24 ∧ chQ (rowQ E) 2 L1 σ f_ro ch_ro 8 ∧ chQ (gateQ E) 9 L1 σ f_im ch_im 2
abbrev rmX7_init : Room := { frames := 4, cells := 183, slots := 1840, locals := 80 }
set_option maxHeartbeats 4000000 in
set_option maxRecDepth 100000 in
theorem k_X7_init (l : Launch) (E : kq_T) (L : List Nat) (σ : Nat → va_E) {x : Nat} (hL_x : x ∈ L) (hS_x : σ x = .inr (7, [.null, .null, .null, .null, .null, .null, .null, .int 0, .int 0])) : kq_V l E yX7_init wsX7_init rmX7_init [.ref x] L σ (fun L1 σ1 => kq_ext x L σ L1 σ1 ∧ blt_X E L L1 σ1 x) := by
  refine kq_enterV (cc := cX7_init) (maxL := 2) (ret := none) (by decide) rfl (Nat.le_of_ble_eq_true rfl) rfl ?_
  intro p e s m below meth c A ls C hK hw hl
  obtain ⟨hx, hb, hml, hown, hts, hr, hlocks, hnm⟩ := C
  have hown : s.vm.findClass RX7 = some m.cls := hown
  have hl : lv_has ls 2 [(0, .ref x)] := hl
  have hE : kq_ext x L σ L σ := kq_ext.rf
  refine lv_aload_n hx hb dX7_init_0 rfl (lv_at hl 0 rfl) ?_
  refine kq_obj hx hb hml hown hts (index := 1) (own := RX7) (by decide +kernel) (by decide +kernel) (by decide +kernel) hl.1 dX7_init_1 (Nat.le_of_ble_eq_true rfl) (Nat.le_of_ble_eq_true rfl) (Nat.le_of_ble_eq_true rfl) ?_
  refine lv_aload_n hx hb dX7_init_4 rfl (lv_at hl 0 rfl) ?_
  refine lv_bipush (v := 8) hx hb dX7_init_5 (by decide) ?_
  refine kq_newq (C := "WrongWord$Row") (N' := 8) hx hb hown (hts (.classLink RX7 9 RX5) (by decide +kernel)) hK.2.2.2.2.1 hK hw 4 rfl (by decide) (by decide) (by decide) (Nat.le_of_ble_eq_true rfl) (Nat.le_of_ble_eq_true rfl) dX7_init_7 (fun ro H L2 σ1 hq_ro eL2 eσ1 hw => ?_)
  have hN_x_ro : x ≠ ro := fun h9 => hq_ro (h9 ▸ hL_x)
  have hS_x : σ1 x = .inr (7, [.null, .null, .null, .null, .null, .null, .null, .int 0, .int 0]) := by rw [eσ1]; exact kq_new_far hq_ro hL_x hS_x
  have hL_x : x ∈ L2 := by rw [eL2]; exact List.mem_append_left _ hL_x
  have hS_ro : σ1 ro = .inl (E.2 4, 8, .inr (.inr (.inr (.inr (fun _ => none))))) := by rw [eσ1]; exact va_up_self _ _ _
  have hL_ro : ro ∈ L2 := by rw [eL2]; exact List.mem_append_right _ List.mem_cons_self
  have hO_ro := hE.out hq_ro
  have hE := hE.mk hq_ro eL2 eσ1
  refine kq_putF (ci := 7) (v := .ref ro) (ty := .array (.object "WrongWord$Row")) (C := RX7) (T := TX7) (N := 9) (fs' := [.ref ro, .null, .null, .null, .null, .null, .null, .int 0, .int 0]) hx hb hts fi_X7_init_X7 tyX7 tyX7_ok nmX7 hown hK hw hL_x hS_x rfl 0 (by decide) (hts (.fieldLink RX7 11 "WrongWord" "rows" "[LWrongWord$Row;") ow_X7_init_11) rfl hnm rfl (by decide +kernel) rfl rfl (Nat.le_of_ble_eq_true rfl) rfl dX7_init_10 (fun H locs σ3 eσ3 hw => ?_)
  have nhS_ro : σ3 ro = .inl (E.2 4, 8, .inr (.inr (.inr (.inr (fun _ => none))))) := by rw [eσ3]; exact kq_far (Ne.symm hN_x_ro) hS_ro
  have nhS_x : σ3 x = .inr (7, [.ref ro, .null, .null, .null, .null, .null, .null, .int 0, .int 0]) := by rw [eσ3]; exact va_up_self _ _ _
  have hS_ro := nhS_ro
  have hS_x := nhS_x
  have hE := hE.self eσ3
  refine lv_aload_n hx hb dX7_init_13 rfl (lv_at hl 0 rfl) ?_
  refine kq_new (ci := 6) (fs := [.null, .null, .int 0, .int 0, .int 0, .int 0, .int 0]) (C := RX6) (T := TX6) (N := 7) hx hb hts fi_X7_init_X6 tyX6 tyX6_ok hown (hts (.classLink RX7 15 RX6) (by decide +kernel)) (hts (.instantiable RX6 7) (by decide +kernel)) (hts (.initialized RX6) (by decide +kernel)) hK hw rfl (fun j hj => by rcases (show j = 0 ∨ j = 1 ∨ j = 2 ∨ j = 3 ∨ j = 4 ∨ j = 5 ∨ j = 6 by omega) with rfl | rfl | rfl | rfl | rfl | rfl | rfl <;> rfl) (Nat.le_of_ble_eq_true rfl) (Nat.le_of_ble_eq_true rfl) dX7_init_14 (fun tp H L5 σ4 hq_tp eL5 eσ4 hw => ?_)
  have hN_ro_tp : ro ≠ tp := fun h9 => hq_tp (h9 ▸ hL_ro)
  have hS_ro : σ4 ro = .inl (E.2 4, 8, .inr (.inr (.inr (.inr (fun _ => none))))) := by rw [eσ4]; exact kq_new_far hq_tp hL_ro hS_ro
  have hL_ro : ro ∈ L5 := by rw [eL5]; exact List.mem_append_left _ hL_ro
  have hN_x_tp : x ≠ tp := fun h9 => hq_tp (h9 ▸ hL_x)
  have hS_x : σ4 x = .inr (7, [.ref ro, .null, .null, .null, .null, .null, .null, .int 0, .int 0]) := by rw [eσ4]; exact kq_new_far hq_tp hL_x hS_x
  have hL_x : x ∈ L5 := by rw [eL5]; exact List.mem_append_left _ hL_x
  have hS_tp : σ4 tp = .inr (6, [.null, .null, .int 0, .int 0, .int 0, .int 0, .int 0]) := by rw [eσ4]; exact va_up_self _ _ _
  have hL_tp : tp ∈ L5 := by rw [eL5]; exact List.mem_append_right _ List.mem_cons_self
  have hO_tp := hE.out hq_tp
  have hE := hE.mk hq_tp eL5 eσ4
  refine lv_dup hx hb dX7_init_17 rfl ?_
  refine kq_ctorN (As := []) (rest := [.ref tp, .ref x]) (n := 0) (b := tp) (mc := 10) (ms := 173) ⟨hx, hb, hml, hown, hts⟩ (k_X6_init l E L5 σ4 hL_tp hS_tp) gX7_init_X6_init_n17 rfl (hts (.initialized RX6) (by decide +kernel)) (by decide +kernel) (hts (.instanceMethod yX6_init) (by decide +kernel)) rfl (by decide +kernel) ⟨Nat.le_of_ble_eq_true rfl, Nat.le_of_ble_eq_true rfl⟩ hK hw rfl hl.1 rfl (Nat.le_of_ble_eq_true rfl) dX7_init_18 rfl rfl ⟨Nat.le_of_ble_eq_true rfl, Nat.le_of_ble_eq_true rfl⟩ (fun L7 σ6 H locs hp hw => ?_)
  obtain ⟨hEx, bt, dr, d1, d2, d3, d4, d5, d6, d7, d8, hLqL7, nhS_tp, nhS_bt, nhS_dr, nhS_d1, nhS_d2, nhS_d3, nhS_d4, nhS_d5, nhS_d6, nhS_d7, nhS_d8⟩ := hp
  have hS_ro : σ6 ro = .inl (E.2 4, 8, .inr (.inr (.inr (.inr (fun _ => none))))) := (hEx.2 ro hL_ro hN_ro_tp).trans hS_ro
  have hL_ro : ro ∈ L7 := hEx.1 ro hL_ro
  have hS_x : σ6 x = .inr (7, [.ref ro, .null, .null, .null, .null, .null, .null, .int 0, .int 0]) := (hEx.2 x hL_x hN_x_tp).trans hS_x
  have hL_x : x ∈ L7 := hEx.1 x hL_x
  have hL_tp : tp ∈ L7 := hEx.1 tp hL_tp
  have hS_tp := nhS_tp
  have hS_bt := nhS_bt
  have hL_bt : bt ∈ L7 := by rw [hLqL7]; simp
  have hS_dr := nhS_dr
  have hL_dr : dr ∈ L7 := by rw [hLqL7]; simp
  have hS_d1 := nhS_d1
  have hL_d1 : d1 ∈ L7 := by rw [hLqL7]; simp
  have hS_d2 := nhS_d2
  have hL_d2 : d2 ∈ L7 := by rw [hLqL7]; simp
  have hS_d3 := nhS_d3
  have hL_d3 : d3 ∈ L7 := by rw [hLqL7]; simp
  have hS_d4 := nhS_d4
  have hL_d4 : d4 ∈ L7 := by rw [hLqL7]; simp
  have hS_d5 := nhS_d5
  have hL_d5 : d5 ∈ L7 := by rw [hLqL7]; simp
  have hS_d6 := nhS_d6
  have hL_d6 : d6 ∈ L7 := by rw [hLqL7]; simp
  have hS_d7 := nhS_d7
  have hL_d7 : d7 ∈ L7 := by rw [hLqL7]; simp
  have hS_d8 := nhS_d8
  have hL_d8 : d8 ∈ L7 := by rw [hLqL7]; simp
  have hE := hE.call hO_tp hEx
  refine kq_putF (ci := 7) (v := .ref tp) (ty := .object "WrongWord$Tape") (C := RX7) (T := TX7) (N := 9) (fs' := [.ref ro, .ref tp, .null, .null, .null, .null, .null, .int 0, .int 0]) hx hb hts fi_X7_init_X7 tyX7 tyX7_ok nmX7 hown hK hw hL_x hS_x rfl 1 (by decide) (hts (.fieldLink RX7 18 "WrongWord" "tape" "LWrongWord$Tape;") ow_X7_init_18) rfl hnm rfl (by decide +kernel) rfl rfl (Nat.le_of_ble_eq_true rfl) rfl dX7_init_21 (fun H locs σ8 eσ8 hw => ?_)
  have nhS_ro : σ8 ro = .inl (E.2 4, 8, .inr (.inr (.inr (.inr (fun _ => none))))) := by rw [eσ8]; exact kq_far (Ne.symm hN_x_ro) hS_ro
  have nhS_tp : σ8 tp = .inr (6, [.ref bt, .ref dr, .int 0, .int 0, .int 0, .int 0, .int 0]) := by rw [eσ8]; exact kq_far (Ne.symm hN_x_tp) hS_tp
  have nhS_bt : σ8 bt = .inl (E.2 0, 100, .inl (fun _ => 0)) := by rw [eσ8]; exact kq_far (kq_ne hS_bt hS_x kq_nao) hS_bt
  have nhS_dr : σ8 dr = .inr (2, [.ref d1, .ref d2, .ref d3, .ref d4, .int 0, .int 0, .int 0, .int 0]) := by rw [eσ8]; exact kq_far (kq_ne hS_dr hS_x (kq_noo (by decide))) hS_dr
  have nhS_d1 : σ8 d1 = .inl (E.2 0, 18, .inl (fun _ => 0)) := by rw [eσ8]; exact kq_far (kq_ne hS_d1 hS_x kq_nao) hS_d1
  have nhS_d2 : σ8 d2 = .inl (E.2 0, 4, .inl (fun _ => 0)) := by rw [eσ8]; exact kq_far (kq_ne hS_d2 hS_x kq_nao) hS_d2
  have nhS_d3 : σ8 d3 = .inl (E.2 0, 4, .inl (fun _ => 0)) := by rw [eσ8]; exact kq_far (kq_ne hS_d3 hS_x kq_nao) hS_d3
  have nhS_d4 : σ8 d4 = .inr (4, [.ref d5, .ref d6, .ref d7, .ref d8, .int 0, .int 0, .int 0, .int 0]) := by rw [eσ8]; exact kq_far (kq_ne hS_d4 hS_x (kq_noo (by decide))) hS_d4
  have nhS_d5 : σ8 d5 = .inl (E.2 0, 4, .inl (fun _ => 0)) := by rw [eσ8]; exact kq_far (kq_ne hS_d5 hS_x kq_nao) hS_d5
  have nhS_d6 : σ8 d6 = .inl (E.2 0, 9, .inl (fun _ => 0)) := by rw [eσ8]; exact kq_far (kq_ne hS_d6 hS_x kq_nao) hS_d6
  have nhS_d7 : σ8 d7 = .inl (E.2 0, 9, .inl (fun _ => 0)) := by rw [eσ8]; exact kq_far (kq_ne hS_d7 hS_x kq_nao) hS_d7
  have nhS_d8 : σ8 d8 = .inl (E.2 0, 9, .inl (fun _ => 0)) := by rw [eσ8]; exact kq_far (kq_ne hS_d8 hS_x kq_nao) hS_d8
  have nhS_x : σ8 x = .inr (7, [.ref ro, .ref tp, .null, .null, .null, .null, .null, .int 0, .int 0]) := by rw [eσ8]; exact va_up_self _ _ _
  have hS_ro := nhS_ro
  have hS_tp := nhS_tp
  have hS_bt := nhS_bt
  have hS_dr := nhS_dr
  have hS_d1 := nhS_d1
  have hS_d2 := nhS_d2
  have hS_d3 := nhS_d3
  have hS_d4 := nhS_d4
  have hS_d5 := nhS_d5
  have hS_d6 := nhS_d6
  have hS_d7 := nhS_d7
  have hS_d8 := nhS_d8
  have hS_x := nhS_x
  have hE := hE.self eσ8
  refine lv_aload_n hx hb dX7_init_24 rfl (lv_at hl 0 rfl) ?_
  refine kq_new (ci := 2) (fs := [.null, .null, .null, .null, .int 0, .int 0, .int 0, .int 0]) (C := RX2) (T := TX2) (N := 8) hx hb hts fi_X7_init_X2 tyX2 tyX2_ok hown (hts (.classLink RX7 22 RX2) (by decide +kernel)) (hts (.instantiable RX2 8) (by decide +kernel)) (hts (.initialized RX2) (by decide +kernel)) hK hw rfl (fun j hj => by rcases (show j = 0 ∨ j = 1 ∨ j = 2 ∨ j = 3 ∨ j = 4 ∨ j = 5 ∨ j = 6 ∨ j = 7 by omega) with rfl | rfl | rfl | rfl | rfl | rfl | rfl | rfl <;> rfl) (Nat.le_of_ble_eq_true rfl) (Nat.le_of_ble_eq_true rfl) dX7_init_25 (fun gt H L10 σ9 hq_gt eL10 eσ9 hw => ?_)
  have hN_ro_gt : ro ≠ gt := fun h9 => hq_gt (h9 ▸ hL_ro)
  have hS_ro : σ9 ro = .inl (E.2 4, 8, .inr (.inr (.inr (.inr (fun _ => none))))) := by rw [eσ9]; exact kq_new_far hq_gt hL_ro hS_ro
  have hL_ro : ro ∈ L10 := by rw [eL10]; exact List.mem_append_left _ hL_ro
  have hN_tp_gt : tp ≠ gt := fun h9 => hq_gt (h9 ▸ hL_tp)
  have hS_tp : σ9 tp = .inr (6, [.ref bt, .ref dr, .int 0, .int 0, .int 0, .int 0, .int 0]) := by rw [eσ9]; exact kq_new_far hq_gt hL_tp hS_tp
  have hL_tp : tp ∈ L10 := by rw [eL10]; exact List.mem_append_left _ hL_tp
  have hN_bt_gt : bt ≠ gt := fun h9 => hq_gt (h9 ▸ hL_bt)
  have hS_bt : σ9 bt = .inl (E.2 0, 100, .inl (fun _ => 0)) := by rw [eσ9]; exact kq_new_far hq_gt hL_bt hS_bt
  have hL_bt : bt ∈ L10 := by rw [eL10]; exact List.mem_append_left _ hL_bt
  have hN_dr_gt : dr ≠ gt := fun h9 => hq_gt (h9 ▸ hL_dr)
  have hS_dr : σ9 dr = .inr (2, [.ref d1, .ref d2, .ref d3, .ref d4, .int 0, .int 0, .int 0, .int 0]) := by rw [eσ9]; exact kq_new_far hq_gt hL_dr hS_dr
  have hL_dr : dr ∈ L10 := by rw [eL10]; exact List.mem_append_left _ hL_dr
  have hN_d1_gt : d1 ≠ gt := fun h9 => hq_gt (h9 ▸ hL_d1)
  have hS_d1 : σ9 d1 = .inl (E.2 0, 18, .inl (fun _ => 0)) := by rw [eσ9]; exact kq_new_far hq_gt hL_d1 hS_d1
  have hL_d1 : d1 ∈ L10 := by rw [eL10]; exact List.mem_append_left _ hL_d1
  have hN_d2_gt : d2 ≠ gt := fun h9 => hq_gt (h9 ▸ hL_d2)
  have hS_d2 : σ9 d2 = .inl (E.2 0, 4, .inl (fun _ => 0)) := by rw [eσ9]; exact kq_new_far hq_gt hL_d2 hS_d2
  have hL_d2 : d2 ∈ L10 := by rw [eL10]; exact List.mem_append_left _ hL_d2
  have hN_d3_gt : d3 ≠ gt := fun h9 => hq_gt (h9 ▸ hL_d3)
  have hS_d3 : σ9 d3 = .inl (E.2 0, 4, .inl (fun _ => 0)) := by rw [eσ9]; exact kq_new_far hq_gt hL_d3 hS_d3
  have hL_d3 : d3 ∈ L10 := by rw [eL10]; exact List.mem_append_left _ hL_d3
  have hN_d4_gt : d4 ≠ gt := fun h9 => hq_gt (h9 ▸ hL_d4)
  have hS_d4 : σ9 d4 = .inr (4, [.ref d5, .ref d6, .ref d7, .ref d8, .int 0, .int 0, .int 0, .int 0]) := by rw [eσ9]; exact kq_new_far hq_gt hL_d4 hS_d4
  have hL_d4 : d4 ∈ L10 := by rw [eL10]; exact List.mem_append_left _ hL_d4
  have hN_d5_gt : d5 ≠ gt := fun h9 => hq_gt (h9 ▸ hL_d5)
  have hS_d5 : σ9 d5 = .inl (E.2 0, 4, .inl (fun _ => 0)) := by rw [eσ9]; exact kq_new_far hq_gt hL_d5 hS_d5
  have hL_d5 : d5 ∈ L10 := by rw [eL10]; exact List.mem_append_left _ hL_d5
  have hN_d6_gt : d6 ≠ gt := fun h9 => hq_gt (h9 ▸ hL_d6)
  have hS_d6 : σ9 d6 = .inl (E.2 0, 9, .inl (fun _ => 0)) := by rw [eσ9]; exact kq_new_far hq_gt hL_d6 hS_d6
  have hL_d6 : d6 ∈ L10 := by rw [eL10]; exact List.mem_append_left _ hL_d6
  have hN_d7_gt : d7 ≠ gt := fun h9 => hq_gt (h9 ▸ hL_d7)
  have hS_d7 : σ9 d7 = .inl (E.2 0, 9, .inl (fun _ => 0)) := by rw [eσ9]; exact kq_new_far hq_gt hL_d7 hS_d7
  have hL_d7 : d7 ∈ L10 := by rw [eL10]; exact List.mem_append_left _ hL_d7
  have hN_d8_gt : d8 ≠ gt := fun h9 => hq_gt (h9 ▸ hL_d8)
  have hS_d8 : σ9 d8 = .inl (E.2 0, 9, .inl (fun _ => 0)) := by rw [eσ9]; exact kq_new_far hq_gt hL_d8 hS_d8
  have hL_d8 : d8 ∈ L10 := by rw [eL10]; exact List.mem_append_left _ hL_d8
  have hN_x_gt : x ≠ gt := fun h9 => hq_gt (h9 ▸ hL_x)
  have hS_x : σ9 x = .inr (7, [.ref ro, .ref tp, .null, .null, .null, .null, .null, .int 0, .int 0]) := by rw [eσ9]; exact kq_new_far hq_gt hL_x hS_x
  have hL_x : x ∈ L10 := by rw [eL10]; exact List.mem_append_left _ hL_x
  have hS_gt : σ9 gt = .inr (2, [.null, .null, .null, .null, .int 0, .int 0, .int 0, .int 0]) := by rw [eσ9]; exact va_up_self _ _ _
  have hL_gt : gt ∈ L10 := by rw [eL10]; exact List.mem_append_right _ List.mem_cons_self
  have hO_gt := hE.out hq_gt
  have hE := hE.mk hq_gt eL10 eσ9
  refine lv_dup hx hb dX7_init_28 rfl ?_
  refine kq_ctorN (As := []) (rest := [.ref gt, .ref x]) (n := 0) (b := gt) (mc := 8) (ms := 65) ⟨hx, hb, hml, hown, hts⟩ (k_X2_init l E L10 σ9 hL_gt hS_gt) gX7_init_X2_init_n24 rfl (hts (.initialized RX2) (by decide +kernel)) (by decide +kernel) (hts (.instanceMethod yX2_init) (by decide +kernel)) rfl (by decide +kernel) ⟨Nat.le_of_ble_eq_true rfl, Nat.le_of_ble_eq_true rfl⟩ hK hw rfl hl.1 rfl (Nat.le_of_ble_eq_true rfl) dX7_init_29 rfl rfl ⟨Nat.le_of_ble_eq_true rfl, Nat.le_of_ble_eq_true rfl⟩ (fun L12 σ11 H locs hp hw => ?_)
  obtain ⟨hEx, g1, g2, g3, n_, t1, t2, t3, t4, hLqL12, nhS_gt, nhS_g1, nhS_g2, nhS_g3, nhS_n_, nhS_t1, nhS_t2, nhS_t3, nhS_t4⟩ := hp
  have hS_ro : σ11 ro = .inl (E.2 4, 8, .inr (.inr (.inr (.inr (fun _ => none))))) := (hEx.2 ro hL_ro hN_ro_gt).trans hS_ro
  have hL_ro : ro ∈ L12 := hEx.1 ro hL_ro
  have hS_tp : σ11 tp = .inr (6, [.ref bt, .ref dr, .int 0, .int 0, .int 0, .int 0, .int 0]) := (hEx.2 tp hL_tp hN_tp_gt).trans hS_tp
  have hL_tp : tp ∈ L12 := hEx.1 tp hL_tp
  have hS_bt : σ11 bt = .inl (E.2 0, 100, .inl (fun _ => 0)) := (hEx.2 bt hL_bt hN_bt_gt).trans hS_bt
  have hL_bt : bt ∈ L12 := hEx.1 bt hL_bt
  have hS_dr : σ11 dr = .inr (2, [.ref d1, .ref d2, .ref d3, .ref d4, .int 0, .int 0, .int 0, .int 0]) := (hEx.2 dr hL_dr hN_dr_gt).trans hS_dr
  have hL_dr : dr ∈ L12 := hEx.1 dr hL_dr
  have hS_d1 : σ11 d1 = .inl (E.2 0, 18, .inl (fun _ => 0)) := (hEx.2 d1 hL_d1 hN_d1_gt).trans hS_d1
  have hL_d1 : d1 ∈ L12 := hEx.1 d1 hL_d1
  have hS_d2 : σ11 d2 = .inl (E.2 0, 4, .inl (fun _ => 0)) := (hEx.2 d2 hL_d2 hN_d2_gt).trans hS_d2
  have hL_d2 : d2 ∈ L12 := hEx.1 d2 hL_d2
  have hS_d3 : σ11 d3 = .inl (E.2 0, 4, .inl (fun _ => 0)) := (hEx.2 d3 hL_d3 hN_d3_gt).trans hS_d3
  have hL_d3 : d3 ∈ L12 := hEx.1 d3 hL_d3
  have hS_d4 : σ11 d4 = .inr (4, [.ref d5, .ref d6, .ref d7, .ref d8, .int 0, .int 0, .int 0, .int 0]) := (hEx.2 d4 hL_d4 hN_d4_gt).trans hS_d4
  have hL_d4 : d4 ∈ L12 := hEx.1 d4 hL_d4
  have hS_d5 : σ11 d5 = .inl (E.2 0, 4, .inl (fun _ => 0)) := (hEx.2 d5 hL_d5 hN_d5_gt).trans hS_d5
  have hL_d5 : d5 ∈ L12 := hEx.1 d5 hL_d5
  have hS_d6 : σ11 d6 = .inl (E.2 0, 9, .inl (fun _ => 0)) := (hEx.2 d6 hL_d6 hN_d6_gt).trans hS_d6
  have hL_d6 : d6 ∈ L12 := hEx.1 d6 hL_d6
  have hS_d7 : σ11 d7 = .inl (E.2 0, 9, .inl (fun _ => 0)) := (hEx.2 d7 hL_d7 hN_d7_gt).trans hS_d7
  have hL_d7 : d7 ∈ L12 := hEx.1 d7 hL_d7
  have hS_d8 : σ11 d8 = .inl (E.2 0, 9, .inl (fun _ => 0)) := (hEx.2 d8 hL_d8 hN_d8_gt).trans hS_d8
  have hL_d8 : d8 ∈ L12 := hEx.1 d8 hL_d8
  have hS_x : σ11 x = .inr (7, [.ref ro, .ref tp, .null, .null, .null, .null, .null, .int 0, .int 0]) := (hEx.2 x hL_x hN_x_gt).trans hS_x
  have hL_x : x ∈ L12 := hEx.1 x hL_x
  have hL_gt : gt ∈ L12 := hEx.1 gt hL_gt
  have hS_gt := nhS_gt
  have hS_g1 := nhS_g1
  have hL_g1 : g1 ∈ L12 := by rw [hLqL12]; simp
  have hS_g2 := nhS_g2
  have hL_g2 : g2 ∈ L12 := by rw [hLqL12]; simp
  have hS_g3 := nhS_g3
  have hL_g3 : g3 ∈ L12 := by rw [hLqL12]; simp
  have hS_n_ := nhS_n_
  have hL_n_ : n_ ∈ L12 := by rw [hLqL12]; simp
  have hS_t1 := nhS_t1
  have hL_t1 : t1 ∈ L12 := by rw [hLqL12]; simp
  have hS_t2 := nhS_t2
  have hL_t2 : t2 ∈ L12 := by rw [hLqL12]; simp
  have hS_t3 := nhS_t3
  have hL_t3 : t3 ∈ L12 := by rw [hLqL12]; simp
  have hS_t4 := nhS_t4
  have hL_t4 : t4 ∈ L12 := by rw [hLqL12]; simp
  have hE := hE.call hO_gt hEx
  refine kq_putF (ci := 7) (v := .ref gt) (ty := .object "WrongWord$Gate") (C := RX7) (T := TX7) (N := 9) (fs' := [.ref ro, .ref tp, .ref gt, .null, .null, .null, .null, .int 0, .int 0]) hx hb hts fi_X7_init_X7 tyX7 tyX7_ok nmX7 hown hK hw hL_x hS_x rfl 2 (by decide) (hts (.fieldLink RX7 25 "WrongWord" "gate" "LWrongWord$Gate;") ow_X7_init_25) rfl hnm rfl (by decide +kernel) rfl rfl (Nat.le_of_ble_eq_true rfl) rfl dX7_init_32 (fun H locs σ13 eσ13 hw => ?_)
  have nhS_ro : σ13 ro = .inl (E.2 4, 8, .inr (.inr (.inr (.inr (fun _ => none))))) := by rw [eσ13]; exact kq_far (Ne.symm hN_x_ro) hS_ro
  have nhS_tp : σ13 tp = .inr (6, [.ref bt, .ref dr, .int 0, .int 0, .int 0, .int 0, .int 0]) := by rw [eσ13]; exact kq_far (Ne.symm hN_x_tp) hS_tp
  have nhS_bt : σ13 bt = .inl (E.2 0, 100, .inl (fun _ => 0)) := by rw [eσ13]; exact kq_far (kq_ne hS_bt hS_x kq_nao) hS_bt
  have nhS_dr : σ13 dr = .inr (2, [.ref d1, .ref d2, .ref d3, .ref d4, .int 0, .int 0, .int 0, .int 0]) := by rw [eσ13]; exact kq_far (kq_ne hS_dr hS_x (kq_noo (by decide))) hS_dr
  have nhS_d1 : σ13 d1 = .inl (E.2 0, 18, .inl (fun _ => 0)) := by rw [eσ13]; exact kq_far (kq_ne hS_d1 hS_x kq_nao) hS_d1
  have nhS_d2 : σ13 d2 = .inl (E.2 0, 4, .inl (fun _ => 0)) := by rw [eσ13]; exact kq_far (kq_ne hS_d2 hS_x kq_nao) hS_d2
  have nhS_d3 : σ13 d3 = .inl (E.2 0, 4, .inl (fun _ => 0)) := by rw [eσ13]; exact kq_far (kq_ne hS_d3 hS_x kq_nao) hS_d3
  have nhS_d4 : σ13 d4 = .inr (4, [.ref d5, .ref d6, .ref d7, .ref d8, .int 0, .int 0, .int 0, .int 0]) := by rw [eσ13]; exact kq_far (kq_ne hS_d4 hS_x (kq_noo (by decide))) hS_d4
  have nhS_d5 : σ13 d5 = .inl (E.2 0, 4, .inl (fun _ => 0)) := by rw [eσ13]; exact kq_far (kq_ne hS_d5 hS_x kq_nao) hS_d5
  have nhS_d6 : σ13 d6 = .inl (E.2 0, 9, .inl (fun _ => 0)) := by rw [eσ13]; exact kq_far (kq_ne hS_d6 hS_x kq_nao) hS_d6
  have nhS_d7 : σ13 d7 = .inl (E.2 0, 9, .inl (fun _ => 0)) := by rw [eσ13]; exact kq_far (kq_ne hS_d7 hS_x kq_nao) hS_d7
  have nhS_d8 : σ13 d8 = .inl (E.2 0, 9, .inl (fun _ => 0)) := by rw [eσ13]; exact kq_far (kq_ne hS_d8 hS_x kq_nao) hS_d8
  have nhS_gt : σ13 gt = .inr (2, [.ref g1, .ref g2, .ref g3, .ref n_, .int 0, .int 0, .int 0, .int 0]) := by rw [eσ13]; exact kq_far (Ne.symm hN_x_gt) hS_gt
  have nhS_g1 : σ13 g1 = .inl (E.2 0, 18, .inl (fun _ => 0)) := by rw [eσ13]; exact kq_far (kq_ne hS_g1 hS_x kq_nao) hS_g1
  have nhS_g2 : σ13 g2 = .inl (E.2 0, 4, .inl (fun _ => 0)) := by rw [eσ13]; exact kq_far (kq_ne hS_g2 hS_x kq_nao) hS_g2
  have nhS_g3 : σ13 g3 = .inl (E.2 0, 4, .inl (fun _ => 0)) := by rw [eσ13]; exact kq_far (kq_ne hS_g3 hS_x kq_nao) hS_g3
  have nhS_n_ : σ13 n_ = .inr (4, [.ref t1, .ref t2, .ref t3, .ref t4, .int 0, .int 0, .int 0, .int 0]) := by rw [eσ13]; exact kq_far (kq_ne hS_n_ hS_x (kq_noo (by decide))) hS_n_
  have nhS_t1 : σ13 t1 = .inl (E.2 0, 4, .inl (fun _ => 0)) := by rw [eσ13]; exact kq_far (kq_ne hS_t1 hS_x kq_nao) hS_t1
  have nhS_t2 : σ13 t2 = .inl (E.2 0, 9, .inl (fun _ => 0)) := by rw [eσ13]; exact kq_far (kq_ne hS_t2 hS_x kq_nao) hS_t2
  have nhS_t3 : σ13 t3 = .inl (E.2 0, 9, .inl (fun _ => 0)) := by rw [eσ13]; exact kq_far (kq_ne hS_t3 hS_x kq_nao) hS_t3
  have nhS_t4 : σ13 t4 = .inl (E.2 0, 9, .inl (fun _ => 0)) := by rw [eσ13]; exact kq_far (kq_ne hS_t4 hS_x kq_nao) hS_t4
  have nhS_x : σ13 x = .inr (7, [.ref ro, .ref tp, .ref gt, .null, .null, .null, .null, .int 0, .int 0]) := by rw [eσ13]; exact va_up_self _ _ _
  have hS_ro := nhS_ro
  have hS_tp := nhS_tp
  have hS_bt := nhS_bt
  have hS_dr := nhS_dr
  have hS_d1 := nhS_d1
  have hS_d2 := nhS_d2
  have hS_d3 := nhS_d3
  have hS_d4 := nhS_d4
  have hS_d5 := nhS_d5
  have hS_d6 := nhS_d6
  have hS_d7 := nhS_d7
  have hS_d8 := nhS_d8
  have hS_gt := nhS_gt
  have hS_g1 := nhS_g1
  have hS_g2 := nhS_g2
  have hS_g3 := nhS_g3
  have hS_n_ := nhS_n_
  have hS_t1 := nhS_t1
  have hS_t2 := nhS_t2
  have hS_t3 := nhS_t3
  have hS_t4 := nhS_t4
  have hS_x := nhS_x
  have hE := hE.self eσ13
  refine lv_aload_n hx hb dX7_init_35 rfl (lv_at hl 0 rfl) ?_
  refine kq_new (ci := 0) (fs := [.null, .int 0, .int 0]) (C := RX0) (T := TX0) (N := 3) hx hb hts fi_X7_init_X0 tyX0 tyX0_ok hown (hts (.classLink RX7 29 RX0) (by decide +kernel)) (hts (.instantiable RX0 3) (by decide +kernel)) (hts (.initialized RX0) (by decide +kernel)) hK hw rfl (fun j hj => by rcases (show j = 0 ∨ j = 1 ∨ j = 2 by omega) with rfl | rfl | rfl <;> rfl) (Nat.le_of_ble_eq_true rfl) (Nat.le_of_ble_eq_true rfl) dX7_init_36 (fun ac H L15 σ14 hq_ac eL15 eσ14 hw => ?_)
  have hN_ro_ac : ro ≠ ac := fun h9 => hq_ac (h9 ▸ hL_ro)
  have hS_ro : σ14 ro = .inl (E.2 4, 8, .inr (.inr (.inr (.inr (fun _ => none))))) := by rw [eσ14]; exact kq_new_far hq_ac hL_ro hS_ro
  have hL_ro : ro ∈ L15 := by rw [eL15]; exact List.mem_append_left _ hL_ro
  have hN_tp_ac : tp ≠ ac := fun h9 => hq_ac (h9 ▸ hL_tp)
  have hS_tp : σ14 tp = .inr (6, [.ref bt, .ref dr, .int 0, .int 0, .int 0, .int 0, .int 0]) := by rw [eσ14]; exact kq_new_far hq_ac hL_tp hS_tp
  have hL_tp : tp ∈ L15 := by rw [eL15]; exact List.mem_append_left _ hL_tp
  have hN_bt_ac : bt ≠ ac := fun h9 => hq_ac (h9 ▸ hL_bt)
  have hS_bt : σ14 bt = .inl (E.2 0, 100, .inl (fun _ => 0)) := by rw [eσ14]; exact kq_new_far hq_ac hL_bt hS_bt
  have hL_bt : bt ∈ L15 := by rw [eL15]; exact List.mem_append_left _ hL_bt
  have hN_dr_ac : dr ≠ ac := fun h9 => hq_ac (h9 ▸ hL_dr)
  have hS_dr : σ14 dr = .inr (2, [.ref d1, .ref d2, .ref d3, .ref d4, .int 0, .int 0, .int 0, .int 0]) := by rw [eσ14]; exact kq_new_far hq_ac hL_dr hS_dr
  have hL_dr : dr ∈ L15 := by rw [eL15]; exact List.mem_append_left _ hL_dr
  have hN_d1_ac : d1 ≠ ac := fun h9 => hq_ac (h9 ▸ hL_d1)
  have hS_d1 : σ14 d1 = .inl (E.2 0, 18, .inl (fun _ => 0)) := by rw [eσ14]; exact kq_new_far hq_ac hL_d1 hS_d1
  have hL_d1 : d1 ∈ L15 := by rw [eL15]; exact List.mem_append_left _ hL_d1
  have hN_d2_ac : d2 ≠ ac := fun h9 => hq_ac (h9 ▸ hL_d2)
  have hS_d2 : σ14 d2 = .inl (E.2 0, 4, .inl (fun _ => 0)) := by rw [eσ14]; exact kq_new_far hq_ac hL_d2 hS_d2
  have hL_d2 : d2 ∈ L15 := by rw [eL15]; exact List.mem_append_left _ hL_d2
  have hN_d3_ac : d3 ≠ ac := fun h9 => hq_ac (h9 ▸ hL_d3)
  have hS_d3 : σ14 d3 = .inl (E.2 0, 4, .inl (fun _ => 0)) := by rw [eσ14]; exact kq_new_far hq_ac hL_d3 hS_d3
  have hL_d3 : d3 ∈ L15 := by rw [eL15]; exact List.mem_append_left _ hL_d3
  have hN_d4_ac : d4 ≠ ac := fun h9 => hq_ac (h9 ▸ hL_d4)
  have hS_d4 : σ14 d4 = .inr (4, [.ref d5, .ref d6, .ref d7, .ref d8, .int 0, .int 0, .int 0, .int 0]) := by rw [eσ14]; exact kq_new_far hq_ac hL_d4 hS_d4
  have hL_d4 : d4 ∈ L15 := by rw [eL15]; exact List.mem_append_left _ hL_d4
  have hN_d5_ac : d5 ≠ ac := fun h9 => hq_ac (h9 ▸ hL_d5)
  have hS_d5 : σ14 d5 = .inl (E.2 0, 4, .inl (fun _ => 0)) := by rw [eσ14]; exact kq_new_far hq_ac hL_d5 hS_d5
  have hL_d5 : d5 ∈ L15 := by rw [eL15]; exact List.mem_append_left _ hL_d5
  have hN_d6_ac : d6 ≠ ac := fun h9 => hq_ac (h9 ▸ hL_d6)
  have hS_d6 : σ14 d6 = .inl (E.2 0, 9, .inl (fun _ => 0)) := by rw [eσ14]; exact kq_new_far hq_ac hL_d6 hS_d6
  have hL_d6 : d6 ∈ L15 := by rw [eL15]; exact List.mem_append_left _ hL_d6
  have hN_d7_ac : d7 ≠ ac := fun h9 => hq_ac (h9 ▸ hL_d7)
  have hS_d7 : σ14 d7 = .inl (E.2 0, 9, .inl (fun _ => 0)) := by rw [eσ14]; exact kq_new_far hq_ac hL_d7 hS_d7
  have hL_d7 : d7 ∈ L15 := by rw [eL15]; exact List.mem_append_left _ hL_d7
  have hN_d8_ac : d8 ≠ ac := fun h9 => hq_ac (h9 ▸ hL_d8)
  have hS_d8 : σ14 d8 = .inl (E.2 0, 9, .inl (fun _ => 0)) := by rw [eσ14]; exact kq_new_far hq_ac hL_d8 hS_d8
  have hL_d8 : d8 ∈ L15 := by rw [eL15]; exact List.mem_append_left _ hL_d8
  have hN_gt_ac : gt ≠ ac := fun h9 => hq_ac (h9 ▸ hL_gt)
  have hS_gt : σ14 gt = .inr (2, [.ref g1, .ref g2, .ref g3, .ref n_, .int 0, .int 0, .int 0, .int 0]) := by rw [eσ14]; exact kq_new_far hq_ac hL_gt hS_gt
  have hL_gt : gt ∈ L15 := by rw [eL15]; exact List.mem_append_left _ hL_gt
  have hN_g1_ac : g1 ≠ ac := fun h9 => hq_ac (h9 ▸ hL_g1)
  have hS_g1 : σ14 g1 = .inl (E.2 0, 18, .inl (fun _ => 0)) := by rw [eσ14]; exact kq_new_far hq_ac hL_g1 hS_g1
  have hL_g1 : g1 ∈ L15 := by rw [eL15]; exact List.mem_append_left _ hL_g1
  have hN_g2_ac : g2 ≠ ac := fun h9 => hq_ac (h9 ▸ hL_g2)
  have hS_g2 : σ14 g2 = .inl (E.2 0, 4, .inl (fun _ => 0)) := by rw [eσ14]; exact kq_new_far hq_ac hL_g2 hS_g2
  have hL_g2 : g2 ∈ L15 := by rw [eL15]; exact List.mem_append_left _ hL_g2
  have hN_g3_ac : g3 ≠ ac := fun h9 => hq_ac (h9 ▸ hL_g3)
  have hS_g3 : σ14 g3 = .inl (E.2 0, 4, .inl (fun _ => 0)) := by rw [eσ14]; exact kq_new_far hq_ac hL_g3 hS_g3
  have hL_g3 : g3 ∈ L15 := by rw [eL15]; exact List.mem_append_left _ hL_g3
  have hN_n__ac : n_ ≠ ac := fun h9 => hq_ac (h9 ▸ hL_n_)
  have hS_n_ : σ14 n_ = .inr (4, [.ref t1, .ref t2, .ref t3, .ref t4, .int 0, .int 0, .int 0, .int 0]) := by rw [eσ14]; exact kq_new_far hq_ac hL_n_ hS_n_
  have hL_n_ : n_ ∈ L15 := by rw [eL15]; exact List.mem_append_left _ hL_n_
  have hN_t1_ac : t1 ≠ ac := fun h9 => hq_ac (h9 ▸ hL_t1)
  have hS_t1 : σ14 t1 = .inl (E.2 0, 4, .inl (fun _ => 0)) := by rw [eσ14]; exact kq_new_far hq_ac hL_t1 hS_t1
  have hL_t1 : t1 ∈ L15 := by rw [eL15]; exact List.mem_append_left _ hL_t1
  have hN_t2_ac : t2 ≠ ac := fun h9 => hq_ac (h9 ▸ hL_t2)
  have hS_t2 : σ14 t2 = .inl (E.2 0, 9, .inl (fun _ => 0)) := by rw [eσ14]; exact kq_new_far hq_ac hL_t2 hS_t2
  have hL_t2 : t2 ∈ L15 := by rw [eL15]; exact List.mem_append_left _ hL_t2
  have hN_t3_ac : t3 ≠ ac := fun h9 => hq_ac (h9 ▸ hL_t3)
  have hS_t3 : σ14 t3 = .inl (E.2 0, 9, .inl (fun _ => 0)) := by rw [eσ14]; exact kq_new_far hq_ac hL_t3 hS_t3
  have hL_t3 : t3 ∈ L15 := by rw [eL15]; exact List.mem_append_left _ hL_t3
  have hN_t4_ac : t4 ≠ ac := fun h9 => hq_ac (h9 ▸ hL_t4)
  have hS_t4 : σ14 t4 = .inl (E.2 0, 9, .inl (fun _ => 0)) := by rw [eσ14]; exact kq_new_far hq_ac hL_t4 hS_t4
  have hL_t4 : t4 ∈ L15 := by rw [eL15]; exact List.mem_append_left _ hL_t4
  have hN_x_ac : x ≠ ac := fun h9 => hq_ac (h9 ▸ hL_x)
  have hS_x : σ14 x = .inr (7, [.ref ro, .ref tp, .ref gt, .null, .null, .null, .null, .int 0, .int 0]) := by rw [eσ14]; exact kq_new_far hq_ac hL_x hS_x
  have hL_x : x ∈ L15 := by rw [eL15]; exact List.mem_append_left _ hL_x
  have hS_ac : σ14 ac = .inr (0, [.null, .int 0, .int 0]) := by rw [eσ14]; exact va_up_self _ _ _
  have hL_ac : ac ∈ L15 := by rw [eL15]; exact List.mem_append_right _ List.mem_cons_self
  have hO_ac := hE.out hq_ac
  have hE := hE.mk hq_ac eL15 eσ14
  refine lv_dup hx hb dX7_init_39 rfl ?_
  refine kq_ctor (As := []) (rest := [.ref ac, .ref x]) (n := 0) (b := ac) (mc := 121) (ms := 960) ⟨hx, hb, hml, hown, hts⟩ (k_X0_init l E L15 σ14 hL_ac hS_ac) gX7_init_X0_init rfl (hts (.initialized RX0) (by decide +kernel)) (hts (.methodLink RX7 31 yX0_init) (by decide +kernel)) (hts (.instanceMethod yX0_init) (by decide +kernel)) rfl (by decide +kernel) ⟨Nat.le_of_ble_eq_true rfl, Nat.le_of_ble_eq_true rfl⟩ hK hw rfl hl.1 rfl (Nat.le_of_ble_eq_true rfl) dX7_init_40 rfl rfl ⟨Nat.le_of_ble_eq_true rfl, Nat.le_of_ble_eq_true rfl⟩ (fun L17 σ16 H locs hp hw => ?_)
  obtain ⟨hEx, ah, f_ah, ch_ah, hLqL17, nhS_ac, nhS_ah, hQ_ac⟩ := hp
  have hS_ro : σ16 ro = .inl (E.2 4, 8, .inr (.inr (.inr (.inr (fun _ => none))))) := (hEx.2 ro hL_ro hN_ro_ac).trans hS_ro
  have hL_ro : ro ∈ L17 := hEx.1 ro hL_ro
  have hS_tp : σ16 tp = .inr (6, [.ref bt, .ref dr, .int 0, .int 0, .int 0, .int 0, .int 0]) := (hEx.2 tp hL_tp hN_tp_ac).trans hS_tp
  have hL_tp : tp ∈ L17 := hEx.1 tp hL_tp
  have hS_bt : σ16 bt = .inl (E.2 0, 100, .inl (fun _ => 0)) := (hEx.2 bt hL_bt hN_bt_ac).trans hS_bt
  have hL_bt : bt ∈ L17 := hEx.1 bt hL_bt
  have hS_dr : σ16 dr = .inr (2, [.ref d1, .ref d2, .ref d3, .ref d4, .int 0, .int 0, .int 0, .int 0]) := (hEx.2 dr hL_dr hN_dr_ac).trans hS_dr
  have hL_dr : dr ∈ L17 := hEx.1 dr hL_dr
  have hS_d1 : σ16 d1 = .inl (E.2 0, 18, .inl (fun _ => 0)) := (hEx.2 d1 hL_d1 hN_d1_ac).trans hS_d1
  have hL_d1 : d1 ∈ L17 := hEx.1 d1 hL_d1
  have hS_d2 : σ16 d2 = .inl (E.2 0, 4, .inl (fun _ => 0)) := (hEx.2 d2 hL_d2 hN_d2_ac).trans hS_d2
  have hL_d2 : d2 ∈ L17 := hEx.1 d2 hL_d2
  have hS_d3 : σ16 d3 = .inl (E.2 0, 4, .inl (fun _ => 0)) := (hEx.2 d3 hL_d3 hN_d3_ac).trans hS_d3
  have hL_d3 : d3 ∈ L17 := hEx.1 d3 hL_d3
  have hS_d4 : σ16 d4 = .inr (4, [.ref d5, .ref d6, .ref d7, .ref d8, .int 0, .int 0, .int 0, .int 0]) := (hEx.2 d4 hL_d4 hN_d4_ac).trans hS_d4
  have hL_d4 : d4 ∈ L17 := hEx.1 d4 hL_d4
  have hS_d5 : σ16 d5 = .inl (E.2 0, 4, .inl (fun _ => 0)) := (hEx.2 d5 hL_d5 hN_d5_ac).trans hS_d5
  have hL_d5 : d5 ∈ L17 := hEx.1 d5 hL_d5
  have hS_d6 : σ16 d6 = .inl (E.2 0, 9, .inl (fun _ => 0)) := (hEx.2 d6 hL_d6 hN_d6_ac).trans hS_d6
  have hL_d6 : d6 ∈ L17 := hEx.1 d6 hL_d6
  have hS_d7 : σ16 d7 = .inl (E.2 0, 9, .inl (fun _ => 0)) := (hEx.2 d7 hL_d7 hN_d7_ac).trans hS_d7
  have hL_d7 : d7 ∈ L17 := hEx.1 d7 hL_d7
  have hS_d8 : σ16 d8 = .inl (E.2 0, 9, .inl (fun _ => 0)) := (hEx.2 d8 hL_d8 hN_d8_ac).trans hS_d8
  have hL_d8 : d8 ∈ L17 := hEx.1 d8 hL_d8
  have hS_gt : σ16 gt = .inr (2, [.ref g1, .ref g2, .ref g3, .ref n_, .int 0, .int 0, .int 0, .int 0]) := (hEx.2 gt hL_gt hN_gt_ac).trans hS_gt
  have hL_gt : gt ∈ L17 := hEx.1 gt hL_gt
  have hS_g1 : σ16 g1 = .inl (E.2 0, 18, .inl (fun _ => 0)) := (hEx.2 g1 hL_g1 hN_g1_ac).trans hS_g1
  have hL_g1 : g1 ∈ L17 := hEx.1 g1 hL_g1
  have hS_g2 : σ16 g2 = .inl (E.2 0, 4, .inl (fun _ => 0)) := (hEx.2 g2 hL_g2 hN_g2_ac).trans hS_g2
  have hL_g2 : g2 ∈ L17 := hEx.1 g2 hL_g2
  have hS_g3 : σ16 g3 = .inl (E.2 0, 4, .inl (fun _ => 0)) := (hEx.2 g3 hL_g3 hN_g3_ac).trans hS_g3
  have hL_g3 : g3 ∈ L17 := hEx.1 g3 hL_g3
  have hS_n_ : σ16 n_ = .inr (4, [.ref t1, .ref t2, .ref t3, .ref t4, .int 0, .int 0, .int 0, .int 0]) := (hEx.2 n_ hL_n_ hN_n__ac).trans hS_n_
  have hL_n_ : n_ ∈ L17 := hEx.1 n_ hL_n_
  have hS_t1 : σ16 t1 = .inl (E.2 0, 4, .inl (fun _ => 0)) := (hEx.2 t1 hL_t1 hN_t1_ac).trans hS_t1
  have hL_t1 : t1 ∈ L17 := hEx.1 t1 hL_t1
  have hS_t2 : σ16 t2 = .inl (E.2 0, 9, .inl (fun _ => 0)) := (hEx.2 t2 hL_t2 hN_t2_ac).trans hS_t2
  have hL_t2 : t2 ∈ L17 := hEx.1 t2 hL_t2
  have hS_t3 : σ16 t3 = .inl (E.2 0, 9, .inl (fun _ => 0)) := (hEx.2 t3 hL_t3 hN_t3_ac).trans hS_t3
  have hL_t3 : t3 ∈ L17 := hEx.1 t3 hL_t3
  have hS_t4 : σ16 t4 = .inl (E.2 0, 9, .inl (fun _ => 0)) := (hEx.2 t4 hL_t4 hN_t4_ac).trans hS_t4
  have hL_t4 : t4 ∈ L17 := hEx.1 t4 hL_t4
  have hS_x : σ16 x = .inr (7, [.ref ro, .ref tp, .ref gt, .null, .null, .null, .null, .int 0, .int 0]) := (hEx.2 x hL_x hN_x_ac).trans hS_x
  have hL_x : x ∈ L17 := hEx.1 x hL_x
  have hL_ac : ac ∈ L17 := hEx.1 ac hL_ac
  have hS_ac := nhS_ac
  have hS_ah := nhS_ah
  have hL_ah : ah ∈ L17 := by rw [hLqL17]; simp
  have hE := hE.call hO_ac hEx
  refine kq_putF (ci := 7) (v := .ref ac) (ty := .object "WrongWord$Acts") (C := RX7) (T := TX7) (N := 9) (fs' := [.ref ro, .ref tp, .ref gt, .ref ac, .null, .null, .null, .int 0, .int 0]) hx hb hts fi_X7_init_X7 tyX7 tyX7_ok nmX7 hown hK hw hL_x hS_x rfl 3 (by decide) (hts (.fieldLink RX7 32 "WrongWord" "acts" "LWrongWord$Acts;") ow_X7_init_32) rfl hnm rfl (by decide +kernel) rfl rfl (Nat.le_of_ble_eq_true rfl) rfl dX7_init_43 (fun H locs σ18 eσ18 hw => ?_)
  have pS_x := hS_x
  have nhS_ro : σ18 ro = .inl (E.2 4, 8, .inr (.inr (.inr (.inr (fun _ => none))))) := by rw [eσ18]; exact kq_far (Ne.symm hN_x_ro) hS_ro
  have nhS_tp : σ18 tp = .inr (6, [.ref bt, .ref dr, .int 0, .int 0, .int 0, .int 0, .int 0]) := by rw [eσ18]; exact kq_far (Ne.symm hN_x_tp) hS_tp
  have nhS_bt : σ18 bt = .inl (E.2 0, 100, .inl (fun _ => 0)) := by rw [eσ18]; exact kq_far (kq_ne hS_bt hS_x kq_nao) hS_bt
  have nhS_dr : σ18 dr = .inr (2, [.ref d1, .ref d2, .ref d3, .ref d4, .int 0, .int 0, .int 0, .int 0]) := by rw [eσ18]; exact kq_far (kq_ne hS_dr hS_x (kq_noo (by decide))) hS_dr
  have nhS_d1 : σ18 d1 = .inl (E.2 0, 18, .inl (fun _ => 0)) := by rw [eσ18]; exact kq_far (kq_ne hS_d1 hS_x kq_nao) hS_d1
  have nhS_d2 : σ18 d2 = .inl (E.2 0, 4, .inl (fun _ => 0)) := by rw [eσ18]; exact kq_far (kq_ne hS_d2 hS_x kq_nao) hS_d2
  have nhS_d3 : σ18 d3 = .inl (E.2 0, 4, .inl (fun _ => 0)) := by rw [eσ18]; exact kq_far (kq_ne hS_d3 hS_x kq_nao) hS_d3
  have nhS_d4 : σ18 d4 = .inr (4, [.ref d5, .ref d6, .ref d7, .ref d8, .int 0, .int 0, .int 0, .int 0]) := by rw [eσ18]; exact kq_far (kq_ne hS_d4 hS_x (kq_noo (by decide))) hS_d4
  have nhS_d5 : σ18 d5 = .inl (E.2 0, 4, .inl (fun _ => 0)) := by rw [eσ18]; exact kq_far (kq_ne hS_d5 hS_x kq_nao) hS_d5
  have nhS_d6 : σ18 d6 = .inl (E.2 0, 9, .inl (fun _ => 0)) := by rw [eσ18]; exact kq_far (kq_ne hS_d6 hS_x kq_nao) hS_d6
  have nhS_d7 : σ18 d7 = .inl (E.2 0, 9, .inl (fun _ => 0)) := by rw [eσ18]; exact kq_far (kq_ne hS_d7 hS_x kq_nao) hS_d7
  have nhS_d8 : σ18 d8 = .inl (E.2 0, 9, .inl (fun _ => 0)) := by rw [eσ18]; exact kq_far (kq_ne hS_d8 hS_x kq_nao) hS_d8
  have nhS_gt : σ18 gt = .inr (2, [.ref g1, .ref g2, .ref g3, .ref n_, .int 0, .int 0, .int 0, .int 0]) := by rw [eσ18]; exact kq_far (Ne.symm hN_x_gt) hS_gt
  have nhS_g1 : σ18 g1 = .inl (E.2 0, 18, .inl (fun _ => 0)) := by rw [eσ18]; exact kq_far (kq_ne hS_g1 hS_x kq_nao) hS_g1
  have nhS_g2 : σ18 g2 = .inl (E.2 0, 4, .inl (fun _ => 0)) := by rw [eσ18]; exact kq_far (kq_ne hS_g2 hS_x kq_nao) hS_g2
  have nhS_g3 : σ18 g3 = .inl (E.2 0, 4, .inl (fun _ => 0)) := by rw [eσ18]; exact kq_far (kq_ne hS_g3 hS_x kq_nao) hS_g3
  have nhS_n_ : σ18 n_ = .inr (4, [.ref t1, .ref t2, .ref t3, .ref t4, .int 0, .int 0, .int 0, .int 0]) := by rw [eσ18]; exact kq_far (kq_ne hS_n_ hS_x (kq_noo (by decide))) hS_n_
  have nhS_t1 : σ18 t1 = .inl (E.2 0, 4, .inl (fun _ => 0)) := by rw [eσ18]; exact kq_far (kq_ne hS_t1 hS_x kq_nao) hS_t1
  have nhS_t2 : σ18 t2 = .inl (E.2 0, 9, .inl (fun _ => 0)) := by rw [eσ18]; exact kq_far (kq_ne hS_t2 hS_x kq_nao) hS_t2
  have nhS_t3 : σ18 t3 = .inl (E.2 0, 9, .inl (fun _ => 0)) := by rw [eσ18]; exact kq_far (kq_ne hS_t3 hS_x kq_nao) hS_t3
  have nhS_t4 : σ18 t4 = .inl (E.2 0, 9, .inl (fun _ => 0)) := by rw [eσ18]; exact kq_far (kq_ne hS_t4 hS_x kq_nao) hS_t4
  have nhS_ac : σ18 ac = .inr (0, [.ref ah, .int 0, .int 0]) := by rw [eσ18]; exact kq_far (Ne.symm hN_x_ac) hS_ac
  have nhS_ah : σ18 ah = .inl (E.2 3, 24, .inr (.inr (.inr (.inr f_ah)))) := by rw [eσ18]; exact kq_far (kq_ne hS_ah hS_x kq_nao) hS_ah
  have nhS_x : σ18 x = .inr (7, [.ref ro, .ref tp, .ref gt, .ref ac, .null, .null, .null, .int 0, .int 0]) := by rw [eσ18]; exact va_up_self _ _ _
  have hS_ro := nhS_ro
  have hS_tp := nhS_tp
  have hS_bt := nhS_bt
  have hS_dr := nhS_dr
  have hS_d1 := nhS_d1
  have hS_d2 := nhS_d2
  have hS_d3 := nhS_d3
  have hS_d4 := nhS_d4
  have hS_d5 := nhS_d5
  have hS_d6 := nhS_d6
  have hS_d7 := nhS_d7
  have hS_d8 := nhS_d8
  have hS_gt := nhS_gt
  have hS_g1 := nhS_g1
  have hS_g2 := nhS_g2
  have hS_g3 := nhS_g3
  have hS_n_ := nhS_n_
  have hS_t1 := nhS_t1
  have hS_t2 := nhS_t2
  have hS_t3 := nhS_t3
  have hS_t4 := nhS_t4
  have hS_ac := nhS_ac
  have hS_ah := nhS_ah
  have hS_x := nhS_x
  have hE := hE.self eσ18
  have hQ_ac := chQ.ext (loc_mom E) hQ_ac (kq_ext.rf.self eσ18) (fun j hj => mom_ne (hQ_ac j hj).2.2 (Or.inl ⟨_, _, pS_x, by decide⟩))
  refine lv_aload_n hx hb dX7_init_46 rfl (lv_at hl 0 rfl) ?_
  refine lv_iconst (v := 2) hx hb dX7_init_47 (by decide) ?_
  refine kq_newq (C := "WrongWord$Gate") (N' := 2) hx hb hown (hts (.classLink RX7 22 RX2) (by decide +kernel)) hK.2.2.1 hK hw 2 rfl (by decide) (by decide) (by decide) (Nat.le_of_ble_eq_true rfl) (Nat.le_of_ble_eq_true rfl) dX7_init_48 (fun im H L20 σ19 hq_im eL20 eσ19 hw => ?_)
  have hN_ro_im : ro ≠ im := fun h9 => hq_im (h9 ▸ hL_ro)
  have hS_ro : σ19 ro = .inl (E.2 4, 8, .inr (.inr (.inr (.inr (fun _ => none))))) := by rw [eσ19]; exact kq_new_far hq_im hL_ro hS_ro
  have hL_ro : ro ∈ L20 := by rw [eL20]; exact List.mem_append_left _ hL_ro
  have hN_tp_im : tp ≠ im := fun h9 => hq_im (h9 ▸ hL_tp)
  have hS_tp : σ19 tp = .inr (6, [.ref bt, .ref dr, .int 0, .int 0, .int 0, .int 0, .int 0]) := by rw [eσ19]; exact kq_new_far hq_im hL_tp hS_tp
  have hL_tp : tp ∈ L20 := by rw [eL20]; exact List.mem_append_left _ hL_tp
  have hN_bt_im : bt ≠ im := fun h9 => hq_im (h9 ▸ hL_bt)
  have hS_bt : σ19 bt = .inl (E.2 0, 100, .inl (fun _ => 0)) := by rw [eσ19]; exact kq_new_far hq_im hL_bt hS_bt
  have hL_bt : bt ∈ L20 := by rw [eL20]; exact List.mem_append_left _ hL_bt
  have hN_dr_im : dr ≠ im := fun h9 => hq_im (h9 ▸ hL_dr)
  have hS_dr : σ19 dr = .inr (2, [.ref d1, .ref d2, .ref d3, .ref d4, .int 0, .int 0, .int 0, .int 0]) := by rw [eσ19]; exact kq_new_far hq_im hL_dr hS_dr
  have hL_dr : dr ∈ L20 := by rw [eL20]; exact List.mem_append_left _ hL_dr
  have hN_d1_im : d1 ≠ im := fun h9 => hq_im (h9 ▸ hL_d1)
  have hS_d1 : σ19 d1 = .inl (E.2 0, 18, .inl (fun _ => 0)) := by rw [eσ19]; exact kq_new_far hq_im hL_d1 hS_d1
  have hL_d1 : d1 ∈ L20 := by rw [eL20]; exact List.mem_append_left _ hL_d1
  have hN_d2_im : d2 ≠ im := fun h9 => hq_im (h9 ▸ hL_d2)
  have hS_d2 : σ19 d2 = .inl (E.2 0, 4, .inl (fun _ => 0)) := by rw [eσ19]; exact kq_new_far hq_im hL_d2 hS_d2
  have hL_d2 : d2 ∈ L20 := by rw [eL20]; exact List.mem_append_left _ hL_d2
  have hN_d3_im : d3 ≠ im := fun h9 => hq_im (h9 ▸ hL_d3)
  have hS_d3 : σ19 d3 = .inl (E.2 0, 4, .inl (fun _ => 0)) := by rw [eσ19]; exact kq_new_far hq_im hL_d3 hS_d3
  have hL_d3 : d3 ∈ L20 := by rw [eL20]; exact List.mem_append_left _ hL_d3
  have hN_d4_im : d4 ≠ im := fun h9 => hq_im (h9 ▸ hL_d4)
  have hS_d4 : σ19 d4 = .inr (4, [.ref d5, .ref d6, .ref d7, .ref d8, .int 0, .int 0, .int 0, .int 0]) := by rw [eσ19]; exact kq_new_far hq_im hL_d4 hS_d4
  have hL_d4 : d4 ∈ L20 := by rw [eL20]; exact List.mem_append_left _ hL_d4
  have hN_d5_im : d5 ≠ im := fun h9 => hq_im (h9 ▸ hL_d5)
  have hS_d5 : σ19 d5 = .inl (E.2 0, 4, .inl (fun _ => 0)) := by rw [eσ19]; exact kq_new_far hq_im hL_d5 hS_d5
  have hL_d5 : d5 ∈ L20 := by rw [eL20]; exact List.mem_append_left _ hL_d5
  have hN_d6_im : d6 ≠ im := fun h9 => hq_im (h9 ▸ hL_d6)
  have hS_d6 : σ19 d6 = .inl (E.2 0, 9, .inl (fun _ => 0)) := by rw [eσ19]; exact kq_new_far hq_im hL_d6 hS_d6
  have hL_d6 : d6 ∈ L20 := by rw [eL20]; exact List.mem_append_left _ hL_d6
  have hN_d7_im : d7 ≠ im := fun h9 => hq_im (h9 ▸ hL_d7)
  have hS_d7 : σ19 d7 = .inl (E.2 0, 9, .inl (fun _ => 0)) := by rw [eσ19]; exact kq_new_far hq_im hL_d7 hS_d7
  have hL_d7 : d7 ∈ L20 := by rw [eL20]; exact List.mem_append_left _ hL_d7
  have hN_d8_im : d8 ≠ im := fun h9 => hq_im (h9 ▸ hL_d8)
  have hS_d8 : σ19 d8 = .inl (E.2 0, 9, .inl (fun _ => 0)) := by rw [eσ19]; exact kq_new_far hq_im hL_d8 hS_d8
  have hL_d8 : d8 ∈ L20 := by rw [eL20]; exact List.mem_append_left _ hL_d8
  have hN_gt_im : gt ≠ im := fun h9 => hq_im (h9 ▸ hL_gt)
  have hS_gt : σ19 gt = .inr (2, [.ref g1, .ref g2, .ref g3, .ref n_, .int 0, .int 0, .int 0, .int 0]) := by rw [eσ19]; exact kq_new_far hq_im hL_gt hS_gt
  have hL_gt : gt ∈ L20 := by rw [eL20]; exact List.mem_append_left _ hL_gt
  have hN_g1_im : g1 ≠ im := fun h9 => hq_im (h9 ▸ hL_g1)
  have hS_g1 : σ19 g1 = .inl (E.2 0, 18, .inl (fun _ => 0)) := by rw [eσ19]; exact kq_new_far hq_im hL_g1 hS_g1
  have hL_g1 : g1 ∈ L20 := by rw [eL20]; exact List.mem_append_left _ hL_g1
  have hN_g2_im : g2 ≠ im := fun h9 => hq_im (h9 ▸ hL_g2)
  have hS_g2 : σ19 g2 = .inl (E.2 0, 4, .inl (fun _ => 0)) := by rw [eσ19]; exact kq_new_far hq_im hL_g2 hS_g2
  have hL_g2 : g2 ∈ L20 := by rw [eL20]; exact List.mem_append_left _ hL_g2
  have hN_g3_im : g3 ≠ im := fun h9 => hq_im (h9 ▸ hL_g3)
  have hS_g3 : σ19 g3 = .inl (E.2 0, 4, .inl (fun _ => 0)) := by rw [eσ19]; exact kq_new_far hq_im hL_g3 hS_g3
  have hL_g3 : g3 ∈ L20 := by rw [eL20]; exact List.mem_append_left _ hL_g3
  have hN_n__im : n_ ≠ im := fun h9 => hq_im (h9 ▸ hL_n_)
  have hS_n_ : σ19 n_ = .inr (4, [.ref t1, .ref t2, .ref t3, .ref t4, .int 0, .int 0, .int 0, .int 0]) := by rw [eσ19]; exact kq_new_far hq_im hL_n_ hS_n_
  have hL_n_ : n_ ∈ L20 := by rw [eL20]; exact List.mem_append_left _ hL_n_
  have hN_t1_im : t1 ≠ im := fun h9 => hq_im (h9 ▸ hL_t1)
  have hS_t1 : σ19 t1 = .inl (E.2 0, 4, .inl (fun _ => 0)) := by rw [eσ19]; exact kq_new_far hq_im hL_t1 hS_t1
  have hL_t1 : t1 ∈ L20 := by rw [eL20]; exact List.mem_append_left _ hL_t1
  have hN_t2_im : t2 ≠ im := fun h9 => hq_im (h9 ▸ hL_t2)
  have hS_t2 : σ19 t2 = .inl (E.2 0, 9, .inl (fun _ => 0)) := by rw [eσ19]; exact kq_new_far hq_im hL_t2 hS_t2
  have hL_t2 : t2 ∈ L20 := by rw [eL20]; exact List.mem_append_left _ hL_t2
  have hN_t3_im : t3 ≠ im := fun h9 => hq_im (h9 ▸ hL_t3)
  have hS_t3 : σ19 t3 = .inl (E.2 0, 9, .inl (fun _ => 0)) := by rw [eσ19]; exact kq_new_far hq_im hL_t3 hS_t3
  have hL_t3 : t3 ∈ L20 := by rw [eL20]; exact List.mem_append_left _ hL_t3
  have hN_t4_im : t4 ≠ im := fun h9 => hq_im (h9 ▸ hL_t4)
  have hS_t4 : σ19 t4 = .inl (E.2 0, 9, .inl (fun _ => 0)) := by rw [eσ19]; exact kq_new_far hq_im hL_t4 hS_t4
  have hL_t4 : t4 ∈ L20 := by rw [eL20]; exact List.mem_append_left _ hL_t4
  have hN_ac_im : ac ≠ im := fun h9 => hq_im (h9 ▸ hL_ac)
  have hS_ac : σ19 ac = .inr (0, [.ref ah, .int 0, .int 0]) := by rw [eσ19]; exact kq_new_far hq_im hL_ac hS_ac
  have hL_ac : ac ∈ L20 := by rw [eL20]; exact List.mem_append_left _ hL_ac
  have hN_ah_im : ah ≠ im := fun h9 => hq_im (h9 ▸ hL_ah)
  have hS_ah : σ19 ah = .inl (E.2 3, 24, .inr (.inr (.inr (.inr f_ah)))) := by rw [eσ19]; exact kq_new_far hq_im hL_ah hS_ah
  have hL_ah : ah ∈ L20 := by rw [eL20]; exact List.mem_append_left _ hL_ah
  have hN_x_im : x ≠ im := fun h9 => hq_im (h9 ▸ hL_x)
  have hS_x : σ19 x = .inr (7, [.ref ro, .ref tp, .ref gt, .ref ac, .null, .null, .null, .int 0, .int 0]) := by rw [eσ19]; exact kq_new_far hq_im hL_x hS_x
  have hL_x : x ∈ L20 := by rw [eL20]; exact List.mem_append_left _ hL_x
  have hS_im : σ19 im = .inl (E.2 2, 2, .inr (.inr (.inr (.inr (fun _ => none))))) := by rw [eσ19]; exact va_up_self _ _ _
  have hL_im : im ∈ L20 := by rw [eL20]; exact List.mem_append_right _ List.mem_cons_self
  have hO_im := hE.out hq_im
  have hE := hE.mk hq_im eL20 eσ19
  have hQ_ac := chQ.ext (loc_mom E) hQ_ac (kq_ext.rf.mk hq_im eL20 eσ19) (chQ.new hQ_ac hq_im)
  refine kq_putF (ci := 7) (v := .ref im) (ty := .array (.object "WrongWord$Gate")) (C := RX7) (T := TX7) (N := 9) (fs' := [.ref ro, .ref tp, .ref gt, .ref ac, .ref im, .null, .null, .int 0, .int 0]) hx hb hts fi_X7_init_X7 tyX7 tyX7_ok nmX7 hown hK hw hL_x hS_x rfl 4 (by decide) (hts (.fieldLink RX7 36 "WrongWord" "images" "[LWrongWord$Gate;") ow_X7_init_36) rfl hnm rfl (by decide +kernel) rfl rfl (Nat.le_of_ble_eq_true rfl) rfl dX7_init_51 (fun H locs σ21 eσ21 hw => ?_)
  have pS_x := hS_x
  have nhS_ro : σ21 ro = .inl (E.2 4, 8, .inr (.inr (.inr (.inr (fun _ => none))))) := by rw [eσ21]; exact kq_far (Ne.symm hN_x_ro) hS_ro
  have nhS_tp : σ21 tp = .inr (6, [.ref bt, .ref dr, .int 0, .int 0, .int 0, .int 0, .int 0]) := by rw [eσ21]; exact kq_far (Ne.symm hN_x_tp) hS_tp
  have nhS_bt : σ21 bt = .inl (E.2 0, 100, .inl (fun _ => 0)) := by rw [eσ21]; exact kq_far (kq_ne hS_bt hS_x kq_nao) hS_bt
  have nhS_dr : σ21 dr = .inr (2, [.ref d1, .ref d2, .ref d3, .ref d4, .int 0, .int 0, .int 0, .int 0]) := by rw [eσ21]; exact kq_far (kq_ne hS_dr hS_x (kq_noo (by decide))) hS_dr
  have nhS_d1 : σ21 d1 = .inl (E.2 0, 18, .inl (fun _ => 0)) := by rw [eσ21]; exact kq_far (kq_ne hS_d1 hS_x kq_nao) hS_d1
  have nhS_d2 : σ21 d2 = .inl (E.2 0, 4, .inl (fun _ => 0)) := by rw [eσ21]; exact kq_far (kq_ne hS_d2 hS_x kq_nao) hS_d2
  have nhS_d3 : σ21 d3 = .inl (E.2 0, 4, .inl (fun _ => 0)) := by rw [eσ21]; exact kq_far (kq_ne hS_d3 hS_x kq_nao) hS_d3
  have nhS_d4 : σ21 d4 = .inr (4, [.ref d5, .ref d6, .ref d7, .ref d8, .int 0, .int 0, .int 0, .int 0]) := by rw [eσ21]; exact kq_far (kq_ne hS_d4 hS_x (kq_noo (by decide))) hS_d4
  have nhS_d5 : σ21 d5 = .inl (E.2 0, 4, .inl (fun _ => 0)) := by rw [eσ21]; exact kq_far (kq_ne hS_d5 hS_x kq_nao) hS_d5
  have nhS_d6 : σ21 d6 = .inl (E.2 0, 9, .inl (fun _ => 0)) := by rw [eσ21]; exact kq_far (kq_ne hS_d6 hS_x kq_nao) hS_d6
  have nhS_d7 : σ21 d7 = .inl (E.2 0, 9, .inl (fun _ => 0)) := by rw [eσ21]; exact kq_far (kq_ne hS_d7 hS_x kq_nao) hS_d7
  have nhS_d8 : σ21 d8 = .inl (E.2 0, 9, .inl (fun _ => 0)) := by rw [eσ21]; exact kq_far (kq_ne hS_d8 hS_x kq_nao) hS_d8
  have nhS_gt : σ21 gt = .inr (2, [.ref g1, .ref g2, .ref g3, .ref n_, .int 0, .int 0, .int 0, .int 0]) := by rw [eσ21]; exact kq_far (Ne.symm hN_x_gt) hS_gt
  have nhS_g1 : σ21 g1 = .inl (E.2 0, 18, .inl (fun _ => 0)) := by rw [eσ21]; exact kq_far (kq_ne hS_g1 hS_x kq_nao) hS_g1
  have nhS_g2 : σ21 g2 = .inl (E.2 0, 4, .inl (fun _ => 0)) := by rw [eσ21]; exact kq_far (kq_ne hS_g2 hS_x kq_nao) hS_g2
  have nhS_g3 : σ21 g3 = .inl (E.2 0, 4, .inl (fun _ => 0)) := by rw [eσ21]; exact kq_far (kq_ne hS_g3 hS_x kq_nao) hS_g3
  have nhS_n_ : σ21 n_ = .inr (4, [.ref t1, .ref t2, .ref t3, .ref t4, .int 0, .int 0, .int 0, .int 0]) := by rw [eσ21]; exact kq_far (kq_ne hS_n_ hS_x (kq_noo (by decide))) hS_n_
  have nhS_t1 : σ21 t1 = .inl (E.2 0, 4, .inl (fun _ => 0)) := by rw [eσ21]; exact kq_far (kq_ne hS_t1 hS_x kq_nao) hS_t1
  have nhS_t2 : σ21 t2 = .inl (E.2 0, 9, .inl (fun _ => 0)) := by rw [eσ21]; exact kq_far (kq_ne hS_t2 hS_x kq_nao) hS_t2
  have nhS_t3 : σ21 t3 = .inl (E.2 0, 9, .inl (fun _ => 0)) := by rw [eσ21]; exact kq_far (kq_ne hS_t3 hS_x kq_nao) hS_t3
  have nhS_t4 : σ21 t4 = .inl (E.2 0, 9, .inl (fun _ => 0)) := by rw [eσ21]; exact kq_far (kq_ne hS_t4 hS_x kq_nao) hS_t4
  have nhS_ac : σ21 ac = .inr (0, [.ref ah, .int 0, .int 0]) := by rw [eσ21]; exact kq_far (Ne.symm hN_x_ac) hS_ac
  have nhS_ah : σ21 ah = .inl (E.2 3, 24, .inr (.inr (.inr (.inr f_ah)))) := by rw [eσ21]; exact kq_far (kq_ne hS_ah hS_x kq_nao) hS_ah
  have nhS_im : σ21 im = .inl (E.2 2, 2, .inr (.inr (.inr (.inr (fun _ => none))))) := by rw [eσ21]; exact kq_far (Ne.symm hN_x_im) hS_im
  have nhS_x : σ21 x = .inr (7, [.ref ro, .ref tp, .ref gt, .ref ac, .ref im, .null, .null, .int 0, .int 0]) := by rw [eσ21]; exact va_up_self _ _ _
  have hS_ro := nhS_ro
  have hS_tp := nhS_tp
  have hS_bt := nhS_bt
  have hS_dr := nhS_dr
  have hS_d1 := nhS_d1
  have hS_d2 := nhS_d2
  have hS_d3 := nhS_d3
  have hS_d4 := nhS_d4
  have hS_d5 := nhS_d5
  have hS_d6 := nhS_d6
  have hS_d7 := nhS_d7
  have hS_d8 := nhS_d8
  have hS_gt := nhS_gt
  have hS_g1 := nhS_g1
  have hS_g2 := nhS_g2
  have hS_g3 := nhS_g3
  have hS_n_ := nhS_n_
  have hS_t1 := nhS_t1
  have hS_t2 := nhS_t2
  have hS_t3 := nhS_t3
  have hS_t4 := nhS_t4
  have hS_ac := nhS_ac
  have hS_ah := nhS_ah
  have hS_im := nhS_im
  have hS_x := nhS_x
  have hE := hE.self eσ21
  have hQ_ac := chQ.ext (loc_mom E) hQ_ac (kq_ext.rf.self eσ21) (fun j hj => mom_ne (hQ_ac j hj).2.2 (Or.inl ⟨_, _, pS_x, by decide⟩))
  refine lv_aload_n hx hb dX7_init_54 rfl (lv_at hl 0 rfl) ?_
  refine kq_new (ci := 3) (fs := [.null, .null]) (C := RX3) (T := TX3) (N := 2) hx hb hts fi_X7_init_X3 tyX3 tyX3_ok hown (hts (.classLink RX7 40 RX3) (by decide +kernel)) (hts (.instantiable RX3 2) (by decide +kernel)) (hts (.initialized RX3) (by decide +kernel)) hK hw rfl (fun j hj => by rcases (show j = 0 ∨ j = 1 by omega) with rfl | rfl <;> rfl) (Nat.le_of_ble_eq_true rfl) (Nat.le_of_ble_eq_true rfl) dX7_init_55 (fun gu H L23 σ22 hq_gu eL23 eσ22 hw => ?_)
  have hN_ro_gu : ro ≠ gu := fun h9 => hq_gu (h9 ▸ hL_ro)
  have hS_ro : σ22 ro = .inl (E.2 4, 8, .inr (.inr (.inr (.inr (fun _ => none))))) := by rw [eσ22]; exact kq_new_far hq_gu hL_ro hS_ro
  have hL_ro : ro ∈ L23 := by rw [eL23]; exact List.mem_append_left _ hL_ro
  have hN_tp_gu : tp ≠ gu := fun h9 => hq_gu (h9 ▸ hL_tp)
  have hS_tp : σ22 tp = .inr (6, [.ref bt, .ref dr, .int 0, .int 0, .int 0, .int 0, .int 0]) := by rw [eσ22]; exact kq_new_far hq_gu hL_tp hS_tp
  have hL_tp : tp ∈ L23 := by rw [eL23]; exact List.mem_append_left _ hL_tp
  have hN_bt_gu : bt ≠ gu := fun h9 => hq_gu (h9 ▸ hL_bt)
  have hS_bt : σ22 bt = .inl (E.2 0, 100, .inl (fun _ => 0)) := by rw [eσ22]; exact kq_new_far hq_gu hL_bt hS_bt
  have hL_bt : bt ∈ L23 := by rw [eL23]; exact List.mem_append_left _ hL_bt
  have hN_dr_gu : dr ≠ gu := fun h9 => hq_gu (h9 ▸ hL_dr)
  have hS_dr : σ22 dr = .inr (2, [.ref d1, .ref d2, .ref d3, .ref d4, .int 0, .int 0, .int 0, .int 0]) := by rw [eσ22]; exact kq_new_far hq_gu hL_dr hS_dr
  have hL_dr : dr ∈ L23 := by rw [eL23]; exact List.mem_append_left _ hL_dr
  have hN_d1_gu : d1 ≠ gu := fun h9 => hq_gu (h9 ▸ hL_d1)
  have hS_d1 : σ22 d1 = .inl (E.2 0, 18, .inl (fun _ => 0)) := by rw [eσ22]; exact kq_new_far hq_gu hL_d1 hS_d1
  have hL_d1 : d1 ∈ L23 := by rw [eL23]; exact List.mem_append_left _ hL_d1
  have hN_d2_gu : d2 ≠ gu := fun h9 => hq_gu (h9 ▸ hL_d2)
  have hS_d2 : σ22 d2 = .inl (E.2 0, 4, .inl (fun _ => 0)) := by rw [eσ22]; exact kq_new_far hq_gu hL_d2 hS_d2
  have hL_d2 : d2 ∈ L23 := by rw [eL23]; exact List.mem_append_left _ hL_d2
  have hN_d3_gu : d3 ≠ gu := fun h9 => hq_gu (h9 ▸ hL_d3)
  have hS_d3 : σ22 d3 = .inl (E.2 0, 4, .inl (fun _ => 0)) := by rw [eσ22]; exact kq_new_far hq_gu hL_d3 hS_d3
  have hL_d3 : d3 ∈ L23 := by rw [eL23]; exact List.mem_append_left _ hL_d3
  have hN_d4_gu : d4 ≠ gu := fun h9 => hq_gu (h9 ▸ hL_d4)
  have hS_d4 : σ22 d4 = .inr (4, [.ref d5, .ref d6, .ref d7, .ref d8, .int 0, .int 0, .int 0, .int 0]) := by rw [eσ22]; exact kq_new_far hq_gu hL_d4 hS_d4
  have hL_d4 : d4 ∈ L23 := by rw [eL23]; exact List.mem_append_left _ hL_d4
  have hN_d5_gu : d5 ≠ gu := fun h9 => hq_gu (h9 ▸ hL_d5)
  have hS_d5 : σ22 d5 = .inl (E.2 0, 4, .inl (fun _ => 0)) := by rw [eσ22]; exact kq_new_far hq_gu hL_d5 hS_d5
  have hL_d5 : d5 ∈ L23 := by rw [eL23]; exact List.mem_append_left _ hL_d5
  have hN_d6_gu : d6 ≠ gu := fun h9 => hq_gu (h9 ▸ hL_d6)
  have hS_d6 : σ22 d6 = .inl (E.2 0, 9, .inl (fun _ => 0)) := by rw [eσ22]; exact kq_new_far hq_gu hL_d6 hS_d6
  have hL_d6 : d6 ∈ L23 := by rw [eL23]; exact List.mem_append_left _ hL_d6
  have hN_d7_gu : d7 ≠ gu := fun h9 => hq_gu (h9 ▸ hL_d7)
  have hS_d7 : σ22 d7 = .inl (E.2 0, 9, .inl (fun _ => 0)) := by rw [eσ22]; exact kq_new_far hq_gu hL_d7 hS_d7
  have hL_d7 : d7 ∈ L23 := by rw [eL23]; exact List.mem_append_left _ hL_d7
  have hN_d8_gu : d8 ≠ gu := fun h9 => hq_gu (h9 ▸ hL_d8)
  have hS_d8 : σ22 d8 = .inl (E.2 0, 9, .inl (fun _ => 0)) := by rw [eσ22]; exact kq_new_far hq_gu hL_d8 hS_d8
  have hL_d8 : d8 ∈ L23 := by rw [eL23]; exact List.mem_append_left _ hL_d8
  have hN_gt_gu : gt ≠ gu := fun h9 => hq_gu (h9 ▸ hL_gt)
  have hS_gt : σ22 gt = .inr (2, [.ref g1, .ref g2, .ref g3, .ref n_, .int 0, .int 0, .int 0, .int 0]) := by rw [eσ22]; exact kq_new_far hq_gu hL_gt hS_gt
  have hL_gt : gt ∈ L23 := by rw [eL23]; exact List.mem_append_left _ hL_gt
  have hN_g1_gu : g1 ≠ gu := fun h9 => hq_gu (h9 ▸ hL_g1)
  have hS_g1 : σ22 g1 = .inl (E.2 0, 18, .inl (fun _ => 0)) := by rw [eσ22]; exact kq_new_far hq_gu hL_g1 hS_g1
  have hL_g1 : g1 ∈ L23 := by rw [eL23]; exact List.mem_append_left _ hL_g1
  have hN_g2_gu : g2 ≠ gu := fun h9 => hq_gu (h9 ▸ hL_g2)
  have hS_g2 : σ22 g2 = .inl (E.2 0, 4, .inl (fun _ => 0)) := by rw [eσ22]; exact kq_new_far hq_gu hL_g2 hS_g2
  have hL_g2 : g2 ∈ L23 := by rw [eL23]; exact List.mem_append_left _ hL_g2
  have hN_g3_gu : g3 ≠ gu := fun h9 => hq_gu (h9 ▸ hL_g3)
  have hS_g3 : σ22 g3 = .inl (E.2 0, 4, .inl (fun _ => 0)) := by rw [eσ22]; exact kq_new_far hq_gu hL_g3 hS_g3
  have hL_g3 : g3 ∈ L23 := by rw [eL23]; exact List.mem_append_left _ hL_g3
  have hN_n__gu : n_ ≠ gu := fun h9 => hq_gu (h9 ▸ hL_n_)
  have hS_n_ : σ22 n_ = .inr (4, [.ref t1, .ref t2, .ref t3, .ref t4, .int 0, .int 0, .int 0, .int 0]) := by rw [eσ22]; exact kq_new_far hq_gu hL_n_ hS_n_
  have hL_n_ : n_ ∈ L23 := by rw [eL23]; exact List.mem_append_left _ hL_n_
  have hN_t1_gu : t1 ≠ gu := fun h9 => hq_gu (h9 ▸ hL_t1)
  have hS_t1 : σ22 t1 = .inl (E.2 0, 4, .inl (fun _ => 0)) := by rw [eσ22]; exact kq_new_far hq_gu hL_t1 hS_t1
  have hL_t1 : t1 ∈ L23 := by rw [eL23]; exact List.mem_append_left _ hL_t1
  have hN_t2_gu : t2 ≠ gu := fun h9 => hq_gu (h9 ▸ hL_t2)
  have hS_t2 : σ22 t2 = .inl (E.2 0, 9, .inl (fun _ => 0)) := by rw [eσ22]; exact kq_new_far hq_gu hL_t2 hS_t2
  have hL_t2 : t2 ∈ L23 := by rw [eL23]; exact List.mem_append_left _ hL_t2
  have hN_t3_gu : t3 ≠ gu := fun h9 => hq_gu (h9 ▸ hL_t3)
  have hS_t3 : σ22 t3 = .inl (E.2 0, 9, .inl (fun _ => 0)) := by rw [eσ22]; exact kq_new_far hq_gu hL_t3 hS_t3
  have hL_t3 : t3 ∈ L23 := by rw [eL23]; exact List.mem_append_left _ hL_t3
  have hN_t4_gu : t4 ≠ gu := fun h9 => hq_gu (h9 ▸ hL_t4)
  have hS_t4 : σ22 t4 = .inl (E.2 0, 9, .inl (fun _ => 0)) := by rw [eσ22]; exact kq_new_far hq_gu hL_t4 hS_t4
  have hL_t4 : t4 ∈ L23 := by rw [eL23]; exact List.mem_append_left _ hL_t4
  have hN_ac_gu : ac ≠ gu := fun h9 => hq_gu (h9 ▸ hL_ac)
  have hS_ac : σ22 ac = .inr (0, [.ref ah, .int 0, .int 0]) := by rw [eσ22]; exact kq_new_far hq_gu hL_ac hS_ac
  have hL_ac : ac ∈ L23 := by rw [eL23]; exact List.mem_append_left _ hL_ac
  have hN_ah_gu : ah ≠ gu := fun h9 => hq_gu (h9 ▸ hL_ah)
  have hS_ah : σ22 ah = .inl (E.2 3, 24, .inr (.inr (.inr (.inr f_ah)))) := by rw [eσ22]; exact kq_new_far hq_gu hL_ah hS_ah
  have hL_ah : ah ∈ L23 := by rw [eL23]; exact List.mem_append_left _ hL_ah
  have hN_im_gu : im ≠ gu := fun h9 => hq_gu (h9 ▸ hL_im)
  have hS_im : σ22 im = .inl (E.2 2, 2, .inr (.inr (.inr (.inr (fun _ => none))))) := by rw [eσ22]; exact kq_new_far hq_gu hL_im hS_im
  have hL_im : im ∈ L23 := by rw [eL23]; exact List.mem_append_left _ hL_im
  have hN_x_gu : x ≠ gu := fun h9 => hq_gu (h9 ▸ hL_x)
  have hS_x : σ22 x = .inr (7, [.ref ro, .ref tp, .ref gt, .ref ac, .ref im, .null, .null, .int 0, .int 0]) := by rw [eσ22]; exact kq_new_far hq_gu hL_x hS_x
  have hL_x : x ∈ L23 := by rw [eL23]; exact List.mem_append_left _ hL_x
  have hS_gu : σ22 gu = .inr (3, [.null, .null]) := by rw [eσ22]; exact va_up_self _ _ _
  have hL_gu : gu ∈ L23 := by rw [eL23]; exact List.mem_append_right _ List.mem_cons_self
  have hO_gu := hE.out hq_gu
  have hE := hE.mk hq_gu eL23 eσ22
  have hQ_ac := chQ.ext (loc_mom E) hQ_ac (kq_ext.rf.mk hq_gu eL23 eσ22) (chQ.new hQ_ac hq_gu)
  refine lv_dup hx hb dX7_init_58 rfl ?_
  refine kq_ctorN (As := []) (rest := [.ref gu, .ref x]) (n := 0) (b := gu) (mc := 2) (ms := 100) ⟨hx, hb, hml, hown, hts⟩ (k_X3_init l E L23 σ22 hL_gu hS_gu) gX7_init_X3_init_n42 rfl (hts (.initialized RX3) (by decide +kernel)) (by decide +kernel) (hts (.instanceMethod yX3_init) (by decide +kernel)) rfl (by decide +kernel) ⟨Nat.le_of_ble_eq_true rfl, Nat.le_of_ble_eq_true rfl⟩ hK hw rfl hl.1 rfl (Nat.le_of_ble_eq_true rfl) dX7_init_59 rfl rfl ⟨Nat.le_of_ble_eq_true rfl, Nat.le_of_ble_eq_true rfl⟩ (fun L25 σ24 H locs hp hw => ?_)
  obtain ⟨hEx, c1, c2, hLqL25, nhS_gu, nhS_c1, nhS_c2⟩ := hp
  have hQ_ac := chQ.ext (loc_mom E) hQ_ac hEx (fun j hj => mom_ne (hQ_ac j hj).2.2 (Or.inl ⟨_, _, hS_gu, by decide⟩))
  have hS_ro : σ24 ro = .inl (E.2 4, 8, .inr (.inr (.inr (.inr (fun _ => none))))) := (hEx.2 ro hL_ro hN_ro_gu).trans hS_ro
  have hL_ro : ro ∈ L25 := hEx.1 ro hL_ro
  have hS_tp : σ24 tp = .inr (6, [.ref bt, .ref dr, .int 0, .int 0, .int 0, .int 0, .int 0]) := (hEx.2 tp hL_tp hN_tp_gu).trans hS_tp
  have hL_tp : tp ∈ L25 := hEx.1 tp hL_tp
  have hS_bt : σ24 bt = .inl (E.2 0, 100, .inl (fun _ => 0)) := (hEx.2 bt hL_bt hN_bt_gu).trans hS_bt
  have hL_bt : bt ∈ L25 := hEx.1 bt hL_bt
  have hS_dr : σ24 dr = .inr (2, [.ref d1, .ref d2, .ref d3, .ref d4, .int 0, .int 0, .int 0, .int 0]) := (hEx.2 dr hL_dr hN_dr_gu).trans hS_dr
  have hL_dr : dr ∈ L25 := hEx.1 dr hL_dr
  have hS_d1 : σ24 d1 = .inl (E.2 0, 18, .inl (fun _ => 0)) := (hEx.2 d1 hL_d1 hN_d1_gu).trans hS_d1
  have hL_d1 : d1 ∈ L25 := hEx.1 d1 hL_d1
  have hS_d2 : σ24 d2 = .inl (E.2 0, 4, .inl (fun _ => 0)) := (hEx.2 d2 hL_d2 hN_d2_gu).trans hS_d2
  have hL_d2 : d2 ∈ L25 := hEx.1 d2 hL_d2
  have hS_d3 : σ24 d3 = .inl (E.2 0, 4, .inl (fun _ => 0)) := (hEx.2 d3 hL_d3 hN_d3_gu).trans hS_d3
  have hL_d3 : d3 ∈ L25 := hEx.1 d3 hL_d3
  have hS_d4 : σ24 d4 = .inr (4, [.ref d5, .ref d6, .ref d7, .ref d8, .int 0, .int 0, .int 0, .int 0]) := (hEx.2 d4 hL_d4 hN_d4_gu).trans hS_d4
  have hL_d4 : d4 ∈ L25 := hEx.1 d4 hL_d4
  have hS_d5 : σ24 d5 = .inl (E.2 0, 4, .inl (fun _ => 0)) := (hEx.2 d5 hL_d5 hN_d5_gu).trans hS_d5
  have hL_d5 : d5 ∈ L25 := hEx.1 d5 hL_d5
  have hS_d6 : σ24 d6 = .inl (E.2 0, 9, .inl (fun _ => 0)) := (hEx.2 d6 hL_d6 hN_d6_gu).trans hS_d6
  have hL_d6 : d6 ∈ L25 := hEx.1 d6 hL_d6
  have hS_d7 : σ24 d7 = .inl (E.2 0, 9, .inl (fun _ => 0)) := (hEx.2 d7 hL_d7 hN_d7_gu).trans hS_d7
  have hL_d7 : d7 ∈ L25 := hEx.1 d7 hL_d7
  have hS_d8 : σ24 d8 = .inl (E.2 0, 9, .inl (fun _ => 0)) := (hEx.2 d8 hL_d8 hN_d8_gu).trans hS_d8
  have hL_d8 : d8 ∈ L25 := hEx.1 d8 hL_d8
  have hS_gt : σ24 gt = .inr (2, [.ref g1, .ref g2, .ref g3, .ref n_, .int 0, .int 0, .int 0, .int 0]) := (hEx.2 gt hL_gt hN_gt_gu).trans hS_gt
  have hL_gt : gt ∈ L25 := hEx.1 gt hL_gt
  have hS_g1 : σ24 g1 = .inl (E.2 0, 18, .inl (fun _ => 0)) := (hEx.2 g1 hL_g1 hN_g1_gu).trans hS_g1
  have hL_g1 : g1 ∈ L25 := hEx.1 g1 hL_g1
  have hS_g2 : σ24 g2 = .inl (E.2 0, 4, .inl (fun _ => 0)) := (hEx.2 g2 hL_g2 hN_g2_gu).trans hS_g2
  have hL_g2 : g2 ∈ L25 := hEx.1 g2 hL_g2
  have hS_g3 : σ24 g3 = .inl (E.2 0, 4, .inl (fun _ => 0)) := (hEx.2 g3 hL_g3 hN_g3_gu).trans hS_g3
  have hL_g3 : g3 ∈ L25 := hEx.1 g3 hL_g3
  have hS_n_ : σ24 n_ = .inr (4, [.ref t1, .ref t2, .ref t3, .ref t4, .int 0, .int 0, .int 0, .int 0]) := (hEx.2 n_ hL_n_ hN_n__gu).trans hS_n_
  have hL_n_ : n_ ∈ L25 := hEx.1 n_ hL_n_
  have hS_t1 : σ24 t1 = .inl (E.2 0, 4, .inl (fun _ => 0)) := (hEx.2 t1 hL_t1 hN_t1_gu).trans hS_t1
  have hL_t1 : t1 ∈ L25 := hEx.1 t1 hL_t1
  have hS_t2 : σ24 t2 = .inl (E.2 0, 9, .inl (fun _ => 0)) := (hEx.2 t2 hL_t2 hN_t2_gu).trans hS_t2
  have hL_t2 : t2 ∈ L25 := hEx.1 t2 hL_t2
  have hS_t3 : σ24 t3 = .inl (E.2 0, 9, .inl (fun _ => 0)) := (hEx.2 t3 hL_t3 hN_t3_gu).trans hS_t3
  have hL_t3 : t3 ∈ L25 := hEx.1 t3 hL_t3
  have hS_t4 : σ24 t4 = .inl (E.2 0, 9, .inl (fun _ => 0)) := (hEx.2 t4 hL_t4 hN_t4_gu).trans hS_t4
  have hL_t4 : t4 ∈ L25 := hEx.1 t4 hL_t4
  have hS_ac : σ24 ac = .inr (0, [.ref ah, .int 0, .int 0]) := (hEx.2 ac hL_ac hN_ac_gu).trans hS_ac
  have hL_ac : ac ∈ L25 := hEx.1 ac hL_ac
  have hS_ah : σ24 ah = .inl (E.2 3, 24, .inr (.inr (.inr (.inr f_ah)))) := (hEx.2 ah hL_ah hN_ah_gu).trans hS_ah
  have hL_ah : ah ∈ L25 := hEx.1 ah hL_ah
  have hS_im : σ24 im = .inl (E.2 2, 2, .inr (.inr (.inr (.inr (fun _ => none))))) := (hEx.2 im hL_im hN_im_gu).trans hS_im
  have hL_im : im ∈ L25 := hEx.1 im hL_im
  have hS_x : σ24 x = .inr (7, [.ref ro, .ref tp, .ref gt, .ref ac, .ref im, .null, .null, .int 0, .int 0]) := (hEx.2 x hL_x hN_x_gu).trans hS_x
  have hL_x : x ∈ L25 := hEx.1 x hL_x
  have hL_gu : gu ∈ L25 := hEx.1 gu hL_gu
  have hS_gu := nhS_gu
  have hS_c1 := nhS_c1
  have hL_c1 : c1 ∈ L25 := by rw [hLqL25]; simp
  have hS_c2 := nhS_c2
  have hL_c2 : c2 ∈ L25 := by rw [hLqL25]; simp
  have hE := hE.call hO_gu hEx
  refine kq_putF (ci := 7) (v := .ref gu) (ty := .object "WrongWord$Guesses") (C := RX7) (T := TX7) (N := 9) (fs' := [.ref ro, .ref tp, .ref gt, .ref ac, .ref im, .ref gu, .null, .int 0, .int 0]) hx hb hts fi_X7_init_X7 tyX7 tyX7_ok nmX7 hown hK hw hL_x hS_x rfl 5 (by decide) (hts (.fieldLink RX7 43 "WrongWord" "guesses" "LWrongWord$Guesses;") ow_X7_init_43) rfl hnm rfl (by decide +kernel) rfl rfl (Nat.le_of_ble_eq_true rfl) rfl dX7_init_62 (fun H locs σ26 eσ26 hw => ?_)
  have pS_x := hS_x
  have nhS_ro : σ26 ro = .inl (E.2 4, 8, .inr (.inr (.inr (.inr (fun _ => none))))) := by rw [eσ26]; exact kq_far (Ne.symm hN_x_ro) hS_ro
  have nhS_tp : σ26 tp = .inr (6, [.ref bt, .ref dr, .int 0, .int 0, .int 0, .int 0, .int 0]) := by rw [eσ26]; exact kq_far (Ne.symm hN_x_tp) hS_tp
  have nhS_bt : σ26 bt = .inl (E.2 0, 100, .inl (fun _ => 0)) := by rw [eσ26]; exact kq_far (kq_ne hS_bt hS_x kq_nao) hS_bt
  have nhS_dr : σ26 dr = .inr (2, [.ref d1, .ref d2, .ref d3, .ref d4, .int 0, .int 0, .int 0, .int 0]) := by rw [eσ26]; exact kq_far (kq_ne hS_dr hS_x (kq_noo (by decide))) hS_dr
  have nhS_d1 : σ26 d1 = .inl (E.2 0, 18, .inl (fun _ => 0)) := by rw [eσ26]; exact kq_far (kq_ne hS_d1 hS_x kq_nao) hS_d1
  have nhS_d2 : σ26 d2 = .inl (E.2 0, 4, .inl (fun _ => 0)) := by rw [eσ26]; exact kq_far (kq_ne hS_d2 hS_x kq_nao) hS_d2
  have nhS_d3 : σ26 d3 = .inl (E.2 0, 4, .inl (fun _ => 0)) := by rw [eσ26]; exact kq_far (kq_ne hS_d3 hS_x kq_nao) hS_d3
  have nhS_d4 : σ26 d4 = .inr (4, [.ref d5, .ref d6, .ref d7, .ref d8, .int 0, .int 0, .int 0, .int 0]) := by rw [eσ26]; exact kq_far (kq_ne hS_d4 hS_x (kq_noo (by decide))) hS_d4
  have nhS_d5 : σ26 d5 = .inl (E.2 0, 4, .inl (fun _ => 0)) := by rw [eσ26]; exact kq_far (kq_ne hS_d5 hS_x kq_nao) hS_d5
  have nhS_d6 : σ26 d6 = .inl (E.2 0, 9, .inl (fun _ => 0)) := by rw [eσ26]; exact kq_far (kq_ne hS_d6 hS_x kq_nao) hS_d6
  have nhS_d7 : σ26 d7 = .inl (E.2 0, 9, .inl (fun _ => 0)) := by rw [eσ26]; exact kq_far (kq_ne hS_d7 hS_x kq_nao) hS_d7
  have nhS_d8 : σ26 d8 = .inl (E.2 0, 9, .inl (fun _ => 0)) := by rw [eσ26]; exact kq_far (kq_ne hS_d8 hS_x kq_nao) hS_d8
  have nhS_gt : σ26 gt = .inr (2, [.ref g1, .ref g2, .ref g3, .ref n_, .int 0, .int 0, .int 0, .int 0]) := by rw [eσ26]; exact kq_far (Ne.symm hN_x_gt) hS_gt
  have nhS_g1 : σ26 g1 = .inl (E.2 0, 18, .inl (fun _ => 0)) := by rw [eσ26]; exact kq_far (kq_ne hS_g1 hS_x kq_nao) hS_g1
  have nhS_g2 : σ26 g2 = .inl (E.2 0, 4, .inl (fun _ => 0)) := by rw [eσ26]; exact kq_far (kq_ne hS_g2 hS_x kq_nao) hS_g2
  have nhS_g3 : σ26 g3 = .inl (E.2 0, 4, .inl (fun _ => 0)) := by rw [eσ26]; exact kq_far (kq_ne hS_g3 hS_x kq_nao) hS_g3
  have nhS_n_ : σ26 n_ = .inr (4, [.ref t1, .ref t2, .ref t3, .ref t4, .int 0, .int 0, .int 0, .int 0]) := by rw [eσ26]; exact kq_far (kq_ne hS_n_ hS_x (kq_noo (by decide))) hS_n_
  have nhS_t1 : σ26 t1 = .inl (E.2 0, 4, .inl (fun _ => 0)) := by rw [eσ26]; exact kq_far (kq_ne hS_t1 hS_x kq_nao) hS_t1
  have nhS_t2 : σ26 t2 = .inl (E.2 0, 9, .inl (fun _ => 0)) := by rw [eσ26]; exact kq_far (kq_ne hS_t2 hS_x kq_nao) hS_t2
  have nhS_t3 : σ26 t3 = .inl (E.2 0, 9, .inl (fun _ => 0)) := by rw [eσ26]; exact kq_far (kq_ne hS_t3 hS_x kq_nao) hS_t3
  have nhS_t4 : σ26 t4 = .inl (E.2 0, 9, .inl (fun _ => 0)) := by rw [eσ26]; exact kq_far (kq_ne hS_t4 hS_x kq_nao) hS_t4
  have nhS_ac : σ26 ac = .inr (0, [.ref ah, .int 0, .int 0]) := by rw [eσ26]; exact kq_far (Ne.symm hN_x_ac) hS_ac
  have nhS_ah : σ26 ah = .inl (E.2 3, 24, .inr (.inr (.inr (.inr f_ah)))) := by rw [eσ26]; exact kq_far (kq_ne hS_ah hS_x kq_nao) hS_ah
  have nhS_im : σ26 im = .inl (E.2 2, 2, .inr (.inr (.inr (.inr (fun _ => none))))) := by rw [eσ26]; exact kq_far (Ne.symm hN_x_im) hS_im
  have nhS_gu : σ26 gu = .inr (3, [.ref c1, .ref c2]) := by rw [eσ26]; exact kq_far (Ne.symm hN_x_gu) hS_gu
  have nhS_c1 : σ26 c1 = .inl (E.2 0, 36, .inl (fun _ => 0)) := by rw [eσ26]; exact kq_far (kq_ne hS_c1 hS_x kq_nao) hS_c1
  have nhS_c2 : σ26 c2 = .inl (E.2 0, 64, .inl (fun _ => 0)) := by rw [eσ26]; exact kq_far (kq_ne hS_c2 hS_x kq_nao) hS_c2
  have nhS_x : σ26 x = .inr (7, [.ref ro, .ref tp, .ref gt, .ref ac, .ref im, .ref gu, .null, .int 0, .int 0]) := by rw [eσ26]; exact va_up_self _ _ _
  have hS_ro := nhS_ro
  have hS_tp := nhS_tp
  have hS_bt := nhS_bt
  have hS_dr := nhS_dr
  have hS_d1 := nhS_d1
  have hS_d2 := nhS_d2
  have hS_d3 := nhS_d3
  have hS_d4 := nhS_d4
  have hS_d5 := nhS_d5
  have hS_d6 := nhS_d6
  have hS_d7 := nhS_d7
  have hS_d8 := nhS_d8
  have hS_gt := nhS_gt
  have hS_g1 := nhS_g1
  have hS_g2 := nhS_g2
  have hS_g3 := nhS_g3
  have hS_n_ := nhS_n_
  have hS_t1 := nhS_t1
  have hS_t2 := nhS_t2
  have hS_t3 := nhS_t3
  have hS_t4 := nhS_t4
  have hS_ac := nhS_ac
  have hS_ah := nhS_ah
  have hS_im := nhS_im
  have hS_gu := nhS_gu
  have hS_c1 := nhS_c1
  have hS_c2 := nhS_c2
  have hS_x := nhS_x
  have hE := hE.self eσ26
  have hQ_ac := chQ.ext (loc_mom E) hQ_ac (kq_ext.rf.self eσ26) (fun j hj => mom_ne (hQ_ac j hj).2.2 (Or.inl ⟨_, _, pS_x, by decide⟩))
  refine lv_aload_n hx hb dX7_init_65 rfl (lv_at hl 0 rfl) ?_
  refine kq_new (ci := 1) (fs := [.null, .int 0, .int 0, .int 0, .int 0, .int 0]) (C := RX1) (T := TX1) (N := 6) hx hb hts fi_X7_init_X1 tyX1 tyX1_ok hown (hts (.classLink RX7 47 RX1) (by decide +kernel)) (hts (.instantiable RX1 6) (by decide +kernel)) (hts (.initialized RX1) (by decide +kernel)) hK hw rfl (fun j hj => by rcases (show j = 0 ∨ j = 1 ∨ j = 2 ∨ j = 3 ∨ j = 4 ∨ j = 5 by omega) with rfl | rfl | rfl | rfl | rfl | rfl <;> rfl) (Nat.le_of_ble_eq_true rfl) (Nat.le_of_ble_eq_true rfl) dX7_init_66 (fun ak H L28 σ27 hq_ak eL28 eσ27 hw => ?_)
  have hN_ro_ak : ro ≠ ak := fun h9 => hq_ak (h9 ▸ hL_ro)
  have hS_ro : σ27 ro = .inl (E.2 4, 8, .inr (.inr (.inr (.inr (fun _ => none))))) := by rw [eσ27]; exact kq_new_far hq_ak hL_ro hS_ro
  have hL_ro : ro ∈ L28 := by rw [eL28]; exact List.mem_append_left _ hL_ro
  have hN_tp_ak : tp ≠ ak := fun h9 => hq_ak (h9 ▸ hL_tp)
  have hS_tp : σ27 tp = .inr (6, [.ref bt, .ref dr, .int 0, .int 0, .int 0, .int 0, .int 0]) := by rw [eσ27]; exact kq_new_far hq_ak hL_tp hS_tp
  have hL_tp : tp ∈ L28 := by rw [eL28]; exact List.mem_append_left _ hL_tp
  have hN_bt_ak : bt ≠ ak := fun h9 => hq_ak (h9 ▸ hL_bt)
  have hS_bt : σ27 bt = .inl (E.2 0, 100, .inl (fun _ => 0)) := by rw [eσ27]; exact kq_new_far hq_ak hL_bt hS_bt
  have hL_bt : bt ∈ L28 := by rw [eL28]; exact List.mem_append_left _ hL_bt
  have hN_dr_ak : dr ≠ ak := fun h9 => hq_ak (h9 ▸ hL_dr)
  have hS_dr : σ27 dr = .inr (2, [.ref d1, .ref d2, .ref d3, .ref d4, .int 0, .int 0, .int 0, .int 0]) := by rw [eσ27]; exact kq_new_far hq_ak hL_dr hS_dr
  have hL_dr : dr ∈ L28 := by rw [eL28]; exact List.mem_append_left _ hL_dr
  have hN_d1_ak : d1 ≠ ak := fun h9 => hq_ak (h9 ▸ hL_d1)
  have hS_d1 : σ27 d1 = .inl (E.2 0, 18, .inl (fun _ => 0)) := by rw [eσ27]; exact kq_new_far hq_ak hL_d1 hS_d1
  have hL_d1 : d1 ∈ L28 := by rw [eL28]; exact List.mem_append_left _ hL_d1
  have hN_d2_ak : d2 ≠ ak := fun h9 => hq_ak (h9 ▸ hL_d2)
  have hS_d2 : σ27 d2 = .inl (E.2 0, 4, .inl (fun _ => 0)) := by rw [eσ27]; exact kq_new_far hq_ak hL_d2 hS_d2
  have hL_d2 : d2 ∈ L28 := by rw [eL28]; exact List.mem_append_left _ hL_d2
  have hN_d3_ak : d3 ≠ ak := fun h9 => hq_ak (h9 ▸ hL_d3)
  have hS_d3 : σ27 d3 = .inl (E.2 0, 4, .inl (fun _ => 0)) := by rw [eσ27]; exact kq_new_far hq_ak hL_d3 hS_d3
  have hL_d3 : d3 ∈ L28 := by rw [eL28]; exact List.mem_append_left _ hL_d3
  have hN_d4_ak : d4 ≠ ak := fun h9 => hq_ak (h9 ▸ hL_d4)
  have hS_d4 : σ27 d4 = .inr (4, [.ref d5, .ref d6, .ref d7, .ref d8, .int 0, .int 0, .int 0, .int 0]) := by rw [eσ27]; exact kq_new_far hq_ak hL_d4 hS_d4
  have hL_d4 : d4 ∈ L28 := by rw [eL28]; exact List.mem_append_left _ hL_d4
  have hN_d5_ak : d5 ≠ ak := fun h9 => hq_ak (h9 ▸ hL_d5)
  have hS_d5 : σ27 d5 = .inl (E.2 0, 4, .inl (fun _ => 0)) := by rw [eσ27]; exact kq_new_far hq_ak hL_d5 hS_d5
  have hL_d5 : d5 ∈ L28 := by rw [eL28]; exact List.mem_append_left _ hL_d5
  have hN_d6_ak : d6 ≠ ak := fun h9 => hq_ak (h9 ▸ hL_d6)
  have hS_d6 : σ27 d6 = .inl (E.2 0, 9, .inl (fun _ => 0)) := by rw [eσ27]; exact kq_new_far hq_ak hL_d6 hS_d6
  have hL_d6 : d6 ∈ L28 := by rw [eL28]; exact List.mem_append_left _ hL_d6
  have hN_d7_ak : d7 ≠ ak := fun h9 => hq_ak (h9 ▸ hL_d7)
  have hS_d7 : σ27 d7 = .inl (E.2 0, 9, .inl (fun _ => 0)) := by rw [eσ27]; exact kq_new_far hq_ak hL_d7 hS_d7
  have hL_d7 : d7 ∈ L28 := by rw [eL28]; exact List.mem_append_left _ hL_d7
  have hN_d8_ak : d8 ≠ ak := fun h9 => hq_ak (h9 ▸ hL_d8)
  have hS_d8 : σ27 d8 = .inl (E.2 0, 9, .inl (fun _ => 0)) := by rw [eσ27]; exact kq_new_far hq_ak hL_d8 hS_d8
  have hL_d8 : d8 ∈ L28 := by rw [eL28]; exact List.mem_append_left _ hL_d8
  have hN_gt_ak : gt ≠ ak := fun h9 => hq_ak (h9 ▸ hL_gt)
  have hS_gt : σ27 gt = .inr (2, [.ref g1, .ref g2, .ref g3, .ref n_, .int 0, .int 0, .int 0, .int 0]) := by rw [eσ27]; exact kq_new_far hq_ak hL_gt hS_gt
  have hL_gt : gt ∈ L28 := by rw [eL28]; exact List.mem_append_left _ hL_gt
  have hN_g1_ak : g1 ≠ ak := fun h9 => hq_ak (h9 ▸ hL_g1)
  have hS_g1 : σ27 g1 = .inl (E.2 0, 18, .inl (fun _ => 0)) := by rw [eσ27]; exact kq_new_far hq_ak hL_g1 hS_g1
  have hL_g1 : g1 ∈ L28 := by rw [eL28]; exact List.mem_append_left _ hL_g1
  have hN_g2_ak : g2 ≠ ak := fun h9 => hq_ak (h9 ▸ hL_g2)
  have hS_g2 : σ27 g2 = .inl (E.2 0, 4, .inl (fun _ => 0)) := by rw [eσ27]; exact kq_new_far hq_ak hL_g2 hS_g2
  have hL_g2 : g2 ∈ L28 := by rw [eL28]; exact List.mem_append_left _ hL_g2
  have hN_g3_ak : g3 ≠ ak := fun h9 => hq_ak (h9 ▸ hL_g3)
  have hS_g3 : σ27 g3 = .inl (E.2 0, 4, .inl (fun _ => 0)) := by rw [eσ27]; exact kq_new_far hq_ak hL_g3 hS_g3
  have hL_g3 : g3 ∈ L28 := by rw [eL28]; exact List.mem_append_left _ hL_g3
  have hN_n__ak : n_ ≠ ak := fun h9 => hq_ak (h9 ▸ hL_n_)
  have hS_n_ : σ27 n_ = .inr (4, [.ref t1, .ref t2, .ref t3, .ref t4, .int 0, .int 0, .int 0, .int 0]) := by rw [eσ27]; exact kq_new_far hq_ak hL_n_ hS_n_
  have hL_n_ : n_ ∈ L28 := by rw [eL28]; exact List.mem_append_left _ hL_n_
  have hN_t1_ak : t1 ≠ ak := fun h9 => hq_ak (h9 ▸ hL_t1)
  have hS_t1 : σ27 t1 = .inl (E.2 0, 4, .inl (fun _ => 0)) := by rw [eσ27]; exact kq_new_far hq_ak hL_t1 hS_t1
  have hL_t1 : t1 ∈ L28 := by rw [eL28]; exact List.mem_append_left _ hL_t1
  have hN_t2_ak : t2 ≠ ak := fun h9 => hq_ak (h9 ▸ hL_t2)
  have hS_t2 : σ27 t2 = .inl (E.2 0, 9, .inl (fun _ => 0)) := by rw [eσ27]; exact kq_new_far hq_ak hL_t2 hS_t2
  have hL_t2 : t2 ∈ L28 := by rw [eL28]; exact List.mem_append_left _ hL_t2
  have hN_t3_ak : t3 ≠ ak := fun h9 => hq_ak (h9 ▸ hL_t3)
  have hS_t3 : σ27 t3 = .inl (E.2 0, 9, .inl (fun _ => 0)) := by rw [eσ27]; exact kq_new_far hq_ak hL_t3 hS_t3
  have hL_t3 : t3 ∈ L28 := by rw [eL28]; exact List.mem_append_left _ hL_t3
  have hN_t4_ak : t4 ≠ ak := fun h9 => hq_ak (h9 ▸ hL_t4)
  have hS_t4 : σ27 t4 = .inl (E.2 0, 9, .inl (fun _ => 0)) := by rw [eσ27]; exact kq_new_far hq_ak hL_t4 hS_t4
  have hL_t4 : t4 ∈ L28 := by rw [eL28]; exact List.mem_append_left _ hL_t4
  have hN_ac_ak : ac ≠ ak := fun h9 => hq_ak (h9 ▸ hL_ac)
  have hS_ac : σ27 ac = .inr (0, [.ref ah, .int 0, .int 0]) := by rw [eσ27]; exact kq_new_far hq_ak hL_ac hS_ac
  have hL_ac : ac ∈ L28 := by rw [eL28]; exact List.mem_append_left _ hL_ac
  have hN_ah_ak : ah ≠ ak := fun h9 => hq_ak (h9 ▸ hL_ah)
  have hS_ah : σ27 ah = .inl (E.2 3, 24, .inr (.inr (.inr (.inr f_ah)))) := by rw [eσ27]; exact kq_new_far hq_ak hL_ah hS_ah
  have hL_ah : ah ∈ L28 := by rw [eL28]; exact List.mem_append_left _ hL_ah
  have hN_im_ak : im ≠ ak := fun h9 => hq_ak (h9 ▸ hL_im)
  have hS_im : σ27 im = .inl (E.2 2, 2, .inr (.inr (.inr (.inr (fun _ => none))))) := by rw [eσ27]; exact kq_new_far hq_ak hL_im hS_im
  have hL_im : im ∈ L28 := by rw [eL28]; exact List.mem_append_left _ hL_im
  have hN_gu_ak : gu ≠ ak := fun h9 => hq_ak (h9 ▸ hL_gu)
  have hS_gu : σ27 gu = .inr (3, [.ref c1, .ref c2]) := by rw [eσ27]; exact kq_new_far hq_ak hL_gu hS_gu
  have hL_gu : gu ∈ L28 := by rw [eL28]; exact List.mem_append_left _ hL_gu
  have hN_c1_ak : c1 ≠ ak := fun h9 => hq_ak (h9 ▸ hL_c1)
  have hS_c1 : σ27 c1 = .inl (E.2 0, 36, .inl (fun _ => 0)) := by rw [eσ27]; exact kq_new_far hq_ak hL_c1 hS_c1
  have hL_c1 : c1 ∈ L28 := by rw [eL28]; exact List.mem_append_left _ hL_c1
  have hN_c2_ak : c2 ≠ ak := fun h9 => hq_ak (h9 ▸ hL_c2)
  have hS_c2 : σ27 c2 = .inl (E.2 0, 64, .inl (fun _ => 0)) := by rw [eσ27]; exact kq_new_far hq_ak hL_c2 hS_c2
  have hL_c2 : c2 ∈ L28 := by rw [eL28]; exact List.mem_append_left _ hL_c2
  have hN_x_ak : x ≠ ak := fun h9 => hq_ak (h9 ▸ hL_x)
  have hS_x : σ27 x = .inr (7, [.ref ro, .ref tp, .ref gt, .ref ac, .ref im, .ref gu, .null, .int 0, .int 0]) := by rw [eσ27]; exact kq_new_far hq_ak hL_x hS_x
  have hL_x : x ∈ L28 := by rw [eL28]; exact List.mem_append_left _ hL_x
  have hS_ak : σ27 ak = .inr (1, [.null, .int 0, .int 0, .int 0, .int 0, .int 0]) := by rw [eσ27]; exact va_up_self _ _ _
  have hL_ak : ak ∈ L28 := by rw [eL28]; exact List.mem_append_right _ List.mem_cons_self
  have hO_ak := hE.out hq_ak
  have hE := hE.mk hq_ak eL28 eσ27
  have hQ_ac := chQ.ext (loc_mom E) hQ_ac (kq_ext.rf.mk hq_ak eL28 eσ27) (chQ.new hQ_ac hq_ak)
  refine lv_dup hx hb dX7_init_69 rfl ?_
  refine kq_ctorN (As := []) (rest := [.ref ak, .ref x]) (n := 0) (b := ak) (mc := 1) (ms := 16) ⟨hx, hb, hml, hown, hts⟩ (k_X1_init l E L28 σ27 hL_ak hS_ak) gX7_init_X1_init_n49 rfl (hts (.initialized RX1) (by decide +kernel)) (by decide +kernel) (hts (.instanceMethod yX1_init) (by decide +kernel)) rfl (by decide +kernel) ⟨Nat.le_of_ble_eq_true rfl, Nat.le_of_ble_eq_true rfl⟩ hK hw rfl hl.1 rfl (Nat.le_of_ble_eq_true rfl) dX7_init_70 rfl rfl ⟨Nat.le_of_ble_eq_true rfl, Nat.le_of_ble_eq_true rfl⟩ (fun L30 σ29 H locs hp hw => ?_)
  obtain ⟨hEx, bd, hLqL30, nhS_ak, nhS_bd⟩ := hp
  have hQ_ac := chQ.ext (loc_mom E) hQ_ac hEx (fun j hj => mom_ne (hQ_ac j hj).2.2 (Or.inl ⟨_, _, hS_ak, by decide⟩))
  have hS_ro : σ29 ro = .inl (E.2 4, 8, .inr (.inr (.inr (.inr (fun _ => none))))) := (hEx.2 ro hL_ro hN_ro_ak).trans hS_ro
  have hL_ro : ro ∈ L30 := hEx.1 ro hL_ro
  have hS_tp : σ29 tp = .inr (6, [.ref bt, .ref dr, .int 0, .int 0, .int 0, .int 0, .int 0]) := (hEx.2 tp hL_tp hN_tp_ak).trans hS_tp
  have hL_tp : tp ∈ L30 := hEx.1 tp hL_tp
  have hS_bt : σ29 bt = .inl (E.2 0, 100, .inl (fun _ => 0)) := (hEx.2 bt hL_bt hN_bt_ak).trans hS_bt
  have hL_bt : bt ∈ L30 := hEx.1 bt hL_bt
  have hS_dr : σ29 dr = .inr (2, [.ref d1, .ref d2, .ref d3, .ref d4, .int 0, .int 0, .int 0, .int 0]) := (hEx.2 dr hL_dr hN_dr_ak).trans hS_dr
  have hL_dr : dr ∈ L30 := hEx.1 dr hL_dr
  have hS_d1 : σ29 d1 = .inl (E.2 0, 18, .inl (fun _ => 0)) := (hEx.2 d1 hL_d1 hN_d1_ak).trans hS_d1
  have hL_d1 : d1 ∈ L30 := hEx.1 d1 hL_d1
  have hS_d2 : σ29 d2 = .inl (E.2 0, 4, .inl (fun _ => 0)) := (hEx.2 d2 hL_d2 hN_d2_ak).trans hS_d2
  have hL_d2 : d2 ∈ L30 := hEx.1 d2 hL_d2
  have hS_d3 : σ29 d3 = .inl (E.2 0, 4, .inl (fun _ => 0)) := (hEx.2 d3 hL_d3 hN_d3_ak).trans hS_d3
  have hL_d3 : d3 ∈ L30 := hEx.1 d3 hL_d3
  have hS_d4 : σ29 d4 = .inr (4, [.ref d5, .ref d6, .ref d7, .ref d8, .int 0, .int 0, .int 0, .int 0]) := (hEx.2 d4 hL_d4 hN_d4_ak).trans hS_d4
  have hL_d4 : d4 ∈ L30 := hEx.1 d4 hL_d4
  have hS_d5 : σ29 d5 = .inl (E.2 0, 4, .inl (fun _ => 0)) := (hEx.2 d5 hL_d5 hN_d5_ak).trans hS_d5
  have hL_d5 : d5 ∈ L30 := hEx.1 d5 hL_d5
  have hS_d6 : σ29 d6 = .inl (E.2 0, 9, .inl (fun _ => 0)) := (hEx.2 d6 hL_d6 hN_d6_ak).trans hS_d6
  have hL_d6 : d6 ∈ L30 := hEx.1 d6 hL_d6
  have hS_d7 : σ29 d7 = .inl (E.2 0, 9, .inl (fun _ => 0)) := (hEx.2 d7 hL_d7 hN_d7_ak).trans hS_d7
  have hL_d7 : d7 ∈ L30 := hEx.1 d7 hL_d7
  have hS_d8 : σ29 d8 = .inl (E.2 0, 9, .inl (fun _ => 0)) := (hEx.2 d8 hL_d8 hN_d8_ak).trans hS_d8
  have hL_d8 : d8 ∈ L30 := hEx.1 d8 hL_d8
  have hS_gt : σ29 gt = .inr (2, [.ref g1, .ref g2, .ref g3, .ref n_, .int 0, .int 0, .int 0, .int 0]) := (hEx.2 gt hL_gt hN_gt_ak).trans hS_gt
  have hL_gt : gt ∈ L30 := hEx.1 gt hL_gt
  have hS_g1 : σ29 g1 = .inl (E.2 0, 18, .inl (fun _ => 0)) := (hEx.2 g1 hL_g1 hN_g1_ak).trans hS_g1
  have hL_g1 : g1 ∈ L30 := hEx.1 g1 hL_g1
  have hS_g2 : σ29 g2 = .inl (E.2 0, 4, .inl (fun _ => 0)) := (hEx.2 g2 hL_g2 hN_g2_ak).trans hS_g2
  have hL_g2 : g2 ∈ L30 := hEx.1 g2 hL_g2
  have hS_g3 : σ29 g3 = .inl (E.2 0, 4, .inl (fun _ => 0)) := (hEx.2 g3 hL_g3 hN_g3_ak).trans hS_g3
  have hL_g3 : g3 ∈ L30 := hEx.1 g3 hL_g3
  have hS_n_ : σ29 n_ = .inr (4, [.ref t1, .ref t2, .ref t3, .ref t4, .int 0, .int 0, .int 0, .int 0]) := (hEx.2 n_ hL_n_ hN_n__ak).trans hS_n_
  have hL_n_ : n_ ∈ L30 := hEx.1 n_ hL_n_
  have hS_t1 : σ29 t1 = .inl (E.2 0, 4, .inl (fun _ => 0)) := (hEx.2 t1 hL_t1 hN_t1_ak).trans hS_t1
  have hL_t1 : t1 ∈ L30 := hEx.1 t1 hL_t1
  have hS_t2 : σ29 t2 = .inl (E.2 0, 9, .inl (fun _ => 0)) := (hEx.2 t2 hL_t2 hN_t2_ak).trans hS_t2
  have hL_t2 : t2 ∈ L30 := hEx.1 t2 hL_t2
  have hS_t3 : σ29 t3 = .inl (E.2 0, 9, .inl (fun _ => 0)) := (hEx.2 t3 hL_t3 hN_t3_ak).trans hS_t3
  have hL_t3 : t3 ∈ L30 := hEx.1 t3 hL_t3
  have hS_t4 : σ29 t4 = .inl (E.2 0, 9, .inl (fun _ => 0)) := (hEx.2 t4 hL_t4 hN_t4_ak).trans hS_t4
  have hL_t4 : t4 ∈ L30 := hEx.1 t4 hL_t4
  have hS_ac : σ29 ac = .inr (0, [.ref ah, .int 0, .int 0]) := (hEx.2 ac hL_ac hN_ac_ak).trans hS_ac
  have hL_ac : ac ∈ L30 := hEx.1 ac hL_ac
  have hS_ah : σ29 ah = .inl (E.2 3, 24, .inr (.inr (.inr (.inr f_ah)))) := (hEx.2 ah hL_ah hN_ah_ak).trans hS_ah
  have hL_ah : ah ∈ L30 := hEx.1 ah hL_ah
  have hS_im : σ29 im = .inl (E.2 2, 2, .inr (.inr (.inr (.inr (fun _ => none))))) := (hEx.2 im hL_im hN_im_ak).trans hS_im
  have hL_im : im ∈ L30 := hEx.1 im hL_im
  have hS_gu : σ29 gu = .inr (3, [.ref c1, .ref c2]) := (hEx.2 gu hL_gu hN_gu_ak).trans hS_gu
  have hL_gu : gu ∈ L30 := hEx.1 gu hL_gu
  have hS_c1 : σ29 c1 = .inl (E.2 0, 36, .inl (fun _ => 0)) := (hEx.2 c1 hL_c1 hN_c1_ak).trans hS_c1
  have hL_c1 : c1 ∈ L30 := hEx.1 c1 hL_c1
  have hS_c2 : σ29 c2 = .inl (E.2 0, 64, .inl (fun _ => 0)) := (hEx.2 c2 hL_c2 hN_c2_ak).trans hS_c2
  have hL_c2 : c2 ∈ L30 := hEx.1 c2 hL_c2
  have hS_x : σ29 x = .inr (7, [.ref ro, .ref tp, .ref gt, .ref ac, .ref im, .ref gu, .null, .int 0, .int 0]) := (hEx.2 x hL_x hN_x_ak).trans hS_x
  have hL_x : x ∈ L30 := hEx.1 x hL_x
  have hL_ak : ak ∈ L30 := hEx.1 ak hL_ak
  have hS_ak := nhS_ak
  have hS_bd := nhS_bd
  have hL_bd : bd ∈ L30 := by rw [hLqL30]; simp
  have hE := hE.call hO_ak hEx
  refine kq_putF (ci := 7) (v := .ref ak) (ty := .object "WrongWord$Asks") (C := RX7) (T := TX7) (N := 9) (fs' := [.ref ro, .ref tp, .ref gt, .ref ac, .ref im, .ref gu, .ref ak, .int 0, .int 0]) hx hb hts fi_X7_init_X7 tyX7 tyX7_ok nmX7 hown hK hw hL_x hS_x rfl 6 (by decide) (hts (.fieldLink RX7 50 "WrongWord" "asks" "LWrongWord$Asks;") ow_X7_init_50) rfl hnm rfl (by decide +kernel) rfl rfl (Nat.le_of_ble_eq_true rfl) rfl dX7_init_73 (fun H locs σ31 eσ31 hw => ?_)
  have pS_x := hS_x
  have nhS_ro : σ31 ro = .inl (E.2 4, 8, .inr (.inr (.inr (.inr (fun _ => none))))) := by rw [eσ31]; exact kq_far (Ne.symm hN_x_ro) hS_ro
  have nhS_tp : σ31 tp = .inr (6, [.ref bt, .ref dr, .int 0, .int 0, .int 0, .int 0, .int 0]) := by rw [eσ31]; exact kq_far (Ne.symm hN_x_tp) hS_tp
  have nhS_bt : σ31 bt = .inl (E.2 0, 100, .inl (fun _ => 0)) := by rw [eσ31]; exact kq_far (kq_ne hS_bt hS_x kq_nao) hS_bt
  have nhS_dr : σ31 dr = .inr (2, [.ref d1, .ref d2, .ref d3, .ref d4, .int 0, .int 0, .int 0, .int 0]) := by rw [eσ31]; exact kq_far (kq_ne hS_dr hS_x (kq_noo (by decide))) hS_dr
  have nhS_d1 : σ31 d1 = .inl (E.2 0, 18, .inl (fun _ => 0)) := by rw [eσ31]; exact kq_far (kq_ne hS_d1 hS_x kq_nao) hS_d1
  have nhS_d2 : σ31 d2 = .inl (E.2 0, 4, .inl (fun _ => 0)) := by rw [eσ31]; exact kq_far (kq_ne hS_d2 hS_x kq_nao) hS_d2
  have nhS_d3 : σ31 d3 = .inl (E.2 0, 4, .inl (fun _ => 0)) := by rw [eσ31]; exact kq_far (kq_ne hS_d3 hS_x kq_nao) hS_d3
  have nhS_d4 : σ31 d4 = .inr (4, [.ref d5, .ref d6, .ref d7, .ref d8, .int 0, .int 0, .int 0, .int 0]) := by rw [eσ31]; exact kq_far (kq_ne hS_d4 hS_x (kq_noo (by decide))) hS_d4
  have nhS_d5 : σ31 d5 = .inl (E.2 0, 4, .inl (fun _ => 0)) := by rw [eσ31]; exact kq_far (kq_ne hS_d5 hS_x kq_nao) hS_d5
  have nhS_d6 : σ31 d6 = .inl (E.2 0, 9, .inl (fun _ => 0)) := by rw [eσ31]; exact kq_far (kq_ne hS_d6 hS_x kq_nao) hS_d6
  have nhS_d7 : σ31 d7 = .inl (E.2 0, 9, .inl (fun _ => 0)) := by rw [eσ31]; exact kq_far (kq_ne hS_d7 hS_x kq_nao) hS_d7
  have nhS_d8 : σ31 d8 = .inl (E.2 0, 9, .inl (fun _ => 0)) := by rw [eσ31]; exact kq_far (kq_ne hS_d8 hS_x kq_nao) hS_d8
  have nhS_gt : σ31 gt = .inr (2, [.ref g1, .ref g2, .ref g3, .ref n_, .int 0, .int 0, .int 0, .int 0]) := by rw [eσ31]; exact kq_far (Ne.symm hN_x_gt) hS_gt
  have nhS_g1 : σ31 g1 = .inl (E.2 0, 18, .inl (fun _ => 0)) := by rw [eσ31]; exact kq_far (kq_ne hS_g1 hS_x kq_nao) hS_g1
  have nhS_g2 : σ31 g2 = .inl (E.2 0, 4, .inl (fun _ => 0)) := by rw [eσ31]; exact kq_far (kq_ne hS_g2 hS_x kq_nao) hS_g2
  have nhS_g3 : σ31 g3 = .inl (E.2 0, 4, .inl (fun _ => 0)) := by rw [eσ31]; exact kq_far (kq_ne hS_g3 hS_x kq_nao) hS_g3
  have nhS_n_ : σ31 n_ = .inr (4, [.ref t1, .ref t2, .ref t3, .ref t4, .int 0, .int 0, .int 0, .int 0]) := by rw [eσ31]; exact kq_far (kq_ne hS_n_ hS_x (kq_noo (by decide))) hS_n_
  have nhS_t1 : σ31 t1 = .inl (E.2 0, 4, .inl (fun _ => 0)) := by rw [eσ31]; exact kq_far (kq_ne hS_t1 hS_x kq_nao) hS_t1
  have nhS_t2 : σ31 t2 = .inl (E.2 0, 9, .inl (fun _ => 0)) := by rw [eσ31]; exact kq_far (kq_ne hS_t2 hS_x kq_nao) hS_t2
  have nhS_t3 : σ31 t3 = .inl (E.2 0, 9, .inl (fun _ => 0)) := by rw [eσ31]; exact kq_far (kq_ne hS_t3 hS_x kq_nao) hS_t3
  have nhS_t4 : σ31 t4 = .inl (E.2 0, 9, .inl (fun _ => 0)) := by rw [eσ31]; exact kq_far (kq_ne hS_t4 hS_x kq_nao) hS_t4
  have nhS_ac : σ31 ac = .inr (0, [.ref ah, .int 0, .int 0]) := by rw [eσ31]; exact kq_far (Ne.symm hN_x_ac) hS_ac
  have nhS_ah : σ31 ah = .inl (E.2 3, 24, .inr (.inr (.inr (.inr f_ah)))) := by rw [eσ31]; exact kq_far (kq_ne hS_ah hS_x kq_nao) hS_ah
  have nhS_im : σ31 im = .inl (E.2 2, 2, .inr (.inr (.inr (.inr (fun _ => none))))) := by rw [eσ31]; exact kq_far (Ne.symm hN_x_im) hS_im
  have nhS_gu : σ31 gu = .inr (3, [.ref c1, .ref c2]) := by rw [eσ31]; exact kq_far (Ne.symm hN_x_gu) hS_gu
  have nhS_c1 : σ31 c1 = .inl (E.2 0, 36, .inl (fun _ => 0)) := by rw [eσ31]; exact kq_far (kq_ne hS_c1 hS_x kq_nao) hS_c1
  have nhS_c2 : σ31 c2 = .inl (E.2 0, 64, .inl (fun _ => 0)) := by rw [eσ31]; exact kq_far (kq_ne hS_c2 hS_x kq_nao) hS_c2
  have nhS_ak : σ31 ak = .inr (1, [.ref bd, .int 0, .int 0, .int 0, .int 0, .int 0]) := by rw [eσ31]; exact kq_far (Ne.symm hN_x_ak) hS_ak
  have nhS_bd : σ31 bd = .inl (E.2 0, 16, .inl (fun _ => 0)) := by rw [eσ31]; exact kq_far (kq_ne hS_bd hS_x kq_nao) hS_bd
  have nhS_x : σ31 x = .inr (7, [.ref ro, .ref tp, .ref gt, .ref ac, .ref im, .ref gu, .ref ak, .int 0, .int 0]) := by rw [eσ31]; exact va_up_self _ _ _
  have hS_ro := nhS_ro
  have hS_tp := nhS_tp
  have hS_bt := nhS_bt
  have hS_dr := nhS_dr
  have hS_d1 := nhS_d1
  have hS_d2 := nhS_d2
  have hS_d3 := nhS_d3
  have hS_d4 := nhS_d4
  have hS_d5 := nhS_d5
  have hS_d6 := nhS_d6
  have hS_d7 := nhS_d7
  have hS_d8 := nhS_d8
  have hS_gt := nhS_gt
  have hS_g1 := nhS_g1
  have hS_g2 := nhS_g2
  have hS_g3 := nhS_g3
  have hS_n_ := nhS_n_
  have hS_t1 := nhS_t1
  have hS_t2 := nhS_t2
  have hS_t3 := nhS_t3
  have hS_t4 := nhS_t4
  have hS_ac := nhS_ac
  have hS_ah := nhS_ah
  have hS_im := nhS_im
  have hS_gu := nhS_gu
  have hS_c1 := nhS_c1
  have hS_c2 := nhS_c2
  have hS_ak := nhS_ak
  have hS_bd := nhS_bd
  have hS_x := nhS_x
  have hE := hE.self eσ31
  have hQ_ac := chQ.ext (loc_mom E) hQ_ac (kq_ext.rf.self eσ31) (fun j hj => mom_ne (hQ_ac j hj).2.2 (Or.inl ⟨_, _, pS_x, by decide⟩))
  refine lv_iconst (v := 0) hx hb dX7_init_76 (by decide) ?_
  refine lv_istore_n (lv' := [(1, .int 0), (0, .ref x)]) hx hb dX7_init_77 rfl hl (by decide) rfl (fun ls hl => ?_)
  refine kq_for (nL := 2) 8 (fun i Lv σv => ∃ (f : Nat → Option Nat) (ch : Nat → Nat → Nat), Lv = L30 ++ (List.range i).flatMap (fun j => (List.range 2).map (ch j)) ∧ kq_ext ro L30 σ31 Lv σv ∧ σv ro = .inl (E.2 4, 8, .inr (.inr (.inr (.inr f)))) ∧ chQ (rowQ E) 2 Lv σv f ch i) (fun i => [(1, .int (nI i)), (0, .ref x)]) 2 43 ⟨_, fun _ _ => 0, by simp, kq_ext.rf, hS_ro, fun j hj => absurd hj (Nat.not_lt_zero j)⟩ hw hl (fun i Lv σv H locs ls hi hI hw hl ih => ?_) (fun Lv σv H locs ls hI hw hl => ?_)
  · skip
    have hl : lv_has ls 2 [(1, .int (nI i)), (0, .ref x)] := hl
    obtain ⟨f9, ch9, eL9, hR, hS_ro, hQ9⟩ := hI
    have hS_x : σv x = .inr (7, [.ref ro, .ref tp, .ref gt, .ref ac, .ref im, .ref gu, .ref ak, .int 0, .int 0]) := (hR.2 x hL_x hN_x_ro).trans hS_x
    have hL_x : x ∈ Lv := hR.1 x hL_x
    have hL_ro : ro ∈ Lv := hR.1 ro hL_ro
    have hS9_ro := hS_ro
    have hE : kq_ext ro Lv σv Lv σv := kq_ext.rf
    refine lv_iload_n hx hb dX7_init_78 rfl (lv_at hl 0 rfl) ?_
    refine lv_bipush (v := 8) hx hb dX7_init_79 (by decide) ?_
    refine lv_icmp_ge (tgt := 103) hx hb dX7_init_81 (by decide) (fun c32 => ?_) (fun c32 => ?_)
    · exact absurd c32 (nI_ge hi (by decide))
    refine lv_aload_n hx hb dX7_init_84 rfl (lv_at hl 1 rfl) ?_
    refine kq_get (ci := 7) (v := .ref ro) (C := RX7) (T := TX7) (N := 9) hx hb hts fi_X7_init_X7 hown hK hw hL_x hS_x rfl 0 (by decide) (hts (.fieldLink RX7 11 "WrongWord" "rows" "[LWrongWord$Row;") ow_X7_init_11) rfl dX7_init_85 ?_
    refine lv_iload_n hx hb dX7_init_88 rfl (lv_at hl 0 rfl) ?_
    refine kq_new (ci := 5) (fs := [.null, .int 0, .int 0]) (C := RX5) (T := TX5) (N := 3) hx hb hts fi_X7_init_X5 tyX5 tyX5_ok hown (hts (.classLink RX7 9 RX5) (by decide +kernel)) (hts (.instantiable RX5 3) (by decide +kernel)) (hts (.initialized RX5) (by decide +kernel)) hK hw rfl (fun j hj => by rcases (show j = 0 ∨ j = 1 ∨ j = 2 by omega) with rfl | rfl | rfl <;> rfl) (by show _ ≤ 183; omega) (by show _ ≤ 1840; omega) dX7_init_89 (fun r H L34 σ33 hq_r eL34 eσ33 hw => ?_)
    have hN_x_r : x ≠ r := fun h9 => hq_r (h9 ▸ hL_x)
    have hS_x : σ33 x = .inr (7, [.ref ro, .ref tp, .ref gt, .ref ac, .ref im, .ref gu, .ref ak, .int 0, .int 0]) := by rw [eσ33]; exact kq_new_far hq_r hL_x hS_x
    have hL_x : x ∈ L34 := by rw [eL34]; exact List.mem_append_left _ hL_x
    have hN_ro_r : ro ≠ r := fun h9 => hq_r (h9 ▸ hL_ro)
    have hS_ro : σ33 ro = .inl (E.2 4, 8, .inr (.inr (.inr (.inr f9)))) := by rw [eσ33]; exact kq_new_far hq_r hL_ro hS_ro
    have hL_ro : ro ∈ L34 := by rw [eL34]; exact List.mem_append_left _ hL_ro
    have hS_r : σ33 r = .inr (5, [.null, .int 0, .int 0]) := by rw [eσ33]; exact va_up_self _ _ _
    have hL_r : r ∈ L34 := by rw [eL34]; exact List.mem_append_right _ List.mem_cons_self
    have hO_r := hE.out hq_r
    have hE := hE.mk hq_r eL34 eσ33
    refine lv_dup hx hb dX7_init_92 rfl ?_
    refine kq_ctorN (As := []) (rest := [.ref r, .int (nI i), .ref ro]) (n := 0) (b := r) (mc := 1) (ms := 40) ⟨hx, hb, hml, hown, hts⟩ (k_X5_init l E L34 σ33 hL_r hS_r) gX7_init_X5_init_n54 rfl (hts (.initialized RX5) (by decide +kernel)) (by decide +kernel) (hts (.instanceMethod yX5_init) (by decide +kernel)) rfl (by decide +kernel) ⟨Nat.le_of_ble_eq_true rfl, Nat.le_of_ble_eq_true rfl⟩ hK hw rfl hl.1 rfl (Nat.le_of_ble_eq_true rfl) dX7_init_93 rfl rfl ⟨by show _ ≤ 183; omega, by show _ ≤ 1840; omega⟩ (fun L36 σ35 H locs hp hw => ?_)
    obtain ⟨hEx, it, hLqL36, nhS_r, nhS_it⟩ := hp
    have hS_x : σ35 x = .inr (7, [.ref ro, .ref tp, .ref gt, .ref ac, .ref im, .ref gu, .ref ak, .int 0, .int 0]) := (hEx.2 x hL_x hN_x_r).trans hS_x
    have hL_x : x ∈ L36 := hEx.1 x hL_x
    have hS_ro : σ35 ro = .inl (E.2 4, 8, .inr (.inr (.inr (.inr f9)))) := (hEx.2 ro hL_ro hN_ro_r).trans hS_ro
    have hL_ro : ro ∈ L36 := hEx.1 ro hL_ro
    have hL_r : r ∈ L36 := hEx.1 r hL_r
    have hS_r := nhS_r
    have hS_it := nhS_it
    have hL_it : it ∈ L36 := by rw [hLqL36]; simp
    have hE := hE.call hO_r hEx
    refine kq_astq hx hb hK hw hL_ro 4 5 rfl hS_ro hL_r hS_r rfl (vp_in_nI hi (by decide)) dX7_init_96 (fun H locs σ37 eσ37 hw => ?_)
    have nhS_x : σ37 x = .inr (7, [.ref ro, .ref tp, .ref gt, .ref ac, .ref im, .ref gu, .ref ak, .int 0, .int 0]) := by rw [eσ37]; exact kq_far hN_x_ro hS_x
    have nhS_r : σ37 r = .inr (5, [.ref it, .int ((-1)), .int 0]) := by rw [eσ37]; exact kq_far (Ne.symm hN_ro_r) hS_r
    have nhS_it : σ37 it = .inl (E.2 0, 40, .inl (fun _ => 0)) := by rw [eσ37]; exact kq_far (kq_ne hS_it hS_ro (kq_nlen (by decide))) hS_it
    have nhS_ro : σ37 ro = .inl (E.2 4, 8, .inr (.inr (.inr (.inr (va_up f9 (Int32.toNatClampNeg (nI i)) (some r)))))) := by rw [eσ37]; exact va_up_self _ _ _
    have hS_x := nhS_x
    have hS_r := nhS_r
    have hS_it := nhS_it
    have hS_ro := nhS_ro
    have hE := hE.self eσ37
    refine lv_iinc (v := nI i + 1) (lv' := [(1, .int (nI i + 1)), (0, .ref x)]) hx hb dX7_init_97 hl (k := 0) rfl rfl (by decide) rfl (fun ls hl => ?_)
    refine lv_goto (tgt := 78) hx hb dX7_init_100 (by decide) ?_
    have hl : lv_has ls 2 [(1, .int (nI (i + 1))), (0, .ref x)] := by rw [nI_succ]; exact lv_sub hl [0, 1] rfl
    have hne9 : ∀ j, j < i → ∀ q, q < 2 → ch9 j q ≠ ro := fun j hj => row_ne (hQ9 j hj).2.2 (Or.inr ⟨_, _, _, hS9_ro, by decide⟩)
    have hQ8 := chQ.ext (loc_row E) hQ9 hE hne9
    have hmem8 : ∀ q, q < 2 → (fun k => if k = 0 then r else it) q ∈ L36 := by
      intro q hq
      rcases (show q = 0 ∨ q = 1 by omega) with rfl | rfl
      · exact hL_r
      · exact hL_it
    have hP8 : rowQ E σ37 (fun k => if k = 0 then r else it) := ⟨hS_r, hS_it⟩
    have hLn : L36 = L30 ++ (List.range (i + 1)).flatMap (fun j => (List.range 2).map (va_up ch9 i (fun k => if k = 0 then r else it) j)) := by rw [fm_next, ← List.append_assoc, ← eL9, hLqL36, eL34]; simp [List.range_succ]
    exact W.widen (by omega) (by omega) (ih _ _ _ _ _ ⟨_, _, hLn, hR.trans hE, hS_ro, hQ8.add (by omega) hmem8 hP8⟩ hw hl)
  · skip
    have hl : lv_has ls 2 [(1, .int (nI 8)), (0, .ref x)] := hl
    obtain ⟨f9, ch9, eL9, hR, nS_ro, nQ9⟩ := hI
    have hQ_ac := chQ.ext (loc_mom E) hQ_ac hR (fun j hj => mom_ne (hQ_ac j hj).2.2 (Or.inr ⟨_, _, _, hS_ro, by decide, by decide⟩))
    have nS_tp : σv tp = .inr (6, [.ref bt, .ref dr, .int 0, .int 0, .int 0, .int 0, .int 0]) := (hR.2 tp hL_tp (Ne.symm hN_ro_tp)).trans hS_tp
    have nL_tp : tp ∈ Lv := hR.1 tp hL_tp
    have nS_bt : σv bt = .inl (E.2 0, 100, .inl (fun _ => 0)) := (hR.2 bt hL_bt (kq_ne hS_bt hS_ro (kq_nlen (by decide)))).trans hS_bt
    have nL_bt : bt ∈ Lv := hR.1 bt hL_bt
    have nS_dr : σv dr = .inr (2, [.ref d1, .ref d2, .ref d3, .ref d4, .int 0, .int 0, .int 0, .int 0]) := (hR.2 dr hL_dr (kq_ne hS_dr hS_ro kq_noa)).trans hS_dr
    have nL_dr : dr ∈ Lv := hR.1 dr hL_dr
    have nS_d1 : σv d1 = .inl (E.2 0, 18, .inl (fun _ => 0)) := (hR.2 d1 hL_d1 (kq_ne hS_d1 hS_ro (kq_nlen (by decide)))).trans hS_d1
    have nL_d1 : d1 ∈ Lv := hR.1 d1 hL_d1
    have nS_d2 : σv d2 = .inl (E.2 0, 4, .inl (fun _ => 0)) := (hR.2 d2 hL_d2 (kq_ne hS_d2 hS_ro (kq_nlen (by decide)))).trans hS_d2
    have nL_d2 : d2 ∈ Lv := hR.1 d2 hL_d2
    have nS_d3 : σv d3 = .inl (E.2 0, 4, .inl (fun _ => 0)) := (hR.2 d3 hL_d3 (kq_ne hS_d3 hS_ro (kq_nlen (by decide)))).trans hS_d3
    have nL_d3 : d3 ∈ Lv := hR.1 d3 hL_d3
    have nS_d4 : σv d4 = .inr (4, [.ref d5, .ref d6, .ref d7, .ref d8, .int 0, .int 0, .int 0, .int 0]) := (hR.2 d4 hL_d4 (kq_ne hS_d4 hS_ro kq_noa)).trans hS_d4
    have nL_d4 : d4 ∈ Lv := hR.1 d4 hL_d4
    have nS_d5 : σv d5 = .inl (E.2 0, 4, .inl (fun _ => 0)) := (hR.2 d5 hL_d5 (kq_ne hS_d5 hS_ro (kq_nlen (by decide)))).trans hS_d5
    have nL_d5 : d5 ∈ Lv := hR.1 d5 hL_d5
    have nS_d6 : σv d6 = .inl (E.2 0, 9, .inl (fun _ => 0)) := (hR.2 d6 hL_d6 (kq_ne hS_d6 hS_ro (kq_nlen (by decide)))).trans hS_d6
    have nL_d6 : d6 ∈ Lv := hR.1 d6 hL_d6
    have nS_d7 : σv d7 = .inl (E.2 0, 9, .inl (fun _ => 0)) := (hR.2 d7 hL_d7 (kq_ne hS_d7 hS_ro (kq_nlen (by decide)))).trans hS_d7
    have nL_d7 : d7 ∈ Lv := hR.1 d7 hL_d7
    have nS_d8 : σv d8 = .inl (E.2 0, 9, .inl (fun _ => 0)) := (hR.2 d8 hL_d8 (kq_ne hS_d8 hS_ro (kq_nlen (by decide)))).trans hS_d8
    have nL_d8 : d8 ∈ Lv := hR.1 d8 hL_d8
    have nS_gt : σv gt = .inr (2, [.ref g1, .ref g2, .ref g3, .ref n_, .int 0, .int 0, .int 0, .int 0]) := (hR.2 gt hL_gt (Ne.symm hN_ro_gt)).trans hS_gt
    have nL_gt : gt ∈ Lv := hR.1 gt hL_gt
    have nS_g1 : σv g1 = .inl (E.2 0, 18, .inl (fun _ => 0)) := (hR.2 g1 hL_g1 (kq_ne hS_g1 hS_ro (kq_nlen (by decide)))).trans hS_g1
    have nL_g1 : g1 ∈ Lv := hR.1 g1 hL_g1
    have nS_g2 : σv g2 = .inl (E.2 0, 4, .inl (fun _ => 0)) := (hR.2 g2 hL_g2 (kq_ne hS_g2 hS_ro (kq_nlen (by decide)))).trans hS_g2
    have nL_g2 : g2 ∈ Lv := hR.1 g2 hL_g2
    have nS_g3 : σv g3 = .inl (E.2 0, 4, .inl (fun _ => 0)) := (hR.2 g3 hL_g3 (kq_ne hS_g3 hS_ro (kq_nlen (by decide)))).trans hS_g3
    have nL_g3 : g3 ∈ Lv := hR.1 g3 hL_g3
    have nS_n_ : σv n_ = .inr (4, [.ref t1, .ref t2, .ref t3, .ref t4, .int 0, .int 0, .int 0, .int 0]) := (hR.2 n_ hL_n_ (kq_ne hS_n_ hS_ro kq_noa)).trans hS_n_
    have nL_n_ : n_ ∈ Lv := hR.1 n_ hL_n_
    have nS_t1 : σv t1 = .inl (E.2 0, 4, .inl (fun _ => 0)) := (hR.2 t1 hL_t1 (kq_ne hS_t1 hS_ro (kq_nlen (by decide)))).trans hS_t1
    have nL_t1 : t1 ∈ Lv := hR.1 t1 hL_t1
    have nS_t2 : σv t2 = .inl (E.2 0, 9, .inl (fun _ => 0)) := (hR.2 t2 hL_t2 (kq_ne hS_t2 hS_ro (kq_nlen (by decide)))).trans hS_t2
    have nL_t2 : t2 ∈ Lv := hR.1 t2 hL_t2
    have nS_t3 : σv t3 = .inl (E.2 0, 9, .inl (fun _ => 0)) := (hR.2 t3 hL_t3 (kq_ne hS_t3 hS_ro (kq_nlen (by decide)))).trans hS_t3
    have nL_t3 : t3 ∈ Lv := hR.1 t3 hL_t3
    have nS_t4 : σv t4 = .inl (E.2 0, 9, .inl (fun _ => 0)) := (hR.2 t4 hL_t4 (kq_ne hS_t4 hS_ro (kq_nlen (by decide)))).trans hS_t4
    have nL_t4 : t4 ∈ Lv := hR.1 t4 hL_t4
    have nS_ac : σv ac = .inr (0, [.ref ah, .int 0, .int 0]) := (hR.2 ac hL_ac (Ne.symm hN_ro_ac)).trans hS_ac
    have nL_ac : ac ∈ Lv := hR.1 ac hL_ac
    have nS_ah : σv ah = .inl (E.2 3, 24, .inr (.inr (.inr (.inr f_ah)))) := (hR.2 ah hL_ah (kq_ne hS_ah hS_ro (kq_nlen (by decide)))).trans hS_ah
    have nL_ah : ah ∈ Lv := hR.1 ah hL_ah
    have nS_im : σv im = .inl (E.2 2, 2, .inr (.inr (.inr (.inr (fun _ => none))))) := (hR.2 im hL_im (Ne.symm hN_ro_im)).trans hS_im
    have nL_im : im ∈ Lv := hR.1 im hL_im
    have nS_gu : σv gu = .inr (3, [.ref c1, .ref c2]) := (hR.2 gu hL_gu (Ne.symm hN_ro_gu)).trans hS_gu
    have nL_gu : gu ∈ Lv := hR.1 gu hL_gu
    have nS_c1 : σv c1 = .inl (E.2 0, 36, .inl (fun _ => 0)) := (hR.2 c1 hL_c1 (kq_ne hS_c1 hS_ro (kq_nlen (by decide)))).trans hS_c1
    have nL_c1 : c1 ∈ Lv := hR.1 c1 hL_c1
    have nS_c2 : σv c2 = .inl (E.2 0, 64, .inl (fun _ => 0)) := (hR.2 c2 hL_c2 (kq_ne hS_c2 hS_ro (kq_nlen (by decide)))).trans hS_c2
    have nL_c2 : c2 ∈ Lv := hR.1 c2 hL_c2
    have nS_ak : σv ak = .inr (1, [.ref bd, .int 0, .int 0, .int 0, .int 0, .int 0]) := (hR.2 ak hL_ak (Ne.symm hN_ro_ak)).trans hS_ak
    have nL_ak : ak ∈ Lv := hR.1 ak hL_ak
    have nS_bd : σv bd = .inl (E.2 0, 16, .inl (fun _ => 0)) := (hR.2 bd hL_bd (kq_ne hS_bd hS_ro (kq_nlen (by decide)))).trans hS_bd
    have nL_bd : bd ∈ Lv := hR.1 bd hL_bd
    have nS_x : σv x = .inr (7, [.ref ro, .ref tp, .ref gt, .ref ac, .ref im, .ref gu, .ref ak, .int 0, .int 0]) := (hR.2 x hL_x hN_x_ro).trans hS_x
    have nL_x : x ∈ Lv := hR.1 x hL_x
    have nL_ro : ro ∈ Lv := hR.1 ro hL_ro
    have hE := hE.call hO_ro hR
    obtain ⟨f_ro, ef_ro⟩ : ∃ z, z = f9 := ⟨_, rfl⟩
    obtain ⟨ch_ro, ech_ro⟩ : ∃ z, z = ch9 := ⟨_, rfl⟩
    rw [← ef_ro] at nS_ro nQ9
    rw [← ech_ro] at eL9 nQ9
    have hS_tp := nS_tp
    have hL_tp := nL_tp
    have hS_bt := nS_bt
    have hL_bt := nL_bt
    have hS_dr := nS_dr
    have hL_dr := nL_dr
    have hS_d1 := nS_d1
    have hL_d1 := nL_d1
    have hS_d2 := nS_d2
    have hL_d2 := nL_d2
    have hS_d3 := nS_d3
    have hL_d3 := nL_d3
    have hS_d4 := nS_d4
    have hL_d4 := nL_d4
    have hS_d5 := nS_d5
    have hL_d5 := nL_d5
    have hS_d6 := nS_d6
    have hL_d6 := nL_d6
    have hS_d7 := nS_d7
    have hL_d7 := nL_d7
    have hS_d8 := nS_d8
    have hL_d8 := nL_d8
    have hS_gt := nS_gt
    have hL_gt := nL_gt
    have hS_g1 := nS_g1
    have hL_g1 := nL_g1
    have hS_g2 := nS_g2
    have hL_g2 := nL_g2
    have hS_g3 := nS_g3
    have hL_g3 := nL_g3
    have hS_n_ := nS_n_
    have hL_n_ := nL_n_
    have hS_t1 := nS_t1
    have hL_t1 := nL_t1
    have hS_t2 := nS_t2
    have hL_t2 := nL_t2
    have hS_t3 := nS_t3
    have hL_t3 := nL_t3
    have hS_t4 := nS_t4
    have hL_t4 := nL_t4
    have hS_ac := nS_ac
    have hL_ac := nL_ac
    have hS_ah := nS_ah
    have hL_ah := nL_ah
    have hS_im := nS_im
    have hL_im := nL_im
    have hS_gu := nS_gu
    have hL_gu := nL_gu
    have hS_c1 := nS_c1
    have hL_c1 := nL_c1
    have hS_c2 := nS_c2
    have hL_c2 := nL_c2
    have hS_ak := nS_ak
    have hL_ak := nL_ak
    have hS_bd := nS_bd
    have hL_bd := nL_bd
    have hS_x := nS_x
    have hL_x := nL_x
    have hS_ro := nS_ro
    have hL_ro := nL_ro
    obtain ⟨L_ro, eL_ro⟩ : ∃ z, z = Lv := ⟨_, rfl⟩
    obtain ⟨σ_ro, eσ_ro⟩ : ∃ z, z = σv := ⟨_, rfl⟩
    subst eL_ro
    subst eσ_ro
    have hQ_ro := nQ9
    have eLL_ro := eL9
    refine lv_iload_n hx hb dX7_init_78 rfl (lv_at hl 0 rfl) ?_
    refine lv_bipush (v := 8) hx hb dX7_init_79 (by decide) ?_
    refine lv_icmp_ge (tgt := 103) hx hb dX7_init_81 (by decide) (fun c38 => ?_) (fun c38 => ?_)
    rotate_left
    · exact absurd (by decide) c38
    refine lv_iconst (v := 0) hx hb dX7_init_103 (by decide) ?_
    refine lv_istore_n (lv' := [(1, .int 0), (0, .ref x)]) hx hb dX7_init_104 rfl hl (by decide) rfl (fun ls hl => ?_)
    refine kq_for (nL := 2) 2 (fun i Lv σv => ∃ (f : Nat → Option Nat) (ch : Nat → Nat → Nat), Lv = L_ro ++ (List.range i).flatMap (fun j => (List.range 9).map (ch j)) ∧ kq_ext im L_ro σ_ro Lv σv ∧ σv im = .inl (E.2 2, 2, .inr (.inr (.inr (.inr f)))) ∧ chQ (gateQ E) 9 Lv σv f ch i) (fun i => [(1, .int (nI i)), (0, .ref x)]) 9 73 ⟨_, fun _ _ => 0, by simp, kq_ext.rf, hS_im, fun j hj => absurd hj (Nat.not_lt_zero j)⟩ hw hl (fun i Lv σv H locs ls hi hI hw hl ih => ?_) (fun Lv σv H locs ls hI hw hl => ?_)
    · skip
      have hl : lv_has ls 2 [(1, .int (nI i)), (0, .ref x)] := hl
      obtain ⟨f9, ch9, eL9, hR, hS_im, hQ9⟩ := hI
      have hS_x : σv x = .inr (7, [.ref ro, .ref tp, .ref gt, .ref ac, .ref im, .ref gu, .ref ak, .int 0, .int 0]) := (hR.2 x hL_x hN_x_im).trans hS_x
      have hL_x : x ∈ Lv := hR.1 x hL_x
      have hL_im : im ∈ Lv := hR.1 im hL_im
      have hS9_im := hS_im
      have hE : kq_ext im Lv σv Lv σv := kq_ext.rf
      refine lv_iload_n hx hb dX7_init_105 rfl (lv_at hl 0 rfl) ?_
      refine lv_iconst (v := 2) hx hb dX7_init_106 (by decide) ?_
      refine lv_icmp_ge (tgt := 129) hx hb dX7_init_107 (by decide) (fun c39 => ?_) (fun c39 => ?_)
      · exact absurd c39 (nI_ge hi (by decide))
      refine lv_aload_n hx hb dX7_init_110 rfl (lv_at hl 1 rfl) ?_
      refine kq_get (ci := 7) (v := .ref im) (C := RX7) (T := TX7) (N := 9) hx hb hts fi_X7_init_X7 hown hK hw hL_x hS_x rfl 4 (by decide) (hts (.fieldLink RX7 36 "WrongWord" "images" "[LWrongWord$Gate;") ow_X7_init_36) rfl dX7_init_111 ?_
      refine lv_iload_n hx hb dX7_init_114 rfl (lv_at hl 0 rfl) ?_
      refine kq_new (ci := 2) (fs := [.null, .null, .null, .null, .int 0, .int 0, .int 0, .int 0]) (C := RX2) (T := TX2) (N := 8) hx hb hts fi_X7_init_X2 tyX2 tyX2_ok hown (hts (.classLink RX7 22 RX2) (by decide +kernel)) (hts (.instantiable RX2 8) (by decide +kernel)) (hts (.initialized RX2) (by decide +kernel)) hK hw rfl (fun j hj => by rcases (show j = 0 ∨ j = 1 ∨ j = 2 ∨ j = 3 ∨ j = 4 ∨ j = 5 ∨ j = 6 ∨ j = 7 by omega) with rfl | rfl | rfl | rfl | rfl | rfl | rfl | rfl <;> rfl) (by show _ ≤ 183; omega) (by show _ ≤ 1840; omega) dX7_init_115 (fun r H L41 σ40 hq_r eL41 eσ40 hw => ?_)
      have hN_x_r : x ≠ r := fun h9 => hq_r (h9 ▸ hL_x)
      have hS_x : σ40 x = .inr (7, [.ref ro, .ref tp, .ref gt, .ref ac, .ref im, .ref gu, .ref ak, .int 0, .int 0]) := by rw [eσ40]; exact kq_new_far hq_r hL_x hS_x
      have hL_x : x ∈ L41 := by rw [eL41]; exact List.mem_append_left _ hL_x
      have hN_im_r : im ≠ r := fun h9 => hq_r (h9 ▸ hL_im)
      have hS_im : σ40 im = .inl (E.2 2, 2, .inr (.inr (.inr (.inr f9)))) := by rw [eσ40]; exact kq_new_far hq_r hL_im hS_im
      have hL_im : im ∈ L41 := by rw [eL41]; exact List.mem_append_left _ hL_im
      have hS_r : σ40 r = .inr (2, [.null, .null, .null, .null, .int 0, .int 0, .int 0, .int 0]) := by rw [eσ40]; exact va_up_self _ _ _
      have hL_r : r ∈ L41 := by rw [eL41]; exact List.mem_append_right _ List.mem_cons_self
      have hO_r := hE.out hq_r
      have hE := hE.mk hq_r eL41 eσ40
      refine lv_dup hx hb dX7_init_118 rfl ?_
      refine kq_ctorN (As := []) (rest := [.ref r, .int (nI i), .ref im]) (n := 0) (b := r) (mc := 8) (ms := 65) ⟨hx, hb, hml, hown, hts⟩ (k_X2_init l E L41 σ40 hL_r hS_r) gX7_init_X2_init_n24 rfl (hts (.initialized RX2) (by decide +kernel)) (by decide +kernel) (hts (.instanceMethod yX2_init) (by decide +kernel)) rfl (by decide +kernel) ⟨Nat.le_of_ble_eq_true rfl, Nat.le_of_ble_eq_true rfl⟩ hK hw rfl hl.1 rfl (Nat.le_of_ble_eq_true rfl) dX7_init_119 rfl rfl ⟨by show _ ≤ 183; omega, by show _ ≤ 1840; omega⟩ (fun L43 σ42 H locs hp hw => ?_)
      obtain ⟨hEx, e1, e2, e3, e4, e5, e6, e7, e8, hLqL43, nhS_r, nhS_e1, nhS_e2, nhS_e3, nhS_e4, nhS_e5, nhS_e6, nhS_e7, nhS_e8⟩ := hp
      have hS_x : σ42 x = .inr (7, [.ref ro, .ref tp, .ref gt, .ref ac, .ref im, .ref gu, .ref ak, .int 0, .int 0]) := (hEx.2 x hL_x hN_x_r).trans hS_x
      have hL_x : x ∈ L43 := hEx.1 x hL_x
      have hS_im : σ42 im = .inl (E.2 2, 2, .inr (.inr (.inr (.inr f9)))) := (hEx.2 im hL_im hN_im_r).trans hS_im
      have hL_im : im ∈ L43 := hEx.1 im hL_im
      have hL_r : r ∈ L43 := hEx.1 r hL_r
      have hS_r := nhS_r
      have hS_e1 := nhS_e1
      have hL_e1 : e1 ∈ L43 := by rw [hLqL43]; simp
      have hS_e2 := nhS_e2
      have hL_e2 : e2 ∈ L43 := by rw [hLqL43]; simp
      have hS_e3 := nhS_e3
      have hL_e3 : e3 ∈ L43 := by rw [hLqL43]; simp
      have hS_e4 := nhS_e4
      have hL_e4 : e4 ∈ L43 := by rw [hLqL43]; simp
      have hS_e5 := nhS_e5
      have hL_e5 : e5 ∈ L43 := by rw [hLqL43]; simp
      have hS_e6 := nhS_e6
      have hL_e6 : e6 ∈ L43 := by rw [hLqL43]; simp
      have hS_e7 := nhS_e7
      have hL_e7 : e7 ∈ L43 := by rw [hLqL43]; simp
      have hS_e8 := nhS_e8
      have hL_e8 : e8 ∈ L43 := by rw [hLqL43]; simp
      have hE := hE.call hO_r hEx
      refine kq_astq hx hb hK hw hL_im 2 2 rfl hS_im hL_r hS_r rfl (vp_in_nI hi (by decide)) dX7_init_122 (fun H locs σ44 eσ44 hw => ?_)
      have nhS_x : σ44 x = .inr (7, [.ref ro, .ref tp, .ref gt, .ref ac, .ref im, .ref gu, .ref ak, .int 0, .int 0]) := by rw [eσ44]; exact kq_far hN_x_im hS_x
      have nhS_r : σ44 r = .inr (2, [.ref e1, .ref e2, .ref e3, .ref e4, .int 0, .int 0, .int 0, .int 0]) := by rw [eσ44]; exact kq_far (Ne.symm hN_im_r) hS_r
      have nhS_e1 : σ44 e1 = .inl (E.2 0, 18, .inl (fun _ => 0)) := by rw [eσ44]; exact kq_far (kq_ne hS_e1 hS_im (kq_nlen (by decide))) hS_e1
      have nhS_e2 : σ44 e2 = .inl (E.2 0, 4, .inl (fun _ => 0)) := by rw [eσ44]; exact kq_far (kq_ne hS_e2 hS_im (kq_nlen (by decide))) hS_e2
      have nhS_e3 : σ44 e3 = .inl (E.2 0, 4, .inl (fun _ => 0)) := by rw [eσ44]; exact kq_far (kq_ne hS_e3 hS_im (kq_nlen (by decide))) hS_e3
      have nhS_e4 : σ44 e4 = .inr (4, [.ref e5, .ref e6, .ref e7, .ref e8, .int 0, .int 0, .int 0, .int 0]) := by rw [eσ44]; exact kq_far (kq_ne hS_e4 hS_im kq_noa) hS_e4
      have nhS_e5 : σ44 e5 = .inl (E.2 0, 4, .inl (fun _ => 0)) := by rw [eσ44]; exact kq_far (kq_ne hS_e5 hS_im (kq_nlen (by decide))) hS_e5
      have nhS_e6 : σ44 e6 = .inl (E.2 0, 9, .inl (fun _ => 0)) := by rw [eσ44]; exact kq_far (kq_ne hS_e6 hS_im (kq_nlen (by decide))) hS_e6
      have nhS_e7 : σ44 e7 = .inl (E.2 0, 9, .inl (fun _ => 0)) := by rw [eσ44]; exact kq_far (kq_ne hS_e7 hS_im (kq_nlen (by decide))) hS_e7
      have nhS_e8 : σ44 e8 = .inl (E.2 0, 9, .inl (fun _ => 0)) := by rw [eσ44]; exact kq_far (kq_ne hS_e8 hS_im (kq_nlen (by decide))) hS_e8
      have nhS_im : σ44 im = .inl (E.2 2, 2, .inr (.inr (.inr (.inr (va_up f9 (Int32.toNatClampNeg (nI i)) (some r)))))) := by rw [eσ44]; exact va_up_self _ _ _
      have hS_x := nhS_x
      have hS_r := nhS_r
      have hS_e1 := nhS_e1
      have hS_e2 := nhS_e2
      have hS_e3 := nhS_e3
      have hS_e4 := nhS_e4
      have hS_e5 := nhS_e5
      have hS_e6 := nhS_e6
      have hS_e7 := nhS_e7
      have hS_e8 := nhS_e8
      have hS_im := nhS_im
      have hE := hE.self eσ44
      refine lv_iinc (v := nI i + 1) (lv' := [(1, .int (nI i + 1)), (0, .ref x)]) hx hb dX7_init_123 hl (k := 0) rfl rfl (by decide) rfl (fun ls hl => ?_)
      refine lv_goto (tgt := 105) hx hb dX7_init_126 (by decide) ?_
      have hl : lv_has ls 2 [(1, .int (nI (i + 1))), (0, .ref x)] := by rw [nI_succ]; exact lv_sub hl [0, 1] rfl
      have hne9 : ∀ j, j < i → ∀ q, q < 9 → ch9 j q ≠ im := fun j hj => gate_ne (hQ9 j hj).2.2 (Or.inr ⟨_, _, _, hS9_im, by decide, by decide, by decide⟩)
      have hQ8 := chQ.ext (loc_gate E) hQ9 hE hne9
      have hmem8 : ∀ q, q < 9 → (fun k => if k = 0 then r else if k = 1 then e1 else if k = 2 then e2 else if k = 3 then e3 else if k = 4 then e4 else if k = 5 then e5 else if k = 6 then e6 else if k = 7 then e7 else e8) q ∈ L43 := by
        intro q hq
        rcases (show q = 0 ∨ q = 1 ∨ q = 2 ∨ q = 3 ∨ q = 4 ∨ q = 5 ∨ q = 6 ∨ q = 7 ∨ q = 8 by omega) with rfl | rfl | rfl | rfl | rfl | rfl | rfl | rfl | rfl
        · exact hL_r
        · exact hL_e1
        · exact hL_e2
        · exact hL_e3
        · exact hL_e4
        · exact hL_e5
        · exact hL_e6
        · exact hL_e7
        · exact hL_e8
      have hP8 : gateQ E σ44 (fun k => if k = 0 then r else if k = 1 then e1 else if k = 2 then e2 else if k = 3 then e3 else if k = 4 then e4 else if k = 5 then e5 else if k = 6 then e6 else if k = 7 then e7 else e8) := ⟨hS_r, hS_e1, hS_e2, hS_e3, ⟨hS_e4, hS_e5, hS_e6, hS_e7, hS_e8⟩⟩
      have hLn : L43 = L_ro ++ (List.range (i + 1)).flatMap (fun j => (List.range 9).map (va_up ch9 i (fun k => if k = 0 then r else if k = 1 then e1 else if k = 2 then e2 else if k = 3 then e3 else if k = 4 then e4 else if k = 5 then e5 else if k = 6 then e6 else if k = 7 then e7 else e8) j)) := by rw [fm_next, ← List.append_assoc, ← eL9, hLqL43, eL41]; simp [List.range_succ]
      exact W.widen (by omega) (by omega) (ih _ _ _ _ _ ⟨_, _, hLn, hR.trans hE, hS_im, hQ8.add (by omega) hmem8 hP8⟩ hw hl)
    · skip
      have hl : lv_has ls 2 [(1, .int (nI 2)), (0, .ref x)] := hl
      obtain ⟨f9, ch9, eL9, hR, nS_im, nQ9⟩ := hI
      have hQ_ac := chQ.ext (loc_mom E) hQ_ac hR (fun j hj => mom_ne (hQ_ac j hj).2.2 (Or.inr ⟨_, _, _, hS_im, by decide, by decide⟩))
      have hQ_ro := chQ.ext (loc_row E) hQ_ro hR (fun j hj => row_ne (hQ_ro j hj).2.2 (Or.inr ⟨_, _, _, hS_im, by decide⟩))
      have nS_tp : σv tp = .inr (6, [.ref bt, .ref dr, .int 0, .int 0, .int 0, .int 0, .int 0]) := (hR.2 tp hL_tp hN_tp_im).trans hS_tp
      have nL_tp : tp ∈ Lv := hR.1 tp hL_tp
      have nS_bt : σv bt = .inl (E.2 0, 100, .inl (fun _ => 0)) := (hR.2 bt hL_bt hN_bt_im).trans hS_bt
      have nL_bt : bt ∈ Lv := hR.1 bt hL_bt
      have nS_dr : σv dr = .inr (2, [.ref d1, .ref d2, .ref d3, .ref d4, .int 0, .int 0, .int 0, .int 0]) := (hR.2 dr hL_dr hN_dr_im).trans hS_dr
      have nL_dr : dr ∈ Lv := hR.1 dr hL_dr
      have nS_d1 : σv d1 = .inl (E.2 0, 18, .inl (fun _ => 0)) := (hR.2 d1 hL_d1 hN_d1_im).trans hS_d1
      have nL_d1 : d1 ∈ Lv := hR.1 d1 hL_d1
      have nS_d2 : σv d2 = .inl (E.2 0, 4, .inl (fun _ => 0)) := (hR.2 d2 hL_d2 hN_d2_im).trans hS_d2
      have nL_d2 : d2 ∈ Lv := hR.1 d2 hL_d2
      have nS_d3 : σv d3 = .inl (E.2 0, 4, .inl (fun _ => 0)) := (hR.2 d3 hL_d3 hN_d3_im).trans hS_d3
      have nL_d3 : d3 ∈ Lv := hR.1 d3 hL_d3
      have nS_d4 : σv d4 = .inr (4, [.ref d5, .ref d6, .ref d7, .ref d8, .int 0, .int 0, .int 0, .int 0]) := (hR.2 d4 hL_d4 hN_d4_im).trans hS_d4
      have nL_d4 : d4 ∈ Lv := hR.1 d4 hL_d4
      have nS_d5 : σv d5 = .inl (E.2 0, 4, .inl (fun _ => 0)) := (hR.2 d5 hL_d5 hN_d5_im).trans hS_d5
      have nL_d5 : d5 ∈ Lv := hR.1 d5 hL_d5
      have nS_d6 : σv d6 = .inl (E.2 0, 9, .inl (fun _ => 0)) := (hR.2 d6 hL_d6 hN_d6_im).trans hS_d6
      have nL_d6 : d6 ∈ Lv := hR.1 d6 hL_d6
      have nS_d7 : σv d7 = .inl (E.2 0, 9, .inl (fun _ => 0)) := (hR.2 d7 hL_d7 hN_d7_im).trans hS_d7
      have nL_d7 : d7 ∈ Lv := hR.1 d7 hL_d7
      have nS_d8 : σv d8 = .inl (E.2 0, 9, .inl (fun _ => 0)) := (hR.2 d8 hL_d8 hN_d8_im).trans hS_d8
      have nL_d8 : d8 ∈ Lv := hR.1 d8 hL_d8
      have nS_gt : σv gt = .inr (2, [.ref g1, .ref g2, .ref g3, .ref n_, .int 0, .int 0, .int 0, .int 0]) := (hR.2 gt hL_gt hN_gt_im).trans hS_gt
      have nL_gt : gt ∈ Lv := hR.1 gt hL_gt
      have nS_g1 : σv g1 = .inl (E.2 0, 18, .inl (fun _ => 0)) := (hR.2 g1 hL_g1 hN_g1_im).trans hS_g1
      have nL_g1 : g1 ∈ Lv := hR.1 g1 hL_g1
      have nS_g2 : σv g2 = .inl (E.2 0, 4, .inl (fun _ => 0)) := (hR.2 g2 hL_g2 hN_g2_im).trans hS_g2
      have nL_g2 : g2 ∈ Lv := hR.1 g2 hL_g2
      have nS_g3 : σv g3 = .inl (E.2 0, 4, .inl (fun _ => 0)) := (hR.2 g3 hL_g3 hN_g3_im).trans hS_g3
      have nL_g3 : g3 ∈ Lv := hR.1 g3 hL_g3
      have nS_n_ : σv n_ = .inr (4, [.ref t1, .ref t2, .ref t3, .ref t4, .int 0, .int 0, .int 0, .int 0]) := (hR.2 n_ hL_n_ hN_n__im).trans hS_n_
      have nL_n_ : n_ ∈ Lv := hR.1 n_ hL_n_
      have nS_t1 : σv t1 = .inl (E.2 0, 4, .inl (fun _ => 0)) := (hR.2 t1 hL_t1 hN_t1_im).trans hS_t1
      have nL_t1 : t1 ∈ Lv := hR.1 t1 hL_t1
      have nS_t2 : σv t2 = .inl (E.2 0, 9, .inl (fun _ => 0)) := (hR.2 t2 hL_t2 hN_t2_im).trans hS_t2
      have nL_t2 : t2 ∈ Lv := hR.1 t2 hL_t2
      have nS_t3 : σv t3 = .inl (E.2 0, 9, .inl (fun _ => 0)) := (hR.2 t3 hL_t3 hN_t3_im).trans hS_t3
      have nL_t3 : t3 ∈ Lv := hR.1 t3 hL_t3
      have nS_t4 : σv t4 = .inl (E.2 0, 9, .inl (fun _ => 0)) := (hR.2 t4 hL_t4 hN_t4_im).trans hS_t4
      have nL_t4 : t4 ∈ Lv := hR.1 t4 hL_t4
      have nS_ac : σv ac = .inr (0, [.ref ah, .int 0, .int 0]) := (hR.2 ac hL_ac hN_ac_im).trans hS_ac
      have nL_ac : ac ∈ Lv := hR.1 ac hL_ac
      have nS_ah : σv ah = .inl (E.2 3, 24, .inr (.inr (.inr (.inr f_ah)))) := (hR.2 ah hL_ah hN_ah_im).trans hS_ah
      have nL_ah : ah ∈ Lv := hR.1 ah hL_ah
      have nS_gu : σv gu = .inr (3, [.ref c1, .ref c2]) := (hR.2 gu hL_gu (Ne.symm hN_im_gu)).trans hS_gu
      have nL_gu : gu ∈ Lv := hR.1 gu hL_gu
      have nS_c1 : σv c1 = .inl (E.2 0, 36, .inl (fun _ => 0)) := (hR.2 c1 hL_c1 (kq_ne hS_c1 hS_im (kq_nlen (by decide)))).trans hS_c1
      have nL_c1 : c1 ∈ Lv := hR.1 c1 hL_c1
      have nS_c2 : σv c2 = .inl (E.2 0, 64, .inl (fun _ => 0)) := (hR.2 c2 hL_c2 (kq_ne hS_c2 hS_im (kq_nlen (by decide)))).trans hS_c2
      have nL_c2 : c2 ∈ Lv := hR.1 c2 hL_c2
      have nS_ak : σv ak = .inr (1, [.ref bd, .int 0, .int 0, .int 0, .int 0, .int 0]) := (hR.2 ak hL_ak (Ne.symm hN_im_ak)).trans hS_ak
      have nL_ak : ak ∈ Lv := hR.1 ak hL_ak
      have nS_bd : σv bd = .inl (E.2 0, 16, .inl (fun _ => 0)) := (hR.2 bd hL_bd (kq_ne hS_bd hS_im (kq_nlen (by decide)))).trans hS_bd
      have nL_bd : bd ∈ Lv := hR.1 bd hL_bd
      have nS_x : σv x = .inr (7, [.ref ro, .ref tp, .ref gt, .ref ac, .ref im, .ref gu, .ref ak, .int 0, .int 0]) := (hR.2 x hL_x hN_x_im).trans hS_x
      have nL_x : x ∈ Lv := hR.1 x hL_x
      have nS_ro : σv ro = .inl (E.2 4, 8, .inr (.inr (.inr (.inr f_ro)))) := (hR.2 ro hL_ro hN_ro_im).trans hS_ro
      have nL_ro : ro ∈ Lv := hR.1 ro hL_ro
      have nL_im : im ∈ Lv := hR.1 im hL_im
      have hE := hE.call hO_im hR
      obtain ⟨f_im, ef_im⟩ : ∃ z, z = f9 := ⟨_, rfl⟩
      obtain ⟨ch_im, ech_im⟩ : ∃ z, z = ch9 := ⟨_, rfl⟩
      rw [← ef_im] at nS_im nQ9
      rw [← ech_im] at eL9 nQ9
      have hS_tp := nS_tp
      have hL_tp := nL_tp
      have hS_bt := nS_bt
      have hL_bt := nL_bt
      have hS_dr := nS_dr
      have hL_dr := nL_dr
      have hS_d1 := nS_d1
      have hL_d1 := nL_d1
      have hS_d2 := nS_d2
      have hL_d2 := nL_d2
      have hS_d3 := nS_d3
      have hL_d3 := nL_d3
      have hS_d4 := nS_d4
      have hL_d4 := nL_d4
      have hS_d5 := nS_d5
      have hL_d5 := nL_d5
      have hS_d6 := nS_d6
      have hL_d6 := nL_d6
      have hS_d7 := nS_d7
      have hL_d7 := nL_d7
      have hS_d8 := nS_d8
      have hL_d8 := nL_d8
      have hS_gt := nS_gt
      have hL_gt := nL_gt
      have hS_g1 := nS_g1
      have hL_g1 := nL_g1
      have hS_g2 := nS_g2
      have hL_g2 := nL_g2
      have hS_g3 := nS_g3
      have hL_g3 := nL_g3
      have hS_n_ := nS_n_
      have hL_n_ := nL_n_
      have hS_t1 := nS_t1
      have hL_t1 := nL_t1
      have hS_t2 := nS_t2
      have hL_t2 := nL_t2
      have hS_t3 := nS_t3
      have hL_t3 := nL_t3
      have hS_t4 := nS_t4
      have hL_t4 := nL_t4
      have hS_ac := nS_ac
      have hL_ac := nL_ac
      have hS_ah := nS_ah
      have hL_ah := nL_ah
      have hS_gu := nS_gu
      have hL_gu := nL_gu
      have hS_c1 := nS_c1
      have hL_c1 := nL_c1
      have hS_c2 := nS_c2
      have hL_c2 := nL_c2
      have hS_ak := nS_ak
      have hL_ak := nL_ak
      have hS_bd := nS_bd
      have hL_bd := nL_bd
      have hS_x := nS_x
      have hL_x := nL_x
      have hS_ro := nS_ro
      have hL_ro := nL_ro
      have hS_im := nS_im
      have hL_im := nL_im
      obtain ⟨L_im, eL_im⟩ : ∃ z, z = Lv := ⟨_, rfl⟩
      obtain ⟨σ_im, eσ_im⟩ : ∃ z, z = σv := ⟨_, rfl⟩
      subst eL_im
      subst eσ_im
      have hQ_im := nQ9
      have eLL_im := eL9
      refine lv_iload_n hx hb dX7_init_105 rfl (lv_at hl 0 rfl) ?_
      refine lv_iconst (v := 2) hx hb dX7_init_106 (by decide) ?_
      refine lv_icmp_ge (tgt := 129) hx hb dX7_init_107 (by decide) (fun c45 => ?_) (fun c45 => ?_)
      rotate_left
      · exact absurd (by decide) c45
      exact kq_vret hx hb hr hlocks hw (Nat.le_of_ble_eq_true rfl) (Nat.le_of_ble_eq_true rfl) dX7_init_129 ⟨hE, ro, tp, bt, dr, d1, d2, d3, d4, d5, d6, d7, d8, gt, g1, g2, g3, n_, t1, t2, t3, t4, ac, ah, im, gu, c1, c2, ak, bd, f_ah, f_ro, f_im, ch_ah, ch_ro, ch_im, (by rw [eLL_im, eLL_ro, hLqL30, eL28, hLqL25, eL23, eL20, hLqL17, eL15, hLqL12, eL10, hLqL7, eL5, eL2]; simp only [List.append_assoc, List.cons_append, List.nil_append]), hS_x, hS_ro, hS_tp, hS_bt, hS_dr, hS_d1, hS_d2, hS_d3, hS_d4, hS_d5, hS_d6, hS_d7, hS_d8, hS_gt, hS_g1, hS_g2, hS_g3, hS_n_, hS_t1, hS_t2, hS_t3, hS_t4, hS_ac, hS_ah, hS_im, hS_gu, hS_c1, hS_c2, hS_ak, hS_bd, hQ_ac, hQ_ro, hQ_im⟩
/-- a WrongWordModel at m_ as its constructor leaves it -/
def blt_M (E : kq_T) (L L1 : List Nat) (σ : Nat → va_E) (m_ : Nat) : Prop := ∃ (la mn it sp tp nw dr tr pa im kp me tc : Nat) (fl : Nat → Int32), L1 = L ++ [la, mn, it, sp, tp, nw, dr, tr, pa, im, kp, me, tc] ∧ σ m_ = .inr (8, [.ref la, .ref mn, .ref it, .ref sp, .int 0, .ref tp, .int 0, .int 0, .int 0, .int 0, .int 0, .int 0, .int 0, .ref nw, .ref dr, .ref tr, .ref pa, .int 0, .ref im, .ref kp, .ref me, .ref tc, .int 0]) ∧ σ la = .inl (E.2 0, 8, .inl fl) ∧ σ mn = .inl (E.2 0, 8, .inl (fun _ => 0)) ∧ σ it = .inl (E.2 0, 320, .inl (fun _ => 0)) ∧ σ sp = .inl (E.2 0, 40, .inl (fun _ => 0)) ∧ σ tp = .inl (E.2 0, 100, .inl (fun _ => 0)) ∧ σ nw = .inl (E.2 0, 65, .inl (fun _ => 0)) ∧ σ dr = .inl (E.2 0, 65, .inl (fun _ => 0)) ∧ σ tr = .inl (E.2 0, 65, .inl (fun _ => 0)) ∧ σ pa = .inl (E.2 0, 1560, .inl (fun _ => 0)) ∧ σ im = .inl (E.2 0, 130, .inl (fun _ => 0)) ∧ σ kp = .inl (E.2 1, 2, .inl (fun _ => 0)) ∧ σ me = .inl (E.2 0, 64, .inl (fun _ => 0)) ∧ σ tc = .inl (E.2 0, 16, .inl (fun _ => 0)) ∧ ∀ j, j < 8 → fl j = (-1000000)
abbrev rmX8_init : Room := { frames := 1, cells := 13, slots := 2443, locals := 20 }
set_option maxHeartbeats 4000000 in
set_option maxRecDepth 100000 in
theorem k_X8_init (l : Launch) (E : kq_T) (L : List Nat) (σ : Nat → va_E) {m_ : Nat} (hL_m_ : m_ ∈ L) (hS_m_ : σ m_ = .inr (8, [.null, .null, .null, .null, .int 0, .null, .int 0, .int 0, .int 0, .int 0, .int 0, .int 0, .int 0, .null, .null, .null, .null, .int 0, .null, .null, .null, .null, .int 0])) : kq_V l E yX8_init wsX8_init rmX8_init [.ref m_] L σ (fun L1 σ1 => kq_ext m_ L σ L1 σ1 ∧ blt_M E L L1 σ1 m_) := by
  refine kq_enterV (cc := cX8_init) (maxL := 2) (ret := none) (by decide) rfl (Nat.le_of_ble_eq_true rfl) rfl ?_
  intro p e s m below meth c A ls C hK hw hl
  obtain ⟨hx, hb, hml, hown, hts, hr, hlocks, hnm⟩ := C
  have hown : s.vm.findClass RX8 = some m.cls := hown
  have hl : lv_has ls 2 [(0, .ref m_)] := hl
  have hE : kq_ext m_ L σ L σ := kq_ext.rf
  refine lv_aload_n hx hb dX8_init_0 rfl (lv_at hl 0 rfl) ?_
  refine kq_obj hx hb hml hown hts (index := 1) (own := RX8) (by decide +kernel) (by decide +kernel) (by decide +kernel) hl.1 dX8_init_1 (Nat.le_of_ble_eq_true rfl) (Nat.le_of_ble_eq_true rfl) (Nat.le_of_ble_eq_true rfl) ?_
  refine lv_aload_n hx hb dX8_init_4 rfl (lv_at hl 0 rfl) ?_
  refine lv_bipush (v := 8) hx hb dX8_init_5 (by decide) ?_
  refine kq_newi (N' := 8) hx hb (hts (.arrayClass .int) (by decide +kernel)) hK hw (by decide) (by decide) (by decide) (Nat.le_of_ble_eq_true rfl) (Nat.le_of_ble_eq_true rfl) dX8_init_7 (fun la H L2 σ1 hq_la eL2 eσ1 hw => ?_)
  have hN_m__la : m_ ≠ la := fun h9 => hq_la (h9 ▸ hL_m_)
  have hS_m_ : σ1 m_ = .inr (8, [.null, .null, .null, .null, .int 0, .null, .int 0, .int 0, .int 0, .int 0, .int 0, .int 0, .int 0, .null, .null, .null, .null, .int 0, .null, .null, .null, .null, .int 0]) := by rw [eσ1]; exact kq_new_far hq_la hL_m_ hS_m_
  have hL_m_ : m_ ∈ L2 := by rw [eL2]; exact List.mem_append_left _ hL_m_
  have hS_la : σ1 la = .inl (E.2 0, 8, .inl (fun _ => 0)) := by rw [eσ1]; exact va_up_self _ _ _
  have hL_la : la ∈ L2 := by rw [eL2]; exact List.mem_append_right _ List.mem_cons_self
  have hO_la := hE.out hq_la
  have hE := hE.mk hq_la eL2 eσ1
  refine kq_putF (ci := 8) (v := .ref la) (ty := .array .int) (C := RX8) (T := TX8) (N := 23) (fs' := [.ref la, .null, .null, .null, .int 0, .null, .int 0, .int 0, .int 0, .int 0, .int 0, .int 0, .int 0, .null, .null, .null, .null, .int 0, .null, .null, .null, .null, .int 0]) hx hb hts fi_X8_init_X8 tyX8 tyX8_ok nmX8 hown hK hw hL_m_ hS_m_ rfl 0 (by decide) (hts (.fieldLink RX8 7 "WrongWordModel" "lane" "[I") ow_X8_init_7) rfl hnm rfl (by decide +kernel) rfl rfl (Nat.le_of_ble_eq_true rfl) rfl dX8_init_9 (fun H locs σ3 eσ3 hw => ?_)
  have nhS_la : σ3 la = .inl (E.2 0, 8, .inl (fun _ => 0)) := by rw [eσ3]; exact kq_far (Ne.symm hN_m__la) hS_la
  have nhS_m_ : σ3 m_ = .inr (8, [.ref la, .null, .null, .null, .int 0, .null, .int 0, .int 0, .int 0, .int 0, .int 0, .int 0, .int 0, .null, .null, .null, .null, .int 0, .null, .null, .null, .null, .int 0]) := by rw [eσ3]; exact va_up_self _ _ _
  have hS_la := nhS_la
  have hS_m_ := nhS_m_
  have hE := hE.self eσ3
  refine lv_aload_n hx hb dX8_init_12 rfl (lv_at hl 0 rfl) ?_
  refine lv_bipush (v := 8) hx hb dX8_init_13 (by decide) ?_
  refine kq_newi (N' := 8) hx hb (hts (.arrayClass .int) (by decide +kernel)) hK hw (by decide) (by decide) (by decide) (Nat.le_of_ble_eq_true rfl) (Nat.le_of_ble_eq_true rfl) dX8_init_15 (fun mn H L5 σ4 hq_mn eL5 eσ4 hw => ?_)
  have hN_la_mn : la ≠ mn := fun h9 => hq_mn (h9 ▸ hL_la)
  have hS_la : σ4 la = .inl (E.2 0, 8, .inl (fun _ => 0)) := by rw [eσ4]; exact kq_new_far hq_mn hL_la hS_la
  have hL_la : la ∈ L5 := by rw [eL5]; exact List.mem_append_left _ hL_la
  have hN_m__mn : m_ ≠ mn := fun h9 => hq_mn (h9 ▸ hL_m_)
  have hS_m_ : σ4 m_ = .inr (8, [.ref la, .null, .null, .null, .int 0, .null, .int 0, .int 0, .int 0, .int 0, .int 0, .int 0, .int 0, .null, .null, .null, .null, .int 0, .null, .null, .null, .null, .int 0]) := by rw [eσ4]; exact kq_new_far hq_mn hL_m_ hS_m_
  have hL_m_ : m_ ∈ L5 := by rw [eL5]; exact List.mem_append_left _ hL_m_
  have hS_mn : σ4 mn = .inl (E.2 0, 8, .inl (fun _ => 0)) := by rw [eσ4]; exact va_up_self _ _ _
  have hL_mn : mn ∈ L5 := by rw [eL5]; exact List.mem_append_right _ List.mem_cons_self
  have hO_mn := hE.out hq_mn
  have hE := hE.mk hq_mn eL5 eσ4
  refine kq_putF (ci := 8) (v := .ref mn) (ty := .array .int) (C := RX8) (T := TX8) (N := 23) (fs' := [.ref la, .ref mn, .null, .null, .int 0, .null, .int 0, .int 0, .int 0, .int 0, .int 0, .int 0, .int 0, .null, .null, .null, .null, .int 0, .null, .null, .null, .null, .int 0]) hx hb hts fi_X8_init_X8 tyX8 tyX8_ok nmX8 hown hK hw hL_m_ hS_m_ rfl 1 (by decide) (hts (.fieldLink RX8 13 "WrongWordModel" "many" "[I") ow_X8_init_13) rfl hnm rfl (by decide +kernel) rfl rfl (Nat.le_of_ble_eq_true rfl) rfl dX8_init_17 (fun H locs σ6 eσ6 hw => ?_)
  have nhS_la : σ6 la = .inl (E.2 0, 8, .inl (fun _ => 0)) := by rw [eσ6]; exact kq_far (Ne.symm hN_m__la) hS_la
  have nhS_mn : σ6 mn = .inl (E.2 0, 8, .inl (fun _ => 0)) := by rw [eσ6]; exact kq_far (Ne.symm hN_m__mn) hS_mn
  have nhS_m_ : σ6 m_ = .inr (8, [.ref la, .ref mn, .null, .null, .int 0, .null, .int 0, .int 0, .int 0, .int 0, .int 0, .int 0, .int 0, .null, .null, .null, .null, .int 0, .null, .null, .null, .null, .int 0]) := by rw [eσ6]; exact va_up_self _ _ _
  have hS_la := nhS_la
  have hS_mn := nhS_mn
  have hS_m_ := nhS_m_
  have hE := hE.self eσ6
  refine lv_aload_n hx hb dX8_init_20 rfl (lv_at hl 0 rfl) ?_
  refine lv_sipush (v := 320) hx hb dX8_init_21 (by decide) ?_
  refine kq_newi (N' := 320) hx hb (hts (.arrayClass .int) (by decide +kernel)) hK hw (by decide) (by decide) (by decide) (Nat.le_of_ble_eq_true rfl) (Nat.le_of_ble_eq_true rfl) dX8_init_24 (fun it H L8 σ7 hq_it eL8 eσ7 hw => ?_)
  have hN_la_it : la ≠ it := fun h9 => hq_it (h9 ▸ hL_la)
  have hS_la : σ7 la = .inl (E.2 0, 8, .inl (fun _ => 0)) := by rw [eσ7]; exact kq_new_far hq_it hL_la hS_la
  have hL_la : la ∈ L8 := by rw [eL8]; exact List.mem_append_left _ hL_la
  have hN_mn_it : mn ≠ it := fun h9 => hq_it (h9 ▸ hL_mn)
  have hS_mn : σ7 mn = .inl (E.2 0, 8, .inl (fun _ => 0)) := by rw [eσ7]; exact kq_new_far hq_it hL_mn hS_mn
  have hL_mn : mn ∈ L8 := by rw [eL8]; exact List.mem_append_left _ hL_mn
  have hN_m__it : m_ ≠ it := fun h9 => hq_it (h9 ▸ hL_m_)
  have hS_m_ : σ7 m_ = .inr (8, [.ref la, .ref mn, .null, .null, .int 0, .null, .int 0, .int 0, .int 0, .int 0, .int 0, .int 0, .int 0, .null, .null, .null, .null, .int 0, .null, .null, .null, .null, .int 0]) := by rw [eσ7]; exact kq_new_far hq_it hL_m_ hS_m_
  have hL_m_ : m_ ∈ L8 := by rw [eL8]; exact List.mem_append_left _ hL_m_
  have hS_it : σ7 it = .inl (E.2 0, 320, .inl (fun _ => 0)) := by rw [eσ7]; exact va_up_self _ _ _
  have hL_it : it ∈ L8 := by rw [eL8]; exact List.mem_append_right _ List.mem_cons_self
  have hO_it := hE.out hq_it
  have hE := hE.mk hq_it eL8 eσ7
  refine kq_putF (ci := 8) (v := .ref it) (ty := .array .int) (C := RX8) (T := TX8) (N := 23) (fs' := [.ref la, .ref mn, .ref it, .null, .int 0, .null, .int 0, .int 0, .int 0, .int 0, .int 0, .int 0, .int 0, .null, .null, .null, .null, .int 0, .null, .null, .null, .null, .int 0]) hx hb hts fi_X8_init_X8 tyX8 tyX8_ok nmX8 hown hK hw hL_m_ hS_m_ rfl 2 (by decide) (hts (.fieldLink RX8 16 "WrongWordModel" "items" "[I") ow_X8_init_16) rfl hnm rfl (by decide +kernel) rfl rfl (Nat.le_of_ble_eq_true rfl) rfl dX8_init_26 (fun H locs σ9 eσ9 hw => ?_)
  have nhS_la : σ9 la = .inl (E.2 0, 8, .inl (fun _ => 0)) := by rw [eσ9]; exact kq_far (Ne.symm hN_m__la) hS_la
  have nhS_mn : σ9 mn = .inl (E.2 0, 8, .inl (fun _ => 0)) := by rw [eσ9]; exact kq_far (Ne.symm hN_m__mn) hS_mn
  have nhS_it : σ9 it = .inl (E.2 0, 320, .inl (fun _ => 0)) := by rw [eσ9]; exact kq_far (Ne.symm hN_m__it) hS_it
  have nhS_m_ : σ9 m_ = .inr (8, [.ref la, .ref mn, .ref it, .null, .int 0, .null, .int 0, .int 0, .int 0, .int 0, .int 0, .int 0, .int 0, .null, .null, .null, .null, .int 0, .null, .null, .null, .null, .int 0]) := by rw [eσ9]; exact va_up_self _ _ _
  have hS_la := nhS_la
  have hS_mn := nhS_mn
  have hS_it := nhS_it
  have hS_m_ := nhS_m_
  have hE := hE.self eσ9
  refine lv_aload_n hx hb dX8_init_29 rfl (lv_at hl 0 rfl) ?_
  refine lv_bipush (v := 40) hx hb dX8_init_30 (by decide) ?_
  refine kq_newi (N' := 40) hx hb (hts (.arrayClass .int) (by decide +kernel)) hK hw (by decide) (by decide) (by decide) (Nat.le_of_ble_eq_true rfl) (Nat.le_of_ble_eq_true rfl) dX8_init_32 (fun sp H L11 σ10 hq_sp eL11 eσ10 hw => ?_)
  have hN_la_sp : la ≠ sp := fun h9 => hq_sp (h9 ▸ hL_la)
  have hS_la : σ10 la = .inl (E.2 0, 8, .inl (fun _ => 0)) := by rw [eσ10]; exact kq_new_far hq_sp hL_la hS_la
  have hL_la : la ∈ L11 := by rw [eL11]; exact List.mem_append_left _ hL_la
  have hN_mn_sp : mn ≠ sp := fun h9 => hq_sp (h9 ▸ hL_mn)
  have hS_mn : σ10 mn = .inl (E.2 0, 8, .inl (fun _ => 0)) := by rw [eσ10]; exact kq_new_far hq_sp hL_mn hS_mn
  have hL_mn : mn ∈ L11 := by rw [eL11]; exact List.mem_append_left _ hL_mn
  have hN_it_sp : it ≠ sp := fun h9 => hq_sp (h9 ▸ hL_it)
  have hS_it : σ10 it = .inl (E.2 0, 320, .inl (fun _ => 0)) := by rw [eσ10]; exact kq_new_far hq_sp hL_it hS_it
  have hL_it : it ∈ L11 := by rw [eL11]; exact List.mem_append_left _ hL_it
  have hN_m__sp : m_ ≠ sp := fun h9 => hq_sp (h9 ▸ hL_m_)
  have hS_m_ : σ10 m_ = .inr (8, [.ref la, .ref mn, .ref it, .null, .int 0, .null, .int 0, .int 0, .int 0, .int 0, .int 0, .int 0, .int 0, .null, .null, .null, .null, .int 0, .null, .null, .null, .null, .int 0]) := by rw [eσ10]; exact kq_new_far hq_sp hL_m_ hS_m_
  have hL_m_ : m_ ∈ L11 := by rw [eL11]; exact List.mem_append_left _ hL_m_
  have hS_sp : σ10 sp = .inl (E.2 0, 40, .inl (fun _ => 0)) := by rw [eσ10]; exact va_up_self _ _ _
  have hL_sp : sp ∈ L11 := by rw [eL11]; exact List.mem_append_right _ List.mem_cons_self
  have hO_sp := hE.out hq_sp
  have hE := hE.mk hq_sp eL11 eσ10
  refine kq_putF (ci := 8) (v := .ref sp) (ty := .array .int) (C := RX8) (T := TX8) (N := 23) (fs' := [.ref la, .ref mn, .ref it, .ref sp, .int 0, .null, .int 0, .int 0, .int 0, .int 0, .int 0, .int 0, .int 0, .null, .null, .null, .null, .int 0, .null, .null, .null, .null, .int 0]) hx hb hts fi_X8_init_X8 tyX8 tyX8_ok nmX8 hown hK hw hL_m_ hS_m_ rfl 3 (by decide) (hts (.fieldLink RX8 19 "WrongWordModel" "spare" "[I") ow_X8_init_19) rfl hnm rfl (by decide +kernel) rfl rfl (Nat.le_of_ble_eq_true rfl) rfl dX8_init_34 (fun H locs σ12 eσ12 hw => ?_)
  have nhS_la : σ12 la = .inl (E.2 0, 8, .inl (fun _ => 0)) := by rw [eσ12]; exact kq_far (Ne.symm hN_m__la) hS_la
  have nhS_mn : σ12 mn = .inl (E.2 0, 8, .inl (fun _ => 0)) := by rw [eσ12]; exact kq_far (Ne.symm hN_m__mn) hS_mn
  have nhS_it : σ12 it = .inl (E.2 0, 320, .inl (fun _ => 0)) := by rw [eσ12]; exact kq_far (Ne.symm hN_m__it) hS_it
  have nhS_sp : σ12 sp = .inl (E.2 0, 40, .inl (fun _ => 0)) := by rw [eσ12]; exact kq_far (Ne.symm hN_m__sp) hS_sp
  have nhS_m_ : σ12 m_ = .inr (8, [.ref la, .ref mn, .ref it, .ref sp, .int 0, .null, .int 0, .int 0, .int 0, .int 0, .int 0, .int 0, .int 0, .null, .null, .null, .null, .int 0, .null, .null, .null, .null, .int 0]) := by rw [eσ12]; exact va_up_self _ _ _
  have hS_la := nhS_la
  have hS_mn := nhS_mn
  have hS_it := nhS_it
  have hS_sp := nhS_sp
  have hS_m_ := nhS_m_
  have hE := hE.self eσ12
  refine lv_aload_n hx hb dX8_init_37 rfl (lv_at hl 0 rfl) ?_
  refine lv_bipush (v := 100) hx hb dX8_init_38 (by decide) ?_
  refine kq_newi (N' := 100) hx hb (hts (.arrayClass .int) (by decide +kernel)) hK hw (by decide) (by decide) (by decide) (Nat.le_of_ble_eq_true rfl) (Nat.le_of_ble_eq_true rfl) dX8_init_40 (fun tp H L14 σ13 hq_tp eL14 eσ13 hw => ?_)
  have hN_la_tp : la ≠ tp := fun h9 => hq_tp (h9 ▸ hL_la)
  have hS_la : σ13 la = .inl (E.2 0, 8, .inl (fun _ => 0)) := by rw [eσ13]; exact kq_new_far hq_tp hL_la hS_la
  have hL_la : la ∈ L14 := by rw [eL14]; exact List.mem_append_left _ hL_la
  have hN_mn_tp : mn ≠ tp := fun h9 => hq_tp (h9 ▸ hL_mn)
  have hS_mn : σ13 mn = .inl (E.2 0, 8, .inl (fun _ => 0)) := by rw [eσ13]; exact kq_new_far hq_tp hL_mn hS_mn
  have hL_mn : mn ∈ L14 := by rw [eL14]; exact List.mem_append_left _ hL_mn
  have hN_it_tp : it ≠ tp := fun h9 => hq_tp (h9 ▸ hL_it)
  have hS_it : σ13 it = .inl (E.2 0, 320, .inl (fun _ => 0)) := by rw [eσ13]; exact kq_new_far hq_tp hL_it hS_it
  have hL_it : it ∈ L14 := by rw [eL14]; exact List.mem_append_left _ hL_it
  have hN_sp_tp : sp ≠ tp := fun h9 => hq_tp (h9 ▸ hL_sp)
  have hS_sp : σ13 sp = .inl (E.2 0, 40, .inl (fun _ => 0)) := by rw [eσ13]; exact kq_new_far hq_tp hL_sp hS_sp
  have hL_sp : sp ∈ L14 := by rw [eL14]; exact List.mem_append_left _ hL_sp
  have hN_m__tp : m_ ≠ tp := fun h9 => hq_tp (h9 ▸ hL_m_)
  have hS_m_ : σ13 m_ = .inr (8, [.ref la, .ref mn, .ref it, .ref sp, .int 0, .null, .int 0, .int 0, .int 0, .int 0, .int 0, .int 0, .int 0, .null, .null, .null, .null, .int 0, .null, .null, .null, .null, .int 0]) := by rw [eσ13]; exact kq_new_far hq_tp hL_m_ hS_m_
  have hL_m_ : m_ ∈ L14 := by rw [eL14]; exact List.mem_append_left _ hL_m_
  have hS_tp : σ13 tp = .inl (E.2 0, 100, .inl (fun _ => 0)) := by rw [eσ13]; exact va_up_self _ _ _
  have hL_tp : tp ∈ L14 := by rw [eL14]; exact List.mem_append_right _ List.mem_cons_self
  have hO_tp := hE.out hq_tp
  have hE := hE.mk hq_tp eL14 eσ13
  refine kq_putF (ci := 8) (v := .ref tp) (ty := .array .int) (C := RX8) (T := TX8) (N := 23) (fs' := [.ref la, .ref mn, .ref it, .ref sp, .int 0, .ref tp, .int 0, .int 0, .int 0, .int 0, .int 0, .int 0, .int 0, .null, .null, .null, .null, .int 0, .null, .null, .null, .null, .int 0]) hx hb hts fi_X8_init_X8 tyX8 tyX8_ok nmX8 hown hK hw hL_m_ hS_m_ rfl 5 (by decide) (hts (.fieldLink RX8 22 "WrongWordModel" "tape" "[I") ow_X8_init_22) rfl hnm rfl (by decide +kernel) rfl rfl (Nat.le_of_ble_eq_true rfl) rfl dX8_init_42 (fun H locs σ15 eσ15 hw => ?_)
  have nhS_la : σ15 la = .inl (E.2 0, 8, .inl (fun _ => 0)) := by rw [eσ15]; exact kq_far (Ne.symm hN_m__la) hS_la
  have nhS_mn : σ15 mn = .inl (E.2 0, 8, .inl (fun _ => 0)) := by rw [eσ15]; exact kq_far (Ne.symm hN_m__mn) hS_mn
  have nhS_it : σ15 it = .inl (E.2 0, 320, .inl (fun _ => 0)) := by rw [eσ15]; exact kq_far (Ne.symm hN_m__it) hS_it
  have nhS_sp : σ15 sp = .inl (E.2 0, 40, .inl (fun _ => 0)) := by rw [eσ15]; exact kq_far (Ne.symm hN_m__sp) hS_sp
  have nhS_tp : σ15 tp = .inl (E.2 0, 100, .inl (fun _ => 0)) := by rw [eσ15]; exact kq_far (Ne.symm hN_m__tp) hS_tp
  have nhS_m_ : σ15 m_ = .inr (8, [.ref la, .ref mn, .ref it, .ref sp, .int 0, .ref tp, .int 0, .int 0, .int 0, .int 0, .int 0, .int 0, .int 0, .null, .null, .null, .null, .int 0, .null, .null, .null, .null, .int 0]) := by rw [eσ15]; exact va_up_self _ _ _
  have hS_la := nhS_la
  have hS_mn := nhS_mn
  have hS_it := nhS_it
  have hS_sp := nhS_sp
  have hS_tp := nhS_tp
  have hS_m_ := nhS_m_
  have hE := hE.self eσ15
  refine lv_aload_n hx hb dX8_init_45 rfl (lv_at hl 0 rfl) ?_
  refine lv_bipush (v := 65) hx hb dX8_init_46 (by decide) ?_
  refine kq_newi (N' := 65) hx hb (hts (.arrayClass .int) (by decide +kernel)) hK hw (by decide) (by decide) (by decide) (Nat.le_of_ble_eq_true rfl) (Nat.le_of_ble_eq_true rfl) dX8_init_48 (fun nw H L17 σ16 hq_nw eL17 eσ16 hw => ?_)
  have hN_la_nw : la ≠ nw := fun h9 => hq_nw (h9 ▸ hL_la)
  have hS_la : σ16 la = .inl (E.2 0, 8, .inl (fun _ => 0)) := by rw [eσ16]; exact kq_new_far hq_nw hL_la hS_la
  have hL_la : la ∈ L17 := by rw [eL17]; exact List.mem_append_left _ hL_la
  have hN_mn_nw : mn ≠ nw := fun h9 => hq_nw (h9 ▸ hL_mn)
  have hS_mn : σ16 mn = .inl (E.2 0, 8, .inl (fun _ => 0)) := by rw [eσ16]; exact kq_new_far hq_nw hL_mn hS_mn
  have hL_mn : mn ∈ L17 := by rw [eL17]; exact List.mem_append_left _ hL_mn
  have hN_it_nw : it ≠ nw := fun h9 => hq_nw (h9 ▸ hL_it)
  have hS_it : σ16 it = .inl (E.2 0, 320, .inl (fun _ => 0)) := by rw [eσ16]; exact kq_new_far hq_nw hL_it hS_it
  have hL_it : it ∈ L17 := by rw [eL17]; exact List.mem_append_left _ hL_it
  have hN_sp_nw : sp ≠ nw := fun h9 => hq_nw (h9 ▸ hL_sp)
  have hS_sp : σ16 sp = .inl (E.2 0, 40, .inl (fun _ => 0)) := by rw [eσ16]; exact kq_new_far hq_nw hL_sp hS_sp
  have hL_sp : sp ∈ L17 := by rw [eL17]; exact List.mem_append_left _ hL_sp
  have hN_tp_nw : tp ≠ nw := fun h9 => hq_nw (h9 ▸ hL_tp)
  have hS_tp : σ16 tp = .inl (E.2 0, 100, .inl (fun _ => 0)) := by rw [eσ16]; exact kq_new_far hq_nw hL_tp hS_tp
  have hL_tp : tp ∈ L17 := by rw [eL17]; exact List.mem_append_left _ hL_tp
  have hN_m__nw : m_ ≠ nw := fun h9 => hq_nw (h9 ▸ hL_m_)
  have hS_m_ : σ16 m_ = .inr (8, [.ref la, .ref mn, .ref it, .ref sp, .int 0, .ref tp, .int 0, .int 0, .int 0, .int 0, .int 0, .int 0, .int 0, .null, .null, .null, .null, .int 0, .null, .null, .null, .null, .int 0]) := by rw [eσ16]; exact kq_new_far hq_nw hL_m_ hS_m_
  have hL_m_ : m_ ∈ L17 := by rw [eL17]; exact List.mem_append_left _ hL_m_
  have hS_nw : σ16 nw = .inl (E.2 0, 65, .inl (fun _ => 0)) := by rw [eσ16]; exact va_up_self _ _ _
  have hL_nw : nw ∈ L17 := by rw [eL17]; exact List.mem_append_right _ List.mem_cons_self
  have hO_nw := hE.out hq_nw
  have hE := hE.mk hq_nw eL17 eσ16
  refine kq_putF (ci := 8) (v := .ref nw) (ty := .array .int) (C := RX8) (T := TX8) (N := 23) (fs' := [.ref la, .ref mn, .ref it, .ref sp, .int 0, .ref tp, .int 0, .int 0, .int 0, .int 0, .int 0, .int 0, .int 0, .ref nw, .null, .null, .null, .int 0, .null, .null, .null, .null, .int 0]) hx hb hts fi_X8_init_X8 tyX8 tyX8_ok nmX8 hown hK hw hL_m_ hS_m_ rfl 13 (by decide) (hts (.fieldLink RX8 25 "WrongWordModel" "now" "[I") ow_X8_init_25) rfl hnm rfl (by decide +kernel) rfl rfl (Nat.le_of_ble_eq_true rfl) rfl dX8_init_50 (fun H locs σ18 eσ18 hw => ?_)
  have nhS_la : σ18 la = .inl (E.2 0, 8, .inl (fun _ => 0)) := by rw [eσ18]; exact kq_far (Ne.symm hN_m__la) hS_la
  have nhS_mn : σ18 mn = .inl (E.2 0, 8, .inl (fun _ => 0)) := by rw [eσ18]; exact kq_far (Ne.symm hN_m__mn) hS_mn
  have nhS_it : σ18 it = .inl (E.2 0, 320, .inl (fun _ => 0)) := by rw [eσ18]; exact kq_far (Ne.symm hN_m__it) hS_it
  have nhS_sp : σ18 sp = .inl (E.2 0, 40, .inl (fun _ => 0)) := by rw [eσ18]; exact kq_far (Ne.symm hN_m__sp) hS_sp
  have nhS_tp : σ18 tp = .inl (E.2 0, 100, .inl (fun _ => 0)) := by rw [eσ18]; exact kq_far (Ne.symm hN_m__tp) hS_tp
  have nhS_nw : σ18 nw = .inl (E.2 0, 65, .inl (fun _ => 0)) := by rw [eσ18]; exact kq_far (Ne.symm hN_m__nw) hS_nw
  have nhS_m_ : σ18 m_ = .inr (8, [.ref la, .ref mn, .ref it, .ref sp, .int 0, .ref tp, .int 0, .int 0, .int 0, .int 0, .int 0, .int 0, .int 0, .ref nw, .null, .null, .null, .int 0, .null, .null, .null, .null, .int 0]) := by rw [eσ18]; exact va_up_self _ _ _
  have hS_la := nhS_la
  have hS_mn := nhS_mn
  have hS_it := nhS_it
  have hS_sp := nhS_sp
  have hS_tp := nhS_tp
  have hS_nw := nhS_nw
  have hS_m_ := nhS_m_
  have hE := hE.self eσ18
  refine lv_aload_n hx hb dX8_init_53 rfl (lv_at hl 0 rfl) ?_
  refine lv_bipush (v := 65) hx hb dX8_init_54 (by decide) ?_
  refine kq_newi (N' := 65) hx hb (hts (.arrayClass .int) (by decide +kernel)) hK hw (by decide) (by decide) (by decide) (Nat.le_of_ble_eq_true rfl) (Nat.le_of_ble_eq_true rfl) dX8_init_56 (fun dr H L20 σ19 hq_dr eL20 eσ19 hw => ?_)
  have hN_la_dr : la ≠ dr := fun h9 => hq_dr (h9 ▸ hL_la)
  have hS_la : σ19 la = .inl (E.2 0, 8, .inl (fun _ => 0)) := by rw [eσ19]; exact kq_new_far hq_dr hL_la hS_la
  have hL_la : la ∈ L20 := by rw [eL20]; exact List.mem_append_left _ hL_la
  have hN_mn_dr : mn ≠ dr := fun h9 => hq_dr (h9 ▸ hL_mn)
  have hS_mn : σ19 mn = .inl (E.2 0, 8, .inl (fun _ => 0)) := by rw [eσ19]; exact kq_new_far hq_dr hL_mn hS_mn
  have hL_mn : mn ∈ L20 := by rw [eL20]; exact List.mem_append_left _ hL_mn
  have hN_it_dr : it ≠ dr := fun h9 => hq_dr (h9 ▸ hL_it)
  have hS_it : σ19 it = .inl (E.2 0, 320, .inl (fun _ => 0)) := by rw [eσ19]; exact kq_new_far hq_dr hL_it hS_it
  have hL_it : it ∈ L20 := by rw [eL20]; exact List.mem_append_left _ hL_it
  have hN_sp_dr : sp ≠ dr := fun h9 => hq_dr (h9 ▸ hL_sp)
  have hS_sp : σ19 sp = .inl (E.2 0, 40, .inl (fun _ => 0)) := by rw [eσ19]; exact kq_new_far hq_dr hL_sp hS_sp
  have hL_sp : sp ∈ L20 := by rw [eL20]; exact List.mem_append_left _ hL_sp
  have hN_tp_dr : tp ≠ dr := fun h9 => hq_dr (h9 ▸ hL_tp)
  have hS_tp : σ19 tp = .inl (E.2 0, 100, .inl (fun _ => 0)) := by rw [eσ19]; exact kq_new_far hq_dr hL_tp hS_tp
  have hL_tp : tp ∈ L20 := by rw [eL20]; exact List.mem_append_left _ hL_tp
  have hN_nw_dr : nw ≠ dr := fun h9 => hq_dr (h9 ▸ hL_nw)
  have hS_nw : σ19 nw = .inl (E.2 0, 65, .inl (fun _ => 0)) := by rw [eσ19]; exact kq_new_far hq_dr hL_nw hS_nw
  have hL_nw : nw ∈ L20 := by rw [eL20]; exact List.mem_append_left _ hL_nw
  have hN_m__dr : m_ ≠ dr := fun h9 => hq_dr (h9 ▸ hL_m_)
  have hS_m_ : σ19 m_ = .inr (8, [.ref la, .ref mn, .ref it, .ref sp, .int 0, .ref tp, .int 0, .int 0, .int 0, .int 0, .int 0, .int 0, .int 0, .ref nw, .null, .null, .null, .int 0, .null, .null, .null, .null, .int 0]) := by rw [eσ19]; exact kq_new_far hq_dr hL_m_ hS_m_
  have hL_m_ : m_ ∈ L20 := by rw [eL20]; exact List.mem_append_left _ hL_m_
  have hS_dr : σ19 dr = .inl (E.2 0, 65, .inl (fun _ => 0)) := by rw [eσ19]; exact va_up_self _ _ _
  have hL_dr : dr ∈ L20 := by rw [eL20]; exact List.mem_append_right _ List.mem_cons_self
  have hO_dr := hE.out hq_dr
  have hE := hE.mk hq_dr eL20 eσ19
  refine kq_putF (ci := 8) (v := .ref dr) (ty := .array .int) (C := RX8) (T := TX8) (N := 23) (fs' := [.ref la, .ref mn, .ref it, .ref sp, .int 0, .ref tp, .int 0, .int 0, .int 0, .int 0, .int 0, .int 0, .int 0, .ref nw, .ref dr, .null, .null, .int 0, .null, .null, .null, .null, .int 0]) hx hb hts fi_X8_init_X8 tyX8 tyX8_ok nmX8 hown hK hw hL_m_ hS_m_ rfl 14 (by decide) (hts (.fieldLink RX8 28 "WrongWordModel" "draft" "[I") ow_X8_init_28) rfl hnm rfl (by decide +kernel) rfl rfl (Nat.le_of_ble_eq_true rfl) rfl dX8_init_58 (fun H locs σ21 eσ21 hw => ?_)
  have nhS_la : σ21 la = .inl (E.2 0, 8, .inl (fun _ => 0)) := by rw [eσ21]; exact kq_far (Ne.symm hN_m__la) hS_la
  have nhS_mn : σ21 mn = .inl (E.2 0, 8, .inl (fun _ => 0)) := by rw [eσ21]; exact kq_far (Ne.symm hN_m__mn) hS_mn
  have nhS_it : σ21 it = .inl (E.2 0, 320, .inl (fun _ => 0)) := by rw [eσ21]; exact kq_far (Ne.symm hN_m__it) hS_it
  have nhS_sp : σ21 sp = .inl (E.2 0, 40, .inl (fun _ => 0)) := by rw [eσ21]; exact kq_far (Ne.symm hN_m__sp) hS_sp
  have nhS_tp : σ21 tp = .inl (E.2 0, 100, .inl (fun _ => 0)) := by rw [eσ21]; exact kq_far (Ne.symm hN_m__tp) hS_tp
  have nhS_nw : σ21 nw = .inl (E.2 0, 65, .inl (fun _ => 0)) := by rw [eσ21]; exact kq_far (Ne.symm hN_m__nw) hS_nw
  have nhS_dr : σ21 dr = .inl (E.2 0, 65, .inl (fun _ => 0)) := by rw [eσ21]; exact kq_far (Ne.symm hN_m__dr) hS_dr
  have nhS_m_ : σ21 m_ = .inr (8, [.ref la, .ref mn, .ref it, .ref sp, .int 0, .ref tp, .int 0, .int 0, .int 0, .int 0, .int 0, .int 0, .int 0, .ref nw, .ref dr, .null, .null, .int 0, .null, .null, .null, .null, .int 0]) := by rw [eσ21]; exact va_up_self _ _ _
  have hS_la := nhS_la
  have hS_mn := nhS_mn
  have hS_it := nhS_it
  have hS_sp := nhS_sp
  have hS_tp := nhS_tp
  have hS_nw := nhS_nw
  have hS_dr := nhS_dr
  have hS_m_ := nhS_m_
  have hE := hE.self eσ21
  refine lv_aload_n hx hb dX8_init_61 rfl (lv_at hl 0 rfl) ?_
  refine lv_bipush (v := 65) hx hb dX8_init_62 (by decide) ?_
  refine kq_newi (N' := 65) hx hb (hts (.arrayClass .int) (by decide +kernel)) hK hw (by decide) (by decide) (by decide) (Nat.le_of_ble_eq_true rfl) (Nat.le_of_ble_eq_true rfl) dX8_init_64 (fun tr H L23 σ22 hq_tr eL23 eσ22 hw => ?_)
  have hN_la_tr : la ≠ tr := fun h9 => hq_tr (h9 ▸ hL_la)
  have hS_la : σ22 la = .inl (E.2 0, 8, .inl (fun _ => 0)) := by rw [eσ22]; exact kq_new_far hq_tr hL_la hS_la
  have hL_la : la ∈ L23 := by rw [eL23]; exact List.mem_append_left _ hL_la
  have hN_mn_tr : mn ≠ tr := fun h9 => hq_tr (h9 ▸ hL_mn)
  have hS_mn : σ22 mn = .inl (E.2 0, 8, .inl (fun _ => 0)) := by rw [eσ22]; exact kq_new_far hq_tr hL_mn hS_mn
  have hL_mn : mn ∈ L23 := by rw [eL23]; exact List.mem_append_left _ hL_mn
  have hN_it_tr : it ≠ tr := fun h9 => hq_tr (h9 ▸ hL_it)
  have hS_it : σ22 it = .inl (E.2 0, 320, .inl (fun _ => 0)) := by rw [eσ22]; exact kq_new_far hq_tr hL_it hS_it
  have hL_it : it ∈ L23 := by rw [eL23]; exact List.mem_append_left _ hL_it
  have hN_sp_tr : sp ≠ tr := fun h9 => hq_tr (h9 ▸ hL_sp)
  have hS_sp : σ22 sp = .inl (E.2 0, 40, .inl (fun _ => 0)) := by rw [eσ22]; exact kq_new_far hq_tr hL_sp hS_sp
  have hL_sp : sp ∈ L23 := by rw [eL23]; exact List.mem_append_left _ hL_sp
  have hN_tp_tr : tp ≠ tr := fun h9 => hq_tr (h9 ▸ hL_tp)
  have hS_tp : σ22 tp = .inl (E.2 0, 100, .inl (fun _ => 0)) := by rw [eσ22]; exact kq_new_far hq_tr hL_tp hS_tp
  have hL_tp : tp ∈ L23 := by rw [eL23]; exact List.mem_append_left _ hL_tp
  have hN_nw_tr : nw ≠ tr := fun h9 => hq_tr (h9 ▸ hL_nw)
  have hS_nw : σ22 nw = .inl (E.2 0, 65, .inl (fun _ => 0)) := by rw [eσ22]; exact kq_new_far hq_tr hL_nw hS_nw
  have hL_nw : nw ∈ L23 := by rw [eL23]; exact List.mem_append_left _ hL_nw
  have hN_dr_tr : dr ≠ tr := fun h9 => hq_tr (h9 ▸ hL_dr)
  have hS_dr : σ22 dr = .inl (E.2 0, 65, .inl (fun _ => 0)) := by rw [eσ22]; exact kq_new_far hq_tr hL_dr hS_dr
  have hL_dr : dr ∈ L23 := by rw [eL23]; exact List.mem_append_left _ hL_dr
  have hN_m__tr : m_ ≠ tr := fun h9 => hq_tr (h9 ▸ hL_m_)
  have hS_m_ : σ22 m_ = .inr (8, [.ref la, .ref mn, .ref it, .ref sp, .int 0, .ref tp, .int 0, .int 0, .int 0, .int 0, .int 0, .int 0, .int 0, .ref nw, .ref dr, .null, .null, .int 0, .null, .null, .null, .null, .int 0]) := by rw [eσ22]; exact kq_new_far hq_tr hL_m_ hS_m_
  have hL_m_ : m_ ∈ L23 := by rw [eL23]; exact List.mem_append_left _ hL_m_
  have hS_tr : σ22 tr = .inl (E.2 0, 65, .inl (fun _ => 0)) := by rw [eσ22]; exact va_up_self _ _ _
  have hL_tr : tr ∈ L23 := by rw [eL23]; exact List.mem_append_right _ List.mem_cons_self
  have hO_tr := hE.out hq_tr
  have hE := hE.mk hq_tr eL23 eσ22
  refine kq_putF (ci := 8) (v := .ref tr) (ty := .array .int) (C := RX8) (T := TX8) (N := 23) (fs' := [.ref la, .ref mn, .ref it, .ref sp, .int 0, .ref tp, .int 0, .int 0, .int 0, .int 0, .int 0, .int 0, .int 0, .ref nw, .ref dr, .ref tr, .null, .int 0, .null, .null, .null, .null, .int 0]) hx hb hts fi_X8_init_X8 tyX8 tyX8_ok nmX8 hown hK hw hL_m_ hS_m_ rfl 15 (by decide) (hts (.fieldLink RX8 31 "WrongWordModel" "tried" "[I") ow_X8_init_31) rfl hnm rfl (by decide +kernel) rfl rfl (Nat.le_of_ble_eq_true rfl) rfl dX8_init_66 (fun H locs σ24 eσ24 hw => ?_)
  have nhS_la : σ24 la = .inl (E.2 0, 8, .inl (fun _ => 0)) := by rw [eσ24]; exact kq_far (Ne.symm hN_m__la) hS_la
  have nhS_mn : σ24 mn = .inl (E.2 0, 8, .inl (fun _ => 0)) := by rw [eσ24]; exact kq_far (Ne.symm hN_m__mn) hS_mn
  have nhS_it : σ24 it = .inl (E.2 0, 320, .inl (fun _ => 0)) := by rw [eσ24]; exact kq_far (Ne.symm hN_m__it) hS_it
  have nhS_sp : σ24 sp = .inl (E.2 0, 40, .inl (fun _ => 0)) := by rw [eσ24]; exact kq_far (Ne.symm hN_m__sp) hS_sp
  have nhS_tp : σ24 tp = .inl (E.2 0, 100, .inl (fun _ => 0)) := by rw [eσ24]; exact kq_far (Ne.symm hN_m__tp) hS_tp
  have nhS_nw : σ24 nw = .inl (E.2 0, 65, .inl (fun _ => 0)) := by rw [eσ24]; exact kq_far (Ne.symm hN_m__nw) hS_nw
  have nhS_dr : σ24 dr = .inl (E.2 0, 65, .inl (fun _ => 0)) := by rw [eσ24]; exact kq_far (Ne.symm hN_m__dr) hS_dr
  have nhS_tr : σ24 tr = .inl (E.2 0, 65, .inl (fun _ => 0)) := by rw [eσ24]; exact kq_far (Ne.symm hN_m__tr) hS_tr
  have nhS_m_ : σ24 m_ = .inr (8, [.ref la, .ref mn, .ref it, .ref sp, .int 0, .ref tp, .int 0, .int 0, .int 0, .int 0, .int 0, .int 0, .int 0, .ref nw, .ref dr, .ref tr, .null, .int 0, .null, .null, .null, .null, .int 0]) := by rw [eσ24]; exact va_up_self _ _ _
  have hS_la := nhS_la
  have hS_mn := nhS_mn
  have hS_it := nhS_it
  have hS_sp := nhS_sp
  have hS_tp := nhS_tp
  have hS_nw := nhS_nw
  have hS_dr := nhS_dr
  have hS_tr := nhS_tr
  have hS_m_ := nhS_m_
  have hE := hE.self eσ24
  refine lv_aload_n hx hb dX8_init_69 rfl (lv_at hl 0 rfl) ?_
  refine lv_sipush (v := 1560) hx hb dX8_init_70 (by decide) ?_
  refine kq_newi (N' := 1560) hx hb (hts (.arrayClass .int) (by decide +kernel)) hK hw (by decide) (by decide) (by decide) (Nat.le_of_ble_eq_true rfl) (Nat.le_of_ble_eq_true rfl) dX8_init_73 (fun pa H L26 σ25 hq_pa eL26 eσ25 hw => ?_)
  have hN_la_pa : la ≠ pa := fun h9 => hq_pa (h9 ▸ hL_la)
  have hS_la : σ25 la = .inl (E.2 0, 8, .inl (fun _ => 0)) := by rw [eσ25]; exact kq_new_far hq_pa hL_la hS_la
  have hL_la : la ∈ L26 := by rw [eL26]; exact List.mem_append_left _ hL_la
  have hN_mn_pa : mn ≠ pa := fun h9 => hq_pa (h9 ▸ hL_mn)
  have hS_mn : σ25 mn = .inl (E.2 0, 8, .inl (fun _ => 0)) := by rw [eσ25]; exact kq_new_far hq_pa hL_mn hS_mn
  have hL_mn : mn ∈ L26 := by rw [eL26]; exact List.mem_append_left _ hL_mn
  have hN_it_pa : it ≠ pa := fun h9 => hq_pa (h9 ▸ hL_it)
  have hS_it : σ25 it = .inl (E.2 0, 320, .inl (fun _ => 0)) := by rw [eσ25]; exact kq_new_far hq_pa hL_it hS_it
  have hL_it : it ∈ L26 := by rw [eL26]; exact List.mem_append_left _ hL_it
  have hN_sp_pa : sp ≠ pa := fun h9 => hq_pa (h9 ▸ hL_sp)
  have hS_sp : σ25 sp = .inl (E.2 0, 40, .inl (fun _ => 0)) := by rw [eσ25]; exact kq_new_far hq_pa hL_sp hS_sp
  have hL_sp : sp ∈ L26 := by rw [eL26]; exact List.mem_append_left _ hL_sp
  have hN_tp_pa : tp ≠ pa := fun h9 => hq_pa (h9 ▸ hL_tp)
  have hS_tp : σ25 tp = .inl (E.2 0, 100, .inl (fun _ => 0)) := by rw [eσ25]; exact kq_new_far hq_pa hL_tp hS_tp
  have hL_tp : tp ∈ L26 := by rw [eL26]; exact List.mem_append_left _ hL_tp
  have hN_nw_pa : nw ≠ pa := fun h9 => hq_pa (h9 ▸ hL_nw)
  have hS_nw : σ25 nw = .inl (E.2 0, 65, .inl (fun _ => 0)) := by rw [eσ25]; exact kq_new_far hq_pa hL_nw hS_nw
  have hL_nw : nw ∈ L26 := by rw [eL26]; exact List.mem_append_left _ hL_nw
  have hN_dr_pa : dr ≠ pa := fun h9 => hq_pa (h9 ▸ hL_dr)
  have hS_dr : σ25 dr = .inl (E.2 0, 65, .inl (fun _ => 0)) := by rw [eσ25]; exact kq_new_far hq_pa hL_dr hS_dr
  have hL_dr : dr ∈ L26 := by rw [eL26]; exact List.mem_append_left _ hL_dr
  have hN_tr_pa : tr ≠ pa := fun h9 => hq_pa (h9 ▸ hL_tr)
  have hS_tr : σ25 tr = .inl (E.2 0, 65, .inl (fun _ => 0)) := by rw [eσ25]; exact kq_new_far hq_pa hL_tr hS_tr
  have hL_tr : tr ∈ L26 := by rw [eL26]; exact List.mem_append_left _ hL_tr
  have hN_m__pa : m_ ≠ pa := fun h9 => hq_pa (h9 ▸ hL_m_)
  have hS_m_ : σ25 m_ = .inr (8, [.ref la, .ref mn, .ref it, .ref sp, .int 0, .ref tp, .int 0, .int 0, .int 0, .int 0, .int 0, .int 0, .int 0, .ref nw, .ref dr, .ref tr, .null, .int 0, .null, .null, .null, .null, .int 0]) := by rw [eσ25]; exact kq_new_far hq_pa hL_m_ hS_m_
  have hL_m_ : m_ ∈ L26 := by rw [eL26]; exact List.mem_append_left _ hL_m_
  have hS_pa : σ25 pa = .inl (E.2 0, 1560, .inl (fun _ => 0)) := by rw [eσ25]; exact va_up_self _ _ _
  have hL_pa : pa ∈ L26 := by rw [eL26]; exact List.mem_append_right _ List.mem_cons_self
  have hO_pa := hE.out hq_pa
  have hE := hE.mk hq_pa eL26 eσ25
  refine kq_putF (ci := 8) (v := .ref pa) (ty := .array .int) (C := RX8) (T := TX8) (N := 23) (fs' := [.ref la, .ref mn, .ref it, .ref sp, .int 0, .ref tp, .int 0, .int 0, .int 0, .int 0, .int 0, .int 0, .int 0, .ref nw, .ref dr, .ref tr, .ref pa, .int 0, .null, .null, .null, .null, .int 0]) hx hb hts fi_X8_init_X8 tyX8 tyX8_ok nmX8 hown hK hw hL_m_ hS_m_ rfl 16 (by decide) (hts (.fieldLink RX8 34 "WrongWordModel" "past" "[I") ow_X8_init_34) rfl hnm rfl (by decide +kernel) rfl rfl (Nat.le_of_ble_eq_true rfl) rfl dX8_init_75 (fun H locs σ27 eσ27 hw => ?_)
  have nhS_la : σ27 la = .inl (E.2 0, 8, .inl (fun _ => 0)) := by rw [eσ27]; exact kq_far (Ne.symm hN_m__la) hS_la
  have nhS_mn : σ27 mn = .inl (E.2 0, 8, .inl (fun _ => 0)) := by rw [eσ27]; exact kq_far (Ne.symm hN_m__mn) hS_mn
  have nhS_it : σ27 it = .inl (E.2 0, 320, .inl (fun _ => 0)) := by rw [eσ27]; exact kq_far (Ne.symm hN_m__it) hS_it
  have nhS_sp : σ27 sp = .inl (E.2 0, 40, .inl (fun _ => 0)) := by rw [eσ27]; exact kq_far (Ne.symm hN_m__sp) hS_sp
  have nhS_tp : σ27 tp = .inl (E.2 0, 100, .inl (fun _ => 0)) := by rw [eσ27]; exact kq_far (Ne.symm hN_m__tp) hS_tp
  have nhS_nw : σ27 nw = .inl (E.2 0, 65, .inl (fun _ => 0)) := by rw [eσ27]; exact kq_far (Ne.symm hN_m__nw) hS_nw
  have nhS_dr : σ27 dr = .inl (E.2 0, 65, .inl (fun _ => 0)) := by rw [eσ27]; exact kq_far (Ne.symm hN_m__dr) hS_dr
  have nhS_tr : σ27 tr = .inl (E.2 0, 65, .inl (fun _ => 0)) := by rw [eσ27]; exact kq_far (Ne.symm hN_m__tr) hS_tr
  have nhS_pa : σ27 pa = .inl (E.2 0, 1560, .inl (fun _ => 0)) := by rw [eσ27]; exact kq_far (Ne.symm hN_m__pa) hS_pa
  have nhS_m_ : σ27 m_ = .inr (8, [.ref la, .ref mn, .ref it, .ref sp, .int 0, .ref tp, .int 0, .int 0, .int 0, .int 0, .int 0, .int 0, .int 0, .ref nw, .ref dr, .ref tr, .ref pa, .int 0, .null, .null, .null, .null, .int 0]) := by rw [eσ27]; exact va_up_self _ _ _
  have hS_la := nhS_la
  have hS_mn := nhS_mn
  have hS_it := nhS_it
  have hS_sp := nhS_sp
  have hS_tp := nhS_tp
  have hS_nw := nhS_nw
  have hS_dr := nhS_dr
  have hS_tr := nhS_tr
  have hS_pa := nhS_pa
  have hS_m_ := nhS_m_
  have hE := hE.self eσ27
  refine lv_aload_n hx hb dX8_init_78 rfl (lv_at hl 0 rfl) ?_
  refine lv_sipush (v := 130) hx hb dX8_init_79 (by decide) ?_
  refine kq_newi (N' := 130) hx hb (hts (.arrayClass .int) (by decide +kernel)) hK hw (by decide) (by decide) (by decide) (Nat.le_of_ble_eq_true rfl) (Nat.le_of_ble_eq_true rfl) dX8_init_82 (fun im H L29 σ28 hq_im eL29 eσ28 hw => ?_)
  have hN_la_im : la ≠ im := fun h9 => hq_im (h9 ▸ hL_la)
  have hS_la : σ28 la = .inl (E.2 0, 8, .inl (fun _ => 0)) := by rw [eσ28]; exact kq_new_far hq_im hL_la hS_la
  have hL_la : la ∈ L29 := by rw [eL29]; exact List.mem_append_left _ hL_la
  have hN_mn_im : mn ≠ im := fun h9 => hq_im (h9 ▸ hL_mn)
  have hS_mn : σ28 mn = .inl (E.2 0, 8, .inl (fun _ => 0)) := by rw [eσ28]; exact kq_new_far hq_im hL_mn hS_mn
  have hL_mn : mn ∈ L29 := by rw [eL29]; exact List.mem_append_left _ hL_mn
  have hN_it_im : it ≠ im := fun h9 => hq_im (h9 ▸ hL_it)
  have hS_it : σ28 it = .inl (E.2 0, 320, .inl (fun _ => 0)) := by rw [eσ28]; exact kq_new_far hq_im hL_it hS_it
  have hL_it : it ∈ L29 := by rw [eL29]; exact List.mem_append_left _ hL_it
  have hN_sp_im : sp ≠ im := fun h9 => hq_im (h9 ▸ hL_sp)
  have hS_sp : σ28 sp = .inl (E.2 0, 40, .inl (fun _ => 0)) := by rw [eσ28]; exact kq_new_far hq_im hL_sp hS_sp
  have hL_sp : sp ∈ L29 := by rw [eL29]; exact List.mem_append_left _ hL_sp
  have hN_tp_im : tp ≠ im := fun h9 => hq_im (h9 ▸ hL_tp)
  have hS_tp : σ28 tp = .inl (E.2 0, 100, .inl (fun _ => 0)) := by rw [eσ28]; exact kq_new_far hq_im hL_tp hS_tp
  have hL_tp : tp ∈ L29 := by rw [eL29]; exact List.mem_append_left _ hL_tp
  have hN_nw_im : nw ≠ im := fun h9 => hq_im (h9 ▸ hL_nw)
  have hS_nw : σ28 nw = .inl (E.2 0, 65, .inl (fun _ => 0)) := by rw [eσ28]; exact kq_new_far hq_im hL_nw hS_nw
  have hL_nw : nw ∈ L29 := by rw [eL29]; exact List.mem_append_left _ hL_nw
  have hN_dr_im : dr ≠ im := fun h9 => hq_im (h9 ▸ hL_dr)
  have hS_dr : σ28 dr = .inl (E.2 0, 65, .inl (fun _ => 0)) := by rw [eσ28]; exact kq_new_far hq_im hL_dr hS_dr
  have hL_dr : dr ∈ L29 := by rw [eL29]; exact List.mem_append_left _ hL_dr
  have hN_tr_im : tr ≠ im := fun h9 => hq_im (h9 ▸ hL_tr)
  have hS_tr : σ28 tr = .inl (E.2 0, 65, .inl (fun _ => 0)) := by rw [eσ28]; exact kq_new_far hq_im hL_tr hS_tr
  have hL_tr : tr ∈ L29 := by rw [eL29]; exact List.mem_append_left _ hL_tr
  have hN_pa_im : pa ≠ im := fun h9 => hq_im (h9 ▸ hL_pa)
  have hS_pa : σ28 pa = .inl (E.2 0, 1560, .inl (fun _ => 0)) := by rw [eσ28]; exact kq_new_far hq_im hL_pa hS_pa
  have hL_pa : pa ∈ L29 := by rw [eL29]; exact List.mem_append_left _ hL_pa
  have hN_m__im : m_ ≠ im := fun h9 => hq_im (h9 ▸ hL_m_)
  have hS_m_ : σ28 m_ = .inr (8, [.ref la, .ref mn, .ref it, .ref sp, .int 0, .ref tp, .int 0, .int 0, .int 0, .int 0, .int 0, .int 0, .int 0, .ref nw, .ref dr, .ref tr, .ref pa, .int 0, .null, .null, .null, .null, .int 0]) := by rw [eσ28]; exact kq_new_far hq_im hL_m_ hS_m_
  have hL_m_ : m_ ∈ L29 := by rw [eL29]; exact List.mem_append_left _ hL_m_
  have hS_im : σ28 im = .inl (E.2 0, 130, .inl (fun _ => 0)) := by rw [eσ28]; exact va_up_self _ _ _
  have hL_im : im ∈ L29 := by rw [eL29]; exact List.mem_append_right _ List.mem_cons_self
  have hO_im := hE.out hq_im
  have hE := hE.mk hq_im eL29 eσ28
  refine kq_putF (ci := 8) (v := .ref im) (ty := .array .int) (C := RX8) (T := TX8) (N := 23) (fs' := [.ref la, .ref mn, .ref it, .ref sp, .int 0, .ref tp, .int 0, .int 0, .int 0, .int 0, .int 0, .int 0, .int 0, .ref nw, .ref dr, .ref tr, .ref pa, .int 0, .ref im, .null, .null, .null, .int 0]) hx hb hts fi_X8_init_X8 tyX8 tyX8_ok nmX8 hown hK hw hL_m_ hS_m_ rfl 18 (by decide) (hts (.fieldLink RX8 37 "WrongWordModel" "images" "[I") ow_X8_init_37) rfl hnm rfl (by decide +kernel) rfl rfl (Nat.le_of_ble_eq_true rfl) rfl dX8_init_84 (fun H locs σ30 eσ30 hw => ?_)
  have nhS_la : σ30 la = .inl (E.2 0, 8, .inl (fun _ => 0)) := by rw [eσ30]; exact kq_far (Ne.symm hN_m__la) hS_la
  have nhS_mn : σ30 mn = .inl (E.2 0, 8, .inl (fun _ => 0)) := by rw [eσ30]; exact kq_far (Ne.symm hN_m__mn) hS_mn
  have nhS_it : σ30 it = .inl (E.2 0, 320, .inl (fun _ => 0)) := by rw [eσ30]; exact kq_far (Ne.symm hN_m__it) hS_it
  have nhS_sp : σ30 sp = .inl (E.2 0, 40, .inl (fun _ => 0)) := by rw [eσ30]; exact kq_far (Ne.symm hN_m__sp) hS_sp
  have nhS_tp : σ30 tp = .inl (E.2 0, 100, .inl (fun _ => 0)) := by rw [eσ30]; exact kq_far (Ne.symm hN_m__tp) hS_tp
  have nhS_nw : σ30 nw = .inl (E.2 0, 65, .inl (fun _ => 0)) := by rw [eσ30]; exact kq_far (Ne.symm hN_m__nw) hS_nw
  have nhS_dr : σ30 dr = .inl (E.2 0, 65, .inl (fun _ => 0)) := by rw [eσ30]; exact kq_far (Ne.symm hN_m__dr) hS_dr
  have nhS_tr : σ30 tr = .inl (E.2 0, 65, .inl (fun _ => 0)) := by rw [eσ30]; exact kq_far (Ne.symm hN_m__tr) hS_tr
  have nhS_pa : σ30 pa = .inl (E.2 0, 1560, .inl (fun _ => 0)) := by rw [eσ30]; exact kq_far (Ne.symm hN_m__pa) hS_pa
  have nhS_im : σ30 im = .inl (E.2 0, 130, .inl (fun _ => 0)) := by rw [eσ30]; exact kq_far (Ne.symm hN_m__im) hS_im
  have nhS_m_ : σ30 m_ = .inr (8, [.ref la, .ref mn, .ref it, .ref sp, .int 0, .ref tp, .int 0, .int 0, .int 0, .int 0, .int 0, .int 0, .int 0, .ref nw, .ref dr, .ref tr, .ref pa, .int 0, .ref im, .null, .null, .null, .int 0]) := by rw [eσ30]; exact va_up_self _ _ _
  have hS_la := nhS_la
  have hS_mn := nhS_mn
  have hS_it := nhS_it
  have hS_sp := nhS_sp
  have hS_tp := nhS_tp
  have hS_nw := nhS_nw
  have hS_dr := nhS_dr
  have hS_tr := nhS_tr
  have hS_pa := nhS_pa
  have hS_im := nhS_im
  have hS_m_ := nhS_m_
  have hE := hE.self eσ30
  refine lv_aload_n hx hb dX8_init_87 rfl (lv_at hl 0 rfl) ?_
  refine lv_iconst (v := 2) hx hb dX8_init_88 (by decide) ?_
  refine kq_newz (N' := 2) hx hb (hts (.arrayClass .boolean) (by decide +kernel)) hK hw (by decide) (by decide) (by decide) (Nat.le_of_ble_eq_true rfl) (Nat.le_of_ble_eq_true rfl) dX8_init_89 (fun kp H L32 σ31 hq_kp eL32 eσ31 hw => ?_)
  have hN_la_kp : la ≠ kp := fun h9 => hq_kp (h9 ▸ hL_la)
  have hS_la : σ31 la = .inl (E.2 0, 8, .inl (fun _ => 0)) := by rw [eσ31]; exact kq_new_far hq_kp hL_la hS_la
  have hL_la : la ∈ L32 := by rw [eL32]; exact List.mem_append_left _ hL_la
  have hN_mn_kp : mn ≠ kp := fun h9 => hq_kp (h9 ▸ hL_mn)
  have hS_mn : σ31 mn = .inl (E.2 0, 8, .inl (fun _ => 0)) := by rw [eσ31]; exact kq_new_far hq_kp hL_mn hS_mn
  have hL_mn : mn ∈ L32 := by rw [eL32]; exact List.mem_append_left _ hL_mn
  have hN_it_kp : it ≠ kp := fun h9 => hq_kp (h9 ▸ hL_it)
  have hS_it : σ31 it = .inl (E.2 0, 320, .inl (fun _ => 0)) := by rw [eσ31]; exact kq_new_far hq_kp hL_it hS_it
  have hL_it : it ∈ L32 := by rw [eL32]; exact List.mem_append_left _ hL_it
  have hN_sp_kp : sp ≠ kp := fun h9 => hq_kp (h9 ▸ hL_sp)
  have hS_sp : σ31 sp = .inl (E.2 0, 40, .inl (fun _ => 0)) := by rw [eσ31]; exact kq_new_far hq_kp hL_sp hS_sp
  have hL_sp : sp ∈ L32 := by rw [eL32]; exact List.mem_append_left _ hL_sp
  have hN_tp_kp : tp ≠ kp := fun h9 => hq_kp (h9 ▸ hL_tp)
  have hS_tp : σ31 tp = .inl (E.2 0, 100, .inl (fun _ => 0)) := by rw [eσ31]; exact kq_new_far hq_kp hL_tp hS_tp
  have hL_tp : tp ∈ L32 := by rw [eL32]; exact List.mem_append_left _ hL_tp
  have hN_nw_kp : nw ≠ kp := fun h9 => hq_kp (h9 ▸ hL_nw)
  have hS_nw : σ31 nw = .inl (E.2 0, 65, .inl (fun _ => 0)) := by rw [eσ31]; exact kq_new_far hq_kp hL_nw hS_nw
  have hL_nw : nw ∈ L32 := by rw [eL32]; exact List.mem_append_left _ hL_nw
  have hN_dr_kp : dr ≠ kp := fun h9 => hq_kp (h9 ▸ hL_dr)
  have hS_dr : σ31 dr = .inl (E.2 0, 65, .inl (fun _ => 0)) := by rw [eσ31]; exact kq_new_far hq_kp hL_dr hS_dr
  have hL_dr : dr ∈ L32 := by rw [eL32]; exact List.mem_append_left _ hL_dr
  have hN_tr_kp : tr ≠ kp := fun h9 => hq_kp (h9 ▸ hL_tr)
  have hS_tr : σ31 tr = .inl (E.2 0, 65, .inl (fun _ => 0)) := by rw [eσ31]; exact kq_new_far hq_kp hL_tr hS_tr
  have hL_tr : tr ∈ L32 := by rw [eL32]; exact List.mem_append_left _ hL_tr
  have hN_pa_kp : pa ≠ kp := fun h9 => hq_kp (h9 ▸ hL_pa)
  have hS_pa : σ31 pa = .inl (E.2 0, 1560, .inl (fun _ => 0)) := by rw [eσ31]; exact kq_new_far hq_kp hL_pa hS_pa
  have hL_pa : pa ∈ L32 := by rw [eL32]; exact List.mem_append_left _ hL_pa
  have hN_im_kp : im ≠ kp := fun h9 => hq_kp (h9 ▸ hL_im)
  have hS_im : σ31 im = .inl (E.2 0, 130, .inl (fun _ => 0)) := by rw [eσ31]; exact kq_new_far hq_kp hL_im hS_im
  have hL_im : im ∈ L32 := by rw [eL32]; exact List.mem_append_left _ hL_im
  have hN_m__kp : m_ ≠ kp := fun h9 => hq_kp (h9 ▸ hL_m_)
  have hS_m_ : σ31 m_ = .inr (8, [.ref la, .ref mn, .ref it, .ref sp, .int 0, .ref tp, .int 0, .int 0, .int 0, .int 0, .int 0, .int 0, .int 0, .ref nw, .ref dr, .ref tr, .ref pa, .int 0, .ref im, .null, .null, .null, .int 0]) := by rw [eσ31]; exact kq_new_far hq_kp hL_m_ hS_m_
  have hL_m_ : m_ ∈ L32 := by rw [eL32]; exact List.mem_append_left _ hL_m_
  have hS_kp : σ31 kp = .inl (E.2 1, 2, .inl (fun _ => 0)) := by rw [eσ31]; exact va_up_self _ _ _
  have hL_kp : kp ∈ L32 := by rw [eL32]; exact List.mem_append_right _ List.mem_cons_self
  have hO_kp := hE.out hq_kp
  have hE := hE.mk hq_kp eL32 eσ31
  refine kq_putF (ci := 8) (v := .ref kp) (ty := .array .boolean) (C := RX8) (T := TX8) (N := 23) (fs' := [.ref la, .ref mn, .ref it, .ref sp, .int 0, .ref tp, .int 0, .int 0, .int 0, .int 0, .int 0, .int 0, .int 0, .ref nw, .ref dr, .ref tr, .ref pa, .int 0, .ref im, .ref kp, .null, .null, .int 0]) hx hb hts fi_X8_init_X8 tyX8 tyX8_ok nmX8 hown hK hw hL_m_ hS_m_ rfl 19 (by decide) (hts (.fieldLink RX8 40 "WrongWordModel" "kept" "[Z") ow_X8_init_40) rfl hnm rfl (by decide +kernel) rfl rfl (Nat.le_of_ble_eq_true rfl) rfl dX8_init_91 (fun H locs σ33 eσ33 hw => ?_)
  have nhS_la : σ33 la = .inl (E.2 0, 8, .inl (fun _ => 0)) := by rw [eσ33]; exact kq_far (Ne.symm hN_m__la) hS_la
  have nhS_mn : σ33 mn = .inl (E.2 0, 8, .inl (fun _ => 0)) := by rw [eσ33]; exact kq_far (Ne.symm hN_m__mn) hS_mn
  have nhS_it : σ33 it = .inl (E.2 0, 320, .inl (fun _ => 0)) := by rw [eσ33]; exact kq_far (Ne.symm hN_m__it) hS_it
  have nhS_sp : σ33 sp = .inl (E.2 0, 40, .inl (fun _ => 0)) := by rw [eσ33]; exact kq_far (Ne.symm hN_m__sp) hS_sp
  have nhS_tp : σ33 tp = .inl (E.2 0, 100, .inl (fun _ => 0)) := by rw [eσ33]; exact kq_far (Ne.symm hN_m__tp) hS_tp
  have nhS_nw : σ33 nw = .inl (E.2 0, 65, .inl (fun _ => 0)) := by rw [eσ33]; exact kq_far (Ne.symm hN_m__nw) hS_nw
  have nhS_dr : σ33 dr = .inl (E.2 0, 65, .inl (fun _ => 0)) := by rw [eσ33]; exact kq_far (Ne.symm hN_m__dr) hS_dr
  have nhS_tr : σ33 tr = .inl (E.2 0, 65, .inl (fun _ => 0)) := by rw [eσ33]; exact kq_far (Ne.symm hN_m__tr) hS_tr
  have nhS_pa : σ33 pa = .inl (E.2 0, 1560, .inl (fun _ => 0)) := by rw [eσ33]; exact kq_far (Ne.symm hN_m__pa) hS_pa
  have nhS_im : σ33 im = .inl (E.2 0, 130, .inl (fun _ => 0)) := by rw [eσ33]; exact kq_far (Ne.symm hN_m__im) hS_im
  have nhS_kp : σ33 kp = .inl (E.2 1, 2, .inl (fun _ => 0)) := by rw [eσ33]; exact kq_far (Ne.symm hN_m__kp) hS_kp
  have nhS_m_ : σ33 m_ = .inr (8, [.ref la, .ref mn, .ref it, .ref sp, .int 0, .ref tp, .int 0, .int 0, .int 0, .int 0, .int 0, .int 0, .int 0, .ref nw, .ref dr, .ref tr, .ref pa, .int 0, .ref im, .ref kp, .null, .null, .int 0]) := by rw [eσ33]; exact va_up_self _ _ _
  have hS_la := nhS_la
  have hS_mn := nhS_mn
  have hS_it := nhS_it
  have hS_sp := nhS_sp
  have hS_tp := nhS_tp
  have hS_nw := nhS_nw
  have hS_dr := nhS_dr
  have hS_tr := nhS_tr
  have hS_pa := nhS_pa
  have hS_im := nhS_im
  have hS_kp := nhS_kp
  have hS_m_ := nhS_m_
  have hE := hE.self eσ33
  refine lv_aload_n hx hb dX8_init_94 rfl (lv_at hl 0 rfl) ?_
  refine lv_bipush (v := 64) hx hb dX8_init_95 (by decide) ?_
  refine kq_newi (N' := 64) hx hb (hts (.arrayClass .int) (by decide +kernel)) hK hw (by decide) (by decide) (by decide) (Nat.le_of_ble_eq_true rfl) (Nat.le_of_ble_eq_true rfl) dX8_init_97 (fun me H L35 σ34 hq_me eL35 eσ34 hw => ?_)
  have hN_la_me : la ≠ me := fun h9 => hq_me (h9 ▸ hL_la)
  have hS_la : σ34 la = .inl (E.2 0, 8, .inl (fun _ => 0)) := by rw [eσ34]; exact kq_new_far hq_me hL_la hS_la
  have hL_la : la ∈ L35 := by rw [eL35]; exact List.mem_append_left _ hL_la
  have hN_mn_me : mn ≠ me := fun h9 => hq_me (h9 ▸ hL_mn)
  have hS_mn : σ34 mn = .inl (E.2 0, 8, .inl (fun _ => 0)) := by rw [eσ34]; exact kq_new_far hq_me hL_mn hS_mn
  have hL_mn : mn ∈ L35 := by rw [eL35]; exact List.mem_append_left _ hL_mn
  have hN_it_me : it ≠ me := fun h9 => hq_me (h9 ▸ hL_it)
  have hS_it : σ34 it = .inl (E.2 0, 320, .inl (fun _ => 0)) := by rw [eσ34]; exact kq_new_far hq_me hL_it hS_it
  have hL_it : it ∈ L35 := by rw [eL35]; exact List.mem_append_left _ hL_it
  have hN_sp_me : sp ≠ me := fun h9 => hq_me (h9 ▸ hL_sp)
  have hS_sp : σ34 sp = .inl (E.2 0, 40, .inl (fun _ => 0)) := by rw [eσ34]; exact kq_new_far hq_me hL_sp hS_sp
  have hL_sp : sp ∈ L35 := by rw [eL35]; exact List.mem_append_left _ hL_sp
  have hN_tp_me : tp ≠ me := fun h9 => hq_me (h9 ▸ hL_tp)
  have hS_tp : σ34 tp = .inl (E.2 0, 100, .inl (fun _ => 0)) := by rw [eσ34]; exact kq_new_far hq_me hL_tp hS_tp
  have hL_tp : tp ∈ L35 := by rw [eL35]; exact List.mem_append_left _ hL_tp
  have hN_nw_me : nw ≠ me := fun h9 => hq_me (h9 ▸ hL_nw)
  have hS_nw : σ34 nw = .inl (E.2 0, 65, .inl (fun _ => 0)) := by rw [eσ34]; exact kq_new_far hq_me hL_nw hS_nw
  have hL_nw : nw ∈ L35 := by rw [eL35]; exact List.mem_append_left _ hL_nw
  have hN_dr_me : dr ≠ me := fun h9 => hq_me (h9 ▸ hL_dr)
  have hS_dr : σ34 dr = .inl (E.2 0, 65, .inl (fun _ => 0)) := by rw [eσ34]; exact kq_new_far hq_me hL_dr hS_dr
  have hL_dr : dr ∈ L35 := by rw [eL35]; exact List.mem_append_left _ hL_dr
  have hN_tr_me : tr ≠ me := fun h9 => hq_me (h9 ▸ hL_tr)
  have hS_tr : σ34 tr = .inl (E.2 0, 65, .inl (fun _ => 0)) := by rw [eσ34]; exact kq_new_far hq_me hL_tr hS_tr
  have hL_tr : tr ∈ L35 := by rw [eL35]; exact List.mem_append_left _ hL_tr
  have hN_pa_me : pa ≠ me := fun h9 => hq_me (h9 ▸ hL_pa)
  have hS_pa : σ34 pa = .inl (E.2 0, 1560, .inl (fun _ => 0)) := by rw [eσ34]; exact kq_new_far hq_me hL_pa hS_pa
  have hL_pa : pa ∈ L35 := by rw [eL35]; exact List.mem_append_left _ hL_pa
  have hN_im_me : im ≠ me := fun h9 => hq_me (h9 ▸ hL_im)
  have hS_im : σ34 im = .inl (E.2 0, 130, .inl (fun _ => 0)) := by rw [eσ34]; exact kq_new_far hq_me hL_im hS_im
  have hL_im : im ∈ L35 := by rw [eL35]; exact List.mem_append_left _ hL_im
  have hN_kp_me : kp ≠ me := fun h9 => hq_me (h9 ▸ hL_kp)
  have hS_kp : σ34 kp = .inl (E.2 1, 2, .inl (fun _ => 0)) := by rw [eσ34]; exact kq_new_far hq_me hL_kp hS_kp
  have hL_kp : kp ∈ L35 := by rw [eL35]; exact List.mem_append_left _ hL_kp
  have hN_m__me : m_ ≠ me := fun h9 => hq_me (h9 ▸ hL_m_)
  have hS_m_ : σ34 m_ = .inr (8, [.ref la, .ref mn, .ref it, .ref sp, .int 0, .ref tp, .int 0, .int 0, .int 0, .int 0, .int 0, .int 0, .int 0, .ref nw, .ref dr, .ref tr, .ref pa, .int 0, .ref im, .ref kp, .null, .null, .int 0]) := by rw [eσ34]; exact kq_new_far hq_me hL_m_ hS_m_
  have hL_m_ : m_ ∈ L35 := by rw [eL35]; exact List.mem_append_left _ hL_m_
  have hS_me : σ34 me = .inl (E.2 0, 64, .inl (fun _ => 0)) := by rw [eσ34]; exact va_up_self _ _ _
  have hL_me : me ∈ L35 := by rw [eL35]; exact List.mem_append_right _ List.mem_cons_self
  have hO_me := hE.out hq_me
  have hE := hE.mk hq_me eL35 eσ34
  refine kq_putF (ci := 8) (v := .ref me) (ty := .array .int) (C := RX8) (T := TX8) (N := 23) (fs' := [.ref la, .ref mn, .ref it, .ref sp, .int 0, .ref tp, .int 0, .int 0, .int 0, .int 0, .int 0, .int 0, .int 0, .ref nw, .ref dr, .ref tr, .ref pa, .int 0, .ref im, .ref kp, .ref me, .null, .int 0]) hx hb hts fi_X8_init_X8 tyX8 tyX8_ok nmX8 hown hK hw hL_m_ hS_m_ rfl 20 (by decide) (hts (.fieldLink RX8 44 "WrongWordModel" "men" "[I") ow_X8_init_44) rfl hnm rfl (by decide +kernel) rfl rfl (Nat.le_of_ble_eq_true rfl) rfl dX8_init_99 (fun H locs σ36 eσ36 hw => ?_)
  have nhS_la : σ36 la = .inl (E.2 0, 8, .inl (fun _ => 0)) := by rw [eσ36]; exact kq_far (Ne.symm hN_m__la) hS_la
  have nhS_mn : σ36 mn = .inl (E.2 0, 8, .inl (fun _ => 0)) := by rw [eσ36]; exact kq_far (Ne.symm hN_m__mn) hS_mn
  have nhS_it : σ36 it = .inl (E.2 0, 320, .inl (fun _ => 0)) := by rw [eσ36]; exact kq_far (Ne.symm hN_m__it) hS_it
  have nhS_sp : σ36 sp = .inl (E.2 0, 40, .inl (fun _ => 0)) := by rw [eσ36]; exact kq_far (Ne.symm hN_m__sp) hS_sp
  have nhS_tp : σ36 tp = .inl (E.2 0, 100, .inl (fun _ => 0)) := by rw [eσ36]; exact kq_far (Ne.symm hN_m__tp) hS_tp
  have nhS_nw : σ36 nw = .inl (E.2 0, 65, .inl (fun _ => 0)) := by rw [eσ36]; exact kq_far (Ne.symm hN_m__nw) hS_nw
  have nhS_dr : σ36 dr = .inl (E.2 0, 65, .inl (fun _ => 0)) := by rw [eσ36]; exact kq_far (Ne.symm hN_m__dr) hS_dr
  have nhS_tr : σ36 tr = .inl (E.2 0, 65, .inl (fun _ => 0)) := by rw [eσ36]; exact kq_far (Ne.symm hN_m__tr) hS_tr
  have nhS_pa : σ36 pa = .inl (E.2 0, 1560, .inl (fun _ => 0)) := by rw [eσ36]; exact kq_far (Ne.symm hN_m__pa) hS_pa
  have nhS_im : σ36 im = .inl (E.2 0, 130, .inl (fun _ => 0)) := by rw [eσ36]; exact kq_far (Ne.symm hN_m__im) hS_im
  have nhS_kp : σ36 kp = .inl (E.2 1, 2, .inl (fun _ => 0)) := by rw [eσ36]; exact kq_far (Ne.symm hN_m__kp) hS_kp
  have nhS_me : σ36 me = .inl (E.2 0, 64, .inl (fun _ => 0)) := by rw [eσ36]; exact kq_far (Ne.symm hN_m__me) hS_me
  have nhS_m_ : σ36 m_ = .inr (8, [.ref la, .ref mn, .ref it, .ref sp, .int 0, .ref tp, .int 0, .int 0, .int 0, .int 0, .int 0, .int 0, .int 0, .ref nw, .ref dr, .ref tr, .ref pa, .int 0, .ref im, .ref kp, .ref me, .null, .int 0]) := by rw [eσ36]; exact va_up_self _ _ _
  have hS_la := nhS_la
  have hS_mn := nhS_mn
  have hS_it := nhS_it
  have hS_sp := nhS_sp
  have hS_tp := nhS_tp
  have hS_nw := nhS_nw
  have hS_dr := nhS_dr
  have hS_tr := nhS_tr
  have hS_pa := nhS_pa
  have hS_im := nhS_im
  have hS_kp := nhS_kp
  have hS_me := nhS_me
  have hS_m_ := nhS_m_
  have hE := hE.self eσ36
  refine lv_aload_n hx hb dX8_init_102 rfl (lv_at hl 0 rfl) ?_
  refine lv_bipush (v := 16) hx hb dX8_init_103 (by decide) ?_
  refine kq_newi (N' := 16) hx hb (hts (.arrayClass .int) (by decide +kernel)) hK hw (by decide) (by decide) (by decide) (Nat.le_of_ble_eq_true rfl) (Nat.le_of_ble_eq_true rfl) dX8_init_105 (fun tc H L38 σ37 hq_tc eL38 eσ37 hw => ?_)
  have hN_la_tc : la ≠ tc := fun h9 => hq_tc (h9 ▸ hL_la)
  have hS_la : σ37 la = .inl (E.2 0, 8, .inl (fun _ => 0)) := by rw [eσ37]; exact kq_new_far hq_tc hL_la hS_la
  have hL_la : la ∈ L38 := by rw [eL38]; exact List.mem_append_left _ hL_la
  have hN_mn_tc : mn ≠ tc := fun h9 => hq_tc (h9 ▸ hL_mn)
  have hS_mn : σ37 mn = .inl (E.2 0, 8, .inl (fun _ => 0)) := by rw [eσ37]; exact kq_new_far hq_tc hL_mn hS_mn
  have hL_mn : mn ∈ L38 := by rw [eL38]; exact List.mem_append_left _ hL_mn
  have hN_it_tc : it ≠ tc := fun h9 => hq_tc (h9 ▸ hL_it)
  have hS_it : σ37 it = .inl (E.2 0, 320, .inl (fun _ => 0)) := by rw [eσ37]; exact kq_new_far hq_tc hL_it hS_it
  have hL_it : it ∈ L38 := by rw [eL38]; exact List.mem_append_left _ hL_it
  have hN_sp_tc : sp ≠ tc := fun h9 => hq_tc (h9 ▸ hL_sp)
  have hS_sp : σ37 sp = .inl (E.2 0, 40, .inl (fun _ => 0)) := by rw [eσ37]; exact kq_new_far hq_tc hL_sp hS_sp
  have hL_sp : sp ∈ L38 := by rw [eL38]; exact List.mem_append_left _ hL_sp
  have hN_tp_tc : tp ≠ tc := fun h9 => hq_tc (h9 ▸ hL_tp)
  have hS_tp : σ37 tp = .inl (E.2 0, 100, .inl (fun _ => 0)) := by rw [eσ37]; exact kq_new_far hq_tc hL_tp hS_tp
  have hL_tp : tp ∈ L38 := by rw [eL38]; exact List.mem_append_left _ hL_tp
  have hN_nw_tc : nw ≠ tc := fun h9 => hq_tc (h9 ▸ hL_nw)
  have hS_nw : σ37 nw = .inl (E.2 0, 65, .inl (fun _ => 0)) := by rw [eσ37]; exact kq_new_far hq_tc hL_nw hS_nw
  have hL_nw : nw ∈ L38 := by rw [eL38]; exact List.mem_append_left _ hL_nw
  have hN_dr_tc : dr ≠ tc := fun h9 => hq_tc (h9 ▸ hL_dr)
  have hS_dr : σ37 dr = .inl (E.2 0, 65, .inl (fun _ => 0)) := by rw [eσ37]; exact kq_new_far hq_tc hL_dr hS_dr
  have hL_dr : dr ∈ L38 := by rw [eL38]; exact List.mem_append_left _ hL_dr
  have hN_tr_tc : tr ≠ tc := fun h9 => hq_tc (h9 ▸ hL_tr)
  have hS_tr : σ37 tr = .inl (E.2 0, 65, .inl (fun _ => 0)) := by rw [eσ37]; exact kq_new_far hq_tc hL_tr hS_tr
  have hL_tr : tr ∈ L38 := by rw [eL38]; exact List.mem_append_left _ hL_tr
  have hN_pa_tc : pa ≠ tc := fun h9 => hq_tc (h9 ▸ hL_pa)
  have hS_pa : σ37 pa = .inl (E.2 0, 1560, .inl (fun _ => 0)) := by rw [eσ37]; exact kq_new_far hq_tc hL_pa hS_pa
  have hL_pa : pa ∈ L38 := by rw [eL38]; exact List.mem_append_left _ hL_pa
  have hN_im_tc : im ≠ tc := fun h9 => hq_tc (h9 ▸ hL_im)
  have hS_im : σ37 im = .inl (E.2 0, 130, .inl (fun _ => 0)) := by rw [eσ37]; exact kq_new_far hq_tc hL_im hS_im
  have hL_im : im ∈ L38 := by rw [eL38]; exact List.mem_append_left _ hL_im
  have hN_kp_tc : kp ≠ tc := fun h9 => hq_tc (h9 ▸ hL_kp)
  have hS_kp : σ37 kp = .inl (E.2 1, 2, .inl (fun _ => 0)) := by rw [eσ37]; exact kq_new_far hq_tc hL_kp hS_kp
  have hL_kp : kp ∈ L38 := by rw [eL38]; exact List.mem_append_left _ hL_kp
  have hN_me_tc : me ≠ tc := fun h9 => hq_tc (h9 ▸ hL_me)
  have hS_me : σ37 me = .inl (E.2 0, 64, .inl (fun _ => 0)) := by rw [eσ37]; exact kq_new_far hq_tc hL_me hS_me
  have hL_me : me ∈ L38 := by rw [eL38]; exact List.mem_append_left _ hL_me
  have hN_m__tc : m_ ≠ tc := fun h9 => hq_tc (h9 ▸ hL_m_)
  have hS_m_ : σ37 m_ = .inr (8, [.ref la, .ref mn, .ref it, .ref sp, .int 0, .ref tp, .int 0, .int 0, .int 0, .int 0, .int 0, .int 0, .int 0, .ref nw, .ref dr, .ref tr, .ref pa, .int 0, .ref im, .ref kp, .ref me, .null, .int 0]) := by rw [eσ37]; exact kq_new_far hq_tc hL_m_ hS_m_
  have hL_m_ : m_ ∈ L38 := by rw [eL38]; exact List.mem_append_left _ hL_m_
  have hS_tc : σ37 tc = .inl (E.2 0, 16, .inl (fun _ => 0)) := by rw [eσ37]; exact va_up_self _ _ _
  have hL_tc : tc ∈ L38 := by rw [eL38]; exact List.mem_append_right _ List.mem_cons_self
  have hO_tc := hE.out hq_tc
  have hE := hE.mk hq_tc eL38 eσ37
  refine kq_putF (ci := 8) (v := .ref tc) (ty := .array .int) (C := RX8) (T := TX8) (N := 23) (fs' := [.ref la, .ref mn, .ref it, .ref sp, .int 0, .ref tp, .int 0, .int 0, .int 0, .int 0, .int 0, .int 0, .int 0, .ref nw, .ref dr, .ref tr, .ref pa, .int 0, .ref im, .ref kp, .ref me, .ref tc, .int 0]) hx hb hts fi_X8_init_X8 tyX8 tyX8_ok nmX8 hown hK hw hL_m_ hS_m_ rfl 21 (by decide) (hts (.fieldLink RX8 47 "WrongWordModel" "trace" "[I") ow_X8_init_47) rfl hnm rfl (by decide +kernel) rfl rfl (Nat.le_of_ble_eq_true rfl) rfl dX8_init_107 (fun H locs σ39 eσ39 hw => ?_)
  have nhS_la : σ39 la = .inl (E.2 0, 8, .inl (fun _ => 0)) := by rw [eσ39]; exact kq_far (Ne.symm hN_m__la) hS_la
  have nhS_mn : σ39 mn = .inl (E.2 0, 8, .inl (fun _ => 0)) := by rw [eσ39]; exact kq_far (Ne.symm hN_m__mn) hS_mn
  have nhS_it : σ39 it = .inl (E.2 0, 320, .inl (fun _ => 0)) := by rw [eσ39]; exact kq_far (Ne.symm hN_m__it) hS_it
  have nhS_sp : σ39 sp = .inl (E.2 0, 40, .inl (fun _ => 0)) := by rw [eσ39]; exact kq_far (Ne.symm hN_m__sp) hS_sp
  have nhS_tp : σ39 tp = .inl (E.2 0, 100, .inl (fun _ => 0)) := by rw [eσ39]; exact kq_far (Ne.symm hN_m__tp) hS_tp
  have nhS_nw : σ39 nw = .inl (E.2 0, 65, .inl (fun _ => 0)) := by rw [eσ39]; exact kq_far (Ne.symm hN_m__nw) hS_nw
  have nhS_dr : σ39 dr = .inl (E.2 0, 65, .inl (fun _ => 0)) := by rw [eσ39]; exact kq_far (Ne.symm hN_m__dr) hS_dr
  have nhS_tr : σ39 tr = .inl (E.2 0, 65, .inl (fun _ => 0)) := by rw [eσ39]; exact kq_far (Ne.symm hN_m__tr) hS_tr
  have nhS_pa : σ39 pa = .inl (E.2 0, 1560, .inl (fun _ => 0)) := by rw [eσ39]; exact kq_far (Ne.symm hN_m__pa) hS_pa
  have nhS_im : σ39 im = .inl (E.2 0, 130, .inl (fun _ => 0)) := by rw [eσ39]; exact kq_far (Ne.symm hN_m__im) hS_im
  have nhS_kp : σ39 kp = .inl (E.2 1, 2, .inl (fun _ => 0)) := by rw [eσ39]; exact kq_far (Ne.symm hN_m__kp) hS_kp
  have nhS_me : σ39 me = .inl (E.2 0, 64, .inl (fun _ => 0)) := by rw [eσ39]; exact kq_far (Ne.symm hN_m__me) hS_me
  have nhS_tc : σ39 tc = .inl (E.2 0, 16, .inl (fun _ => 0)) := by rw [eσ39]; exact kq_far (Ne.symm hN_m__tc) hS_tc
  have nhS_m_ : σ39 m_ = .inr (8, [.ref la, .ref mn, .ref it, .ref sp, .int 0, .ref tp, .int 0, .int 0, .int 0, .int 0, .int 0, .int 0, .int 0, .ref nw, .ref dr, .ref tr, .ref pa, .int 0, .ref im, .ref kp, .ref me, .ref tc, .int 0]) := by rw [eσ39]; exact va_up_self _ _ _
  have hS_la := nhS_la
  have hS_mn := nhS_mn
  have hS_it := nhS_it
  have hS_sp := nhS_sp
  have hS_tp := nhS_tp
  have hS_nw := nhS_nw
  have hS_dr := nhS_dr
  have hS_tr := nhS_tr
  have hS_pa := nhS_pa
  have hS_im := nhS_im
  have hS_kp := nhS_kp
  have hS_me := nhS_me
  have hS_tc := nhS_tc
  have hS_m_ := nhS_m_
  have hE := hE.self eσ39
  refine lv_iconst (v := 0) hx hb dX8_init_110 (by decide) ?_
  refine lv_istore_n (lv' := [(1, .int 0), (0, .ref m_)]) hx hb dX8_init_111 rfl hl (by decide) rfl (fun ls hl => ?_)
  refine kq_for (nL := 2) 8 (fun i Lv σv => L38 = Lv ∧ (∀ b, b ≠ la → σv b = σ39 b) ∧ ∃ f, σv la = .inl (E.2 0, 8, .inl f) ∧ ∀ j, j < i → f j = (-1000000)) (fun i => [(1, .int (nI i)), (0, .ref m_)]) 0 0 ⟨rfl, fun _ _ => rfl, _, hS_la, fun j hj => absurd hj (Nat.not_lt_zero j)⟩ hw hl (fun i Lv σv H locs ls hi hI hw hl ih => ?_) (fun Lv σv H locs ls hI hw hl => ?_)
  · skip
    have hl : lv_has ls 2 [(1, .int (nI i)), (0, .ref m_)] := hl
    obtain ⟨rfl, hfr9, f9, hS_la9, hf9⟩ := hI
    have hS_m9 : σv m_ = .inr (8, [.ref la, .ref mn, .ref it, .ref sp, .int 0, .ref tp, .int 0, .int 0, .int 0, .int 0, .int 0, .int 0, .int 0, .ref nw, .ref dr, .ref tr, .ref pa, .int 0, .ref im, .ref kp, .ref me, .ref tc, .int 0]) := (hfr9 m_ hN_m__la).trans hS_m_
    refine lv_iload_n hx hb dX8_init_112 rfl (lv_at hl 0 rfl) ?_
    refine lv_bipush (v := 8) hx hb dX8_init_113 (by decide) ?_
    refine lv_icmp_ge (tgt := 132) hx hb dX8_init_115 (by decide) (fun c40 => ?_) (fun c40 => ?_)
    · exact absurd c40 (nI_ge hi (by decide))
    refine lv_aload_n hx hb dX8_init_118 rfl (lv_at hl 1 rfl) ?_
    refine kq_get (ci := 8) (v := .ref la) (C := RX8) (T := TX8) (N := 23) hx hb hts fi_X8_init_X8 hown hK hw hL_m_ hS_m9 rfl 0 (by decide) (hts (.fieldLink RX8 7 "WrongWordModel" "lane" "[I") ow_X8_init_7) rfl dX8_init_119 ?_
    refine lv_iload_n hx hb dX8_init_122 rfl (lv_at hl 0 rfl) ?_
    refine lv_ldc (v := (-1000000)) hx hb hown (hts (.constant RX8 50 (-1000000)) ow_X8_init_50) dX8_init_123 ?_
    refine kq_iast hx hb hK hw hL_la hS_la9 (vp_in_nI hi (by decide)) dX8_init_125 (fun H locs σ41 eσ41 hw => ?_)
    have nhS_m_ : σ41 m_ = .inr (8, [.ref la, .ref mn, .ref it, .ref sp, .int 0, .ref tp, .int 0, .int 0, .int 0, .int 0, .int 0, .int 0, .int 0, .ref nw, .ref dr, .ref tr, .ref pa, .int 0, .ref im, .ref kp, .ref me, .ref tc, .int 0]) := by rw [eσ41]; exact kq_far (kq_ne hS_m9 hS_la9 kq_noa) hS_m9
    have nhS_la : σ41 la = .inl (E.2 0, 8, .inl (upd f9 (Int32.toNatClampNeg (nI i)) ((-1000000)))) := by rw [eσ41]; exact va_up_self _ _ _
    have hS_m_ := nhS_m_
    have hS_la := nhS_la
    refine lv_iinc (v := nI i + 1) (lv' := [(1, .int (nI i + 1)), (0, .ref m_)]) hx hb dX8_init_126 hl (k := 0) rfl rfl (by decide) rfl (fun ls hl => ?_)
    refine lv_goto (tgt := 112) hx hb dX8_init_129 (by decide) ?_
    have hl : lv_has ls 2 [(1, .int (nI (i + 1))), (0, .ref m_)] := by rw [nI_succ]; exact lv_sub hl [0, 1] rfl
    exact W.widen (by omega) (by omega) (ih _ _ _ _ _ ⟨rfl, fun b hb9 => by rw [eσ41, va_up_ne _ _ hb9]; exact hfr9 b hb9, _, hS_la, kq_fill (by omega) hf9⟩ hw hl)
  · skip
    have hl : lv_has ls 2 [(1, .int (nI 8)), (0, .ref m_)] := hl
    obtain ⟨rfl, hfr9, f9, hS_la9, hf9⟩ := hI
    have nS_mn : σv mn = .inl (E.2 0, 8, .inl (fun _ => 0)) := (hfr9 mn (Ne.symm hN_la_mn)).trans hS_mn
    have nS_it : σv it = .inl (E.2 0, 320, .inl (fun _ => 0)) := (hfr9 it (Ne.symm hN_la_it)).trans hS_it
    have nS_sp : σv sp = .inl (E.2 0, 40, .inl (fun _ => 0)) := (hfr9 sp (Ne.symm hN_la_sp)).trans hS_sp
    have nS_tp : σv tp = .inl (E.2 0, 100, .inl (fun _ => 0)) := (hfr9 tp (Ne.symm hN_la_tp)).trans hS_tp
    have nS_nw : σv nw = .inl (E.2 0, 65, .inl (fun _ => 0)) := (hfr9 nw (Ne.symm hN_la_nw)).trans hS_nw
    have nS_dr : σv dr = .inl (E.2 0, 65, .inl (fun _ => 0)) := (hfr9 dr (Ne.symm hN_la_dr)).trans hS_dr
    have nS_tr : σv tr = .inl (E.2 0, 65, .inl (fun _ => 0)) := (hfr9 tr (Ne.symm hN_la_tr)).trans hS_tr
    have nS_pa : σv pa = .inl (E.2 0, 1560, .inl (fun _ => 0)) := (hfr9 pa (Ne.symm hN_la_pa)).trans hS_pa
    have nS_im : σv im = .inl (E.2 0, 130, .inl (fun _ => 0)) := (hfr9 im (Ne.symm hN_la_im)).trans hS_im
    have nS_kp : σv kp = .inl (E.2 1, 2, .inl (fun _ => 0)) := (hfr9 kp (Ne.symm hN_la_kp)).trans hS_kp
    have nS_me : σv me = .inl (E.2 0, 64, .inl (fun _ => 0)) := (hfr9 me (Ne.symm hN_la_me)).trans hS_me
    have nS_tc : σv tc = .inl (E.2 0, 16, .inl (fun _ => 0)) := (hfr9 tc (Ne.symm hN_la_tc)).trans hS_tc
    have nS_m_ : σv m_ = .inr (8, [.ref la, .ref mn, .ref it, .ref sp, .int 0, .ref tp, .int 0, .int 0, .int 0, .int 0, .int 0, .int 0, .int 0, .ref nw, .ref dr, .ref tr, .ref pa, .int 0, .ref im, .ref kp, .ref me, .ref tc, .int 0]) := (hfr9 m_ hN_m__la).trans hS_m_
    have nS_la := hS_la9
    have hE := hE.frame hO_la hfr9
    refine lv_iload_n hx hb dX8_init_112 rfl (lv_at hl 0 rfl) ?_
    refine lv_bipush (v := 8) hx hb dX8_init_113 (by decide) ?_
    refine lv_icmp_ge (tgt := 132) hx hb dX8_init_115 (by decide) (fun c42 => ?_) (fun c42 => ?_)
    rotate_left
    · exact absurd (by decide) c42
    exact kq_vret hx hb hr hlocks hw (Nat.le_of_ble_eq_true rfl) (Nat.le_of_ble_eq_true rfl) dX8_init_132 ⟨hE, la, mn, it, sp, tp, nw, dr, tr, pa, im, kp, me, tc, f9, (by rw [eL38, eL35, eL32, eL29, eL26, eL23, eL20, eL17, eL14, eL11, eL8, eL5, eL2] <;> simp), nS_m_, nS_la, nS_mn, nS_it, nS_sp, nS_tp, nS_nw, nS_dr, nS_tr, nS_pa, nS_im, nS_kp, nS_me, nS_tc, hf9⟩
