/-! FRAMES: which cells a function may change -/
def pk {α : Type} (o : Option α) (P : α → Prop) : Prop := ∀ a, o = some a → P a
theorem pk_some {α : Type} {a : α} {P : α → Prop} (h : P a) : pk (some a) P := fun b e => by cases e; exact h
theorem pk_ite {α : Type} {c : Prop} {P : α → Prop} {A B : Option α} (d : Decidable c) (h1 : c → pk A P) (h2 : ¬ c → pk B P) : pk (@ite _ c d A B) P := by
  by_cases h : c
  · rw [if_pos h]; exact h1 h
  · rw [if_neg h]; exact h2 h
theorem pk_grd {α : Type} {c : Prop} {P : α → Prop} {B : Option α} (d : Decidable c) (h2 : ¬ c → pk B P) : pk (@ite _ c d none B) P :=
  pk_ite d (fun _ a e => by cases e) h2
theorem pk_bind {α β : Type} {o : Option α} {f : α → Option β} {Q : α → Prop} {P : β → Prop} (h : pk o Q) (k : ∀ a, Q a → pk (f a) P) : pk (o.bind f) P := by
  intro b e
  cases q : o with
  | none => rw [q] at e; cases e
  | some a => rw [q] at e; exact k a (h a q) b e
theorem pk_bind0 {α β : Type} {o : Option α} {f : α → Option β} {P : β → Prop} (k : ∀ a, pk (f a) P) : pk (o.bind f) P :=
  pk_bind (Q := fun _ => True) (fun _ _ => trivial) (fun a _ => k a)
theorem pk_let {α β : Type} {a : α} {f : α → Option β} {P : β → Prop} (k : ∀ x, x = a → pk (f x) P) : pk (Option.bind (some a) f) P := k a rfl
theorem pk_kb2 {β : Type} {o : Option (Int32 × Mm)} {f : Int32 → Mm → Option β} {Q : Int32 × Mm → Prop} {P : β → Prop} (h : pk o Q) (k : ∀ r v, Q (r, v) → pk (f r v) P) : pk (kb2 o f) P :=
  pk_bind h (fun z q => k z.1 z.2 q)
theorem pk.mono {α : Type} {o : Option α} {P Q : α → Prop} (h : pk o P) (k : ∀ a, P a → Q a) : pk o Q := fun a e => k a (h a e)
theorem pk.and {α : Type} {o : Option α} {P Q : α → Prop} (h : ok o P) (k : pk o Q) : ok o (fun z => P z ∧ Q z) := by
  obtain ⟨a, e, p⟩ := h
  exact ⟨a, e, p, k a e⟩
def ckey (t j : Nat) : Nat := if t = 0 then 100 + j else if t = 30 then 200 + j else if t = 4 then 300 + j else if t = 15 then 400 + j else t
def FR (S : List Nat) (v w : Mm) : Prop := ∀ t i j, S.contains (ckey t j) = false → w t i j = v t i j
theorem FR.refl (S : List Nat) (v : Mm) : FR S v v := fun _ _ _ _ => rfl
theorem FR.upf {S : List Nat} {v w : Mm} {t i j : Nat} {x : Int32} (h : FR S v w) (hm : S.contains (ckey t j) = true) : FR S v (up3 w t i j x) := by
  intro t2 i2 j2 h2
  unfold up3
  split
  · rename_i q
    obtain ⟨rfl, rfl, rfl⟩ := q
    rw [hm] at h2; cases h2
  · exact h t2 i2 j2 h2
theorem ckey_a {t j : Nat} (ht : t ≠ 0 ∧ t ≠ 30 ∧ t ≠ 4 ∧ t ≠ 15) : ckey t j = t := by
  unfold ckey
  rw [if_neg ht.1, if_neg ht.2.1, if_neg ht.2.2.1, if_neg ht.2.2.2]
theorem FR.upa {S : List Nat} {v w : Mm} {t i j : Nat} {x : Int32} (h : FR S v w) (ht : t ≠ 0 ∧ t ≠ 30 ∧ t ≠ 4 ∧ t ≠ 15) (hm : S.contains t = true) : FR S v (up3 w t i j x) :=
  h.upf (by rw [ckey_a ht]; exact hm)
theorem FR.cpy {S : List Nat} {v w : Mm} {t1 i1 sp t i dp n : Nat} (h : FR S v w) (ht : t ≠ 0 ∧ t ≠ 30 ∧ t ≠ 4 ∧ t ≠ 15) (hm : S.contains t = true) : FR S v (cpy3 w t1 i1 sp t i dp n) := by
  intro t2 i2 j2 h2
  have q : ¬ (t2 = t ∧ i2 = i) := by
    rintro ⟨rfl, rfl⟩
    rw [ckey_a ht, hm] at h2; cases h2
  unfold cpy3 row3
  rw [if_neg q]
  exact h t2 i2 j2 h2
theorem FR.tr {S S2 : List Nat} {v w z : Mm} (h : FR S v w) (h2 : FR S2 w z) (hs : (S2.all fun x => S.contains x) = true) : FR S v z := by
  intro t i j q
  rw [h2 t i j ?_]
  · exact h t i j q
  · cases q2 : S2.contains (ckey t j) with
    | false => rfl
    | true =>
      have := List.all_eq_true.mp hs _ (List.contains_iff_mem.mp q2)
      rw [q] at this; cases this
theorem FR.sub {S S2 : List Nat} {v w : Mm} (h : FR S v w) (hs : (S.all fun x => S2.contains x) = true) : FR S2 v w := (FR.refl S2 v).tr h hs
set_option maxHeartbeats 4000000 in
theorem f_X0_forget (v : Mm)  : pk (g_X0_forget v ) (fun z => FR [402] v z) := by
  have hF_v : FR [402] v v := FR.refl _ v
  unfold g_X0_forget
  refine pk_let (fun v1 ev1 => ?_)
  have hF_v1 : FR [402] v v1 := by rw [ev1]; exact hF_v.upf (by decide)
  exact pk_some hF_v1
set_option maxHeartbeats 4000000 in
theorem f_X4_become (v : Mm) (i0 : Nat) (i1 : Nat) : pk (g_X4_become v i0 i1) (fun z => FR [10, 11, 12, 13, 14] v z) := by
  have hF_v : FR [10, 11, 12, 13, 14] v v := FR.refl _ v
  unfold g_X4_become
  refine pk_let (fun v1 ev1 => ?_)
  have hF_v1 : FR [10, 11, 12, 13, 14] v v1 := by rw [ev1]; exact hF_v.upa (by decide) (by decide)
  refine pk_let (fun v2 ev2 => ?_)
  have hF_v2 : FR [10, 11, 12, 13, 14] v v2 := by rw [ev2]; exact hF_v1.upa (by decide) (by decide)
  refine pk_let (fun v3 ev3 => ?_)
  have hF_v3 : FR [10, 11, 12, 13, 14] v v3 := by rw [ev3]; exact hF_v2.upa (by decide) (by decide)
  refine pk_let (fun v4 ev4 => ?_)
  have hF_v4 : FR [10, 11, 12, 13, 14] v v4 := by rw [ev4]; exact hF_v3.upa (by decide) (by decide)
  refine pk_let (fun v5 ev5 => ?_)
  have hF_v5 : FR [10, 11, 12, 13, 14] v v5 := by rw [ev5]; exact hF_v4.cpy (by decide) (by decide)
  refine pk_let (fun v6 ev6 => ?_)
  have hF_v6 : FR [10, 11, 12, 13, 14] v v6 := by rw [ev6]; exact hF_v5.cpy (by decide) (by decide)
  refine pk_let (fun v7 ev7 => ?_)
  have hF_v7 : FR [10, 11, 12, 13, 14] v v7 := by rw [ev7]; exact hF_v6.cpy (by decide) (by decide)
  refine pk_let (fun v8 ev8 => ?_)
  have hF_v8 : FR [10, 11, 12, 13, 14] v v8 := by rw [ev8]; exact hF_v7.cpy (by decide) (by decide)
  exact pk_some hF_v8
set_option maxHeartbeats 4000000 in
theorem f_X0_keep (v : Mm) (i1 : Nat) : pk (g_X0_keep v i1) (fun z => FR [10, 11, 12, 13, 14, 401, 402] v z) := by
  have hF_v : FR [10, 11, 12, 13, 14, 401, 402] v v := FR.refl _ v
  unfold g_X0_keep
  refine pk_grd _ (fun _ => ?_)
  refine pk_bind (f_X4_become v (4 + (Int32.toNatClampNeg (v 15 0 1))) i1) (fun v4 hv4 => ?_)
  have hF_v4 := hF_v.tr hv4 (by decide)
  refine pk_ite _ (fun c5 => ?_) (fun c5 => ?_)
  · skip
    refine pk_let (fun v6 ev6 => ?_)
    have hF_v6 : FR [10, 11, 12, 13, 14, 401, 402] v v6 := by rw [ev6]; exact hF_v4.upf (by decide)
    refine pk_let (fun x7 ex7 => ?_)
    refine pk_let (fun v8 ev8 => ?_)
    have hF_v8 : FR [10, 11, 12, 13, 14, 401, 402] v v8 := by rw [ev8]; exact hF_v6.upf (by decide)
    exact pk_some hF_v8
  · skip
    refine pk_let (fun v9 ev9 => ?_)
    have hF_v9 : FR [10, 11, 12, 13, 14, 401, 402] v v9 := by rw [ev9]; exact hF_v4.upf (by decide)
    refine pk_let (fun x10 ex10 => ?_)
    refine pk_let (fun v11 ev11 => ?_)
    have hF_v11 : FR [10, 11, 12, 13, 14, 401, 402] v v11 := by rw [ev11]; exact hF_v9.upf (by decide)
    exact pk_some hF_v11
set_option maxHeartbeats 4000000 in
theorem f_X0_takeBack (v : Mm) (i1 : Nat) : pk (g_X0_takeBack v i1) (fun z => FR [10, 11, 12, 13, 14, 401, 402] v z.2) := by
  have hF_v : FR [10, 11, 12, 13, 14, 401, 402] v v := FR.refl _ v
  unfold g_X0_takeBack
  refine pk_ite _ (fun c1 => ?_) (fun c1 => ?_)
  · skip
    exact pk_some hF_v
  · skip
    refine pk_ite _ (fun c2 => ?_) (fun c2 => ?_)
    · skip
      refine pk_let (fun v3 ev3 => ?_)
      have hF_v3 : FR [10, 11, 12, 13, 14, 401, 402] v v3 := by rw [ev3]; exact hF_v.upf (by decide)
      refine pk_let (fun v4 ev4 => ?_)
      have hF_v4 : FR [10, 11, 12, 13, 14, 401, 402] v v4 := by rw [ev4]; exact hF_v3.upf (by decide)
      refine pk_grd _ (fun _ => ?_)
      refine pk_bind (f_X4_become v4 i1 (4 + (Int32.toNatClampNeg (v4 15 0 1)))) (fun v8 hv8 => ?_)
      have hF_v8 := hF_v4.tr hv8 (by decide)
      exact pk_some hF_v8
    · skip
      refine pk_let (fun v9 ev9 => ?_)
      have hF_v9 : FR [10, 11, 12, 13, 14, 401, 402] v v9 := by rw [ev9]; exact hF_v.upf (by decide)
      refine pk_let (fun v10 ev10 => ?_)
      have hF_v10 : FR [10, 11, 12, 13, 14, 401, 402] v v10 := by rw [ev10]; exact hF_v9.upf (by decide)
      refine pk_grd _ (fun _ => ?_)
      refine pk_bind (f_X4_become v10 i1 (4 + (Int32.toNatClampNeg (v10 15 0 1)))) (fun v14 hv14 => ?_)
      have hF_v14 := hF_v10.tr hv14 (by decide)
      exact pk_some hF_v14
set_option maxHeartbeats 4000000 in
theorem f_X1_turnTo (v : Mm) (a1 : Int32) (a2 : Int32) (a3 : Int32) (a4 : Int32) : pk (g_X1_turnTo v a1 a2 a3 a4) (fun z => FR [21] v z) := by
  have hF_v : FR [21] v v := FR.refl _ v
  unfold g_X1_turnTo
  refine pk_let (fun v1 ev1 => ?_)
  have hF_v1 : FR [21] v v1 := by rw [ev1]; exact hF_v.upa (by decide) (by decide)
  refine pk_let (fun v2 ev2 => ?_)
  have hF_v2 : FR [21] v v2 := by rw [ev2]; exact hF_v1.upa (by decide) (by decide)
  refine pk_let (fun v3 ev3 => ?_)
  have hF_v3 : FR [21] v v3 := by rw [ev3]; exact hF_v2.upa (by decide) (by decide)
  refine pk_let (fun v4 ev4 => ?_)
  have hF_v4 : FR [21] v v4 := by rw [ev4]; exact hF_v3.upa (by decide) (by decide)
  refine pk_let (fun v5 ev5 => ?_)
  have hF_v5 : FR [21] v v5 := by rw [ev5]; exact hF_v4.upa (by decide) (by decide)
  exact pk_some hF_v5
set_option maxHeartbeats 4000000 in
theorem f_X1_leave (v : Mm) (a1 : Int32) : pk (g_X1_leave v a1) (fun z => FR [21, 22] v z) := by
  have hF_v : FR [21, 22] v v := FR.refl _ v
  unfold g_X1_leave
  refine pk_ite _ (fun c1 => ?_) (fun c1 => ?_)
  · skip
    exact pk_some hF_v
  · skip
    refine pk_grd _ (fun _ => ?_)
    refine pk_let (fun v3 ev3 => ?_)
    have hF_v3 : FR [21, 22] v v3 := by rw [ev3]; exact hF_v.upa (by decide) (by decide)
    refine pk_let (fun v4 ev4 => ?_)
    have hF_v4 : FR [21, 22] v v4 := by rw [ev4]; exact hF_v3.upa (by decide) (by decide)
    exact pk_some hF_v4
theorem f_X1_given : ∀ (n : Nat) (v : Mm) (a1 a2 : Int32), pk (g_X1_given n v a1 a2) (fun z => FR [21, 22] v z.2) := by
  intro n
  induction n with
  | zero => intro v a1 a2 b e; cases e
  | succ n ih =>
    intro v a1 a2
    show pk (b_X1_given (g_X1_given n) v a1 a2) _
    unfold b_X1_given
    have hF_v : FR [21, 22] v v := FR.refl _ v
    refine pk_ite _ (fun _ => ?_) (fun _ => pk_some hF_v)
    refine pk_bind (f_X1_leave v a1) (fun v4 h4 => ?_)
    have h4 := hF_v.tr h4 (by decide)
    refine pk_ite _ (fun _ => ?_) (fun _ => ?_)
    · exact pk_some h4
    refine pk_ite _ (fun _ => ?_) (fun _ => ?_)
    · exact pk_kb2 ((ih v4 10 _).mono (fun z q => h4.tr q (by decide))) (fun r w q => pk_bind0 (fun r1 => pk_kb2 ((ih w r1 _).mono (fun z q2 => FR.tr q q2 (by decide))) (fun r w q => pk_some q)))
    refine pk_ite _ (fun _ => ?_) (fun _ => ?_)
    · exact pk_kb2 ((ih v4 11 _).mono (fun z q => h4.tr q (by decide))) (fun r w q => pk_some q)
    refine pk_ite _ (fun _ => ?_) (fun _ => ?_)
    · exact pk_kb2 ((ih v4 10 _).mono (fun z q => h4.tr q (by decide))) (fun r w q => pk_some q)
    refine pk_ite _ (fun _ => ?_) (fun _ => ?_)
    · exact pk_kb2 ((ih v4 13 _).mono (fun z q => h4.tr q (by decide))) (fun r w q => pk_some q)
    refine pk_ite _ (fun _ => ?_) (fun _ => ?_)
    · exact pk_some h4
    refine pk_ite _ (fun _ => ?_) (fun _ => ?_)
    · exact pk_some h4
    refine pk_ite _ (fun _ => ?_) (fun _ => ?_)
    · exact pk_some h4
    refine pk_ite _ (fun _ => ?_) (fun _ => ?_)
    · exact pk_some h4
    refine pk_ite _ (fun _ => ?_) (fun _ => ?_)
    · exact pk_some h4
    refine pk_ite _ (fun _ => ?_) (fun _ => ?_)
    · exact pk_some h4
    refine pk_ite _ (fun _ => ?_) (fun _ => ?_)
    · exact pk_kb2 ((ih v4 20 _).mono (fun z q => h4.tr q (by decide))) (fun r w q => pk_some q)
    refine pk_ite _ (fun _ => ?_) (fun _ => ?_)
    · exact pk_kb2 ((ih v4 21 _).mono (fun z q => h4.tr q (by decide))) (fun r w q => pk_some q)
    refine pk_ite _ (fun _ => ?_) (fun _ => ?_)
    · exact pk_kb2 ((ih v4 20 _).mono (fun z q => h4.tr q (by decide))) (fun r w q => pk_bind0 (fun r1 => pk_kb2 ((ih w r1 _).mono (fun z q2 => FR.tr q q2 (by decide))) (fun r w q => pk_some q)))
    refine pk_ite _ (fun _ => ?_) (fun _ => ?_)
    · exact pk_kb2 ((ih v4 21 _).mono (fun z q => h4.tr q (by decide))) (fun r w q => pk_some q)
    exact pk_some h4
set_option maxHeartbeats 4000000 in
theorem f_X1_answer (v : Mm) (a1 : Int32) : pk (g_X1_answer v a1) (fun z => FR [21, 22] v z.2) := by
  have hF_v : FR [21, 22] v v := FR.refl _ v
  unfold g_X1_answer
  refine pk_ite _ (fun c1 => ?_) (fun c1 => ?_)
  · skip
    refine pk_bind0 (fun r3 => ?_)
    refine pk_kb2 (f_X1_given 30 v r3 0) (fun r6 v7 hv7 => ?_)
    have hF_v7 := hF_v.tr hv7 (by decide)
    exact pk_some hF_v7
  · skip
    refine pk_bind0 (fun r9 => ?_)
    refine pk_kb2 (f_X1_given 30 v r9 0) (fun r12 v13 hv13 => ?_)
    have hF_v13 := hF_v.tr hv13 (by decide)
    exact pk_some hF_v13
set_option maxHeartbeats 4000000 in
theorem f_X2_become (v : Mm) (i0 : Nat) (i1 : Nat) : pk (g_X2_become v i0 i1) (fun z => FR [6, 7, 8, 9, 10, 11, 12, 13, 14] v z) := by
  have hF_v : FR [6, 7, 8, 9, 10, 11, 12, 13, 14] v v := FR.refl _ v
  unfold g_X2_become
  refine pk_let (fun v1 ev1 => ?_)
  have hF_v1 : FR [6, 7, 8, 9, 10, 11, 12, 13, 14] v v1 := by rw [ev1]; exact hF_v.cpy (by decide) (by decide)
  refine pk_let (fun v2 ev2 => ?_)
  have hF_v2 : FR [6, 7, 8, 9, 10, 11, 12, 13, 14] v v2 := by rw [ev2]; exact hF_v1.cpy (by decide) (by decide)
  refine pk_let (fun v3 ev3 => ?_)
  have hF_v3 : FR [6, 7, 8, 9, 10, 11, 12, 13, 14] v v3 := by rw [ev3]; exact hF_v2.cpy (by decide) (by decide)
  refine pk_bind (f_X4_become v3 i0 i1) (fun v6 hv6 => ?_)
  have hF_v6 := hF_v3.tr hv6 (by decide)
  refine pk_let (fun v7 ev7 => ?_)
  have hF_v7 : FR [6, 7, 8, 9, 10, 11, 12, 13, 14] v v7 := by rw [ev7]; exact hF_v6.upa (by decide) (by decide)
  refine pk_let (fun v8 ev8 => ?_)
  have hF_v8 : FR [6, 7, 8, 9, 10, 11, 12, 13, 14] v v8 := by rw [ev8]; exact hF_v7.upa (by decide) (by decide)
  refine pk_let (fun v9 ev9 => ?_)
  have hF_v9 : FR [6, 7, 8, 9, 10, 11, 12, 13, 14] v v9 := by rw [ev9]; exact hF_v8.upa (by decide) (by decide)
  refine pk_let (fun v10 ev10 => ?_)
  have hF_v10 : FR [6, 7, 8, 9, 10, 11, 12, 13, 14] v v10 := by rw [ev10]; exact hF_v9.upa (by decide) (by decide)
  exact pk_some hF_v10
set_option maxHeartbeats 4000000 in
theorem f_X3_fewestMen (v : Mm) (i1 : Nat) (a2 : Int32) : pk (g_X3_fewestMen v i1 a2) (fun z => FR [19, 20] v z.2) := by
  have hF_v : FR [19, 20] v v := FR.refl _ v
  have loop47 : ∀ (n47 : Nat) (w47 : Mm) (x3_47 : Int32) (x4_47 : Int32), FR [19, 20] v w47 → pk (g_X3_fewestMen_L47  i1 a2 n47 w47 x3_47 x4_47) (fun z => FR [19, 20] v z.2) := by
    intro n47
    induction n47 with
    | zero => intro w47 x3_47 x4_47 hF_w47 b9 e9; cases e9
    | succ n47 ih47 =>
      intro w47 x3_47 x4_47 hF_w47
      show pk (b_X3_fewestMen_L47  (g_X3_fewestMen_L47  i1 a2 n47) i1 a2 w47 x3_47 x4_47) _
      unfold b_X3_fewestMen_L47
      refine pk_ite _ (fun c1 => ?_) (fun c1 => ?_)
      · skip
        refine pk_grd _ (fun _ => ?_)
        refine pk_ite _ (fun c3 => ?_) (fun c3 => ?_)
        · skip
          exact pk_some hF_w47
        · skip
          refine pk_grd _ (fun _ => ?_)
          exact pk_some hF_w47
      · skip
        refine pk_bind0 (fun r6 => ?_)
        refine pk_ite _ (fun c8 => ?_) (fun c8 => ?_)
        · skip
          refine pk_bind0 (fun r10 => ?_)
          refine pk_grd _ (fun _ => ?_)
          refine pk_let (fun v13 ev13 => ?_)
          have hF_v13 : FR [19, 20] v v13 := by rw [ev13]; exact hF_w47.upa (by decide) (by decide)
          exact ih47 v13 x3_47 (x4_47 + 1) hF_v13
        · skip
          refine pk_grd _ (fun _ => ?_)
          refine pk_let (fun v15 ev15 => ?_)
          have hF_v15 : FR [19, 20] v v15 := by rw [ev15]; exact hF_w47.upa (by decide) (by decide)
          exact ih47 v15 x3_47 (x4_47 + 1) hF_v15
  have loop11 : ∀ (n11 : Nat) (w11 : Mm) (x3_11 : Int32) (x4_11 : Int32), FR [19, 20] v w11 → pk (g_X3_fewestMen_L11  i1 a2 n11 w11 x3_11 x4_11) (fun z => FR [19, 20] v z.2) := by
    intro n11
    induction n11 with
    | zero => intro w11 x3_11 x4_11 hF_w11 b9 e9; cases e9
    | succ n11 ih11 =>
      intro w11 x3_11 x4_11 hF_w11
      show pk (b_X3_fewestMen_L11  (g_X3_fewestMen_L11  i1 a2 n11) i1 a2 w11 x3_11 x4_11) _
      unfold b_X3_fewestMen_L11
      refine pk_ite _ (fun c16 => ?_) (fun c16 => ?_)
      · skip
        exact loop47 2000 w11 x3_11 0 hF_w11
      · skip
        refine pk_bind0 (fun r18 => ?_)
        refine pk_grd _ (fun _ => ?_)
        refine pk_let (fun v21 ev21 => ?_)
        have hF_v21 : FR [19, 20] v v21 := by rw [ev21]; exact hF_w11.upa (by decide) (by decide)
        exact ih11 v21 x3_11 (x4_11 + 1) hF_v21
  unfold g_X3_fewestMen
  exact loop11 2000 v ((v 6 i1 6) * 6) 0 hF_v
set_option maxHeartbeats 4000000 in
theorem f_X4_begin (v : Mm) (i0 : Nat) (a1 : Int32) : pk (g_X4_begin v i0 a1) (fun z => FR [10, 11] v z) := by
  have hF_v : FR [10, 11] v v := FR.refl _ v
  have loop21 : ∀ (n21 : Nat) (w21 : Mm) (x2_21 : Int32), FR [10, 11] v w21 → pk (g_X4_begin_L21  i0 a1 n21 w21 x2_21) (fun z => FR [10, 11] v z) := by
    intro n21
    induction n21 with
    | zero => intro w21 x2_21 hF_w21 b9 e9; cases e9
    | succ n21 ih21 =>
      intro w21 x2_21 hF_w21
      show pk (b_X4_begin_L21  (g_X4_begin_L21  i0 a1 n21) i0 a1 w21 x2_21) _
      unfold b_X4_begin_L21
      refine pk_ite _ (fun c1 => ?_) (fun c1 => ?_)
      · skip
        exact pk_some hF_w21
      · skip
        refine pk_grd _ (fun _ => ?_)
        refine pk_let (fun v3 ev3 => ?_)
        have hF_v3 : FR [10, 11] v v3 := by rw [ev3]; exact hF_w21.upa (by decide) (by decide)
        exact ih21 v3 (x2_21 + 1) hF_v3
  unfold g_X4_begin
  refine pk_let (fun v4 ev4 => ?_)
  have hF_v4 : FR [10, 11] v v4 := by rw [ev4]; exact hF_v.upa (by decide) (by decide)
  refine pk_let (fun v5 ev5 => ?_)
  have hF_v5 : FR [10, 11] v v5 := by rw [ev5]; exact hF_v4.upa (by decide) (by decide)
  refine pk_let (fun v6 ev6 => ?_)
  have hF_v6 : FR [10, 11] v v6 := by rw [ev6]; exact hF_v5.upa (by decide) (by decide)
  exact loop21 2000 v6 0 hF_v6
set_option maxHeartbeats 4000000 in
theorem f_X4_goBy (v : Mm) (i0 : Nat) : pk (g_X4_goBy v i0) (fun z => FR [10] v z) := by
  have hF_v : FR [10] v v := FR.refl _ v
  unfold g_X4_goBy
  refine pk_let (fun v1 ev1 => ?_)
  have hF_v1 : FR [10] v v1 := by rw [ev1]; exact hF_v.upa (by decide) (by decide)
  refine pk_let (fun v2 ev2 => ?_)
  have hF_v2 : FR [10] v v2 := by rw [ev2]; exact hF_v1.upa (by decide) (by decide)
  exact pk_some hF_v2
set_option maxHeartbeats 4000000 in
theorem f_X4_addTry (v : Mm) (i0 : Nat) (a1 : Int32) (a2 : Int32) (a3 : Int32) : pk (g_X4_addTry v i0 a1 a2 a3) (fun z => FR [10, 11, 12, 13, 14] v z) := by
  have hF_v : FR [10, 11, 12, 13, 14] v v := FR.refl _ v
  unfold g_X4_addTry
  refine pk_ite _ (fun c1 => ?_) (fun c1 => ?_)
  · skip
    refine pk_grd _ (fun _ => ?_)
    refine pk_let (fun v3 ev3 => ?_)
    have hF_v3 : FR [10, 11, 12, 13, 14] v v3 := by rw [ev3]; exact hF_v.upa (by decide) (by decide)
    refine pk_grd _ (fun _ => ?_)
    refine pk_let (fun v5 ev5 => ?_)
    have hF_v5 : FR [10, 11, 12, 13, 14] v v5 := by rw [ev5]; exact hF_v3.upa (by decide) (by decide)
    refine pk_bind0 (fun r7 => ?_)
    refine pk_grd _ (fun _ => ?_)
    refine pk_let (fun v10 ev10 => ?_)
    have hF_v10 : FR [10, 11, 12, 13, 14] v v10 := by rw [ev10]; exact hF_v5.upa (by decide) (by decide)
    refine pk_let (fun v11 ev11 => ?_)
    have hF_v11 : FR [10, 11, 12, 13, 14] v v11 := by rw [ev11]; exact hF_v10.upa (by decide) (by decide)
    refine pk_ite _ (fun c12 => ?_) (fun c12 => ?_)
    · skip
      exact pk_some hF_v11
    · skip
      refine pk_ite _ (fun c13 => ?_) (fun c13 => ?_)
      · skip
        exact pk_some hF_v11
      · skip
        refine pk_ite _ (fun c14 => ?_) (fun c14 => ?_)
        · skip
          exact pk_some hF_v11
        · skip
          refine pk_grd _ (fun _ => ?_)
          refine pk_grd _ (fun _ => ?_)
          refine pk_let (fun v17 ev17 => ?_)
          have hF_v17 : FR [10, 11, 12, 13, 14] v v17 := by rw [ev17]; exact hF_v11.upa (by decide) (by decide)
          exact pk_some hF_v17
  · skip
    exact pk_some hF_v
set_option maxHeartbeats 4000000 in
theorem f_X5_make (v : Mm) (i0 : Nat) (a1 : Int32) (a2 : Int32) : pk (g_X5_make v i0 a1 a2) (fun z => FR [2, 3] v z) := by
  have hF_v : FR [2, 3] v v := FR.refl _ v
  have loop12 : ∀ (n12 : Nat) (w12 : Mm) (x3_12 : Int32), FR [2, 3] v w12 → pk (g_X5_make_L12  i0 a1 a2 n12 w12 x3_12) (fun z => FR [2, 3] v z) := by
    intro n12
    induction n12 with
    | zero => intro w12 x3_12 hF_w12 b9 e9; cases e9
    | succ n12 ih12 =>
      intro w12 x3_12 hF_w12
      show pk (b_X5_make_L12  (g_X5_make_L12  i0 a1 a2 n12) i0 a1 a2 w12 x3_12) _
      unfold b_X5_make_L12
      refine pk_ite _ (fun c1 => ?_) (fun c1 => ?_)
      · skip
        exact pk_some hF_w12
      · skip
        refine pk_grd _ (fun _ => ?_)
        refine pk_let (fun v3 ev3 => ?_)
        have hF_v3 : FR [2, 3] v v3 := by rw [ev3]; exact hF_w12.upa (by decide) (by decide)
        exact ih12 v3 (x3_12 + 1) hF_v3
  unfold g_X5_make
  refine pk_let (fun v4 ev4 => ?_)
  have hF_v4 : FR [2, 3] v v4 := by rw [ev4]; exact hF_v.upa (by decide) (by decide)
  refine pk_let (fun v5 ev5 => ?_)
  have hF_v5 : FR [2, 3] v v5 := by rw [ev5]; exact hF_v4.upa (by decide) (by decide)
  exact loop12 2000 v5 0 hF_v5
set_option maxHeartbeats 4000000 in
theorem f_X5_put (v : Mm) (i0 : Nat) (a1 : Int32) (a2 : Int32) : pk (g_X5_put v i0 a1 a2) (fun z => FR [3] v z.2) := by
  have hF_v : FR [3] v v := FR.refl _ v
  unfold g_X5_put
  refine pk_ite _ (fun c1 => ?_) (fun c1 => ?_)
  · skip
    refine pk_grd _ (fun _ => ?_)
    refine pk_let (fun v3 ev3 => ?_)
    have hF_v3 : FR [3] v v3 := by rw [ev3]; exact hF_v.upa (by decide) (by decide)
    refine pk_grd _ (fun _ => ?_)
    exact pk_some hF_v3
  · skip
    refine pk_ite _ (fun c5 => ?_) (fun c5 => ?_)
    · skip
      refine pk_grd _ (fun _ => ?_)
      refine pk_let (fun v7 ev7 => ?_)
      have hF_v7 : FR [3] v v7 := by rw [ev7]; exact hF_v.upa (by decide) (by decide)
      refine pk_grd _ (fun _ => ?_)
      exact pk_some hF_v7
    · skip
      refine pk_grd _ (fun _ => ?_)
      refine pk_let (fun v10 ev10 => ?_)
      have hF_v10 : FR [3] v v10 := by rw [ev10]; exact hF_v.upa (by decide) (by decide)
      refine pk_grd _ (fun _ => ?_)
      exact pk_some hF_v10
set_option maxHeartbeats 4000000 in
theorem f_X6_append (v : Mm) (a1 : Int32) : pk (g_X6_append v a1) (fun z => FR [5, 302] v z.2) := by
  have hF_v : FR [5, 302] v v := FR.refl _ v
  unfold g_X6_append
  refine pk_ite _ (fun c1 => ?_) (fun c1 => ?_)
  · skip
    refine pk_grd _ (fun _ => ?_)
    refine pk_let (fun v3 ev3 => ?_)
    have hF_v3 : FR [5, 302] v v3 := by rw [ev3]; exact hF_v.upa (by decide) (by decide)
    refine pk_let (fun v4 ev4 => ?_)
    have hF_v4 : FR [5, 302] v v4 := by rw [ev4]; exact hF_v3.upf (by decide)
    exact pk_some hF_v4
  · skip
    exact pk_some hF_v
set_option maxHeartbeats 4000000 in
theorem f_X6_faulty (v : Mm) (a1 : Int32) : pk (g_X6_faulty v a1) (fun z => FR [303, 304] v z.2) := by
  have hF_v : FR [303, 304] v v := FR.refl _ v
  unfold g_X6_faulty
  refine pk_let (fun v1 ev1 => ?_)
  have hF_v1 : FR [303, 304] v v1 := by rw [ev1]; exact hF_v.upf (by decide)
  refine pk_let (fun v2 ev2 => ?_)
  have hF_v2 : FR [303, 304] v v2 := by rw [ev2]; exact hF_v1.upf (by decide)
  exact pk_some hF_v2
set_option maxHeartbeats 4000000 in
theorem f_X6_readSign (v : Mm) (a1 : Int32) : pk (g_X6_readSign v a1) (fun z => FR [303, 304, 305] v z.2) := by
  have hF_v : FR [303, 304, 305] v v := FR.refl _ v
  unfold g_X6_readSign
  refine pk_bind0 (fun r2 => ?_)
  refine pk_ite _ (fun c4 => ?_) (fun c4 => ?_)
  · skip
    refine pk_let (fun v5 ev5 => ?_)
    have hF_v5 : FR [303, 304, 305] v v5 := by rw [ev5]; exact hF_v.upf (by decide)
    exact pk_some hF_v5
  · skip
    refine pk_kb2 (f_X6_faulty v 1) (fun r7 v8 hv8 => ?_)
    have hF_v8 := hF_v.tr hv8 (by decide)
    exact pk_some hF_v8
set_option maxHeartbeats 4000000 in
theorem f_X6_readNumber (v : Mm) (a1 : Int32) : pk (g_X6_readNumber v a1) (fun z => FR [303, 304, 305, 306] v z.2) := by
  have hF_v : FR [303, 304, 305, 306] v v := FR.refl _ v
  have loop12 : ∀ (n12 : Nat) (w12 : Mm) (x2_12 : Int32) (x3_12 : Int32), FR [303, 304, 305, 306] v w12 → pk (g_X6_readNumber_L12  a1 n12 w12 x2_12 x3_12) (fun z => FR [303, 304, 305, 306] v z.2) := by
    intro n12
    induction n12 with
    | zero => intro w12 x2_12 x3_12 hF_w12 b9 e9; cases e9
    | succ n12 ih12 =>
      intro w12 x2_12 x3_12 hF_w12
      show pk (b_X6_readNumber_L12  (g_X6_readNumber_L12  a1 n12) a1 w12 x2_12 x3_12) _
      unfold b_X6_readNumber_L12
      refine pk_ite _ (fun c1 => ?_) (fun c1 => ?_)
      · skip
        refine pk_ite _ (fun c2 => ?_) (fun c2 => ?_)
        · skip
          refine pk_kb2 (f_X6_faulty w12 1) (fun r4 v5 hv5 => ?_)
          have hF_v5 := hF_w12.tr hv5 (by decide)
          exact pk_some hF_v5
        · skip
          refine pk_ite _ (fun c6 => ?_) (fun c6 => ?_)
          · skip
            refine pk_ite _ (fun c7 => ?_) (fun c7 => ?_)
            · skip
              refine pk_let (fun v8 ev8 => ?_)
              have hF_v8 : FR [303, 304, 305, 306] v v8 := by rw [ev8]; exact hF_w12.upf (by decide)
              exact pk_some hF_v8
            · skip
              refine pk_kb2 (f_X6_faulty w12 2) (fun r10 v11 hv11 => ?_)
              have hF_v11 := hF_w12.tr hv11 (by decide)
              exact pk_some hF_v11
          · skip
            refine pk_kb2 (f_X6_faulty w12 1) (fun r13 v14 hv14 => ?_)
            have hF_v14 := hF_w12.tr hv14 (by decide)
            exact pk_some hF_v14
      · skip
        refine pk_ite _ (fun c15 => ?_) (fun c15 => ?_)
        · skip
          refine pk_ite _ (fun c16 => ?_) (fun c16 => ?_)
          · skip
            refine pk_kb2 (f_X6_faulty w12 1) (fun r18 v19 hv19 => ?_)
            have hF_v19 := hF_w12.tr hv19 (by decide)
            exact pk_some hF_v19
          · skip
            refine pk_ite _ (fun c20 => ?_) (fun c20 => ?_)
            · skip
              refine pk_ite _ (fun c21 => ?_) (fun c21 => ?_)
              · skip
                refine pk_let (fun v22 ev22 => ?_)
                have hF_v22 : FR [303, 304, 305, 306] v v22 := by rw [ev22]; exact hF_w12.upf (by decide)
                exact pk_some hF_v22
              · skip
                refine pk_kb2 (f_X6_faulty w12 2) (fun r24 v25 hv25 => ?_)
                have hF_v25 := hF_w12.tr hv25 (by decide)
                exact pk_some hF_v25
            · skip
              refine pk_kb2 (f_X6_faulty w12 1) (fun r27 v28 hv28 => ?_)
              have hF_v28 := hF_w12.tr hv28 (by decide)
              exact pk_some hF_v28
        · skip
          refine pk_grd _ (fun _ => ?_)
          refine pk_bind0 (fun r31 => ?_)
          refine pk_ite _ (fun c33 => ?_) (fun c33 => ?_)
          · skip
            refine pk_ite _ (fun c34 => ?_) (fun c34 => ?_)
            · skip
              refine pk_kb2 (f_X6_faulty w12 1) (fun r36 v37 hv37 => ?_)
              have hF_v37 := hF_w12.tr hv37 (by decide)
              exact pk_some hF_v37
            · skip
              refine pk_ite _ (fun c38 => ?_) (fun c38 => ?_)
              · skip
                refine pk_ite _ (fun c39 => ?_) (fun c39 => ?_)
                · skip
                  refine pk_let (fun v40 ev40 => ?_)
                  have hF_v40 : FR [303, 304, 305, 306] v v40 := by rw [ev40]; exact hF_w12.upf (by decide)
                  exact pk_some hF_v40
                · skip
                  refine pk_kb2 (f_X6_faulty w12 2) (fun r42 v43 hv43 => ?_)
                  have hF_v43 := hF_w12.tr hv43 (by decide)
                  exact pk_some hF_v43
              · skip
                refine pk_kb2 (f_X6_faulty w12 1) (fun r45 v46 hv46 => ?_)
                have hF_v46 := hF_w12.tr hv46 (by decide)
                exact pk_some hF_v46
          · skip
            refine pk_grd _ (fun _ => ?_)
            refine pk_let (fun v48 ev48 => ?_)
            have hF_v48 : FR [303, 304, 305, 306] v v48 := by rw [ev48]; exact hF_w12.upf (by decide)
            exact ih12 v48 (x2_12 + 1) (x3_12 + 1) hF_v48
  unfold g_X6_readNumber
  refine pk_let (fun v49 ev49 => ?_)
  have hF_v49 : FR [303, 304, 305, 306] v v49 := by rw [ev49]; exact hF_v.upf (by decide)
  exact loop12 2000 v49 0 (v49 4 0 5) hF_v49
set_option maxHeartbeats 4000000 in
theorem f_X6_readLaw (v : Mm)  : pk (g_X6_readLaw v ) (fun z => FR [6, 10, 303, 304, 305, 306] v z.2) := by
  have hF_v : FR [6, 10, 303, 304, 305, 306] v v := FR.refl _ v
  unfold g_X6_readLaw
  refine pk_kb2 (f_X6_readSign v 113) (fun r2 v3 hv3 => ?_)
  have hF_v3 := hF_v.tr hv3 (by decide)
  refine pk_ite _ (fun c4 => ?_) (fun c4 => ?_)
  · skip
    exact pk_some hF_v3
  · skip
    refine pk_kb2 (f_X6_readNumber v3 9) (fun r6 v7 hv7 => ?_)
    have hF_v7 := hF_v3.tr hv7 (by decide)
    refine pk_ite _ (fun c8 => ?_) (fun c8 => ?_)
    · skip
      exact pk_some hF_v7
    · skip
      refine pk_let (fun v9 ev9 => ?_)
      have hF_v9 : FR [6, 10, 303, 304, 305, 306] v v9 := by rw [ev9]; exact hF_v7.upa (by decide) (by decide)
      refine pk_kb2 (f_X6_readSign v9 44) (fun r11 v12 hv12 => ?_)
      have hF_v12 := hF_v9.tr hv12 (by decide)
      refine pk_ite _ (fun c13 => ?_) (fun c13 => ?_)
      · skip
        exact pk_some hF_v12
      · skip
        refine pk_kb2 (f_X6_readNumber v12 9) (fun r15 v16 hv16 => ?_)
        have hF_v16 := hF_v12.tr hv16 (by decide)
        refine pk_ite _ (fun c17 => ?_) (fun c17 => ?_)
        · skip
          exact pk_some hF_v16
        · skip
          refine pk_let (fun v18 ev18 => ?_)
          have hF_v18 : FR [6, 10, 303, 304, 305, 306] v v18 := by rw [ev18]; exact hF_v16.upa (by decide) (by decide)
          refine pk_kb2 (f_X6_readSign v18 44) (fun r20 v21 hv21 => ?_)
          have hF_v21 := hF_v18.tr hv21 (by decide)
          refine pk_ite _ (fun c22 => ?_) (fun c22 => ?_)
          · skip
            exact pk_some hF_v21
          · skip
            refine pk_kb2 (f_X6_readNumber v21 6) (fun r24 v25 hv25 => ?_)
            have hF_v25 := hF_v21.tr hv25 (by decide)
            refine pk_ite _ (fun c26 => ?_) (fun c26 => ?_)
            · skip
              exact pk_some hF_v25
            · skip
              refine pk_let (fun v27 ev27 => ?_)
              have hF_v27 : FR [6, 10, 303, 304, 305, 306] v v27 := by rw [ev27]; exact hF_v25.upa (by decide) (by decide)
              refine pk_kb2 (f_X6_readSign v27 59) (fun r29 v30 hv30 => ?_)
              have hF_v30 := hF_v27.tr hv30 (by decide)
              exact pk_some hF_v30
set_option maxHeartbeats 4000000 in
theorem f_X6_readWord (v : Mm)  : pk (g_X6_readWord v ) (fun z => FR [6, 7, 303, 304, 305] v z.2) := by
  have hF_v : FR [6, 7, 303, 304, 305] v v := FR.refl _ v
  have loop40 : ∀ (n40 : Nat) (w40 : Mm) (x1_40 : Int32), FR [6, 7, 303, 304, 305] v w40 → pk (g_X6_readWord_L40   n40 w40 x1_40) (fun z => FR [6, 7, 303, 304, 305] v z.2) := by
    intro n40
    induction n40 with
    | zero => intro w40 x1_40 hF_w40 b9 e9; cases e9
    | succ n40 ih40 =>
      intro w40 x1_40 hF_w40
      show pk (b_X6_readWord_L40  (g_X6_readWord_L40   n40)  w40 x1_40) _
      unfold b_X6_readWord_L40
      refine pk_ite _ (fun c1 => ?_) (fun c1 => ?_)
      · skip
        refine pk_let (fun v2 ev2 => ?_)
        have hF_v2 : FR [6, 7, 303, 304, 305] v v2 := by rw [ev2]; exact hF_w40.upa (by decide) (by decide)
        refine pk_kb2 (f_X6_readSign v2 59) (fun r4 v5 hv5 => ?_)
        have hF_v5 := hF_v2.tr hv5 (by decide)
        exact pk_some hF_v5
      · skip
        refine pk_bind0 (fun r7 => ?_)
        refine pk_ite _ (fun c9 => ?_) (fun c9 => ?_)
        · skip
          refine pk_kb2 (f_X6_faulty w40 1) (fun r11 v12 hv12 => ?_)
          have hF_v12 := hF_w40.tr hv12 (by decide)
          exact pk_some hF_v12
        · skip
          refine pk_ite _ (fun c13 => ?_) (fun c13 => ?_)
          · skip
            refine pk_grd _ (fun _ => ?_)
            refine pk_let (fun v15 ev15 => ?_)
            have hF_v15 : FR [6, 7, 303, 304, 305] v v15 := by rw [ev15]; exact hF_w40.upa (by decide) (by decide)
            refine pk_ite _ (fun c16 => ?_) (fun c16 => ?_)
            · skip
              refine pk_bind0 (fun r18 => ?_)
              refine pk_ite _ (fun c20 => ?_) (fun c20 => ?_)
              · skip
                refine pk_let (fun v21 ev21 => ?_)
                have hF_v21 : FR [6, 7, 303, 304, 305] v v21 := by rw [ev21]; exact hF_v15.upf (by decide)
                exact ih40 v21 (x1_40 + 1) hF_v21
              · skip
                refine pk_kb2 (f_X6_faulty v15 2) (fun r23 v24 hv24 => ?_)
                have hF_v24 := hF_v15.tr hv24 (by decide)
                exact pk_some hF_v24
            · skip
              refine pk_let (fun v25 ev25 => ?_)
              have hF_v25 : FR [6, 7, 303, 304, 305] v v25 := by rw [ev25]; exact hF_v15.upf (by decide)
              exact ih40 v25 (x1_40 + 1) hF_v25
          · skip
            refine pk_kb2 (f_X6_faulty w40 1) (fun r27 v28 hv28 => ?_)
            have hF_v28 := hF_w40.tr hv28 (by decide)
            exact pk_some hF_v28
  unfold g_X6_readWord
  refine pk_bind0 (fun r30 => ?_)
  refine pk_ite _ (fun c32 => ?_) (fun c32 => ?_)
  · skip
    refine pk_ite _ (fun c33 => ?_) (fun c33 => ?_)
    · skip
      refine pk_kb2 (f_X6_readSign v 119) (fun r35 v36 hv36 => ?_)
      have hF_v36 := hF_v.tr hv36 (by decide)
      refine pk_ite _ (fun c37 => ?_) (fun c37 => ?_)
      · skip
        exact pk_some hF_v36
      · skip
        exact loop40 2000 v36 0 hF_v36
    · skip
      refine pk_kb2 (f_X6_faulty v 3) (fun r39 v40 hv40 => ?_)
      have hF_v40 := hF_v.tr hv40 (by decide)
      exact pk_some hF_v40
  · skip
    refine pk_kb2 (f_X6_readSign v 119) (fun r42 v43 hv43 => ?_)
    have hF_v43 := hF_v.tr hv43 (by decide)
    refine pk_ite _ (fun c44 => ?_) (fun c44 => ?_)
    · skip
      exact pk_some hF_v43
    · skip
      exact loop40 2000 v43 0 hF_v43
set_option maxHeartbeats 4000000 in
theorem f_X6_readGuard (v : Mm)  : pk (g_X6_readGuard v ) (fun z => FR [6, 8, 9, 303, 304, 305, 306] v z.2) := by
  have hF_v : FR [6, 8, 9, 303, 304, 305, 306] v v := FR.refl _ v
  unfold g_X6_readGuard
  refine pk_bind0 (fun r2 => ?_)
  refine pk_bind0 (fun r5 => ?_)
  refine pk_ite _ (fun c7 => ?_) (fun c7 => ?_)
  · skip
    refine pk_kb2 (f_X6_faulty v 1) (fun r9 v10 hv10 => ?_)
    have hF_v10 := hF_v.tr hv10 (by decide)
    exact pk_some hF_v10
  · skip
    refine pk_ite _ (fun c11 => ?_) (fun c11 => ?_)
    · skip
      refine pk_let (fun v12 ev12 => ?_)
      have hF_v12 : FR [6, 8, 9, 303, 304, 305, 306] v v12 := by rw [ev12]; exact hF_v.upf (by decide)
      refine pk_kb2 (f_X6_readNumber v12 9) (fun r14 v15 hv15 => ?_)
      have hF_v15 := hF_v12.tr hv15 (by decide)
      refine pk_ite _ (fun c16 => ?_) (fun c16 => ?_)
      · skip
        exact pk_some hF_v15
      · skip
        refine pk_grd _ (fun _ => ?_)
        refine pk_let (fun v18 ev18 => ?_)
        have hF_v18 : FR [6, 8, 9, 303, 304, 305, 306] v v18 := by rw [ev18]; exact hF_v15.upa (by decide) (by decide)
        refine pk_grd _ (fun _ => ?_)
        refine pk_let (fun v20 ev20 => ?_)
        have hF_v20 : FR [6, 8, 9, 303, 304, 305, 306] v v20 := by rw [ev20]; exact hF_v18.upa (by decide) (by decide)
        refine pk_let (fun v21 ev21 => ?_)
        have hF_v21 : FR [6, 8, 9, 303, 304, 305, 306] v v21 := by rw [ev21]; exact hF_v20.upa (by decide) (by decide)
        refine pk_kb2 (f_X6_readSign v21 59) (fun r23 v24 hv24 => ?_)
        have hF_v24 := hF_v21.tr hv24 (by decide)
        exact pk_some hF_v24
    · skip
      refine pk_kb2 (f_X6_faulty v 3) (fun r26 v27 hv27 => ?_)
      have hF_v27 := hF_v.tr hv27 (by decide)
      exact pk_some hF_v27
set_option maxHeartbeats 4000000 in
theorem f_X6_read (v : Mm)  : pk (g_X6_read v ) (fun z => FR [6, 7, 8, 9, 10, 11, 303, 304, 305, 306] v z.2) := by
  have hF_v : FR [6, 7, 8, 9, 10, 11, 303, 304, 305, 306] v v := FR.refl _ v
  have loop80 : ∀ (n80 : Nat) (w80 : Mm) (x1_80 : Int32), FR [6, 7, 8, 9, 10, 11, 303, 304, 305, 306] v w80 → pk (g_X6_read_L80   n80 w80 x1_80) (fun z => FR [6, 7, 8, 9, 10, 11, 303, 304, 305, 306] v z.2) := by
    intro n80
    induction n80 with
    | zero => intro w80 x1_80 hF_w80 b9 e9; cases e9
    | succ n80 ih80 =>
      intro w80 x1_80 hF_w80
      show pk (b_X6_read_L80  (g_X6_read_L80   n80)  w80 x1_80) _
      unfold b_X6_read_L80
      refine pk_ite _ (fun c1 => ?_) (fun c1 => ?_)
      · skip
        refine pk_bind (f_X4_begin w80 1 (w80 6 1 7)) (fun v4 hv4 => ?_)
        have hF_v4 := hF_w80.tr hv4 (by decide)
        exact pk_some hF_v4
      · skip
        refine pk_bind0 (fun r6 => ?_)
        refine pk_ite _ (fun c8 => ?_) (fun c8 => ?_)
        · skip
          refine pk_bind (f_X4_begin w80 1 (w80 6 1 7)) (fun v11 hv11 => ?_)
          have hF_v11 := hF_w80.tr hv11 (by decide)
          exact pk_some hF_v11
        · skip
          refine pk_kb2 (f_X6_readGuard w80 ) (fun r13 v14 hv14 => ?_)
          have hF_v14 := hF_w80.tr hv14 (by decide)
          refine pk_ite _ (fun c15 => ?_) (fun c15 => ?_)
          · skip
            exact pk_some hF_v14
          · skip
            exact ih80 v14 (x1_80 + 1) hF_v14
  have loop39 : ∀ (n39 : Nat) (w39 : Mm) (x1_39 : Int32), FR [6, 7, 8, 9, 10, 11, 303, 304, 305, 306] v w39 → pk (g_X6_read_L39   n39 w39 x1_39) (fun z => FR [6, 7, 8, 9, 10, 11, 303, 304, 305, 306] v z.2) := by
    intro n39
    induction n39 with
    | zero => intro w39 x1_39 hF_w39 b9 e9; cases e9
    | succ n39 ih39 =>
      intro w39 x1_39 hF_w39
      show pk (b_X6_read_L39  (g_X6_read_L39   n39)  w39 x1_39) _
      unfold b_X6_read_L39
      refine pk_ite _ (fun c16 => ?_) (fun c16 => ?_)
      · skip
        refine pk_kb2 (f_X6_readGuard w39 ) (fun r18 v19 hv19 => ?_)
        have hF_v19 := hF_w39.tr hv19 (by decide)
        refine pk_ite _ (fun c20 => ?_) (fun c20 => ?_)
        · skip
          exact pk_some hF_v19
        · skip
          exact loop80 2000 v19 0 hF_v19
      · skip
        refine pk_bind0 (fun r22 => ?_)
        refine pk_ite _ (fun c24 => ?_) (fun c24 => ?_)
        · skip
          refine pk_kb2 (f_X6_readWord w39 ) (fun r26 v27 hv27 => ?_)
          have hF_v27 := hF_w39.tr hv27 (by decide)
          refine pk_ite _ (fun c28 => ?_) (fun c28 => ?_)
          · skip
            exact pk_some hF_v27
          · skip
            exact ih39 v27 (x1_39 + 1) hF_v27
        · skip
          refine pk_kb2 (f_X6_readGuard w39 ) (fun r30 v31 hv31 => ?_)
          have hF_v31 := hF_w39.tr hv31 (by decide)
          refine pk_ite _ (fun c32 => ?_) (fun c32 => ?_)
          · skip
            exact pk_some hF_v31
          · skip
            exact loop80 2000 v31 0 hF_v31
  unfold g_X6_read
  refine pk_let (fun v33 ev33 => ?_)
  have hF_v33 : FR [6, 7, 8, 9, 10, 11, 303, 304, 305, 306] v v33 := by rw [ev33]; exact hF_v.upf (by decide)
  refine pk_let (fun v34 ev34 => ?_)
  have hF_v34 : FR [6, 7, 8, 9, 10, 11, 303, 304, 305, 306] v v34 := by rw [ev34]; exact hF_v33.upa (by decide) (by decide)
  refine pk_let (fun v35 ev35 => ?_)
  have hF_v35 : FR [6, 7, 8, 9, 10, 11, 303, 304, 305, 306] v v35 := by rw [ev35]; exact hF_v34.upa (by decide) (by decide)
  refine pk_kb2 (f_X6_readLaw v35 ) (fun r37 v38 hv38 => ?_)
  have hF_v38 := hF_v35.tr hv38 (by decide)
  refine pk_ite _ (fun c39 => ?_) (fun c39 => ?_)
  · skip
    exact pk_some hF_v38
  · skip
    refine pk_kb2 (f_X6_readWord v38 ) (fun r41 v42 hv42 => ?_)
    have hF_v42 := hF_v38.tr hv42 (by decide)
    refine pk_ite _ (fun c43 => ?_) (fun c43 => ?_)
    · skip
      exact pk_some hF_v42
    · skip
      exact loop39 2000 v42 0 hF_v42
set_option maxHeartbeats 4000000 in
theorem f_X7_found (v : Mm) (a1 : Int32) : pk (g_X7_found v a1) (fun z => FR [108] v z.2) := by
  have hF_v : FR [108] v v := FR.refl _ v
  unfold g_X7_found
  refine pk_let (fun v1 ev1 => ?_)
  have hF_v1 : FR [108] v v1 := by rw [ev1]; exact hF_v.upf (by decide)
  exact pk_some hF_v1
set_option maxHeartbeats 4000000 in
theorem f_X7_unfound (v : Mm) (a1 : Int32) : pk (g_X7_unfound v a1) (fun z => FR [108] v z.2) := by
  have hF_v : FR [108] v v := FR.refl _ v
  unfold g_X7_unfound
  refine pk_let (fun v1 ev1 => ?_)
  have hF_v1 : FR [108] v v1 := by rw [ev1]; exact hF_v.upf (by decide)
  exact pk_some hF_v1
set_option maxHeartbeats 4000000 in
theorem f_X7_row (v : Mm) (a1 : Int32) (a2 : Int32) (a3 : Int32) : pk (g_X7_row v a1 a2 a3) (fun z => FR [2, 3, 108] v z.2) := by
  have hF_v : FR [2, 3, 108] v v := FR.refl _ v
  unfold g_X7_row
  refine pk_bind0 (fun r2 => ?_)
  refine pk_ite _ (fun c4 => ?_) (fun c4 => ?_)
  · skip
    exact pk_some hF_v
  · skip
    refine pk_ite _ (fun c5 => ?_) (fun c5 => ?_)
    · skip
      exact pk_some hF_v
    · skip
      refine pk_ite _ (fun c6 => ?_) (fun c6 => ?_)
      · skip
        exact pk_some hF_v
      · skip
        refine pk_ite _ (fun c7 => ?_) (fun c7 => ?_)
        · skip
          refine pk_ite _ (fun c8 => ?_) (fun c8 => ?_)
          · skip
            refine pk_grd _ (fun _ => ?_)
            refine pk_bind (f_X5_make v (Int32.toNatClampNeg a1) a2 a3) (fun v12 hv12 => ?_)
            have hF_v12 := hF_v.tr hv12 (by decide)
            refine pk_kb2 (f_X7_unfound v12 a3) (fun r14 v15 hv15 => ?_)
            have hF_v15 := hF_v12.tr hv15 (by decide)
            exact pk_some hF_v15
          · skip
            refine pk_kb2 (f_X7_found v 4) (fun r17 v18 hv18 => ?_)
            have hF_v18 := hF_v.tr hv18 (by decide)
            exact pk_some hF_v18
        · skip
          exact pk_some hF_v
set_option maxHeartbeats 4000000 in
theorem f_X7_set (v : Mm) (a1 : Int32) (a2 : Int32) (a3 : Int32) : pk (g_X7_set v a1 a2 a3) (fun z => FR [3, 108] v z.2) := by
  have hF_v : FR [3, 108] v v := FR.refl _ v
  unfold g_X7_set
  refine pk_bind0 (fun r2 => ?_)
  refine pk_ite _ (fun c4 => ?_) (fun c4 => ?_)
  · skip
    exact pk_some hF_v
  · skip
    refine pk_grd _ (fun _ => ?_)
    refine pk_bind0 (fun r7 => ?_)
    refine pk_ite _ (fun c9 => ?_) (fun c9 => ?_)
    · skip
      refine pk_grd _ (fun _ => ?_)
      refine pk_kb2 (f_X5_put v (Int32.toNatClampNeg a1) a2 a3) (fun r12 v13 hv13 => ?_)
      have hF_v13 := hF_v.tr hv13 (by decide)
      refine pk_kb2 (f_X7_unfound v13 r12) (fun r15 v16 hv16 => ?_)
      have hF_v16 := hF_v13.tr hv16 (by decide)
      exact pk_some hF_v16
    · skip
      refine pk_kb2 (f_X7_found v r7) (fun r18 v19 hv19 => ?_)
      have hF_v19 := hF_v.tr hv19 (by decide)
      exact pk_some hF_v19
set_option maxHeartbeats 4000000 in
theorem f_X7_copy (v : Mm) (a1 : Int32) (a2 : Int32) (a3 : Int32) (a4 : Int32) (a5 : Int32) : pk (g_X7_copy v a1 a2 a3 a4 a5) (fun z => FR [3, 108] v z.2) := by
  have hF_v : FR [3, 108] v v := FR.refl _ v
  unfold g_X7_copy
  refine pk_bind0 (fun r2 => ?_)
  refine pk_ite _ (fun c4 => ?_) (fun c4 => ?_)
  · skip
    exact pk_some hF_v
  · skip
    refine pk_bind0 (fun r6 => ?_)
    refine pk_ite _ (fun c8 => ?_) (fun c8 => ?_)
    · skip
      exact pk_some hF_v
    · skip
      refine pk_grd _ (fun _ => ?_)
      refine pk_grd _ (fun _ => ?_)
      refine pk_ite _ (fun c11 => ?_) (fun c11 => ?_)
      · skip
        refine pk_kb2 (f_X7_found v 1) (fun r13 v14 hv14 => ?_)
        have hF_v14 := hF_v.tr hv14 (by decide)
        exact pk_some hF_v14
      · skip
        refine pk_ite _ (fun c15 => ?_) (fun c15 => ?_)
        · skip
          refine pk_kb2 (f_X7_found v 1) (fun r17 v18 hv18 => ?_)
          have hF_v18 := hF_v.tr hv18 (by decide)
          exact pk_some hF_v18
        · skip
          refine pk_ite _ (fun c19 => ?_) (fun c19 => ?_)
          · skip
            refine pk_bind0 (fun r21 => ?_)
            refine pk_ite _ (fun c23 => ?_) (fun c23 => ?_)
            · skip
              refine pk_kb2 (f_X7_found v 2) (fun r25 v26 hv26 => ?_)
              have hF_v26 := hF_v.tr hv26 (by decide)
              exact pk_some hF_v26
            · skip
              refine pk_bind0 (fun r28 => ?_)
              refine pk_ite _ (fun c30 => ?_) (fun c30 => ?_)
              · skip
                refine pk_kb2 (f_X7_found v 2) (fun r32 v33 hv33 => ?_)
                have hF_v33 := hF_v.tr hv33 (by decide)
                exact pk_some hF_v33
              · skip
                refine pk_grd _ (fun _ => ?_)
                refine pk_let (fun v35 ev35 => ?_)
                have hF_v35 : FR [3, 108] v v35 := by rw [ev35]; exact hF_v.cpy (by decide) (by decide)
                refine pk_kb2 (f_X7_unfound v35 a5) (fun r37 v38 hv38 => ?_)
                have hF_v38 := hF_v35.tr hv38 (by decide)
                exact pk_some hF_v38
          · skip
            refine pk_kb2 (f_X7_found v 5) (fun r40 v41 hv41 => ?_)
            have hF_v41 := hF_v.tr hv41 (by decide)
            exact pk_some hF_v41
set_option maxHeartbeats 4000000 in
theorem f_X7_drop (v : Mm) (a1 : Int32) : pk (g_X7_drop v a1) (fun z => FR [2, 108] v z.2) := by
  have hF_v : FR [2, 108] v v := FR.refl _ v
  unfold g_X7_drop
  refine pk_bind0 (fun r2 => ?_)
  refine pk_ite _ (fun c4 => ?_) (fun c4 => ?_)
  · skip
    exact pk_some hF_v
  · skip
    refine pk_grd _ (fun _ => ?_)
    refine pk_ite _ (fun c6 => ?_) (fun c6 => ?_)
    · skip
      refine pk_kb2 (f_X7_found v 1) (fun r8 v9 hv9 => ?_)
      have hF_v9 := hF_v.tr hv9 (by decide)
      exact pk_some hF_v9
    · skip
      refine pk_grd _ (fun _ => ?_)
      refine pk_let (fun v11 ev11 => ?_)
      have hF_v11 : FR [2, 108] v v11 := by rw [ev11]; exact hF_v.upa (by decide) (by decide)
      refine pk_grd _ (fun _ => ?_)
      refine pk_kb2 (f_X7_unfound v11 (v11 2 ((Int32.toNatClampNeg a1)) 2)) (fun r14 v15 hv15 => ?_)
      have hF_v15 := hF_v11.tr hv15 (by decide)
      exact pk_some hF_v15
set_option maxHeartbeats 4000000 in
theorem f_X7_feed (v : Mm) (a1 : Int32) : pk (g_X7_feed v a1) (fun z => FR [5, 302] v z.2) := by
  have hF_v : FR [5, 302] v v := FR.refl _ v
  unfold g_X7_feed
  refine pk_ite _ (fun c1 => ?_) (fun c1 => ?_)
  · skip
    exact pk_some hF_v
  · skip
    refine pk_ite _ (fun c2 => ?_) (fun c2 => ?_)
    · skip
      refine pk_kb2 (f_X6_append v a1) (fun r4 v5 hv5 => ?_)
      have hF_v5 := hF_v.tr hv5 (by decide)
      refine pk_ite _ (fun c6 => ?_) (fun c6 => ?_)
      · skip
        exact pk_some hF_v5
      · skip
        exact pk_some hF_v5
    · skip
      exact pk_some hF_v
set_option maxHeartbeats 4000000 in
theorem f_X7_gate (v : Mm)  : pk (g_X7_gate v ) (fun z => FR [6, 7, 8, 9, 10, 11, 12, 13, 14, 107, 302, 303, 304, 305, 306, 402] v z.2) := by
  have hF_v : FR [6, 7, 8, 9, 10, 11, 12, 13, 14, 107, 302, 303, 304, 305, 306, 402] v v := FR.refl _ v
  unfold g_X7_gate
  refine pk_kb2 (f_X6_read v ) (fun r2 v3 hv3 => ?_)
  have hF_v3 := hF_v.tr hv3 (by decide)
  refine pk_let (fun v4 ev4 => ?_)
  have hF_v4 : FR [6, 7, 8, 9, 10, 11, 12, 13, 14, 107, 302, 303, 304, 305, 306, 402] v v4 := by rw [ev4]; exact hF_v3.upf (by decide)
  refine pk_ite _ (fun c5 => ?_) (fun c5 => ?_)
  · skip
    refine pk_let (fun v6 ev6 => ?_)
    have hF_v6 : FR [6, 7, 8, 9, 10, 11, 12, 13, 14, 107, 302, 303, 304, 305, 306, 402] v v6 := by rw [ev6]; exact hF_v4.upf (by decide)
    exact pk_some hF_v6
  · skip
    refine pk_bind (f_X2_become v4 0 1) (fun v9 hv9 => ?_)
    have hF_v9 := hF_v4.tr hv9 (by decide)
    refine pk_bind (f_X0_forget v9 ) (fun v12 hv12 => ?_)
    have hF_v12 := hF_v9.tr hv12 (by decide)
    exact pk_some hF_v12
set_option maxHeartbeats 4000000 in
theorem f_X7_nights (v : Mm) (a1 : Int32) : pk (g_X7_nights v a1) (fun z => FR [10, 11, 12, 13, 14, 401, 402] v z.2) := by
  have hF_v : FR [10, 11, 12, 13, 14, 401, 402] v v := FR.refl _ v
  have loop47 : ∀ (n47 : Nat) (w47 : Mm) (x2_47 : Int32), FR [10, 11, 12, 13, 14, 401, 402] v w47 → pk (g_X7_nights_L47  a1 n47 w47 x2_47) (fun z => FR [10, 11, 12, 13, 14, 401, 402] v z.2) := by
    intro n47
    induction n47 with
    | zero => intro w47 x2_47 hF_w47 b9 e9; cases e9
    | succ n47 ih47 =>
      intro w47 x2_47 hF_w47
      show pk (b_X7_nights_L47  (g_X7_nights_L47  a1 n47) a1 w47 x2_47) _
      unfold b_X7_nights_L47
      refine pk_ite _ (fun c1 => ?_) (fun c1 => ?_)
      · skip
        refine pk_bind0 (fun r3 => ?_)
        exact pk_some hF_w47
      · skip
        refine pk_bind (f_X0_keep w47 0) (fun v7 hv7 => ?_)
        have hF_v7 := hF_w47.tr hv7 (by decide)
        refine pk_bind (f_X4_goBy v7 0) (fun v10 hv10 => ?_)
        have hF_v10 := hF_v7.tr hv10 (by decide)
        exact ih47 v10 (x2_47 + 1) hF_v10
  unfold g_X7_nights
  refine pk_bind0 (fun r12 => ?_)
  refine pk_ite _ (fun c14 => ?_) (fun c14 => ?_)
  · skip
    refine pk_ite _ (fun c15 => ?_) (fun c15 => ?_)
    · skip
      exact pk_some hF_v
    · skip
      refine pk_ite _ (fun c16 => ?_) (fun c16 => ?_)
      · skip
        refine pk_ite _ (fun c17 => ?_) (fun c17 => ?_)
        · skip
          exact loop47 2000 v 0 hF_v
        · skip
          exact pk_some hF_v
      · skip
        exact pk_some hF_v
  · skip
    exact pk_some hF_v
set_option maxHeartbeats 4000000 in
theorem f_X7_say (v : Mm) (a1 : Int32) (a2 : Int32) : pk (g_X7_say v a1 a2) (fun z => FR [10, 11, 12, 13, 14, 401, 402] v z.2) := by
  have hF_v : FR [10, 11, 12, 13, 14, 401, 402] v v := FR.refl _ v
  unfold g_X7_say
  refine pk_bind0 (fun r2 => ?_)
  refine pk_ite _ (fun c4 => ?_) (fun c4 => ?_)
  · skip
    exact pk_some hF_v
  · skip
    refine pk_bind0 (fun r6 => ?_)
    refine pk_ite _ (fun c8 => ?_) (fun c8 => ?_)
    · skip
      exact pk_some hF_v
    · skip
      refine pk_ite _ (fun c9 => ?_) (fun c9 => ?_)
      · skip
        refine pk_bind0 (fun r11 => ?_)
        refine pk_bind0 (fun r14 => ?_)
        refine pk_bind (f_X0_keep v 0) (fun v18 hv18 => ?_)
        have hF_v18 := hF_v.tr hv18 (by decide)
        refine pk_bind0 (fun r20 => ?_)
        refine pk_ite _ (fun c22 => ?_) (fun c22 => ?_)
        · skip
          refine pk_bind (f_X4_addTry v18 0 a1 (-1000000) r14) (fun v25 hv25 => ?_)
          have hF_v25 := hF_v18.tr hv25 (by decide)
          refine pk_bind0 (fun r27 => ?_)
          exact pk_some hF_v25
        · skip
          refine pk_bind (f_X4_addTry v18 0 a1 r11 r14) (fun v31 hv31 => ?_)
          have hF_v31 := hF_v18.tr hv31 (by decide)
          refine pk_bind0 (fun r33 => ?_)
          exact pk_some hF_v31
      · skip
        exact pk_some hF_v
set_option maxHeartbeats 4000000 in
theorem f_X7_start (v : Mm) (a1 : Int32) : pk (g_X7_start v a1) (fun z => FR [10, 11, 12, 13, 14, 401, 402] v z.2) := by
  have hF_v : FR [10, 11, 12, 13, 14, 401, 402] v v := FR.refl _ v
  unfold g_X7_start
  refine pk_bind0 (fun r2 => ?_)
  refine pk_ite _ (fun c4 => ?_) (fun c4 => ?_)
  · skip
    refine pk_ite _ (fun c5 => ?_) (fun c5 => ?_)
    · skip
      exact pk_some hF_v
    · skip
      refine pk_ite _ (fun c6 => ?_) (fun c6 => ?_)
      · skip
        refine pk_bind (f_X0_keep v 0) (fun v9 hv9 => ?_)
        have hF_v9 := hF_v.tr hv9 (by decide)
        refine pk_let (fun v10 ev10 => ?_)
        have hF_v10 : FR [10, 11, 12, 13, 14, 401, 402] v v10 := by rw [ev10]; exact hF_v9.upa (by decide) (by decide)
        exact pk_some hF_v10
      · skip
        exact pk_some hF_v
  · skip
    exact pk_some hF_v
set_option maxHeartbeats 4000000 in
theorem f_X7_dismiss (v : Mm) (a1 : Int32) (a2 : Int32) : pk (g_X7_dismiss v a1 a2) (fun z => FR [10, 11, 12, 13, 14, 401, 402] v z.2) := by
  have hF_v : FR [10, 11, 12, 13, 14, 401, 402] v v := FR.refl _ v
  unfold g_X7_dismiss
  refine pk_bind0 (fun r2 => ?_)
  refine pk_ite _ (fun c4 => ?_) (fun c4 => ?_)
  · skip
    exact pk_some hF_v
  · skip
    refine pk_ite _ (fun c5 => ?_) (fun c5 => ?_)
    · skip
      exact pk_some hF_v
    · skip
      refine pk_ite _ (fun c6 => ?_) (fun c6 => ?_)
      · skip
        refine pk_bind0 (fun r8 => ?_)
        refine pk_bind0 (fun r11 => ?_)
        refine pk_ite _ (fun c13 => ?_) (fun c13 => ?_)
        · skip
          exact pk_some hF_v
        · skip
          refine pk_bind (f_X0_keep v 0) (fun v16 hv16 => ?_)
          have hF_v16 := hF_v.tr hv16 (by decide)
          refine pk_let (fun v17 ev17 => ?_)
          have hF_v17 : FR [10, 11, 12, 13, 14, 401, 402] v v17 := by rw [ev17]; exact hF_v16.upa (by decide) (by decide)
          exact pk_some hF_v17
      · skip
        exact pk_some hF_v
set_option maxHeartbeats 4000000 in
theorem f_X7_undo (v : Mm)  : pk (g_X7_undo v ) (fun z => FR [10, 11, 12, 13, 14, 401, 402] v z.2) := by
  have hF_v : FR [10, 11, 12, 13, 14, 401, 402] v v := FR.refl _ v
  unfold g_X7_undo
  refine pk_kb2 (f_X0_takeBack v 0) (fun r2 v3 hv3 => ?_)
  have hF_v3 := hF_v.tr hv3 (by decide)
  refine pk_ite _ (fun c4 => ?_) (fun c4 => ?_)
  · skip
    exact pk_some hF_v3
  · skip
    exact pk_some hF_v3
set_option maxHeartbeats 4000000 in
theorem f_X7_fewest (v : Mm)  : pk (g_X7_fewest v ) (fun z => FR [19, 20] v z.2) := by
  have hF_v : FR [19, 20] v v := FR.refl _ v
  unfold g_X7_fewest
  refine pk_bind0 (fun r2 => ?_)
  refine pk_ite _ (fun c4 => ?_) (fun c4 => ?_)
  · skip
    refine pk_bind0 (fun r6 => ?_)
    refine pk_kb2 (f_X3_fewestMen v 0 r6) (fun r9 v10 hv10 => ?_)
    have hF_v10 := hF_v.tr hv10 (by decide)
    exact pk_some hF_v10
  · skip
    exact pk_some hF_v
set_option maxHeartbeats 4000000 in
theorem f_X7_march (v : Mm) (a1 : Int32) (a2 : Int32) (a3 : Int32) (a4 : Int32) : pk (g_X7_march v a1 a2 a3 a4) (fun z => FR [108] v z.2) := by
  have hF_v : FR [108] v v := FR.refl _ v
  unfold g_X7_march
  refine pk_bind0 (fun r2 => ?_)
  refine pk_ite _ (fun c4 => ?_) (fun c4 => ?_)
  · skip
    refine pk_bind0 (fun r6 => ?_)
    refine pk_ite _ (fun c8 => ?_) (fun c8 => ?_)
    · skip
      exact pk_some hF_v
    · skip
      refine pk_ite _ (fun c9 => ?_) (fun c9 => ?_)
      · skip
        exact pk_some hF_v
      · skip
        refine pk_ite _ (fun c10 => ?_) (fun c10 => ?_)
        · skip
          exact pk_some hF_v
        · skip
          refine pk_ite _ (fun c11 => ?_) (fun c11 => ?_)
          · skip
            exact pk_some hF_v
          · skip
            refine pk_ite _ (fun c12 => ?_) (fun c12 => ?_)
            · skip
              refine pk_grd _ (fun _ => ?_)
              refine pk_bind0 (fun r15 => ?_)
              refine pk_ite _ (fun c17 => ?_) (fun c17 => ?_)
              · skip
                refine pk_grd _ (fun _ => ?_)
                refine pk_ite _ (fun c19 => ?_) (fun c19 => ?_)
                · skip
                  refine pk_bind0 (fun r21 => ?_)
                  refine pk_kb2 (f_X7_unfound v r21) (fun r24 v25 hv25 => ?_)
                  have hF_v25 := hF_v.tr hv25 (by decide)
                  exact pk_some hF_v25
                · skip
                  refine pk_bind0 (fun r27 => ?_)
                  refine pk_kb2 (f_X7_unfound v r27) (fun r30 v31 hv31 => ?_)
                  have hF_v31 := hF_v.tr hv31 (by decide)
                  exact pk_some hF_v31
              · skip
                refine pk_kb2 (f_X7_found v r15) (fun r33 v34 hv34 => ?_)
                have hF_v34 := hF_v.tr hv34 (by decide)
                exact pk_some hF_v34
            · skip
              exact pk_some hF_v
  · skip
    exact pk_some hF_v
set_option maxHeartbeats 4000000 in
theorem f_X7_rules (v : Mm) (a1 : Int32) (a2 : Int32) (a3 : Int32) (a4 : Int32) : pk (g_X7_rules v a1 a2 a3 a4) (fun z => FR [108] v z.2) := by
  have hF_v : FR [108] v v := FR.refl _ v
  unfold g_X7_rules
  refine pk_bind0 (fun r2 => ?_)
  refine pk_ite _ (fun c4 => ?_) (fun c4 => ?_)
  · skip
    refine pk_bind0 (fun r6 => ?_)
    refine pk_ite _ (fun c8 => ?_) (fun c8 => ?_)
    · skip
      exact pk_some hF_v
    · skip
      refine pk_ite _ (fun c9 => ?_) (fun c9 => ?_)
      · skip
        exact pk_some hF_v
      · skip
        refine pk_ite _ (fun c10 => ?_) (fun c10 => ?_)
        · skip
          exact pk_some hF_v
        · skip
          refine pk_ite _ (fun c11 => ?_) (fun c11 => ?_)
          · skip
            exact pk_some hF_v
          · skip
            refine pk_ite _ (fun c12 => ?_) (fun c12 => ?_)
            · skip
              refine pk_grd _ (fun _ => ?_)
              refine pk_bind0 (fun r15 => ?_)
              refine pk_ite _ (fun c17 => ?_) (fun c17 => ?_)
              · skip
                refine pk_grd _ (fun _ => ?_)
                refine pk_bind0 (fun r20 => ?_)
                refine pk_kb2 (f_X7_unfound v r20) (fun r23 v24 hv24 => ?_)
                have hF_v24 := hF_v.tr hv24 (by decide)
                exact pk_some hF_v24
              · skip
                refine pk_kb2 (f_X7_found v r15) (fun r26 v27 hv27 => ?_)
                have hF_v27 := hF_v.tr hv27 (by decide)
                exact pk_some hF_v27
            · skip
              exact pk_some hF_v
  · skip
    exact pk_some hF_v
set_option maxHeartbeats 4000000 in
theorem f_X7_fits (v : Mm) (a1 : Int32) (a2 : Int32) (a3 : Int32) (a4 : Int32) : pk (g_X7_fits v a1 a2 a3 a4) (fun z => FR [108] v z.2) := by
  have hF_v : FR [108] v v := FR.refl _ v
  unfold g_X7_fits
  refine pk_bind0 (fun r2 => ?_)
  refine pk_ite _ (fun c4 => ?_) (fun c4 => ?_)
  · skip
    exact pk_some hF_v
  · skip
    refine pk_bind0 (fun r6 => ?_)
    refine pk_ite _ (fun c8 => ?_) (fun c8 => ?_)
    · skip
      exact pk_some hF_v
    · skip
      refine pk_ite _ (fun c9 => ?_) (fun c9 => ?_)
      · skip
        exact pk_some hF_v
      · skip
        refine pk_ite _ (fun c10 => ?_) (fun c10 => ?_)
        · skip
          refine pk_grd _ (fun _ => ?_)
          refine pk_bind0 (fun r13 => ?_)
          refine pk_ite _ (fun c15 => ?_) (fun c15 => ?_)
          · skip
            refine pk_ite _ (fun c16 => ?_) (fun c16 => ?_)
            · skip
              refine pk_grd _ (fun _ => ?_)
              refine pk_bind0 (fun r19 => ?_)
              refine pk_kb2 (f_X7_unfound v r19) (fun r22 v23 hv23 => ?_)
              have hF_v23 := hF_v.tr hv23 (by decide)
              exact pk_some hF_v23
            · skip
              refine pk_grd _ (fun _ => ?_)
              refine pk_grd _ (fun _ => ?_)
              refine pk_bind0 (fun r27 => ?_)
              refine pk_kb2 (f_X7_unfound v r27) (fun r30 v31 hv31 => ?_)
              have hF_v31 := hF_v.tr hv31 (by decide)
              exact pk_some hF_v31
          · skip
            refine pk_kb2 (f_X7_found v r13) (fun r33 v34 hv34 => ?_)
            have hF_v34 := hF_v.tr hv34 (by decide)
            exact pk_some hF_v34
        · skip
          exact pk_some hF_v
set_option maxHeartbeats 4000000 in
theorem f_X7_image (v : Mm) (a1 : Int32) : pk (g_X7_image v a1) (fun z => FR [6, 7, 8, 9, 10, 11, 12, 13, 14] v z.2) := by
  have hF_v : FR [6, 7, 8, 9, 10, 11, 12, 13, 14] v v := FR.refl _ v
  unfold g_X7_image
  refine pk_ite _ (fun c1 => ?_) (fun c1 => ?_)
  · skip
    exact pk_some hF_v
  · skip
    refine pk_ite _ (fun c2 => ?_) (fun c2 => ?_)
    · skip
      refine pk_bind0 (fun r4 => ?_)
      refine pk_ite _ (fun c6 => ?_) (fun c6 => ?_)
      · skip
        refine pk_grd _ (fun _ => ?_)
        refine pk_bind (f_X2_become v (2 + (Int32.toNatClampNeg a1)) 0) (fun v10 hv10 => ?_)
        have hF_v10 := hF_v.tr hv10 (by decide)
        exact pk_some hF_v10
      · skip
        exact pk_some hF_v
    · skip
      exact pk_some hF_v
set_option maxHeartbeats 4000000 in
theorem f_X7_restore (v : Mm) (a1 : Int32) : pk (g_X7_restore v a1) (fun z => FR [6, 7, 8, 9, 10, 11, 12, 13, 14, 402] v z.2) := by
  have hF_v : FR [6, 7, 8, 9, 10, 11, 12, 13, 14, 402] v v := FR.refl _ v
  unfold g_X7_restore
  refine pk_ite _ (fun c1 => ?_) (fun c1 => ?_)
  · skip
    exact pk_some hF_v
  · skip
    refine pk_ite _ (fun c2 => ?_) (fun c2 => ?_)
    · skip
      refine pk_grd _ (fun _ => ?_)
      refine pk_ite _ (fun c4 => ?_) (fun c4 => ?_)
      · skip
        exact pk_some hF_v
      · skip
        refine pk_grd _ (fun _ => ?_)
        refine pk_bind (f_X2_become v 0 (2 + (Int32.toNatClampNeg a1))) (fun v8 hv8 => ?_)
        have hF_v8 := hF_v.tr hv8 (by decide)
        refine pk_bind (f_X0_forget v8 ) (fun v11 hv11 => ?_)
        have hF_v11 := hF_v8.tr hv11 (by decide)
        exact pk_some hF_v11
    · skip
      exact pk_some hF_v
set_option maxHeartbeats 4000000 in
theorem f_X7_as (v : Mm) (a1 : Int32) (a2 : Int32) : pk (g_X7_as v a1 a2) (fun z => FR [108] v z.2) := by
  have hF_v : FR [108] v v := FR.refl _ v
  unfold g_X7_as
  refine pk_bind0 (fun r2 => ?_)
  refine pk_ite _ (fun c4 => ?_) (fun c4 => ?_)
  · skip
    exact pk_some hF_v
  · skip
    refine pk_ite _ (fun c5 => ?_) (fun c5 => ?_)
    · skip
      exact pk_some hF_v
    · skip
      refine pk_ite _ (fun c6 => ?_) (fun c6 => ?_)
      · skip
        refine pk_grd _ (fun _ => ?_)
        refine pk_bind0 (fun r9 => ?_)
        refine pk_ite _ (fun c11 => ?_) (fun c11 => ?_)
        · skip
          refine pk_kb2 (f_X7_found v 3) (fun r13 v14 hv14 => ?_)
          have hF_v14 := hF_v.tr hv14 (by decide)
          exact pk_some hF_v14
        · skip
          refine pk_kb2 (f_X7_unfound v a1) (fun r16 v17 hv17 => ?_)
          have hF_v17 := hF_v.tr hv17 (by decide)
          exact pk_some hF_v17
      · skip
        exact pk_some hF_v
set_option maxHeartbeats 4000000 in
theorem f_X7_ask (v : Mm) (a1 : Int32) (a2 : Int32) : pk (g_X7_ask v a1 a2) (fun z => FR [21, 22] v z.2) := by
  have hF_v : FR [21, 22] v v := FR.refl _ v
  unfold g_X7_ask
  refine pk_bind0 (fun r2 => ?_)
  refine pk_ite _ (fun c4 => ?_) (fun c4 => ?_)
  · skip
    exact pk_some hF_v
  · skip
    refine pk_ite _ (fun c5 => ?_) (fun c5 => ?_)
    · skip
      exact pk_some hF_v
    · skip
      refine pk_ite _ (fun c6 => ?_) (fun c6 => ?_)
      · skip
        refine pk_grd _ (fun _ => ?_)
        refine pk_grd _ (fun _ => ?_)
        refine pk_grd _ (fun _ => ?_)
        refine pk_bind (f_X1_turnTo v a1 (v 8 0 (Int32.toNatClampNeg a1)) (v 9 0 (Int32.toNatClampNeg a1)) (v 11 0 (Int32.toNatClampNeg a1))) (fun v12 hv12 => ?_)
        have hF_v12 := hF_v.tr hv12 (by decide)
        refine pk_kb2 (f_X1_answer v12 a2) (fun r14 v15 hv15 => ?_)
        have hF_v15 := hF_v12.tr hv15 (by decide)
        exact pk_some hF_v15
      · skip
        exact pk_some hF_v
set_option maxHeartbeats 4000000 in
theorem fz_X7_gate (v : Mm)  : pk (g_X7_gate v ) (fun z => z.2 4 0 2 = 0) := by
  unfold g_X7_gate
  refine pk_bind0 (fun zv3 => ?_)
  obtain ⟨r2, v3⟩ := zv3
  refine pk_let (fun v4 ev4 => ?_)
  have hz_v4 : v4 4 0 2 = 0 := by rw [ev4]; exact up3_s
  refine pk_ite _ (fun c5 => ?_) (fun c5 => ?_)
  · skip
    refine pk_let (fun v6 ev6 => ?_)
    have hz_v6 : v6 4 0 2 = 0 := by rw [ev6, up3_t (by decide)]; exact hz_v4
    exact pk_some hz_v6
  · skip
    refine pk_bind (f_X2_become v4 0 1) (fun v9 hv9 => ?_)
    have hz_v9 : v9 4 0 2 = 0 := (hv9 4 0 2 (by decide)).trans hz_v4
    refine pk_bind (f_X0_forget v9 ) (fun v12 hv12 => ?_)
    have hz_v12 : v12 4 0 2 = 0 := (hv12 4 0 2 (by decide)).trans hz_v9
    exact pk_some hz_v12
