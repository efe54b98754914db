/-! kinds under kinds -/
theorem isA_v (v w : Mm) (a b : Int32) : ∀ (n : Nat) (x y : Int32), g_X1_isA_L4 v a b n x y = g_X1_isA_L4 w a b n x y := by
  intro n
  induction n with
  | zero => intro x y; rfl
  | succ n ih =>
    intro x y
    show b_X1_isA_L4 (g_X1_isA_L4 v a b n) v a b x y = b_X1_isA_L4 (g_X1_isA_L4 w a b n) w a b x y
    unfold b_X1_isA_L4
    simp only [ih]
theorem isA_more (v : Mm) (a b : Int32) : ∀ (n m : Nat) (x y r : Int32), g_X1_isA_L4 v a b n x y = some r → g_X1_isA_L4 v a b (n + m) x y = some r := by
  intro n
  induction n with
  | zero => intro m x y r e; cases e
  | succ n ih =>
    intro m x y r e
    rw [show n + 1 + m = (n + m) + 1 by omega]
    show b_X1_isA_L4 (g_X1_isA_L4 v a b (n + m)) v a b x y = some r
    have e : b_X1_isA_L4 (g_X1_isA_L4 v a b n) v a b x y = some r := e
    unfold b_X1_isA_L4 at e ⊢
    by_cases c1 : 5 < y
    · rw [if_pos c1] at e ⊢; exact e
    rw [if_neg c1] at e ⊢
    by_cases c2 : x < 0
    · rw [if_pos c2] at e ⊢; exact e
    rw [if_neg c2] at e ⊢
    by_cases c3 : 5 < x
    · rw [if_pos c3] at e ⊢; exact e
    rw [if_neg c3] at e ⊢
    by_cases c4 : x = b
    · rw [if_pos c4] at e ⊢; exact e
    rw [if_neg c4] at e ⊢
    by_cases c5 : x < 0 ∨ 6 ≤ Int32.toNatClampNeg x
    · rw [if_pos c5] at e; cases e
    rw [if_neg c5] at e ⊢
    exact ih m _ _ r e
def isAv (k a : Int32) : Int32 := if a = 0 then 1 else (if a = k then 1 else (if a = 1 then (if k < 4 then 1 else 0) else (if a = 4 then (if k = 5 then 1 else 0) else 0)))
theorem t_isA : ∀ k, k < 6 → ∀ a, a < 6 → 1 ≤ k → g_X1_isA_L4 vX0 (nI k) (nI a) 9 (nI k) 0 = some (isAv (nI k) (nI a)) := by decide +kernel
theorem q_isA (v : Mm) {k a : Int32} (hk : 1 ≤ k.toInt ∧ k.toInt ≤ 5) (ha : 0 ≤ a.toInt ∧ a.toInt ≤ 5) : g_X1_isA v k a = some (isAv k a) := by
  obtain ⟨j, hj, rfl⟩ := i_of (x := k) (n := 6) (by omega) (by omega)
  obtain ⟨i, hi, rfl⟩ := i_of (x := a) (n := 6) (by omega) (by omega)
  have nj := nI_int (k := j) (by omega)
  unfold g_X1_isA
  rw [isA_v v vX0]
  exact isA_more vX0 (nI j) (nI i) 9 1991 (nI j) 0 _ (t_isA j hj i hi (by omega))
set_option maxHeartbeats 4000000 in
theorem r_as {vx vm : Mm} (hX : PW rgX vx) (hG : GB vx vm) (a1 a2 : Int32) : rel (g_X7_as vx a1 a2) (g_X8_as vm a1 a2) (relS vx vm) := by
  have e0 : (0 : Int32).toInt = 0 := by decide
  have e5 : (5 : Int32).toInt = 5 := by decide
  have hg : (0 : Int) ≤ (vx 6 0 7).toInt ∧ (vx 6 0 7).toInt ≤ (4 : Int) := hX 6 0 7
  have e4 : vx 6 0 7 = vm 36 0 4 := hG.1.2.2.2.1
  unfold g_X7_as g_X8_as
  rw [bx_guard, bm_guard vm (by rw [← e4]; exact hg.1), rng3, b_in, ← e4]
  refine rel_ite Iff.rfl (fun c1 => ?_) (fun _ => rel_some relS_same)
  refine rel_ite Iff.rfl (fun c2 => ?_) (fun _ => rel_some relS_same)
  refine rel_grdL _ (fun _ => ?_)
  have ca := tcn a1
  have hk := hG.1.2.2.2.2.2 (Int32.toNatClampNeg a1) (by omega) (by omega)
  rw [q_isA vx ⟨hk.2.1, hk.2.2.1⟩ ⟨c2.1, by omega⟩, Option.bind_some]
  unfold g_X8_kindIn
  obtain ⟨x1, -, -⟩ := ixm (x := a1) (k := Int32.toNatClampNeg a1) 26 26 (by decide) (by omega) (by omega) (by omega)
  rw [x1]
  by_cases q : (26 : Int32) + ((3 : Int32) * a1) < 0 ∨ 65 ≤ 26 + 3 * Int32.toNatClampNeg a1
  · rw [if_pos q]; intro a b _ f; cases f
  rw [if_neg q]
  refine rel_letR (fun r10 er10 => ?_)
  have h8 := hk.1
  rw [Nat.zero_add] at h8
  rw [← h8] at er10
  rw [← er10]
  have T1 : rel (some (a1, up3 vx 0 0 8 0)) (some (a1, up3 vm 30 0 4 0)) (relS vx vm) := rel_some relS_st
  have T3 : rel (some (-1000010 - 3, up3 vx 0 0 8 3)) (some (-1000010 - 3, up3 vm 30 0 4 3)) (relS vx vm) := rel_some relS_st
  have n10 : ¬ (1 : Int32) = 0 := by decide
  have y00 : (0 : Int32) = 0 := rfl
  unfold isAv
  by_cases z0 : a2 = 0
  · rw [if_pos z0, if_pos z0, if_neg n10]; exact T1
  rw [if_neg z0, if_neg z0]
  by_cases z1 : a2 = r10
  · rw [if_pos z1, if_pos z1, if_neg n10]; exact T1
  rw [if_neg z1, if_neg z1]
  by_cases z2 : a2 = 1
  · rw [if_pos z2, if_pos z2]
    by_cases z3 : r10 < 4
    · rw [if_pos z3, if_pos z3, if_neg n10]; exact T1
    · rw [if_neg z3, if_neg z3, if_pos y00, if_neg (show ¬ a2 = 4 by rw [z2]; decide)]; exact T3
  rw [if_neg z2, if_neg z2]
  by_cases z4 : a2 = 4
  · rw [if_pos z4, if_pos z4]
    by_cases z5 : r10 = 5
    · rw [if_pos z5, if_pos z5, if_neg n10]; exact T1
    · rw [if_neg z5, if_neg z5, if_pos y00]; exact T3
  · rw [if_neg z4, if_neg z4, if_pos y00]; exact T3
/-! march: its status alone -/
theorem m_marchL (a1 a2 a3 a4 : Int32) : ∀ (n : Nat) (w : Mm) (x5 x6 x7 : Int32), pk (g_X8_march_L82 a1 a2 a3 a4 n w x5 x6 x7) (fun z => z.2 30 0 4 = 0) := by
  have fin : ∀ (w : Mm) (r : Int32), pk (kb2 (g_X8_well w r) (fun r28 v29 => some (r28, v29))) (fun z => z.2 30 0 4 = 0) := fun w r => pk_some (a := (r, up3 w 30 0 4 0)) (show up3 w 30 0 4 0 30 0 4 = 0 from up3_s)
  intro n
  induction n with
  | zero => intro w x5 x6 x7 b e; cases e
  | succ n ih =>
    intro w x5 x6 x7
    have inn : ∀ (k : Nat) (w : Mm) (x5 x6 x7 x8 : Int32), pk (g_X8_march_L114 (g_X8_march_L82 a1 a2 a3 a4 n) a1 a2 a3 a4 k w x5 x6 x7 x8) (fun z => z.2 30 0 4 = 0) := by
      intro k
      induction k with
      | zero => intro w x5 x6 x7 x8 b e; cases e
      | succ k ik =>
        intro w x5 x6 x7 x8
        have lst : ∀ y5 y6, pk (if x7 = a4 then (g_X8_march_L82 a1 a2 a3 a4 n w y5 y5 (x7 + 1)) else (if a4 = (-1) then (g_X8_march_L82 a1 a2 a3 a4 n w y5 y5 (x7 + 1)) else (g_X8_march_L82 a1 a2 a3 a4 n w y5 y6 (x7 + 1)))) (fun z => z.2 30 0 4 = 0) := fun y5 y6 => pk_ite _ (fun _ => ih _ _ _ _) (fun _ => pk_ite _ (fun _ => ih _ _ _ _) (fun _ => ih _ _ _ _))
        show pk (b_X8_march_L114 (g_X8_march_L82 a1 a2 a3 a4 n) (g_X8_march_L114 (g_X8_march_L82 a1 a2 a3 a4 n) a1 a2 a3 a4 k) a1 a2 a3 a4 w x5 x6 x7 x8) _
        unfold b_X8_march_L114
        refine pk_ite _ (fun _ => lst _ _) (fun _ => pk_bind0 (fun r47 => pk_ite _ (fun _ => ik _ _ _ _ _) (fun _ => pk_bind0 (fun r51 => pk_ite _ (fun _ => lst _ _) (fun _ => ik _ _ _ _ _)))))
    show pk (b_X8_march_L82 (g_X8_march_L82 a1 a2 a3 a4 n) a1 a2 a3 a4 w x5 x6 x7) _
    unfold b_X8_march_L82
    refine pk_ite _ (fun _ => pk_ite _ (fun _ => fin _ _) (fun _ => fin _ _)) (fun _ => pk_ite _ (fun _ => pk_ite _ (fun _ => fin _ _) (fun _ => fin _ _)) (fun _ => pk_grd _ (fun _ => pk_let (fun x42 _ => inn _ _ _ _ _ _))))
set_option maxHeartbeats 4000000 in
theorem r_marchS {vx vm : Mm} (hX : PW rgX vx) (hM : IM vm) (h : RR vx vm) (hG : GB vx vm) (a1 a2 a3 a4 : Int32) : rel (g_X7_march vx a1 a2 a3 a4) (g_X8_march vm a1 a2 a3 a4) (fun a b => RS vx vm → RS a.2 b.2) := by
  have e0 : (0 : Int32).toInt = 0 := by decide
  have e1 : (1 : Int32).toInt = 1 := by decide
  have e6 : (6 : Int32).toInt = 6 := by decide
  have em : ((-1) : Int32).toInt = -1 := by decide
  have hw : (0 : Int) ≤ (vx 6 0 6).toInt ∧ (vx 6 0 6).toInt ≤ (6 : Int) := hX 6 0 6
  have ew : vx 6 0 6 = vm 36 0 3 := hG.1.2.2.1
  have same : ∀ r : Int32, rel (some (r, vx)) (some (r, vm)) (fun a b => RS vx vm → RS a.2 b.2) := fun r => rel_some (fun q => q)
  have rg4 : ∀ (A B : Option (Int32 × Mm)), (if a4 < (-1) then A else (if a4 < a3 then B else A)) = if ((-1) : Int32).toInt ≤ a4.toInt ∧ a4.toInt < a3.toInt then B else A := by
    intro A B
    by_cases c1 : a4 < (-1)
    · rw [if_pos c1, if_neg (fun q => by have := i_lt c1; omega)]
    · by_cases c2 : a4 < a3
      · rw [if_neg c1, if_pos c2, if_pos ⟨i_nlt c1, i_lt c2⟩]
      · rw [if_neg c1, if_neg c2, if_neg (fun q => by have := i_nlt c2; omega)]
  unfold g_X7_march g_X8_march
  rw [bx_nog, bm_isg vm (by rw [← ew]; exact hw.1), q_X7_isRow, q_X8_isRow, Option.bind_some, Option.bind_some, b01_z, b01_z, rng2, rg4, b_in, b_in, ← ew]
  refine rel_ite Iff.rfl (fun _ => same _) (fun c0 => ?_)
  refine rel_ite Iff.rfl (fun c1 => ?_) (fun _ => same _)
  refine rel_ite Iff.rfl (fun c2 => ?_) (fun _ => same _)
  have s3 := sp_subx a3 1 (by omega)
  refine rel_ite (by rw [s3]; omega) (fun c3 => ?_) (fun _ => same _)
  refine rel_grdL _ (fun _ => ?_)
  have hr : Int32.toNatClampNeg a1 < 8 := clamp_lt c1.1 (by omega)
  have hs := sizeX hX (Int32.toNatClampNeg a1)
  have hz := h.2.1 _ hr
  rw [q_X5_findingOf vx _ a2 a3 hs, q_X8_isMissing vm a1 c1.1 c1.2, Option.bind_some, Option.bind_some, b01_z]
  have st : ∀ (wx wm : Mm) (r r2 s : Int32), rel (some (r, up3 wx 0 0 8 s)) (some (r2, up3 wm 30 0 4 s)) (fun a b => RS vx vm → RS a.2 b.2) := fun wx wm r r2 s => rel_some (fun _ => by
    show up3 wx 0 0 8 s 0 0 8 = up3 wm 30 0 4 s 30 0 4
    rw [up3_s, up3_s])
  by_cases m : vx 2 (Int32.toNatClampNeg a1) 1 = -1
  · have ef : fnd vx (Int32.toNatClampNeg a1) a2 a3 = 1 := if_pos m
    rw [ef, if_neg (show ¬ (1 : Int32) = 0 by decide), if_pos ((h.lane hr).mp m)]
    exact st vx vm _ _ 1
  · rw [if_neg (fun q => m ((h.lane hr).mpr q)), q_X8_isPart vm a1 a2 a3 c1.1 c1.2 (sizeM hM _), Option.bind_some, b01_z, ← hz]
    by_cases d : 0 ≤ a2.toInt ∧ 0 ≤ a3.toInt ∧ a2.toInt + a3.toInt ≤ (vx 2 (Int32.toNatClampNeg a1) 2).toInt
    · have ef : fnd vx (Int32.toNatClampNeg a1) a2 a3 = 0 := (if_neg m).trans (if_pos d)
      rw [ef, if_pos (show (0 : Int32) = 0 from rfl), if_pos d]
      have fin : ∀ r : Int32, rel (some (r, up3 vx 0 0 8 0)) (g_X8_march_L82 a1 a2 a3 a4 2000 vm ((-1)) ((-1000000)) 0) (fun a b => RS vx vm → RS a.2 b.2) := fun r => rel_someL ((m_marchL a1 a2 a3 a4 2000 vm _ _ _).mono (fun z q _ => by
        show up3 vx 0 0 8 0 0 0 8 = z.2 30 0 4
        rw [up3_s, q]))
      refine rel_grdL _ (fun _ => rel_iteL _ (fun _ => ?_) (fun _ => ?_))
      · exact rel_bindL (Q := fun _ => True) (fun _ _ => trivial) (fun r _ => fin r)
      · exact rel_bindL (Q := fun _ => True) (fun _ _ => trivial) (fun r _ => fin r)
    · have ef : fnd vx (Int32.toNatClampNeg a1) a2 a3 = 2 := (if_neg m).trans (if_neg d)
      rw [ef, if_neg (show ¬ (2 : Int32) = 0 by decide), if_neg d]
      exact st vx vm _ _ 2
