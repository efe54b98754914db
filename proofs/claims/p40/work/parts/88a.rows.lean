/-! ROWS AND TAPE -/
theorem q_X8_isRow (v : Mm) (a : Int32) : g_X8_isRow v a = some (b01 (0 ≤ a.toInt ∧ a.toInt ≤ 7)) := by
  unfold g_X8_isRow
  rw [q_X8_in]
  rfl
theorem q_X7_isRow (v : Mm) (a : Int32) : g_X7_isRow v a = some (b01 (0 ≤ a.toInt ∧ a.toInt ≤ 7)) := by
  unfold g_X7_isRow b01
  have e0 : (0 : Int32).toInt = 0 := by decide
  have e8 : (8 : Int32).toInt = 8 := by decide
  by_cases h1 : a < 0
  · have := i_lt h1
    rw [if_pos h1, if_neg (by omega)]
  · have := i_nlt h1
    by_cases h2 : 8 ≤ a
    · have := i_le h2
      rw [if_neg h1, if_pos h2, if_neg (by omega)]
    · have := i_nle h2
      rw [if_neg h1, if_neg h2, if_pos (by omega)]
def RS (vx vm : Mm) : Prop := vx 0 0 8 = vm 30 0 4
def RR (vx vm : Mm) : Prop := (∀ r, r < 8 → (vx 2 r 1 = -1 ∧ vm 31 0 r = -1000000) ∨ (vx 2 r 1 = vm 31 0 r ∧ 0 ≤ (vx 2 r 1).toInt ∧ (vx 2 r 1).toInt ≤ 2)) ∧ (∀ r, r < 8 → vx 2 r 2 = vm 32 0 r) ∧ (∀ r k, r < 8 → k < 40 → vx 3 r k = vm 33 0 (40 * r + k))
def RT (vx vm : Mm) : Prop := vx 4 0 2 = vm 30 0 6 ∧ ∀ k, vx 5 0 k = vm 35 0 k
theorem RR.fr {S T : List Nat} {vx vm wx wm : Mm} (h : RR vx vm) (hx : FR S vx wx) (hm : FR T vm wm) (h1 : S.contains 2 = false ∧ S.contains 3 = false) (h2 : T.contains 31 = false ∧ T.contains 32 = false ∧ T.contains 33 = false) : RR wx wm := by
  have a1 : ∀ i j, wx 2 i j = vx 2 i j := fun i j => hx 2 i j h1.1
  have a2 : ∀ i j, wx 3 i j = vx 3 i j := fun i j => hx 3 i j h1.2
  have a3 : ∀ i j, wm 31 i j = vm 31 i j := fun i j => hm 31 i j h2.1
  have a4 : ∀ i j, wm 32 i j = vm 32 i j := fun i j => hm 32 i j h2.2.1
  have a5 : ∀ i j, wm 33 i j = vm 33 i j := fun i j => hm 33 i j h2.2.2
  refine ⟨fun r hr => ?_, fun r hr => ?_, fun r k hr hk => ?_⟩
  · rw [a1, a3]; exact h.1 r hr
  · rw [a1, a4]; exact h.2.1 r hr
  · rw [a2, a5]; exact h.2.2 r k hr hk
theorem RT.fr {S T : List Nat} {vx vm wx wm : Mm} (h : RT vx vm) (hx : FR S vx wx) (hm : FR T vm wm) (h1 : S.contains 302 = false ∧ S.contains 5 = false) (h2 : T.contains 206 = false ∧ T.contains 35 = false) : RT wx wm := by
  refine ⟨?_, fun k => ?_⟩
  · rw [hx 4 0 2 h1.1, hm 30 0 6 h2.1]; exact h.1
  · rw [hx 5 0 k h1.2, hm 35 0 k h2.2]; exact h.2 k
theorem RT.fr5 {S T : List Nat} {vx vm wx wm : Mm} (h : RT vx vm) (hx : FR S vx wx) (hm : FR T vm wm) (h1 : S.contains 5 = false) (h2 : T.contains 35 = false) (h3 : wx 4 0 2 = 0) (h4 : wm 30 0 6 = 0) : RT wx wm := by
  refine ⟨h3.trans h4.symm, fun k => ?_⟩
  rw [hx 5 0 k h1, hm 35 0 k h2]; exact h.2 k
theorem ix40 {a x : Int32} (h1 : 0 ≤ a.toInt) (h2 : a.toInt ≤ 7) (h3 : 0 ≤ x.toInt) (h4 : x.toInt < 40) : Int32.toNatClampNeg ((40 : Int32) * a + x) = 40 * Int32.toNatClampNeg a + Int32.toNatClampNeg x := by
  have e1 := sp_cmulx 40 a 40 (by decide) (by omega)
  have e2 := sp_addx ((40 : Int32) * a) x (by omega)
  rw [tcn, tcn, tcn]
  omega
theorem ix40b {a x y : Int32} (h1 : 0 ≤ a.toInt) (h2 : a.toInt ≤ 7) (h3 : 0 ≤ x.toInt) (h4 : 0 ≤ y.toInt) (h5 : x.toInt + y.toInt < 40) : Int32.toNatClampNeg (((40 : Int32) * a + x) + y) = 40 * Int32.toNatClampNeg a + (Int32.toNatClampNeg x + Int32.toNatClampNeg y) := by
  have e1 := sp_cmulx 40 a 40 (by decide) (by omega)
  have e2 := sp_addx ((40 : Int32) * a) x (by omega)
  have e3 := sp_addx ((40 : Int32) * a + x) y (by omega)
  rw [tcn, tcn, tcn, tcn]
  omega
theorem clamp_lt {a : Int32} {n : Nat} (h1 : 0 ≤ a.toInt) (h2 : a.toInt < (n : Int)) : Int32.toNatClampNeg a < n := by rw [tcn]; omega
/-! row -/
theorem p_X5_make (v : Mm) (i0 : Nat) (a1 a2 : Int32) : pk (g_X5_make v i0 a1 a2) (fun z => (z 2 i0 1 = a1 ∧ z 2 i0 2 = a2 ∧ ∀ k, k < 40 → z 3 i0 k = 0) ∧ ∀ t i j, ¬ (i = i0 ∧ (t = 2 ∨ t = 3)) → z t i j = v t i j) := by
  have e40 : (40 : Int32).toInt = 40 := by decide
  have e1 : (1 : Int32).toInt = 1 := by decide
  have loop : ∀ (n : Nat) (w : Mm) (x : Int32) (k : Nat), x.toInt = (k : Int) → k ≤ 40 → ((w 2 i0 1 = a1 ∧ w 2 i0 2 = a2 ∧ ∀ j, j < k → w 3 i0 j = 0) ∧ ∀ t i j, ¬ (i = i0 ∧ (t = 2 ∨ t = 3)) → w t i j = v t i j) → pk (g_X5_make_L12 i0 a1 a2 n w x) (fun z => (z 2 i0 1 = a1 ∧ z 2 i0 2 = a2 ∧ ∀ k, k < 40 → z 3 i0 k = 0) ∧ ∀ t i j, ¬ (i = i0 ∧ (t = 2 ∨ t = 3)) → z t i j = v t i j) := by
    intro n
    induction n with
    | zero => intro w x k _ _ _ b e; cases e
    | succ n ih =>
      intro w x k hx hk hw
      show pk (b_X5_make_L12 (g_X5_make_L12 i0 a1 a2 n) i0 a1 a2 w x) _
      unfold b_X5_make_L12
      refine pk_ite _ (fun c => ?_) (fun c => ?_)
      · have := i_le c
        obtain rfl : k = 40 := by omega
        exact pk_some hw
      · have := i_nle c
        refine pk_grd _ (fun _ => ?_)
        refine pk_let (fun w1 ew1 => ?_)
        have hc : Int32.toNatClampNeg x = k := by rw [tcn]; omega
        rw [hc] at ew1
        have e2 := sp_addx x 1 (by omega)
        refine ih w1 (x + 1) (k + 1) (by omega) (by omega) ⟨⟨?_, ?_, fun j hj => ?_⟩, fun t i j hn => ?_⟩
        · rw [ew1, up3_t (by decide)]; exact hw.1.1
        · rw [ew1, up3_t (by decide)]; exact hw.1.2.1
        · by_cases q : j = k
          · rw [ew1, q]; exact up3_s
          · rw [ew1, up3_j q]; exact hw.1.2.2 j (by omega)
        · rw [ew1]; unfold up3
          rw [if_neg (fun q => hn ⟨q.2.1, Or.inr q.1⟩)]
          exact hw.2 t i j hn
  unfold g_X5_make
  refine pk_let (fun v1 ev1 => pk_let (fun v2 ev2 => ?_))
  refine loop 2000 v2 0 0 (by decide) (by omega) ⟨⟨?_, ?_, fun j hj => absurd hj (Nat.not_lt_zero j)⟩, fun t i j hn => ?_⟩
  · rw [ev2, up3_j (by decide), ev1]; exact up3_s
  · rw [ev2]; exact up3_s
  · rw [ev2, ev1]; unfold up3
    rw [if_neg (fun q => hn ⟨q.2.1, Or.inl q.1⟩), if_neg (fun q => hn ⟨q.2.1, Or.inl q.1⟩)]
theorem p_X8_rowL (v : Mm) (a1 a2 a3 : Int32) (h1 : 0 ≤ a1.toInt) (h2 : a1.toInt ≤ 7) : pk (g_X8_row_L52 a1 a2 a3 2000 v 0) (fun z => z.1 = a3 ∧ z.2 30 0 4 = 0 ∧ (∀ k, k < 40 → z.2 33 0 (40 * Int32.toNatClampNeg a1 + k) = 0) ∧ ∀ t i j, ¬ (t = 30 ∧ j = 4) → ¬ (t = 33 ∧ 40 * Int32.toNatClampNeg a1 ≤ j ∧ j < 40 * Int32.toNatClampNeg a1 + 40) → z.2 t i j = v t i j) := by
  have e40 : (40 : Int32).toInt = 40 := by decide
  have e1 : (1 : Int32).toInt = 1 := by decide
  have loop : ∀ (n : Nat) (w : Mm) (x : Int32) (k : Nat), x.toInt = (k : Int) → k ≤ 40 → ((∀ j, j < k → w 33 0 (40 * Int32.toNatClampNeg a1 + j) = 0) ∧ ∀ t i j, ¬ (t = 33 ∧ 40 * Int32.toNatClampNeg a1 ≤ j ∧ j < 40 * Int32.toNatClampNeg a1 + 40) → w t i j = v t i j) → pk (g_X8_row_L52 a1 a2 a3 n w x) (fun z => z.1 = a3 ∧ z.2 30 0 4 = 0 ∧ (∀ k, k < 40 → z.2 33 0 (40 * Int32.toNatClampNeg a1 + k) = 0) ∧ ∀ t i j, ¬ (t = 30 ∧ j = 4) → ¬ (t = 33 ∧ 40 * Int32.toNatClampNeg a1 ≤ j ∧ j < 40 * Int32.toNatClampNeg a1 + 40) → z.2 t i j = v t i j) := by
    intro n
    induction n with
    | zero => intro w x k _ _ _ b e; cases e
    | succ n ih =>
      intro w x k hx hk hw
      show pk (b_X8_row_L52 (g_X8_row_L52 a1 a2 a3 n) a1 a2 a3 w x) _
      unfold b_X8_row_L52
      refine pk_ite _ (fun c => ?_) (fun c => ?_)
      · have := i_le c
        obtain rfl : k = 40 := by omega
        show pk (some (a3, up3 w 30 0 4 0)) _
        refine pk_some ⟨rfl, (show up3 w 30 0 4 0 30 0 4 = 0 from up3_s), fun k hk => ?_, fun t i j q1 q2 => ?_⟩
        · show up3 w 30 0 4 0 33 0 _ = 0
          rw [up3_t (by decide)]; exact hw.1 k hk
        · show up3 w 30 0 4 0 t i j = v t i j
          unfold up3
          rw [if_neg (fun q => q1 ⟨q.1, q.2.2⟩)]
          exact hw.2 t i j q2
      · have := i_nle c
        refine pk_grd _ (fun _ => ?_)
        refine pk_let (fun w1 ew1 => ?_)
        have hc : Int32.toNatClampNeg x = k := by rw [tcn]; omega
        rw [ix40 h1 h2 (by omega) (by omega), hc] at ew1
        have e2 := sp_addx x 1 (by omega)
        refine ih w1 (x + 1) (k + 1) (by omega) (by omega) ⟨fun j hj => ?_, fun t i j hn => ?_⟩
        · by_cases q : j = k
          · rw [ew1, q]; exact up3_s
          · rw [ew1, up3_j (by omega)]; exact hw.1 j (by omega)
        · rw [ew1]; unfold up3
          rw [if_neg (fun q => hn ⟨q.1, by omega, by omega⟩)]
          exact hw.2 t i j hn
  exact loop 2000 v 0 0 (by decide) (by omega) ⟨fun j hj => absurd hj (Nat.not_lt_zero j), fun _ _ _ _ => rfl⟩
def relRow (vx vm : Mm) : Int32 × Mm → Int32 × Mm → Prop := fun a b => RR a.2 b.2 ∧ a.1 = b.1 ∧ (RS vx vm → RS a.2 b.2)
theorem relRow_same {vx vm : Mm} {r : Int32} (h : RR vx vm) : relRow vx vm (r, vx) (r, vm) := ⟨h, rfl, fun q => q⟩
theorem relRow_st {vx vm wx wm : Mm} {r s : Int32} (h : RR wx wm) : relRow vx vm (r, up3 wx 0 0 8 s) (r, up3 wm 30 0 4 s) := by
  refine ⟨h.fr (S := [108]) (T := [204]) ((FR.refl _ _).upf (by decide)) ((FR.refl _ _).upf (by decide)) (by decide) (by decide), rfl, fun _ => ?_⟩
  show up3 wx 0 0 8 s 0 0 8 = up3 wm 30 0 4 s 30 0 4
  rw [up3_s, up3_s]
theorem r_row {vx vm : Mm} (h : RR vx vm) (a1 a2 a3 : Int32) : rel (g_X7_row vx a1 a2 a3) (g_X8_row vm a1 a2 a3) (relRow vx vm) := by
  have e0 : (0 : Int32).toInt = 0 := by decide
  have e2 : (2 : Int32).toInt = 2 := by decide
  unfold g_X7_row g_X8_row
  simp only [q_X7_isRow, q_X8_isRow, q_X8_in, Option.bind_some, b01_z, rng2]
  refine rel_ite Iff.rfl (fun c1 => ?_) (fun _ => rel_some (relRow_same h))
  refine rel_ite Iff.rfl (fun c2 => ?_) (fun _ => rel_some (relRow_same h))
  refine rel_ite Iff.rfl (fun c3 => ?_) (fun _ => rel_some (relRow_same h))
  refine rel_ite Iff.rfl (fun c4 => ?_) (fun _ => ?_)
  · refine rel_grdL _ (fun _ => rel_grdR _ (fun _ => ?_))
    rw [e0, e2] at c2
    have hr : Int32.toNatClampNeg a1 < 8 := clamp_lt c1.1 (by omega)
    refine rel_bindL (p_X5_make vx (Int32.toNatClampNeg a1) a2 a3) (fun w hw => ?_)
    show rel (some (a3, up3 w 0 0 8 0)) _ _
    refine rel_someL ?_
    refine pk_grd _ (fun _ => ?_)
    refine (p_X8_rowL _ a1 a2 a3 c1.1 c1.2).mono (fun z hz => ?_)
    obtain ⟨z1, z2, z3, z4⟩ := hz
    refine ⟨⟨fun r hr' => ?_, fun r hr' => ?_, fun r k hr' hk => ?_⟩, z1.symm, fun _ => ?_⟩
    · show (up3 w 0 0 8 0 2 r 1 = -1 ∧ z.2 31 0 r = -1000000) ∨ (up3 w 0 0 8 0 2 r 1 = z.2 31 0 r ∧ 0 ≤ (up3 w 0 0 8 0 2 r 1).toInt ∧ (up3 w 0 0 8 0 2 r 1).toInt ≤ 2)
      rw [up3_t (by decide), z4 31 0 r (fun q => absurd q.1 (by decide)) (fun q => absurd q.1 (by decide)), up3_t (by decide)]
      by_cases q : r = Int32.toNatClampNeg a1
      · rw [q, hw.1.1, up3_s]; exact Or.inr ⟨rfl, c2⟩
      · rw [up3_j q, hw.2 2 r 1 (fun z => q z.1)]; exact h.1 r hr'
    · show up3 w 0 0 8 0 2 r 2 = z.2 32 0 r
      rw [up3_t (by decide), z4 32 0 r (fun q => absurd q.1 (by decide)) (fun q => absurd q.1 (by decide))]
      by_cases q : r = Int32.toNatClampNeg a1
      · rw [q, hw.1.2.1, up3_s]
      · rw [up3_j q, up3_t (by decide), hw.2 2 r 2 (fun z => q z.1)]; exact h.2.1 r hr'
    · show up3 w 0 0 8 0 3 r k = z.2 33 0 (40 * r + k)
      rw [up3_t (by decide)]
      by_cases q : r = Int32.toNatClampNeg a1
      · rw [q, hw.1.2.2 k hk, z3 k hk]
      · rw [z4 33 0 (40 * r + k) (fun q => absurd q.1 (by decide)) (fun q2 => q (by omega)), up3_t (by decide), up3_t (by decide), hw.2 3 r k (fun z => q z.1)]; exact h.2.2 r k hr' hk
    · show up3 w 0 0 8 0 0 0 8 = z.2 30 0 4
      rw [up3_s, z2]
  · show rel (some (-1000010 - 4, up3 vx 0 0 8 4)) (some (-1000010 - 4, up3 vm 30 0 4 4)) _
    exact rel_some (relRow_st h)
