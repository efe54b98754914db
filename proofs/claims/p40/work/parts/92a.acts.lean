/-! ACTS: the ring of moments, the row of 24 -/
theorem p_cp3639 (v : Mm) (a b : Int32) (ka kb : Nat) (ha : a.toInt = (ka : Int)) (hb : b.toInt = (kb : Int)) (la : ka ≤ 2000) (lb : kb ≤ 2000) : pk (g_X8_copies_36_39 v a b) (fun z => (∀ j, j < 65 → z 39 0 (kb + j) = v 36 0 (ka + j)) ∧ ∀ t i j, ¬ (t = 39 ∧ i = 0 ∧ kb ≤ j ∧ j < kb + 65) → z t i j = v t i j) := by
  have e65 : (65 : Int32).toInt = 65 := by decide
  have e1 : (1 : Int32).toInt = 1 := by decide
  have loop : ∀ (n : Nat) (w : Mm) (x : Int32) (k : Nat), x.toInt = (k : Int) → k ≤ 65 → ((∀ j, j < k → w 39 0 (kb + j) = v 36 0 (ka + j)) ∧ ∀ t i j, ¬ (t = 39 ∧ i = 0 ∧ kb ≤ j ∧ j < kb + 65) → w t i j = v t i j) → pk (g_X8_copies_36_39_L3 a b n w x) (fun z => (∀ j, j < 65 → z 39 0 (kb + j) = v 36 0 (ka + j)) ∧ ∀ t i j, ¬ (t = 39 ∧ i = 0 ∧ kb ≤ j ∧ j < kb + 65) → z t i j = v t i j) := by
    intro n
    induction n with
    | zero => intro w x k _ _ _ b e; cases e
    | succ n ih =>
      intro w x k hx hk hw
      show pk (b_X8_copies_36_39_L3 (g_X8_copies_36_39_L3 a b n) a b w x) _
      unfold b_X8_copies_36_39_L3
      refine pk_ite _ (fun c => ?_) (fun c => ?_)
      · have := i_le c
        obtain rfl : k = 65 := by omega
        exact pk_some hw
      · have := i_nle c
        refine pk_grd _ (fun _ => pk_grd _ (fun _ => pk_let (fun w1 ew1 => ?_)))
        have xa := sp_addx a x (by omega)
        have xb := sp_addx b x (by omega)
        have hca : Int32.toNatClampNeg (a + x) = ka + k := by rw [tcn]; omega
        have hcb : Int32.toNatClampNeg (b + x) = kb + k := by rw [tcn]; omega
        rw [hca, hcb] at ew1
        have e2 := sp_addx x 1 (by omega)
        refine ih w1 (x + 1) (k + 1) (by omega) (by omega) ⟨fun j hj => ?_, fun t i j hn => ?_⟩
        · by_cases q : j = k
          · rw [ew1, q, up3_s]; exact hw.2 _ _ _ (by omega)
          · rw [ew1, up3_j (by omega)]; exact hw.1 j (by omega)
        · rw [ew1]
          unfold up3
          rw [if_neg (fun q => hn ⟨q.1, q.2.1, by omega, by omega⟩)]
          exact hw.2 t i j hn
  exact loop 2000 v 0 0 (by decide) (by omega) ⟨fun j hj => absurd hj (Nat.not_lt_zero j), fun _ _ _ _ => rfl⟩
theorem p_cp3936 (v : Mm) (a b : Int32) (ka kb : Nat) (ha : a.toInt = (ka : Int)) (hb : b.toInt = (kb : Int)) (la : ka ≤ 2000) (lb : kb ≤ 2000) : pk (g_X8_copies_39_36 v a b) (fun z => (∀ j, j < 65 → z 36 0 (kb + j) = v 39 0 (ka + j)) ∧ ∀ t i j, ¬ (t = 36 ∧ i = 0 ∧ kb ≤ j ∧ j < kb + 65) → z t i j = v t i j) := by
  have e65 : (65 : Int32).toInt = 65 := by decide
  have e1 : (1 : Int32).toInt = 1 := by decide
  have loop : ∀ (n : Nat) (w : Mm) (x : Int32) (k : Nat), x.toInt = (k : Int) → k ≤ 65 → ((∀ j, j < k → w 36 0 (kb + j) = v 39 0 (ka + j)) ∧ ∀ t i j, ¬ (t = 36 ∧ i = 0 ∧ kb ≤ j ∧ j < kb + 65) → w t i j = v t i j) → pk (g_X8_copies_39_36_L3 a b n w x) (fun z => (∀ j, j < 65 → z 36 0 (kb + j) = v 39 0 (ka + j)) ∧ ∀ t i j, ¬ (t = 36 ∧ i = 0 ∧ kb ≤ j ∧ j < kb + 65) → z t i j = v t i j) := by
    intro n
    induction n with
    | zero => intro w x k _ _ _ b e; cases e
    | succ n ih =>
      intro w x k hx hk hw
      show pk (b_X8_copies_39_36_L3 (g_X8_copies_39_36_L3 a b n) a b w x) _
      unfold b_X8_copies_39_36_L3
      refine pk_ite _ (fun c => ?_) (fun c => ?_)
      · have := i_le c
        obtain rfl : k = 65 := by omega
        exact pk_some hw
      · have := i_nle c
        refine pk_grd _ (fun _ => pk_grd _ (fun _ => pk_let (fun w1 ew1 => ?_)))
        have xa := sp_addx a x (by omega)
        have xb := sp_addx b x (by omega)
        have hca : Int32.toNatClampNeg (a + x) = ka + k := by rw [tcn]; omega
        have hcb : Int32.toNatClampNeg (b + x) = kb + k := by rw [tcn]; omega
        rw [hca, hcb] at ew1
        have e2 := sp_addx x 1 (by omega)
        refine ih w1 (x + 1) (k + 1) (by omega) (by omega) ⟨fun j hj => ?_, fun t i j hn => ?_⟩
        · by_cases q : j = k
          · rw [ew1, q, up3_s]; exact hw.2 _ _ _ (by omega)
          · rw [ew1, up3_j (by omega)]; exact hw.1 j (by omega)
        · rw [ew1]
          unfold up3
          rw [if_neg (fun q => hn ⟨q.1, q.2.1, by omega, by omega⟩)]
          exact hw.2 t i j hn
  exact loop 2000 v 0 0 (by decide) (by omega) ⟨fun j hj => absurd hj (Nat.not_lt_zero j), fun _ _ _ _ => rfl⟩
theorem p_cp3640 (v : Mm) (a b : Int32) (ka kb : Nat) (ha : a.toInt = (ka : Int)) (hb : b.toInt = (kb : Int)) (la : ka ≤ 2000) (lb : kb ≤ 2000) : pk (g_X8_copies_36_40 v a b) (fun z => (∀ j, j < 65 → z 40 0 (kb + j) = v 36 0 (ka + j)) ∧ ∀ t i j, ¬ (t = 40 ∧ i = 0 ∧ kb ≤ j ∧ j < kb + 65) → z t i j = v t i j) := by
  have e65 : (65 : Int32).toInt = 65 := by decide
  have e1 : (1 : Int32).toInt = 1 := by decide
  have loop : ∀ (n : Nat) (w : Mm) (x : Int32) (k : Nat), x.toInt = (k : Int) → k ≤ 65 → ((∀ j, j < k → w 40 0 (kb + j) = v 36 0 (ka + j)) ∧ ∀ t i j, ¬ (t = 40 ∧ i = 0 ∧ kb ≤ j ∧ j < kb + 65) → w t i j = v t i j) → pk (g_X8_copies_36_40_L3 a b n w x) (fun z => (∀ j, j < 65 → z 40 0 (kb + j) = v 36 0 (ka + j)) ∧ ∀ t i j, ¬ (t = 40 ∧ i = 0 ∧ kb ≤ j ∧ j < kb + 65) → z t i j = v t i j) := by
    intro n
    induction n with
    | zero => intro w x k _ _ _ b e; cases e
    | succ n ih =>
      intro w x k hx hk hw
      show pk (b_X8_copies_36_40_L3 (g_X8_copies_36_40_L3 a b n) a b w x) _
      unfold b_X8_copies_36_40_L3
      refine pk_ite _ (fun c => ?_) (fun c => ?_)
      · have := i_le c
        obtain rfl : k = 65 := by omega
        exact pk_some hw
      · have := i_nle c
        refine pk_grd _ (fun _ => pk_grd _ (fun _ => pk_let (fun w1 ew1 => ?_)))
        have xa := sp_addx a x (by omega)
        have xb := sp_addx b x (by omega)
        have hca : Int32.toNatClampNeg (a + x) = ka + k := by rw [tcn]; omega
        have hcb : Int32.toNatClampNeg (b + x) = kb + k := by rw [tcn]; omega
        rw [hca, hcb] at ew1
        have e2 := sp_addx x 1 (by omega)
        refine ih w1 (x + 1) (k + 1) (by omega) (by omega) ⟨fun j hj => ?_, fun t i j hn => ?_⟩
        · by_cases q : j = k
          · rw [ew1, q, up3_s]; exact hw.2 _ _ _ (by omega)
          · rw [ew1, up3_j (by omega)]; exact hw.1 j (by omega)
        · rw [ew1]
          unfold up3
          rw [if_neg (fun q => hn ⟨q.1, q.2.1, by omega, by omega⟩)]
          exact hw.2 t i j hn
  exact loop 2000 v 0 0 (by decide) (by omega) ⟨fun j hj => absurd hj (Nat.not_lt_zero j), fun _ _ _ _ => rfl⟩
theorem p_cp4036 (v : Mm) (a b : Int32) (ka kb : Nat) (ha : a.toInt = (ka : Int)) (hb : b.toInt = (kb : Int)) (la : ka ≤ 2000) (lb : kb ≤ 2000) : pk (g_X8_copies_40_36 v a b) (fun z => (∀ j, j < 65 → z 36 0 (kb + j) = v 40 0 (ka + j)) ∧ ∀ t i j, ¬ (t = 36 ∧ i = 0 ∧ kb ≤ j ∧ j < kb + 65) → z t i j = v t i j) := by
  have e65 : (65 : Int32).toInt = 65 := by decide
  have e1 : (1 : Int32).toInt = 1 := by decide
  have loop : ∀ (n : Nat) (w : Mm) (x : Int32) (k : Nat), x.toInt = (k : Int) → k ≤ 65 → ((∀ j, j < k → w 36 0 (kb + j) = v 40 0 (ka + j)) ∧ ∀ t i j, ¬ (t = 36 ∧ i = 0 ∧ kb ≤ j ∧ j < kb + 65) → w t i j = v t i j) → pk (g_X8_copies_40_36_L3 a b n w x) (fun z => (∀ j, j < 65 → z 36 0 (kb + j) = v 40 0 (ka + j)) ∧ ∀ t i j, ¬ (t = 36 ∧ i = 0 ∧ kb ≤ j ∧ j < kb + 65) → z t i j = v t i j) := by
    intro n
    induction n with
    | zero => intro w x k _ _ _ b e; cases e
    | succ n ih =>
      intro w x k hx hk hw
      show pk (b_X8_copies_40_36_L3 (g_X8_copies_40_36_L3 a b n) a b w x) _
      unfold b_X8_copies_40_36_L3
      refine pk_ite _ (fun c => ?_) (fun c => ?_)
      · have := i_le c
        obtain rfl : k = 65 := by omega
        exact pk_some hw
      · have := i_nle c
        refine pk_grd _ (fun _ => pk_grd _ (fun _ => pk_let (fun w1 ew1 => ?_)))
        have xa := sp_addx a x (by omega)
        have xb := sp_addx b x (by omega)
        have hca : Int32.toNatClampNeg (a + x) = ka + k := by rw [tcn]; omega
        have hcb : Int32.toNatClampNeg (b + x) = kb + k := by rw [tcn]; omega
        rw [hca, hcb] at ew1
        have e2 := sp_addx x 1 (by omega)
        refine ih w1 (x + 1) (k + 1) (by omega) (by omega) ⟨fun j hj => ?_, fun t i j hn => ?_⟩
        · by_cases q : j = k
          · rw [ew1, q, up3_s]; exact hw.2 _ _ _ (by omega)
          · rw [ew1, up3_j (by omega)]; exact hw.1 j (by omega)
        · rw [ew1]
          unfold up3
          rw [if_neg (fun q => hn ⟨q.1, q.2.1, by omega, by omega⟩)]
          exact hw.2 t i j hn
  exact loop 2000 v 0 0 (by decide) (by omega) ⟨fun j hj => absurd hj (Nat.not_lt_zero j), fun _ _ _ _ => rfl⟩
theorem p_cp3638 (v : Mm) (a b : Int32) (ka kb : Nat) (ha : a.toInt = (ka : Int)) (hb : b.toInt = (kb : Int)) (la : ka ≤ 2000) (lb : kb ≤ 2000) : pk (g_X8_copies_36_38 v a b) (fun z => (∀ j, j < 65 → z 38 0 (kb + j) = v 36 0 (ka + j)) ∧ ∀ t i j, ¬ (t = 38 ∧ i = 0 ∧ kb ≤ j ∧ j < kb + 65) → z t i j = v t i j) := by
  have e65 : (65 : Int32).toInt = 65 := by decide
  have e1 : (1 : Int32).toInt = 1 := by decide
  have loop : ∀ (n : Nat) (w : Mm) (x : Int32) (k : Nat), x.toInt = (k : Int) → k ≤ 65 → ((∀ j, j < k → w 38 0 (kb + j) = v 36 0 (ka + j)) ∧ ∀ t i j, ¬ (t = 38 ∧ i = 0 ∧ kb ≤ j ∧ j < kb + 65) → w t i j = v t i j) → pk (g_X8_copies_36_38_L3 a b n w x) (fun z => (∀ j, j < 65 → z 38 0 (kb + j) = v 36 0 (ka + j)) ∧ ∀ t i j, ¬ (t = 38 ∧ i = 0 ∧ kb ≤ j ∧ j < kb + 65) → z t i j = v t i j) := by
    intro n
    induction n with
    | zero => intro w x k _ _ _ b e; cases e
    | succ n ih =>
      intro w x k hx hk hw
      show pk (b_X8_copies_36_38_L3 (g_X8_copies_36_38_L3 a b n) a b w x) _
      unfold b_X8_copies_36_38_L3
      refine pk_ite _ (fun c => ?_) (fun c => ?_)
      · have := i_le c
        obtain rfl : k = 65 := by omega
        exact pk_some hw
      · have := i_nle c
        refine pk_grd _ (fun _ => pk_grd _ (fun _ => pk_let (fun w1 ew1 => ?_)))
        have xa := sp_addx a x (by omega)
        have xb := sp_addx b x (by omega)
        have hca : Int32.toNatClampNeg (a + x) = ka + k := by rw [tcn]; omega
        have hcb : Int32.toNatClampNeg (b + x) = kb + k := by rw [tcn]; omega
        rw [hca, hcb] at ew1
        have e2 := sp_addx x 1 (by omega)
        refine ih w1 (x + 1) (k + 1) (by omega) (by omega) ⟨fun j hj => ?_, fun t i j hn => ?_⟩
        · by_cases q : j = k
          · rw [ew1, q, up3_s]; exact hw.2 _ _ _ (by omega)
          · rw [ew1, up3_j (by omega)]; exact hw.1 j (by omega)
        · rw [ew1]
          unfold up3
          rw [if_neg (fun q => hn ⟨q.1, q.2.1, by omega, by omega⟩)]
          exact hw.2 t i j hn
  exact loop 2000 v 0 0 (by decide) (by omega) ⟨fun j hj => absurd hj (Nat.not_lt_zero j), fun _ _ _ _ => rfl⟩
/-- where the k-th act lies in the ring -/
def slot (A K k : Nat) : Nat := (A + 24 - K + k) % 24
def RAc (vx vm : Mm) : Prop := vx 15 0 2 = vm 30 0 17 ∧ (0 ≤ (vx 15 0 1).toInt ∧ (vx 15 0 1).toInt ≤ 23) ∧ (0 ≤ (vx 15 0 2).toInt ∧ (vx 15 0 2).toInt ≤ 24) ∧ ∀ k : Nat, k < Int32.toNatClampNeg (vx 15 0 2) → RSt vx 0 vm 39 (65 * k) ∧ RMo vx (4 + slot (Int32.toNatClampNeg (vx 15 0 1)) (Int32.toNatClampNeg (vx 15 0 2)) k) vm 39 (65 * k)
def kpA (A : Nat) : Nat := if A = 23 then 0 else A + 1
def kpK (K : Nat) : Nat := if K = 24 then 24 else K + 1
theorem p_keep (v : Mm) (h1 : 0 ≤ (v 15 0 1).toInt ∧ (v 15 0 1).toInt ≤ 23) (h2 : 0 ≤ (v 15 0 2).toInt ∧ (v 15 0 2).toInt ≤ 24) : pk (g_X0_keep v 0) (fun z => (z 15 0 1).toInt = (kpA (Int32.toNatClampNeg (v 15 0 1)) : Int) ∧ (z 15 0 2).toInt = (kpK (Int32.toNatClampNeg (v 15 0 2)) : Int) ∧ ((∀ j, 4 ≤ j → j < 8 → z 10 (4 + Int32.toNatClampNeg (v 15 0 1)) j = v 10 0 j) ∧ (∀ j, j < 4 → z 11 (4 + Int32.toNatClampNeg (v 15 0 1)) j = v 11 0 j) ∧ (∀ j, j < 9 → z 12 (4 + Int32.toNatClampNeg (v 15 0 1)) j = v 12 0 j) ∧ (∀ j, j < 9 → z 13 (4 + Int32.toNatClampNeg (v 15 0 1)) j = v 13 0 j) ∧ (∀ j, j < 9 → z 14 (4 + Int32.toNatClampNeg (v 15 0 1)) j = v 14 0 j)) ∧ ∀ t i j, ¬ (i = 4 + Int32.toNatClampNeg (v 15 0 1) ∧ 10 ≤ t ∧ t ≤ 14) → t ≠ 15 → z t i j = v t i j) := by
  have e24 : (24 : Int32).toInt = 24 := by decide
  have e1 : (1 : Int32).toInt = 1 := by decide
  have e0 : (0 : Int32).toInt = 0 := by decide
  have c1 := tcn (v 15 0 1)
  have c2 := tcn (v 15 0 2)
  unfold g_X0_keep
  refine pk_grd _ (fun _ => pk_bind (p_mom v _ 0) (fun w hw => ?_))
  obtain ⟨m1, m2, m3, m4, m5, m6⟩ := hw
  have w15 : ∀ j, w 15 0 j = v 15 0 j := fun j => m6 15 0 j (by omega)
  have x1 := sp_addx (v 15 0 1) 1 (by omega)
  have x2 := sp_addx (v 15 0 2) 1 (by omega)
  have kk : ∀ (u : Mm) (y : Int32), y = (if 24 < (u 15 0 2) + 1 then 24 else (u 15 0 2) + 1) → u 15 0 2 = v 15 0 2 → y.toInt = (kpK (Int32.toNatClampNeg (v 15 0 2)) : Int) := by
    intro u y hy hu
    rw [hu] at hy
    unfold kpK
    rw [hy]
    by_cases q : 24 < v 15 0 2 + 1
    · have := i_lt q
      rw [if_pos q, if_pos (by omega)]; exact e24
    · have := i_nlt q
      rw [if_neg q, if_neg (by omega)]; omega
  have aa : ∀ y : Int32, (24 ≤ v 15 0 1 + 1 ∧ y = 0) ∨ (¬ 24 ≤ v 15 0 1 + 1 ∧ y = v 15 0 1 + 1) → y.toInt = (kpA (Int32.toNatClampNeg (v 15 0 1)) : Int) := by
    intro y hy
    unfold kpA
    rcases hy with ⟨q, rfl⟩ | ⟨q, rfl⟩
    · have := i_le q
      rw [if_pos (by omega)]; exact e0
    · have := i_nle q
      rw [if_neg (by omega)]; omega
  have fin : ∀ (y x : Int32) (u z : Mm), u = up3 w 15 0 1 y → z = up3 u 15 0 2 x → ((24 ≤ v 15 0 1 + 1 ∧ y = 0) ∨ (¬ 24 ≤ v 15 0 1 + 1 ∧ y = v 15 0 1 + 1)) → x = (if 24 < (u 15 0 2) + 1 then 24 else (u 15 0 2) + 1) → (z 15 0 1).toInt = (kpA (Int32.toNatClampNeg (v 15 0 1)) : Int) ∧ (z 15 0 2).toInt = (kpK (Int32.toNatClampNeg (v 15 0 2)) : Int) ∧ ((∀ j, 4 ≤ j → j < 8 → z 10 (4 + Int32.toNatClampNeg (v 15 0 1)) j = v 10 0 j) ∧ (∀ j, j < 4 → z 11 (4 + Int32.toNatClampNeg (v 15 0 1)) j = v 11 0 j) ∧ (∀ j, j < 9 → z 12 (4 + Int32.toNatClampNeg (v 15 0 1)) j = v 12 0 j) ∧ (∀ j, j < 9 → z 13 (4 + Int32.toNatClampNeg (v 15 0 1)) j = v 13 0 j) ∧ (∀ j, j < 9 → z 14 (4 + Int32.toNatClampNeg (v 15 0 1)) j = v 14 0 j)) ∧ ∀ t i j, ¬ (i = 4 + Int32.toNatClampNeg (v 15 0 1) ∧ 10 ≤ t ∧ t ≤ 14) → t ≠ 15 → z t i j = v t i j := by
    intro y x u z eu ez hy hx
    have u2 : u 15 0 2 = v 15 0 2 := by rw [eu, up3_j (by decide)]; exact w15 2
    have zt : ∀ t i j, t ≠ 15 → z t i j = w t i j := fun t i j h => by rw [ez, up3_t h, eu, up3_t h]
    refine ⟨?_, ?_, ⟨fun j k1 k2 => ?_, fun j k1 => ?_, fun j k1 => ?_, fun j k1 => ?_, fun j k1 => ?_⟩, fun t i j k1 k2 => ?_⟩
    · rw [ez, up3_j (by decide), eu, up3_s]; exact aa y hy
    · rw [ez, up3_s]; exact kk u x hx u2
    · rw [zt _ _ _ (by decide)]; exact m1 j k1 k2
    · rw [zt _ _ _ (by decide)]; exact m2 j k1
    · rw [zt _ _ _ (by decide)]; exact m3 j k1
    · rw [zt _ _ _ (by decide)]; exact m4 j k1
    · rw [zt _ _ _ (by decide)]; exact m5 j k1
    · rw [zt _ _ _ k2]; exact m6 t i j k1
  rw [w15]
  refine pk_ite _ (fun q => ?_) (fun q => ?_)
  · refine pk_let (fun u eu => pk_let (fun x ex => pk_let (fun z ez => pk_some ?_)))
    exact fin 0 x u z eu ez (Or.inl ⟨q, rfl⟩) ex
  · refine pk_let (fun u eu => pk_let (fun x ex => pk_let (fun z ez => pk_some ?_)))
    exact fin _ x u z eu ez (Or.inr ⟨q, rfl⟩) ex
/-- what the reference notes: 23 rows shifted where 24 are full -/
theorem p_notes (v : Mm) (h2 : 0 ≤ (v 30 0 17).toInt ∧ (v 30 0 17).toInt ≤ 24) : pk (g_X8_notes v) (fun z => (z 30 0 17).toInt = (kpK (Int32.toNatClampNeg (v 30 0 17)) : Int) ∧ (∀ j, j < 65 → z 39 0 (65 * (kpK (Int32.toNatClampNeg (v 30 0 17)) - 1) + j) = v 36 0 j) ∧ (∀ j, j < 65 * (kpK (Int32.toNatClampNeg (v 30 0 17)) - 1) → z 39 0 j = v 39 0 (if Int32.toNatClampNeg (v 30 0 17) = 24 then j + 65 else j)) ∧ ∀ t i j, t ≠ 39 → ¬ (t = 30 ∧ i = 0 ∧ j = 17) → z t i j = v t i j) := by
  have e24 : (24 : Int32).toInt = 24 := by decide
  have e1 : (1 : Int32).toInt = 1 := by decide
  have e0 : (0 : Int32).toInt = 0 := by decide
  have e65 : (65 : Int32).toInt = 65 := by decide
  have e1495 : (1495 : Int32).toInt = 1495 := by decide
  have c2 := tcn (v 30 0 17)
  unfold g_X8_notes
  refine pk_ite _ (fun q => ?_) (fun q => ?_)
  · have q' : (v 30 0 17).toInt = 24 := by rw [q]; exact e24
    have k24 : Int32.toNatClampNeg (v 30 0 17) = 24 := by omega
    rw [k24]
    show pk _ (fun z : Mm => (z 30 0 17).toInt = (24 : Int) ∧ (∀ j, j < 65 → z 39 0 (65 * (24 - 1) + j) = v 36 0 j) ∧ (∀ j, j < 65 * (24 - 1) → z 39 0 j = v 39 0 (j + 65)) ∧ ∀ t i j, t ≠ 39 → ¬ (t = 30 ∧ i = 0 ∧ j = 17) → z t i j = v t i j)
    have loop : ∀ (n : Nat) (w : Mm) (x : Int32) (k : Nat), x.toInt = (k : Int) → k ≤ 1495 → ((∀ j, j < k → w 39 0 j = v 39 0 (j + 65)) ∧ (∀ j, k ≤ j → w 39 0 j = v 39 0 j) ∧ ∀ t i j, t ≠ 39 → w t i j = v t i j) → pk (g_X8_notes_L11 n w x) (fun z => (z 30 0 17).toInt = (24 : Int) ∧ (∀ j, j < 65 → z 39 0 (65 * (24 - 1) + j) = v 36 0 j) ∧ (∀ j, j < 65 * (24 - 1) → z 39 0 j = v 39 0 (j + 65)) ∧ ∀ t i j, t ≠ 39 → ¬ (t = 30 ∧ i = 0 ∧ j = 17) → z t i j = v t i j) := by
      intro n
      induction n with
      | zero => intro w x k _ _ _ b e; cases e
      | succ n ih =>
        intro w x k hx hk hw
        show pk (b_X8_notes_L11 (g_X8_notes_L11 n) w x) _
        unfold b_X8_notes_L11
        refine pk_ite _ (fun c => ?_) (fun c => ?_)
        · have := i_le c
          obtain rfl : k = 1495 := by omega
          refine pk_let (fun u eu => ?_)
          have w17 : w 30 0 17 = v 30 0 17 := hw.2.2 _ _ _ (by decide)
          have s1 := sp_subx (v 30 0 17) 1 (by omega)
          have u17 : u 30 0 17 = v 30 0 17 - 1 := by rw [eu, up3_s, w17]
          have s2 := sp_cmulx 65 (u 30 0 17) 65 e65 (by rw [u17]; omega)
          refine pk_bind (p_cp3639 u 0 ((65 : Int32) * (u 30 0 17)) 0 1495 (by decide) (by rw [s2, u17]; omega) (by omega) (by omega)) (fun z hz => pk_let (fun z2 ez2 => pk_some ?_))
          have z17 : z 30 0 17 = v 30 0 17 - 1 := by rw [hz.2 _ _ _ (by omega), u17]
          have s3 := sp_addx (v 30 0 17 - 1) 1 (by omega)
          refine ⟨?_, fun j hj => ?_, fun j hj => ?_, fun t i j n1 n2 => ?_⟩
          · rw [ez2, up3_s, z17]; omega
          · rw [ez2, up3_t (by decide), show 65 * (24 - 1) + j = 1495 + j from rfl, hz.1 j hj, eu, up3_t (by decide), Nat.zero_add]
            exact hw.2.2 _ _ _ (by decide)
          · rw [ez2, up3_t (by decide), hz.2 _ _ _ (by omega), eu, up3_t (by decide)]; exact hw.1 j (by omega)
          · rw [ez2]
            unfold up3
            rw [if_neg n2, hz.2 _ _ _ (by omega), eu]
            unfold up3
            rw [if_neg n2]
            exact hw.2.2 _ _ _ n1
        · have := i_nle c
          refine pk_grd _ (fun _ => pk_grd _ (fun _ => pk_let (fun w1 ew1 => ?_)))
          have xa := sp_addx x 65 (by omega)
          have xb := sp_addx x 1 (by omega)
          have hca : Int32.toNatClampNeg (x + 65) = k + 65 := by rw [tcn]; omega
          have hcb : Int32.toNatClampNeg x = k := by rw [tcn]; omega
          rw [hca, hcb] at ew1
          refine ih w1 (x + 1) (k + 1) (by omega) (by omega) ⟨fun j hj => ?_, fun j hj => ?_, fun t i j n1 => ?_⟩
          · by_cases p : j = k
            · rw [ew1, p, up3_s]; exact hw.2.1 _ (by omega)
            · rw [ew1, up3_j p]; exact hw.1 j (by omega)
          · rw [ew1, up3_j (by omega)]; exact hw.2.1 j (by omega)
          · rw [ew1, up3_t n1]; exact hw.2.2 t i j n1
    exact loop 2000 v 0 0 (by decide) (by omega) ⟨fun j hj => absurd hj (Nat.not_lt_zero j), fun _ _ => rfl, fun _ _ _ _ => rfl⟩
  · have n24 : ¬ Int32.toNatClampNeg (v 30 0 17) = 24 := fun p => q (Int32.toInt_inj.mp (by omega))
    have kk : kpK (Int32.toNatClampNeg (v 30 0 17)) = Int32.toNatClampNeg (v 30 0 17) + 1 := if_neg n24
    rw [kk]
    have s2 := sp_cmulx 65 (v 30 0 17) 65 e65 (by omega)
    refine pk_bind (p_cp3639 v 0 ((65 : Int32) * (v 30 0 17)) 0 (65 * Int32.toNatClampNeg (v 30 0 17)) (by decide) (by rw [s2]; omega) (by omega) (by omega)) (fun z hz => pk_let (fun z2 ez2 => pk_some ?_))
    have z17 : z 30 0 17 = v 30 0 17 := hz.2 _ _ _ (by omega)
    have s3 := sp_addx (v 30 0 17) 1 (by omega)
    refine ⟨?_, fun j hj => ?_, fun j hj => ?_, fun t i j n1 n2 => ?_⟩
    · rw [ez2, up3_s, z17]; omega
    · rw [ez2, up3_t (by decide), Nat.add_sub_cancel, hz.1 j hj, Nat.zero_add]
    · rw [if_neg n24, ez2, up3_t (by decide), hz.2 _ _ _ (by omega)]
    · rw [ez2]
      unfold up3
      rw [if_neg n2]
      exact hz.2 _ _ _ (by omega)
theorem slot_lt (A K k : Nat) : slot A K k < 24 := Nat.mod_lt _ (by decide)
theorem slot_keep {A K k : Nat} (hA : A < 24) (hK : K < 24) (hk : k < K) : slot (kpA A) (K + 1) k = slot A K k ∧ slot A K k ≠ A := by
  unfold slot kpA
  split <;> omega
theorem slot_keepN {A K : Nat} (hA : A < 24) (hK : K < 24) : slot (kpA A) (K + 1) K = A := by
  unfold slot kpA
  split <;> omega
theorem slot_full {A k : Nat} (hA : A < 24) (hk : k < 23) : slot (kpA A) 24 k = slot A 24 (k + 1) ∧ slot A 24 (k + 1) ≠ A := by
  unfold slot kpA
  split <;> omega
theorem slot_fullN {A : Nat} (hA : A < 24) : slot (kpA A) 24 23 = A := by
  unfold slot kpA
  split <;> omega
/-- an act is noted on both sides -/
theorem r_note {vx vm : Mm} (hS : RSt vx 0 vm 36 0) (hM : RMo vx 0 vm 36 0) (hA : RAc vx vm) : rel (g_X0_keep vx 0) (g_X8_notes vm) (fun a b => RAc a b ∧ (∀ t i j, ¬ (4 ≤ i ∧ 10 ≤ t ∧ t ≤ 14) → t ≠ 15 → a t i j = vx t i j) ∧ ∀ t i j, t ≠ 39 → ¬ (t = 30 ∧ i = 0 ∧ j = 17) → b t i j = vm t i j) := by
  obtain ⟨a1, a2, a3, a4⟩ := hA
  intro z w ez ew
  obtain ⟨z1, z2, z3, z4⟩ := p_keep vx a2 a3 z ez
  obtain ⟨w1, w2, w3, w4⟩ := p_notes vm (by rw [← a1]; exact a3) w ew
  rw [← a1] at w1 w2 w3
  have cA := tcn (vx 15 0 1)
  have cK := tcn (vx 15 0 2)
  have cz1 := tcn (z 15 0 1)
  have cz2 := tcn (z 15 0 2)
  obtain ⟨A, eA⟩ : ∃ A, A = Int32.toNatClampNeg (vx 15 0 1) := ⟨_, rfl⟩
  obtain ⟨K, eK⟩ : ∃ K, K = Int32.toNatClampNeg (vx 15 0 2) := ⟨_, rfl⟩
  rw [← eA] at z1 z3 z4 a4
  rw [← eK] at z2 w1 w2 w3 a4
  have lA : A < 24 := by omega
  have lK : K ≤ 24 := by omega
  have kA : kpA A < 24 := by unfold kpA; split <;> omega
  have kK : kpK K ≤ 24 ∧ 1 ≤ kpK K := by unfold kpK; split <;> omega
  have eA2 : Int32.toNatClampNeg (z 15 0 1) = kpA A := by omega
  have eK2 : Int32.toNatClampNeg (z 15 0 2) = kpK K := by omega
  refine ⟨⟨Int32.toInt_inj.mp (by rw [z2, w1]), by omega, by omega, fun k hk => ?_⟩, fun t i j h1 h2 => z4 t i j (by omega) h2, w4⟩
  rw [eK2] at hk
  rw [eA2, eK2]
  -- the gate's told part doesn't change
  have st : ∀ (o o2 : Nat) (um : Mm) (t2 : Nat), RSt vx 0 um t2 o → (∀ j, j < 65 → w 39 0 (o2 + j) = um t2 0 (o + j)) → RSt z 0 w 39 o2 := fun o o2 um t2 h hm =>
    h.mv (fun j _ _ => z4 6 0 j (by omega) (by decide)) (fun j _ => z4 7 0 j (by omega) (by decide)) (fun j _ => z4 8 0 j (by omega) (by decide)) (fun j _ => z4 9 0 j (by omega) (by decide)) (fun j h => hm j (by unfold stc at h; omega))
  have mo : ∀ (i2 o o2 : Nat) (um : Mm) (t2 : Nat), i2 ≠ 4 + A → RMo vx i2 um t2 o → (∀ j, j < 65 → w 39 0 (o2 + j) = um t2 0 (o + j)) → RMo z i2 w 39 o2 := fun i2 o o2 um t2 hi h hm =>
    h.mv (fun j _ _ => z4 10 i2 j (fun q => hi q.1) (by decide)) (fun j _ => z4 11 i2 j (fun q => hi q.1) (by decide)) (fun j _ => z4 12 i2 j (fun q => hi q.1) (by decide)) (fun j _ => z4 13 i2 j (fun q => hi q.1) (by decide)) (fun j _ => z4 14 i2 j (fun q => hi q.1) (by decide)) hm
  have mN : ∀ o2 : Nat, (∀ j, j < 65 → w 39 0 (o2 + j) = vm 36 0 j) → RMo z (4 + A) w 39 o2 := fun o2 hm =>
    hM.mv (fun j h1 h2 => z3.1 j h1 h2) (fun j h => z3.2.1 j h) (fun j h => z3.2.2.1 j h) (fun j h => z3.2.2.2.1 j h) (fun j h => z3.2.2.2.2 j h) (fun j h => by rw [hm j h, Nat.zero_add])
  by_cases q24 : K = 24
  · have ek : kpK K = 24 := if_pos q24
    rw [ek] at hk w2 w3 ⊢
    have w3 : ∀ j, j < 65 * (24 - 1) → w 39 0 j = vm 39 0 (j + 65) := fun j hj => by
      have h := w3 j hj
      rw [if_pos q24] at h; exact h
    by_cases qk : k = 23
    · subst qk
      rw [slot_fullN lA]
      exact ⟨st 0 _ vm 36 hS (fun j hj => by rw [Nat.zero_add]; exact w2 j hj), mN _ w2⟩
    · obtain ⟨s1, s2⟩ := slot_full (k := k) lA (by omega)
      obtain ⟨p1, p2⟩ := a4 (k + 1) (by omega)
      rw [q24] at p2
      have hm : ∀ j, j < 65 → w 39 0 (65 * k + j) = vm 39 0 (65 * (k + 1) + j) := fun j hj => by
        rw [w3 (65 * k + j) (by omega)]
        congr 1
        omega
      rw [s1]
      exact ⟨st _ _ vm 39 p1 hm, mo _ _ _ vm 39 (by omega) p2 hm⟩
  · have ek : kpK K = K + 1 := if_neg q24
    rw [ek] at hk w2 w3 ⊢
    have w3 : ∀ j, j < 65 * (K + 1 - 1) → w 39 0 j = vm 39 0 j := fun j hj => by
      have h := w3 j hj
      rw [if_neg q24] at h; exact h
    rw [Nat.add_sub_cancel] at w2 w3
    by_cases qk : k = K
    · subst qk
      rw [slot_keepN lA (by omega)]
      exact ⟨st 0 _ vm 36 hS (fun j hj => by rw [Nat.zero_add]; exact w2 j hj), mN _ w2⟩
    · obtain ⟨s1, s2⟩ := slot_keep (A := A) (K := K) (k := k) lA (by omega) (by omega)
      obtain ⟨p1, p2⟩ := a4 k (by omega)
      have hm : ∀ j, j < 65 → w 39 0 (65 * k + j) = vm 39 0 (65 * k + j) := fun j hj => w3 _ (by omega)
      rw [s1]
      exact ⟨st _ _ vm 39 p1 hm, mo _ _ _ vm 39 (by omega) p2 hm⟩
/-! undo -/
def bkA (A : Nat) : Nat := if A = 0 then 23 else A - 1
theorem slot_back {A K k : Nat} (hA : A < 24) (hK : K ≤ 24) (hk : k < K - 1) : slot (bkA A) (K - 1) k = slot A K k := by
  unfold slot bkA
  split <;> omega
theorem slot_last {A K : Nat} (hA : A < 24) (hK : K ≤ 24) (h1 : 1 ≤ K) : slot A K (K - 1) = bkA A := by
  unfold slot bkA
  split <;> omega
theorem p_back (v : Mm) (h1 : 0 ≤ (v 15 0 1).toInt ∧ (v 15 0 1).toInt ≤ 23) (h2 : 0 < (v 15 0 2).toInt ∧ (v 15 0 2).toInt ≤ 24) : pk (g_X0_takeBack v 0) (fun z => z.1 = 1 ∧ (z.2 15 0 1).toInt = (bkA (Int32.toNatClampNeg (v 15 0 1)) : Int) ∧ z.2 15 0 2 = v 15 0 2 - 1 ∧ ((∀ j, 4 ≤ j → j < 8 → z.2 10 0 j = v 10 (4 + bkA (Int32.toNatClampNeg (v 15 0 1))) j) ∧ (∀ j, j < 4 → z.2 11 0 j = v 11 (4 + bkA (Int32.toNatClampNeg (v 15 0 1))) j) ∧ (∀ j, j < 9 → z.2 12 0 j = v 12 (4 + bkA (Int32.toNatClampNeg (v 15 0 1))) j) ∧ (∀ j, j < 9 → z.2 13 0 j = v 13 (4 + bkA (Int32.toNatClampNeg (v 15 0 1))) j) ∧ (∀ j, j < 9 → z.2 14 0 j = v 14 (4 + bkA (Int32.toNatClampNeg (v 15 0 1))) j)) ∧ ∀ t i j, ¬ (i = 0 ∧ 10 ≤ t ∧ t ≤ 14) → t ≠ 15 → z.2 t i j = v t i j) := by
  have e1 : (1 : Int32).toInt = 1 := by decide
  have e0 : (0 : Int32).toInt = 0 := by decide
  have e23 : (23 : Int32).toInt = 23 := by decide
  have c1 := tcn (v 15 0 1)
  unfold g_X0_takeBack
  rw [if_neg (nz (by omega))]
  have fin : ∀ (y : Int32) (u w : Mm), u = up3 v 15 0 1 y → w = up3 u 15 0 2 ((u 15 0 2) - 1) → y.toInt = (bkA (Int32.toNatClampNeg (v 15 0 1)) : Int) → pk (if w 15 0 1 < 0 ∨ 24 ≤ Int32.toNatClampNeg (w 15 0 1) then none else (Option.bind (g_X4_become w 0 (4 + (Int32.toNatClampNeg (w 15 0 1)))) (fun v8 => some ((1 : Int32), v8)))) (fun z => z.1 = 1 ∧ (z.2 15 0 1).toInt = (bkA (Int32.toNatClampNeg (v 15 0 1)) : Int) ∧ z.2 15 0 2 = v 15 0 2 - 1 ∧ ((∀ j, 4 ≤ j → j < 8 → z.2 10 0 j = v 10 (4 + bkA (Int32.toNatClampNeg (v 15 0 1))) j) ∧ (∀ j, j < 4 → z.2 11 0 j = v 11 (4 + bkA (Int32.toNatClampNeg (v 15 0 1))) j) ∧ (∀ j, j < 9 → z.2 12 0 j = v 12 (4 + bkA (Int32.toNatClampNeg (v 15 0 1))) j) ∧ (∀ j, j < 9 → z.2 13 0 j = v 13 (4 + bkA (Int32.toNatClampNeg (v 15 0 1))) j) ∧ (∀ j, j < 9 → z.2 14 0 j = v 14 (4 + bkA (Int32.toNatClampNeg (v 15 0 1))) j)) ∧ ∀ t i j, ¬ (i = 0 ∧ 10 ≤ t ∧ t ≤ 14) → t ≠ 15 → z.2 t i j = v t i j) := by
    intro y u w eu ew hy
    have w1 : w 15 0 1 = y := by rw [ew, up3_j (by decide), eu]; exact up3_s
    have w2 : w 15 0 2 = v 15 0 2 - 1 := by rw [ew, up3_s, eu, up3_j (by decide)]
    have wt : ∀ t i j, t ≠ 15 → w t i j = v t i j := fun t i j h => by rw [ew, up3_t h, eu, up3_t h]
    have cy : Int32.toNatClampNeg y = bkA (Int32.toNatClampNeg (v 15 0 1)) := by rw [tcn, hy]; omega
    refine pk_grd _ (fun _ => ?_)
    rw [w1, cy]
    refine pk_bind (p_mom w 0 _) (fun z hz => pk_some ?_)
    obtain ⟨m1, m2, m3, m4, m5, m6⟩ := hz
    refine ⟨rfl, ?_, ?_, ⟨fun j k1 k2 => ?_, fun j k1 => ?_, fun j k1 => ?_, fun j k1 => ?_, fun j k1 => ?_⟩, fun t i j k1 k2 => ?_⟩
    · show (z 15 0 1).toInt = _
      rw [m6 15 0 1 (by omega), w1]; exact hy
    · show z 15 0 2 = _
      rw [m6 15 0 2 (by omega), w2]
    · show z 10 0 j = _
      rw [m1 j k1 k2, wt _ _ _ (by decide)]
    · show z 11 0 j = _
      rw [m2 j k1, wt _ _ _ (by decide)]
    · show z 12 0 j = _
      rw [m3 j k1, wt _ _ _ (by decide)]
    · show z 13 0 j = _
      rw [m4 j k1, wt _ _ _ (by decide)]
    · show z 14 0 j = _
      rw [m5 j k1, wt _ _ _ (by decide)]
    · show z t i j = _
      rw [m6 t i j k1, wt _ _ _ k2]
  refine pk_ite _ (fun q => ?_) (fun q => ?_)
  · have := i_le q
    refine pk_let (fun u eu => pk_let (fun w ew => ?_))
    exact fin 23 u w eu ew (by unfold bkA; rw [if_pos (by omega), e23]; rfl)
  · have := i_nle q
    have s1 := sp_subx (v 15 0 1) 1 (by omega)
    refine pk_let (fun u eu => pk_let (fun w ew => ?_))
    exact fin _ u w eu ew (by unfold bkA; rw [if_neg (by omega), s1]; omega)
theorem r_undo {vx vm : Mm} (hS : RSt vx 0 vm 36 0) (hM : RMo vx 0 vm 36 0) (hA : RAc vx vm) : rel (g_X7_undo vx) (g_X8_undo vm) (fun a b => a.1 = b.1 ∧ RSt a.2 0 b.2 36 0 ∧ RMo a.2 0 b.2 36 0 ∧ RAc a.2 b.2 ∧ (∀ t i j, ¬ (i = 0 ∧ 10 ≤ t ∧ t ≤ 14) → t ≠ 15 → a.2 t i j = vx t i j) ∧ ∀ t i j, t ≠ 36 → ¬ (t = 30 ∧ i = 0 ∧ j = 17) → b.2 t i j = vm t i j) := by
  have e1 : (1 : Int32).toInt = 1 := by decide
  have e0 : (0 : Int32).toInt = 0 := by decide
  have e65 : (65 : Int32).toInt = 65 := by decide
  obtain ⟨a1, a2, a3, a4⟩ := id hA
  unfold g_X7_undo g_X8_undo
  rw [← a1]
  by_cases q : vx 15 0 2 = 0
  · rw [if_pos q]
    unfold g_X0_takeBack
    rw [if_pos q, kb2_sm, if_pos rfl]
    exact rel_some ⟨rfl, hS, hM, hA, fun _ _ _ _ _ => rfl, fun _ _ _ _ _ => rfl⟩
  · have qn : ¬ (vx 15 0 2).toInt = 0 := i_ne q
    rw [if_neg q]
    refine rel_kb2L (p_back vx a2 ⟨by omega, a3.2⟩) (fun r z hz => ?_)
    obtain ⟨z1, z2, z3, z4, z5⟩ := hz
    have z1 : r = 1 := z1
    have z2 : (z 15 0 1).toInt = (bkA (Int32.toNatClampNeg (vx 15 0 1)) : Int) := z2
    have z3 : z 15 0 2 = vx 15 0 2 - 1 := z3
    rw [z1, if_neg (by decide)]
    refine rel_letR (fun u eu => ?_)
    have u17 : u 30 0 17 = vx 15 0 2 - 1 := by rw [eu]; exact up3_s
    have s1 := sp_subx (vx 15 0 2) 1 (by omega)
    have s2 := sp_cmulx 65 (u 30 0 17) 65 e65 (by rw [u17]; omega)
    have cA := tcn (vx 15 0 1)
    have cK := tcn (vx 15 0 2)
    refine rel_bindR (p_cp3936 u ((65 : Int32) * (u 30 0 17)) 0 (65 * (Int32.toNatClampNeg (vx 15 0 2) - 1)) 0 (by rw [s2, u17]; omega) (by decide) (by omega) (by omega)) (fun w hw => ?_)
    obtain ⟨w1, w2⟩ := hw
    have ut : ∀ t i j, ¬ (t = 30 ∧ i = 0 ∧ j = 17) → u t i j = vm t i j := fun t i j h => by
      rw [eu]; unfold up3; exact if_neg h
    have wt : ∀ t i j, t ≠ 36 → ¬ (t = 30 ∧ i = 0 ∧ j = 17) → w t i j = vm t i j := fun t i j h1 h2 => by
      rw [w2 t i j (fun q => h1 q.1)]; exact ut t i j h2
    have w36 : ∀ j, j < 65 → w 36 0 (0 + j) = vm 39 0 (65 * (Int32.toNatClampNeg (vx 15 0 2) - 1) + j) := fun j hj => by
      rw [w1 j hj]; exact ut _ _ _ (by omega)
    obtain ⟨p1, p2⟩ := a4 (Int32.toNatClampNeg (vx 15 0 2) - 1) (by omega)
    rw [slot_last (by omega) (by omega) (by omega)] at p2
    have w17 : w 30 0 17 = vx 15 0 2 - 1 := by rw [w2 _ _ _ (by omega)]; exact u17
    have cz1 := tcn (z 15 0 1)
    have cz2 := tcn (z 15 0 2)
    have lb : bkA (Int32.toNatClampNeg (vx 15 0 1)) < 24 := by unfold bkA; split <;> omega
    refine rel_some ⟨?_, ?_, ?_, ⟨?_, ?_, ?_, fun k hk => ?_⟩, ?_, wt⟩
    · show z 15 0 2 = w 30 0 17
      rw [z3, w17]
    · exact p1.mv (fun j _ _ => z5 6 0 j (by omega) (by decide)) (fun j _ => z5 7 0 j (by omega) (by decide)) (fun j _ => z5 8 0 j (by omega) (by decide)) (fun j _ => z5 9 0 j (by omega) (by decide)) (fun j h => w36 j (by unfold stc at h; omega))
    · exact p2.mv (fun j h1 h2 => z4.1 j h1 h2) (fun j h => z4.2.1 j h) (fun j h => z4.2.2.1 j h) (fun j h => z4.2.2.2.1 j h) (fun j h => z4.2.2.2.2 j h) w36
    · show z 15 0 2 = w 30 0 17
      rw [z3, w17]
    · show 0 ≤ (z 15 0 1).toInt ∧ (z 15 0 1).toInt ≤ 23
      omega
    · show 0 ≤ (z 15 0 2).toInt ∧ (z 15 0 2).toInt ≤ 24
      rw [z3]; omega
    · have hk : k < Int32.toNatClampNeg (z 15 0 2) := hk
      have ek : Int32.toNatClampNeg (z 15 0 2) = Int32.toNatClampNeg (vx 15 0 2) - 1 := by rw [cz2, z3, s1, cK]; omega
      have eA : Int32.toNatClampNeg (z 15 0 1) = bkA (Int32.toNatClampNeg (vx 15 0 1)) := by omega
      show RSt z 0 w 39 (65 * k) ∧ RMo z (4 + slot (Int32.toNatClampNeg (z 15 0 1)) (Int32.toNatClampNeg (z 15 0 2)) k) w 39 (65 * k)
      rw [ek] at hk
      rw [ek, eA, slot_back (by omega) (by omega) hk]
      obtain ⟨r1, r2⟩ := a4 k (by omega)
      have hm : ∀ j, j < 65 → w 39 0 (65 * k + j) = vm 39 0 (65 * k + j) := fun j _ => wt _ _ _ (by decide) (by omega)
      refine ⟨r1.mv (fun j _ _ => z5 6 0 j (by omega) (by decide)) (fun j _ => z5 7 0 j (by omega) (by decide)) (fun j _ => z5 8 0 j (by omega) (by decide)) (fun j _ => z5 9 0 j (by omega) (by decide)) (fun j h => hm j (by unfold stc at h; omega)), r2.mv (fun j _ _ => z5 10 _ j (by omega) (by decide)) (fun j _ => z5 11 _ j (by omega) (by decide)) (fun j _ => z5 12 _ j (by omega) (by decide)) (fun j _ => z5 13 _ j (by omega) (by decide)) (fun j _ => z5 14 _ j (by omega) (by decide)) hm⟩
    · intro t i j h1 h2
      exact z5 t i j h1 h2
