theorem sp_remt {a b : Int32} (ha : -1000 ≤ a.toInt ∧ a.toInt ≤ 1000) (hb : -1000 ≤ b.toInt ∧ b.toInt ≤ 1000) (h0 : ¬ b.toInt = 0) : (a - a / b * b).toInt.natAbs < b.toInt.natAbs ∧ -1000 ≤ (a - a / b * b).toInt ∧ (a - a / b * b).toInt ≤ 1000 := by
  have n1 : (a.toInt.tdiv b.toInt).natAbs = a.toInt.natAbs / b.toInt.natAbs := Int.natAbs_tdiv _ _
  have n2 : a.toInt.natAbs / b.toInt.natAbs ≤ a.toInt.natAbs := Nat.div_le_self _ _
  have n3 : (a.toInt.tmod b.toInt).natAbs = a.toInt.natAbs % b.toInt.natAbs := Int.natAbs_tmod _ _
  have n4 : a.toInt.natAbs % b.toInt.natAbs < b.toInt.natAbs := Nat.mod_lt _ (by omega)
  have n5 : b.toInt * (a.toInt.tdiv b.toInt) + a.toInt.tmod b.toInt = a.toInt := Int.mul_tdiv_add_tmod _ _
  have e1 : (a / b).toInt = a.toInt.tdiv b.toInt := by
    rw [Int32.toInt_div]
    generalize a.toInt.tdiv b.toInt = z at *
    unfold Int.bmod
    simp only []
    split <;> omega
  obtain ⟨k, h⟩ := i_bmod ((a / b).toInt * b.toInt)
  have e6 : (a / b * b).toInt = (a / b).toInt * b.toInt + 4294967296 * k := by rw [Int32.toInt_mul]; exact h
  have e7 := i_bd (a / b * b)
  obtain ⟨k2, h8, h9, h10⟩ := sp_sub a (a / b * b)
  rw [e1, Int.mul_comm] at e6
  generalize b.toInt * (a.toInt.tdiv b.toInt) = z at *
  have e8 : (a - a / b * b).toInt = a.toInt.tmod b.toInt := by omega
  rw [e8]
  omega
set_option maxHeartbeats 4000000 in
theorem k_X8_sure (v : Mm) (hI_v : IM v) (a1 : Int32) (a2 : Int32) (a3 : Int32) (a4 : Int32) : ok (g_X8_sure v a1 a2 a3 a4) (fun z => True) := by
  have e0 : (0 : Int32).toInt = 0 := by decide
  have e1 : (1 : Int32).toInt = 1 := by decide
  have e10 : (10 : Int32).toInt = 10 := by decide
  have hg : ((v 36 0 3).toInt = 0 ∧ (v 36 0 4).toInt = 0) ∨ (0 < (v 36 0 3).toInt ∧ 0 < (v 36 0 4).toInt) := hI_v.2.1
  have loop : ∀ (n : Nat) (x5 x6 x7 x8 x9 x10 : Int32), -1000 ≤ x9.toInt ∧ x9.toInt ≤ 1000 → -1000 ≤ x10.toInt ∧ x10.toInt ≤ 1000 → ¬ (x9.toInt = 0 ∧ x10.toInt = 0) → x10.toInt.natAbs < n → ok (g_X8_sure_L102 v a1 a2 a3 a4 n x5 x6 x7 x8 x9 x10) (fun z => True) := by
    intro n
    induction n with
    | zero => intro x5 x6 x7 x8 x9 x10 h1 h2 h3 h4; exfalso; omega
    | succ n ih =>
      intro x5 x6 x7 x8 x9 x10 h1 h2 h3 h4
      show ok (b_X8_sure_L102 (g_X8_sure_L102 v a1 a2 a3 a4 n) v a1 a2 a3 a4 x5 x6 x7 x8 x9 x10) _
      unfold b_X8_sure_L102
      refine ok_ite _ (fun c1 => ?_) (fun c1 => ?_)
      · have i1 := i_eq c1
        exact ok_ite _ (fun _ => ok_grd _ (nz (by omega)) (ok_some trivial)) (fun _ => ok_grd _ (nz (by omega)) (ok_some trivial))
      · have i1 := i_ne c1
        refine ok_grd _ c1 ?_
        have r := sp_remt h1 h2 (by omega)
        exact ih _ _ _ _ _ _ h2 r.2 (by omega) (by omega)
  unfold g_X8_sure
  refine ok_bind (k_X8_isWord v hI_v a1) (fun r2 h2 => ?_)
  refine ok_ite _ (fun c1 => ok_some trivial) (fun c1 => ?_)
  refine ok_bind (k_X8_isHour v hI_v a2) (fun r6 h6 => ?_)
  refine ok_ite _ (fun c2 => ok_some trivial) (fun c2 => ?_)
  refine ok_bind (k_X8_in v hI_v a3 0 10) (fun r10 h10 => ?_)
  refine ok_ite _ (fun c3 => ok_some trivial) (fun c3 => ?_)
  refine ok_bind (k_X8_in v hI_v a4 0 1) (fun r14 h14 => ?_)
  refine ok_ite _ (fun c4 => ok_some trivial) (fun c4 => ?_)
  have i1 := i_ne c1
  have i2 := i_ne c2
  have i3 := i_ne c3
  refine ok_bind (k_X8_agreeing v hI_v) (fun r18 h18 => ?_)
  refine ok_bind (k_X8_takenOf v hI_v r18 a1 a2 (by omega) (by omega) (by omega)) (fun r21 h21 => ?_)
  refine ok_bind (k_X8_ones v hI_v r21 (by omega)) (fun r24 h24 => ?_)
  refine ok_bind (k_X8_ones v hI_v r18 (by omega)) (fun r27 h27 => ?_)
  have m1 := sp_mulr (a := r24) (b := a3) 6 10 (by omega) (by omega) (by omega) (by omega) (by omega)
  have q1 := sp_subx r27 r24 (by omega)
  have q2 := sp_mulcx (r27 - r24) 10 10 (by decide) (by omega)
  have q3 := sp_addx (r24 * a3) ((r27 - r24) * 10) (by omega)
  refine ok_ite _ (fun c5 => ?_) (fun c5 => ?_)
  · exact loop 2000 _ _ _ _ _ _ (by omega) (by omega) (by omega) (by omega)
  · have i5 := i_ne c5
    refine ok_bind (k_X8_ones v hI_v r18 (by omega)) (fun r31 h31 => ?_)
    have q4 := sp_cmulx 10 r31 10 (by decide) (by omega)
    exact loop 2000 _ _ _ _ _ _ (by omega) (by omega) (by omega) (by omega)
theorem sp_r64 (y w : Int64) (h0 : 0 ≤ y.toInt) (h1 : y.toInt ≤ 2147483646) (h2 : 0 < w.toInt) (h3 : w.toInt ≤ 6) : 0 ≤ (y - y / w * w).toInt32.toInt ∧ (y - y / w * w).toInt32.toInt < w.toInt := by
  have b64 : ∀ x : Int, -9223372036854775808 ≤ x → x < 9223372036854775808 → x.bmod (2 ^ 64) = x := by
    intro x q1 q2
    unfold Int.bmod
    simp only []
    split <;> omega
  have d1 : 0 ≤ y.toInt / w.toInt := Int.ediv_nonneg h0 (by omega)
  have d2 : y.toInt / w.toInt ≤ y.toInt := Int.ediv_le_self _ h0
  have m1 : 0 ≤ y.toInt % w.toInt := Int.emod_nonneg _ (by omega)
  have m2 : y.toInt % w.toInt < w.toInt := Int.emod_lt_of_pos _ h2
  have m3 : y.toInt / w.toInt * w.toInt + y.toInt % w.toInt = y.toInt := by rw [Int.mul_comm]; exact Int.mul_ediv_add_emod y.toInt w.toInt
  have e2 : (y / w).toInt = y.toInt / w.toInt := by
    rw [Int64.toInt_div, Int.tdiv_eq_ediv_of_nonneg h0]; exact b64 _ (by omega) (by omega)
  have e3 : (y / w * w).toInt = y.toInt / w.toInt * w.toInt := by
    rw [Int64.toInt_mul, e2]
    generalize y.toInt / w.toInt * w.toInt = z at *
    exact b64 _ (by omega) (by omega)
  have e4 : (y - y / w * w).toInt = y.toInt % w.toInt := by
    rw [Int64.toInt_sub, e3]
    generalize y.toInt / w.toInt * w.toInt = z at *
    rw [b64 _ (by omega) (by omega)]; omega
  have e5 : (y - y / w * w).toInt32.toInt = y.toInt % w.toInt := by
    rw [Int64.toInt_toInt32, e4]
    unfold Int.bmod
    simp only []
    split <;> omega
  omega
set_option maxHeartbeats 4000000 in
theorem k_X8_drawn (v : Mm) (hI_v : IM v) (a1 : Int32) (a2 : Int32) (a3 : Int32) : ok (g_X8_drawn v a1 a2 a3) (fun z => True) := by
  have e0 : (0 : Int32).toInt = 0 := by decide
  have e1 : (1 : Int32).toInt = 1 := by decide
  have e60 : (60 : Int32).toInt = 60 := by decide
  have e6 : (6 : Int64).toInt = 6 := by decide
  have em : (999999 : Int32).toInt = 999999 := by decide
  have hg : ((v 36 0 3).toInt = 0 ∧ (v 36 0 4).toInt = 0) ∨ (0 < (v 36 0 3).toInt ∧ 0 < (v 36 0 4).toInt) := hI_v.2.1
  have hw : (0 : Int) ≤ (v 36 0 3).toInt ∧ (v 36 0 3).toInt ≤ (6 : Int) := hI_v.1 36 0 3
  have loop : ∀ (n : Nat) (x4 : Int64) (x6 x7 x8 : Int32), 0 ≤ x4.toInt → x4.toInt ≤ 2147483646 → 0 ≤ x8.toInt → a1.toInt ≤ 60 → 60 < x8.toInt + (n : Int) → x8.toInt ≤ 60 → 0 < (v 36 0 3).toInt → ok (g_X8_drawn_L52 v a1 a2 a3 n x4 x6 x7 x8) (fun z => True) := by
    intro n
    induction n with
    | zero => intro x4 x6 x7 x8 h1 h2 h3 h4 h5 h6 hp; exfalso; omega
    | succ n ih =>
      intro x4 x6 x7 x8 h1 h2 h3 h4 h5 h6 hp
      show ok (b_X8_drawn_L52 (g_X8_drawn_L52 v a1 a2 a3 n) v a1 a2 a3 x4 x6 x7 x8) _
      unfold b_X8_drawn_L52
      rw [tc_3]
      refine ok_ite _ (fun c1 => ?_) (fun c1 => ?_)
      · exact ok_ite _ (fun _ => ok_some trivial) (fun _ => ok_some trivial)
      · have h7 := i_nle c1
        obtain ⟨k, hk⟩ := sp_add x8 1
        have h8 := sp_d64 x4 h1 h2
        generalize (x4 * 16807) - (x4 * 16807) / 2147483647 * 2147483647 = y at h8 ⊢
        have hw64 : (v 36 0 3).toInt64.toInt = (v 36 0 3).toInt := Int32.toInt_toInt64 _
        refine ok_grd _ (fun q => ?_) ?_
        · have q2 := congrArg Int64.toInt q
          rw [hw64, show (0 : Int64).toInt = 0 by decide] at q2
          omega
        have r1 := sp_r64 y (v 36 0 3).toInt64 (by omega) (by omega) (by omega) (by omega)
        have r2 := sp_r64 y 6 (by omega) (by omega) (by omega) (by omega)
        refine ok_let (fun x20 e20 => ?_)
        have i20 := i_eq e20
        refine ok_bind (k_X8_isTakenNow v hI_v x20 _ x8 (by omega) (by omega) (by omega) (by omega) (by omega)) (fun r22 h22 => ?_)
        refine ok_ite _ (fun c2 => ?_) (fun c2 => ?_)
        · refine ok_ite _ (fun c3 => ?_) (fun c3 => ?_)
          · exact ok_let (fun x26 _ => ih _ _ _ _ (by omega) (by omega) (by omega) h4 (by omega) (by omega) hp)
          · exact ih _ _ _ _ (by omega) (by omega) (by omega) h4 (by omega) (by omega) hp
        · refine ok_ite _ (fun c3 => ?_) (fun c3 => ?_)
          · exact ok_let (fun x26 _ => ih _ _ _ _ (by omega) (by omega) (by omega) h4 (by omega) (by omega) hp)
          · exact ih _ _ _ _ (by omega) (by omega) (by omega) h4 (by omega) (by omega) hp
  unfold g_X8_drawn
  refine ok_bind (k_X8_isGate v hI_v) (fun r2 h2 => ?_)
  refine ok_ite _ (fun c1 => ok_some trivial) (fun c1 => ?_)
  refine ok_bind (k_X8_isFar v hI_v a1) (fun r6 h6 => ?_)
  refine ok_ite _ (fun c2 => ok_some trivial) (fun c2 => ?_)
  refine ok_bind (k_X8_in v hI_v a2 1 999999) (fun r10 h10 => ?_)
  refine ok_ite _ (fun c3 => ok_some trivial) (fun c3 => ?_)
  refine ok_bind (k_X8_in v hI_v a3 0 1) (fun r14 h14 => ?_)
  refine ok_ite _ (fun c4 => ok_some trivial) (fun c4 => ?_)
  have i1 := i_ne c1
  have i2 := i_ne c2
  have i3 := i_ne c3
  have e7 : a2.toInt64.toInt = a2.toInt := Int32.toInt_toInt64 a2
  exact loop 2000 _ _ _ _ (by omega) (by omega) (by omega) (by omega) (by omega) (by omega) (by omega)
set_option maxHeartbeats 4000000 in
theorem k_X8_image (v : Mm) (hI_v : IM v) (a1 : Int32) : ok (g_X8_image v a1) (fun z => IM z.2) := by
  unfold g_X8_image
  refine ok_bind (k_X8_in v hI_v a1 0 1 ) (fun r2 hr2 => ?_)
  replace hr2 : (0 : Int) ≤ Int32.toInt r2 ∧ Int32.toInt r2 ≤ (1 : Int) ∧ (Int32.toInt r2 = 0 ∨ (Int32.toInt 0 ≤ Int32.toInt a1 ∧ Int32.toInt a1 ≤ Int32.toInt 1)) := hr2
  obtain ⟨hr2_lo, hr2_hi, hr2_p0⟩ := hr2
  have : (0 : Int32).toInt = 0 := (by decide)
  have : (1 : Int32).toInt = 1 := (by decide)
  refine ok_ite _ (fun c4 => ?_) (fun c4 => ?_)
  · skip
    have ic4 := i_eq c4
    try clear hr2_p0
    have : (0 : Int32).toInt = 0 := (by decide)
    refine ok_some ?_
    show IM v
    have : (-1000001 : Int32).toInt = -1000001 := (by decide)
    exact hI_v
  · skip
    have ic4 : Int32.toInt r2 = 1 := one_of hr2_lo hr2_hi c4
    try replace hr2_p0 : (Int32.toInt 0 ≤ Int32.toInt a1 ∧ Int32.toInt a1 ≤ Int32.toInt 1) := orr hr2_p0 ic4
    have : (0 : Int32).toInt = 0 := (by decide)
    refine ok_bind (k_X8_isGate v hI_v  ) (fun r6 hr6 => ?_)
    replace hr6 : (0 : Int) ≤ Int32.toInt r6 ∧ Int32.toInt r6 ≤ (1 : Int) ∧ ((Int32.toInt r6 = 0 ∧ Int32.toInt (v 36 0 3) = 0) ∨ 0 < Int32.toInt (v 36 0 3)) := hr6
    obtain ⟨hr6_lo, hr6_hi, hr6_p0⟩ := hr6
    have : (0 : Int) ≤ (v 36 0 3).toInt ∧ (v 36 0 3).toInt ≤ (6 : Int) := hI_v.1 36 0 3
    refine ok_ite _ (fun c8 => ?_) (fun c8 => ?_)
    · skip
      have ic8 := i_eq c8
      have : (0 : Int32).toInt = 0 := (by decide)
      refine ok_some ?_
      show IM v
      have : (-1000002 : Int32).toInt = -1000002 := (by decide)
      exact hI_v
    · skip
      have ic8 : Int32.toInt r6 = 1 := one_of hr6_lo hr6_hi c8
      have : (0 : Int32).toInt = 0 := (by decide)
      refine ok_bind (k_X8_copies_36_40 v hI_v 0 ((65 : Int32) * a1) (by have : (0 : Int32).toInt = 0 := (by decide); omega) (by have : (65 : Int32).toInt = 65 := (by decide); (first | have := sp_cmulx (65 : Int32) a1 65 (by decide) (by omega) | obtain ⟨k1, hk1⟩ := sp_cmul (65 : Int32) a1 65 (by decide)); omega)) (fun v11 hr10 => ?_)
      replace hr10 : IM v11 := hr10
      have hI_v11 := hr10
      clear hr10
      refine ok_grd _ ?_ ?_
      · skip
        exact gr (by omega) (by omega)
      refine ok_let (fun v13 ev13 => ?_)
      have hI_v13 : IM v13 := by rw [ev13]; exact hI_v11.upo (by decide) (by have h9 := i_bd (1 : Int32); exact ⟨h9.1, Int.le_of_lt_add_one h9.2⟩)
      refine ok_some ?_
      show IM v13
      have : (1 : Int32).toInt = 1 := (by decide)
      exact hI_v13
set_option maxHeartbeats 4000000 in
theorem k_X8_restore (v : Mm) (hI_v : IM v) (a1 : Int32) : ok (g_X8_restore v a1) (fun z => IM z.2) := by
  unfold g_X8_restore
  refine ok_bind (k_X8_in v hI_v a1 0 1 ) (fun r2 hr2 => ?_)
  replace hr2 : (0 : Int) ≤ Int32.toInt r2 ∧ Int32.toInt r2 ≤ (1 : Int) ∧ (Int32.toInt r2 = 0 ∨ (Int32.toInt 0 ≤ Int32.toInt a1 ∧ Int32.toInt a1 ≤ Int32.toInt 1)) := hr2
  obtain ⟨hr2_lo, hr2_hi, hr2_p0⟩ := hr2
  have : (0 : Int32).toInt = 0 := (by decide)
  have : (1 : Int32).toInt = 1 := (by decide)
  refine ok_ite _ (fun c4 => ?_) (fun c4 => ?_)
  · skip
    have ic4 := i_eq c4
    try clear hr2_p0
    have : (0 : Int32).toInt = 0 := (by decide)
    refine ok_some ?_
    show IM v
    have : (-1000001 : Int32).toInt = -1000001 := (by decide)
    exact hI_v
  · skip
    have ic4 : Int32.toInt r2 = 1 := one_of hr2_lo hr2_hi c4
    try replace hr2_p0 : (Int32.toInt 0 ≤ Int32.toInt a1 ∧ Int32.toInt a1 ≤ Int32.toInt 1) := orr hr2_p0 ic4
    have : (0 : Int32).toInt = 0 := (by decide)
    refine ok_grd _ ?_ ?_
    · skip
      exact gr (by omega) (by omega)
    refine ok_ite _ (fun c6 => ?_) (fun c6 => ?_)
    · skip
      have ic6 := i_eq c6
      have : (0 : Int32).toInt = 0 := (by decide)
      refine ok_some ?_
      show IM v
      have : (-1000002 : Int32).toInt = -1000002 := (by decide)
      exact hI_v
    · skip
      have ic6 := i_ne c6
      have : (0 : Int32).toInt = 0 := (by decide)
      refine ok_bind (k_X8_copies_40_36 v hI_v ((65 : Int32) * a1) 0 (by have : (0 : Int32).toInt = 0 := (by decide); omega) (by have : (65 : Int32).toInt = 65 := (by decide); (first | have := sp_cmulx (65 : Int32) a1 65 (by decide) (by omega) | obtain ⟨k1, hk1⟩ := sp_cmul (65 : Int32) a1 65 (by decide)); omega)) (fun v9 hr8 => ?_)
      replace hr8 : IM v9 := hr8
      have hI_v9 := hr8
      clear hr8
      refine ok_let (fun v10 ev10 => ?_)
      have hI_v10 : IM v10 := by
        rw [ev10]
        refine hI_v9.upo (by decide) ?_
        show (0 : Int) ≤ Int32.toInt (0 : Int32) ∧ Int32.toInt (0 : Int32) ≤ (24 : Int)
        have : (0 : Int32).toInt = 0 := (by decide)
        omega
      have := i_eq (show v10 30 0 17 = 0 by rw [ev10]; exact up3_s)
      have : (0 : Int32).toInt = 0 := (by decide)
      refine ok_some ?_
      show IM v10
      have : (1 : Int32).toInt = 1 := (by decide)
      exact hI_v10
set_option maxHeartbeats 4000000 in
theorem k_X8_kind (v : Mm) (hI_v : IM v) (a1 : Int32) : ok (g_X8_kind v a1) (fun z => True) := by
  unfold g_X8_kind
  refine ok_bind (k_X8_isGuard v hI_v a1 ) (fun r2 hr2 => ?_)
  replace hr2 : (0 : Int) ≤ Int32.toInt r2 ∧ Int32.toInt r2 ≤ (1 : Int) ∧ ((Int32.toInt r2 = 0 ∨ (0 ≤ Int32.toInt a1 ∧ Int32.toInt a1 ≤ 3 ∧ 0 < Int32.toInt (v 36 0 4)))) := hr2
  obtain ⟨hr2_lo, hr2_hi, hr2_p0⟩ := hr2
  have : (0 : Int) ≤ (v 36 0 4).toInt ∧ (v 36 0 4).toInt ≤ (4 : Int) := hI_v.1 36 0 4
  refine ok_ite _ (fun c4 => ?_) (fun c4 => ?_)
  · skip
    have ic4 := i_eq c4
    try clear hr2_p0
    have : (0 : Int32).toInt = 0 := (by decide)
    refine ok_some ?_
    show True
    have : (-1000001 : Int32).toInt = -1000001 := (by decide)
    trivial
  · skip
    have ic4 : Int32.toInt r2 = 1 := one_of hr2_lo hr2_hi c4
    try replace hr2_p0 : (0 ≤ Int32.toInt a1 ∧ Int32.toInt a1 ≤ 3 ∧ 0 < Int32.toInt (v 36 0 4)) := orr hr2_p0 ic4
    have : (0 : Int32).toInt = 0 := (by decide)
    refine ok_bind (k_X8_kindIn v hI_v a1 (by omega)) (fun r6 hr6 => ?_)
    clear hr6
    refine ok_some ?_
    show True
    trivial
set_option maxHeartbeats 4000000 in
theorem k_X8_as (v : Mm) (hI_v : IM v) (a1 : Int32) (a2 : Int32) : ok (g_X8_as v a1 a2) (fun z => IM z.2) := by
  unfold g_X8_as
  refine ok_bind (k_X8_isGuard v hI_v a1 ) (fun r2 hr2 => ?_)
  replace hr2 : (0 : Int) ≤ Int32.toInt r2 ∧ Int32.toInt r2 ≤ (1 : Int) ∧ ((Int32.toInt r2 = 0 ∨ (0 ≤ Int32.toInt a1 ∧ Int32.toInt a1 ≤ 3 ∧ 0 < Int32.toInt (v 36 0 4)))) := hr2
  obtain ⟨hr2_lo, hr2_hi, hr2_p0⟩ := hr2
  have : (0 : Int) ≤ (v 36 0 4).toInt ∧ (v 36 0 4).toInt ≤ (4 : Int) := hI_v.1 36 0 4
  refine ok_ite _ (fun c4 => ?_) (fun c4 => ?_)
  · skip
    have ic4 := i_eq c4
    try clear hr2_p0
    have : (0 : Int32).toInt = 0 := (by decide)
    refine ok_some ?_
    show IM v
    have : (-1000001 : Int32).toInt = -1000001 := (by decide)
    exact hI_v
  · skip
    have ic4 : Int32.toInt r2 = 1 := one_of hr2_lo hr2_hi c4
    try replace hr2_p0 : (0 ≤ Int32.toInt a1 ∧ Int32.toInt a1 ≤ 3 ∧ 0 < Int32.toInt (v 36 0 4)) := orr hr2_p0 ic4
    have : (0 : Int32).toInt = 0 := (by decide)
    refine ok_bind (k_X8_in v hI_v a2 0 5 ) (fun r6 hr6 => ?_)
    replace hr6 : (0 : Int) ≤ Int32.toInt r6 ∧ Int32.toInt r6 ≤ (1 : Int) ∧ (Int32.toInt r6 = 0 ∨ (Int32.toInt 0 ≤ Int32.toInt a2 ∧ Int32.toInt a2 ≤ Int32.toInt 5)) := hr6
    obtain ⟨hr6_lo, hr6_hi, hr6_p0⟩ := hr6
    have : (0 : Int32).toInt = 0 := (by decide)
    have : (5 : Int32).toInt = 5 := (by decide)
    refine ok_ite _ (fun c8 => ?_) (fun c8 => ?_)
    · skip
      have ic8 := i_eq c8
      try clear hr6_p0
      have : (0 : Int32).toInt = 0 := (by decide)
      refine ok_some ?_
      show IM v
      have : (-1000001 : Int32).toInt = -1000001 := (by decide)
      exact hI_v
    · skip
      have ic8 : Int32.toInt r6 = 1 := one_of hr6_lo hr6_hi c8
      try replace hr6_p0 : (Int32.toInt 0 ≤ Int32.toInt a2 ∧ Int32.toInt a2 ≤ Int32.toInt 5) := orr hr6_p0 ic8
      have : (0 : Int32).toInt = 0 := (by decide)
      refine ok_bind (k_X8_kindIn v hI_v a1 (by omega)) (fun r10 hr10 => ?_)
      clear hr10
      refine ok_ite _ (fun c12 => ?_) (fun c12 => ?_)
      · skip
        have ic12 := i_eq c12
        have : (0 : Int32).toInt = 0 := (by decide)
        refine ok_kb2 (k_X8_well v hI_v a1 ) (fun r15 v16 hr15 => ?_)
        replace hr15 : IM v16 := hr15
        have hI_v16 := hr15
        clear hr15
        refine ok_some ?_
        show IM v16
        exact hI_v16
      · skip
        have ic12 := i_ne c12
        have : (0 : Int32).toInt = 0 := (by decide)
        refine ok_ite _ (fun c17 => ?_) (fun c17 => ?_)
        · skip
          have ic17 := i_eq c17
          refine ok_kb2 (k_X8_well v hI_v a1 ) (fun r20 v21 hr20 => ?_)
          replace hr20 : IM v21 := hr20
          have hI_v21 := hr20
          clear hr20
          refine ok_some ?_
          show IM v21
          exact hI_v21
        · skip
          have ic17 := i_ne c17
          refine ok_ite _ (fun c22 => ?_) (fun c22 => ?_)
          · skip
            have ic22 := i_eq c22
            have : (1 : Int32).toInt = 1 := (by decide)
            refine ok_ite _ (fun c23 => ?_) (fun c23 => ?_)
            · skip
              have ic23 := i_lt c23
              have : (4 : Int32).toInt = 4 := (by decide)
              refine ok_kb2 (k_X8_well v hI_v a1 ) (fun r26 v27 hr26 => ?_)
              replace hr26 : IM v27 := hr26
              have hI_v27 := hr26
              clear hr26
              refine ok_some ?_
              show IM v27
              exact hI_v27
            · skip
              have ic23 := i_nlt c23
              have : (4 : Int32).toInt = 4 := (by decide)
              refine ok_ite _ (fun c28 => ?_) (fun c28 => ?_)
              · skip
                have ic28 := i_eq c28
                have : (4 : Int32).toInt = 4 := (by decide)
                refine ok_ite _ (fun c29 => ?_) (fun c29 => ?_)
                · skip
                  have ic29 := i_eq c29
                  have : (5 : Int32).toInt = 5 := (by decide)
                  refine ok_kb2 (k_X8_well v hI_v a1 ) (fun r32 v33 hr32 => ?_)
                  replace hr32 : IM v33 := hr32
                  have hI_v33 := hr32
                  clear hr32
                  refine ok_some ?_
                  show IM v33
                  exact hI_v33
                · skip
                  have ic29 := i_ne c29
                  have : (5 : Int32).toInt = 5 := (by decide)
                  refine ok_kb2 (k_X8_found v hI_v 3 ) (fun r36 v37 hr36 => ?_)
                  replace hr36 : IM v37 := hr36
                  have hI_v37 := hr36
                  clear hr36
                  refine ok_some ?_
                  show IM v37
                  exact hI_v37
              · skip
                have ic28 := i_ne c28
                have : (4 : Int32).toInt = 4 := (by decide)
                refine ok_kb2 (k_X8_found v hI_v 3 ) (fun r40 v41 hr40 => ?_)
                replace hr40 : IM v41 := hr40
                have hI_v41 := hr40
                clear hr40
                refine ok_some ?_
                show IM v41
                exact hI_v41
          · skip
            have ic22 := i_ne c22
            have : (1 : Int32).toInt = 1 := (by decide)
            refine ok_ite _ (fun c42 => ?_) (fun c42 => ?_)
            · skip
              have ic42 := i_eq c42
              have : (4 : Int32).toInt = 4 := (by decide)
              refine ok_ite _ (fun c43 => ?_) (fun c43 => ?_)
              · skip
                have ic43 := i_eq c43
                have : (5 : Int32).toInt = 5 := (by decide)
                refine ok_kb2 (k_X8_well v hI_v a1 ) (fun r46 v47 hr46 => ?_)
                replace hr46 : IM v47 := hr46
                have hI_v47 := hr46
                clear hr46
                refine ok_some ?_
                show IM v47
                exact hI_v47
              · skip
                have ic43 := i_ne c43
                have : (5 : Int32).toInt = 5 := (by decide)
                refine ok_kb2 (k_X8_found v hI_v 3 ) (fun r50 v51 hr50 => ?_)
                replace hr50 : IM v51 := hr50
                have hI_v51 := hr50
                clear hr50
                refine ok_some ?_
                show IM v51
                exact hI_v51
            · skip
              have ic42 := i_ne c42
              have : (4 : Int32).toInt = 4 := (by decide)
              refine ok_kb2 (k_X8_found v hI_v 3 ) (fun r54 v55 hr54 => ?_)
              replace hr54 : IM v55 := hr54
              have hI_v55 := hr54
              clear hr54
              refine ok_some ?_
              show IM v55
              exact hI_v55
set_option maxHeartbeats 4000000 in
theorem k_X8_begins (v : Mm) (hI_v : IM v) (a1 : Int32) : ok (g_X8_begins v a1) (fun z => IM z) := by
  unfold g_X8_begins
  refine ok_ite _ (fun c1 => ?_) (fun c1 => ?_)
  · skip
    have ic1 := i_le c1
    have : (0 : Int) ≤ (v 30 0 22).toInt ∧ (v 30 0 22).toInt ≤ (16 : Int) := hI_v.1 30 0 22
    have : (16 : Int32).toInt = 16 := (by decide)
    refine ok_some ?_
    show IM v
    exact hI_v
  · skip
    have ic1 := i_nle c1
    have : (0 : Int) ≤ (v 30 0 22).toInt ∧ (v 30 0 22).toInt ≤ (16 : Int) := hI_v.1 30 0 22
    have : (16 : Int32).toInt = 16 := (by decide)
    refine ok_grd _ ?_ ?_
    · skip
      have : (0 : Int) ≤ (v 30 0 22).toInt ∧ (v 30 0 22).toInt ≤ (16 : Int) := hI_v.1 30 0 22
      exact gr (by omega) (by omega)
    refine ok_let (fun v3 ev3 => ?_)
    have : (0 : Int) ≤ (v 30 0 22).toInt ∧ (v 30 0 22).toInt ≤ (16 : Int) := hI_v.1 30 0 22
    have hI_v3 : IM v3 := by rw [ev3]; exact hI_v.upo (by decide) (by have h9 := i_bd a1; exact ⟨h9.1, Int.le_of_lt_add_one h9.2⟩)
    have := i_eq (show v3 30 0 22 = v 30 0 22 by rw [ev3]; exact up3_t (by decide))
    refine ok_let (fun v4 ev4 => ?_)
    have hI_v4 : IM v4 := by
      rw [ev4]
      refine hI_v3.upo (by decide) ?_
      show (0 : Int) ≤ Int32.toInt ((v3 30 0 22) + 1) ∧ Int32.toInt ((v3 30 0 22) + 1) ≤ (16 : Int)
      have : (0 : Int) ≤ (v3 30 0 22).toInt ∧ (v3 30 0 22).toInt ≤ (16 : Int) := hI_v3.1 30 0 22
      have : (1 : Int32).toInt = 1 := (by decide)
      have := i_bd (v3 30 0 22)
      (first | have := sp_addx (v3 30 0 22) (1 : Int32) (by omega) | obtain ⟨k1, hk1⟩ := sp_add (v3 30 0 22) (1 : Int32))
      omega
    have := i_eq (show v4 30 0 22 = ((v3 30 0 22) + 1) by rw [ev4]; exact up3_s)
    have : (0 : Int) ≤ (v3 30 0 22).toInt ∧ (v3 30 0 22).toInt ≤ (16 : Int) := hI_v3.1 30 0 22
    have : (1 : Int32).toInt = 1 := (by decide)
    have := i_bd (v3 30 0 22)
    (first | have := sp_addx (v3 30 0 22) (1 : Int32) (by omega) | obtain ⟨k2, hk2⟩ := sp_add (v3 30 0 22) (1 : Int32))
    refine ok_some ?_
    show IM v4
    exact hI_v4
set_option maxHeartbeats 4000000 in
theorem k_X8_keenMark (v : Mm) (hI_v : IM v) (a1 : Int32) (h_a1 : (0 : Int) ≤ a1.toInt ∧ a1.toInt ≤ (3 : Int)) : ok (g_X8_keenMark v a1) (fun z => IM z.2) := by
  unfold g_X8_keenMark
  refine ok_bind (k_X8_kindIn v hI_v a1 (by omega)) (fun r2 hr2 => ?_)
  clear hr2
  refine ok_ite _ (fun c4 => ?_) (fun c4 => ?_)
  · skip
    have ic4 := i_eq c4
    have : (1 : Int32).toInt = 1 := (by decide)
    refine ok_bind (k_X8_begins v hI_v 21 ) (fun v7 hr6 => ?_)
    replace hr6 : IM v7 := hr6
    have hI_v7 := hr6
    clear hr6
    refine ok_bind (k_X8_begins v7 hI_v7 20 ) (fun v10 hr9 => ?_)
    replace hr9 : IM v10 := hr9
    have hI_v10 := hr9
    clear hr9
    refine ok_grd _ ?_ ?_
    · skip
      have : (26 : Int32).toInt = 26 := (by decide)
      have : (3 : Int32).toInt = 3 := (by decide)
      (first | have := sp_cmulx (3 : Int32) a1 3 (by decide) (by omega) | obtain ⟨k1, hk1⟩ := sp_cmul (3 : Int32) a1 3 (by decide))
      (first | have := sp_addx (26 : Int32) ((3 : Int32) * a1) (by omega) | obtain ⟨k2, hk2⟩ := sp_add (26 : Int32) ((3 : Int32) * a1))
      have : (2 : Int32).toInt = 2 := (by decide)
      (first | have := sp_addx ((26 : Int32) + ((3 : Int32) * a1)) (2 : Int32) (by omega) | obtain ⟨k3, hk3⟩ := sp_add ((26 : Int32) + ((3 : Int32) * a1)) (2 : Int32))
      exact gr (by omega) (by omega)
    refine ok_let (fun x12 ex12 => ?_)
    have : (26 : Int32).toInt = 26 := (by decide)
    have : (3 : Int32).toInt = 3 := (by decide)
    (first | have := sp_cmulx (3 : Int32) a1 3 (by decide) (by omega) | obtain ⟨k4, hk4⟩ := sp_cmul (3 : Int32) a1 3 (by decide))
    (first | have := sp_addx (26 : Int32) ((3 : Int32) * a1) (by omega) | obtain ⟨k5, hk5⟩ := sp_add (26 : Int32) ((3 : Int32) * a1))
    have : (2 : Int32).toInt = 2 := (by decide)
    (first | have := sp_addx ((26 : Int32) + ((3 : Int32) * a1)) (2 : Int32) (by omega) | obtain ⟨k6, hk6⟩ := sp_add ((26 : Int32) + ((3 : Int32) * a1)) (2 : Int32))
    (try have := gw_w hI_v10.1 (e := (((26 : Int32) + ((3 : Int32) * a1)) + 2)) (by omega) (by omega) (by omega))
    (try have := gw_g hI_v10.1 (e := (((26 : Int32) + ((3 : Int32) * a1)) + 2)) (by omega) (by omega) (by omega))
    have := i_bd a1
    have := i_bd (v10 36 0 (Int32.toNatClampNeg (((26 : Int32) + ((3 : Int32) * a1)) + 2)))
    (first | have := sp_addx a1 (v10 36 0 (Int32.toNatClampNeg (((26 : Int32) + ((3 : Int32) * a1)) + 2))) (by omega) | obtain ⟨k7, hk7⟩ := sp_add a1 (v10 36 0 (Int32.toNatClampNeg (((26 : Int32) + ((3 : Int32) * a1)) + 2))))
    have := i_eq ex12
    refine ok_ite _ (fun c13 => ?_) (fun c13 => ?_)
    · skip
      have ic13 := i_eq c13
      have : (2 : Int32).toInt = 2 := (by decide)
      refine ok_some ?_
      show IM v10
      have : (2 : Int32).toInt = 2 := (by decide)
      (first | have := sp_cmulx (2 : Int32) x12 2 (by decide) (by omega) | obtain ⟨k8, hk8⟩ := sp_cmul (2 : Int32) x12 2 (by decide))
      exact hI_v10
    · skip
      have ic13 := i_ne c13
      have : (2 : Int32).toInt = 2 := (by decide)
      refine ok_ite _ (fun c14 => ?_) (fun c14 => ?_)
      · skip
        have ic14 := i_eq c14
        have : (3 : Int32).toInt = 3 := (by decide)
        refine ok_some ?_
        show IM v10
        have : (1000 : Int32).toInt = 1000 := (by decide)
        have := i_bd x12
        (first | have := sp_subx x12 (1000 : Int32) (by omega) | obtain ⟨k9, hk9⟩ := sp_sub x12 (1000 : Int32))
        exact hI_v10
      · skip
        have ic14 := i_ne c14
        have : (3 : Int32).toInt = 3 := (by decide)
        refine ok_some ?_
        show IM v10
        exact hI_v10
  · skip
    have ic4 := i_ne c4
    have : (1 : Int32).toInt = 1 := (by decide)
    refine ok_ite _ (fun c15 => ?_) (fun c15 => ?_)
    · skip
      have ic15 := i_eq c15
      have : (2 : Int32).toInt = 2 := (by decide)
      refine ok_bind (k_X8_begins v hI_v 24 ) (fun v18 hr17 => ?_)
      replace hr17 : IM v18 := hr17
      have hI_v18 := hr17
      clear hr17
      refine ok_bind (k_X8_begins v18 hI_v18 21 ) (fun v21 hr20 => ?_)
      replace hr20 : IM v21 := hr20
      have hI_v21 := hr20
      clear hr20
      refine ok_bind (k_X8_begins v21 hI_v21 20 ) (fun v24 hr23 => ?_)
      replace hr23 : IM v24 := hr23
      have hI_v24 := hr23
      clear hr23
      refine ok_grd _ ?_ ?_
      · skip
        have : (26 : Int32).toInt = 26 := (by decide)
        have : (3 : Int32).toInt = 3 := (by decide)
        (first | have := sp_cmulx (3 : Int32) a1 3 (by decide) (by omega) | obtain ⟨k10, hk10⟩ := sp_cmul (3 : Int32) a1 3 (by decide))
        (first | have := sp_addx (26 : Int32) ((3 : Int32) * a1) (by omega) | obtain ⟨k11, hk11⟩ := sp_add (26 : Int32) ((3 : Int32) * a1))
        have : (2 : Int32).toInt = 2 := (by decide)
        (first | have := sp_addx ((26 : Int32) + ((3 : Int32) * a1)) (2 : Int32) (by omega) | obtain ⟨k12, hk12⟩ := sp_add ((26 : Int32) + ((3 : Int32) * a1)) (2 : Int32))
        exact gr (by omega) (by omega)
      refine ok_let (fun x26 ex26 => ?_)
      have : (26 : Int32).toInt = 26 := (by decide)
      have : (3 : Int32).toInt = 3 := (by decide)
      (first | have := sp_cmulx (3 : Int32) a1 3 (by decide) (by omega) | obtain ⟨k13, hk13⟩ := sp_cmul (3 : Int32) a1 3 (by decide))
      (first | have := sp_addx (26 : Int32) ((3 : Int32) * a1) (by omega) | obtain ⟨k14, hk14⟩ := sp_add (26 : Int32) ((3 : Int32) * a1))
      have : (2 : Int32).toInt = 2 := (by decide)
      (first | have := sp_addx ((26 : Int32) + ((3 : Int32) * a1)) (2 : Int32) (by omega) | obtain ⟨k15, hk15⟩ := sp_add ((26 : Int32) + ((3 : Int32) * a1)) (2 : Int32))
      (try have := gw_w hI_v24.1 (e := (((26 : Int32) + ((3 : Int32) * a1)) + 2)) (by omega) (by omega) (by omega))
      (try have := gw_g hI_v24.1 (e := (((26 : Int32) + ((3 : Int32) * a1)) + 2)) (by omega) (by omega) (by omega))
      have := i_bd a1
      have := i_bd (v24 36 0 (Int32.toNatClampNeg (((26 : Int32) + ((3 : Int32) * a1)) + 2)))
      (first | have := sp_addx a1 (v24 36 0 (Int32.toNatClampNeg (((26 : Int32) + ((3 : Int32) * a1)) + 2))) (by omega) | obtain ⟨k16, hk16⟩ := sp_add a1 (v24 36 0 (Int32.toNatClampNeg (((26 : Int32) + ((3 : Int32) * a1)) + 2))))
      have := i_eq ex26
      refine ok_ite _ (fun c27 => ?_) (fun c27 => ?_)
      · skip
        have ic27 := i_eq c27
        have : (2 : Int32).toInt = 2 := (by decide)
        refine ok_some ?_
        show IM v24
        have : (2 : Int32).toInt = 2 := (by decide)
        (first | have := sp_cmulx (2 : Int32) x26 2 (by decide) (by omega) | obtain ⟨k17, hk17⟩ := sp_cmul (2 : Int32) x26 2 (by decide))
        exact hI_v24
      · skip
        have ic27 := i_ne c27
        have : (2 : Int32).toInt = 2 := (by decide)
        refine ok_ite _ (fun c28 => ?_) (fun c28 => ?_)
        · skip
          have ic28 := i_eq c28
          have : (3 : Int32).toInt = 3 := (by decide)
          refine ok_some ?_
          show IM v24
          have : (1000 : Int32).toInt = 1000 := (by decide)
          have := i_bd x26
          (first | have := sp_subx x26 (1000 : Int32) (by omega) | obtain ⟨k18, hk18⟩ := sp_sub x26 (1000 : Int32))
          exact hI_v24
        · skip
          have ic28 := i_ne c28
          have : (3 : Int32).toInt = 3 := (by decide)
          refine ok_some ?_
          show IM v24
          exact hI_v24
    · skip
      have ic15 := i_ne c15
      have : (2 : Int32).toInt = 2 := (by decide)
      refine ok_bind (k_X8_begins v hI_v 22 ) (fun v31 hr30 => ?_)
      replace hr30 : IM v31 := hr30
      have hI_v31 := hr30
      clear hr30
      refine ok_bind (k_X8_begins v31 hI_v31 21 ) (fun v34 hr33 => ?_)
      replace hr33 : IM v34 := hr33
      have hI_v34 := hr33
      clear hr33
      refine ok_bind (k_X8_begins v34 hI_v34 20 ) (fun v37 hr36 => ?_)
      replace hr36 : IM v37 := hr36
      have hI_v37 := hr36
      clear hr36
      refine ok_grd _ ?_ ?_
      · skip
        have : (26 : Int32).toInt = 26 := (by decide)
        have : (3 : Int32).toInt = 3 := (by decide)
        (first | have := sp_cmulx (3 : Int32) a1 3 (by decide) (by omega) | obtain ⟨k19, hk19⟩ := sp_cmul (3 : Int32) a1 3 (by decide))
        (first | have := sp_addx (26 : Int32) ((3 : Int32) * a1) (by omega) | obtain ⟨k20, hk20⟩ := sp_add (26 : Int32) ((3 : Int32) * a1))
        have : (2 : Int32).toInt = 2 := (by decide)
        (first | have := sp_addx ((26 : Int32) + ((3 : Int32) * a1)) (2 : Int32) (by omega) | obtain ⟨k21, hk21⟩ := sp_add ((26 : Int32) + ((3 : Int32) * a1)) (2 : Int32))
        exact gr (by omega) (by omega)
      refine ok_let (fun x39 ex39 => ?_)
      have : (26 : Int32).toInt = 26 := (by decide)
      have : (3 : Int32).toInt = 3 := (by decide)
      (first | have := sp_cmulx (3 : Int32) a1 3 (by decide) (by omega) | obtain ⟨k22, hk22⟩ := sp_cmul (3 : Int32) a1 3 (by decide))
      (first | have := sp_addx (26 : Int32) ((3 : Int32) * a1) (by omega) | obtain ⟨k23, hk23⟩ := sp_add (26 : Int32) ((3 : Int32) * a1))
      have : (2 : Int32).toInt = 2 := (by decide)
      (first | have := sp_addx ((26 : Int32) + ((3 : Int32) * a1)) (2 : Int32) (by omega) | obtain ⟨k24, hk24⟩ := sp_add ((26 : Int32) + ((3 : Int32) * a1)) (2 : Int32))
      (try have := gw_w hI_v37.1 (e := (((26 : Int32) + ((3 : Int32) * a1)) + 2)) (by omega) (by omega) (by omega))
      (try have := gw_g hI_v37.1 (e := (((26 : Int32) + ((3 : Int32) * a1)) + 2)) (by omega) (by omega) (by omega))
      have := i_bd a1
      have := i_bd (v37 36 0 (Int32.toNatClampNeg (((26 : Int32) + ((3 : Int32) * a1)) + 2)))
      (first | have := sp_addx a1 (v37 36 0 (Int32.toNatClampNeg (((26 : Int32) + ((3 : Int32) * a1)) + 2))) (by omega) | obtain ⟨k25, hk25⟩ := sp_add a1 (v37 36 0 (Int32.toNatClampNeg (((26 : Int32) + ((3 : Int32) * a1)) + 2))))
      have := i_eq ex39
      refine ok_ite _ (fun c40 => ?_) (fun c40 => ?_)
      · skip
        have ic40 := i_eq c40
        have : (2 : Int32).toInt = 2 := (by decide)
        refine ok_some ?_
        show IM v37
        have : (2 : Int32).toInt = 2 := (by decide)
        (first | have := sp_cmulx (2 : Int32) x39 2 (by decide) (by omega) | obtain ⟨k26, hk26⟩ := sp_cmul (2 : Int32) x39 2 (by decide))
        exact hI_v37
      · skip
        have ic40 := i_ne c40
        have : (2 : Int32).toInt = 2 := (by decide)
        refine ok_ite _ (fun c41 => ?_) (fun c41 => ?_)
        · skip
          have ic41 := i_eq c41
          have : (3 : Int32).toInt = 3 := (by decide)
          refine ok_some ?_
          show IM v37
          have : (1000 : Int32).toInt = 1000 := (by decide)
          have := i_bd x39
          (first | have := sp_subx x39 (1000 : Int32) (by omega) | obtain ⟨k27, hk27⟩ := sp_sub x39 (1000 : Int32))
          exact hI_v37
        · skip
          have ic41 := i_ne c41
          have : (3 : Int32).toInt = 3 := (by decide)
          refine ok_some ?_
          show IM v37
          exact hI_v37
set_option maxHeartbeats 4000000 in
theorem k_X8_deafSize (v : Mm) (hI_v : IM v) (a1 : Int32) (h_a1 : (0 : Int) ≤ a1.toInt ∧ a1.toInt ≤ (3 : Int)) : ok (g_X8_deafSize v a1) (fun z => IM z.2) := by
  unfold g_X8_deafSize
  refine ok_bind (k_X8_kindIn v hI_v a1 (by omega)) (fun r2 hr2 => ?_)
  clear hr2
  refine ok_ite _ (fun c4 => ?_) (fun c4 => ?_)
  · skip
    have ic4 := i_eq c4
    have : (5 : Int32).toInt = 5 := (by decide)
    refine ok_bind (k_X8_begins v hI_v 14 ) (fun v8 hr7 => ?_)
    replace hr7 : IM v8 := hr7
    have hI_v8 := hr7
    clear hr7
    refine ok_bind (k_X8_begins v8 hI_v8 13 ) (fun v11 hr10 => ?_)
    replace hr10 : IM v11 := hr10
    have hI_v11 := hr10
    clear hr10
    refine ok_bind (k_X8_begins v11 hI_v11 10 ) (fun v14 hr13 => ?_)
    replace hr13 : IM v14 := hr13
    have hI_v14 := hr13
    clear hr13
    refine ok_grd _ ?_ ?_
    · skip
      have : (26 : Int32).toInt = 26 := (by decide)
      have : (3 : Int32).toInt = 3 := (by decide)
      (first | have := sp_cmulx (3 : Int32) a1 3 (by decide) (by omega) | obtain ⟨k1, hk1⟩ := sp_cmul (3 : Int32) a1 3 (by decide))
      (first | have := sp_addx (26 : Int32) ((3 : Int32) * a1) (by omega) | obtain ⟨k2, hk2⟩ := sp_add (26 : Int32) ((3 : Int32) * a1))
      have : (1 : Int32).toInt = 1 := (by decide)
      (first | have := sp_addx ((26 : Int32) + ((3 : Int32) * a1)) (1 : Int32) (by omega) | obtain ⟨k3, hk3⟩ := sp_add ((26 : Int32) + ((3 : Int32) * a1)) (1 : Int32))
      exact gr (by omega) (by omega)
    refine ok_let (fun x16 ex16 => ?_)
    have : (26 : Int32).toInt = 26 := (by decide)
    have : (3 : Int32).toInt = 3 := (by decide)
    (first | have := sp_cmulx (3 : Int32) a1 3 (by decide) (by omega) | obtain ⟨k4, hk4⟩ := sp_cmul (3 : Int32) a1 3 (by decide))
    (first | have := sp_addx (26 : Int32) ((3 : Int32) * a1) (by omega) | obtain ⟨k5, hk5⟩ := sp_add (26 : Int32) ((3 : Int32) * a1))
    have : (1 : Int32).toInt = 1 := (by decide)
    (first | have := sp_addx ((26 : Int32) + ((3 : Int32) * a1)) (1 : Int32) (by omega) | obtain ⟨k6, hk6⟩ := sp_add ((26 : Int32) + ((3 : Int32) * a1)) (1 : Int32))
    (try have := gw_w hI_v14.1 (e := (((26 : Int32) + ((3 : Int32) * a1)) + 1)) (by omega) (by omega) (by omega))
    (try have := gw_g hI_v14.1 (e := (((26 : Int32) + ((3 : Int32) * a1)) + 1)) (by omega) (by omega) (by omega))
    have : (100 : Int32).toInt = 100 := (by decide)
    have := i_bd (v14 36 0 (Int32.toNatClampNeg (((26 : Int32) + ((3 : Int32) * a1)) + 1)))
    (first | have := sp_subx (v14 36 0 (Int32.toNatClampNeg (((26 : Int32) + ((3 : Int32) * a1)) + 1))) (100 : Int32) (by omega) | obtain ⟨k7, hk7⟩ := sp_sub (v14 36 0 (Int32.toNatClampNeg (((26 : Int32) + ((3 : Int32) * a1)) + 1))) (100 : Int32))
    have := i_eq ex16
    refine ok_some ?_
    show IM v14
    have : (2 : Int32).toInt = 2 := (by decide)
    (first | have := sp_cmulx (2 : Int32) x16 2 (by decide) (by omega) | obtain ⟨k8, hk8⟩ := sp_cmul (2 : Int32) x16 2 (by decide))
    exact hI_v14
  · skip
    have ic4 := i_ne c4
    have : (5 : Int32).toInt = 5 := (by decide)
    refine ok_bind (k_X8_begins v hI_v 13 ) (fun v21 hr20 => ?_)
    replace hr20 : IM v21 := hr20
    have hI_v21 := hr20
    clear hr20
    refine ok_bind (k_X8_begins v21 hI_v21 10 ) (fun v24 hr23 => ?_)
    replace hr23 : IM v24 := hr23
    have hI_v24 := hr23
    clear hr23
    refine ok_grd _ ?_ ?_
    · skip
      have : (26 : Int32).toInt = 26 := (by decide)
      have : (3 : Int32).toInt = 3 := (by decide)
      (first | have := sp_cmulx (3 : Int32) a1 3 (by decide) (by omega) | obtain ⟨k9, hk9⟩ := sp_cmul (3 : Int32) a1 3 (by decide))
      (first | have := sp_addx (26 : Int32) ((3 : Int32) * a1) (by omega) | obtain ⟨k10, hk10⟩ := sp_add (26 : Int32) ((3 : Int32) * a1))
      have : (1 : Int32).toInt = 1 := (by decide)
      (first | have := sp_addx ((26 : Int32) + ((3 : Int32) * a1)) (1 : Int32) (by omega) | obtain ⟨k11, hk11⟩ := sp_add ((26 : Int32) + ((3 : Int32) * a1)) (1 : Int32))
      exact gr (by omega) (by omega)
    refine ok_let (fun x26 ex26 => ?_)
    have : (26 : Int32).toInt = 26 := (by decide)
    have : (3 : Int32).toInt = 3 := (by decide)
    (first | have := sp_cmulx (3 : Int32) a1 3 (by decide) (by omega) | obtain ⟨k12, hk12⟩ := sp_cmul (3 : Int32) a1 3 (by decide))
    (first | have := sp_addx (26 : Int32) ((3 : Int32) * a1) (by omega) | obtain ⟨k13, hk13⟩ := sp_add (26 : Int32) ((3 : Int32) * a1))
    have : (1 : Int32).toInt = 1 := (by decide)
    (first | have := sp_addx ((26 : Int32) + ((3 : Int32) * a1)) (1 : Int32) (by omega) | obtain ⟨k14, hk14⟩ := sp_add ((26 : Int32) + ((3 : Int32) * a1)) (1 : Int32))
    (try have := gw_w hI_v24.1 (e := (((26 : Int32) + ((3 : Int32) * a1)) + 1)) (by omega) (by omega) (by omega))
    (try have := gw_g hI_v24.1 (e := (((26 : Int32) + ((3 : Int32) * a1)) + 1)) (by omega) (by omega) (by omega))
    have : (100 : Int32).toInt = 100 := (by decide)
    have := i_bd (v24 36 0 (Int32.toNatClampNeg (((26 : Int32) + ((3 : Int32) * a1)) + 1)))
    (first | have := sp_subx (v24 36 0 (Int32.toNatClampNeg (((26 : Int32) + ((3 : Int32) * a1)) + 1))) (100 : Int32) (by omega) | obtain ⟨k15, hk15⟩ := sp_sub (v24 36 0 (Int32.toNatClampNeg (((26 : Int32) + ((3 : Int32) * a1)) + 1))) (100 : Int32))
    have := i_eq ex26
    refine ok_some ?_
    show IM v24
    exact hI_v24
set_option maxHeartbeats 4000000 in
theorem k_X8_keenSize (v : Mm) (hI_v : IM v) (a1 : Int32) (h_a1 : (0 : Int) ≤ a1.toInt ∧ a1.toInt ≤ (3 : Int)) : ok (g_X8_keenSize v a1) (fun z => IM z.2) := by
  unfold g_X8_keenSize
  refine ok_bind (k_X8_kindIn v hI_v a1 (by omega)) (fun r2 hr2 => ?_)
  clear hr2
  refine ok_ite _ (fun c4 => ?_) (fun c4 => ?_)
  · skip
    have ic4 := i_eq c4
    have : (2 : Int32).toInt = 2 := (by decide)
    refine ok_bind (k_X8_begins v hI_v 12 ) (fun v8 hr7 => ?_)
    replace hr7 : IM v8 := hr7
    have hI_v8 := hr7
    clear hr7
    refine ok_bind (k_X8_begins v8 hI_v8 11 ) (fun v11 hr10 => ?_)
    replace hr10 : IM v11 := hr10
    have hI_v11 := hr10
    clear hr10
    refine ok_bind (k_X8_begins v11 hI_v11 10 ) (fun v14 hr13 => ?_)
    replace hr13 : IM v14 := hr13
    have hI_v14 := hr13
    clear hr13
    refine ok_grd _ ?_ ?_
    · skip
      have : (26 : Int32).toInt = 26 := (by decide)
      have : (3 : Int32).toInt = 3 := (by decide)
      (first | have := sp_cmulx (3 : Int32) a1 3 (by decide) (by omega) | obtain ⟨k1, hk1⟩ := sp_cmul (3 : Int32) a1 3 (by decide))
      (first | have := sp_addx (26 : Int32) ((3 : Int32) * a1) (by omega) | obtain ⟨k2, hk2⟩ := sp_add (26 : Int32) ((3 : Int32) * a1))
      have : (1 : Int32).toInt = 1 := (by decide)
      (first | have := sp_addx ((26 : Int32) + ((3 : Int32) * a1)) (1 : Int32) (by omega) | obtain ⟨k3, hk3⟩ := sp_add ((26 : Int32) + ((3 : Int32) * a1)) (1 : Int32))
      exact gr (by omega) (by omega)
    refine ok_kb2 (k_X8_keenMark v14 hI_v14 a1 (by omega)) (fun r17 v18 hr17 => ?_)
    replace hr17 : IM v18 := hr17
    have hI_v18 := hr17
    clear hr17
    refine ok_let (fun x19 ex19 => ?_)
    have : (26 : Int32).toInt = 26 := (by decide)
    have : (3 : Int32).toInt = 3 := (by decide)
    (first | have := sp_cmulx (3 : Int32) a1 3 (by decide) (by omega) | obtain ⟨k4, hk4⟩ := sp_cmul (3 : Int32) a1 3 (by decide))
    (first | have := sp_addx (26 : Int32) ((3 : Int32) * a1) (by omega) | obtain ⟨k5, hk5⟩ := sp_add (26 : Int32) ((3 : Int32) * a1))
    have : (1 : Int32).toInt = 1 := (by decide)
    (first | have := sp_addx ((26 : Int32) + ((3 : Int32) * a1)) (1 : Int32) (by omega) | obtain ⟨k6, hk6⟩ := sp_add ((26 : Int32) + ((3 : Int32) * a1)) (1 : Int32))
    (try have := gw_w hI_v14.1 (e := (((26 : Int32) + ((3 : Int32) * a1)) + 1)) (by omega) (by omega) (by omega))
    (try have := gw_g hI_v14.1 (e := (((26 : Int32) + ((3 : Int32) * a1)) + 1)) (by omega) (by omega) (by omega))
    have := i_bd (v14 36 0 (Int32.toNatClampNeg (((26 : Int32) + ((3 : Int32) * a1)) + 1)))
    have := i_bd r17
    (first | have := sp_addx (v14 36 0 (Int32.toNatClampNeg (((26 : Int32) + ((3 : Int32) * a1)) + 1))) r17 (by omega) | obtain ⟨k7, hk7⟩ := sp_add (v14 36 0 (Int32.toNatClampNeg (((26 : Int32) + ((3 : Int32) * a1)) + 1))) r17)
    have := i_eq ex19
    refine ok_some ?_
    show IM v18
    exact hI_v18
  · skip
    have ic4 := i_ne c4
    have : (2 : Int32).toInt = 2 := (by decide)
    refine ok_bind (k_X8_begins v hI_v 11 ) (fun v24 hr23 => ?_)
    replace hr23 : IM v24 := hr23
    have hI_v24 := hr23
    clear hr23
    refine ok_bind (k_X8_begins v24 hI_v24 10 ) (fun v27 hr26 => ?_)
    replace hr26 : IM v27 := hr26
    have hI_v27 := hr26
    clear hr26
    refine ok_grd _ ?_ ?_
    · skip
      have : (26 : Int32).toInt = 26 := (by decide)
      have : (3 : Int32).toInt = 3 := (by decide)
      (first | have := sp_cmulx (3 : Int32) a1 3 (by decide) (by omega) | obtain ⟨k8, hk8⟩ := sp_cmul (3 : Int32) a1 3 (by decide))
      (first | have := sp_addx (26 : Int32) ((3 : Int32) * a1) (by omega) | obtain ⟨k9, hk9⟩ := sp_add (26 : Int32) ((3 : Int32) * a1))
      have : (1 : Int32).toInt = 1 := (by decide)
      (first | have := sp_addx ((26 : Int32) + ((3 : Int32) * a1)) (1 : Int32) (by omega) | obtain ⟨k10, hk10⟩ := sp_add ((26 : Int32) + ((3 : Int32) * a1)) (1 : Int32))
      exact gr (by omega) (by omega)
    refine ok_kb2 (k_X8_keenMark v27 hI_v27 a1 (by omega)) (fun r30 v31 hr30 => ?_)
    replace hr30 : IM v31 := hr30
    have hI_v31 := hr30
    clear hr30
    refine ok_let (fun x32 ex32 => ?_)
    have : (26 : Int32).toInt = 26 := (by decide)
    have : (3 : Int32).toInt = 3 := (by decide)
    (first | have := sp_cmulx (3 : Int32) a1 3 (by decide) (by omega) | obtain ⟨k11, hk11⟩ := sp_cmul (3 : Int32) a1 3 (by decide))
    (first | have := sp_addx (26 : Int32) ((3 : Int32) * a1) (by omega) | obtain ⟨k12, hk12⟩ := sp_add (26 : Int32) ((3 : Int32) * a1))
    have : (1 : Int32).toInt = 1 := (by decide)
    (first | have := sp_addx ((26 : Int32) + ((3 : Int32) * a1)) (1 : Int32) (by omega) | obtain ⟨k13, hk13⟩ := sp_add ((26 : Int32) + ((3 : Int32) * a1)) (1 : Int32))
    (try have := gw_w hI_v27.1 (e := (((26 : Int32) + ((3 : Int32) * a1)) + 1)) (by omega) (by omega) (by omega))
    (try have := gw_g hI_v27.1 (e := (((26 : Int32) + ((3 : Int32) * a1)) + 1)) (by omega) (by omega) (by omega))
    have := i_bd (v27 36 0 (Int32.toNatClampNeg (((26 : Int32) + ((3 : Int32) * a1)) + 1)))
    have := i_bd r30
    (first | have := sp_addx (v27 36 0 (Int32.toNatClampNeg (((26 : Int32) + ((3 : Int32) * a1)) + 1))) r30 (by omega) | obtain ⟨k14, hk14⟩ := sp_add (v27 36 0 (Int32.toNatClampNeg (((26 : Int32) + ((3 : Int32) * a1)) + 1))) r30)
    have := i_eq ex32
    refine ok_some ?_
    show IM v31
    exact hI_v31
set_option maxHeartbeats 4000000 in
theorem k_X8_deafMark (v : Mm) (hI_v : IM v) (a1 : Int32) (h_a1 : (0 : Int) ≤ a1.toInt ∧ a1.toInt ≤ (3 : Int)) : ok (g_X8_deafMark v a1) (fun z => IM z.2) := by
  unfold g_X8_deafMark
  refine ok_bind (k_X8_begins v hI_v 23 ) (fun v3 hr2 => ?_)
  replace hr2 : IM v3 := hr2
  have hI_v3 := hr2
  clear hr2
  refine ok_bind (k_X8_begins v3 hI_v3 20 ) (fun v6 hr5 => ?_)
  replace hr5 : IM v6 := hr5
  have hI_v6 := hr5
  clear hr5
  refine ok_kb2 (k_X8_deafSize v6 hI_v6 a1 (by omega)) (fun r8 v9 hr8 => ?_)
  replace hr8 : IM v9 := hr8
  have hI_v9 := hr8
  clear hr8
  refine ok_some ?_
  show IM v9
  have := i_bd a1
  have := i_bd r8
  (first | have := sp_subx a1 r8 (by omega) | obtain ⟨k1, hk1⟩ := sp_sub a1 r8)
  exact hI_v9
set_option maxHeartbeats 4000000 in
theorem k_X8_ask (v : Mm) (hI_v : IM v) (a1 : Int32) (a2 : Int32) : ok (g_X8_ask v a1 a2) (fun z => IM z.2) := by
  unfold g_X8_ask
  refine ok_bind (k_X8_isGuard v hI_v a1 ) (fun r2 hr2 => ?_)
  replace hr2 : (0 : Int) ≤ Int32.toInt r2 ∧ Int32.toInt r2 ≤ (1 : Int) ∧ ((Int32.toInt r2 = 0 ∨ (0 ≤ Int32.toInt a1 ∧ Int32.toInt a1 ≤ 3 ∧ 0 < Int32.toInt (v 36 0 4)))) := hr2
  obtain ⟨hr2_lo, hr2_hi, hr2_p0⟩ := hr2
  have : (0 : Int) ≤ (v 36 0 4).toInt ∧ (v 36 0 4).toInt ≤ (4 : Int) := hI_v.1 36 0 4
  refine ok_ite _ (fun c4 => ?_) (fun c4 => ?_)
  · skip
    have ic4 := i_eq c4
    try clear hr2_p0
    have : (0 : Int32).toInt = 0 := (by decide)
    refine ok_some ?_
    show IM v
    have : (-1000001 : Int32).toInt = -1000001 := (by decide)
    exact hI_v
  · skip
    have ic4 : Int32.toInt r2 = 1 := one_of hr2_lo hr2_hi c4
    try replace hr2_p0 : (0 ≤ Int32.toInt a1 ∧ Int32.toInt a1 ≤ 3 ∧ 0 < Int32.toInt (v 36 0 4)) := orr hr2_p0 ic4
    have : (0 : Int32).toInt = 0 := (by decide)
    refine ok_bind (k_X8_in v hI_v a2 0 1 ) (fun r6 hr6 => ?_)
    replace hr6 : (0 : Int) ≤ Int32.toInt r6 ∧ Int32.toInt r6 ≤ (1 : Int) ∧ (Int32.toInt r6 = 0 ∨ (Int32.toInt 0 ≤ Int32.toInt a2 ∧ Int32.toInt a2 ≤ Int32.toInt 1)) := hr6
    obtain ⟨hr6_lo, hr6_hi, hr6_p0⟩ := hr6
    have : (0 : Int32).toInt = 0 := (by decide)
    have : (1 : Int32).toInt = 1 := (by decide)
    refine ok_ite _ (fun c8 => ?_) (fun c8 => ?_)
    · skip
      have ic8 := i_eq c8
      try clear hr6_p0
      have : (0 : Int32).toInt = 0 := (by decide)
      refine ok_some ?_
      show IM v
      have : (-1000001 : Int32).toInt = -1000001 := (by decide)
      exact hI_v
    · skip
      have ic8 : Int32.toInt r6 = 1 := one_of hr6_lo hr6_hi c8
      try replace hr6_p0 : (Int32.toInt 0 ≤ Int32.toInt a2 ∧ Int32.toInt a2 ≤ Int32.toInt 1) := orr hr6_p0 ic8
      have : (0 : Int32).toInt = 0 := (by decide)
      refine ok_let (fun v9 ev9 => ?_)
      have hI_v9 : IM v9 := by
        rw [ev9]
        refine hI_v.upo (by decide) ?_
        show (0 : Int) ≤ Int32.toInt (0 : Int32) ∧ Int32.toInt (0 : Int32) ≤ (16 : Int)
        have : (0 : Int32).toInt = 0 := (by decide)
        omega
      have := i_eq (show v9 30 0 22 = 0 by rw [ev9]; exact up3_s)
      have : (0 : Int32).toInt = 0 := (by decide)
      refine ok_bind (k_X8_kindIn v9 hI_v9 a1 (by omega)) (fun r11 hr11 => ?_)
      clear hr11
      refine ok_ite _ (fun c13 => ?_) (fun c13 => ?_)
      · skip
        have ic13 := i_lt c13
        have : (4 : Int32).toInt = 4 := (by decide)
        refine ok_ite _ (fun c14 => ?_) (fun c14 => ?_)
        · skip
          have ic14 := i_eq c14
          have : (0 : Int32).toInt = 0 := (by decide)
          refine ok_kb2 (k_X8_keenSize v9 hI_v9 a1 (by omega)) (fun r17 v18 hr17 => ?_)
          replace hr17 : IM v18 := hr17
          have hI_v18 := hr17
          clear hr17
          refine ok_some ?_
          show IM v18
          exact hI_v18
        · skip
          have ic14 := i_ne c14
          have : (0 : Int32).toInt = 0 := (by decide)
          refine ok_kb2 (k_X8_keenMark v9 hI_v9 a1 (by omega)) (fun r21 v22 hr21 => ?_)
          replace hr21 : IM v22 := hr21
          have hI_v22 := hr21
          clear hr21
          refine ok_some ?_
          show IM v22
          exact hI_v22
      · skip
        have ic13 := i_nlt c13
        have : (4 : Int32).toInt = 4 := (by decide)
        refine ok_ite _ (fun c23 => ?_) (fun c23 => ?_)
        · skip
          have ic23 := i_eq c23
          have : (0 : Int32).toInt = 0 := (by decide)
          refine ok_kb2 (k_X8_deafSize v9 hI_v9 a1 (by omega)) (fun r26 v27 hr26 => ?_)
          replace hr26 : IM v27 := hr26
          have hI_v27 := hr26
          clear hr26
          refine ok_some ?_
          show IM v27
          exact hI_v27
        · skip
          have ic23 := i_ne c23
          have : (0 : Int32).toInt = 0 := (by decide)
          refine ok_kb2 (k_X8_deafMark v9 hI_v9 a1 (by omega)) (fun r30 v31 hr30 => ?_)
          replace hr30 : IM v31 := hr30
          have hI_v31 := hr30
          clear hr30
          refine ok_some ?_
          show IM v31
          exact hI_v31
set_option maxHeartbeats 4000000 in
theorem k_X8_trace (v : Mm) (hI_v : IM v) (a1 : Int32) : ok (g_X8_trace v a1) (fun z => True) := by
  unfold g_X8_trace
  refine ok_bind (k_X8_in v hI_v a1 0 ((v 30 0 22) - 1) ) (fun r2 hr2 => ?_)
  replace hr2 : (0 : Int) ≤ Int32.toInt r2 ∧ Int32.toInt r2 ≤ (1 : Int) ∧ (Int32.toInt r2 = 0 ∨ (Int32.toInt 0 ≤ Int32.toInt a1 ∧ Int32.toInt a1 ≤ Int32.toInt ((v 30 0 22) - 1))) := hr2
  obtain ⟨hr2_lo, hr2_hi, hr2_p0⟩ := hr2
  have : (0 : Int) ≤ (v 30 0 22).toInt ∧ (v 30 0 22).toInt ≤ (16 : Int) := hI_v.1 30 0 22
  have : (0 : Int32).toInt = 0 := (by decide)
  have : (0 : Int) ≤ (v 30 0 22).toInt ∧ (v 30 0 22).toInt ≤ (16 : Int) := hI_v.1 30 0 22
  have : (1 : Int32).toInt = 1 := (by decide)
  have := i_bd (v 30 0 22)
  (first | have := sp_subx (v 30 0 22) (1 : Int32) (by omega) | obtain ⟨k1, hk1⟩ := sp_sub (v 30 0 22) (1 : Int32))
  refine ok_ite _ (fun c4 => ?_) (fun c4 => ?_)
  · skip
    have ic4 := i_eq c4
    try clear hr2_p0
    have : (0 : Int32).toInt = 0 := (by decide)
    refine ok_some ?_
    show True
    have : (-1000000 : Int32).toInt = -1000000 := (by decide)
    trivial
  · skip
    have ic4 : Int32.toInt r2 = 1 := one_of hr2_lo hr2_hi c4
    try replace hr2_p0 : (Int32.toInt 0 ≤ Int32.toInt a1 ∧ Int32.toInt a1 ≤ Int32.toInt ((v 30 0 22) - 1)) := orr hr2_p0 ic4
    have : (0 : Int32).toInt = 0 := (by decide)
    refine ok_grd _ ?_ ?_
    · skip
      exact gr (by omega) (by omega)
    refine ok_some ?_
    show True
    trivial
set_option maxHeartbeats 4000000 in
theorem k_X8_count (v : Mm) (hI_v : IM v) (a1 : Int32) : ok (g_X8_count v a1) (fun z => True) := by
  have : ((v 36 0 3).toInt = 0 ∧ (v 36 0 4).toInt = 0) ∨ (0 < (v 36 0 3).toInt ∧ 0 < (v 36 0 4).toInt) := hI_v.2.1
  have loop144 : ∀ (n144 : Nat) (x2_144 : Int32) (x3_144 : Int32), ((0 : Int) ≤ Int32.toInt x3_144 ∧ Int32.toInt x3_144 ≤ (4 : Int)) → (4 - Int32.toInt x3_144 < (n144 : Int)) → ok (g_X8_count_L144  v a1 n144 x2_144 x3_144) (fun z => True) := by
    intro n144
    induction n144 with
    | zero =>
      intro x2_144 x3_144 hv0_144 hm144
      exfalso
      omega
    | succ n144 ih144 =>
      intro x2_144 x3_144 hv0_144 hm144
      show ok (b_X8_count_L144  (g_X8_count_L144  v a1 n144) v a1 x2_144 x3_144) _
      unfold b_X8_count_L144
      try rw [tc_0]
      try rw [tc_3]
      try rw [tc_4]
      try rw [tc_5]
      try rw [tc_6]
      try rw [tc_7]
      refine ok_ite _ (fun c1 => ?_) (fun c1 => ?_)
      · skip
        have ic1 := i_le c1
        have : (0 : Int) ≤ (v 36 0 4).toInt ∧ (v 36 0 4).toInt ≤ (4 : Int) := hI_v.1 36 0 4
        refine ok_some ?_
        show True
        trivial
      · skip
        have ic1 := i_nle c1
        have : (0 : Int) ≤ (v 36 0 4).toInt ∧ (v 36 0 4).toInt ≤ (4 : Int) := hI_v.1 36 0 4
        refine ok_grd _ ?_ ?_
        · skip
          have : (26 : Int32).toInt = 26 := (by decide)
          have : (3 : Int32).toInt = 3 := (by decide)
          (first | have := sp_cmulx (3 : Int32) x3_144 3 (by decide) (by omega) | obtain ⟨k1, hk1⟩ := sp_cmul (3 : Int32) x3_144 3 (by decide))
          (first | have := sp_addx (26 : Int32) ((3 : Int32) * x3_144) (by omega) | obtain ⟨k2, hk2⟩ := sp_add (26 : Int32) ((3 : Int32) * x3_144))
          have : (2 : Int32).toInt = 2 := (by decide)
          (first | have := sp_addx ((26 : Int32) + ((3 : Int32) * x3_144)) (2 : Int32) (by omega) | obtain ⟨k3, hk3⟩ := sp_add ((26 : Int32) + ((3 : Int32) * x3_144)) (2 : Int32))
          exact gr (by omega) (by omega)
        refine ok_let (fun x3 ex3 => ?_)
        have : (26 : Int32).toInt = 26 := (by decide)
        have : (3 : Int32).toInt = 3 := (by decide)
        (first | have := sp_cmulx (3 : Int32) x3_144 3 (by decide) (by omega) | obtain ⟨k4, hk4⟩ := sp_cmul (3 : Int32) x3_144 3 (by decide))
        (first | have := sp_addx (26 : Int32) ((3 : Int32) * x3_144) (by omega) | obtain ⟨k5, hk5⟩ := sp_add (26 : Int32) ((3 : Int32) * x3_144))
        have : (2 : Int32).toInt = 2 := (by decide)
        (first | have := sp_addx ((26 : Int32) + ((3 : Int32) * x3_144)) (2 : Int32) (by omega) | obtain ⟨k6, hk6⟩ := sp_add ((26 : Int32) + ((3 : Int32) * x3_144)) (2 : Int32))
        (try have := gw_w hI_v.1 (e := (((26 : Int32) + ((3 : Int32) * x3_144)) + 2)) (by omega) (by omega) (by omega))
        (try have := gw_g hI_v.1 (e := (((26 : Int32) + ((3 : Int32) * x3_144)) + 2)) (by omega) (by omega) (by omega))
        have := i_bd x2_144
        have := i_bd (v 36 0 (Int32.toNatClampNeg (((26 : Int32) + ((3 : Int32) * x3_144)) + 2)))
        (first | have := sp_addx x2_144 (v 36 0 (Int32.toNatClampNeg (((26 : Int32) + ((3 : Int32) * x3_144)) + 2))) (by omega) | obtain ⟨k7, hk7⟩ := sp_add x2_144 (v 36 0 (Int32.toNatClampNeg (((26 : Int32) + ((3 : Int32) * x3_144)) + 2))))
        have := i_eq ex3
        have : (1 : Int32).toInt = 1 := (by decide)
        have := i_bd x3_144
        (first | have := sp_addx x3_144 (1 : Int32) (by omega) | obtain ⟨k8, hk8⟩ := sp_add x3_144 (1 : Int32))
        exact ih144 x3 (x3_144 + 1) (by omega) (by omega)
  have loop58 : ∀ (n58 : Nat) (x2_58 : Int32) (x3_58 : Int32), ((0 : Int) ≤ Int32.toInt x3_58 ∧ Int32.toInt x3_58 ≤ (8 : Int)) → (8 - Int32.toInt x3_58 < (n58 : Int)) → ok (g_X8_count_L58  v a1 n58 x2_58 x3_58) (fun z => True) := by
    intro n58
    induction n58 with
    | zero =>
      intro x2_58 x3_58 hv0_58 hm58
      exfalso
      omega
    | succ n58 ih58 =>
      intro x2_58 x3_58 hv0_58 hm58
      show ok (b_X8_count_L58  (g_X8_count_L58  v a1 n58) v a1 x2_58 x3_58) _
      unfold b_X8_count_L58
      try rw [tc_0]
      try rw [tc_3]
      try rw [tc_4]
      try rw [tc_5]
      try rw [tc_6]
      try rw [tc_7]
      refine ok_ite _ (fun c4 => ?_) (fun c4 => ?_)
      · skip
        have ic4 := i_le c4
        have : (8 : Int32).toInt = 8 := (by decide)
        refine ok_some ?_
        show True
        trivial
      · skip
        have ic4 := i_nle c4
        have : (8 : Int32).toInt = 8 := (by decide)
        refine ok_bind (k_X8_isMissing v hI_v x3_58 (by omega)) (fun r6 hr6 => ?_)
        replace hr6 : (0 : Int) ≤ Int32.toInt r6 ∧ Int32.toInt r6 ≤ (1 : Int) := hr6
        obtain ⟨hr6_lo, hr6_hi⟩ := hr6
        refine ok_ite _ (fun c8 => ?_) (fun c8 => ?_)
        · skip
          have ic8 := i_eq c8
          have : (0 : Int32).toInt = 0 := (by decide)
          have : (1 : Int32).toInt = 1 := (by decide)
          have := i_bd x2_58
          (first | have := sp_addx x2_58 (1 : Int32) (by omega) | obtain ⟨k9, hk9⟩ := sp_add x2_58 (1 : Int32))
          have := i_bd x3_58
          (first | have := sp_addx x3_58 (1 : Int32) (by omega) | obtain ⟨k10, hk10⟩ := sp_add x3_58 (1 : Int32))
          exact ih58 (x2_58 + 1) (x3_58 + 1) (by omega) (by omega)
        · skip
          have ic8 : Int32.toInt r6 = 1 := one_of hr6_lo hr6_hi c8
          have : (0 : Int32).toInt = 0 := (by decide)
          have : (0 : Int32).toInt = 0 := (by decide)
          have := i_bd x2_58
          (first | have := sp_addx x2_58 (0 : Int32) (by omega) | obtain ⟨k11, hk11⟩ := sp_add x2_58 (0 : Int32))
          have : (1 : Int32).toInt = 1 := (by decide)
          have := i_bd x3_58
          (first | have := sp_addx x3_58 (1 : Int32) (by omega) | obtain ⟨k12, hk12⟩ := sp_add x3_58 (1 : Int32))
          exact ih58 (x2_58 + 0) (x3_58 + 1) (by omega) (by omega)
  unfold g_X8_count
  try rw [tc_0]
  try rw [tc_3]
  try rw [tc_4]
  try rw [tc_5]
  try rw [tc_6]
  try rw [tc_7]
  refine ok_ite _ (fun c9 => ?_) (fun c9 => ?_)
  · skip
    have ic9 := i_eq c9
    have : (0 : Int32).toInt = 0 := (by decide)
    have : (0 : Int32).toInt = 0 := (by decide)
    exact loop58 2000 0 0 (by omega) (by omega)
  · skip
    have ic9 := i_ne c9
    have : (0 : Int32).toInt = 0 := (by decide)
    refine ok_ite _ (fun c10 => ?_) (fun c10 => ?_)
    · skip
      have ic10 := i_eq c10
      have : (1 : Int32).toInt = 1 := (by decide)
      refine ok_some ?_
      show True
      have : (0 : Int) ≤ (v 36 0 3).toInt ∧ (v 36 0 3).toInt ≤ (6 : Int) := hI_v.1 36 0 3
      trivial
    · skip
      have ic10 := i_ne c10
      have : (1 : Int32).toInt = 1 := (by decide)
      refine ok_ite _ (fun c11 => ?_) (fun c11 => ?_)
      · skip
        have ic11 := i_eq c11
        have : (2 : Int32).toInt = 2 := (by decide)
        refine ok_some ?_
        show True
        have : (0 : Int) ≤ (v 36 0 4).toInt ∧ (v 36 0 4).toInt ≤ (4 : Int) := hI_v.1 36 0 4
        trivial
      · skip
        have ic11 := i_ne c11
        have : (2 : Int32).toInt = 2 := (by decide)
        refine ok_ite _ (fun c12 => ?_) (fun c12 => ?_)
        · skip
          have ic12 := i_eq c12
          have : (3 : Int32).toInt = 3 := (by decide)
          refine ok_some ?_
          show True
          have : (0 : Int) ≤ (v 36 0 5).toInt ∧ (v 36 0 5).toInt ≤ (999 : Int) := hI_v.1 36 0 5
          trivial
        · skip
          have ic12 := i_ne c12
          have : (3 : Int32).toInt = 3 := (by decide)
          refine ok_ite _ (fun c13 => ?_) (fun c13 => ?_)
          · skip
            have ic13 := i_eq c13
            have : (4 : Int32).toInt = 4 := (by decide)
            refine ok_some ?_
            show True
            have : (0 : Int) ≤ (v 36 0 7).toInt ∧ (v 36 0 7).toInt ≤ (9 : Int) := hI_v.1 36 0 7
            trivial
          · skip
            have ic13 := i_ne c13
            have : (4 : Int32).toInt = 4 := (by decide)
            refine ok_ite _ (fun c14 => ?_) (fun c14 => ?_)
            · skip
              have ic14 := i_eq c14
              have : (5 : Int32).toInt = 5 := (by decide)
              refine ok_some ?_
              show True
              have : (0 : Int) ≤ (v 36 0 6).toInt ∧ (v 36 0 6).toInt ≤ (15 : Int) := hI_v.1 36 0 6
              trivial
            · skip
              have ic14 := i_ne c14
              have : (5 : Int32).toInt = 5 := (by decide)
              refine ok_ite _ (fun c15 => ?_) (fun c15 => ?_)
              · skip
                have ic15 := i_eq c15
                have : (6 : Int32).toInt = 6 := (by decide)
                refine ok_some ?_
                show True
                have : (0 : Int) ≤ (v 30 0 17).toInt ∧ (v 30 0 17).toInt ≤ (24 : Int) := hI_v.1 30 0 17
                trivial
              · skip
                have ic15 := i_ne c15
                have : (6 : Int32).toInt = 6 := (by decide)
                refine ok_ite _ (fun c16 => ?_) (fun c16 => ?_)
                · skip
                  have ic16 := i_eq c16
                  have : (7 : Int32).toInt = 7 := (by decide)
                  refine ok_some ?_
                  show True
                  have : (0 : Int) ≤ (v 30 0 6).toInt ∧ (v 30 0 6).toInt ≤ (100 : Int) := hI_v.1 30 0 6
                  trivial
                · skip
                  have ic16 := i_ne c16
                  have : (7 : Int32).toInt = 7 := (by decide)
                  refine ok_ite _ (fun c17 => ?_) (fun c17 => ?_)
                  · skip
                    have ic17 := i_eq c17
                    have : (8 : Int32).toInt = 8 := (by decide)
                    refine ok_some ?_
                    show True
                    have : (0 : Int) ≤ (v 36 0 0).toInt ∧ (v 36 0 0).toInt ≤ (9 : Int) := hI_v.1 36 0 0
                    trivial
                  · skip
                    have ic17 := i_ne c17
                    have : (8 : Int32).toInt = 8 := (by decide)
                    refine ok_ite _ (fun c18 => ?_) (fun c18 => ?_)
                    · skip
                      have ic18 := i_eq c18
                      have : (9 : Int32).toInt = 9 := (by decide)
                      have : (0 : Int32).toInt = 0 := (by decide)
                      exact loop144 2000 0 0 (by omega) (by omega)
                    · skip
                      have ic18 := i_ne c18
                      have : (9 : Int32).toInt = 9 := (by decide)
                      refine ok_some ?_
                      show True
                      have : (-1000001 : Int32).toInt = -1000001 := (by decide)
                      trivial
set_option maxHeartbeats 4000000 in
theorem k_X8_status (v : Mm) (hI_v : IM v)  : ok (g_X8_status v ) (fun z => True) := by
  unfold g_X8_status
  refine ok_some ?_
  show True
  trivial
