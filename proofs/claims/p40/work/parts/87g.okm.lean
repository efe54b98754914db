set_option maxHeartbeats 4000000 in
theorem k_X8_isGate (v : Mm) (hI_v : IM v)  : ok (g_X8_isGate v ) (fun z => (0 : Int) ≤ Int32.toInt z ∧ Int32.toInt z ≤ (1 : Int) ∧ ((Int32.toInt z = 0 ∧ Int32.toInt (v 36 0 3) = 0) ∨ 0 < Int32.toInt (v 36 0 3))) := by
  have : ((v 36 0 3).toInt = 0 ∧ (v 36 0 4).toInt = 0) ∨ (0 < (v 36 0 3).toInt ∧ 0 < (v 36 0 4).toInt) := hI_v.2.1
  unfold g_X8_isGate
  try rw [tc_3]
  refine ok_ite _ (fun c1 => ?_) (fun c1 => ?_)
  · skip
    have ic1 := i_le c1
    have : (0 : Int) ≤ (v 36 0 3).toInt ∧ (v 36 0 3).toInt ≤ (6 : Int) := hI_v.1 36 0 3
    have : (0 : Int32).toInt = 0 := (by decide)
    refine ok_some ?_
    show (0 : Int) ≤ Int32.toInt (0 : Int32) ∧ Int32.toInt (0 : Int32) ≤ (1 : Int) ∧ ((Int32.toInt (0 : Int32) = 0 ∧ Int32.toInt (v 36 0 3) = 0) ∨ 0 < Int32.toInt (v 36 0 3))
    have : (0 : Int32).toInt = 0 := (by decide)
    omega
  · skip
    have ic1 := i_nle c1
    have : (0 : Int) ≤ (v 36 0 3).toInt ∧ (v 36 0 3).toInt ≤ (6 : Int) := hI_v.1 36 0 3
    have : (0 : Int32).toInt = 0 := (by decide)
    refine ok_some ?_
    show (0 : Int) ≤ Int32.toInt (1 : Int32) ∧ Int32.toInt (1 : Int32) ≤ (1 : Int) ∧ ((Int32.toInt (1 : Int32) = 0 ∧ Int32.toInt (v 36 0 3) = 0) ∨ 0 < Int32.toInt (v 36 0 3))
    have : (1 : Int32).toInt = 1 := (by decide)
    omega
set_option maxHeartbeats 4000000 in
theorem k_X8_isWord (v : Mm) (hI_v : IM v) (a1 : Int32) : ok (g_X8_isWord v a1) (fun z => (0 : Int) ≤ Int32.toInt z ∧ Int32.toInt z ≤ (1 : Int) ∧ ((Int32.toInt z = 0 ∨ (0 ≤ Int32.toInt a1 ∧ Int32.toInt a1 ≤ 5 ∧ 0 < Int32.toInt (v 36 0 3))))) := by
  have : ((v 36 0 3).toInt = 0 ∧ (v 36 0 4).toInt = 0) ∨ (0 < (v 36 0 3).toInt ∧ 0 < (v 36 0 4).toInt) := hI_v.2.1
  unfold g_X8_isWord
  try rw [tc_3]
  refine ok_bind (k_X8_in v hI_v a1 0 ((v 36 0 3) - 1) ) (fun r2 hr2 => ?_)
  replace hr2 : (0 : Int) ≤ Int32.toInt r2 ∧ Int32.toInt r2 ≤ (1 : Int) ∧ (Int32.toInt r2 = 0 ∨ (Int32.toInt 0 ≤ Int32.toInt a1 ∧ Int32.toInt a1 ≤ Int32.toInt ((v 36 0 3) - 1))) := hr2
  obtain ⟨hr2_lo, hr2_hi, hr2_p0⟩ := hr2
  have : (0 : Int) ≤ (v 36 0 3).toInt ∧ (v 36 0 3).toInt ≤ (6 : Int) := hI_v.1 36 0 3
  have : (0 : Int32).toInt = 0 := (by decide)
  have : (0 : Int) ≤ (v 36 0 3).toInt ∧ (v 36 0 3).toInt ≤ (6 : Int) := hI_v.1 36 0 3
  have : (1 : Int32).toInt = 1 := (by decide)
  have := i_bd (v 36 0 3)
  (first | have := sp_subx (v 36 0 3) (1 : Int32) (by omega) | obtain ⟨k1, hk1⟩ := sp_sub (v 36 0 3) (1 : Int32))
  refine ok_some ?_
  show (0 : Int) ≤ Int32.toInt r2 ∧ Int32.toInt r2 ≤ (1 : Int) ∧ ((Int32.toInt r2 = 0 ∨ (0 ≤ Int32.toInt a1 ∧ Int32.toInt a1 ≤ 5 ∧ 0 < Int32.toInt (v 36 0 3))))
  omega
set_option maxHeartbeats 4000000 in
theorem k_X8_isGuard (v : Mm) (hI_v : IM v) (a1 : Int32) : ok (g_X8_isGuard v a1) (fun z => (0 : Int) ≤ Int32.toInt z ∧ Int32.toInt z ≤ (1 : Int) ∧ ((Int32.toInt z = 0 ∨ (0 ≤ Int32.toInt a1 ∧ Int32.toInt a1 ≤ 3 ∧ 0 < Int32.toInt (v 36 0 4))))) := by
  have : ((v 36 0 3).toInt = 0 ∧ (v 36 0 4).toInt = 0) ∨ (0 < (v 36 0 3).toInt ∧ 0 < (v 36 0 4).toInt) := hI_v.2.1
  unfold g_X8_isGuard
  try rw [tc_4]
  refine ok_bind (k_X8_in v hI_v a1 0 ((v 36 0 4) - 1) ) (fun r2 hr2 => ?_)
  replace hr2 : (0 : Int) ≤ Int32.toInt r2 ∧ Int32.toInt r2 ≤ (1 : Int) ∧ (Int32.toInt r2 = 0 ∨ (Int32.toInt 0 ≤ Int32.toInt a1 ∧ Int32.toInt a1 ≤ Int32.toInt ((v 36 0 4) - 1))) := hr2
  obtain ⟨hr2_lo, hr2_hi, hr2_p0⟩ := hr2
  have : (0 : Int) ≤ (v 36 0 4).toInt ∧ (v 36 0 4).toInt ≤ (4 : Int) := hI_v.1 36 0 4
  have : (0 : Int32).toInt = 0 := (by decide)
  have : (0 : Int) ≤ (v 36 0 4).toInt ∧ (v 36 0 4).toInt ≤ (4 : Int) := hI_v.1 36 0 4
  have : (1 : Int32).toInt = 1 := (by decide)
  have := i_bd (v 36 0 4)
  (first | have := sp_subx (v 36 0 4) (1 : Int32) (by omega) | obtain ⟨k1, hk1⟩ := sp_sub (v 36 0 4) (1 : Int32))
  refine ok_some ?_
  show (0 : Int) ≤ Int32.toInt r2 ∧ Int32.toInt r2 ≤ (1 : Int) ∧ ((Int32.toInt r2 = 0 ∨ (0 ≤ Int32.toInt a1 ∧ Int32.toInt a1 ≤ 3 ∧ 0 < Int32.toInt (v 36 0 4))))
  omega
set_option maxHeartbeats 4000000 in
theorem k_X8_isHour (v : Mm) (hI_v : IM v) (a0 : Int32) : ok (g_X8_isHour v a0) (fun z => (0 : Int) ≤ Int32.toInt z ∧ Int32.toInt z ≤ (1 : Int) ∧ ((Int32.toInt z = 0 ∨ (0 ≤ Int32.toInt a0 ∧ Int32.toInt a0 ≤ 5)))) := by
  unfold g_X8_isHour
  refine ok_bind (k_X8_in v hI_v a0 0 5 ) (fun r2 hr2 => ?_)
  replace hr2 : (0 : Int) ≤ Int32.toInt r2 ∧ Int32.toInt r2 ≤ (1 : Int) ∧ (Int32.toInt r2 = 0 ∨ (Int32.toInt 0 ≤ Int32.toInt a0 ∧ Int32.toInt a0 ≤ Int32.toInt 5)) := hr2
  obtain ⟨hr2_lo, hr2_hi, hr2_p0⟩ := hr2
  have : (0 : Int32).toInt = 0 := (by decide)
  have : (5 : Int32).toInt = 5 := (by decide)
  refine ok_some ?_
  show (0 : Int) ≤ Int32.toInt r2 ∧ Int32.toInt r2 ≤ (1 : Int) ∧ ((Int32.toInt r2 = 0 ∨ (0 ≤ Int32.toInt a0 ∧ Int32.toInt a0 ≤ 5)))
  omega
set_option maxHeartbeats 4000000 in
theorem k_X8_isFar (v : Mm) (hI_v : IM v) (a0 : Int32) : ok (g_X8_isFar v a0) (fun z => (0 : Int) ≤ Int32.toInt z ∧ Int32.toInt z ≤ (1 : Int) ∧ ((Int32.toInt z = 0 ∨ (0 ≤ Int32.toInt a0 ∧ Int32.toInt a0 ≤ 60)))) := by
  unfold g_X8_isFar
  refine ok_bind (k_X8_in v hI_v a0 0 60 ) (fun r2 hr2 => ?_)
  replace hr2 : (0 : Int) ≤ Int32.toInt r2 ∧ Int32.toInt r2 ≤ (1 : Int) ∧ (Int32.toInt r2 = 0 ∨ (Int32.toInt 0 ≤ Int32.toInt a0 ∧ Int32.toInt a0 ≤ Int32.toInt 60)) := hr2
  obtain ⟨hr2_lo, hr2_hi, hr2_p0⟩ := hr2
  have : (0 : Int32).toInt = 0 := (by decide)
  have : (60 : Int32).toInt = 60 := (by decide)
  refine ok_some ?_
  show (0 : Int) ≤ Int32.toInt r2 ∧ Int32.toInt r2 ≤ (1 : Int) ∧ ((Int32.toInt r2 = 0 ∨ (0 ≤ Int32.toInt a0 ∧ Int32.toInt a0 ≤ 60)))
  omega
set_option maxHeartbeats 4000000 in
theorem k_X8_areWords (v : Mm) (hI_v : IM v) (a1 : Int32) : ok (g_X8_areWords v a1) (fun z => (0 : Int) ≤ Int32.toInt z ∧ Int32.toInt z ≤ (1 : Int) ∧ ((Int32.toInt z = 0 ∨ (0 ≤ Int32.toInt a1 ∧ Int32.toInt a1 ≤ 63)))) := by
  have : ((v 36 0 3).toInt = 0 ∧ (v 36 0 4).toInt = 0) ∨ (0 < (v 36 0 3).toInt ∧ 0 < (v 36 0 4).toInt) := hI_v.2.1
  unfold g_X8_areWords
  try rw [tc_3]
  refine ok_bind (k_X8_in v hI_v a1 0 (((1 : Int32) <<< ((v 36 0 3) &&& 31)) - 1) ) (fun r2 hr2 => ?_)
  replace hr2 : (0 : Int) ≤ Int32.toInt r2 ∧ Int32.toInt r2 ≤ (1 : Int) ∧ (Int32.toInt r2 = 0 ∨ (Int32.toInt 0 ≤ Int32.toInt a1 ∧ Int32.toInt a1 ≤ Int32.toInt (((1 : Int32) <<< ((v 36 0 3) &&& 31)) - 1))) := hr2
  obtain ⟨hr2_lo, hr2_hi, hr2_p0⟩ := hr2
  have : (0 : Int) ≤ (v 36 0 3).toInt ∧ (v 36 0 3).toInt ≤ (6 : Int) := hI_v.1 36 0 3
  have : (0 : Int32).toInt = 0 := (by decide)
  have : (1 : Int32).toInt = 1 := (by decide)
  have : (0 : Int) ≤ (v 36 0 3).toInt ∧ (v 36 0 3).toInt ≤ (6 : Int) := hI_v.1 36 0 3
  (try have := sp_shl4 (b := (v 36 0 3)) (by omega) (by omega))
  (try have := sp_shl5 (b := (v 36 0 3)) (by omega) (by omega))
  (try have := sp_shl7 (b := (v 36 0 3)) (by omega) (by omega))
  (try have := sp_shl (a := (1 : Int32)) (b := (v 36 0 3)) (by omega) (by omega) (by omega) (by omega))
  have : (1 : Int32).toInt = 1 := (by decide)
  (first | have := sp_subx ((1 : Int32) <<< ((v 36 0 3) &&& 31)) (1 : Int32) (by omega) | obtain ⟨k1, hk1⟩ := sp_sub ((1 : Int32) <<< ((v 36 0 3) &&& 31)) (1 : Int32))
  refine ok_some ?_
  show (0 : Int) ≤ Int32.toInt r2 ∧ Int32.toInt r2 ≤ (1 : Int) ∧ ((Int32.toInt r2 = 0 ∨ (0 ≤ Int32.toInt a1 ∧ Int32.toInt a1 ≤ 63)))
  omega
set_option maxHeartbeats 4000000 in
theorem k_X8_secretOf_36 (v : Mm) (hI_v : IM v) (a1 : Int32) (h_a1 : (0 : Int) ≤ a1.toInt ∧ a1.toInt ≤ (1100 : Int)) (hx0 : 0 < Int32.toInt (v 36 0 3)) : ok (g_X8_secretOf_36 v a1) (fun z => (0 : Int) ≤ Int32.toInt z ∧ Int32.toInt z ≤ (5 : Int)) := by
  have : ((v 36 0 3).toInt = 0 ∧ (v 36 0 4).toInt = 0) ∨ (0 < (v 36 0 3).toInt ∧ 0 < (v 36 0 4).toInt) := hI_v.2.1
  have : (0 : Int) ≤ (v 36 0 3).toInt ∧ (v 36 0 3).toInt ≤ (6 : Int) := hI_v.1 36 0 3
  unfold g_X8_secretOf_36
  try rw [tc_0]
  try rw [tc_1]
  try rw [tc_2]
  try rw [tc_3]
  have : (0 : Int) ≤ (v 36 0 3).toInt ∧ (v 36 0 3).toInt ≤ (6 : Int) := hI_v.1 36 0 3
  refine ok_ite _ (fun c1 => ?_) (fun c1 => ?_)
  · skip
    have ic1 := i_eq c1
    have : (7 : Int32).toInt = 7 := (by decide)
    (try have := sp_rem (a := a1) (b := (7 : Int32)) (by omega) (by omega))
    have : (0 : Int) ≤ (v 36 0 2).toInt ∧ (v 36 0 2).toInt ≤ (6 : Int) := hI_v.1 36 0 2
    refine ok_some ?_
    show (0 : Int) ≤ Int32.toInt (0 : Int32) ∧ Int32.toInt (0 : Int32) ≤ (5 : Int)
    have : (0 : Int32).toInt = 0 := (by decide)
    omega
  · skip
    have ic1 := i_ne c1
    have : (7 : Int32).toInt = 7 := (by decide)
    (try have := sp_rem (a := a1) (b := (7 : Int32)) (by omega) (by omega))
    have : (0 : Int) ≤ (v 36 0 2).toInt ∧ (v 36 0 2).toInt ≤ (6 : Int) := hI_v.1 36 0 2
    refine ok_grd _ ?_ ?_
    · skip
      have : (0 : Int) ≤ (v 36 0 3).toInt ∧ (v 36 0 3).toInt ≤ (6 : Int) := hI_v.1 36 0 3
      exact nz (by omega)
    refine ok_some ?_
    show (0 : Int) ≤ Int32.toInt (((v 36 0 0) + ((v 36 0 1) * a1)) - ((v 36 0 0) + ((v 36 0 1) * a1)) / (v 36 0 3) * (v 36 0 3)) ∧ Int32.toInt (((v 36 0 0) + ((v 36 0 1) * a1)) - ((v 36 0 0) + ((v 36 0 1) * a1)) / (v 36 0 3) * (v 36 0 3)) ≤ (5 : Int)
    have : (0 : Int) ≤ (v 36 0 0).toInt ∧ (v 36 0 0).toInt ≤ (9 : Int) := hI_v.1 36 0 0
    have : (0 : Int) ≤ (v 36 0 1).toInt ∧ (v 36 0 1).toInt ≤ (9 : Int) := hI_v.1 36 0 1
    have : 0 ≤ ((v 36 0 1) * a1).toInt ∧ ((v 36 0 1) * a1).toInt ≤ 9900 := sp_mulr 9 1100 (by omega) (by omega) (by omega) (by omega) (by omega)
    have := i_bd (v 36 0 0)
    (first | have := sp_addx (v 36 0 0) ((v 36 0 1) * a1) (by omega) | obtain ⟨k2, hk2⟩ := sp_add (v 36 0 0) ((v 36 0 1) * a1))
    have : (0 : Int) ≤ (v 36 0 3).toInt ∧ (v 36 0 3).toInt ≤ (6 : Int) := hI_v.1 36 0 3
    (try have := sp_rem (a := ((v 36 0 0) + ((v 36 0 1) * a1))) (b := (v 36 0 3)) (by omega) (by omega))
    omega
set_option maxHeartbeats 4000000 in
theorem k_X8_secretOf_38 (v : Mm) (hI_v : IM v) (a1 : Int32) (hx0 : 0 < Int32.toInt (v 38 0 3)) : ok (g_X8_secretOf_38 v a1) (fun z => True) := by
  unfold g_X8_secretOf_38
  try rw [tc_0]
  try rw [tc_1]
  try rw [tc_2]
  try rw [tc_3]
  refine ok_ite _ (fun c1 => ?_) (fun c1 => ?_)
  · skip
    have ic1 := i_eq c1
    have : (7 : Int32).toInt = 7 := (by decide)
    (try have := sp_rem (a := a1) (b := (7 : Int32)) (by omega) (by omega))
    refine ok_some ?_
    show True
    have : (0 : Int32).toInt = 0 := (by decide)
    trivial
  · skip
    have ic1 := i_ne c1
    have : (7 : Int32).toInt = 7 := (by decide)
    (try have := sp_rem (a := a1) (b := (7 : Int32)) (by omega) (by omega))
    refine ok_grd _ ?_ ?_
    · skip
      exact nz (by omega)
    refine ok_some ?_
    show True
    have := i_bd (v 38 0 0)
    (first | have := sp_addx (v 38 0 0) ((v 38 0 1) * a1) (by omega) | obtain ⟨k2, hk2⟩ := sp_add (v 38 0 0) ((v 38 0 1) * a1))
    (try have := sp_rem (a := ((v 38 0 0) + ((v 38 0 1) * a1))) (b := (v 38 0 3)) (by omega) (by omega))
    trivial
set_option maxHeartbeats 4000000 in
theorem k_X8_distance (v : Mm) (hI_v : IM v) (a1 : Int32) (a2 : Int32) (h_a1 : (0 : Int) ≤ a1.toInt ∧ a1.toInt ≤ (5 : Int)) (h_a2 : (0 : Int) ≤ a2.toInt ∧ a2.toInt ≤ (5 : Int)) : ok (g_X8_distance v a1 a2) (fun z => (0 : Int) ≤ Int32.toInt z ∧ Int32.toInt z ≤ (3 : Int)) := by
  have loop5 : ∀ (n5 : Nat) (x3_5 : Int32) (x4_5 : Int32), ((0 : Int) ≤ Int32.toInt x3_5 ∧ Int32.toInt x3_5 ≤ (3 : Int)) → ((0 : Int) ≤ Int32.toInt x4_5 ∧ Int32.toInt x4_5 ≤ (3 : Int)) → (Int32.toInt x3_5 ≤ Int32.toInt x4_5) → (3 - Int32.toInt x4_5 < (n5 : Int)) → ok (g_X8_distance_L5  v a1 a2 n5 x3_5 x4_5) (fun z => (0 : Int) ≤ Int32.toInt z ∧ Int32.toInt z ≤ (3 : Int)) := by
    intro n5
    induction n5 with
    | zero =>
      intro x3_5 x4_5 hv0_5 hv1_5 hv2_5 hm5
      exfalso
      omega
    | succ n5 ih5 =>
      intro x3_5 x4_5 hv0_5 hv1_5 hv2_5 hm5
      show ok (b_X8_distance_L5  (g_X8_distance_L5  v a1 a2 n5) v a1 a2 x3_5 x4_5) _
      unfold b_X8_distance_L5
      refine ok_ite _ (fun c1 => ?_) (fun c1 => ?_)
      · skip
        have ic1 := i_le c1
        have : (3 : Int32).toInt = 3 := (by decide)
        refine ok_some ?_
        show (0 : Int) ≤ Int32.toInt x3_5 ∧ Int32.toInt x3_5 ≤ (3 : Int)
        omega
      · skip
        have ic1 := i_nle c1
        have : (3 : Int32).toInt = 3 := (by decide)
        refine ok_grd _ ?_ ?_
        · skip
          have : (8 : Int32).toInt = 8 := (by decide)
          have : (3 : Int32).toInt = 3 := (by decide)
          (first | have := sp_cmulx (3 : Int32) a1 3 (by decide) (by omega) | obtain ⟨k1, hk1⟩ := sp_cmul (3 : Int32) a1 3 (by decide))
          (first | have := sp_addx (8 : Int32) ((3 : Int32) * a1) (by omega) | obtain ⟨k2, hk2⟩ := sp_add (8 : Int32) ((3 : Int32) * a1))
          have := i_bd x4_5
          (first | have := sp_addx ((8 : Int32) + ((3 : Int32) * a1)) x4_5 (by omega) | obtain ⟨k3, hk3⟩ := sp_add ((8 : Int32) + ((3 : Int32) * a1)) x4_5)
          exact gr (by omega) (by omega)
        refine ok_grd _ ?_ ?_
        · skip
          have : (8 : Int32).toInt = 8 := (by decide)
          have : (3 : Int32).toInt = 3 := (by decide)
          (first | have := sp_cmulx (3 : Int32) a2 3 (by decide) (by omega) | obtain ⟨k4, hk4⟩ := sp_cmul (3 : Int32) a2 3 (by decide))
          (first | have := sp_addx (8 : Int32) ((3 : Int32) * a2) (by omega) | obtain ⟨k5, hk5⟩ := sp_add (8 : Int32) ((3 : Int32) * a2))
          have := i_bd x4_5
          (first | have := sp_addx ((8 : Int32) + ((3 : Int32) * a2)) x4_5 (by omega) | obtain ⟨k6, hk6⟩ := sp_add ((8 : Int32) + ((3 : Int32) * a2)) x4_5)
          exact gr (by omega) (by omega)
        refine ok_ite _ (fun c4 => ?_) (fun c4 => ?_)
        · skip
          have ic4 := i_eq c4
          have : (8 : Int32).toInt = 8 := (by decide)
          have : (3 : Int32).toInt = 3 := (by decide)
          (first | have := sp_cmulx (3 : Int32) a1 3 (by decide) (by omega) | obtain ⟨k7, hk7⟩ := sp_cmul (3 : Int32) a1 3 (by decide))
          (first | have := sp_addx (8 : Int32) ((3 : Int32) * a1) (by omega) | obtain ⟨k8, hk8⟩ := sp_add (8 : Int32) ((3 : Int32) * a1))
          have := i_bd x4_5
          (first | have := sp_addx ((8 : Int32) + ((3 : Int32) * a1)) x4_5 (by omega) | obtain ⟨k9, hk9⟩ := sp_add ((8 : Int32) + ((3 : Int32) * a1)) x4_5)
          (try have := gw_w hI_v.1 (e := (((8 : Int32) + ((3 : Int32) * a1)) + x4_5)) (by omega) (by omega) (by omega))
          (try have := gw_g hI_v.1 (e := (((8 : Int32) + ((3 : Int32) * a1)) + x4_5)) (by omega) (by omega) (by omega))
          (first | have := sp_cmulx (3 : Int32) a2 3 (by decide) (by omega) | obtain ⟨k10, hk10⟩ := sp_cmul (3 : Int32) a2 3 (by decide))
          (first | have := sp_addx (8 : Int32) ((3 : Int32) * a2) (by omega) | obtain ⟨k11, hk11⟩ := sp_add (8 : Int32) ((3 : Int32) * a2))
          have := i_bd x4_5
          (first | have := sp_addx ((8 : Int32) + ((3 : Int32) * a2)) x4_5 (by omega) | obtain ⟨k12, hk12⟩ := sp_add ((8 : Int32) + ((3 : Int32) * a2)) x4_5)
          (try have := gw_w hI_v.1 (e := (((8 : Int32) + ((3 : Int32) * a2)) + x4_5)) (by omega) (by omega) (by omega))
          (try have := gw_g hI_v.1 (e := (((8 : Int32) + ((3 : Int32) * a2)) + x4_5)) (by omega) (by omega) (by omega))
          have : (0 : Int32).toInt = 0 := (by decide)
          have := i_bd x3_5
          (first | have := sp_addx x3_5 (0 : Int32) (by omega) | obtain ⟨k13, hk13⟩ := sp_add x3_5 (0 : Int32))
          have : (1 : Int32).toInt = 1 := (by decide)
          have := i_bd x4_5
          (first | have := sp_addx x4_5 (1 : Int32) (by omega) | obtain ⟨k14, hk14⟩ := sp_add x4_5 (1 : Int32))
          exact ih5 (x3_5 + 0) (x4_5 + 1) (by omega) (by omega) (by omega) (by omega)
        · skip
          have ic4 := i_ne c4
          have : (8 : Int32).toInt = 8 := (by decide)
          have : (3 : Int32).toInt = 3 := (by decide)
          (first | have := sp_cmulx (3 : Int32) a1 3 (by decide) (by omega) | obtain ⟨k15, hk15⟩ := sp_cmul (3 : Int32) a1 3 (by decide))
          (first | have := sp_addx (8 : Int32) ((3 : Int32) * a1) (by omega) | obtain ⟨k16, hk16⟩ := sp_add (8 : Int32) ((3 : Int32) * a1))
          have := i_bd x4_5
          (first | have := sp_addx ((8 : Int32) + ((3 : Int32) * a1)) x4_5 (by omega) | obtain ⟨k17, hk17⟩ := sp_add ((8 : Int32) + ((3 : Int32) * a1)) x4_5)
          (try have := gw_w hI_v.1 (e := (((8 : Int32) + ((3 : Int32) * a1)) + x4_5)) (by omega) (by omega) (by omega))
          (try have := gw_g hI_v.1 (e := (((8 : Int32) + ((3 : Int32) * a1)) + x4_5)) (by omega) (by omega) (by omega))
          (first | have := sp_cmulx (3 : Int32) a2 3 (by decide) (by omega) | obtain ⟨k18, hk18⟩ := sp_cmul (3 : Int32) a2 3 (by decide))
          (first | have := sp_addx (8 : Int32) ((3 : Int32) * a2) (by omega) | obtain ⟨k19, hk19⟩ := sp_add (8 : Int32) ((3 : Int32) * a2))
          have := i_bd x4_5
          (first | have := sp_addx ((8 : Int32) + ((3 : Int32) * a2)) x4_5 (by omega) | obtain ⟨k20, hk20⟩ := sp_add ((8 : Int32) + ((3 : Int32) * a2)) x4_5)
          (try have := gw_w hI_v.1 (e := (((8 : Int32) + ((3 : Int32) * a2)) + x4_5)) (by omega) (by omega) (by omega))
          (try have := gw_g hI_v.1 (e := (((8 : Int32) + ((3 : Int32) * a2)) + x4_5)) (by omega) (by omega) (by omega))
          have : (1 : Int32).toInt = 1 := (by decide)
          have := i_bd x3_5
          (first | have := sp_addx x3_5 (1 : Int32) (by omega) | obtain ⟨k21, hk21⟩ := sp_add x3_5 (1 : Int32))
          have := i_bd x4_5
          (first | have := sp_addx x4_5 (1 : Int32) (by omega) | obtain ⟨k22, hk22⟩ := sp_add x4_5 (1 : Int32))
          exact ih5 (x3_5 + 1) (x4_5 + 1) (by omega) (by omega) (by omega) (by omega)
  unfold g_X8_distance
  have : (0 : Int32).toInt = 0 := (by decide)
  exact loop5 2000 0 0 (by omega) (by omega) (by omega) (by omega)
set_option maxHeartbeats 4000000 in
theorem k_X8_lips (v : Mm) (hI_v : IM v) (a1 : Int32) (a2 : Int32) (h_a1 : (0 : Int) ≤ a1.toInt ∧ a1.toInt ≤ (5 : Int)) (h_a2 : (0 : Int) ≤ a2.toInt ∧ a2.toInt ≤ (5 : Int)) : ok (g_X8_lips v a1 a2) (fun z => (0 : Int) ≤ Int32.toInt z ∧ Int32.toInt z ≤ (3 : Int)) := by
  have loop5 : ∀ (n5 : Nat) (x3_5 : Int32) (x4_5 : Int32), ((0 : Int) ≤ Int32.toInt x3_5 ∧ Int32.toInt x3_5 ≤ (3 : Int)) → ((0 : Int) ≤ Int32.toInt x4_5 ∧ Int32.toInt x4_5 ≤ (3 : Int)) → (Int32.toInt x3_5 ≤ Int32.toInt x4_5) → (3 - Int32.toInt x4_5 < (n5 : Int)) → ok (g_X8_lips_L5  v a1 a2 n5 x3_5 x4_5) (fun z => (0 : Int) ≤ Int32.toInt z ∧ Int32.toInt z ≤ (3 : Int)) := by
    intro n5
    induction n5 with
    | zero =>
      intro x3_5 x4_5 hv0_5 hv1_5 hv2_5 hm5
      exfalso
      omega
    | succ n5 ih5 =>
      intro x3_5 x4_5 hv0_5 hv1_5 hv2_5 hm5
      show ok (b_X8_lips_L5  (g_X8_lips_L5  v a1 a2 n5) v a1 a2 x3_5 x4_5) _
      unfold b_X8_lips_L5
      refine ok_ite _ (fun c1 => ?_) (fun c1 => ?_)
      · skip
        have ic1 := i_le c1
        have : (3 : Int32).toInt = 3 := (by decide)
        refine ok_some ?_
        show (0 : Int) ≤ Int32.toInt x3_5 ∧ Int32.toInt x3_5 ≤ (3 : Int)
        omega
      · skip
        have ic1 := i_nle c1
        have : (3 : Int32).toInt = 3 := (by decide)
        refine ok_grd _ ?_ ?_
        · skip
          have : (8 : Int32).toInt = 8 := (by decide)
          have : (3 : Int32).toInt = 3 := (by decide)
          (first | have := sp_cmulx (3 : Int32) a1 3 (by decide) (by omega) | obtain ⟨k1, hk1⟩ := sp_cmul (3 : Int32) a1 3 (by decide))
          (first | have := sp_addx (8 : Int32) ((3 : Int32) * a1) (by omega) | obtain ⟨k2, hk2⟩ := sp_add (8 : Int32) ((3 : Int32) * a1))
          have := i_bd x4_5
          (first | have := sp_addx ((8 : Int32) + ((3 : Int32) * a1)) x4_5 (by omega) | obtain ⟨k3, hk3⟩ := sp_add ((8 : Int32) + ((3 : Int32) * a1)) x4_5)
          exact gr (by omega) (by omega)
        refine ok_grd _ ?_ ?_
        · skip
          have : (8 : Int32).toInt = 8 := (by decide)
          have : (3 : Int32).toInt = 3 := (by decide)
          (first | have := sp_cmulx (3 : Int32) a2 3 (by decide) (by omega) | obtain ⟨k4, hk4⟩ := sp_cmul (3 : Int32) a2 3 (by decide))
          (first | have := sp_addx (8 : Int32) ((3 : Int32) * a2) (by omega) | obtain ⟨k5, hk5⟩ := sp_add (8 : Int32) ((3 : Int32) * a2))
          have := i_bd x4_5
          (first | have := sp_addx ((8 : Int32) + ((3 : Int32) * a2)) x4_5 (by omega) | obtain ⟨k6, hk6⟩ := sp_add ((8 : Int32) + ((3 : Int32) * a2)) x4_5)
          exact gr (by omega) (by omega)
        refine ok_ite _ (fun c4 => ?_) (fun c4 => ?_)
        · skip
          have ic4 := i_eq c4
          have : (8 : Int32).toInt = 8 := (by decide)
          have : (3 : Int32).toInt = 3 := (by decide)
          (first | have := sp_cmulx (3 : Int32) a1 3 (by decide) (by omega) | obtain ⟨k7, hk7⟩ := sp_cmul (3 : Int32) a1 3 (by decide))
          (first | have := sp_addx (8 : Int32) ((3 : Int32) * a1) (by omega) | obtain ⟨k8, hk8⟩ := sp_add (8 : Int32) ((3 : Int32) * a1))
          have := i_bd x4_5
          (first | have := sp_addx ((8 : Int32) + ((3 : Int32) * a1)) x4_5 (by omega) | obtain ⟨k9, hk9⟩ := sp_add ((8 : Int32) + ((3 : Int32) * a1)) x4_5)
          (try have := gw_w hI_v.1 (e := (((8 : Int32) + ((3 : Int32) * a1)) + x4_5)) (by omega) (by omega) (by omega))
          (try have := gw_g hI_v.1 (e := (((8 : Int32) + ((3 : Int32) * a1)) + x4_5)) (by omega) (by omega) (by omega))
          have : (5 : Int32).toInt = 5 := (by decide)
          (try have := sp_rem (a := (v 36 0 (Int32.toNatClampNeg (((8 : Int32) + ((3 : Int32) * a1)) + x4_5)))) (b := (5 : Int32)) (by omega) (by omega))
          (first | have := sp_cmulx (3 : Int32) a2 3 (by decide) (by omega) | obtain ⟨k10, hk10⟩ := sp_cmul (3 : Int32) a2 3 (by decide))
          (first | have := sp_addx (8 : Int32) ((3 : Int32) * a2) (by omega) | obtain ⟨k11, hk11⟩ := sp_add (8 : Int32) ((3 : Int32) * a2))
          have := i_bd x4_5
          (first | have := sp_addx ((8 : Int32) + ((3 : Int32) * a2)) x4_5 (by omega) | obtain ⟨k12, hk12⟩ := sp_add ((8 : Int32) + ((3 : Int32) * a2)) x4_5)
          (try have := gw_w hI_v.1 (e := (((8 : Int32) + ((3 : Int32) * a2)) + x4_5)) (by omega) (by omega) (by omega))
          (try have := gw_g hI_v.1 (e := (((8 : Int32) + ((3 : Int32) * a2)) + x4_5)) (by omega) (by omega) (by omega))
          (try have := sp_rem (a := (v 36 0 (Int32.toNatClampNeg (((8 : Int32) + ((3 : Int32) * a2)) + x4_5)))) (b := (5 : Int32)) (by omega) (by omega))
          have : (1 : Int32).toInt = 1 := (by decide)
          have := i_bd x3_5
          (first | have := sp_addx x3_5 (1 : Int32) (by omega) | obtain ⟨k13, hk13⟩ := sp_add x3_5 (1 : Int32))
          have := i_bd x4_5
          (first | have := sp_addx x4_5 (1 : Int32) (by omega) | obtain ⟨k14, hk14⟩ := sp_add x4_5 (1 : Int32))
          exact ih5 (x3_5 + 1) (x4_5 + 1) (by omega) (by omega) (by omega) (by omega)
        · skip
          have ic4 := i_ne c4
          have : (8 : Int32).toInt = 8 := (by decide)
          have : (3 : Int32).toInt = 3 := (by decide)
          (first | have := sp_cmulx (3 : Int32) a1 3 (by decide) (by omega) | obtain ⟨k15, hk15⟩ := sp_cmul (3 : Int32) a1 3 (by decide))
          (first | have := sp_addx (8 : Int32) ((3 : Int32) * a1) (by omega) | obtain ⟨k16, hk16⟩ := sp_add (8 : Int32) ((3 : Int32) * a1))
          have := i_bd x4_5
          (first | have := sp_addx ((8 : Int32) + ((3 : Int32) * a1)) x4_5 (by omega) | obtain ⟨k17, hk17⟩ := sp_add ((8 : Int32) + ((3 : Int32) * a1)) x4_5)
          (try have := gw_w hI_v.1 (e := (((8 : Int32) + ((3 : Int32) * a1)) + x4_5)) (by omega) (by omega) (by omega))
          (try have := gw_g hI_v.1 (e := (((8 : Int32) + ((3 : Int32) * a1)) + x4_5)) (by omega) (by omega) (by omega))
          have : (5 : Int32).toInt = 5 := (by decide)
          (try have := sp_rem (a := (v 36 0 (Int32.toNatClampNeg (((8 : Int32) + ((3 : Int32) * a1)) + x4_5)))) (b := (5 : Int32)) (by omega) (by omega))
          (first | have := sp_cmulx (3 : Int32) a2 3 (by decide) (by omega) | obtain ⟨k18, hk18⟩ := sp_cmul (3 : Int32) a2 3 (by decide))
          (first | have := sp_addx (8 : Int32) ((3 : Int32) * a2) (by omega) | obtain ⟨k19, hk19⟩ := sp_add (8 : Int32) ((3 : Int32) * a2))
          have := i_bd x4_5
          (first | have := sp_addx ((8 : Int32) + ((3 : Int32) * a2)) x4_5 (by omega) | obtain ⟨k20, hk20⟩ := sp_add ((8 : Int32) + ((3 : Int32) * a2)) x4_5)
          (try have := gw_w hI_v.1 (e := (((8 : Int32) + ((3 : Int32) * a2)) + x4_5)) (by omega) (by omega) (by omega))
          (try have := gw_g hI_v.1 (e := (((8 : Int32) + ((3 : Int32) * a2)) + x4_5)) (by omega) (by omega) (by omega))
          (try have := sp_rem (a := (v 36 0 (Int32.toNatClampNeg (((8 : Int32) + ((3 : Int32) * a2)) + x4_5)))) (b := (5 : Int32)) (by omega) (by omega))
          have : (0 : Int32).toInt = 0 := (by decide)
          have := i_bd x3_5
          (first | have := sp_addx x3_5 (0 : Int32) (by omega) | obtain ⟨k21, hk21⟩ := sp_add x3_5 (0 : Int32))
          have : (1 : Int32).toInt = 1 := (by decide)
          have := i_bd x4_5
          (first | have := sp_addx x4_5 (1 : Int32) (by omega) | obtain ⟨k22, hk22⟩ := sp_add x4_5 (1 : Int32))
          exact ih5 (x3_5 + 0) (x4_5 + 1) (by omega) (by omega) (by omega) (by omega)
  unfold g_X8_lips
  have : (0 : Int32).toInt = 0 := (by decide)
  exact loop5 2000 0 0 (by omega) (by omega) (by omega) (by omega)
set_option maxHeartbeats 4000000 in
theorem k_X8_takesBy (v : Mm) (hI_v : IM v) (a1 : Int32) (a2 : Int32) (a3 : Int32) (a4 : Int32) (h_a2 : (0 : Int) ≤ a2.toInt ∧ a2.toInt ≤ (5 : Int)) (h_a3 : (0 : Int) ≤ a3.toInt ∧ a3.toInt ≤ (5 : Int)) : ok (g_X8_takesBy v a1 a2 a3 a4) (fun z => (0 : Int) ≤ Int32.toInt z ∧ Int32.toInt z ≤ (1 : Int)) := by
  unfold g_X8_takesBy
  refine ok_ite _ (fun c1 => ?_) (fun c1 => ?_)
  · skip
    have ic1 := i_eq c1
    have : (1 : Int32).toInt = 1 := (by decide)
    refine ok_bind (k_X8_distance v hI_v a2 a3 (by omega) (by omega)) (fun r3 hr3 => ?_)
    replace hr3 : (0 : Int) ≤ Int32.toInt r3 ∧ Int32.toInt r3 ≤ (3 : Int) := hr3
    obtain ⟨hr3_lo, hr3_hi⟩ := hr3
    refine ok_ite _ (fun c5 => ?_) (fun c5 => ?_)
    · skip
      have ic5 := i_eq c5
      have : (0 : Int32).toInt = 0 := (by decide)
      refine ok_some ?_
      show (0 : Int) ≤ Int32.toInt (1 : Int32) ∧ Int32.toInt (1 : Int32) ≤ (1 : Int)
      have : (1 : Int32).toInt = 1 := (by decide)
      omega
    · skip
      have ic5 := i_ne c5
      have : (0 : Int32).toInt = 0 := (by decide)
      refine ok_some ?_
      show (0 : Int) ≤ Int32.toInt (0 : Int32) ∧ Int32.toInt (0 : Int32) ≤ (1 : Int)
      have : (0 : Int32).toInt = 0 := (by decide)
      omega
  · skip
    have ic1 := i_ne c1
    have : (1 : Int32).toInt = 1 := (by decide)
    refine ok_ite _ (fun c6 => ?_) (fun c6 => ?_)
    · skip
      have ic6 := i_eq c6
      have : (2 : Int32).toInt = 2 := (by decide)
      refine ok_bind (k_X8_distance v hI_v a2 a3 (by omega) (by omega)) (fun r8 hr8 => ?_)
      replace hr8 : (0 : Int) ≤ Int32.toInt r8 ∧ Int32.toInt r8 ≤ (3 : Int) := hr8
      obtain ⟨hr8_lo, hr8_hi⟩ := hr8
      refine ok_ite _ (fun c10 => ?_) (fun c10 => ?_)
      · skip
        have ic10 := i_le c10
        have : (2 : Int32).toInt = 2 := (by decide)
        refine ok_some ?_
        show (0 : Int) ≤ Int32.toInt (0 : Int32) ∧ Int32.toInt (0 : Int32) ≤ (1 : Int)
        have : (0 : Int32).toInt = 0 := (by decide)
        omega
      · skip
        have ic10 := i_nle c10
        have : (2 : Int32).toInt = 2 := (by decide)
        refine ok_some ?_
        show (0 : Int) ≤ Int32.toInt (1 : Int32) ∧ Int32.toInt (1 : Int32) ≤ (1 : Int)
        have : (1 : Int32).toInt = 1 := (by decide)
        omega
    · skip
      have ic6 := i_ne c6
      have : (2 : Int32).toInt = 2 := (by decide)
      refine ok_ite _ (fun c11 => ?_) (fun c11 => ?_)
      · skip
        have ic11 := i_eq c11
        have : (3 : Int32).toInt = 3 := (by decide)
        refine ok_bind (k_X8_distance v hI_v a2 a3 (by omega) (by omega)) (fun r13 hr13 => ?_)
        replace hr13 : (0 : Int) ≤ Int32.toInt r13 ∧ Int32.toInt r13 ≤ (3 : Int) := hr13
        obtain ⟨hr13_lo, hr13_hi⟩ := hr13
        refine ok_ite _ (fun c15 => ?_) (fun c15 => ?_)
        · skip
          have ic15 := i_eq c15
          have : (0 : Int32).toInt = 0 := (by decide)
          refine ok_ite _ (fun c16 => ?_) (fun c16 => ?_)
          · skip
            have ic16 := i_eq c16
            have : (2 : Int32).toInt = 2 := (by decide)
            (try have := sp_rem (a := a4) (b := (2 : Int32)) (by omega) (by omega))
            have : (0 : Int32).toInt = 0 := (by decide)
            refine ok_some ?_
            show (0 : Int) ≤ Int32.toInt (1 : Int32) ∧ Int32.toInt (1 : Int32) ≤ (1 : Int)
            have : (1 : Int32).toInt = 1 := (by decide)
            omega
          · skip
            have ic16 := i_ne c16
            have : (2 : Int32).toInt = 2 := (by decide)
            (try have := sp_rem (a := a4) (b := (2 : Int32)) (by omega) (by omega))
            have : (0 : Int32).toInt = 0 := (by decide)
            refine ok_some ?_
            show (0 : Int) ≤ Int32.toInt (0 : Int32) ∧ Int32.toInt (0 : Int32) ≤ (1 : Int)
            have : (0 : Int32).toInt = 0 := (by decide)
            omega
        · skip
          have ic15 := i_ne c15
          have : (0 : Int32).toInt = 0 := (by decide)
          refine ok_some ?_
          show (0 : Int) ≤ Int32.toInt (0 : Int32) ∧ Int32.toInt (0 : Int32) ≤ (1 : Int)
          have : (0 : Int32).toInt = 0 := (by decide)
          omega
      · skip
        have ic11 := i_ne c11
        have : (3 : Int32).toInt = 3 := (by decide)
        refine ok_ite _ (fun c17 => ?_) (fun c17 => ?_)
        · skip
          have ic17 := i_eq c17
          have : (4 : Int32).toInt = 4 := (by decide)
          refine ok_bind (k_X8_lips v hI_v a2 a3 (by omega) (by omega)) (fun r19 hr19 => ?_)
          replace hr19 : (0 : Int) ≤ Int32.toInt r19 ∧ Int32.toInt r19 ≤ (3 : Int) := hr19
          obtain ⟨hr19_lo, hr19_hi⟩ := hr19
          refine ok_ite _ (fun c21 => ?_) (fun c21 => ?_)
          · skip
            have ic21 := i_eq c21
            have : (3 : Int32).toInt = 3 := (by decide)
            refine ok_some ?_
            show (0 : Int) ≤ Int32.toInt (1 : Int32) ∧ Int32.toInt (1 : Int32) ≤ (1 : Int)
            have : (1 : Int32).toInt = 1 := (by decide)
            omega
          · skip
            have ic21 := i_ne c21
            have : (3 : Int32).toInt = 3 := (by decide)
            refine ok_some ?_
            show (0 : Int) ≤ Int32.toInt (0 : Int32) ∧ Int32.toInt (0 : Int32) ≤ (1 : Int)
            have : (0 : Int32).toInt = 0 := (by decide)
            omega
        · skip
          have ic17 := i_ne c17
          have : (4 : Int32).toInt = 4 := (by decide)
          refine ok_bind (k_X8_lips v hI_v a2 a3 (by omega) (by omega)) (fun r23 hr23 => ?_)
          replace hr23 : (0 : Int) ≤ Int32.toInt r23 ∧ Int32.toInt r23 ≤ (3 : Int) := hr23
          obtain ⟨hr23_lo, hr23_hi⟩ := hr23
          refine ok_ite _ (fun c25 => ?_) (fun c25 => ?_)
          · skip
            have ic25 := i_le c25
            have : (1 : Int32).toInt = 1 := (by decide)
            refine ok_some ?_
            show (0 : Int) ≤ Int32.toInt (0 : Int32) ∧ Int32.toInt (0 : Int32) ≤ (1 : Int)
            have : (0 : Int32).toInt = 0 := (by decide)
            omega
          · skip
            have ic25 := i_nle c25
            have : (1 : Int32).toInt = 1 := (by decide)
            refine ok_some ?_
            show (0 : Int) ≤ Int32.toInt (1 : Int32) ∧ Int32.toInt (1 : Int32) ≤ (1 : Int)
            have : (1 : Int32).toInt = 1 := (by decide)
            omega
set_option maxHeartbeats 4000000 in
theorem k_X8_guardOn (v : Mm) (hI_v : IM v) (a1 : Int32) (a2 : Int32) (h_a1 : (0 : Int) ≤ a1.toInt ∧ a1.toInt ≤ (5 : Int)) (h_a2 : (0 : Int) ≤ a2.toInt ∧ a2.toInt ≤ (1100 : Int)) (hx0 : 0 < Int32.toInt (v 36 0 4)) : ok (g_X8_guardOn v a1 a2) (fun z => (0 : Int) ≤ Int32.toInt z ∧ Int32.toInt z ≤ (3 : Int)) := by
  have : ((v 36 0 3).toInt = 0 ∧ (v 36 0 4).toInt = 0) ∨ (0 < (v 36 0 3).toInt ∧ 0 < (v 36 0 4).toInt) := hI_v.2.1
  have : (0 : Int) ≤ (v 36 0 4).toInt ∧ (v 36 0 4).toInt ≤ (4 : Int) := hI_v.1 36 0 4
  unfold g_X8_guardOn
  try rw [tc_4]
  have : (0 : Int) ≤ (v 36 0 4).toInt ∧ (v 36 0 4).toInt ≤ (4 : Int) := hI_v.1 36 0 4
  refine ok_grd _ ?_ ?_
  · skip
    have : (0 : Int) ≤ (v 36 0 4).toInt ∧ (v 36 0 4).toInt ≤ (4 : Int) := hI_v.1 36 0 4
    exact nz (by omega)
  refine ok_some ?_
  show (0 : Int) ≤ Int32.toInt ((a2 + a1) - (a2 + a1) / (v 36 0 4) * (v 36 0 4)) ∧ Int32.toInt ((a2 + a1) - (a2 + a1) / (v 36 0 4) * (v 36 0 4)) ≤ (3 : Int)
  have := i_bd a2
  have := i_bd a1
  (first | have := sp_addx a2 a1 (by omega) | obtain ⟨k1, hk1⟩ := sp_add a2 a1)
  have : (0 : Int) ≤ (v 36 0 4).toInt ∧ (v 36 0 4).toInt ≤ (4 : Int) := hI_v.1 36 0 4
  (try have := sp_rem (a := (a2 + a1)) (b := (v 36 0 4)) (by omega) (by omega))
  omega
set_option maxHeartbeats 4000000 in
theorem k_X8_kindIn (v : Mm) (hI_v : IM v) (a1 : Int32) (h_a1 : (0 : Int) ≤ a1.toInt ∧ a1.toInt ≤ (3 : Int)) : ok (g_X8_kindIn v a1) (fun z => True) := by
  unfold g_X8_kindIn
  refine ok_grd _ ?_ ?_
  · skip
    have : (26 : Int32).toInt = 26 := (by decide)
    have : (3 : Int32).toInt = 3 := (by decide)
    (first | have := sp_cmulx (3 : Int32) a1 3 (by decide) (by omega) | obtain ⟨k1, hk1⟩ := sp_cmul (3 : Int32) a1 3 (by decide))
    (first | have := sp_addx (26 : Int32) ((3 : Int32) * a1) (by omega) | obtain ⟨k2, hk2⟩ := sp_add (26 : Int32) ((3 : Int32) * a1))
    exact gr (by omega) (by omega)
  refine ok_some ?_
  show True
  have : (26 : Int32).toInt = 26 := (by decide)
  have : (3 : Int32).toInt = 3 := (by decide)
  (first | have := sp_cmulx (3 : Int32) a1 3 (by decide) (by omega) | obtain ⟨k3, hk3⟩ := sp_cmul (3 : Int32) a1 3 (by decide))
  (first | have := sp_addx (26 : Int32) ((3 : Int32) * a1) (by omega) | obtain ⟨k4, hk4⟩ := sp_add (26 : Int32) ((3 : Int32) * a1))
  (try have := gw_w hI_v.1 (e := ((26 : Int32) + ((3 : Int32) * a1))) (by omega) (by omega) (by omega))
  (try have := gw_g hI_v.1 (e := ((26 : Int32) + ((3 : Int32) * a1))) (by omega) (by omega) (by omega))
  trivial
set_option maxHeartbeats 4000000 in
theorem k_X8_isTaken (v : Mm) (hI_v : IM v) (a1 : Int32) (a2 : Int32) (a3 : Int32) (a4 : Int32) (a5 : Int32) (h_a1 : (0 : Int) ≤ a1.toInt ∧ a1.toInt ≤ (5 : Int)) (h_a2 : (0 : Int) ≤ a2.toInt ∧ a2.toInt ≤ (5 : Int)) (h_a3 : (0 : Int) ≤ a3.toInt ∧ a3.toInt ≤ (1100 : Int)) (h_a5 : (0 : Int) ≤ a5.toInt ∧ a5.toInt ≤ (5 : Int)) (hx0 : 0 < Int32.toInt (v 36 0 4)) : ok (g_X8_isTaken v a1 a2 a3 a4 a5) (fun z => (0 : Int) ≤ Int32.toInt z ∧ Int32.toInt z ≤ (1 : Int)) := by
  have : ((v 36 0 3).toInt = 0 ∧ (v 36 0 4).toInt = 0) ∨ (0 < (v 36 0 3).toInt ∧ 0 < (v 36 0 4).toInt) := hI_v.2.1
  have : (0 : Int) ≤ (v 36 0 4).toInt ∧ (v 36 0 4).toInt ≤ (4 : Int) := hI_v.1 36 0 4
  unfold g_X8_isTaken
  have : (0 : Int) ≤ (v 36 0 4).toInt ∧ (v 36 0 4).toInt ≤ (4 : Int) := hI_v.1 36 0 4
  refine ok_bind (k_X8_guardOn v hI_v a2 a3 (by omega) (by omega) (by omega)) (fun r2 hr2 => ?_)
  replace hr2 : (0 : Int) ≤ Int32.toInt r2 ∧ Int32.toInt r2 ≤ (3 : Int) := hr2
  obtain ⟨hr2_lo, hr2_hi⟩ := hr2
  refine ok_bind (k_X8_has v hI_v a4 r2 ) (fun r5 hr5 => ?_)
  replace hr5 : (0 : Int) ≤ Int32.toInt r5 ∧ Int32.toInt r5 ≤ (1 : Int) := hr5
  obtain ⟨hr5_lo, hr5_hi⟩ := hr5
  refine ok_ite _ (fun c7 => ?_) (fun c7 => ?_)
  · skip
    have ic7 := i_eq c7
    have : (0 : Int32).toInt = 0 := (by decide)
    refine ok_some ?_
    show (0 : Int) ≤ Int32.toInt (0 : Int32) ∧ Int32.toInt (0 : Int32) ≤ (1 : Int)
    have : (0 : Int32).toInt = 0 := (by decide)
    omega
  · skip
    have ic7 : Int32.toInt r5 = 1 := one_of hr5_lo hr5_hi c7
    have : (0 : Int32).toInt = 0 := (by decide)
    refine ok_bind (k_X8_kindIn v hI_v r2 (by omega)) (fun r9 hr9 => ?_)
    clear hr9
    refine ok_bind (k_X8_takesBy v hI_v r9 a1 a5 a3 (by omega) (by omega)) (fun r12 hr12 => ?_)
    replace hr12 : (0 : Int) ≤ Int32.toInt r12 ∧ Int32.toInt r12 ≤ (1 : Int) := hr12
    obtain ⟨hr12_lo, hr12_hi⟩ := hr12
    refine ok_ite _ (fun c14 => ?_) (fun c14 => ?_)
    · skip
      have ic14 := i_eq c14
      have : (0 : Int32).toInt = 0 := (by decide)
      refine ok_some ?_
      show (0 : Int) ≤ Int32.toInt (0 : Int32) ∧ Int32.toInt (0 : Int32) ≤ (1 : Int)
      have : (0 : Int32).toInt = 0 := (by decide)
      omega
    · skip
      have ic14 : Int32.toInt r12 = 1 := one_of hr12_lo hr12_hi c14
      have : (0 : Int32).toInt = 0 := (by decide)
      refine ok_some ?_
      show (0 : Int) ≤ Int32.toInt (1 : Int32) ∧ Int32.toInt (1 : Int32) ≤ (1 : Int)
      have : (1 : Int32).toInt = 1 := (by decide)
      omega
set_option maxHeartbeats 4000000 in
theorem k_X8_isTakenNow (v : Mm) (hI_v : IM v) (a1 : Int32) (a2 : Int32) (a3 : Int32) (h_a1 : (0 : Int) ≤ a1.toInt ∧ a1.toInt ≤ (5 : Int)) (h_a2 : (0 : Int) ≤ a2.toInt ∧ a2.toInt ≤ (5 : Int)) (h_a3 : (0 : Int) ≤ a3.toInt ∧ a3.toInt ≤ (60 : Int)) (hx0 : 0 < Int32.toInt (v 36 0 3)) (hx1 : 0 < Int32.toInt (v 36 0 4)) : ok (g_X8_isTakenNow v a1 a2 a3) (fun z => (0 : Int) ≤ Int32.toInt z ∧ Int32.toInt z ≤ (1 : Int)) := by
  have : ((v 36 0 3).toInt = 0 ∧ (v 36 0 4).toInt = 0) ∨ (0 < (v 36 0 3).toInt ∧ 0 < (v 36 0 4).toInt) := hI_v.2.1
  have : (0 : Int) ≤ (v 36 0 3).toInt ∧ (v 36 0 3).toInt ≤ (6 : Int) := hI_v.1 36 0 3
  have : (0 : Int) ≤ (v 36 0 4).toInt ∧ (v 36 0 4).toInt ≤ (4 : Int) := hI_v.1 36 0 4
  unfold g_X8_isTakenNow
  try rw [tc_5]
  try rw [tc_6]
  have : (0 : Int) ≤ (v 36 0 3).toInt ∧ (v 36 0 3).toInt ≤ (6 : Int) := hI_v.1 36 0 3
  have : (0 : Int) ≤ (v 36 0 4).toInt ∧ (v 36 0 4).toInt ≤ (4 : Int) := hI_v.1 36 0 4
  refine ok_let (fun x1 ex1 => ?_)
  have : (0 : Int) ≤ (v 36 0 5).toInt ∧ (v 36 0 5).toInt ≤ (999 : Int) := hI_v.1 36 0 5
  have := i_bd (v 36 0 5)
  have := i_bd a3
  (first | have := sp_addx (v 36 0 5) a3 (by omega) | obtain ⟨k1, hk1⟩ := sp_add (v 36 0 5) a3)
  have := i_eq ex1
  refine ok_bind (k_X8_secretOf_36 v hI_v x1 (by omega) (by omega)) (fun r3 hr3 => ?_)
  replace hr3 : (0 : Int) ≤ Int32.toInt r3 ∧ Int32.toInt r3 ≤ (5 : Int) := hr3
  obtain ⟨hr3_lo, hr3_hi⟩ := hr3
  refine ok_bind (k_X8_isTaken v hI_v a1 a2 x1 (v 36 0 6) r3 (by omega) (by omega) (by omega) (by omega) (by omega)) (fun r6 hr6 => ?_)
  replace hr6 : (0 : Int) ≤ Int32.toInt r6 ∧ Int32.toInt r6 ≤ (1 : Int) := hr6
  obtain ⟨hr6_lo, hr6_hi⟩ := hr6
  refine ok_some ?_
  show (0 : Int) ≤ Int32.toInt r6 ∧ Int32.toInt r6 ≤ (1 : Int)
  omega
