set_option maxHeartbeats 4000000 in
theorem k_X8_isWell (v : Mm) (hI_v : IM v)  : ok (g_X8_isWell v ) (fun z => (0 : Int) ≤ Int32.toInt z ∧ Int32.toInt z ≤ (1 : Int) ∧ (0 ≤ Int32.toInt (v 30 0 8) + Int32.toInt z) ∧ (Int32.toInt (v 30 0 8) ≤ 100 - 101 * Int32.toInt z)) := by
  unfold g_X8_isWell
  refine ok_ite _ (fun c1 => ?_) (fun c1 => ?_)
  · skip
    have ic1 := i_le c1
    have : (-1 : Int) ≤ (v 30 0 8).toInt ∧ (v 30 0 8).toInt ≤ (100 : Int) := hI_v.1 30 0 8
    have : (0 : Int32).toInt = 0 := (by decide)
    refine ok_some ?_
    show (0 : Int) ≤ Int32.toInt (0 : Int32) ∧ Int32.toInt (0 : Int32) ≤ (1 : Int) ∧ (0 ≤ Int32.toInt (v 30 0 8) + Int32.toInt (0 : Int32)) ∧ (Int32.toInt (v 30 0 8) ≤ 100 - 101 * Int32.toInt (0 : Int32))
    have : (0 : Int32).toInt = 0 := (by decide)
    omega
  · skip
    have ic1 := i_nle c1
    have : (-1 : Int) ≤ (v 30 0 8).toInt ∧ (v 30 0 8).toInt ≤ (100 : Int) := hI_v.1 30 0 8
    have : (0 : Int32).toInt = 0 := (by decide)
    refine ok_some ?_
    show (0 : Int) ≤ Int32.toInt (1 : Int32) ∧ Int32.toInt (1 : Int32) ≤ (1 : Int) ∧ (0 ≤ Int32.toInt (v 30 0 8) + Int32.toInt (1 : Int32)) ∧ (Int32.toInt (v 30 0 8) ≤ 100 - 101 * Int32.toInt (1 : Int32))
    have : (1 : Int32).toInt = 1 := (by decide)
    omega
set_option maxHeartbeats 4000000 in
theorem k_X8_takes (v : Mm) (hI_v : IM v) (a1 : Int32) (a2 : Int32) (h_a1 : (0 : Int) ≤ a1.toInt ∧ a1.toInt ≤ (1 : Int)) : ok (g_X8_takes v a1 a2) (fun z => IM z.2 ∧ (Int32.toInt (z.2 37 0 3) = Int32.toInt (v 37 0 3)) ∧ (Int32.toInt (z.2 37 0 4) = Int32.toInt (v 37 0 4)) ∧ (Int32.toInt (v 30 0 8) ≤ Int32.toInt (z.2 30 0 8)) ∧ (0 ≤ Int32.toInt (z.2 30 0 8) + Int32.toInt a1)) := by
  unfold g_X8_takes
  refine ok_bind (k_X8_isWell v hI_v  ) (fun r2 hr2 => ?_)
  replace hr2 : (0 : Int) ≤ Int32.toInt r2 ∧ Int32.toInt r2 ≤ (1 : Int) ∧ (0 ≤ Int32.toInt (v 30 0 8) + Int32.toInt r2) ∧ (Int32.toInt (v 30 0 8) ≤ 100 - 101 * Int32.toInt r2) := hr2
  obtain ⟨hr2_lo, hr2_hi, hr2_p0, hr2_p1⟩ := hr2
  have : (-1 : Int) ≤ (v 30 0 8).toInt ∧ (v 30 0 8).toInt ≤ (100 : Int) := hI_v.1 30 0 8
  refine ok_ite _ (fun c4 => ?_) (fun c4 => ?_)
  · skip
    have ic4 := i_eq c4
    have : (0 : Int32).toInt = 0 := (by decide)
    refine ok_some ?_
    show IM v ∧ (Int32.toInt (v 37 0 3) = Int32.toInt (v 37 0 3)) ∧ (Int32.toInt (v 37 0 4) = Int32.toInt (v 37 0 4)) ∧ (Int32.toInt (v 30 0 8) ≤ Int32.toInt (v 30 0 8)) ∧ (0 ≤ Int32.toInt (v 30 0 8) + Int32.toInt a1)
    have : (0 : Int32).toInt = 0 := (by decide)
    refine ⟨hI_v, ?_⟩
    omega
  · skip
    have ic4 : Int32.toInt r2 = 1 := one_of hr2_lo hr2_hi c4
    have : (0 : Int32).toInt = 0 := (by decide)
    refine ok_ite _ (fun c5 => ?_) (fun c5 => ?_)
    · skip
      have ic5 := i_eq c5
      have : (0 : Int32).toInt = 0 := (by decide)
      refine ok_let (fun v6 ev6 => ?_)
      have hI_v6 : IM v6 := by
        rw [ev6]
        refine hI_v.upo (by decide) ?_
        show (-1 : Int) ≤ Int32.toInt (v 30 0 10) ∧ Int32.toInt (v 30 0 10) ≤ (100 : Int)
        have : (0 : Int) ≤ (v 30 0 10).toInt ∧ (v 30 0 10).toInt ≤ (100 : Int) := hI_v.1 30 0 10
        omega
      have := i_eq (show v6 30 0 7 = v 30 0 7 by rw [ev6]; exact up3_j (by decide))
      have := i_eq (show v6 30 0 8 = (v 30 0 10) by rw [ev6]; exact up3_s)
      have : (0 : Int) ≤ (v 30 0 10).toInt ∧ (v 30 0 10).toInt ≤ (100 : Int) := hI_v.1 30 0 10
      have := i_eq (show v6 30 0 10 = v 30 0 10 by rw [ev6]; exact up3_j (by decide))
      have := i_eq (show v6 30 0 12 = v 30 0 12 by rw [ev6]; exact up3_j (by decide))
      have := i_eq (show v6 37 0 3 = v 37 0 3 by rw [ev6]; exact up3_t (by decide))
      have := i_eq (show v6 37 0 4 = v 37 0 4 by rw [ev6]; exact up3_t (by decide))
      refine ok_let (fun v7 ev7 => ?_)
      have hI_v7 : IM v7 := by rw [ev7]; exact hI_v6.upo (by decide) (by have h9 := i_bd a2; exact ⟨h9.1, Int.le_of_lt_add_one h9.2⟩)
      have := i_eq (show v7 30 0 7 = a2 by rw [ev7]; exact up3_s)
      have := i_eq (show v7 30 0 8 = v6 30 0 8 by rw [ev7]; exact up3_j (by decide))
      have := i_eq (show v7 30 0 10 = v6 30 0 10 by rw [ev7]; exact up3_j (by decide))
      have := i_eq (show v7 30 0 12 = v6 30 0 12 by rw [ev7]; exact up3_j (by decide))
      have := i_eq (show v7 37 0 3 = v6 37 0 3 by rw [ev7]; exact up3_t (by decide))
      have := i_eq (show v7 37 0 4 = v6 37 0 4 by rw [ev7]; exact up3_t (by decide))
      refine ok_some ?_
      show IM v7 ∧ (Int32.toInt (v7 37 0 3) = Int32.toInt (v 37 0 3)) ∧ (Int32.toInt (v7 37 0 4) = Int32.toInt (v 37 0 4)) ∧ (Int32.toInt (v 30 0 8) ≤ Int32.toInt (v7 30 0 8)) ∧ (0 ≤ Int32.toInt (v7 30 0 8) + Int32.toInt a1)
      have : (0 : Int32).toInt = 0 := (by decide)
      refine ⟨hI_v7, ?_⟩
      omega
    · skip
      have ic5 := i_ne c5
      have : (0 : Int32).toInt = 0 := (by decide)
      refine ok_bind (k_X8_advances v hI_v  ) (fun v10 hr9 => ?_)
      replace hr9 : IM v10 ∧ (Int32.toInt (v10 37 0 3) = Int32.toInt (v 37 0 3)) ∧ (Int32.toInt (v10 37 0 4) = Int32.toInt (v 37 0 4)) ∧ (Int32.toInt (v10 30 0 8) = Int32.toInt (v 30 0 8)) := hr9
      obtain ⟨hI_v10, hr9_p0, hr9_p1, hr9_p2⟩ := hr9
      have : (0 : Int) ≤ (v 37 0 3).toInt ∧ (v 37 0 3).toInt ≤ (6 : Int) := hI_v.1 37 0 3
      have : (0 : Int) ≤ (v 37 0 4).toInt ∧ (v 37 0 4).toInt ≤ (4 : Int) := hI_v.1 37 0 4
      have : (-1 : Int) ≤ (v 30 0 8).toInt ∧ (v 30 0 8).toInt ≤ (100 : Int) := hI_v.1 30 0 8
      refine ok_some ?_
      show IM v10 ∧ (Int32.toInt (v10 37 0 3) = Int32.toInt (v 37 0 3)) ∧ (Int32.toInt (v10 37 0 4) = Int32.toInt (v 37 0 4)) ∧ (Int32.toInt (v 30 0 8) ≤ Int32.toInt (v10 30 0 8)) ∧ (0 ≤ Int32.toInt (v10 30 0 8) + Int32.toInt a1)
      refine ⟨hI_v10, ?_⟩
      omega
set_option maxHeartbeats 4000000 in
theorem k_X8_takesR (v : Mm) (hI_v : IM v) (a1 : Int32) (a2 : Int32) (h_a1 : (0 : Int) ≤ a1.toInt ∧ a1.toInt ≤ (1 : Int)) : ok (g_X8_takes v a1 a2) (fun z => IM z.2 ∧ (Int32.toInt (z.2 37 0 3) = Int32.toInt (v 37 0 3)) ∧ (Int32.toInt (z.2 37 0 4) = Int32.toInt (v 37 0 4)) ∧ (Int32.toInt (v 30 0 8) ≤ Int32.toInt (z.2 30 0 8)) ∧ (0 ≤ Int32.toInt (z.2 30 0 8) + Int32.toInt a1) ∧ (Int32.toInt (z.1) = 0 ∨ (Int32.toInt (z.1) = Int32.toInt (v 30 0 12) ∧ ¬ Int32.toInt a1 = 0))) := by
  unfold g_X8_takes
  refine ok_bind (k_X8_isWell v hI_v  ) (fun r2 hr2 => ?_)
  replace hr2 : (0 : Int) ≤ Int32.toInt r2 ∧ Int32.toInt r2 ≤ (1 : Int) ∧ (0 ≤ Int32.toInt (v 30 0 8) + Int32.toInt r2) ∧ (Int32.toInt (v 30 0 8) ≤ 100 - 101 * Int32.toInt r2) := hr2
  obtain ⟨hr2_lo, hr2_hi, hr2_p0, hr2_p1⟩ := hr2
  have : (-1 : Int) ≤ (v 30 0 8).toInt ∧ (v 30 0 8).toInt ≤ (100 : Int) := hI_v.1 30 0 8
  refine ok_ite _ (fun c4 => ?_) (fun c4 => ?_)
  · skip
    have ic4 := i_eq c4
    have : (0 : Int32).toInt = 0 := (by decide)
    refine ok_some ?_
    show IM v ∧ (Int32.toInt (v 37 0 3) = Int32.toInt (v 37 0 3)) ∧ (Int32.toInt (v 37 0 4) = Int32.toInt (v 37 0 4)) ∧ (Int32.toInt (v 30 0 8) ≤ Int32.toInt (v 30 0 8)) ∧ (0 ≤ Int32.toInt (v 30 0 8) + Int32.toInt a1) ∧ (Int32.toInt (0 : Int32) = 0 ∨ (Int32.toInt (0 : Int32) = Int32.toInt (v 30 0 12) ∧ ¬ Int32.toInt a1 = 0))
    have : (0 : Int32).toInt = 0 := (by decide)
    refine ⟨hI_v, ?_⟩
    omega
  · skip
    have ic4 : Int32.toInt r2 = 1 := one_of hr2_lo hr2_hi c4
    have : (0 : Int32).toInt = 0 := (by decide)
    refine ok_ite _ (fun c5 => ?_) (fun c5 => ?_)
    · skip
      have ic5 := i_eq c5
      have : (0 : Int32).toInt = 0 := (by decide)
      refine ok_let (fun v6 ev6 => ?_)
      have hI_v6 : IM v6 := by
        rw [ev6]
        refine hI_v.upo (by decide) ?_
        show (-1 : Int) ≤ Int32.toInt (v 30 0 10) ∧ Int32.toInt (v 30 0 10) ≤ (100 : Int)
        have : (0 : Int) ≤ (v 30 0 10).toInt ∧ (v 30 0 10).toInt ≤ (100 : Int) := hI_v.1 30 0 10
        omega
      have := i_eq (show v6 30 0 7 = v 30 0 7 by rw [ev6]; exact up3_j (by decide))
      have := i_eq (show v6 30 0 8 = (v 30 0 10) by rw [ev6]; exact up3_s)
      have : (0 : Int) ≤ (v 30 0 10).toInt ∧ (v 30 0 10).toInt ≤ (100 : Int) := hI_v.1 30 0 10
      have := i_eq (show v6 30 0 10 = v 30 0 10 by rw [ev6]; exact up3_j (by decide))
      have := i_eq (show v6 30 0 12 = v 30 0 12 by rw [ev6]; exact up3_j (by decide))
      have := i_eq (show v6 37 0 3 = v 37 0 3 by rw [ev6]; exact up3_t (by decide))
      have := i_eq (show v6 37 0 4 = v 37 0 4 by rw [ev6]; exact up3_t (by decide))
      refine ok_let (fun v7 ev7 => ?_)
      have hI_v7 : IM v7 := by rw [ev7]; exact hI_v6.upo (by decide) (by have h9 := i_bd a2; exact ⟨h9.1, Int.le_of_lt_add_one h9.2⟩)
      have := i_eq (show v7 30 0 7 = a2 by rw [ev7]; exact up3_s)
      have := i_eq (show v7 30 0 8 = v6 30 0 8 by rw [ev7]; exact up3_j (by decide))
      have := i_eq (show v7 30 0 10 = v6 30 0 10 by rw [ev7]; exact up3_j (by decide))
      have := i_eq (show v7 30 0 12 = v6 30 0 12 by rw [ev7]; exact up3_j (by decide))
      have := i_eq (show v7 37 0 3 = v6 37 0 3 by rw [ev7]; exact up3_t (by decide))
      have := i_eq (show v7 37 0 4 = v6 37 0 4 by rw [ev7]; exact up3_t (by decide))
      refine ok_some ?_
      show IM v7 ∧ (Int32.toInt (v7 37 0 3) = Int32.toInt (v 37 0 3)) ∧ (Int32.toInt (v7 37 0 4) = Int32.toInt (v 37 0 4)) ∧ (Int32.toInt (v 30 0 8) ≤ Int32.toInt (v7 30 0 8)) ∧ (0 ≤ Int32.toInt (v7 30 0 8) + Int32.toInt a1) ∧ (Int32.toInt (0 : Int32) = 0 ∨ (Int32.toInt (0 : Int32) = Int32.toInt (v 30 0 12) ∧ ¬ Int32.toInt a1 = 0))
      have : (0 : Int32).toInt = 0 := (by decide)
      refine ⟨hI_v7, ?_⟩
      omega
    · skip
      have ic5 := i_ne c5
      have : (0 : Int32).toInt = 0 := (by decide)
      refine ok_bind (k_X8_advances v hI_v  ) (fun v10 hr9 => ?_)
      replace hr9 : IM v10 ∧ (Int32.toInt (v10 37 0 3) = Int32.toInt (v 37 0 3)) ∧ (Int32.toInt (v10 37 0 4) = Int32.toInt (v 37 0 4)) ∧ (Int32.toInt (v10 30 0 8) = Int32.toInt (v 30 0 8)) := hr9
      obtain ⟨hI_v10, hr9_p0, hr9_p1, hr9_p2⟩ := hr9
      have : (0 : Int) ≤ (v 37 0 3).toInt ∧ (v 37 0 3).toInt ≤ (6 : Int) := hI_v.1 37 0 3
      have : (0 : Int) ≤ (v 37 0 4).toInt ∧ (v 37 0 4).toInt ≤ (4 : Int) := hI_v.1 37 0 4
      have : (-1 : Int) ≤ (v 30 0 8).toInt ∧ (v 30 0 8).toInt ≤ (100 : Int) := hI_v.1 30 0 8
      refine ok_some ?_
      show IM v10 ∧ (Int32.toInt (v10 37 0 3) = Int32.toInt (v 37 0 3)) ∧ (Int32.toInt (v10 37 0 4) = Int32.toInt (v 37 0 4)) ∧ (Int32.toInt (v 30 0 8) ≤ Int32.toInt (v10 30 0 8)) ∧ (0 ≤ Int32.toInt (v10 30 0 8) + Int32.toInt a1) ∧ (Int32.toInt (v 30 0 12) = 0 ∨ (Int32.toInt (v 30 0 12) = Int32.toInt (v 30 0 12) ∧ ¬ Int32.toInt a1 = 0))
      refine ⟨hI_v10, ?_⟩
      omega
set_option maxHeartbeats 4000000 in
theorem k_X8_figure (v : Mm) (hI_v : IM v) (a1 : Int32) (a2 : Int32) (h_a1 : (0 : Int) ≤ a1.toInt ∧ a1.toInt ≤ (0 : Int)) (h_a2 : (0 : Int) ≤ a2.toInt ∧ a2.toInt ≤ (9 : Int)) : ok (g_X8_figure v a1 a2) (fun z => IM z.2 ∧ (0 : Int) ≤ Int32.toInt (z.1) ∧ Int32.toInt (z.1) ≤ (9 : Int) ∧ (Int32.toInt (z.2 37 0 3) = Int32.toInt (v 37 0 3)) ∧ (Int32.toInt (z.2 37 0 4) = Int32.toInt (v 37 0 4)) ∧ (Int32.toInt (v 30 0 8) ≤ Int32.toInt (z.2 30 0 8)) ∧ (Int32.toInt (z.1) ≤ Int32.toInt a2)) := by
  unfold g_X8_figure
  refine ok_bind (k_X8_isWell v hI_v  ) (fun r2 hr2 => ?_)
  replace hr2 : (0 : Int) ≤ Int32.toInt r2 ∧ Int32.toInt r2 ≤ (1 : Int) ∧ (0 ≤ Int32.toInt (v 30 0 8) + Int32.toInt r2) ∧ (Int32.toInt (v 30 0 8) ≤ 100 - 101 * Int32.toInt r2) := hr2
  obtain ⟨hr2_lo, hr2_hi, hr2_p0, hr2_p1⟩ := hr2
  have : (-1 : Int) ≤ (v 30 0 8).toInt ∧ (v 30 0 8).toInt ≤ (100 : Int) := hI_v.1 30 0 8
  refine ok_ite _ (fun c4 => ?_) (fun c4 => ?_)
  · skip
    have ic4 := i_eq c4
    have : (0 : Int32).toInt = 0 := (by decide)
    refine ok_bind (k_X8_in v hI_v (v 30 0 12) a1 a2 ) (fun r6 hr6 => ?_)
    replace hr6 : (0 : Int) ≤ Int32.toInt r6 ∧ Int32.toInt r6 ≤ (1 : Int) ∧ (Int32.toInt r6 = 0 ∨ (Int32.toInt a1 ≤ Int32.toInt (v 30 0 12) ∧ Int32.toInt (v 30 0 12) ≤ Int32.toInt a2)) := hr6
    obtain ⟨hr6_lo, hr6_hi, hr6_p0⟩ := hr6
    refine ok_kb2 (k_X8_takesR v hI_v r6 2 (by omega)) (fun r9 v10 hr9 => ?_)
    replace hr9 : IM v10 ∧ (Int32.toInt (v10 37 0 3) = Int32.toInt (v 37 0 3)) ∧ (Int32.toInt (v10 37 0 4) = Int32.toInt (v 37 0 4)) ∧ (Int32.toInt (v 30 0 8) ≤ Int32.toInt (v10 30 0 8)) ∧ (0 ≤ Int32.toInt (v10 30 0 8) + Int32.toInt r6) ∧ (Int32.toInt r9 = 0 ∨ (Int32.toInt r9 = Int32.toInt (v 30 0 12) ∧ ¬ Int32.toInt r6 = 0)) := hr9
    obtain ⟨hI_v10, hr9_p0, hr9_p1, hr9_p2, hr9_p3, hr9_p4⟩ := hr9
    have : (0 : Int) ≤ (v 37 0 3).toInt ∧ (v 37 0 3).toInt ≤ (6 : Int) := hI_v.1 37 0 3
    have : (0 : Int) ≤ (v 37 0 4).toInt ∧ (v 37 0 4).toInt ≤ (4 : Int) := hI_v.1 37 0 4
    have : (-1 : Int) ≤ (v 30 0 8).toInt ∧ (v 30 0 8).toInt ≤ (100 : Int) := hI_v.1 30 0 8
    have : (2 : Int32).toInt = 2 := (by decide)
    refine ok_some ?_
    show IM v10 ∧ (0 : Int) ≤ Int32.toInt r9 ∧ Int32.toInt r9 ≤ (9 : Int) ∧ (Int32.toInt (v10 37 0 3) = Int32.toInt (v 37 0 3)) ∧ (Int32.toInt (v10 37 0 4) = Int32.toInt (v 37 0 4)) ∧ (Int32.toInt (v 30 0 8) ≤ Int32.toInt (v10 30 0 8)) ∧ (Int32.toInt r9 ≤ Int32.toInt a2)
    refine ⟨hI_v10, ?_⟩
    omega
  · skip
    have ic4 : Int32.toInt r2 = 1 := one_of hr2_lo hr2_hi c4
    have : (0 : Int32).toInt = 0 := (by decide)
    refine ok_ite _ (fun c11 => ?_) (fun c11 => ?_)
    · skip
      have ic11 := i_eq c11
      have : (0 : Int) ≤ (v 30 0 11).toInt ∧ (v 30 0 11).toInt ≤ (5 : Int) := hI_v.1 30 0 11
      have : (2 : Int32).toInt = 2 := (by decide)
      refine ok_bind (k_X8_in v hI_v (v 30 0 12) a1 a2 ) (fun r13 hr13 => ?_)
      replace hr13 : (0 : Int) ≤ Int32.toInt r13 ∧ Int32.toInt r13 ≤ (1 : Int) ∧ (Int32.toInt r13 = 0 ∨ (Int32.toInt a1 ≤ Int32.toInt (v 30 0 12) ∧ Int32.toInt (v 30 0 12) ≤ Int32.toInt a2)) := hr13
      obtain ⟨hr13_lo, hr13_hi, hr13_p0⟩ := hr13
      refine ok_kb2 (k_X8_takesR v hI_v r13 2 (by omega)) (fun r16 v17 hr16 => ?_)
      replace hr16 : IM v17 ∧ (Int32.toInt (v17 37 0 3) = Int32.toInt (v 37 0 3)) ∧ (Int32.toInt (v17 37 0 4) = Int32.toInt (v 37 0 4)) ∧ (Int32.toInt (v 30 0 8) ≤ Int32.toInt (v17 30 0 8)) ∧ (0 ≤ Int32.toInt (v17 30 0 8) + Int32.toInt r13) ∧ (Int32.toInt r16 = 0 ∨ (Int32.toInt r16 = Int32.toInt (v 30 0 12) ∧ ¬ Int32.toInt r13 = 0)) := hr16
      obtain ⟨hI_v17, hr16_p0, hr16_p1, hr16_p2, hr16_p3, hr16_p4⟩ := hr16
      have : (0 : Int) ≤ (v 37 0 3).toInt ∧ (v 37 0 3).toInt ≤ (6 : Int) := hI_v.1 37 0 3
      have : (0 : Int) ≤ (v 37 0 4).toInt ∧ (v 37 0 4).toInt ≤ (4 : Int) := hI_v.1 37 0 4
      have : (-1 : Int) ≤ (v 30 0 8).toInt ∧ (v 30 0 8).toInt ≤ (100 : Int) := hI_v.1 30 0 8
      have : (2 : Int32).toInt = 2 := (by decide)
      refine ok_some ?_
      show IM v17 ∧ (0 : Int) ≤ Int32.toInt r16 ∧ Int32.toInt r16 ≤ (9 : Int) ∧ (Int32.toInt (v17 37 0 3) = Int32.toInt (v 37 0 3)) ∧ (Int32.toInt (v17 37 0 4) = Int32.toInt (v 37 0 4)) ∧ (Int32.toInt (v 30 0 8) ≤ Int32.toInt (v17 30 0 8)) ∧ (Int32.toInt r16 ≤ Int32.toInt a2)
      refine ⟨hI_v17, ?_⟩
      omega
    · skip
      have ic11 := i_ne c11
      have : (0 : Int) ≤ (v 30 0 11).toInt ∧ (v 30 0 11).toInt ≤ (5 : Int) := hI_v.1 30 0 11
      have : (2 : Int32).toInt = 2 := (by decide)
      refine ok_kb2 (k_X8_takesR v hI_v 0 1 (by have : (0 : Int32).toInt = 0 := (by decide); omega)) (fun r19 v20 hr19 => ?_)
      replace hr19 : IM v20 ∧ (Int32.toInt (v20 37 0 3) = Int32.toInt (v 37 0 3)) ∧ (Int32.toInt (v20 37 0 4) = Int32.toInt (v 37 0 4)) ∧ (Int32.toInt (v 30 0 8) ≤ Int32.toInt (v20 30 0 8)) ∧ (0 ≤ Int32.toInt (v20 30 0 8) + Int32.toInt 0) ∧ (Int32.toInt r19 = 0 ∨ (Int32.toInt r19 = Int32.toInt (v 30 0 12) ∧ ¬ Int32.toInt 0 = 0)) := hr19
      obtain ⟨hI_v20, hr19_p0, hr19_p1, hr19_p2, hr19_p3, hr19_p4⟩ := hr19
      have : (0 : Int) ≤ (v 37 0 3).toInt ∧ (v 37 0 3).toInt ≤ (6 : Int) := hI_v.1 37 0 3
      have : (0 : Int) ≤ (v 37 0 4).toInt ∧ (v 37 0 4).toInt ≤ (4 : Int) := hI_v.1 37 0 4
      have : (-1 : Int) ≤ (v 30 0 8).toInt ∧ (v 30 0 8).toInt ≤ (100 : Int) := hI_v.1 30 0 8
      have : (0 : Int32).toInt = 0 := (by decide)
      have : (1 : Int32).toInt = 1 := (by decide)
      refine ok_some ?_
      show IM v20 ∧ (0 : Int) ≤ Int32.toInt r19 ∧ Int32.toInt r19 ≤ (9 : Int) ∧ (Int32.toInt (v20 37 0 3) = Int32.toInt (v 37 0 3)) ∧ (Int32.toInt (v20 37 0 4) = Int32.toInt (v 37 0 4)) ∧ (Int32.toInt (v 30 0 8) ≤ Int32.toInt (v20 30 0 8)) ∧ (Int32.toInt r19 ≤ Int32.toInt a2)
      refine ⟨hI_v20, ?_⟩
      omega
set_option maxHeartbeats 4000000 in
theorem k_X8_kindOf (v : Mm) (hI_v : IM v) (a0 : Int32) : ok (g_X8_kindOf v a0) (fun z => ((Int32.toInt z = 0 ∧ ¬ (Int32.toInt a0 = 107 ∨ Int32.toInt a0 = 115 ∨ Int32.toInt a0 = 101 ∨ Int32.toInt a0 = 100 ∨ Int32.toInt a0 = 103)) ∨ (1 ≤ Int32.toInt z ∧ (Int32.toInt a0 = 107 ∨ Int32.toInt a0 = 115 ∨ Int32.toInt a0 = 101 ∨ Int32.toInt a0 = 100 ∨ Int32.toInt a0 = 103)))) := by
  unfold g_X8_kindOf
  refine ok_ite _ (fun c1 => ?_) (fun c1 => ?_)
  · skip
    have ic1 := i_eq c1
    have : (107 : Int32).toInt = 107 := (by decide)
    refine ok_some ?_
    show ((Int32.toInt (1 : Int32) = 0 ∧ ¬ (Int32.toInt a0 = 107 ∨ Int32.toInt a0 = 115 ∨ Int32.toInt a0 = 101 ∨ Int32.toInt a0 = 100 ∨ Int32.toInt a0 = 103)) ∨ (1 ≤ Int32.toInt (1 : Int32) ∧ (Int32.toInt a0 = 107 ∨ Int32.toInt a0 = 115 ∨ Int32.toInt a0 = 101 ∨ Int32.toInt a0 = 100 ∨ Int32.toInt a0 = 103)))
    have : (1 : Int32).toInt = 1 := (by decide)
    omega
  · skip
    have ic1 := i_ne c1
    have : (107 : Int32).toInt = 107 := (by decide)
    refine ok_ite _ (fun c2 => ?_) (fun c2 => ?_)
    · skip
      have ic2 := i_eq c2
      have : (115 : Int32).toInt = 115 := (by decide)
      refine ok_some ?_
      show ((Int32.toInt (2 : Int32) = 0 ∧ ¬ (Int32.toInt a0 = 107 ∨ Int32.toInt a0 = 115 ∨ Int32.toInt a0 = 101 ∨ Int32.toInt a0 = 100 ∨ Int32.toInt a0 = 103)) ∨ (1 ≤ Int32.toInt (2 : Int32) ∧ (Int32.toInt a0 = 107 ∨ Int32.toInt a0 = 115 ∨ Int32.toInt a0 = 101 ∨ Int32.toInt a0 = 100 ∨ Int32.toInt a0 = 103)))
      have : (2 : Int32).toInt = 2 := (by decide)
      omega
    · skip
      have ic2 := i_ne c2
      have : (115 : Int32).toInt = 115 := (by decide)
      refine ok_ite _ (fun c3 => ?_) (fun c3 => ?_)
      · skip
        have ic3 := i_eq c3
        have : (101 : Int32).toInt = 101 := (by decide)
        refine ok_some ?_
        show ((Int32.toInt (3 : Int32) = 0 ∧ ¬ (Int32.toInt a0 = 107 ∨ Int32.toInt a0 = 115 ∨ Int32.toInt a0 = 101 ∨ Int32.toInt a0 = 100 ∨ Int32.toInt a0 = 103)) ∨ (1 ≤ Int32.toInt (3 : Int32) ∧ (Int32.toInt a0 = 107 ∨ Int32.toInt a0 = 115 ∨ Int32.toInt a0 = 101 ∨ Int32.toInt a0 = 100 ∨ Int32.toInt a0 = 103)))
        have : (3 : Int32).toInt = 3 := (by decide)
        omega
      · skip
        have ic3 := i_ne c3
        have : (101 : Int32).toInt = 101 := (by decide)
        refine ok_ite _ (fun c4 => ?_) (fun c4 => ?_)
        · skip
          have ic4 := i_eq c4
          have : (100 : Int32).toInt = 100 := (by decide)
          refine ok_some ?_
          show ((Int32.toInt (4 : Int32) = 0 ∧ ¬ (Int32.toInt a0 = 107 ∨ Int32.toInt a0 = 115 ∨ Int32.toInt a0 = 101 ∨ Int32.toInt a0 = 100 ∨ Int32.toInt a0 = 103)) ∨ (1 ≤ Int32.toInt (4 : Int32) ∧ (Int32.toInt a0 = 107 ∨ Int32.toInt a0 = 115 ∨ Int32.toInt a0 = 101 ∨ Int32.toInt a0 = 100 ∨ Int32.toInt a0 = 103)))
          have : (4 : Int32).toInt = 4 := (by decide)
          omega
        · skip
          have ic4 := i_ne c4
          have : (100 : Int32).toInt = 100 := (by decide)
          refine ok_ite _ (fun c5 => ?_) (fun c5 => ?_)
          · skip
            have ic5 := i_eq c5
            have : (103 : Int32).toInt = 103 := (by decide)
            refine ok_some ?_
            show ((Int32.toInt (5 : Int32) = 0 ∧ ¬ (Int32.toInt a0 = 107 ∨ Int32.toInt a0 = 115 ∨ Int32.toInt a0 = 101 ∨ Int32.toInt a0 = 100 ∨ Int32.toInt a0 = 103)) ∨ (1 ≤ Int32.toInt (5 : Int32) ∧ (Int32.toInt a0 = 107 ∨ Int32.toInt a0 = 115 ∨ Int32.toInt a0 = 101 ∨ Int32.toInt a0 = 100 ∨ Int32.toInt a0 = 103)))
            have : (5 : Int32).toInt = 5 := (by decide)
            omega
          · skip
            have ic5 := i_ne c5
            have : (103 : Int32).toInt = 103 := (by decide)
            refine ok_some ?_
            show ((Int32.toInt (0 : Int32) = 0 ∧ ¬ (Int32.toInt a0 = 107 ∨ Int32.toInt a0 = 115 ∨ Int32.toInt a0 = 101 ∨ Int32.toInt a0 = 100 ∨ Int32.toInt a0 = 103)) ∨ (1 ≤ Int32.toInt (0 : Int32) ∧ (Int32.toInt a0 = 107 ∨ Int32.toInt a0 = 115 ∨ Int32.toInt a0 = 101 ∨ Int32.toInt a0 = 100 ∨ Int32.toInt a0 = 103)))
            have : (0 : Int32).toInt = 0 := (by decide)
            omega
set_option maxHeartbeats 4000000 in
theorem k_X8_follows (v : Mm) (hI_v : IM v) (a1 : Int32) (a2 : Int32) (h_a1 : (0 : Int) ≤ a1.toInt ∧ a1.toInt ≤ (0 : Int)) (h_a2 : (0 : Int) ≤ a2.toInt ∧ a2.toInt ≤ (9 : Int)) : ok (g_X8_follows v a1 a2) (fun z => IM z.2 ∧ (0 : Int) ≤ Int32.toInt (z.1) ∧ Int32.toInt (z.1) ≤ (9 : Int) ∧ (Int32.toInt (z.2 37 0 3) = Int32.toInt (v 37 0 3)) ∧ (Int32.toInt (z.2 37 0 4) = Int32.toInt (v 37 0 4)) ∧ (Int32.toInt (v 30 0 8) ≤ Int32.toInt (z.2 30 0 8)) ∧ (Int32.toInt (z.1) ≤ Int32.toInt a2)) := by
  unfold g_X8_follows
  refine ok_ite _ (fun c1 => ?_) (fun c1 => ?_)
  · skip
    have ic1 := i_eq c1
    have : (0 : Int) ≤ (v 30 0 11).toInt ∧ (v 30 0 11).toInt ≤ (5 : Int) := hI_v.1 30 0 11
    have : (3 : Int32).toInt = 3 := (by decide)
    refine ok_kb2 (k_X8_takes v hI_v 1 1 (by have : (1 : Int32).toInt = 1 := (by decide); omega)) (fun r3 v4 hr3 => ?_)
    replace hr3 : IM v4 ∧ (Int32.toInt (v4 37 0 3) = Int32.toInt (v 37 0 3)) ∧ (Int32.toInt (v4 37 0 4) = Int32.toInt (v 37 0 4)) ∧ (Int32.toInt (v 30 0 8) ≤ Int32.toInt (v4 30 0 8)) ∧ (0 ≤ Int32.toInt (v4 30 0 8) + Int32.toInt 1) := hr3
    obtain ⟨hI_v4, hr3_p0, hr3_p1, hr3_p2, hr3_p3⟩ := hr3
    have : (0 : Int) ≤ (v 37 0 3).toInt ∧ (v 37 0 3).toInt ≤ (6 : Int) := hI_v.1 37 0 3
    have : (0 : Int) ≤ (v 37 0 4).toInt ∧ (v 37 0 4).toInt ≤ (4 : Int) := hI_v.1 37 0 4
    have : (-1 : Int) ≤ (v 30 0 8).toInt ∧ (v 30 0 8).toInt ≤ (100 : Int) := hI_v.1 30 0 8
    have : (1 : Int32).toInt = 1 := (by decide)
    refine ok_kb2 (k_X8_figure v4 hI_v4 a1 a2 (by omega) (by omega)) (fun r6 v7 hr6 => ?_)
    replace hr6 : IM v7 ∧ (0 : Int) ≤ Int32.toInt r6 ∧ Int32.toInt r6 ≤ (9 : Int) ∧ (Int32.toInt (v7 37 0 3) = Int32.toInt (v4 37 0 3)) ∧ (Int32.toInt (v7 37 0 4) = Int32.toInt (v4 37 0 4)) ∧ (Int32.toInt (v4 30 0 8) ≤ Int32.toInt (v7 30 0 8)) ∧ (Int32.toInt r6 ≤ Int32.toInt a2) := hr6
    obtain ⟨hI_v7, hr6_lo, hr6_hi, hr6_p0, hr6_p1, hr6_p2, hr6_p3⟩ := hr6
    have : (0 : Int) ≤ (v4 37 0 3).toInt ∧ (v4 37 0 3).toInt ≤ (6 : Int) := hI_v4.1 37 0 3
    have : (0 : Int) ≤ (v4 37 0 4).toInt ∧ (v4 37 0 4).toInt ≤ (4 : Int) := hI_v4.1 37 0 4
    have : (-1 : Int) ≤ (v4 30 0 8).toInt ∧ (v4 30 0 8).toInt ≤ (100 : Int) := hI_v4.1 30 0 8
    refine ok_some ?_
    show IM v7 ∧ (0 : Int) ≤ Int32.toInt r6 ∧ Int32.toInt r6 ≤ (9 : Int) ∧ (Int32.toInt (v7 37 0 3) = Int32.toInt (v 37 0 3)) ∧ (Int32.toInt (v7 37 0 4) = Int32.toInt (v 37 0 4)) ∧ (Int32.toInt (v 30 0 8) ≤ Int32.toInt (v7 30 0 8)) ∧ (Int32.toInt r6 ≤ Int32.toInt a2)
    refine ⟨hI_v7, ?_⟩
    omega
  · skip
    have ic1 := i_ne c1
    have : (0 : Int) ≤ (v 30 0 11).toInt ∧ (v 30 0 11).toInt ≤ (5 : Int) := hI_v.1 30 0 11
    have : (3 : Int32).toInt = 3 := (by decide)
    refine ok_kb2 (k_X8_takes v hI_v 0 1 (by have : (0 : Int32).toInt = 0 := (by decide); omega)) (fun r9 v10 hr9 => ?_)
    replace hr9 : IM v10 ∧ (Int32.toInt (v10 37 0 3) = Int32.toInt (v 37 0 3)) ∧ (Int32.toInt (v10 37 0 4) = Int32.toInt (v 37 0 4)) ∧ (Int32.toInt (v 30 0 8) ≤ Int32.toInt (v10 30 0 8)) ∧ (0 ≤ Int32.toInt (v10 30 0 8) + Int32.toInt 0) := hr9
    obtain ⟨hI_v10, hr9_p0, hr9_p1, hr9_p2, hr9_p3⟩ := hr9
    have : (0 : Int) ≤ (v 37 0 3).toInt ∧ (v 37 0 3).toInt ≤ (6 : Int) := hI_v.1 37 0 3
    have : (0 : Int) ≤ (v 37 0 4).toInt ∧ (v 37 0 4).toInt ≤ (4 : Int) := hI_v.1 37 0 4
    have : (-1 : Int) ≤ (v 30 0 8).toInt ∧ (v 30 0 8).toInt ≤ (100 : Int) := hI_v.1 30 0 8
    have : (0 : Int32).toInt = 0 := (by decide)
    have : (1 : Int32).toInt = 1 := (by decide)
    refine ok_kb2 (k_X8_figure v10 hI_v10 a1 a2 (by omega) (by omega)) (fun r12 v13 hr12 => ?_)
    replace hr12 : IM v13 ∧ (0 : Int) ≤ Int32.toInt r12 ∧ Int32.toInt r12 ≤ (9 : Int) ∧ (Int32.toInt (v13 37 0 3) = Int32.toInt (v10 37 0 3)) ∧ (Int32.toInt (v13 37 0 4) = Int32.toInt (v10 37 0 4)) ∧ (Int32.toInt (v10 30 0 8) ≤ Int32.toInt (v13 30 0 8)) ∧ (Int32.toInt r12 ≤ Int32.toInt a2) := hr12
    obtain ⟨hI_v13, hr12_lo, hr12_hi, hr12_p0, hr12_p1, hr12_p2, hr12_p3⟩ := hr12
    have : (0 : Int) ≤ (v10 37 0 3).toInt ∧ (v10 37 0 3).toInt ≤ (6 : Int) := hI_v10.1 37 0 3
    have : (0 : Int) ≤ (v10 37 0 4).toInt ∧ (v10 37 0 4).toInt ≤ (4 : Int) := hI_v10.1 37 0 4
    have : (-1 : Int) ≤ (v10 30 0 8).toInt ∧ (v10 30 0 8).toInt ≤ (100 : Int) := hI_v10.1 30 0 8
    refine ok_some ?_
    show IM v13 ∧ (0 : Int) ≤ Int32.toInt r12 ∧ Int32.toInt r12 ≤ (9 : Int) ∧ (Int32.toInt (v13 37 0 3) = Int32.toInt (v 37 0 3)) ∧ (Int32.toInt (v13 37 0 4) = Int32.toInt (v 37 0 4)) ∧ (Int32.toInt (v 30 0 8) ≤ Int32.toInt (v13 30 0 8)) ∧ (Int32.toInt r12 ≤ Int32.toInt a2)
    refine ⟨hI_v13, ?_⟩
    omega
set_option maxHeartbeats 4000000 in
theorem k_X8_isTold (v : Mm) (hI_v : IM v) (a1 : Int32) (a2 : Int32) (a3 : Int32) : ok (g_X8_isTold v a1 a2 a3) (fun z => (0 : Int) ≤ Int32.toInt z ∧ Int32.toInt z ≤ (1 : Int)) := by
  have loop6 : ∀ (n6 : Nat) (x4_6 : Int32) (x5_6 : Int32), ((0 : Int) ≤ Int32.toInt x4_6 ∧ Int32.toInt x4_6 ≤ (1 : Int)) → ((0 : Int) ≤ Int32.toInt x5_6 ∧ Int32.toInt x5_6 ≤ (6 : Int)) → (6 - Int32.toInt x5_6 < (n6 : Int)) → ok (g_X8_isTold_L6  v a1 a2 a3 n6 x4_6 x5_6) (fun z => (0 : Int) ≤ Int32.toInt z ∧ Int32.toInt z ≤ (1 : Int)) := by
    intro n6
    induction n6 with
    | zero =>
      intro x4_6 x5_6 hv0_6 hv1_6 hm6
      exfalso
      omega
    | succ n6 ih6 =>
      intro x4_6 x5_6 hv0_6 hv1_6 hm6
      show ok (b_X8_isTold_L6  (g_X8_isTold_L6  v a1 a2 a3 n6) v a1 a2 a3 x4_6 x5_6) _
      unfold b_X8_isTold_L6
      try rw [tc_3]
      refine ok_ite _ (fun c1 => ?_) (fun c1 => ?_)
      · skip
        have ic1 := i_le c1
        have : (0 : Int) ≤ (v 37 0 3).toInt ∧ (v 37 0 3).toInt ≤ (6 : Int) := hI_v.1 37 0 3
        refine ok_some ?_
        show (0 : Int) ≤ Int32.toInt x4_6 ∧ Int32.toInt x4_6 ≤ (1 : Int)
        omega
      · skip
        have ic1 := i_nle c1
        have : (0 : Int) ≤ (v 37 0 3).toInt ∧ (v 37 0 3).toInt ≤ (6 : Int) := hI_v.1 37 0 3
        refine ok_ite _ (fun c2 => ?_) (fun c2 => ?_)
        · skip
          have ic2 := i_eq c2
          have : (0 : Int32).toInt = 0 := (by decide)
          refine ok_grd _ ?_ ?_
          · skip
            have : (8 : Int32).toInt = 8 := (by decide)
            have : (3 : Int32).toInt = 3 := (by decide)
            (first | have := sp_cmulx (3 : Int32) x5_6 3 (by decide) (by omega) | obtain ⟨k1, hk1⟩ := sp_cmul (3 : Int32) x5_6 3 (by decide))
            (first | have := sp_addx (8 : Int32) ((3 : Int32) * x5_6) (by omega) | obtain ⟨k2, hk2⟩ := sp_add (8 : Int32) ((3 : Int32) * x5_6))
            exact gr (by omega) (by omega)
          refine ok_ite _ (fun c4 => ?_) (fun c4 => ?_)
          · skip
            have ic4 := i_eq c4
            refine ok_grd _ ?_ ?_
            · skip
              have : (8 : Int32).toInt = 8 := (by decide)
              have : (3 : Int32).toInt = 3 := (by decide)
              (first | have := sp_cmulx (3 : Int32) x5_6 3 (by decide) (by omega) | obtain ⟨k3, hk3⟩ := sp_cmul (3 : Int32) x5_6 3 (by decide))
              (first | have := sp_addx (8 : Int32) ((3 : Int32) * x5_6) (by omega) | obtain ⟨k4, hk4⟩ := sp_add (8 : Int32) ((3 : Int32) * x5_6))
              have : (1 : Int32).toInt = 1 := (by decide)
              (first | have := sp_addx ((8 : Int32) + ((3 : Int32) * x5_6)) (1 : Int32) (by omega) | obtain ⟨k5, hk5⟩ := sp_add ((8 : Int32) + ((3 : Int32) * x5_6)) (1 : Int32))
              exact gr (by omega) (by omega)
            refine ok_ite _ (fun c6 => ?_) (fun c6 => ?_)
            · skip
              have ic6 := i_eq c6
              refine ok_grd _ ?_ ?_
              · skip
                have : (8 : Int32).toInt = 8 := (by decide)
                have : (3 : Int32).toInt = 3 := (by decide)
                (first | have := sp_cmulx (3 : Int32) x5_6 3 (by decide) (by omega) | obtain ⟨k6, hk6⟩ := sp_cmul (3 : Int32) x5_6 3 (by decide))
                (first | have := sp_addx (8 : Int32) ((3 : Int32) * x5_6) (by omega) | obtain ⟨k7, hk7⟩ := sp_add (8 : Int32) ((3 : Int32) * x5_6))
                have : (2 : Int32).toInt = 2 := (by decide)
                (first | have := sp_addx ((8 : Int32) + ((3 : Int32) * x5_6)) (2 : Int32) (by omega) | obtain ⟨k8, hk8⟩ := sp_add ((8 : Int32) + ((3 : Int32) * x5_6)) (2 : Int32))
                exact gr (by omega) (by omega)
              refine ok_ite _ (fun c8 => ?_) (fun c8 => ?_)
              · skip
                have ic8 := i_eq c8
                have : (1 : Int32).toInt = 1 := (by decide)
                have := i_bd x5_6
                (first | have := sp_addx x5_6 (1 : Int32) (by omega) | obtain ⟨k9, hk9⟩ := sp_add x5_6 (1 : Int32))
                exact ih6 1 (x5_6 + 1) (by omega) (by omega) (by omega)
              · skip
                have ic8 := i_ne c8
                have : (0 : Int32).toInt = 0 := (by decide)
                have : (1 : Int32).toInt = 1 := (by decide)
                have := i_bd x5_6
                (first | have := sp_addx x5_6 (1 : Int32) (by omega) | obtain ⟨k10, hk10⟩ := sp_add x5_6 (1 : Int32))
                exact ih6 0 (x5_6 + 1) (by omega) (by omega) (by omega)
            · skip
              have ic6 := i_ne c6
              have : (0 : Int32).toInt = 0 := (by decide)
              have : (1 : Int32).toInt = 1 := (by decide)
              have := i_bd x5_6
              (first | have := sp_addx x5_6 (1 : Int32) (by omega) | obtain ⟨k11, hk11⟩ := sp_add x5_6 (1 : Int32))
              exact ih6 0 (x5_6 + 1) (by omega) (by omega) (by omega)
          · skip
            have ic4 := i_ne c4
            have : (0 : Int32).toInt = 0 := (by decide)
            have : (1 : Int32).toInt = 1 := (by decide)
            have := i_bd x5_6
            (first | have := sp_addx x5_6 (1 : Int32) (by omega) | obtain ⟨k12, hk12⟩ := sp_add x5_6 (1 : Int32))
            exact ih6 0 (x5_6 + 1) (by omega) (by omega) (by omega)
        · skip
          have ic2 := i_ne c2
          have : (0 : Int32).toInt = 0 := (by decide)
          have : (1 : Int32).toInt = 1 := (by decide)
          have := i_bd x5_6
          (first | have := sp_addx x5_6 (1 : Int32) (by omega) | obtain ⟨k13, hk13⟩ := sp_add x5_6 (1 : Int32))
          exact ih6 1 (x5_6 + 1) (by omega) (by omega) (by omega)
  unfold g_X8_isTold
  try rw [tc_3]
  have : (0 : Int32).toInt = 0 := (by decide)
  exact loop6 2000 0 0 (by omega) (by omega) (by omega)
set_option maxHeartbeats 4000000 in
theorem k_X8_letterOf (v : Mm) (hI_v : IM v)  : ok (g_X8_letterOf v ) (fun z => IM z.2 ∧ (Int32.toInt (z.2 37 0 3) = Int32.toInt (v 37 0 3)) ∧ (Int32.toInt (z.2 37 0 4) = Int32.toInt (v 37 0 4)) ∧ (Int32.toInt (v 30 0 8) ≤ Int32.toInt (z.2 30 0 8))) := by
  unfold g_X8_letterOf
  refine ok_ite _ (fun c1 => ?_) (fun c1 => ?_)
  · skip
    have ic1 := i_eq c1
    have : (0 : Int) ≤ (v 30 0 11).toInt ∧ (v 30 0 11).toInt ≤ (5 : Int) := hI_v.1 30 0 11
    have : (1 : Int32).toInt = 1 := (by decide)
    refine ok_kb2 (k_X8_takes v hI_v 1 1 (by have : (1 : Int32).toInt = 1 := (by decide); omega)) (fun r3 v4 hr3 => ?_)
    replace hr3 : IM v4 ∧ (Int32.toInt (v4 37 0 3) = Int32.toInt (v 37 0 3)) ∧ (Int32.toInt (v4 37 0 4) = Int32.toInt (v 37 0 4)) ∧ (Int32.toInt (v 30 0 8) ≤ Int32.toInt (v4 30 0 8)) ∧ (0 ≤ Int32.toInt (v4 30 0 8) + Int32.toInt 1) := hr3
    obtain ⟨hI_v4, hr3_p0, hr3_p1, hr3_p2, hr3_p3⟩ := hr3
    have : (0 : Int) ≤ (v 37 0 3).toInt ∧ (v 37 0 3).toInt ≤ (6 : Int) := hI_v.1 37 0 3
    have : (0 : Int) ≤ (v 37 0 4).toInt ∧ (v 37 0 4).toInt ≤ (4 : Int) := hI_v.1 37 0 4
    have : (-1 : Int) ≤ (v 30 0 8).toInt ∧ (v 30 0 8).toInt ≤ (100 : Int) := hI_v.1 30 0 8
    have : (1 : Int32).toInt = 1 := (by decide)
    refine ok_some ?_
    show IM v4 ∧ (Int32.toInt (v4 37 0 3) = Int32.toInt (v 37 0 3)) ∧ (Int32.toInt (v4 37 0 4) = Int32.toInt (v 37 0 4)) ∧ (Int32.toInt (v 30 0 8) ≤ Int32.toInt (v4 30 0 8))
    have : (97 : Int32).toInt = 97 := (by decide)
    have := i_bd r3
    (first | have := sp_subx r3 (97 : Int32) (by omega) | obtain ⟨k1, hk1⟩ := sp_sub r3 (97 : Int32))
    refine ⟨hI_v4, ?_⟩
    omega
  · skip
    have ic1 := i_ne c1
    have : (0 : Int) ≤ (v 30 0 11).toInt ∧ (v 30 0 11).toInt ≤ (5 : Int) := hI_v.1 30 0 11
    have : (1 : Int32).toInt = 1 := (by decide)
    refine ok_kb2 (k_X8_takes v hI_v 0 1 (by have : (0 : Int32).toInt = 0 := (by decide); omega)) (fun r6 v7 hr6 => ?_)
    replace hr6 : IM v7 ∧ (Int32.toInt (v7 37 0 3) = Int32.toInt (v 37 0 3)) ∧ (Int32.toInt (v7 37 0 4) = Int32.toInt (v 37 0 4)) ∧ (Int32.toInt (v 30 0 8) ≤ Int32.toInt (v7 30 0 8)) ∧ (0 ≤ Int32.toInt (v7 30 0 8) + Int32.toInt 0) := hr6
    obtain ⟨hI_v7, hr6_p0, hr6_p1, hr6_p2, hr6_p3⟩ := hr6
    have : (0 : Int) ≤ (v 37 0 3).toInt ∧ (v 37 0 3).toInt ≤ (6 : Int) := hI_v.1 37 0 3
    have : (0 : Int) ≤ (v 37 0 4).toInt ∧ (v 37 0 4).toInt ≤ (4 : Int) := hI_v.1 37 0 4
    have : (-1 : Int) ≤ (v 30 0 8).toInt ∧ (v 30 0 8).toInt ≤ (100 : Int) := hI_v.1 30 0 8
    have : (0 : Int32).toInt = 0 := (by decide)
    have : (1 : Int32).toInt = 1 := (by decide)
    refine ok_some ?_
    show IM v7 ∧ (Int32.toInt (v7 37 0 3) = Int32.toInt (v 37 0 3)) ∧ (Int32.toInt (v7 37 0 4) = Int32.toInt (v 37 0 4)) ∧ (Int32.toInt (v 30 0 8) ≤ Int32.toInt (v7 30 0 8))
    have : (97 : Int32).toInt = 97 := (by decide)
    have := i_bd r6
    (first | have := sp_subx r6 (97 : Int32) (by omega) | obtain ⟨k2, hk2⟩ := sp_sub r6 (97 : Int32))
    refine ⟨hI_v7, ?_⟩
    omega
